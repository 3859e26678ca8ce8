/-! CONTRACTS, laid by program -/
set_option maxHeartbeats 4000000 in
set_option maxRecDepth 100000 in
/-- ZonedLightLaw.areAlike(LZonedLight;LZonedLight;)Z -/
theorem c_L_areAlike (l : Launch) (G1 G2 : GG) (A1 A2 : Nat → Prop) (σ1 σ2 : St) (a : Nat → Int32) (b1 : Nat → Int32) (sn1 : Int32) (t1 : Nat) (tx1 : Nat → Int32) (b2 : Nat → Int32) (sn2 : Int32) (t2 : Nat) (tx2 : Nat → Int32) (hV1 : Vw σ1 a b1 sn1 t1 tx1) (hV2 : Vw σ2 a b2 sn2 t2 tx2) (hok : okA a) : M2 l yL_areAlike wsL_areAlike 8 183 G1 G2 A1 A2 σ1 σ2 [.ref (G1.1 5 0), .ref (G2.1 5 0)] (fun r (τ : W2) => r = nI 1 ∧ Vw τ.1 a b1 sn1 t1 tx1 ∧ Vw τ.2 a b2 sn2 t2 tx2) := by
  refine M2.on (by decide) rfl (Nat.le_of_ble_eq_true rfl) (fun pP eE sS mM args below meth cC ls hx hb hml hr hown hlk hts hE hw1 hw2 hS hl => ?_)
  have hl : lv_has ls 4 [(0, .ref (G1.1 5 0)), (1, .ref (G2.1 5 0))] := hl
  have hok1 := hok.1
  have hok2 := hok.1
  refine lv_aload_n hx hb dL_areAlike_0 rfl (lv_at hl 0 rfl) ?_
  refine g2_V1d (n := 0) (As := []) (rest := []) hx hb hml hown hts hE hw1 hw2 hS gL_areAlike_X5_meanShown (c_X5_meanShownV l G1 A1 _ hV1) rfl (by decide +kernel) ⟨Nat.le_of_ble_eq_true rfl, Nat.le_of_ble_eq_true rfl⟩ (Nat.zero_lt_one) rfl rfl rfl rfl hl.1 rfl (Nat.le_of_ble_eq_true rfl) ⟨Nat.le_of_ble_eq_true rfl, Nat.le_of_ble_eq_true rfl⟩ dL_areAlike_1 (fun x_1 τ_1 H locs hp_1 hw1 hw2 hS => ?_)
  obtain ⟨ex_1, hV1⟩ := hp_1
  refine lv_aload_n hx hb dL_areAlike_4 rfl (lv_at hl 1 rfl) ?_
  refine g2_V2d (n := 0) (As := []) (rest := [.double x_1]) hx hb hml hown hts hE hw1 hw2 hS gL_areAlike_X5_meanShown (c_X5_meanShownV l G2 A2 _ hV2) rfl (by decide +kernel) ⟨Nat.le_of_ble_eq_true rfl, Nat.le_of_ble_eq_true rfl⟩ (Nat.zero_lt_one) rfl rfl rfl rfl hl.1 rfl (Nat.le_of_ble_eq_true rfl) ⟨Nat.le_of_ble_eq_true rfl, Nat.le_of_ble_eq_true rfl⟩ dL_areAlike_5 (fun x_5 τ_5 H locs hp_5 hw1 hw2 hS => ?_)
  obtain ⟨ex_5, hV2⟩ := hp_5
  refine lv_dcmp hx hb dL_areAlike_8 ?_
  refine lv_topi (fun x_8 ex_8 => ?_)
  refine lv_if_ne (tgt := 53) hx hb dL_areAlike_9 (by decide) (fun c_9 => ?_) (fun c_9 => ?_)
  · exact absurd (by rw [ex_8, ex_1, ex_5]; exact mean_dcmp _) c_9
  · refine lv_aload_n hx hb dL_areAlike_12 rfl (lv_at hl 0 rfl) ?_
    refine g2_V1i (n := 0) (As := []) (rest := []) hx hb hml hown hts hE hw1 hw2 hS gL_areAlike_X5_restsIn (c_X5_restsInV l G1 A1 _ hV1 hok1) rfl (by decide +kernel) ⟨Nat.le_of_ble_eq_true rfl, Nat.le_of_ble_eq_true rfl⟩ (Nat.zero_lt_one) rfl rfl rfl rfl hl.1 rfl (Nat.le_of_ble_eq_true rfl) ⟨Nat.le_of_ble_eq_true rfl, Nat.le_of_ble_eq_true rfl⟩ dL_areAlike_13 (fun x_13 τ_13 H locs hp_13 hw1 hw2 hS => ?_)
    obtain ⟨ex_13, hV1⟩ := hp_13
    refine lv_aload_n hx hb dL_areAlike_16 rfl (lv_at hl 1 rfl) ?_
    refine g2_V2i (n := 0) (As := []) (rest := [.int x_13]) hx hb hml hown hts hE hw1 hw2 hS gL_areAlike_X5_restsIn (c_X5_restsInV l G2 A2 _ hV2 hok2) rfl (by decide +kernel) ⟨Nat.le_of_ble_eq_true rfl, Nat.le_of_ble_eq_true rfl⟩ (Nat.zero_lt_one) rfl rfl rfl rfl hl.1 rfl (Nat.le_of_ble_eq_true rfl) ⟨Nat.le_of_ble_eq_true rfl, Nat.le_of_ble_eq_true rfl⟩ dL_areAlike_17 (fun x_17 τ_17 H locs hp_17 hw1 hw2 hS => ?_)
    obtain ⟨ex_17, hV2⟩ := hp_17
    refine lv_icmp_ne (tgt := 53) hx hb dL_areAlike_20 (by decide) (fun c_20 => ?_) (fun c_20 => ?_)
    · exact absurd (ex_13.trans ex_17.symm) c_20
    · refine lv_aload_n hx hb dL_areAlike_23 rfl (lv_at hl 0 rfl) ?_
      refine g2_V1i (n := 0) (As := []) (rest := []) hx hb hml hown hts hE hw1 hw2 hS gL_areAlike_X5_bestRule (c_X5_bestRuleV l G1 A1 _ hV1 hok1) rfl (by decide +kernel) ⟨Nat.le_of_ble_eq_true rfl, Nat.le_of_ble_eq_true rfl⟩ (Nat.zero_lt_one) rfl rfl rfl rfl hl.1 rfl (Nat.le_of_ble_eq_true rfl) ⟨Nat.le_of_ble_eq_true rfl, Nat.le_of_ble_eq_true rfl⟩ dL_areAlike_24 (fun x_24 τ_24 H locs hp_24 hw1 hw2 hS => ?_)
      obtain ⟨ex_24, hV1⟩ := hp_24
      refine lv_aload_n hx hb dL_areAlike_27 rfl (lv_at hl 1 rfl) ?_
      refine g2_V2i (n := 0) (As := []) (rest := [.int x_24]) hx hb hml hown hts hE hw1 hw2 hS gL_areAlike_X5_bestRule (c_X5_bestRuleV l G2 A2 _ hV2 hok2) rfl (by decide +kernel) ⟨Nat.le_of_ble_eq_true rfl, Nat.le_of_ble_eq_true rfl⟩ (Nat.zero_lt_one) rfl rfl rfl rfl hl.1 rfl (Nat.le_of_ble_eq_true rfl) ⟨Nat.le_of_ble_eq_true rfl, Nat.le_of_ble_eq_true rfl⟩ dL_areAlike_28 (fun x_28 τ_28 H locs hp_28 hw1 hw2 hS => ?_)
      obtain ⟨ex_28, hV2⟩ := hp_28
      refine lv_icmp_ne (tgt := 53) hx hb dL_areAlike_31 (by decide) (fun c_31 => ?_) (fun c_31 => ?_)
      · exact absurd (ex_24.trans ex_28.symm) c_31
      · refine lv_aload_n hx hb dL_areAlike_34 rfl (lv_at hl 0 rfl) ?_
        refine lv_bipush (v := nI 7) hx hb dL_areAlike_35 (by decide) ?_
        refine g2_V1i (n := 1) (As := [.int (nI 7)]) (rest := []) hx hb hml hown hts hE hw1 hw2 hS gL_areAlike_X5_leastStep (c_X5_leastStepV l G1 A1 _ (nI 7) hV1 hok1) rfl (by decide +kernel) ⟨Nat.le_of_ble_eq_true rfl, Nat.le_of_ble_eq_true rfl⟩ (Nat.zero_lt_one) rfl rfl rfl rfl hl.1 rfl (Nat.le_of_ble_eq_true rfl) ⟨Nat.le_of_ble_eq_true rfl, Nat.le_of_ble_eq_true rfl⟩ dL_areAlike_37 (fun x_37 τ_37 H locs hp_37 hw1 hw2 hS => ?_)
        obtain ⟨ex_37, hV1⟩ := hp_37
        refine lv_aload_n hx hb dL_areAlike_40 rfl (lv_at hl 1 rfl) ?_
        refine lv_bipush (v := nI 7) hx hb dL_areAlike_41 (by decide) ?_
        refine g2_V2i (n := 1) (As := [.int (nI 7)]) (rest := [.int x_37]) hx hb hml hown hts hE hw1 hw2 hS gL_areAlike_X5_leastStep (c_X5_leastStepV l G2 A2 _ (nI 7) hV2 hok2) rfl (by decide +kernel) ⟨Nat.le_of_ble_eq_true rfl, Nat.le_of_ble_eq_true rfl⟩ (Nat.zero_lt_one) rfl rfl rfl rfl hl.1 rfl (Nat.le_of_ble_eq_true rfl) ⟨Nat.le_of_ble_eq_true rfl, Nat.le_of_ble_eq_true rfl⟩ dL_areAlike_43 (fun x_43 τ_43 H locs hp_43 hw1 hw2 hS => ?_)
        obtain ⟨ex_43, hV2⟩ := hp_43
        refine lv_icmp_ne (tgt := 53) hx hb dL_areAlike_46 (by decide) (fun c_46 => ?_) (fun c_46 => ?_)
        · exact absurd (ex_37.trans ex_43.symm) c_46
        · refine lv_iconst (v := nI 1) hx hb dL_areAlike_49 (by decide) ?_
          refine lv_goto (tgt := 54) hx hb dL_areAlike_50 (by decide) ?_
          refine lv_istore_n (lv' := [(2, .int (nI 1)), (0, .ref (G1.1 5 0)), (1, .ref (G2.1 5 0))]) hx hb dL_areAlike_54 rfl hl (by decide) rfl (fun ls hl => ?_)
          refine lv_iconst (v := nI 0) hx hb dL_areAlike_55 (by decide) ?_
          refine lv_istore_n (lv' := [(3, .int (nI 0)), (2, .int (nI 1)), (0, .ref (G1.1 5 0)), (1, .ref (G2.1 5 0))]) hx hb dL_areAlike_56 rfl hl (by decide) rfl (fun ls hl => ?_)
          have K_57 : ∀ (fuel : Nat) (k : Nat) (s1 : St) (s2 : St), (k ≤ 11) → (Vw s1 a b1 sn1 t1 tx1) → (Vw s2 a b2 sn2 t2 tx2) → 11 - k < fuel → ∀ (H : Heap) (locs : List Loc) (ls : Array Slot), Wcel G1 s1 H → Wcel G2 s2 H → va_S (bA A1 A2) sS.heap H locs → lv_has ls 4 [(0, .ref (G1.1 5 0)), (1, .ref (G2.1 5 0)), (2, .int (nI 1)), (3, .int (nI k))] → W pP l eE { frames := 8, cells := 0, slots := 0, locals := 183 } sS mM args below meth cC H locs 0 0 (MQ below (va_Qi (fun r (τ : W2) => r = nI 1 ∧ Vw τ.1 a b1 sn1 t1 tx1 ∧ Vw τ.2 a b2 sn2 t2 tx2) (fun τ t => LPw G1 G2 A1 A2 τ t) (bA A1 A2)) args sS 0 0 (bA A1 A2)) (F0 mM 57 ls []) := by
            intro fuel
            induction fuel with
            | zero =>
              intro k s1 s2 hk hV1 hV2 hfu
              exact absurd hfu (Nat.not_lt_zero _)
            | succ fuel K_57 =>
              intro k s1 s2 hk hV1 hV2 hfu H locs ls hw1 hw2 hS hl
              refine lv_iload_n hx hb dL_areAlike_57 rfl (lv_at hl 3 rfl) ?_
              refine lv_bipush (v := nI 11) hx hb dL_areAlike_58 (by decide) ?_
              refine n_cmp_ge (tgt := 92) hx hb dL_areAlike_60 (by decide) (by omega) (by omega) (fun c_60 => ?_) (fun c_60 => ?_)
              · refine lv_iconst (v := nI 0) hx hb dL_areAlike_92 (by decide) ?_
                refine lv_istore_n (lv' := [(3, .int (nI 0)), (0, .ref (G1.1 5 0)), (1, .ref (G2.1 5 0)), (2, .int (nI 1))]) hx hb dL_areAlike_93 rfl hl (by decide) rfl (fun ls hl => ?_)
                have K_94 : ∀ (fuel : Nat) (k : Nat) (s1 : St) (s2 : St), (k ≤ 162) → (Vw s1 a b1 sn1 t1 tx1) → (Vw s2 a b2 sn2 t2 tx2) → 162 - k < fuel → ∀ (H : Heap) (locs : List Loc) (ls : Array Slot), Wcel G1 s1 H → Wcel G2 s2 H → va_S (bA A1 A2) sS.heap H locs → lv_has ls 4 [(0, .ref (G1.1 5 0)), (1, .ref (G2.1 5 0)), (2, .int (nI 1)), (3, .int (nI k))] → W pP l eE { frames := 8, cells := 0, slots := 0, locals := 183 } sS mM args below meth cC H locs 0 0 (MQ below (va_Qi (fun r (τ : W2) => r = nI 1 ∧ Vw τ.1 a b1 sn1 t1 tx1 ∧ Vw τ.2 a b2 sn2 t2 tx2) (fun τ t => LPw G1 G2 A1 A2 τ t) (bA A1 A2)) args sS 0 0 (bA A1 A2)) (F0 mM 94 ls []) := by
                  intro fuel
                  induction fuel with
                  | zero =>
                    intro k s1 s2 hk hV1 hV2 hfu
                    exact absurd hfu (Nat.not_lt_zero _)
                  | succ fuel K_94 =>
                    intro k s1 s2 hk hV1 hV2 hfu H locs ls hw1 hw2 hS hl
                    refine lv_iload_n hx hb dL_areAlike_94 rfl (lv_at hl 3 rfl) ?_
                    refine lv_sipush (v := nI 162) hx hb dL_areAlike_95 (by decide) ?_
                    refine n_cmp_ge (tgt := 144) hx hb dL_areAlike_98 (by decide) (by omega) (by omega) (fun c_98 => ?_) (fun c_98 => ?_)
                    · refine lv_iload_n hx hb dL_areAlike_144 rfl (lv_at hl 2 rfl) ?_
                      refine g2_zret hx hb hr hlk hE hw1 hw2 hS rfl dL_areAlike_145 ?_
                      exact ⟨rfl, hV1, hV2⟩
                    · refine lv_iload_n hx hb dL_areAlike_101 rfl (lv_at hl 2 rfl) ?_
                      refine n_if_eq (tgt := 136) hx hb dL_areAlike_102 (by decide) (by omega) (fun c_102 => ?_) (fun c_102 => ?_)
                      · exact absurd c_102 (by decide)
                      · refine lv_aload_n hx hb dL_areAlike_105 rfl (lv_at hl 0 rfl) ?_
                        refine lv_iload_n hx hb dL_areAlike_106 rfl (lv_at hl 3 rfl) ?_
                        refine lv_bipush (v := nI 9) hx hb dL_areAlike_107 (by decide) ?_
                        refine n_idiv hx hb dL_areAlike_109 (by omega) (by omega) (by omega) ?_
                        refine lv_iload_n hx hb dL_areAlike_110 rfl (lv_at hl 3 rfl) ?_
                        refine lv_bipush (v := nI 9) hx hb dL_areAlike_111 (by decide) ?_
                        refine n_irem hx hb dL_areAlike_113 (by omega) (by omega) (by omega) ?_
                        refine g2_V1i (n := 2) (As := [.int (nI (k / 9)), .int (nI (k % 9))]) (rest := []) hx hb hml hown hts hE hw1 hw2 hS gL_areAlike_X5_zone (c_X5_zoneV l G1 A1 _ (nI (k / 9)) (nI (k % 9)) hV1 hok1) rfl (by decide +kernel) ⟨Nat.le_of_ble_eq_true rfl, Nat.le_of_ble_eq_true rfl⟩ (Nat.zero_lt_one) rfl rfl rfl rfl hl.1 rfl (Nat.le_of_ble_eq_true rfl) ⟨Nat.le_of_ble_eq_true rfl, Nat.le_of_ble_eq_true rfl⟩ dL_areAlike_114 (fun x_114 τ_114 H locs hp_114 hw1 hw2 hS => ?_)
                        obtain ⟨ex_114, hV1⟩ := hp_114
                        refine lv_aload_n hx hb dL_areAlike_117 rfl (lv_at hl 1 rfl) ?_
                        refine lv_iload_n hx hb dL_areAlike_118 rfl (lv_at hl 3 rfl) ?_
                        refine lv_bipush (v := nI 9) hx hb dL_areAlike_119 (by decide) ?_
                        refine n_idiv hx hb dL_areAlike_121 (by omega) (by omega) (by omega) ?_
                        refine lv_iload_n hx hb dL_areAlike_122 rfl (lv_at hl 3 rfl) ?_
                        refine lv_bipush (v := nI 9) hx hb dL_areAlike_123 (by decide) ?_
                        refine n_irem hx hb dL_areAlike_125 (by omega) (by omega) (by omega) ?_
                        refine g2_V2i (n := 2) (As := [.int (nI (k / 9)), .int (nI (k % 9))]) (rest := [.int x_114]) hx hb hml hown hts hE hw1 hw2 hS gL_areAlike_X5_zone (c_X5_zoneV l G2 A2 _ (nI (k / 9)) (nI (k % 9)) hV2 hok2) rfl (by decide +kernel) ⟨Nat.le_of_ble_eq_true rfl, Nat.le_of_ble_eq_true rfl⟩ (Nat.zero_lt_one) rfl rfl rfl rfl hl.1 rfl (Nat.le_of_ble_eq_true rfl) ⟨Nat.le_of_ble_eq_true rfl, Nat.le_of_ble_eq_true rfl⟩ dL_areAlike_126 (fun x_126 τ_126 H locs hp_126 hw1 hw2 hS => ?_)
                        obtain ⟨ex_126, hV2⟩ := hp_126
                        refine lv_icmp_ne (tgt := 136) hx hb dL_areAlike_129 (by decide) (fun c_129 => ?_) (fun c_129 => ?_)
                        · exact absurd (ex_114.trans ex_126.symm) c_129
                        · refine lv_iconst (v := nI 1) hx hb dL_areAlike_132 (by decide) ?_
                          refine lv_goto (tgt := 137) hx hb dL_areAlike_133 (by decide) ?_
                          refine lv_istore_n (lv' := [(2, .int (nI 1)), (0, .ref (G1.1 5 0)), (1, .ref (G2.1 5 0)), (3, .int (nI k))]) hx hb dL_areAlike_137 rfl hl (by decide) rfl (fun ls hl => ?_)
                          refine lv_iinc (v := nI (k + 1)) (lv' := [(3, .int (nI (k + 1))), (2, .int (nI 1)), (0, .ref (G1.1 5 0)), (1, .ref (G2.1 5 0))]) hx hb dL_areAlike_138 hl (k := 3) rfl (nI_add _ _) (by decide) rfl (fun ls hl => ?_)
                          refine lv_goto (tgt := 94) hx hb dL_areAlike_141 (by decide) ?_
                          exact K_94 (k + 1) _ _ (by first | omega | assumption | rfl) hV1 hV2 (by omega) _ _ _ hw1 hw2 hS (lv_sub hl [2, 3, 1, 0] rfl)
                exact K_94 (162 - 0 + 1) 0 _ _ (by first | omega | assumption | rfl) hV1 hV2 (Nat.lt_succ_self _) _ _ _ hw1 hw2 hS (lv_sub hl [1, 2, 3, 0] rfl)
              · refine lv_iload_n hx hb dL_areAlike_63 rfl (lv_at hl 2 rfl) ?_
                refine n_if_eq (tgt := 84) hx hb dL_areAlike_64 (by decide) (by omega) (fun c_64 => ?_) (fun c_64 => ?_)
                · exact absurd c_64 (by decide)
                · refine lv_aload_n hx hb dL_areAlike_67 rfl (lv_at hl 0 rfl) ?_
                  refine lv_iload_n hx hb dL_areAlike_68 rfl (lv_at hl 3 rfl) ?_
                  refine g2_V1i (n := 1) (As := [.int (nI k)]) (rest := []) hx hb hml hown hts hE hw1 hw2 hS gL_areAlike_X5_count (c_X5_countV l G1 A1 _ (nI k) hV1 hok1) rfl (by decide +kernel) ⟨Nat.le_of_ble_eq_true rfl, Nat.le_of_ble_eq_true rfl⟩ (Nat.zero_lt_one) rfl rfl rfl rfl hl.1 rfl (Nat.le_of_ble_eq_true rfl) ⟨Nat.le_of_ble_eq_true rfl, Nat.le_of_ble_eq_true rfl⟩ dL_areAlike_69 (fun x_69 τ_69 H locs hp_69 hw1 hw2 hS => ?_)
                  obtain ⟨ex_69, hV1⟩ := hp_69
                  obtain ⟨n_69, ex_69⟩ := ex_69
                  refine lv_aload_n hx hb dL_areAlike_72 rfl (lv_at hl 1 rfl) ?_
                  refine lv_iload_n hx hb dL_areAlike_73 rfl (lv_at hl 3 rfl) ?_
                  refine g2_V2i (n := 1) (As := [.int (nI k)]) (rest := [.int x_69]) hx hb hml hown hts hE hw1 hw2 hS gL_areAlike_X5_count (c_X5_countV l G2 A2 _ (nI k) hV2 hok2) rfl (by decide +kernel) ⟨Nat.le_of_ble_eq_true rfl, Nat.le_of_ble_eq_true rfl⟩ (Nat.zero_lt_one) rfl rfl rfl rfl hl.1 rfl (Nat.le_of_ble_eq_true rfl) ⟨Nat.le_of_ble_eq_true rfl, Nat.le_of_ble_eq_true rfl⟩ dL_areAlike_74 (fun x_74 τ_74 H locs hp_74 hw1 hw2 hS => ?_)
                  obtain ⟨ex_74, hV2⟩ := hp_74
                  obtain ⟨n_74, ex_74⟩ := ex_74
                  refine lv_icmp_ne (tgt := 84) hx hb dL_areAlike_77 (by decide) (fun c_77 => ?_) (fun c_77 => ?_)
                  · exact absurd (ex_69.trans (Eq.trans (cq_same c_60) ex_74.symm)) c_77
                  · refine lv_iconst (v := nI 1) hx hb dL_areAlike_80 (by decide) ?_
                    refine lv_goto (tgt := 85) hx hb dL_areAlike_81 (by decide) ?_
                    refine lv_istore_n (lv' := [(2, .int (nI 1)), (0, .ref (G1.1 5 0)), (1, .ref (G2.1 5 0)), (3, .int (nI k))]) hx hb dL_areAlike_85 rfl hl (by decide) rfl (fun ls hl => ?_)
                    refine lv_iinc (v := nI (k + 1)) (lv' := [(3, .int (nI (k + 1))), (2, .int (nI 1)), (0, .ref (G1.1 5 0)), (1, .ref (G2.1 5 0))]) hx hb dL_areAlike_86 hl (k := 3) rfl (nI_add _ _) (by decide) rfl (fun ls hl => ?_)
                    refine lv_goto (tgt := 57) hx hb dL_areAlike_89 (by decide) ?_
                    exact K_57 (k + 1) _ _ (by first | omega | assumption | rfl) hV1 hV2 (by omega) _ _ _ hw1 hw2 hS (lv_sub hl [2, 3, 1, 0] rfl)
          exact K_57 (11 - 0 + 1) 0 _ _ (by first | omega | assumption | rfl) hV1 hV2 (Nat.lt_succ_self _) _ _ _ hw1 hw2 hS (lv_sub hl [2, 3, 1, 0] rfl)
