/-! THE LAW, laid by program -/
set_option maxHeartbeats 16000000 in
set_option maxRecDepth 100000 in
/-- the law's loop -/
theorem law_loop (l : Launch) {pP : Program} {eE : Env} {sS : State} {mM : MethodId} {below : List Frame} {meth : Method} {cC : Code} {b L : Nat} {xs : Nat → Int32} (hL : L ≤ 260) (C0 : lw_At pP sS mM meth cC b L xs) (G1 G2 : GG) (A1 A2 : Nat → Prop) (hbA : ¬ bA A1 A2 b) (hAs : ∀ q, bA A1 A2 q → sS.heap.size ≤ q) (hE : E2 G1 G2 A1 A2 sS sS.heap) (σ1 σ2 : St) (hI00 : Iv 0 σ1 σ2) (H : Heap) (locs : List Loc) (ls : Array Slot) (hw1 : Wcel G1 σ1 H) (hw2 : Wcel G2 σ2 H) (hS : va_S (bA A1 A2) sS.heap H locs) (hl : lv_has ls 5 [(0, .ref b), (1, .ref (G1.1 5 0)), (2, .ref (G2.1 5 0)), (3, .int (nI 1)), (4, .int (nI 0))]) : W pP l eE room_1 sS mM #[Value.ref b] below meth cC H locs 92 5628 (lw_Z below #[Value.ref b] sS) (F0 mM 21 ls []) := by
  obtain ⟨hx, hb, hr, hml, hown, hts0, hX, hbl, hlocks, hgv⟩ := id C0
  have hts : ∀ w ∈ wsL_law, w.before #[Value.ref b] sS = true := fun w h => hts0 w (wsL_law_in w h)
  have hown : sS.vm.findClass RL = some mM.cls := hown
  have hb : cC.code = cL_law := hb
  have K_21 : ∀ (fuel : Nat) (k : Nat) (s1 : St) (s2 : St), (k ≤ 40) → (Iv (k * 183600) s1 s2) → 40 - k < fuel → ∀ (H : Heap) (locs : List Loc) (ls : Array Slot), Wcel G1 s1 H → Wcel G2 s2 H → va_S (bA A1 A2) sS.heap H locs → lv_has ls 5 [(0, .ref b), (1, .ref (G1.1 5 0)), (2, .ref (G2.1 5 0)), (3, .int (nI 1)), (4, .int (nI k))] → W pP l eE room_1 sS mM #[Value.ref b] below meth cC H locs 92 5628 (lw_Z below #[Value.ref b] sS) (F0 mM 21 ls []) := by
    intro fuel
    induction fuel with
    | zero =>
      intro k s1 s2 hk hI hfu
      exact absurd hfu (Nat.not_lt_zero _)
    | succ fuel K_21 =>
      intro k s1 s2 hk hI hfu H locs ls hw1 hw2 hS hl
      obtain ⟨a, b0, sn, t1, t2, tx1, tx2, hV1, hV2, hoka, hokb, hsn, hfa, hfb⟩ := hI
      have hok1 := hoka
      have hok := hoka
      refine lv_iload hx hb dL_law_21 (lv_at hl 4 rfl) ?_
      refine lv_bipush (v := nI 40) hx hb dL_law_23 (by decide) ?_
      refine n_cmp_ge (tgt := 82) hx hb dL_law_25 (by decide) (by omega) (by omega) (fun c_25 => ?_) (fun c_25 => ?_)
      · refine lv_iload_n hx hb dL_law_82 rfl (lv_at hl 3 rfl) ?_
        refine n_if_eq (tgt := 105) hx hb dL_law_83 (by decide) (by omega) (fun c_83 => ?_) (fun c_83 => ?_)
        · exact absurd c_83 (by decide)
        · refine lv_aload_n hx hb dL_law_86 rfl (lv_at hl 1 rfl) ?_
          refine g2_S1i (n := 1) (As := [.ref (G1.1 5 0)]) (rest := []) hx hb hml hown hts hE hw1 hw2 hS gL_law_L_isWell (c_L_isWell l G1 A1 _ _ _ _ _ _ hV1 hok1) rfl (by decide +kernel) ⟨Nat.le_of_ble_eq_true rfl, Nat.le_of_ble_eq_true rfl⟩ rfl hl.1 rfl (Nat.le_of_ble_eq_true rfl) ⟨Nat.le_of_ble_eq_true rfl, Nat.le_of_ble_eq_true rfl⟩ dL_law_87 (fun x_87 τ_87 H locs hp_87 hw1 hw2 hS => ?_)
          obtain ⟨ex_87, hV1⟩ := hp_87
          refine lv_if_eq (tgt := 105) hx hb dL_law_90 (by decide) (fun c_90 => ?_) (fun c_90 => ?_)
          · exact absurd (ex_87.symm.trans c_90) (by decide)
          · refine lv_aload_n hx hb dL_law_93 rfl (lv_at hl 1 rfl) ?_
            refine lv_aload_n hx hb dL_law_94 rfl (lv_at hl 2 rfl) ?_
            refine g2_Si (n := 2) (As := [.ref (G1.1 5 0), .ref (G2.1 5 0)]) (rest := []) hx hb hml hown hts hE hw1 hw2 hS gL_law_L_areAlike (c_L_areAlike l G1 G2 A1 A2 _ _ _ _ _ _ _ _ _ _ _ hV1 hV2 hok) rfl (by decide +kernel) ⟨Nat.le_of_ble_eq_true rfl, Nat.le_of_ble_eq_true rfl⟩ rfl hl.1 rfl (Nat.le_of_ble_eq_true rfl) ⟨Nat.le_of_ble_eq_true rfl, Nat.le_of_ble_eq_true rfl⟩ dL_law_95 (fun x_95 τ1_95 τ2_95 H locs hp_95 hw1 hw2 hS => ?_)
            obtain ⟨ex_95, hV1, hV2⟩ := hp_95
            refine lv_if_eq (tgt := 105) hx hb dL_law_98 (by decide) (fun c_98 => ?_) (fun c_98 => ?_)
            · exact absurd (ex_95.symm.trans c_98) (by decide)
            · refine lv_iconst (v := nI 1) hx hb dL_law_101 (by decide) ?_
              refine lv_goto (tgt := 106) hx hb dL_law_102 (by decide) ?_
              refine W.widen (k := 600000) (n := 7302250) (by omega) (by omega) ?_
              refine va_forget (fun q hq => hAs _ (hS.2.2 q hq)) ?_
              exact lw_ret (d0 := sS.drawn) (Drawn.sameBut.refl _ _) hx hb hr hlocks dL_law_106
      · refine lv_iload_n hx hb dL_law_28 rfl (lv_at hl 3 rfl) ?_
        refine n_if_eq (tgt := 82) hx hb dL_law_29 (by decide) (by omega) (fun c_29 => ?_) (fun c_29 => ?_)
        · exact absurd c_29 (by decide)
        · refine lv_aload_n hx hb dL_law_32 rfl (lv_at hl 1 rfl) ?_
          refine lv_aload_n hx hb dL_law_33 rfl (lv_at hl 2 rfl) ?_
          refine lv_aload_n hx hb dL_law_34 rfl (lv_at hl 0 rfl) ?_
          refine lv_iload hx hb dL_law_35 (lv_at hl 4 rfl) ?_
          refine g2_Sc (n := 2) (As := [.ref b, .int (nI k)]) (rest := [.ref (G2.1 5 0), .ref (G1.1 5 0)]) hx hb hml hown hts hX hbl hbA hS gL_law_L_cell (c_L_cell l b L xs k (by omega) (by omega)) rfl (by decide +kernel) ⟨Nat.le_of_ble_eq_true rfl, Nat.le_of_ble_eq_true rfl⟩ rfl hl.1 rfl (Nat.le_of_ble_eq_true rfl) ⟨Nat.le_of_ble_eq_true rfl, Nat.le_of_ble_eq_true rfl⟩ dL_law_37 (fun x_37 H locs hp_37 hk_37 hS => ?_)
          have hw1 := hw1.kept0 hk_37
          have hw2 := hw2.kept0 hk_37
          refine lv_aload_n hx hb dL_law_40 rfl (lv_at hl 0 rfl) ?_
          refine lv_iload hx hb dL_law_41 (lv_at hl 4 rfl) ?_
          refine lv_iconst (v := nI 1) hx hb dL_law_43 (by decide) ?_
          refine n_iadd hx hb dL_law_44 ?_
          refine g2_Sc (n := 2) (As := [.ref b, .int (nI (k + 1))]) (rest := [.int x_37, .ref (G2.1 5 0), .ref (G1.1 5 0)]) hx hb hml hown hts hX hbl hbA hS gL_law_L_cell (c_L_cell l b L xs (k + 1) (by omega) (by omega)) rfl (by decide +kernel) ⟨Nat.le_of_ble_eq_true rfl, Nat.le_of_ble_eq_true rfl⟩ rfl hl.1 rfl (Nat.le_of_ble_eq_true rfl) ⟨Nat.le_of_ble_eq_true rfl, Nat.le_of_ble_eq_true rfl⟩ dL_law_45 (fun x_45 H locs hp_45 hk_45 hS => ?_)
          have hw1 := hw1.kept0 hk_45
          have hw2 := hw2.kept0 hk_45
          refine lv_iconst (v := nI 2) hx hb dL_law_48 (by decide) ?_
          refine lv_ishr hx hb dL_law_49 ?_
          refine lv_topi (fun x_49 ex_49 => ?_)
          refine g2_Si (n := 4) (As := [.ref (G1.1 5 0), .ref (G2.1 5 0), .int x_37, .int x_49]) (rest := []) hx hb hml hown hts hE hw1 hw2 hS gL_law_L_isStep (c_L_isStep l G1 G2 A1 A2 _ _ x_37 x_49 a b0 sn _ _ _ _ (k * 183600) hV1 hV2 hoka hokb hsn hfa hfb (by omega)) rfl (by decide +kernel) ⟨Nat.le_of_ble_eq_true rfl, Nat.le_of_ble_eq_true rfl⟩ rfl hl.1 rfl (Nat.le_of_ble_eq_true rfl) ⟨Nat.le_of_ble_eq_true rfl, Nat.le_of_ble_eq_true rfl⟩ dL_law_50 (fun x_50 τ1_50 τ2_50 H locs hp_50 hw1 hw2 hS => ?_)
          obtain ⟨ex_50, hI2⟩ := hp_50
          obtain ⟨a2, b2, sn2, u1, u2, ux1, ux2, hV1, hV2, hoka2, hokb2, hsn2, hfa2, hfb2⟩ := hI2
          have hV1 : Vw τ1_50 a2 b2 sn2 u1 ux1 := hV1
          have hV2 : Vw τ2_50 a2 b2 sn2 u2 ux2 := hV2
          have hok1 := hoka2
          refine lv_if_eq (tgt := 74) hx hb dL_law_53 (by decide) (fun c_53 => ?_) (fun c_53 => ?_)
          · exact absurd (ex_50.symm.trans c_53) (by decide)
          · refine lv_iload hx hb dL_law_56 (lv_at hl 4 rfl) ?_
            refine lv_iconst (v := nI 4) hx hb dL_law_58 (by decide) ?_
            refine n_irem hx hb dL_law_59 (by omega) (by omega) (by omega) ?_
            refine lv_if_gt (tgt := 70) hx hb dL_law_60 (by decide) (fun c_60 => ?_) (fun c_60 => ?_)
            · refine lv_iconst (v := nI 1) hx hb dL_law_70 (by decide) ?_
              refine lv_goto (tgt := 75) hx hb dL_law_71 (by decide) ?_
              refine lv_istore_n (lv' := [(3, .int (nI 1)), (0, .ref b), (1, .ref (G1.1 5 0)), (2, .ref (G2.1 5 0)), (4, .int (nI k))]) hx hb dL_law_75 rfl hl (by decide) rfl (fun ls hl => ?_)
              refine lv_iinc (v := nI (k + 1)) (lv' := [(4, .int (nI (k + 1))), (3, .int (nI 1)), (0, .ref b), (1, .ref (G1.1 5 0)), (2, .ref (G2.1 5 0))]) hx hb dL_law_76 hl (k := 4) rfl (nI_add _ _) (by decide) rfl (fun ls hl => ?_)
              refine lv_goto (tgt := 21) hx hb dL_law_79 (by decide) ?_
              exact K_21 (k + 1) _ _ (by first | omega | assumption | rfl) ⟨_, _, _, _, _, _, _, hV1, hV2, hoka2, hokb2, hsn2, flkB_mono hfa2 (by omega), flkB_mono hfb2 (by omega)⟩ (by omega) _ _ _ hw1 hw2 hS (lv_sub hl [2, 3, 4, 1, 0] rfl)
            · refine lv_aload_n hx hb dL_law_63 rfl (lv_at hl 1 rfl) ?_
              refine g2_S1i (n := 1) (As := [.ref (G1.1 5 0)]) (rest := []) hx hb hml hown hts hE hw1 hw2 hS gL_law_L_isWell (c_L_isWell l G1 A1 _ _ _ _ _ _ hV1 hok1) rfl (by decide +kernel) ⟨Nat.le_of_ble_eq_true rfl, Nat.le_of_ble_eq_true rfl⟩ rfl hl.1 rfl (Nat.le_of_ble_eq_true rfl) ⟨Nat.le_of_ble_eq_true rfl, Nat.le_of_ble_eq_true rfl⟩ dL_law_64 (fun x_64 τ_64 H locs hp_64 hw1 hw2 hS => ?_)
              obtain ⟨ex_64, hV1⟩ := hp_64
              refine lv_if_eq (tgt := 74) hx hb dL_law_67 (by decide) (fun c_67 => ?_) (fun c_67 => ?_)
              · exact absurd (ex_64.symm.trans c_67) (by decide)
              · refine lv_iconst (v := nI 1) hx hb dL_law_70 (by decide) ?_
                refine lv_goto (tgt := 75) hx hb dL_law_71 (by decide) ?_
                refine lv_istore_n (lv' := [(3, .int (nI 1)), (0, .ref b), (1, .ref (G1.1 5 0)), (2, .ref (G2.1 5 0)), (4, .int (nI k))]) hx hb dL_law_75 rfl hl (by decide) rfl (fun ls hl => ?_)
                refine lv_iinc (v := nI (k + 1)) (lv' := [(4, .int (nI (k + 1))), (3, .int (nI 1)), (0, .ref b), (1, .ref (G1.1 5 0)), (2, .ref (G2.1 5 0))]) hx hb dL_law_76 hl (k := 4) rfl (nI_add _ _) (by decide) rfl (fun ls hl => ?_)
                refine lv_goto (tgt := 21) hx hb dL_law_79 (by decide) ?_
                exact K_21 (k + 1) _ _ (by first | omega | assumption | rfl) ⟨_, _, _, _, _, _, _, hV1, hV2, hoka2, hokb2, hsn2, flkB_mono hfa2 (by omega), flkB_mono hfb2 (by omega)⟩ (by omega) _ _ _ hw1 hw2 hS (lv_sub hl [2, 3, 4, 1, 0] rfl)
  exact K_21 41 0 σ1 σ2 (by omega) (by rw [Nat.zero_mul]; exact hI00) (by omega) H locs ls hw1 hw2 hS hl
