/-! CONTRACTS, laid by program -/
set_option maxHeartbeats 4000000 in
set_option maxRecDepth 100000 in
/-- ZonedLightLaw.isStep(LZonedLight;LZonedLight;II)Z -/
theorem c_L_isStep (l : Launch) (G1 G2 : GG) (A1 A2 : Nat → Prop) (σ1 σ2 : St) (x : Int32) (y : Int32) (a : Nat → Int32) (b : Nat → Int32) (sn : Int32) (t1 : Nat) (tx1 : Nat → Int32) (t2 : Nat) (tx2 : Nat → Int32) (B : Nat) (hV1 : Vw σ1 a b sn t1 tx1) (hV2 : Vw σ2 a b sn t2 tx2) (hoka : okA a) (hokb : okA b) (hsn : sn = 0 ∨ sn = 1) (hfa : flkB a B) (hfb : flkB b B) (hB : B ≤ 2 ^ 29) : M2 l yL_isStep wsL_isStep 9 206 G1 G2 A1 A2 σ1 σ2 [.ref (G1.1 5 0), .ref (G2.1 5 0), .int x, .int y] (fun r (τ : W2) => r = nI 1 ∧ Iv (B + 183600) τ.1 τ.2) := by
  refine M2.on (by decide) rfl (Nat.le_of_ble_eq_true rfl) (fun pP eE sS mM args below meth cC ls hx hb hml hr hown hlk hts hE hw1 hw2 hS hl => ?_)
  have hl : lv_has ls 19 [(0, .ref (G1.1 5 0)), (1, .ref (G2.1 5 0)), (2, .int x), (3, .int y)] := hl
  have hok1 := hoka.1
  have hok2 := hoka.1
  have hok := hoka
  refine lv_iload_n hx hb dL_isStep_0 rfl (lv_at hl 2 rfl) ?_
  refine lv_iconst (v := nI 4) hx hb dL_isStep_1 (by decide) ?_
  refine lv_ishr hx hb dL_isStep_2 ?_
  refine lv_topi (fun x_2 ex_2 => ?_)
  refine lv_istore (lv' := [(4, .int x_2), (0, .ref (G1.1 5 0)), (1, .ref (G2.1 5 0)), (2, .int x), (3, .int y)]) hx hb dL_isStep_3 hl (by decide) rfl (fun ls hl => ?_)
  refine lv_aload_n hx hb dL_isStep_5 rfl (lv_at hl 1 rfl) ?_
  refine lv_iconst (v := nI 1) hx hb dL_isStep_6 (by decide) ?_
  refine g2_V1i (n := 1) (As := [.int (nI 1)]) (rest := []) hx hb hml hown hts hE hw1 hw2 hS gL_isStep_X5_count (c_X5_countV l G1 A1 _ (nI 1) hV1 hok1) rfl (by decide +kernel) ⟨Nat.le_of_ble_eq_true rfl, Nat.le_of_ble_eq_true rfl⟩ (Nat.zero_lt_one) rfl rfl rfl rfl hl.1 rfl (Nat.le_of_ble_eq_true rfl) ⟨Nat.le_of_ble_eq_true rfl, Nat.le_of_ble_eq_true rfl⟩ dL_isStep_7 (fun x_7 τ_7 H locs hp_7 hw1 hw2 hS => ?_)
  obtain ⟨ex_7, hV1⟩ := hp_7
  obtain ⟨n_7, ex_7⟩ := ex_7
  have ex_7 := ex_7.trans ct_1
  refine lv_istore (lv' := [(5, .int x_7), (4, .int x_2), (0, .ref (G1.1 5 0)), (1, .ref (G2.1 5 0)), (2, .int x), (3, .int y)]) hx hb dL_isStep_10 hl (by decide) rfl (fun ls hl => ?_)
  refine lv_aload_n hx hb dL_isStep_12 rfl (lv_at hl 2 rfl) ?_
  refine lv_iconst (v := nI 2) hx hb dL_isStep_13 (by decide) ?_
  refine g2_V1i (n := 1) (As := [.int (nI 2)]) (rest := []) hx hb hml hown hts hE hw1 hw2 hS gL_isStep_X5_count (c_X5_countV l G1 A1 _ (nI 2) hV1 hok1) rfl (by decide +kernel) ⟨Nat.le_of_ble_eq_true rfl, Nat.le_of_ble_eq_true rfl⟩ (Nat.zero_lt_one) rfl rfl rfl rfl hl.1 rfl (Nat.le_of_ble_eq_true rfl) ⟨Nat.le_of_ble_eq_true rfl, Nat.le_of_ble_eq_true rfl⟩ dL_isStep_14 (fun x_14 τ_14 H locs hp_14 hw1 hw2 hS => ?_)
  obtain ⟨ex_14, hV1⟩ := hp_14
  obtain ⟨n_14, ex_14⟩ := ex_14
  have ex_14 := ex_14.trans ct_2
  refine lv_istore (lv' := [(6, .int x_14), (5, .int x_7), (4, .int x_2), (0, .ref (G1.1 5 0)), (1, .ref (G2.1 5 0)), (2, .int x), (3, .int y)]) hx hb dL_isStep_17 hl (by decide) rfl (fun ls hl => ?_)
  refine lv_iload_n hx hb dL_isStep_19 rfl (lv_at hl 5 rfl) ?_
  refine lv_bipush (v := nI 14) hx hb dL_isStep_20 (by decide) ?_
  refine g2_S1i (n := 2) (As := [.int x, .int (nI 14)]) (rest := []) hx hb hml hown hts hE hw1 hw2 hS gL_isStep_L_up (c_L_up l G1 A1 _ x 14 (by omega) (by omega)) rfl (by decide +kernel) ⟨Nat.le_of_ble_eq_true rfl, Nat.le_of_ble_eq_true rfl⟩ rfl hl.1 rfl (Nat.le_of_ble_eq_true rfl) ⟨Nat.le_of_ble_eq_true rfl, Nat.le_of_ble_eq_true rfl⟩ dL_isStep_22 (fun x_22 τ_22 H locs hp_22 hw1 hw2 hS => ?_)
  obtain ⟨⟨k_22, hk_22, rfl⟩, hτ_22⟩ := hp_22
  rw [hτ_22] at hw1
  have K_80 : ∀ (H : Heap) (locs : List Loc) (ls : Array Slot), Wcel G1 τ_14 H → Wcel G2 σ2 H → va_S (bA A1 A2) sS.heap H locs → lv_has ls 19 [(0, .ref (G1.1 5 0)), (1, .ref (G2.1 5 0)), (2, .int x), (3, .int y), (4, .int x_2), (5, .int x_7), (6, .int x_14)] → W pP l eE { frames := 9, cells := 0, slots := 0, locals := 206 } sS mM args below meth cC H locs 0 0 (MQ below (va_Qi (fun r (τ : W2) => r = nI 1 ∧ Iv (B + 183600) τ.1 τ.2) (fun τ t => LPw G1 G2 A1 A2 τ t) (bA A1 A2)) args sS 0 0 (bA A1 A2)) (F0 mM 80 ls []) := by
    intro   H locs ls hw1 hw2 hS hl
    refine lv_iload hx hb dL_isStep_80 (lv_at hl 4 rfl) ?_
    refine lv_bipush (v := nI 8) hx hb dL_isStep_82 (by decide) ?_
    refine g2_S1i (n := 2) (As := [.int x_2, .int (nI 8)]) (rest := []) hx hb hml hown hts hE hw1 hw2 hS gL_isStep_L_up (c_L_up l G1 A1 _ x_2 8 (by omega) (by omega)) rfl (by decide +kernel) ⟨Nat.le_of_ble_eq_true rfl, Nat.le_of_ble_eq_true rfl⟩ rfl hl.1 rfl (Nat.le_of_ble_eq_true rfl) ⟨Nat.le_of_ble_eq_true rfl, Nat.le_of_ble_eq_true rfl⟩ dL_isStep_84 (fun x_84 τ_84 H locs hp_84 hw1 hw2 hS => ?_)
    obtain ⟨⟨k_84, hk_84, rfl⟩, hτ_84⟩ := hp_84
    rw [hτ_84] at hw1
    refine lv_istore (lv' := [(7, .int (nI k_84)), (0, .ref (G1.1 5 0)), (1, .ref (G2.1 5 0)), (2, .int x), (3, .int y), (4, .int x_2), (5, .int x_7), (6, .int x_14)]) hx hb dL_isStep_87 hl (by decide) rfl (fun ls hl => ?_)
    have K_211 : ∀ (v : Nat), (setR k_84 v) → ∀ (H : Heap) (locs : List Loc) (ls : Array Slot), Wcel G1 τ_14 H → Wcel G2 σ2 H → va_S (bA A1 A2) sS.heap H locs → lv_has ls 19 [(0, .ref (G1.1 5 0)), (1, .ref (G2.1 5 0)), (2, .int x), (3, .int y), (4, .int x_2), (5, .int x_7), (6, .int x_14), (7, .int (nI k_84))] → W pP l eE { frames := 9, cells := 0, slots := 0, locals := 206 } sS mM args below meth cC H locs 0 0 (MQ below (va_Qi (fun r (τ : W2) => r = nI 1 ∧ Iv (B + 183600) τ.1 τ.2) (fun τ t => LPw G1 G2 A1 A2 τ t) (bA A1 A2)) args sS 0 0 (bA A1 A2)) (F0 mM 211 ls [.int (nI v)]) := by
      intro v hs H locs ls hw1 hw2 hS hl
      refine lv_istore (lv' := [(8, .int (nI v)), (0, .ref (G1.1 5 0)), (1, .ref (G2.1 5 0)), (2, .int x), (3, .int y), (4, .int x_2), (5, .int x_7), (6, .int x_14), (7, .int (nI k_84))]) hx hb dL_isStep_211 hl (by decide) rfl (fun ls hl => ?_)
      refine lv_aload_n hx hb dL_isStep_213 rfl (lv_at hl 1 rfl) ?_
      refine lv_bipush (v := nI 13) hx hb dL_isStep_214 (by decide) ?_
      refine lv_iload hx hb dL_isStep_216 (lv_at hl 8 rfl) ?_
      refine n_iadd hx hb dL_isStep_218 ?_
      refine g2_V1i (n := 1) (As := [.int (nI (13 + k_84))]) (rest := []) hx hb hml hown hts hE hw1 hw2 hS gL_isStep_X5_count (c_X5_countV l G1 A1 _ (nI (13 + k_84)) hV1 hok1) rfl (by decide +kernel) ⟨Nat.le_of_ble_eq_true rfl, Nat.le_of_ble_eq_true rfl⟩ (Nat.zero_lt_one) rfl rfl rfl rfl hl.1 rfl (Nat.le_of_ble_eq_true rfl) ⟨Nat.le_of_ble_eq_true rfl, Nat.le_of_ble_eq_true rfl⟩ dL_isStep_219 (fun x_219 τ_219 H locs hp_219 hw1 hw2 hS => ?_)
      obtain ⟨ex_219, hV1⟩ := hp_219
      obtain ⟨n_219, ex_219⟩ := ex_219
      have ex_219 := ex_219.trans (ct_set hk_84)
      refine lv_istore (lv' := [(9, .int x_219), (8, .int (nI v)), (0, .ref (G1.1 5 0)), (1, .ref (G2.1 5 0)), (2, .int x), (3, .int y), (4, .int x_2), (5, .int x_7), (6, .int x_14), (7, .int (nI k_84))]) hx hb dL_isStep_222 hl (by decide) rfl (fun ls hl => ?_)
      refine lv_aload_n hx hb dL_isStep_224 rfl (lv_at hl 2 rfl) ?_
      refine lv_iload hx hb dL_isStep_225 (lv_at hl 9 rfl) ?_
      refine lv_iload hx hb dL_isStep_227 (lv_at hl 1 rfl) ?_
      refine g2_V1i (n := 2) (As := [.int (nI k_84), .int (nI v)]) (rest := []) hx hb hml hown hts hE hw1 hw2 hS gL_isStep_X5_set (c_X5_setV l G1 A1 _ (nI k_84) (nI v) hV1) rfl (by decide +kernel) ⟨Nat.le_of_ble_eq_true rfl, Nat.le_of_ble_eq_true rfl⟩ (Nat.zero_lt_one) rfl rfl rfl rfl hl.1 rfl (Nat.le_of_ble_eq_true rfl) ⟨Nat.le_of_ble_eq_true rfl, Nat.le_of_ble_eq_true rfl⟩ dL_isStep_229 (fun x_229 τ_229 H locs hp_229 hw1 hw2 hS => ?_)
      obtain ⟨ex_229, hV1⟩ := hp_229
      rw [set_R hs] at ex_229
      rw [set_A hs] at hV1
      refine lv_istore (lv' := [(10, .int x_229), (9, .int x_219), (8, .int (nI v)), (0, .ref (G1.1 5 0)), (1, .ref (G2.1 5 0)), (2, .int x), (3, .int y), (4, .int x_2), (5, .int x_7), (6, .int x_14), (7, .int (nI k_84))]) hx hb dL_isStep_232 hl (by decide) rfl (fun ls hl => ?_)
      refine lv_iload hx hb dL_isStep_234 (lv_at hl 0 rfl) ?_
      refine lv_aload_n hx hb dL_isStep_236 rfl (lv_at hl 4 rfl) ?_
      refine lv_iload hx hb dL_isStep_237 (lv_at hl 10 rfl) ?_
      refine lv_iload hx hb dL_isStep_239 (lv_at hl 2 rfl) ?_
      refine g2_V2i (n := 2) (As := [.int (nI k_84), .int (nI v)]) (rest := [.int x_229]) hx hb hml hown hts hE hw1 hw2 hS gL_isStep_X5_set (c_X5_setV l G2 A2 _ (nI k_84) (nI v) hV2) rfl (by decide +kernel) ⟨Nat.le_of_ble_eq_true rfl, Nat.le_of_ble_eq_true rfl⟩ (Nat.zero_lt_one) rfl rfl rfl rfl hl.1 rfl (Nat.le_of_ble_eq_true rfl) ⟨Nat.le_of_ble_eq_true rfl, Nat.le_of_ble_eq_true rfl⟩ dL_isStep_241 (fun x_241 τ_241 H locs hp_241 hw1 hw2 hS => ?_)
      obtain ⟨ex_241, hV2⟩ := hp_241
      rw [set_R hs] at ex_241
      rw [set_A hs] at hV2
      have hokn := setA_ok hoka hs
      have hok1 := hokn.1
      refine lv_icmp_ne (tgt := 284) hx hb dL_isStep_244 (by decide) (fun c_244 => ?_) (fun c_244 => ?_)
      · exact absurd (ex_229.trans ex_241.symm) c_244
      · refine lv_iload hx hb dL_isStep_247 (lv_at hl 0 rfl) ?_
        refine lv_iload hx hb dL_isStep_249 (lv_at hl 1 rfl) ?_
        refine lv_iload hx hb dL_isStep_251 (lv_at hl 2 rfl) ?_
        refine lv_icmp_ne (tgt := 261) hx hb dL_isStep_253 (by decide) (fun c_253 => ?_) (fun c_253 => ?_)
        · refine lv_iload hx hb dL_isStep_261 (lv_at hl 1 rfl) ?_
          refine lv_icmp_ne (tgt := 284) hx hb dL_isStep_263 (by decide) (fun c_263 => ?_) (fun c_263 => ?_)
          · first | exact absurd (st_t ex_229 ex_219 c_253) c_263 | exact absurd (st_f ex_229 ex_219 (Decidable.not_not.mp c_253)) c_263 | exact absurd (st_f ex_229 ex_219 c_253) c_263
          · refine lv_aload_n hx hb dL_isStep_266 rfl (lv_at hl 3 rfl) ?_
            refine lv_bipush (v := nI 13) hx hb dL_isStep_267 (by decide) ?_
            refine lv_iload hx hb dL_isStep_269 (lv_at hl 10 rfl) ?_
            refine n_iadd hx hb dL_isStep_271 ?_
            refine g2_V1i (n := 1) (As := [.int (nI (13 + k_84))]) (rest := []) hx hb hml hown hts hE hw1 hw2 hS gL_isStep_X5_count (c_X5_countV l G1 A1 _ (nI (13 + k_84)) hV1 hok1) rfl (by decide +kernel) ⟨Nat.le_of_ble_eq_true rfl, Nat.le_of_ble_eq_true rfl⟩ (Nat.zero_lt_one) rfl rfl rfl rfl hl.1 rfl (Nat.le_of_ble_eq_true rfl) ⟨Nat.le_of_ble_eq_true rfl, Nat.le_of_ble_eq_true rfl⟩ dL_isStep_272 (fun x_272 τ_272 H locs hp_272 hw1 hw2 hS => ?_)
            obtain ⟨ex_272, hV1⟩ := hp_272
            obtain ⟨n_272, ex_272⟩ := ex_272
            have ex_272 := ex_272.trans (ct_set hk_84)
            refine lv_iload hx hb dL_isStep_275 (lv_at hl 2 rfl) ?_
            refine lv_icmp_ne (tgt := 284) hx hb dL_isStep_277 (by decide) (fun c_277 => ?_) (fun c_277 => ?_)
            · exact absurd (ex_272.trans setA_at) c_277
            · refine lv_iconst (v := nI 1) hx hb dL_isStep_280 (by decide) ?_
              refine lv_goto (tgt := 285) hx hb dL_isStep_281 (by decide) ?_
              refine g2_zret hx hb hr hlk hE hw1 hw2 hS rfl dL_isStep_285 ?_
              exact ⟨rfl, _, _, _, _, _, _, _, hV1, hV2, hokn, hokb, hsn, (flkB_mono (flkB_eq hfa (setA_333 hs)) (by omega)), (flkB_mono hfb (by omega))⟩
        · refine lv_bipush (v := (-5)) hx hb dL_isStep_256 (by decide) ?_
          refine lv_goto (tgt := 263) hx hb dL_isStep_258 (by decide) ?_
          refine lv_icmp_ne (tgt := 284) hx hb dL_isStep_263 (by decide) (fun c_263 => ?_) (fun c_263 => ?_)
          · first | exact absurd (st_t ex_229 ex_219 c_253) c_263 | exact absurd (st_f ex_229 ex_219 (Decidable.not_not.mp c_253)) c_263 | exact absurd (st_f ex_229 ex_219 c_253) c_263
          · refine lv_aload_n hx hb dL_isStep_266 rfl (lv_at hl 3 rfl) ?_
            refine lv_bipush (v := nI 13) hx hb dL_isStep_267 (by decide) ?_
            refine lv_iload hx hb dL_isStep_269 (lv_at hl 10 rfl) ?_
            refine n_iadd hx hb dL_isStep_271 ?_
            refine g2_V1i (n := 1) (As := [.int (nI (13 + k_84))]) (rest := []) hx hb hml hown hts hE hw1 hw2 hS gL_isStep_X5_count (c_X5_countV l G1 A1 _ (nI (13 + k_84)) hV1 hok1) rfl (by decide +kernel) ⟨Nat.le_of_ble_eq_true rfl, Nat.le_of_ble_eq_true rfl⟩ (Nat.zero_lt_one) rfl rfl rfl rfl hl.1 rfl (Nat.le_of_ble_eq_true rfl) ⟨Nat.le_of_ble_eq_true rfl, Nat.le_of_ble_eq_true rfl⟩ dL_isStep_272 (fun x_272 τ_272 H locs hp_272 hw1 hw2 hS => ?_)
            obtain ⟨ex_272, hV1⟩ := hp_272
            obtain ⟨n_272, ex_272⟩ := ex_272
            have ex_272 := ex_272.trans (ct_set hk_84)
            refine lv_iload hx hb dL_isStep_275 (lv_at hl 2 rfl) ?_
            refine lv_icmp_ne (tgt := 284) hx hb dL_isStep_277 (by decide) (fun c_277 => ?_) (fun c_277 => ?_)
            · exact absurd (ex_272.trans setA_at) c_277
            · refine lv_iconst (v := nI 1) hx hb dL_isStep_280 (by decide) ?_
              refine lv_goto (tgt := 285) hx hb dL_isStep_281 (by decide) ?_
              refine g2_zret hx hb hr hlk hE hw1 hw2 hS rfl dL_isStep_285 ?_
              exact ⟨rfl, _, _, _, _, _, _, _, hV1, hV2, hokn, hokb, hsn, (flkB_mono (flkB_eq hfa (setA_333 hs)) (by omega)), (flkB_mono hfb (by omega))⟩
    refine lv_iload hx hb dL_isStep_89 (lv_at hl 0 rfl) ?_
    refine n_if_ne (tgt := 107) hx hb dL_isStep_91 (by decide) (by omega) (fun c_91 => ?_) (fun c_91 => ?_)
    · refine lv_iload hx hb dL_isStep_107 (lv_at hl 0 rfl) ?_
      refine lv_iconst (v := nI 1) hx hb dL_isStep_109 (by decide) ?_
      refine n_cmp_ne (tgt := 122) hx hb dL_isStep_110 (by decide) (by omega) (by omega) (fun c_110 => ?_) (fun c_110 => ?_)
      · refine lv_iload hx hb dL_isStep_122 (lv_at hl 0 rfl) ?_
        refine lv_iconst (v := nI 2) hx hb dL_isStep_124 (by decide) ?_
        refine n_cmp_eq (tgt := 134) hx hb dL_isStep_125 (by decide) (by omega) (by omega) (fun c_125 => ?_) (fun c_125 => ?_)
        · refine lv_iload_n hx hb dL_isStep_134 rfl (lv_at hl 4 rfl) ?_
          refine lv_bipush (v := nI 10) hx hb dL_isStep_135 (by decide) ?_
          refine g2_S1i (n := 2) (As := [.int y, .int (nI 10)]) (rest := []) hx hb hml hown hts hE hw1 hw2 hS gL_isStep_L_up (c_L_up l G1 A1 _ y 10 (by omega) (by omega)) rfl (by decide +kernel) ⟨Nat.le_of_ble_eq_true rfl, Nat.le_of_ble_eq_true rfl⟩ rfl hl.1 rfl (Nat.le_of_ble_eq_true rfl) ⟨Nat.le_of_ble_eq_true rfl, Nat.le_of_ble_eq_true rfl⟩ dL_isStep_137 (fun x_137 τ_137 H locs hp_137 hw1 hw2 hS => ?_)
          obtain ⟨⟨k_137, hk_137, rfl⟩, hτ_137⟩ := hp_137
          rw [hτ_137] at hw1
          refine lv_goto (tgt := 211) hx hb dL_isStep_140 (by decide) ?_
          exact K_211 k_137 (by unfold setR; omega) _ _ _ hw1 hw2 hS (lv_sub hl [1, 2, 3, 4, 5, 6, 7, 0] rfl)
        · refine lv_iload hx hb dL_isStep_128 (lv_at hl 0 rfl) ?_
          refine lv_iconst (v := nI 4) hx hb dL_isStep_130 (by decide) ?_
          refine n_cmp_ne (tgt := 143) hx hb dL_isStep_131 (by decide) (by omega) (by omega) (fun c_131 => ?_) (fun c_131 => ?_)
          · refine lv_iload hx hb dL_isStep_143 (lv_at hl 0 rfl) ?_
            refine lv_iconst (v := nI 3) hx hb dL_isStep_145 (by decide) ?_
            refine n_cmp_ne (tgt := 157) hx hb dL_isStep_146 (by decide) (by omega) (by omega) (fun c_146 => ?_) (fun c_146 => ?_)
            · refine lv_iload hx hb dL_isStep_157 (lv_at hl 0 rfl) ?_
              refine lv_iconst (v := nI 5) hx hb dL_isStep_159 (by decide) ?_
              refine n_cmp_ne (tgt := 172) hx hb dL_isStep_160 (by decide) (by omega) (by omega) (fun c_160 => ?_) (fun c_160 => ?_)
              · refine lv_iload hx hb dL_isStep_172 (lv_at hl 0 rfl) ?_
                refine lv_bipush (v := nI 6) hx hb dL_isStep_174 (by decide) ?_
                refine n_cmp_ne (tgt := 188) hx hb dL_isStep_176 (by decide) (by omega) (by omega) (fun c_176 => ?_) (fun c_176 => ?_)
                · refine lv_iconst (v := nI 1) hx hb dL_isStep_188 (by decide) ?_
                  refine lv_iload_n hx hb dL_isStep_189 rfl (lv_at hl 4 rfl) ?_
                  refine lv_iload hx hb dL_isStep_190 (lv_at hl 5 rfl) ?_
                  refine lv_iconst (v := nI 2) hx hb dL_isStep_192 (by decide) ?_
                  refine g2_S1i (n := 2) (As := [.int x_2, .int (nI 2)]) (rest := [.int y, .int (nI 1)]) hx hb hml hown hts hE hw1 hw2 hS gL_isStep_L_up (c_L_up l G1 A1 _ x_2 2 (by omega) (by omega)) rfl (by decide +kernel) ⟨Nat.le_of_ble_eq_true rfl, Nat.le_of_ble_eq_true rfl⟩ rfl hl.1 rfl (Nat.le_of_ble_eq_true rfl) ⟨Nat.le_of_ble_eq_true rfl, Nat.le_of_ble_eq_true rfl⟩ dL_isStep_193 (fun x_193 τ_193 H locs hp_193 hw1 hw2 hS => ?_)
                  obtain ⟨⟨k_193, hk_193, rfl⟩, hτ_193⟩ := hp_193
                  rw [hτ_193] at hw1
                  refine n_if_ne (tgt := 205) hx hb dL_isStep_196 (by decide) (by omega) (fun c_196 => ?_) (fun c_196 => ?_)
                  · refine lv_bipush (v := nI 30) hx hb dL_isStep_205 (by decide) ?_
                    refine g2_S1i (n := 2) (As := [.int y, .int (nI 30)]) (rest := [.int (nI 1)]) hx hb hml hown hts hE hw1 hw2 hS gL_isStep_L_up (c_L_up l G1 A1 _ y 30 (by omega) (by omega)) rfl (by decide +kernel) ⟨Nat.le_of_ble_eq_true rfl, Nat.le_of_ble_eq_true rfl⟩ rfl hl.1 rfl (Nat.le_of_ble_eq_true rfl) ⟨Nat.le_of_ble_eq_true rfl, Nat.le_of_ble_eq_true rfl⟩ dL_isStep_207 (fun x_207 τ_207 H locs hp_207 hw1 hw2 hS => ?_)
                    obtain ⟨⟨k_207, hk_207, rfl⟩, hτ_207⟩ := hp_207
                    rw [hτ_207] at hw1
                    refine n_iadd hx hb dL_isStep_210 ?_
                    exact K_211 (1 + k_207) (by unfold setR; omega) _ _ _ hw1 hw2 hS (lv_sub hl [1, 2, 3, 4, 5, 6, 7, 0] rfl)
                  · refine lv_sipush (v := nI 255) hx hb dL_isStep_199 (by decide) ?_
                    refine lv_goto (tgt := 207) hx hb dL_isStep_202 (by decide) ?_
                    refine g2_S1i (n := 2) (As := [.int y, .int (nI 255)]) (rest := [.int (nI 1)]) hx hb hml hown hts hE hw1 hw2 hS gL_isStep_L_up (c_L_up l G1 A1 _ y 255 (by omega) (by omega)) rfl (by decide +kernel) ⟨Nat.le_of_ble_eq_true rfl, Nat.le_of_ble_eq_true rfl⟩ rfl hl.1 rfl (Nat.le_of_ble_eq_true rfl) ⟨Nat.le_of_ble_eq_true rfl, Nat.le_of_ble_eq_true rfl⟩ dL_isStep_207 (fun x_207 τ_207 H locs hp_207 hw1 hw2 hS => ?_)
                    obtain ⟨⟨k_207, hk_207, rfl⟩, hτ_207⟩ := hp_207
                    rw [hτ_207] at hw1
                    refine n_iadd hx hb dL_isStep_210 ?_
                    exact K_211 (1 + k_207) (by unfold setR; omega) _ _ _ hw1 hw2 hS (lv_sub hl [1, 2, 3, 4, 5, 6, 7, 0] rfl)
                · refine lv_iload_n hx hb dL_isStep_179 rfl (lv_at hl 4 rfl) ?_
                  refine lv_bipush (v := nI 21) hx hb dL_isStep_180 (by decide) ?_
                  refine g2_S1i (n := 2) (As := [.int y, .int (nI 21)]) (rest := []) hx hb hml hown hts hE hw1 hw2 hS gL_isStep_L_up (c_L_up l G1 A1 _ y 21 (by omega) (by omega)) rfl (by decide +kernel) ⟨Nat.le_of_ble_eq_true rfl, Nat.le_of_ble_eq_true rfl⟩ rfl hl.1 rfl (Nat.le_of_ble_eq_true rfl) ⟨Nat.le_of_ble_eq_true rfl, Nat.le_of_ble_eq_true rfl⟩ dL_isStep_182 (fun x_182 τ_182 H locs hp_182 hw1 hw2 hS => ?_)
                  obtain ⟨⟨k_182, hk_182, rfl⟩, hτ_182⟩ := hp_182
                  rw [hτ_182] at hw1
                  refine lv_goto (tgt := 211) hx hb dL_isStep_185 (by decide) ?_
                  exact K_211 k_182 (by unfold setR; omega) _ _ _ hw1 hw2 hS (lv_sub hl [1, 2, 3, 4, 5, 6, 7, 0] rfl)
              · refine lv_iload_n hx hb dL_isStep_163 rfl (lv_at hl 4 rfl) ?_
                refine lv_bipush (v := nI 51) hx hb dL_isStep_164 (by decide) ?_
                refine g2_S1i (n := 2) (As := [.int y, .int (nI 51)]) (rest := []) hx hb hml hown hts hE hw1 hw2 hS gL_isStep_L_up (c_L_up l G1 A1 _ y 51 (by omega) (by omega)) rfl (by decide +kernel) ⟨Nat.le_of_ble_eq_true rfl, Nat.le_of_ble_eq_true rfl⟩ rfl hl.1 rfl (Nat.le_of_ble_eq_true rfl) ⟨Nat.le_of_ble_eq_true rfl, Nat.le_of_ble_eq_true rfl⟩ dL_isStep_166 (fun x_166 τ_166 H locs hp_166 hw1 hw2 hS => ?_)
                obtain ⟨⟨k_166, hk_166, rfl⟩, hτ_166⟩ := hp_166
                rw [hτ_166] at hw1
                refine lv_goto (tgt := 211) hx hb dL_isStep_169 (by decide) ?_
                exact K_211 k_166 (by unfold setR; omega) _ _ _ hw1 hw2 hS (lv_sub hl [1, 2, 3, 4, 5, 6, 7, 0] rfl)
            · refine lv_iload_n hx hb dL_isStep_149 rfl (lv_at hl 4 rfl) ?_
              refine lv_iconst (v := nI 3) hx hb dL_isStep_150 (by decide) ?_
              refine g2_S1i (n := 2) (As := [.int y, .int (nI 3)]) (rest := []) hx hb hml hown hts hE hw1 hw2 hS gL_isStep_L_up (c_L_up l G1 A1 _ y 3 (by omega) (by omega)) rfl (by decide +kernel) ⟨Nat.le_of_ble_eq_true rfl, Nat.le_of_ble_eq_true rfl⟩ rfl hl.1 rfl (Nat.le_of_ble_eq_true rfl) ⟨Nat.le_of_ble_eq_true rfl, Nat.le_of_ble_eq_true rfl⟩ dL_isStep_151 (fun x_151 τ_151 H locs hp_151 hw1 hw2 hS => ?_)
              obtain ⟨⟨k_151, hk_151, rfl⟩, hτ_151⟩ := hp_151
              rw [hτ_151] at hw1
              refine lv_goto (tgt := 211) hx hb dL_isStep_154 (by decide) ?_
              exact K_211 k_151 (by unfold setR; omega) _ _ _ hw1 hw2 hS (lv_sub hl [1, 2, 3, 4, 5, 6, 7, 0] rfl)
          · refine lv_iload_n hx hb dL_isStep_134 rfl (lv_at hl 4 rfl) ?_
            refine lv_bipush (v := nI 10) hx hb dL_isStep_135 (by decide) ?_
            refine g2_S1i (n := 2) (As := [.int y, .int (nI 10)]) (rest := []) hx hb hml hown hts hE hw1 hw2 hS gL_isStep_L_up (c_L_up l G1 A1 _ y 10 (by omega) (by omega)) rfl (by decide +kernel) ⟨Nat.le_of_ble_eq_true rfl, Nat.le_of_ble_eq_true rfl⟩ rfl hl.1 rfl (Nat.le_of_ble_eq_true rfl) ⟨Nat.le_of_ble_eq_true rfl, Nat.le_of_ble_eq_true rfl⟩ dL_isStep_137 (fun x_137 τ_137 H locs hp_137 hw1 hw2 hS => ?_)
            obtain ⟨⟨k_137, hk_137, rfl⟩, hτ_137⟩ := hp_137
            rw [hτ_137] at hw1
            refine lv_goto (tgt := 211) hx hb dL_isStep_140 (by decide) ?_
            exact K_211 k_137 (by unfold setR; omega) _ _ _ hw1 hw2 hS (lv_sub hl [1, 2, 3, 4, 5, 6, 7, 0] rfl)
      · refine lv_iload_n hx hb dL_isStep_113 rfl (lv_at hl 4 rfl) ?_
        refine lv_bipush (v := nI 31) hx hb dL_isStep_114 (by decide) ?_
        refine g2_S1i (n := 2) (As := [.int y, .int (nI 31)]) (rest := []) hx hb hml hown hts hE hw1 hw2 hS gL_isStep_L_up (c_L_up l G1 A1 _ y 31 (by omega) (by omega)) rfl (by decide +kernel) ⟨Nat.le_of_ble_eq_true rfl, Nat.le_of_ble_eq_true rfl⟩ rfl hl.1 rfl (Nat.le_of_ble_eq_true rfl) ⟨Nat.le_of_ble_eq_true rfl, Nat.le_of_ble_eq_true rfl⟩ dL_isStep_116 (fun x_116 τ_116 H locs hp_116 hw1 hw2 hS => ?_)
        obtain ⟨⟨k_116, hk_116, rfl⟩, hτ_116⟩ := hp_116
        rw [hτ_116] at hw1
        refine lv_goto (tgt := 211) hx hb dL_isStep_119 (by decide) ?_
        exact K_211 k_116 (by unfold setR; omega) _ _ _ hw1 hw2 hS (lv_sub hl [1, 2, 3, 4, 5, 6, 7, 0] rfl)
    · refine lv_bipush (v := nI 100) hx hb dL_isStep_94 (by decide) ?_
      refine lv_iload_n hx hb dL_isStep_96 rfl (lv_at hl 4 rfl) ?_
      refine lv_sipush (v := nI 157) hx hb dL_isStep_97 (by decide) ?_
      refine g2_S1i (n := 2) (As := [.int y, .int (nI 157)]) (rest := [.int (nI 100)]) hx hb hml hown hts hE hw1 hw2 hS gL_isStep_L_up (c_L_up l G1 A1 _ y 157 (by omega) (by omega)) rfl (by decide +kernel) ⟨Nat.le_of_ble_eq_true rfl, Nat.le_of_ble_eq_true rfl⟩ rfl hl.1 rfl (Nat.le_of_ble_eq_true rfl) ⟨Nat.le_of_ble_eq_true rfl, Nat.le_of_ble_eq_true rfl⟩ dL_isStep_100 (fun x_100 τ_100 H locs hp_100 hw1 hw2 hS => ?_)
      obtain ⟨⟨k_100, hk_100, rfl⟩, hτ_100⟩ := hp_100
      rw [hτ_100] at hw1
      refine n_iadd hx hb dL_isStep_103 ?_
      refine lv_goto (tgt := 211) hx hb dL_isStep_104 (by decide) ?_
      exact K_211 (100 + k_100) (by unfold setR; omega) _ _ _ hw1 hw2 hS (lv_sub hl [1, 2, 3, 4, 5, 6, 7, 0] rfl)
  have K_286 : ∀ (H : Heap) (locs : List Loc) (ls : Array Slot), Wcel G1 τ_14 H → Wcel G2 σ2 H → va_S (bA A1 A2) sS.heap H locs → lv_has ls 19 [(0, .ref (G1.1 5 0)), (1, .ref (G2.1 5 0)), (2, .int x), (3, .int y), (4, .int x_2), (5, .int x_7), (6, .int x_14)] → W pP l eE { frames := 9, cells := 0, slots := 0, locals := 206 } sS mM args below meth cC H locs 0 0 (MQ below (va_Qi (fun r (τ : W2) => r = nI 1 ∧ Iv (B + 183600) τ.1 τ.2) (fun τ t => LPw G1 G2 A1 A2 τ t) (bA A1 A2)) args sS 0 0 (bA A1 A2)) (F0 mM 286 ls []) := by
    intro   H locs ls hw1 hw2 hS hl
    refine lv_iload_n hx hb dL_isStep_286 rfl (lv_at hl 3 rfl) ?_
    refine lv_bipush (v := nI 18) hx hb dL_isStep_287 (by decide) ?_
    refine g2_S1i (n := 2) (As := [.int y, .int (nI 18)]) (rest := []) hx hb hml hown hts hE hw1 hw2 hS gL_isStep_L_up (c_L_up l G1 A1 _ y 18 (by omega) (by omega)) rfl (by decide +kernel) ⟨Nat.le_of_ble_eq_true rfl, Nat.le_of_ble_eq_true rfl⟩ rfl hl.1 rfl (Nat.le_of_ble_eq_true rfl) ⟨Nat.le_of_ble_eq_true rfl, Nat.le_of_ble_eq_true rfl⟩ dL_isStep_289 (fun x_289 τ_289 H locs hp_289 hw1 hw2 hS => ?_)
    obtain ⟨⟨k_289, hk_289, rfl⟩, hτ_289⟩ := hp_289
    rw [hτ_289] at hw1
    refine lv_istore (lv' := [(7, .int (nI k_289)), (0, .ref (G1.1 5 0)), (1, .ref (G2.1 5 0)), (2, .int x), (3, .int y), (4, .int x_2), (5, .int x_7), (6, .int x_14)]) hx hb dL_isStep_292 hl (by decide) rfl (fun ls hl => ?_)
    refine lv_aload_n hx hb dL_isStep_294 rfl (lv_at hl 1 rfl) ?_
    refine lv_iload hx hb dL_isStep_295 (lv_at hl 0 rfl) ?_
    refine lv_iconst (v := nI 0) hx hb dL_isStep_297 (by decide) ?_
    refine g2_V1i (n := 2) (As := [.int (nI k_289), .int (nI 0)]) (rest := []) hx hb hml hown hts hE hw1 hw2 hS gL_isStep_X5_zone (c_X5_zoneV l G1 A1 _ (nI k_289) (nI 0) hV1 hok1) rfl (by decide +kernel) ⟨Nat.le_of_ble_eq_true rfl, Nat.le_of_ble_eq_true rfl⟩ (Nat.zero_lt_one) rfl rfl rfl rfl hl.1 rfl (Nat.le_of_ble_eq_true rfl) ⟨Nat.le_of_ble_eq_true rfl, Nat.le_of_ble_eq_true rfl⟩ dL_isStep_298 (fun x_298 τ_298 H locs hp_298 hw1 hw2 hS => ?_)
    obtain ⟨ex_298, hV1⟩ := hp_298
    obtain rfl : x_298 = a (288 + k_289) := ex_298.trans (zq_0 hk_289)
    refine lv_istore (lv' := [(8, .int (a (288 + k_289))), (7, .int (nI k_289)), (0, .ref (G1.1 5 0)), (1, .ref (G2.1 5 0)), (2, .int x), (3, .int y), (4, .int x_2), (5, .int x_7), (6, .int x_14)]) hx hb dL_isStep_301 hl (by decide) rfl (fun ls hl => ?_)
    refine lv_aload_n hx hb dL_isStep_303 rfl (lv_at hl 2 rfl) ?_
    refine lv_iload hx hb dL_isStep_304 (lv_at hl 1 rfl) ?_
    refine lv_iconst (v := nI 3) hx hb dL_isStep_306 (by decide) ?_
    refine g2_V1i (n := 2) (As := [.int (nI k_289), .int (nI 3)]) (rest := []) hx hb hml hown hts hE hw1 hw2 hS gL_isStep_X5_zone (c_X5_zoneV l G1 A1 _ (nI k_289) (nI 3) hV1 hok1) rfl (by decide +kernel) ⟨Nat.le_of_ble_eq_true rfl, Nat.le_of_ble_eq_true rfl⟩ (Nat.zero_lt_one) rfl rfl rfl rfl hl.1 rfl (Nat.le_of_ble_eq_true rfl) ⟨Nat.le_of_ble_eq_true rfl, Nat.le_of_ble_eq_true rfl⟩ dL_isStep_307 (fun x_307 τ_307 H locs hp_307 hw1 hw2 hS => ?_)
    obtain ⟨ex_307, hV1⟩ := hp_307
    obtain rfl : x_307 = a (306 + k_289) := ex_307.trans (zq_3 hk_289)
    have K_318 : ∀ (d : Int32), (d = if a (306 + k_289) = 0 then 1 else 0) → ∀ (H : Heap) (locs : List Loc) (ls : Array Slot), Wcel G1 τ_307 H → Wcel G2 σ2 H → va_S (bA A1 A2) sS.heap H locs → lv_has ls 19 [(0, .ref (G1.1 5 0)), (1, .ref (G2.1 5 0)), (2, .int x), (3, .int y), (4, .int x_2), (5, .int x_7), (6, .int x_14), (7, .int (nI k_289)), (8, .int (a (288 + k_289)))] → W pP l eE { frames := 9, cells := 0, slots := 0, locals := 206 } sS mM args below meth cC H locs 0 0 (MQ below (va_Qi (fun r (τ : W2) => r = nI 1 ∧ Iv (B + 183600) τ.1 τ.2) (fun τ t => LPw G1 G2 A1 A2 τ t) (bA A1 A2)) args sS 0 0 (bA A1 A2)) (F0 mM 318 ls [.int d]) := by
      intro d hd H locs ls hw1 hw2 hS hl
      have hkd := kil_d hd
      have hokn := kil_ok hoka hk_289 hkd
      refine lv_istore (lv' := [(9, .int d), (0, .ref (G1.1 5 0)), (1, .ref (G2.1 5 0)), (2, .int x), (3, .int y), (4, .int x_2), (5, .int x_7), (6, .int x_14), (7, .int (nI k_289)), (8, .int (a (288 + k_289)))]) hx hb dL_isStep_318 hl (by decide) rfl (fun ls hl => ?_)
      refine lv_aload_n hx hb dL_isStep_320 rfl (lv_at hl 1 rfl) ?_
      refine lv_iload hx hb dL_isStep_321 (lv_at hl 8 rfl) ?_
      refine lv_iload hx hb dL_isStep_323 (lv_at hl 0 rfl) ?_
      refine g2_V1i (n := 2) (As := [.int (nI k_289), .int d]) (rest := []) hx hb hml hown hts hE hw1 hw2 hS gL_isStep_X5_kill (c_X5_killV l G1 A1 _ (nI k_289) d hV1 hkd) rfl (by decide +kernel) ⟨Nat.le_of_ble_eq_true rfl, Nat.le_of_ble_eq_true rfl⟩ (Nat.zero_lt_one) rfl rfl rfl rfl hl.1 rfl (Nat.le_of_ble_eq_true rfl) ⟨Nat.le_of_ble_eq_true rfl, Nat.le_of_ble_eq_true rfl⟩ dL_isStep_325 (fun x_325 τ_325 H locs hp_325 hw1 hw2 hS => ?_)
      obtain ⟨ex_325, hV1⟩ := hp_325
      rw [kil_F hoka hk_289 hd] at ex_325 hV1
      have ex_325 : x_325 = a (288 + k_289) := ex_325
      have hV1 : Vw τ_325 (kilA a k_289 d) b sn t1 tx1 := hV1
      have hok1 := hokn.1
      refine lv_iload hx hb dL_isStep_328 (lv_at hl 9 rfl) ?_
      refine lv_icmp_ne (tgt := 403) hx hb dL_isStep_330 (by decide) (fun c_330 => ?_) (fun c_330 => ?_)
      · exact absurd ex_325 c_330
      · refine lv_aload_n hx hb dL_isStep_333 rfl (lv_at hl 2 rfl) ?_
        refine lv_iload hx hb dL_isStep_334 (lv_at hl 8 rfl) ?_
        refine lv_iload hx hb dL_isStep_336 (lv_at hl 0 rfl) ?_
        refine g2_V2i (n := 2) (As := [.int (nI k_289), .int d]) (rest := []) hx hb hml hown hts hE hw1 hw2 hS gL_isStep_X5_kill (c_X5_killV l G2 A2 _ (nI k_289) d hV2 hkd) rfl (by decide +kernel) ⟨Nat.le_of_ble_eq_true rfl, Nat.le_of_ble_eq_true rfl⟩ (Nat.zero_lt_one) rfl rfl rfl rfl hl.1 rfl (Nat.le_of_ble_eq_true rfl) ⟨Nat.le_of_ble_eq_true rfl, Nat.le_of_ble_eq_true rfl⟩ dL_isStep_338 (fun x_338 τ_338 H locs hp_338 hw1 hw2 hS => ?_)
        obtain ⟨ex_338, hV2⟩ := hp_338
        rw [kil_F hoka hk_289 hd] at ex_338 hV2
        have ex_338 : x_338 = a (288 + k_289) := ex_338
        have hV2 : Vw τ_338 (kilA a k_289 d) b sn t2 tx2 := hV2
        refine lv_iload hx hb dL_isStep_341 (lv_at hl 9 rfl) ?_
        refine lv_icmp_ne (tgt := 403) hx hb dL_isStep_343 (by decide) (fun c_343 => ?_) (fun c_343 => ?_)
        · exact absurd ex_338 c_343
        · refine lv_aload_n hx hb dL_isStep_346 rfl (lv_at hl 1 rfl) ?_
          refine lv_iload hx hb dL_isStep_347 (lv_at hl 8 rfl) ?_
          refine lv_iconst (v := nI 0) hx hb dL_isStep_349 (by decide) ?_
          refine g2_V1i (n := 2) (As := [.int (nI k_289), .int (nI 0)]) (rest := []) hx hb hml hown hts hE hw1 hw2 hS gL_isStep_X5_zone (c_X5_zoneV l G1 A1 _ (nI k_289) (nI 0) hV1 hok1) rfl (by decide +kernel) ⟨Nat.le_of_ble_eq_true rfl, Nat.le_of_ble_eq_true rfl⟩ (Nat.zero_lt_one) rfl rfl rfl rfl hl.1 rfl (Nat.le_of_ble_eq_true rfl) ⟨Nat.le_of_ble_eq_true rfl, Nat.le_of_ble_eq_true rfl⟩ dL_isStep_350 (fun x_350 τ_350 H locs hp_350 hw1 hw2 hS => ?_)
          obtain ⟨ex_350, hV1⟩ := hp_350
          refine lv_if_ne (tgt := 403) hx hb dL_isStep_353 (by decide) (fun c_353 => ?_) (fun c_353 => ?_)
          · exact absurd (ex_350.trans ((zq_0 hk_289).trans kil_l)) c_353
          · refine lv_aload_n hx hb dL_isStep_356 rfl (lv_at hl 1 rfl) ?_
            refine lv_iload hx hb dL_isStep_357 (lv_at hl 8 rfl) ?_
            refine lv_iconst (v := nI 3) hx hb dL_isStep_359 (by decide) ?_
            refine g2_V1i (n := 2) (As := [.int (nI k_289), .int (nI 3)]) (rest := []) hx hb hml hown hts hE hw1 hw2 hS gL_isStep_X5_zone (c_X5_zoneV l G1 A1 _ (nI k_289) (nI 3) hV1 hok1) rfl (by decide +kernel) ⟨Nat.le_of_ble_eq_true rfl, Nat.le_of_ble_eq_true rfl⟩ (Nat.zero_lt_one) rfl rfl rfl rfl hl.1 rfl (Nat.le_of_ble_eq_true rfl) ⟨Nat.le_of_ble_eq_true rfl, Nat.le_of_ble_eq_true rfl⟩ dL_isStep_360 (fun x_360 τ_360 H locs hp_360 hw1 hw2 hS => ?_)
            obtain ⟨ex_360, hV1⟩ := hp_360
            have ex_360 := ex_360.trans ((zq_3 hk_289).trans (kil_3 hk_289))
            refine lv_iload hx hb dL_isStep_363 (lv_at hl 0 rfl) ?_
            refine lv_if_eq (tgt := 372) hx hb dL_isStep_365 (by decide) (fun c_365 => ?_) (fun c_365 => ?_)
            · refine lv_iconst (v := nI 0) hx hb dL_isStep_372 (by decide) ?_
              refine lv_icmp_ne (tgt := 403) hx hb dL_isStep_373 (by decide) (fun c_373 => ?_) (fun c_373 => ?_)
              · first | exact absurd (ex_360.trans c_365) c_373 | exact absurd (ex_360.trans (hkd.resolve_left c_365)) c_373
              · refine lv_aload_n hx hb dL_isStep_376 rfl (lv_at hl 1 rfl) ?_
                refine lv_iconst (v := nI 1) hx hb dL_isStep_377 (by decide) ?_
                refine g2_V1i (n := 1) (As := [.int (nI 1)]) (rest := []) hx hb hml hown hts hE hw1 hw2 hS gL_isStep_X5_count (c_X5_countV l G1 A1 _ (nI 1) hV1 hok1) rfl (by decide +kernel) ⟨Nat.le_of_ble_eq_true rfl, Nat.le_of_ble_eq_true rfl⟩ (Nat.zero_lt_one) rfl rfl rfl rfl hl.1 rfl (Nat.le_of_ble_eq_true rfl) ⟨Nat.le_of_ble_eq_true rfl, Nat.le_of_ble_eq_true rfl⟩ dL_isStep_378 (fun x_378 τ_378 H locs hp_378 hw1 hw2 hS => ?_)
                obtain ⟨ex_378, hV1⟩ := hp_378
                obtain ⟨n_378, ex_378⟩ := ex_378
                have ex_378 := ex_378.trans ct_1
                refine lv_iload hx hb dL_isStep_381 (lv_at hl 6 rfl) ?_
                refine lv_iload hx hb dL_isStep_383 (lv_at hl 9 rfl) ?_
                refine lv_isub hx hb dL_isStep_385 ?_
                refine lv_topi (fun x_385 ex_385 => ?_)
                refine lv_icmp_ne (tgt := 403) hx hb dL_isStep_386 (by decide) (fun c_386 => ?_) (fun c_386 => ?_)
                · exact absurd (kil_p hk_289 ex_7 ex_378 ex_385) c_386
                · refine lv_aload_n hx hb dL_isStep_389 rfl (lv_at hl 1 rfl) ?_
                  refine lv_iconst (v := nI 2) hx hb dL_isStep_390 (by decide) ?_
                  refine g2_V1i (n := 1) (As := [.int (nI 2)]) (rest := []) hx hb hml hown hts hE hw1 hw2 hS gL_isStep_X5_count (c_X5_countV l G1 A1 _ (nI 2) hV1 hok1) rfl (by decide +kernel) ⟨Nat.le_of_ble_eq_true rfl, Nat.le_of_ble_eq_true rfl⟩ (Nat.zero_lt_one) rfl rfl rfl rfl hl.1 rfl (Nat.le_of_ble_eq_true rfl) ⟨Nat.le_of_ble_eq_true rfl, Nat.le_of_ble_eq_true rfl⟩ dL_isStep_391 (fun x_391 τ_391 H locs hp_391 hw1 hw2 hS => ?_)
                  obtain ⟨ex_391, hV1⟩ := hp_391
                  obtain ⟨n_391, ex_391⟩ := ex_391
                  have ex_391 := ex_391.trans ct_2
                  refine lv_iload hx hb dL_isStep_394 (lv_at hl 7 rfl) ?_
                  refine lv_icmp_ne (tgt := 403) hx hb dL_isStep_396 (by decide) (fun c_396 => ?_) (fun c_396 => ?_)
                  · exact absurd (ex_391.trans ((kil_333 hk_289).trans ex_14.symm)) c_396
                  · refine lv_iconst (v := nI 1) hx hb dL_isStep_399 (by decide) ?_
                    refine lv_goto (tgt := 404) hx hb dL_isStep_400 (by decide) ?_
                    refine g2_zret hx hb hr hlk hE hw1 hw2 hS rfl dL_isStep_404 ?_
                    exact ⟨rfl, _, _, _, _, _, _, _, hV1, hV2, hokn, hokb, hsn, (flkB_mono (flkB_eq hfa (kil_333 hk_289)) (by omega)), (flkB_mono hfb (by omega))⟩
            · refine lv_iconst (v := nI 1) hx hb dL_isStep_368 (by decide) ?_
              refine lv_goto (tgt := 373) hx hb dL_isStep_369 (by decide) ?_
              refine lv_icmp_ne (tgt := 403) hx hb dL_isStep_373 (by decide) (fun c_373 => ?_) (fun c_373 => ?_)
              · first | exact absurd (ex_360.trans c_365) c_373 | exact absurd (ex_360.trans (hkd.resolve_left c_365)) c_373
              · refine lv_aload_n hx hb dL_isStep_376 rfl (lv_at hl 1 rfl) ?_
                refine lv_iconst (v := nI 1) hx hb dL_isStep_377 (by decide) ?_
                refine g2_V1i (n := 1) (As := [.int (nI 1)]) (rest := []) hx hb hml hown hts hE hw1 hw2 hS gL_isStep_X5_count (c_X5_countV l G1 A1 _ (nI 1) hV1 hok1) rfl (by decide +kernel) ⟨Nat.le_of_ble_eq_true rfl, Nat.le_of_ble_eq_true rfl⟩ (Nat.zero_lt_one) rfl rfl rfl rfl hl.1 rfl (Nat.le_of_ble_eq_true rfl) ⟨Nat.le_of_ble_eq_true rfl, Nat.le_of_ble_eq_true rfl⟩ dL_isStep_378 (fun x_378 τ_378 H locs hp_378 hw1 hw2 hS => ?_)
                obtain ⟨ex_378, hV1⟩ := hp_378
                obtain ⟨n_378, ex_378⟩ := ex_378
                have ex_378 := ex_378.trans ct_1
                refine lv_iload hx hb dL_isStep_381 (lv_at hl 6 rfl) ?_
                refine lv_iload hx hb dL_isStep_383 (lv_at hl 9 rfl) ?_
                refine lv_isub hx hb dL_isStep_385 ?_
                refine lv_topi (fun x_385 ex_385 => ?_)
                refine lv_icmp_ne (tgt := 403) hx hb dL_isStep_386 (by decide) (fun c_386 => ?_) (fun c_386 => ?_)
                · exact absurd (kil_p hk_289 ex_7 ex_378 ex_385) c_386
                · refine lv_aload_n hx hb dL_isStep_389 rfl (lv_at hl 1 rfl) ?_
                  refine lv_iconst (v := nI 2) hx hb dL_isStep_390 (by decide) ?_
                  refine g2_V1i (n := 1) (As := [.int (nI 2)]) (rest := []) hx hb hml hown hts hE hw1 hw2 hS gL_isStep_X5_count (c_X5_countV l G1 A1 _ (nI 2) hV1 hok1) rfl (by decide +kernel) ⟨Nat.le_of_ble_eq_true rfl, Nat.le_of_ble_eq_true rfl⟩ (Nat.zero_lt_one) rfl rfl rfl rfl hl.1 rfl (Nat.le_of_ble_eq_true rfl) ⟨Nat.le_of_ble_eq_true rfl, Nat.le_of_ble_eq_true rfl⟩ dL_isStep_391 (fun x_391 τ_391 H locs hp_391 hw1 hw2 hS => ?_)
                  obtain ⟨ex_391, hV1⟩ := hp_391
                  obtain ⟨n_391, ex_391⟩ := ex_391
                  have ex_391 := ex_391.trans ct_2
                  refine lv_iload hx hb dL_isStep_394 (lv_at hl 7 rfl) ?_
                  refine lv_icmp_ne (tgt := 403) hx hb dL_isStep_396 (by decide) (fun c_396 => ?_) (fun c_396 => ?_)
                  · exact absurd (ex_391.trans ((kil_333 hk_289).trans ex_14.symm)) c_396
                  · refine lv_iconst (v := nI 1) hx hb dL_isStep_399 (by decide) ?_
                    refine lv_goto (tgt := 404) hx hb dL_isStep_400 (by decide) ?_
                    refine g2_zret hx hb hr hlk hE hw1 hw2 hS rfl dL_isStep_404 ?_
                    exact ⟨rfl, _, _, _, _, _, _, _, hV1, hV2, hokn, hokb, hsn, (flkB_mono (flkB_eq hfa (kil_333 hk_289)) (by omega)), (flkB_mono hfb (by omega))⟩
    refine lv_if_ne (tgt := 317) hx hb dL_isStep_310 (by decide) (fun c_310 => ?_) (fun c_310 => ?_)
    · refine lv_iconst (v := nI 0) hx hb dL_isStep_317 (by decide) ?_
      exact K_318 (nI 0) (by first | (rw [if_neg c_310]; rfl) | (rw [if_pos (Decidable.not_not.mp c_310)]; rfl) | (rw [if_pos c_310]; rfl)) _ _ _ hw1 hw2 hS (lv_sub hl [2, 3, 4, 5, 6, 7, 8, 1, 0] rfl)
    · refine lv_iconst (v := nI 1) hx hb dL_isStep_313 (by decide) ?_
      refine lv_goto (tgt := 318) hx hb dL_isStep_314 (by decide) ?_
      exact K_318 (nI 1) (by first | (rw [if_neg c_310]; rfl) | (rw [if_pos (Decidable.not_not.mp c_310)]; rfl) | (rw [if_pos c_310]; rfl)) _ _ _ hw1 hw2 hS (lv_sub hl [2, 3, 4, 5, 6, 7, 8, 1, 0] rfl)
  have K_575 : ∀ (H : Heap) (locs : List Loc) (ls : Array Slot), Wcel G1 τ_14 H → Wcel G2 σ2 H → va_S (bA A1 A2) sS.heap H locs → lv_has ls 19 [(0, .ref (G1.1 5 0)), (1, .ref (G2.1 5 0)), (2, .int x), (3, .int y), (4, .int x_2), (5, .int x_7), (6, .int x_14)] → W pP l eE { frames := 9, cells := 0, slots := 0, locals := 206 } sS mM args below meth cC H locs 0 0 (MQ below (va_Qi (fun r (τ : W2) => r = nI 1 ∧ Iv (B + 183600) τ.1 τ.2) (fun τ t => LPw G1 G2 A1 A2 τ t) (bA A1 A2)) args sS 0 0 (bA A1 A2)) (F0 mM 575 ls []) := by
    intro   H locs ls hw1 hw2 hS hl
    refine lv_iconst (v := nI 1) hx hb dL_isStep_575 (by decide) ?_
    refine lv_iload_n hx hb dL_isStep_576 rfl (lv_at hl 3 rfl) ?_
    refine lv_iload hx hb dL_isStep_577 (lv_at hl 4 rfl) ?_
    refine lv_iconst (v := nI 3) hx hb dL_isStep_579 (by decide) ?_
    refine g2_S1i (n := 2) (As := [.int x_2, .int (nI 3)]) (rest := [.int y, .int (nI 1)]) hx hb hml hown hts hE hw1 hw2 hS gL_isStep_L_up (c_L_up l G1 A1 _ x_2 3 (by omega) (by omega)) rfl (by decide +kernel) ⟨Nat.le_of_ble_eq_true rfl, Nat.le_of_ble_eq_true rfl⟩ rfl hl.1 rfl (Nat.le_of_ble_eq_true rfl) ⟨Nat.le_of_ble_eq_true rfl, Nat.le_of_ble_eq_true rfl⟩ dL_isStep_580 (fun x_580 τ_580 H locs hp_580 hw1 hw2 hS => ?_)
    obtain ⟨⟨k_580, hk_580, rfl⟩, hτ_580⟩ := hp_580
    rw [hτ_580] at hw1
    have K_596 : ∀ (fr : Nat), (1 ≤ fr) → (fr ≤ 40) → ∀ (H : Heap) (locs : List Loc) (ls : Array Slot), Wcel G1 τ_14 H → Wcel G2 σ2 H → va_S (bA A1 A2) sS.heap H locs → lv_has ls 19 [(0, .ref (G1.1 5 0)), (1, .ref (G2.1 5 0)), (2, .int x), (3, .int y), (4, .int x_2), (5, .int x_7), (6, .int x_14)] → W pP l eE { frames := 9, cells := 0, slots := 0, locals := 206 } sS mM args below meth cC H locs 0 0 (MQ below (va_Qi (fun r (τ : W2) => r = nI 1 ∧ Iv (B + 183600) τ.1 τ.2) (fun τ t => LPw G1 G2 A1 A2 τ t) (bA A1 A2)) args sS 0 0 (bA A1 A2)) (F0 mM 596 ls [.int (nI fr)]) := by
      intro fr hf1 hf2 H locs ls hw1 hw2 hS hl
      refine lv_istore (lv' := [(7, .int (nI fr)), (0, .ref (G1.1 5 0)), (1, .ref (G2.1 5 0)), (2, .int x), (3, .int y), (4, .int x_2), (5, .int x_7), (6, .int x_14)]) hx hb dL_isStep_596 hl (by decide) rfl (fun ls hl => ?_)
      refine lv_aload_n hx hb dL_isStep_598 rfl (lv_at hl 1 rfl) ?_
      refine g2_V1i (n := 0) (As := []) (rest := []) hx hb hml hown hts hE hw1 hw2 hS gL_isStep_X5_restsIn (c_X5_restsInV l G1 A1 _ hV1 hok1) rfl (by decide +kernel) ⟨Nat.le_of_ble_eq_true rfl, Nat.le_of_ble_eq_true rfl⟩ (Nat.zero_lt_one) rfl rfl rfl rfl hl.1 rfl (Nat.le_of_ble_eq_true rfl) ⟨Nat.le_of_ble_eq_true rfl, Nat.le_of_ble_eq_true rfl⟩ dL_isStep_599 (fun x_599 τ_599 H locs hp_599 hw1 hw2 hS => ?_)
      obtain ⟨ex_599, hV1⟩ := hp_599
      refine lv_istore (lv' := [(8, .int x_599), (7, .int (nI fr)), (0, .ref (G1.1 5 0)), (1, .ref (G2.1 5 0)), (2, .int x), (3, .int y), (4, .int x_2), (5, .int x_7), (6, .int x_14)]) hx hb dL_isStep_602 hl (by decide) rfl (fun ls hl => ?_)
      refine lv_aload_n hx hb dL_isStep_604 rfl (lv_at hl 2 rfl) ?_
      refine lv_iconst (v := nI 0) hx hb dL_isStep_605 (by decide) ?_
      refine g2_V1i (n := 1) (As := [.int (nI 0)]) (rest := []) hx hb hml hown hts hE hw1 hw2 hS gL_isStep_X5_count (c_X5_countV l G1 A1 _ (nI 0) hV1 hok1) rfl (by decide +kernel) ⟨Nat.le_of_ble_eq_true rfl, Nat.le_of_ble_eq_true rfl⟩ (Nat.zero_lt_one) rfl rfl rfl rfl hl.1 rfl (Nat.le_of_ble_eq_true rfl) ⟨Nat.le_of_ble_eq_true rfl, Nat.le_of_ble_eq_true rfl⟩ dL_isStep_606 (fun x_606 τ_606 H locs hp_606 hw1 hw2 hS => ?_)
      obtain ⟨ex_606, hV1⟩ := hp_606
      obtain ⟨n_606, ex_606⟩ := ex_606
      have ex_606 := ex_606.trans ct_0
      refine lv_istore (lv' := [(9, .int x_606), (8, .int x_599), (7, .int (nI fr)), (0, .ref (G1.1 5 0)), (1, .ref (G2.1 5 0)), (2, .int x), (3, .int y), (4, .int x_2), (5, .int x_7), (6, .int x_14)]) hx hb dL_isStep_609 hl (by decide) rfl (fun ls hl => ?_)
      refine lv_aload_n hx hb dL_isStep_611 rfl (lv_at hl 3 rfl) ?_
      refine lv_iload hx hb dL_isStep_612 (lv_at hl 2 rfl) ?_
      refine g2_V1i (n := 1) (As := [.int (nI fr)]) (rest := []) hx hb hml hown hts hE hw1 hw2 hS gL_isStep_X5_pass (c_X5_passV l G1 A1 _ (nI fr) hV1 hok1) rfl (by decide +kernel) ⟨Nat.le_of_ble_eq_true rfl, Nat.le_of_ble_eq_true rfl⟩ (Nat.zero_lt_one) rfl rfl rfl rfl hl.1 rfl (Nat.le_of_ble_eq_true rfl) ⟨Nat.le_of_ble_eq_true rfl, Nat.le_of_ble_eq_true rfl⟩ dL_isStep_614 (fun x_614 τ_614 H locs hp_614 hw1 hw2 hS => ?_)
      obtain ⟨ex_614, hV1⟩ := hp_614
      rw [pas_F hf1 (by omega)] at ex_614 hV1
      have ex_614 : x_614 = powK (levO (frA a fr)) 18 := ex_614
      have hV1 : Vw τ_614 (frA a fr) b sn t1 tx1 := hV1
      have hokn := frA_ok hoka fr
      have hok1 := hokn.1
      refine lv_istore (lv' := [(10, .int x_614), (9, .int x_606), (8, .int x_599), (7, .int (nI fr)), (0, .ref (G1.1 5 0)), (1, .ref (G2.1 5 0)), (2, .int x), (3, .int y), (4, .int x_2), (5, .int x_7), (6, .int x_14)]) hx hb dL_isStep_617 hl (by decide) rfl (fun ls hl => ?_)
      refine lv_iload hx hb dL_isStep_619 (lv_at hl 0 rfl) ?_
      refine lv_aload_n hx hb dL_isStep_621 rfl (lv_at hl 4 rfl) ?_
      refine lv_iconst (v := nI 1) hx hb dL_isStep_622 (by decide) ?_
      refine g2_V1i (n := 1) (As := [.int (nI 1)]) (rest := [.int x_614]) hx hb hml hown hts hE hw1 hw2 hS gL_isStep_X5_count (c_X5_countV l G1 A1 _ (nI 1) hV1 hok1) rfl (by decide +kernel) ⟨Nat.le_of_ble_eq_true rfl, Nat.le_of_ble_eq_true rfl⟩ (Nat.zero_lt_one) rfl rfl rfl rfl hl.1 rfl (Nat.le_of_ble_eq_true rfl) ⟨Nat.le_of_ble_eq_true rfl, Nat.le_of_ble_eq_true rfl⟩ dL_isStep_623 (fun x_623 τ_623 H locs hp_623 hw1 hw2 hS => ?_)
      obtain ⟨ex_623, hV1⟩ := hp_623
      obtain ⟨n_623, ex_623⟩ := ex_623
      have ex_623 := ex_623.trans ct_1
      refine lv_icmp_ne (tgt := 669) hx hb dL_isStep_626 (by decide) (fun c_626 => ?_) (fun c_626 => ?_)
      · exact absurd (ex_614.trans ex_623.symm) c_626
      · refine lv_aload_n hx hb dL_isStep_629 rfl (lv_at hl 4 rfl) ?_
        refine lv_iconst (v := nI 0) hx hb dL_isStep_630 (by decide) ?_
        refine g2_V1i (n := 1) (As := [.int (nI 0)]) (rest := []) hx hb hml hown hts hE hw1 hw2 hS gL_isStep_X5_count (c_X5_countV l G1 A1 _ (nI 0) hV1 hok1) rfl (by decide +kernel) ⟨Nat.le_of_ble_eq_true rfl, Nat.le_of_ble_eq_true rfl⟩ (Nat.zero_lt_one) rfl rfl rfl rfl hl.1 rfl (Nat.le_of_ble_eq_true rfl) ⟨Nat.le_of_ble_eq_true rfl, Nat.le_of_ble_eq_true rfl⟩ dL_isStep_631 (fun x_631 τ_631 H locs hp_631 hw1 hw2 hS => ?_)
        obtain ⟨ex_631, hV1⟩ := hp_631
        obtain ⟨n_631, ex_631⟩ := ex_631
        have ex_631 := ex_631.trans ct_0
        refine lv_iload hx hb dL_isStep_634 (lv_at hl 1 rfl) ?_
        refine lv_iload hx hb dL_isStep_636 (lv_at hl 3 rfl) ?_
        refine lv_iadd hx hb dL_isStep_638 ?_
        refine lv_topi (fun x_638 ex_638 => ?_)
        refine lv_icmp_ne (tgt := 669) hx hb dL_isStep_639 (by decide) (fun c_639 => ?_) (fun c_639 => ?_)
        · exact absurd (by rw [ex_631, ex_638, ex_606]; exact fr_332 a fr) c_639
        · refine lv_aload_n hx hb dL_isStep_642 rfl (lv_at hl 4 rfl) ?_
          refine g2_V1i (n := 0) (As := []) (rest := []) hx hb hml hown hts hE hw1 hw2 hS gL_isStep_X5_restsIn (c_X5_restsInV l G1 A1 _ hV1 hok1) rfl (by decide +kernel) ⟨Nat.le_of_ble_eq_true rfl, Nat.le_of_ble_eq_true rfl⟩ (Nat.zero_lt_one) rfl rfl rfl rfl hl.1 rfl (Nat.le_of_ble_eq_true rfl) ⟨Nat.le_of_ble_eq_true rfl, Nat.le_of_ble_eq_true rfl⟩ dL_isStep_643 (fun x_643 τ_643 H locs hp_643 hw1 hw2 hS => ?_)
          obtain ⟨ex_643, hV1⟩ := hp_643
          refine lv_iload hx hb dL_isStep_646 (lv_at hl 2 rfl) ?_
          refine lv_iload hx hb dL_isStep_648 (lv_at hl 3 rfl) ?_
          have K_665 : ∀ (H : Heap) (locs : List Loc) (ls : Array Slot), Wcel G1 τ_643 H → Wcel G2 σ2 H → va_S (bA A1 A2) sS.heap H locs → lv_has ls 19 [(0, .ref (G1.1 5 0)), (1, .ref (G2.1 5 0)), (5, .int x_7), (6, .int x_14), (7, .int (nI fr)), (10, .int x_614)] → W pP l eE { frames := 9, cells := 0, slots := 0, locals := 206 } sS mM args below meth cC H locs 0 0 (MQ below (va_Qi (fun r (τ : W2) => r = nI 1 ∧ Iv (B + 183600) τ.1 τ.2) (fun τ t => LPw G1 G2 A1 A2 τ t) (bA A1 A2)) args sS 0 0 (bA A1 A2)) (F0 mM 665 ls []) := by
            intro   H locs ls hw1 hw2 hS hl
            refine lv_iconst (v := nI 1) hx hb dL_isStep_665 (by decide) ?_
            refine lv_goto (tgt := 670) hx hb dL_isStep_666 (by decide) ?_
            refine lv_istore (lv' := [(11, .int (nI 1)), (0, .ref (G1.1 5 0)), (1, .ref (G2.1 5 0)), (5, .int x_7), (6, .int x_14), (7, .int (nI fr)), (10, .int x_614)]) hx hb dL_isStep_670 hl (by decide) rfl (fun ls hl => ?_)
            refine lv_iconst (v := nI 0) hx hb dL_isStep_672 (by decide) ?_
            refine lv_istore (lv' := [(12, .int (nI 0)), (11, .int (nI 1)), (0, .ref (G1.1 5 0)), (1, .ref (G2.1 5 0)), (5, .int x_7), (6, .int x_14), (7, .int (nI fr)), (10, .int x_614)]) hx hb dL_isStep_673 hl (by decide) rfl (fun ls hl => ?_)
            have K_675 : ∀ (fuel : Nat) (k : Nat) (s1 : St) (s2 : St), (k ≤ fr) → (Vw s1 (frA a fr) b sn t1 tx1) → (Vw s2 (frA a k) b sn t2 tx2) → fr - k < fuel → ∀ (H : Heap) (locs : List Loc) (ls : Array Slot), Wcel G1 s1 H → Wcel G2 s2 H → va_S (bA A1 A2) sS.heap H locs → lv_has ls 19 [(0, .ref (G1.1 5 0)), (1, .ref (G2.1 5 0)), (5, .int x_7), (6, .int x_14), (7, .int (nI fr)), (10, .int x_614), (11, .int (nI 1)), (12, .int (nI k))] → W pP l eE { frames := 9, cells := 0, slots := 0, locals := 206 } sS mM args below meth cC H locs 0 0 (MQ below (va_Qi (fun r (τ : W2) => r = nI 1 ∧ Iv (B + 183600) τ.1 τ.2) (fun τ t => LPw G1 G2 A1 A2 τ t) (bA A1 A2)) args sS 0 0 (bA A1 A2)) (F0 mM 675 ls []) := by
              intro fuel
              induction fuel with
              | zero =>
                intro k s1 s2 hk hV1 hV2 hfu
                exact absurd hfu (Nat.not_lt_zero _)
              | succ fuel K_675 =>
                intro k s1 s2 hk hV1 hV2 hfu H locs ls hw1 hw2 hS hl
                have hok2 := (frA_ok hoka k).1
                refine lv_iload hx hb dL_isStep_675 (lv_at hl 7 rfl) ?_
                refine lv_iload hx hb dL_isStep_677 (lv_at hl 4 rfl) ?_
                refine n_cmp_ge (tgt := 708) hx hb dL_isStep_679 (by decide) (by omega) (by omega) (fun c_679 => ?_) (fun c_679 => ?_)
                · obtain rfl : k = fr := by omega
                  refine lv_iload hx hb dL_isStep_708 (lv_at hl 6 rfl) ?_
                  refine n_if_eq (tgt := 748) hx hb dL_isStep_710 (by decide) (by omega) (fun c_710 => ?_) (fun c_710 => ?_)
                  · exact absurd c_710 (by decide)
                  · refine lv_aload_n hx hb dL_isStep_713 rfl (lv_at hl 0 rfl) ?_
                    refine lv_iconst (v := nI 2) hx hb dL_isStep_714 (by decide) ?_
                    refine g2_V1i (n := 1) (As := [.int (nI 2)]) (rest := []) hx hb hml hown hts hE hw1 hw2 hS gL_isStep_X5_count (c_X5_countV l G1 A1 _ (nI 2) hV1 hok1) rfl (by decide +kernel) ⟨Nat.le_of_ble_eq_true rfl, Nat.le_of_ble_eq_true rfl⟩ (Nat.zero_lt_one) rfl rfl rfl rfl hl.1 rfl (Nat.le_of_ble_eq_true rfl) ⟨Nat.le_of_ble_eq_true rfl, Nat.le_of_ble_eq_true rfl⟩ dL_isStep_715 (fun x_715 τ_715 H locs hp_715 hw1 hw2 hS => ?_)
                    obtain ⟨ex_715, hV1⟩ := hp_715
                    obtain ⟨n_715, ex_715⟩ := ex_715
                    have ex_715 := ex_715.trans ct_2
                    refine lv_iload hx hb dL_isStep_718 (lv_at hl 3 rfl) ?_
                    refine lv_iload hx hb dL_isStep_720 (lv_at hl 5 rfl) ?_
                    refine lv_iload hx hb dL_isStep_722 (lv_at hl 2 rfl) ?_
                    refine lv_icmp_le (tgt := 735) hx hb dL_isStep_724 (by decide) (fun c_724 => ?_) (fun c_724 => ?_)
                    · refine lv_iload hx hb dL_isStep_735 (lv_at hl 2 rfl) ?_
                      refine lv_iload hx hb dL_isStep_737 (lv_at hl 5 rfl) ?_
                      refine lv_isub hx hb dL_isStep_739 ?_
                      refine lv_topi (fun x_739 ex_739 => ?_)
                      refine lv_iadd hx hb dL_isStep_740 ?_
                      refine lv_topi (fun x_740 ex_740 => ?_)
                      refine lv_icmp_lt (tgt := 748) hx hb dL_isStep_741 (by decide) (fun c_741 => ?_) (fun c_741 => ?_)
                      · first | exact absurd c_741 (fl_t hoka hB hf2 hfa ex_14 ex_7 ex_614 ex_715 c_724 ex_739 ex_740) | exact absurd c_741 (fl_f hoka hB hf2 hfa ex_14 ex_7 ex_614 ex_715 (Int32.not_le.mpr c_724) ex_731 ex_740) | exact absurd c_741 (fl_f hoka hB hf2 hfa ex_14 ex_7 ex_614 ex_715 c_724 ex_731 ex_740)
                      · refine lv_iconst (v := nI 1) hx hb dL_isStep_744 (by decide) ?_
                        refine lv_goto (tgt := 749) hx hb dL_isStep_745 (by decide) ?_
                        refine g2_zret hx hb hr hlk hE hw1 hw2 hS rfl dL_isStep_749 ?_
                        exact ⟨rfl, _, _, _, _, _, _, _, hV1, hV2, hokn, hokb, hsn, (flkB_fr hoka hf2 hfa), (flkB_mono hfb (by omega))⟩
                    · refine lv_iload hx hb dL_isStep_727 (lv_at hl 5 rfl) ?_
                      refine lv_iload hx hb dL_isStep_729 (lv_at hl 2 rfl) ?_
                      refine lv_isub hx hb dL_isStep_731 ?_
                      refine lv_topi (fun x_731 ex_731 => ?_)
                      refine lv_goto (tgt := 740) hx hb dL_isStep_732 (by decide) ?_
                      refine lv_iadd hx hb dL_isStep_740 ?_
                      refine lv_topi (fun x_740 ex_740 => ?_)
                      refine lv_icmp_lt (tgt := 748) hx hb dL_isStep_741 (by decide) (fun c_741 => ?_) (fun c_741 => ?_)
                      · first | exact absurd c_741 (fl_t hoka hB hf2 hfa ex_14 ex_7 ex_614 ex_715 c_724 ex_739 ex_740) | exact absurd c_741 (fl_f hoka hB hf2 hfa ex_14 ex_7 ex_614 ex_715 (Int32.not_le.mpr c_724) ex_731 ex_740) | exact absurd c_741 (fl_f hoka hB hf2 hfa ex_14 ex_7 ex_614 ex_715 c_724 ex_731 ex_740)
                      · refine lv_iconst (v := nI 1) hx hb dL_isStep_744 (by decide) ?_
                        refine lv_goto (tgt := 749) hx hb dL_isStep_745 (by decide) ?_
                        refine g2_zret hx hb hr hlk hE hw1 hw2 hS rfl dL_isStep_749 ?_
                        exact ⟨rfl, _, _, _, _, _, _, _, hV1, hV2, hokn, hokb, hsn, (flkB_fr hoka hf2 hfa), (flkB_mono hfb (by omega))⟩
                · refine lv_iload hx hb dL_isStep_682 (lv_at hl 6 rfl) ?_
                  refine n_if_eq (tgt := 699) hx hb dL_isStep_684 (by decide) (by omega) (fun c_684 => ?_) (fun c_684 => ?_)
                  · exact absurd c_684 (by decide)
                  · refine lv_aload_n hx hb dL_isStep_687 rfl (lv_at hl 1 rfl) ?_
                    refine lv_iconst (v := nI 1) hx hb dL_isStep_688 (by decide) ?_
                    refine g2_V2i (n := 1) (As := [.int (nI 1)]) (rest := []) hx hb hml hown hts hE hw1 hw2 hS gL_isStep_X5_pass (c_X5_passV l G2 A2 _ (nI 1) hV2 hok2) rfl (by decide +kernel) ⟨Nat.le_of_ble_eq_true rfl, Nat.le_of_ble_eq_true rfl⟩ (Nat.zero_lt_one) rfl rfl rfl rfl hl.1 rfl (Nat.le_of_ble_eq_true rfl) ⟨Nat.le_of_ble_eq_true rfl, Nat.le_of_ble_eq_true rfl⟩ dL_isStep_689 (fun x_689 τ_689 H locs hp_689 hw1 hw2 hS => ?_)
                    obtain ⟨ex_689, hV2⟩ := hp_689
                    rw [pas_F (k := 1) (by decide) (by decide), frA_s] at ex_689 hV2
                    have ex_689 : x_689 = powK (levO (frA a (k + 1))) 18 := ex_689
                    have hV2 : Vw τ_689 (frA a (k + 1)) b sn t2 tx2 := hV2
                    refine lv_if_lt (tgt := 699) hx hb dL_isStep_692 (by decide) (fun c_692 => ?_) (fun c_692 => ?_)
                    · exact absurd c_692 (pow_pos (frA_ok hoka (k + 1)) ex_689)
                    · refine lv_iconst (v := nI 1) hx hb dL_isStep_695 (by decide) ?_
                      refine lv_goto (tgt := 700) hx hb dL_isStep_696 (by decide) ?_
                      refine lv_istore (lv' := [(11, .int (nI 1)), (0, .ref (G1.1 5 0)), (1, .ref (G2.1 5 0)), (5, .int x_7), (6, .int x_14), (7, .int (nI fr)), (10, .int x_614), (12, .int (nI k))]) hx hb dL_isStep_700 hl (by decide) rfl (fun ls hl => ?_)
                      refine lv_iinc (v := nI (k + 1)) (lv' := [(12, .int (nI (k + 1))), (11, .int (nI 1)), (0, .ref (G1.1 5 0)), (1, .ref (G2.1 5 0)), (5, .int x_7), (6, .int x_14), (7, .int (nI fr)), (10, .int x_614)]) hx hb dL_isStep_702 hl (k := 7) rfl (nI_add _ _) (by decide) rfl (fun ls hl => ?_)
                      refine lv_goto (tgt := 675) hx hb dL_isStep_705 (by decide) ?_
                      exact K_675 (k + 1) _ _ (by first | omega | assumption | rfl) hV1 hV2 (by omega) _ _ _ hw1 hw2 hS (lv_sub hl [2, 3, 4, 5, 6, 7, 1, 0] rfl)
            exact K_675 (fr - 0 + 1) 0 _ _ (by first | omega | assumption | rfl) hV1 hV2 (Nat.lt_succ_self _) _ _ _ hw1 hw2 hS (lv_sub hl [2, 3, 4, 5, 6, 7, 1, 0] rfl)
          refine lv_icmp_le (tgt := 661) hx hb dL_isStep_650 (by decide) (fun c_650 => ?_) (fun c_650 => ?_)
          · refine lv_iconst (v := nI 0) hx hb dL_isStep_661 (by decide) ?_
            refine lv_icmp_ne (tgt := 669) hx hb dL_isStep_662 (by decide) (fun c_662 => ?_) (fun c_662 => ?_)
            · first | exact absurd (rs_t hoka hf2 ex_599 ex_643 c_650) c_662 | exact absurd ((rs_f hoka hf2 ex_599 ex_643 (Int32.not_le.mpr c_650)).trans ex_657.symm) c_662 | exact absurd ((rs_f hoka hf2 ex_599 ex_643 c_650).trans ex_657.symm) c_662
            · exact K_665   _ _ _ hw1 hw2 hS (lv_sub hl [4, 5, 9, 10, 3, 0] rfl)
          · refine lv_iload hx hb dL_isStep_653 (lv_at hl 2 rfl) ?_
            refine lv_iload hx hb dL_isStep_655 (lv_at hl 3 rfl) ?_
            refine lv_isub hx hb dL_isStep_657 ?_
            refine lv_topi (fun x_657 ex_657 => ?_)
            refine lv_goto (tgt := 662) hx hb dL_isStep_658 (by decide) ?_
            refine lv_icmp_ne (tgt := 669) hx hb dL_isStep_662 (by decide) (fun c_662 => ?_) (fun c_662 => ?_)
            · first | exact absurd (rs_t hoka hf2 ex_599 ex_643 c_650) c_662 | exact absurd ((rs_f hoka hf2 ex_599 ex_643 (Int32.not_le.mpr c_650)).trans ex_657.symm) c_662 | exact absurd ((rs_f hoka hf2 ex_599 ex_643 c_650).trans ex_657.symm) c_662
            · exact K_665   _ _ _ hw1 hw2 hS (lv_sub hl [4, 5, 9, 10, 3, 0] rfl)
    refine n_if_ne (tgt := 591) hx hb dL_isStep_583 (by decide) (by omega) (fun c_583 => ?_) (fun c_583 => ?_)
    · refine lv_iconst (v := nI 3) hx hb dL_isStep_591 (by decide) ?_
      refine g2_S1i (n := 2) (As := [.int y, .int (nI 3)]) (rest := [.int (nI 1)]) hx hb hml hown hts hE hw1 hw2 hS gL_isStep_L_up (c_L_up l G1 A1 _ y 3 (by omega) (by omega)) rfl (by decide +kernel) ⟨Nat.le_of_ble_eq_true rfl, Nat.le_of_ble_eq_true rfl⟩ rfl hl.1 rfl (Nat.le_of_ble_eq_true rfl) ⟨Nat.le_of_ble_eq_true rfl, Nat.le_of_ble_eq_true rfl⟩ dL_isStep_592 (fun x_592 τ_592 H locs hp_592 hw1 hw2 hS => ?_)
      obtain ⟨⟨k_592, hk_592, rfl⟩, hτ_592⟩ := hp_592
      rw [hτ_592] at hw1
      refine n_iadd hx hb dL_isStep_595 ?_
      exact K_596 (1 + k_592) (by omega) (by omega) _ _ _ hw1 hw2 hS (lv_sub hl [0, 1, 2, 3, 4, 5, 6] rfl)
    · refine lv_bipush (v := nI 40) hx hb dL_isStep_586 (by decide) ?_
      refine lv_goto (tgt := 592) hx hb dL_isStep_588 (by decide) ?_
      refine g2_S1i (n := 2) (As := [.int y, .int (nI 40)]) (rest := [.int (nI 1)]) hx hb hml hown hts hE hw1 hw2 hS gL_isStep_L_up (c_L_up l G1 A1 _ y 40 (by omega) (by omega)) rfl (by decide +kernel) ⟨Nat.le_of_ble_eq_true rfl, Nat.le_of_ble_eq_true rfl⟩ rfl hl.1 rfl (Nat.le_of_ble_eq_true rfl) ⟨Nat.le_of_ble_eq_true rfl, Nat.le_of_ble_eq_true rfl⟩ dL_isStep_592 (fun x_592 τ_592 H locs hp_592 hw1 hw2 hS => ?_)
      obtain ⟨⟨k_592, hk_592, rfl⟩, hτ_592⟩ := hp_592
      rw [hτ_592] at hw1
      refine n_iadd hx hb dL_isStep_595 ?_
      exact K_596 (1 + k_592) (by omega) (by omega) _ _ _ hw1 hw2 hS (lv_sub hl [0, 1, 2, 3, 4, 5, 6] rfl)
  by_cases k_25_0 : nI k_22 = 0
  · refine lv_tableIn (tgt := 80) hx hb dL_isStep_25 (by rw [k_25_0]; decide) (by rw [k_25_0]; decide) (off := 55) (by rw [k_25_0]; decide +kernel) (by decide) ?_
    exact K_80   _ _ _ hw1 hw2 hS (lv_sub hl [3, 4, 5, 6, 2, 1, 0] rfl)
  by_cases k_25_1 : nI k_22 = 1
  · refine lv_tableIn (tgt := 80) hx hb dL_isStep_25 (by rw [k_25_1]; decide) (by rw [k_25_1]; decide) (off := 55) (by rw [k_25_1]; decide +kernel) (by decide) ?_
    exact K_80   _ _ _ hw1 hw2 hS (lv_sub hl [3, 4, 5, 6, 2, 1, 0] rfl)
  by_cases k_25_2 : nI k_22 = 2
  · refine lv_tableIn (tgt := 286) hx hb dL_isStep_25 (by rw [k_25_2]; decide) (by rw [k_25_2]; decide) (off := 261) (by rw [k_25_2]; decide +kernel) (by decide) ?_
    exact K_286   _ _ _ hw1 hw2 hS (lv_sub hl [3, 4, 5, 6, 2, 1, 0] rfl)
  by_cases k_25_3 : nI k_22 = 3
  · refine lv_tableIn (tgt := 286) hx hb dL_isStep_25 (by rw [k_25_3]; decide) (by rw [k_25_3]; decide) (off := 261) (by rw [k_25_3]; decide +kernel) (by decide) ?_
    exact K_286   _ _ _ hw1 hw2 hS (lv_sub hl [3, 4, 5, 6, 2, 1, 0] rfl)
  by_cases k_25_4 : nI k_22 = 4
  · refine lv_tableIn (tgt := 405) hx hb dL_isStep_25 (by rw [k_25_4]; decide) (by rw [k_25_4]; decide) (off := 380) (by rw [k_25_4]; decide +kernel) (by decide) ?_
    refine lv_iload hx hb dL_isStep_405 (lv_at hl 2 rfl) ?_
    refine lv_iconst (v := nI 4) hx hb dL_isStep_407 (by decide) ?_
    refine g2_S1i (n := 2) (As := [.int x_2, .int (nI 4)]) (rest := []) hx hb hml hown hts hE hw1 hw2 hS gL_isStep_L_up (c_L_up l G1 A1 _ x_2 4 (by omega) (by omega)) rfl (by decide +kernel) ⟨Nat.le_of_ble_eq_true rfl, Nat.le_of_ble_eq_true rfl⟩ rfl hl.1 rfl (Nat.le_of_ble_eq_true rfl) ⟨Nat.le_of_ble_eq_true rfl, Nat.le_of_ble_eq_true rfl⟩ dL_isStep_408 (fun x_408 τ_408 H locs hp_408 hw1 hw2 hS => ?_)
    obtain ⟨⟨k_408, hk_408, rfl⟩, hτ_408⟩ := hp_408
    rw [hτ_408] at hw1
    refine lv_istore (lv' := [(7, .int (nI k_408)), (6, .int x_14), (5, .int x_7), (4, .int x_2), (0, .ref (G1.1 5 0)), (1, .ref (G2.1 5 0)), (2, .int x), (3, .int y)]) hx hb dL_isStep_411 hl (by decide) rfl (fun ls hl => ?_)
    refine lv_aload_n hx hb dL_isStep_413 rfl (lv_at hl 4 rfl) ?_
    refine lv_iload hx hb dL_isStep_414 (lv_at hl 0 rfl) ?_
    refine g2_V1i (n := 1) (As := [.int (nI k_408)]) (rest := []) hx hb hml hown hts hE hw1 hw2 hS gL_isStep_X5_move (c_X5_moveV l G1 A1 _ (nI k_408) hV1) rfl (by decide +kernel) ⟨Nat.le_of_ble_eq_true rfl, Nat.le_of_ble_eq_true rfl⟩ (Nat.zero_lt_one) rfl rfl rfl rfl hl.1 rfl (Nat.le_of_ble_eq_true rfl) ⟨Nat.le_of_ble_eq_true rfl, Nat.le_of_ble_eq_true rfl⟩ dL_isStep_416 (fun x_416 τ_416 H locs hp_416 hw1 hw2 hS => ?_)
    obtain ⟨ex_416, hV1⟩ := hp_416
    rw [mov_F hk_408] at ex_416 hV1
    have ex_416 : x_416 = nI (difK (mvA a k_408) a 288) := ex_416
    have hV1 : Vw τ_416 (mvA a k_408) b sn t1 tx1 := hV1
    refine lv_istore (lv' := [(8, .int x_416), (7, .int (nI k_408)), (6, .int x_14), (5, .int x_7), (4, .int x_2), (0, .ref (G1.1 5 0)), (1, .ref (G2.1 5 0)), (2, .int x), (3, .int y)]) hx hb dL_isStep_419 hl (by decide) rfl (fun ls hl => ?_)
    refine lv_iload hx hb dL_isStep_421 (lv_at hl 0 rfl) ?_
    refine lv_aload_n hx hb dL_isStep_423 rfl (lv_at hl 6 rfl) ?_
    refine lv_iload hx hb dL_isStep_424 (lv_at hl 1 rfl) ?_
    refine g2_V2i (n := 1) (As := [.int (nI k_408)]) (rest := [.int x_416]) hx hb hml hown hts hE hw1 hw2 hS gL_isStep_X5_move (c_X5_moveV l G2 A2 _ (nI k_408) hV2) rfl (by decide +kernel) ⟨Nat.le_of_ble_eq_true rfl, Nat.le_of_ble_eq_true rfl⟩ (Nat.zero_lt_one) rfl rfl rfl rfl hl.1 rfl (Nat.le_of_ble_eq_true rfl) ⟨Nat.le_of_ble_eq_true rfl, Nat.le_of_ble_eq_true rfl⟩ dL_isStep_426 (fun x_426 τ_426 H locs hp_426 hw1 hw2 hS => ?_)
    obtain ⟨ex_426, hV2⟩ := hp_426
    rw [mov_F hk_408] at ex_426 hV2
    have ex_426 : x_426 = nI (difK (mvA a k_408) a 288) := ex_426
    have hV2 : Vw τ_426 (mvA a k_408) b sn t2 tx2 := hV2
    refine lv_icmp_ne (tgt := 441) hx hb dL_isStep_429 (by decide) (fun c_429 => ?_) (fun c_429 => ?_)
    · exact absurd (ex_416.trans ex_426.symm) c_429
    · refine lv_iload hx hb dL_isStep_432 (lv_at hl 0 rfl) ?_
      refine lv_if_lt (tgt := 441) hx hb dL_isStep_434 (by decide) (fun c_434 => ?_) (fun c_434 => ?_)
      · exact absurd c_434 (mov_pos ex_416)
      · refine lv_iconst (v := nI 1) hx hb dL_isStep_437 (by decide) ?_
        refine lv_goto (tgt := 442) hx hb dL_isStep_438 (by decide) ?_
        refine lv_istore (lv' := [(9, .int (nI 1)), (8, .int x_416), (7, .int (nI k_408)), (6, .int x_14), (5, .int x_7), (4, .int x_2), (0, .ref (G1.1 5 0)), (1, .ref (G2.1 5 0)), (2, .int x), (3, .int y)]) hx hb dL_isStep_442 hl (by decide) rfl (fun ls hl => ?_)
        refine lv_iload hx hb dL_isStep_444 (lv_at hl 2 rfl) ?_
        refine lv_iconst (v := nI 1) hx hb dL_isStep_446 (by decide) ?_
        refine lv_ixor hx hb dL_isStep_447 ?_
        refine lv_topi (fun x_447 ex_447 => ?_)
        obtain rfl : x_447 = nI (bk k_408) := (ex_447.trans (bk_x _ hk_408))
        refine lv_istore (lv' := [(10, .int (nI (bk k_408))), (9, .int (nI 1)), (8, .int x_416), (7, .int (nI k_408)), (6, .int x_14), (5, .int x_7), (4, .int x_2), (0, .ref (G1.1 5 0)), (1, .ref (G2.1 5 0)), (2, .int x), (3, .int y)]) hx hb dL_isStep_448 hl (by decide) rfl (fun ls hl => ?_)
        refine lv_iload hx hb dL_isStep_450 (lv_at hl 1 rfl) ?_
        refine n_if_eq (tgt := 477) hx hb dL_isStep_452 (by decide) (by omega) (fun c_452 => ?_) (fun c_452 => ?_)
        · exact absurd c_452 (by decide)
        · refine lv_aload_n hx hb dL_isStep_455 rfl (lv_at hl 7 rfl) ?_
          refine lv_iload hx hb dL_isStep_456 (lv_at hl 0 rfl) ?_
          refine g2_V1i (n := 1) (As := [.int (nI (bk k_408))]) (rest := []) hx hb hml hown hts hE hw1 hw2 hS gL_isStep_X5_move (c_X5_moveV l G1 A1 _ (nI (bk k_408)) hV1) rfl (by decide +kernel) ⟨Nat.le_of_ble_eq_true rfl, Nat.le_of_ble_eq_true rfl⟩ (Nat.zero_lt_one) rfl rfl rfl rfl hl.1 rfl (Nat.le_of_ble_eq_true rfl) ⟨Nat.le_of_ble_eq_true rfl, Nat.le_of_ble_eq_true rfl⟩ dL_isStep_458 (fun x_458 τ_458 H locs hp_458 hw1 hw2 hS => ?_)
          obtain ⟨ex_458, hV1⟩ := hp_458
          rw [mov_F (bk_lt hk_408)] at ex_458 hV1
          have ex_458 : x_458 = nI (difK (mvA (mvA a k_408) (bk k_408)) (mvA a k_408) 288) := ex_458
          have hV1 : Vw τ_458 (mvA (mvA a k_408) (bk k_408)) b sn t1 tx1 := hV1
          refine lv_if_lt (tgt := 477) hx hb dL_isStep_461 (by decide) (fun c_461 => ?_) (fun c_461 => ?_)
          · exact absurd c_461 (mov_pos ex_458)
          · refine lv_aload_n hx hb dL_isStep_464 rfl (lv_at hl 8 rfl) ?_
            refine lv_iload hx hb dL_isStep_465 (lv_at hl 0 rfl) ?_
            refine g2_V2i (n := 1) (As := [.int (nI (bk k_408))]) (rest := []) hx hb hml hown hts hE hw1 hw2 hS gL_isStep_X5_move (c_X5_moveV l G2 A2 _ (nI (bk k_408)) hV2) rfl (by decide +kernel) ⟨Nat.le_of_ble_eq_true rfl, Nat.le_of_ble_eq_true rfl⟩ (Nat.zero_lt_one) rfl rfl rfl rfl hl.1 rfl (Nat.le_of_ble_eq_true rfl) ⟨Nat.le_of_ble_eq_true rfl, Nat.le_of_ble_eq_true rfl⟩ dL_isStep_467 (fun x_467 τ_467 H locs hp_467 hw1 hw2 hS => ?_)
            obtain ⟨ex_467, hV2⟩ := hp_467
            rw [mov_F (bk_lt hk_408)] at ex_467 hV2
            have ex_467 : x_467 = nI (difK (mvA (mvA a k_408) (bk k_408)) (mvA a k_408) 288) := ex_467
            have hV2 : Vw τ_467 (mvA (mvA a k_408) (bk k_408)) b sn t2 tx2 := hV2
            refine lv_if_lt (tgt := 477) hx hb dL_isStep_470 (by decide) (fun c_470 => ?_) (fun c_470 => ?_)
            · exact absurd c_470 (mov_pos ex_467)
            · refine lv_iconst (v := nI 1) hx hb dL_isStep_473 (by decide) ?_
              refine lv_goto (tgt := 478) hx hb dL_isStep_474 (by decide) ?_
              refine lv_istore (lv' := [(9, .int (nI 1)), (10, .int (nI (bk k_408))), (8, .int x_416), (7, .int (nI k_408)), (6, .int x_14), (5, .int x_7), (4, .int x_2), (0, .ref (G1.1 5 0)), (1, .ref (G2.1 5 0)), (2, .int x), (3, .int y)]) hx hb dL_isStep_478 hl (by decide) rfl (fun ls hl => ?_)
              refine lv_iconst (v := nI 0) hx hb dL_isStep_480 (by decide) ?_
              refine lv_istore (lv' := [(11, .int (nI 0)), (9, .int (nI 1)), (10, .int (nI (bk k_408))), (8, .int x_416), (7, .int (nI k_408)), (6, .int x_14), (5, .int x_7), (4, .int x_2), (0, .ref (G1.1 5 0)), (1, .ref (G2.1 5 0)), (2, .int x), (3, .int y)]) hx hb dL_isStep_481 hl (by decide) rfl (fun ls hl => ?_)
              have K_483 : ∀ (fuel : Nat) (k : Nat) (s1 : St) (s2 : St), (k ≤ 24) → (Vw s1 (mvA (mvA a k_408) (bk k_408)) b sn t1 tx1) → (Vw s2 (mvA (mvA a k_408) (bk k_408)) b sn t2 tx2) → 24 - k < fuel → ∀ (H : Heap) (locs : List Loc) (ls : Array Slot), Wcel G1 s1 H → Wcel G2 s2 H → va_S (bA A1 A2) sS.heap H locs → lv_has ls 19 [(0, .ref (G1.1 5 0)), (1, .ref (G2.1 5 0)), (7, .int (nI k_408)), (9, .int (nI 1)), (11, .int (nI k))] → W pP l eE { frames := 9, cells := 0, slots := 0, locals := 206 } sS mM args below meth cC H locs 0 0 (MQ below (va_Qi (fun r (τ : W2) => r = nI 1 ∧ Iv (B + 183600) τ.1 τ.2) (fun τ t => LPw G1 G2 A1 A2 τ t) (bA A1 A2)) args sS 0 0 (bA A1 A2)) (F0 mM 483 ls []) := by
                intro fuel
                induction fuel with
                | zero =>
                  intro k s1 s2 hk hV1 hV2 hfu
                  exact absurd hfu (Nat.not_lt_zero _)
                | succ fuel K_483 =>
                  intro k s1 s2 hk hV1 hV2 hfu H locs ls hw1 hw2 hS hl
                  refine lv_iload hx hb dL_isStep_483 (lv_at hl 4 rfl) ?_
                  refine lv_bipush (v := nI 24) hx hb dL_isStep_485 (by decide) ?_
                  refine n_cmp_ge (tgt := 572) hx hb dL_isStep_487 (by decide) (by omega) (by omega) (fun c_487 => ?_) (fun c_487 => ?_)
                  · refine lv_iload hx hb dL_isStep_572 (lv_at hl 3 rfl) ?_
                    refine g2_zret hx hb hr hlk hE hw1 hw2 hS rfl dL_isStep_574 ?_
                    exact ⟨rfl, _, _, _, _, _, _, _, hV1, hV2, (mov_ok (mov_ok hoka hk_408) (bk_lt hk_408)), hokb, hsn, (flkB_mono (flkB_eq hfa (mov_333.trans mov_333)) (by omega)), (flkB_mono hfb (by omega))⟩
                  · have hk24 : k < 24 := c_487
                    have K_512 : ∀ (sx : Nat), (sx = sxN k_408 k) → ∀ (H : Heap) (locs : List Loc) (ls : Array Slot), Wcel G1 s1 H → Wcel G2 s2 H → va_S (bA A1 A2) sS.heap H locs → lv_has ls 19 [(0, .ref (G1.1 5 0)), (1, .ref (G2.1 5 0)), (7, .int (nI k_408)), (9, .int (nI 1)), (11, .int (nI k))] → W pP l eE { frames := 9, cells := 0, slots := 0, locals := 206 } sS mM args below meth cC H locs 0 0 (MQ below (va_Qi (fun r (τ : W2) => r = nI 1 ∧ Iv (B + 183600) τ.1 τ.2) (fun τ t => LPw G1 G2 A1 A2 τ t) (bA A1 A2)) args sS 0 0 (bA A1 A2)) (F0 mM 512 ls [.int (nI sx)]) := by
                      intro sx hsx H locs ls hw1 hw2 hS hl
                      refine lv_istore (lv' := [(12, .int (nI sx)), (0, .ref (G1.1 5 0)), (1, .ref (G2.1 5 0)), (7, .int (nI k_408)), (9, .int (nI 1)), (11, .int (nI k))]) hx hb dL_isStep_512 hl (by decide) rfl (fun ls hl => ?_)
                      have K_540 : ∀ (sy : Nat), (sy = syN k_408 k) → ∀ (H : Heap) (locs : List Loc) (ls : Array Slot), Wcel G1 s1 H → Wcel G2 s2 H → va_S (bA A1 A2) sS.heap H locs → lv_has ls 19 [(0, .ref (G1.1 5 0)), (1, .ref (G2.1 5 0)), (7, .int (nI k_408)), (9, .int (nI 1)), (11, .int (nI k)), (12, .int (nI sx))] → W pP l eE { frames := 9, cells := 0, slots := 0, locals := 206 } sS mM args below meth cC H locs 0 0 (MQ below (va_Qi (fun r (τ : W2) => r = nI 1 ∧ Iv (B + 183600) τ.1 τ.2) (fun τ t => LPw G1 G2 A1 A2 τ t) (bA A1 A2)) args sS 0 0 (bA A1 A2)) (F0 mM 540 ls [.int (nI sy)]) := by
                        intro sy hsy H locs ls hw1 hw2 hS hl
                        refine lv_istore (lv' := [(13, .int (nI sy)), (0, .ref (G1.1 5 0)), (1, .ref (G2.1 5 0)), (7, .int (nI k_408)), (9, .int (nI 1)), (11, .int (nI k)), (12, .int (nI sx))]) hx hb dL_isStep_540 hl (by decide) rfl (fun ls hl => ?_)
                        refine lv_iload hx hb dL_isStep_542 (lv_at hl 4 rfl) ?_
                        refine n_if_eq (tgt := 563) hx hb dL_isStep_544 (by decide) (by omega) (fun c_544 => ?_) (fun c_544 => ?_)
                        · exact absurd c_544 (by decide)
                        · refine lv_aload_n hx hb dL_isStep_547 rfl (lv_at hl 1 rfl) ?_
                          refine lv_iload hx hb dL_isStep_548 (lv_at hl 6 rfl) ?_
                          refine lv_iload hx hb dL_isStep_550 (lv_at hl 0 rfl) ?_
                          refine lv_iconst (v := nI 0) hx hb dL_isStep_552 (by decide) ?_
                          refine g2_V1i (n := 3) (As := [.int (nI sx), .int (nI sy), .int (nI 0)]) (rest := []) hx hb hml hown hts hE hw1 hw2 hS gL_isStep_X5_spot (c_X5_spotV l G1 A1 _ (nI sx) (nI sy) (nI 0) hV1) rfl (by decide +kernel) ⟨Nat.le_of_ble_eq_true rfl, Nat.le_of_ble_eq_true rfl⟩ (Nat.zero_lt_one) rfl rfl rfl rfl hl.1 rfl (Nat.le_of_ble_eq_true rfl) ⟨Nat.le_of_ble_eq_true rfl, Nat.le_of_ble_eq_true rfl⟩ dL_isStep_553 (fun x_553 τ_553 H locs hp_553 hw1 hw2 hS => ?_)
                          obtain ⟨ex_553, hV1⟩ := hp_553
                          refine lv_if_ne (tgt := 563) hx hb dL_isStep_556 (by decide) (fun c_556 => ?_) (fun c_556 => ?_)
                          · exact absurd (by rw [ex_553, hsx, hsy]; exact mov_edge hk_408 hk24) c_556
                          · refine lv_iconst (v := nI 1) hx hb dL_isStep_559 (by decide) ?_
                            refine lv_goto (tgt := 564) hx hb dL_isStep_560 (by decide) ?_
                            refine lv_istore (lv' := [(9, .int (nI 1)), (13, .int (nI sy)), (0, .ref (G1.1 5 0)), (1, .ref (G2.1 5 0)), (7, .int (nI k_408)), (11, .int (nI k)), (12, .int (nI sx))]) hx hb dL_isStep_564 hl (by decide) rfl (fun ls hl => ?_)
                            refine lv_iinc (v := nI (k + 1)) (lv' := [(11, .int (nI (k + 1))), (9, .int (nI 1)), (13, .int (nI sy)), (0, .ref (G1.1 5 0)), (1, .ref (G2.1 5 0)), (7, .int (nI k_408)), (12, .int (nI sx))]) hx hb dL_isStep_566 hl (k := 5) rfl (nI_add _ _) (by decide) rfl (fun ls hl => ?_)
                            refine lv_goto (tgt := 483) hx hb dL_isStep_569 (by decide) ?_
                            exact K_483 (k + 1) _ _ (by first | omega | assumption | rfl) hV1 hV2 (by omega) _ _ _ hw1 hw2 hS (lv_sub hl [3, 4, 5, 1, 0] rfl)
                      refine lv_iload hx hb dL_isStep_514 (lv_at hl 3 rfl) ?_
                      refine lv_iconst (v := nI 2) hx hb dL_isStep_516 (by decide) ?_
                      refine n_cmp_ne (tgt := 524) hx hb dL_isStep_517 (by decide) (by omega) (by omega) (fun c_517 => ?_) (fun c_517 => ?_)
                      · refine lv_iload hx hb dL_isStep_524 (lv_at hl 3 rfl) ?_
                        refine lv_iconst (v := nI 3) hx hb dL_isStep_526 (by decide) ?_
                        refine n_cmp_ne (tgt := 535) hx hb dL_isStep_527 (by decide) (by omega) (by omega) (fun c_527 => ?_) (fun c_527 => ?_)
                        · refine lv_iload hx hb dL_isStep_535 (lv_at hl 5 rfl) ?_
                          refine lv_bipush (v := nI 12) hx hb dL_isStep_537 (by decide) ?_
                          refine n_irem hx hb dL_isStep_539 (by omega) (by omega) (by omega) ?_
                          exact K_540 (k % 12) (by unfold syN; (repeat' split) <;> omega) _ _ _ hw1 hw2 hS (lv_sub hl [1, 2, 3, 4, 5, 0] rfl)
                        · refine lv_bipush (v := nI 11) hx hb dL_isStep_530 (by decide) ?_
                          refine lv_goto (tgt := 540) hx hb dL_isStep_532 (by decide) ?_
                          exact K_540 11 (by unfold syN; (repeat' split) <;> omega) _ _ _ hw1 hw2 hS (lv_sub hl [1, 2, 3, 4, 5, 0] rfl)
                      · refine lv_iconst (v := nI 0) hx hb dL_isStep_520 (by decide) ?_
                        refine lv_goto (tgt := 540) hx hb dL_isStep_521 (by decide) ?_
                        exact K_540 0 (by unfold syN; (repeat' split) <;> omega) _ _ _ hw1 hw2 hS (lv_sub hl [1, 2, 3, 4, 5, 0] rfl)
                    refine lv_iload hx hb dL_isStep_490 (lv_at hl 2 rfl) ?_
                    refine n_if_ne (tgt := 499) hx hb dL_isStep_492 (by decide) (by omega) (fun c_492 => ?_) (fun c_492 => ?_)
                    · refine lv_iload hx hb dL_isStep_499 (lv_at hl 2 rfl) ?_
                      refine lv_iconst (v := nI 1) hx hb dL_isStep_501 (by decide) ?_
                      refine n_cmp_ne (tgt := 510) hx hb dL_isStep_502 (by decide) (by omega) (by omega) (fun c_502 => ?_) (fun c_502 => ?_)
                      · refine lv_iload hx hb dL_isStep_510 (lv_at hl 4 rfl) ?_
                        exact K_512 k (by unfold sxN; (repeat' split) <;> omega) _ _ _ hw1 hw2 hS (lv_sub hl [0, 1, 2, 3, 4] rfl)
                      · refine lv_bipush (v := nI 23) hx hb dL_isStep_505 (by decide) ?_
                        refine lv_goto (tgt := 512) hx hb dL_isStep_507 (by decide) ?_
                        exact K_512 23 (by unfold sxN; (repeat' split) <;> omega) _ _ _ hw1 hw2 hS (lv_sub hl [0, 1, 2, 3, 4] rfl)
                    · refine lv_iconst (v := nI 0) hx hb dL_isStep_495 (by decide) ?_
                      refine lv_goto (tgt := 512) hx hb dL_isStep_496 (by decide) ?_
                      exact K_512 0 (by unfold sxN; (repeat' split) <;> omega) _ _ _ hw1 hw2 hS (lv_sub hl [0, 1, 2, 3, 4] rfl)
              exact K_483 (24 - 0 + 1) 0 _ _ (by first | omega | assumption | rfl) hV1 hV2 (Nat.lt_succ_self _) _ _ _ hw1 hw2 hS (lv_sub hl [8, 9, 4, 1, 0] rfl)
  by_cases k_25_5 : nI k_22 = 5
  · refine lv_tableIn (tgt := 575) hx hb dL_isStep_25 (by rw [k_25_5]; decide) (by rw [k_25_5]; decide) (off := 550) (by rw [k_25_5]; decide +kernel) (by decide) ?_
    exact K_575   _ _ _ hw1 hw2 hS (lv_sub hl [3, 4, 5, 6, 2, 1, 0] rfl)
  by_cases k_25_6 : nI k_22 = 6
  · refine lv_tableIn (tgt := 575) hx hb dL_isStep_25 (by rw [k_25_6]; decide) (by rw [k_25_6]; decide) (off := 550) (by rw [k_25_6]; decide +kernel) (by decide) ?_
    exact K_575   _ _ _ hw1 hw2 hS (lv_sub hl [3, 4, 5, 6, 2, 1, 0] rfl)
  by_cases k_25_7 : nI k_22 = 7
  · refine lv_tableIn (tgt := 575) hx hb dL_isStep_25 (by rw [k_25_7]; decide) (by rw [k_25_7]; decide) (off := 550) (by rw [k_25_7]; decide +kernel) (by decide) ?_
    exact K_575   _ _ _ hw1 hw2 hS (lv_sub hl [3, 4, 5, 6, 2, 1, 0] rfl)
  by_cases k_25_8 : nI k_22 = 8
  · refine lv_tableIn (tgt := 750) hx hb dL_isStep_25 (by rw [k_25_8]; decide) (by rw [k_25_8]; decide) (off := 725) (by rw [k_25_8]; decide +kernel) (by decide) ?_
    refine lv_aload_n hx hb dL_isStep_750 rfl (lv_at hl 3 rfl) ?_
    refine lv_aload_n hx hb dL_isStep_751 rfl (lv_at hl 4 rfl) ?_
    refine g2_Si (n := 2) (As := [.ref (G1.1 5 0), .ref (G2.1 5 0)]) (rest := []) hx hb hml hown hts hE hw1 hw2 hS gL_isStep_L_areAlike (c_L_areAlike l G1 G2 A1 A2 _ _ _ _ _ _ _ _ _ _ _ hV1 hV2 hok) rfl (by decide +kernel) ⟨Nat.le_of_ble_eq_true rfl, Nat.le_of_ble_eq_true rfl⟩ rfl hl.1 rfl (Nat.le_of_ble_eq_true rfl) ⟨Nat.le_of_ble_eq_true rfl, Nat.le_of_ble_eq_true rfl⟩ dL_isStep_752 (fun x_752 τ1_752 τ2_752 H locs hp_752 hw1 hw2 hS => ?_)
    obtain ⟨ex_752, hV1, hV2⟩ := hp_752
    obtain rfl : x_752 = nI 1 := ex_752
    have hV1 : Vw τ1_752 a b sn t1 tx1 := hV1
    have hV2 : Vw τ2_752 a b sn t2 tx2 := hV2
    refine g2_zret hx hb hr hlk hE hw1 hw2 hS rfl dL_isStep_755 ?_
    exact ⟨rfl, _, _, _, _, _, _, _, hV1, hV2, hoka, hokb, hsn, (flkB_mono hfa (by omega)), (flkB_mono hfb (by omega))⟩
  by_cases k_25_9 : nI k_22 = 9
  · refine lv_tableIn (tgt := 756) hx hb dL_isStep_25 (by rw [k_25_9]; decide) (by rw [k_25_9]; decide) (off := 731) (by rw [k_25_9]; decide +kernel) (by decide) ?_
    refine lv_iload_n hx hb dL_isStep_756 rfl (lv_at hl 6 rfl) ?_
    refine lv_iconst (v := nI 2) hx hb dL_isStep_757 (by decide) ?_
    refine g2_S1i (n := 2) (As := [.int y, .int (nI 2)]) (rest := []) hx hb hml hown hts hE hw1 hw2 hS gL_isStep_L_up (c_L_up l G1 A1 _ y 2 (by omega) (by omega)) rfl (by decide +kernel) ⟨Nat.le_of_ble_eq_true rfl, Nat.le_of_ble_eq_true rfl⟩ rfl hl.1 rfl (Nat.le_of_ble_eq_true rfl) ⟨Nat.le_of_ble_eq_true rfl, Nat.le_of_ble_eq_true rfl⟩ dL_isStep_758 (fun x_758 τ_758 H locs hp_758 hw1 hw2 hS => ?_)
    obtain ⟨⟨k_758, hk_758, rfl⟩, hτ_758⟩ := hp_758
    rw [hτ_758] at hw1
    refine n_if_ne (tgt := 783) hx hb dL_isStep_761 (by decide) (by omega) (fun c_761 => ?_) (fun c_761 => ?_)
    · refine lv_aload_n hx hb dL_isStep_783 rfl (lv_at hl 3 rfl) ?_
      refine g2_V1i (n := 0) (As := []) (rest := []) hx hb hml hown hts hE hw1 hw2 hS gL_isStep_X5_restore (c_X5_restoreV l G1 A1 _ hV1) rfl (by decide +kernel) ⟨Nat.le_of_ble_eq_true rfl, Nat.le_of_ble_eq_true rfl⟩ (Nat.zero_lt_one) rfl rfl rfl rfl hl.1 rfl (Nat.le_of_ble_eq_true rfl) ⟨Nat.le_of_ble_eq_true rfl, Nat.le_of_ble_eq_true rfl⟩ dL_isStep_784 (fun x_784 τ_784 H locs hp_784 hw1 hw2 hS => ?_)
      obtain ⟨ex_784, hV1⟩ := hp_784
      refine lv_aload_n hx hb dL_isStep_787 rfl (lv_at hl 4 rfl) ?_
      refine g2_V2i (n := 0) (As := []) (rest := [.int x_784]) hx hb hml hown hts hE hw1 hw2 hS gL_isStep_X5_restore (c_X5_restoreV l G2 A2 _ hV2) rfl (by decide +kernel) ⟨Nat.le_of_ble_eq_true rfl, Nat.le_of_ble_eq_true rfl⟩ (Nat.zero_lt_one) rfl rfl rfl rfl hl.1 rfl (Nat.le_of_ble_eq_true rfl) ⟨Nat.le_of_ble_eq_true rfl, Nat.le_of_ble_eq_true rfl⟩ dL_isStep_788 (fun x_788 τ_788 H locs hp_788 hw1 hw2 hS => ?_)
      obtain ⟨ex_788, hV2⟩ := hp_788
      refine lv_icmp_ne (tgt := 798) hx hb dL_isStep_791 (by decide) (fun c_791 => ?_) (fun c_791 => ?_)
      · exact absurd (ex_784.trans ex_788.symm) c_791
      · refine lv_iconst (v := nI 1) hx hb dL_isStep_794 (by decide) ?_
        refine lv_goto (tgt := 799) hx hb dL_isStep_795 (by decide) ?_
        refine g2_zret hx hb hr hlk hE hw1 hw2 hS rfl dL_isStep_799 ?_
        first | exact ⟨rfl, _, _, _, _, _, _, _, hV1, hV2, hoka, hoka, (Or.inr rfl), (flkB_mono hfa (by omega)), (flkB_mono hfa (by omega))⟩ | exact ⟨rfl, _, _, _, _, _, _, _, hV1, hV2, (rst_ok hoka hokb), hokb, hsn, (flkB_mono (rst_flk hfa hfb) (by omega)), (flkB_mono hfb (by omega))⟩
    · refine lv_aload_n hx hb dL_isStep_764 rfl (lv_at hl 3 rfl) ?_
      refine g2_V1i (n := 0) (As := []) (rest := []) hx hb hml hown hts hE hw1 hw2 hS gL_isStep_X5_keep (c_X5_keepV l G1 A1 _ hV1) rfl (by decide +kernel) ⟨Nat.le_of_ble_eq_true rfl, Nat.le_of_ble_eq_true rfl⟩ (Nat.zero_lt_one) rfl rfl rfl rfl hl.1 rfl (Nat.le_of_ble_eq_true rfl) ⟨Nat.le_of_ble_eq_true rfl, Nat.le_of_ble_eq_true rfl⟩ dL_isStep_765 (fun x_765 τ_765 H locs hp_765 hw1 hw2 hS => ?_)
      obtain ⟨ex_765, hV1⟩ := hp_765
      refine lv_aload_n hx hb dL_isStep_768 rfl (lv_at hl 4 rfl) ?_
      refine g2_V2i (n := 0) (As := []) (rest := [.int x_765]) hx hb hml hown hts hE hw1 hw2 hS gL_isStep_X5_keep (c_X5_keepV l G2 A2 _ hV2) rfl (by decide +kernel) ⟨Nat.le_of_ble_eq_true rfl, Nat.le_of_ble_eq_true rfl⟩ (Nat.zero_lt_one) rfl rfl rfl rfl hl.1 rfl (Nat.le_of_ble_eq_true rfl) ⟨Nat.le_of_ble_eq_true rfl, Nat.le_of_ble_eq_true rfl⟩ dL_isStep_769 (fun x_769 τ_769 H locs hp_769 hw1 hw2 hS => ?_)
      obtain ⟨ex_769, hV2⟩ := hp_769
      refine lv_icmp_ne (tgt := 779) hx hb dL_isStep_772 (by decide) (fun c_772 => ?_) (fun c_772 => ?_)
      · exact absurd (ex_765.trans ex_769.symm) c_772
      · refine lv_iconst (v := nI 1) hx hb dL_isStep_775 (by decide) ?_
        refine lv_goto (tgt := 799) hx hb dL_isStep_776 (by decide) ?_
        refine g2_zret hx hb hr hlk hE hw1 hw2 hS rfl dL_isStep_799 ?_
        first | exact ⟨rfl, _, _, _, _, _, _, _, hV1, hV2, hoka, hoka, (Or.inr rfl), (flkB_mono hfa (by omega)), (flkB_mono hfa (by omega))⟩ | exact ⟨rfl, _, _, _, _, _, _, _, hV1, hV2, (rst_ok hoka hokb), hokb, hsn, (flkB_mono (rst_flk hfa hfb) (by omega)), (flkB_mono hfb (by omega))⟩
  refine lv_tableOut (tgt := 800) hx hb dL_isStep_25 (by have t0 := tw_ne (k := 0) (0) (by decide) k_25_0; have t1 := tw_ne (k := 1) (1) (by decide) k_25_1; have t2 := tw_ne (k := 2) (2) (by decide) k_25_2; have t3 := tw_ne (k := 3) (3) (by decide) k_25_3; have t4 := tw_ne (k := 4) (4) (by decide) k_25_4; have t5 := tw_ne (k := 5) (5) (by decide) k_25_5; have t6 := tw_ne (k := 6) (6) (by decide) k_25_6; have t7 := tw_ne (k := 7) (7) (by decide) k_25_7; have t8 := tw_ne (k := 8) (8) (by decide) k_25_8; have t9 := tw_ne (k := 9) (9) (by decide) k_25_9; omega) (by decide) ?_
  refine lv_iload_n hx hb dL_isStep_800 rfl (lv_at hl 6 rfl) ?_
  refine lv_bipush (v := nI 24) hx hb dL_isStep_801 (by decide) ?_
  refine g2_S1i (n := 2) (As := [.int y, .int (nI 24)]) (rest := []) hx hb hml hown hts hE hw1 hw2 hS gL_isStep_L_up (c_L_up l G1 A1 _ y 24 (by omega) (by omega)) rfl (by decide +kernel) ⟨Nat.le_of_ble_eq_true rfl, Nat.le_of_ble_eq_true rfl⟩ rfl hl.1 rfl (Nat.le_of_ble_eq_true rfl) ⟨Nat.le_of_ble_eq_true rfl, Nat.le_of_ble_eq_true rfl⟩ dL_isStep_803 (fun x_803 τ_803 H locs hp_803 hw1 hw2 hS => ?_)
  obtain ⟨⟨k_803, hk_803, rfl⟩, hτ_803⟩ := hp_803
  rw [hτ_803] at hw1
  refine lv_istore (lv' := [(7, .int (nI k_803)), (6, .int x_14), (5, .int x_7), (4, .int x_2), (0, .ref (G1.1 5 0)), (1, .ref (G2.1 5 0)), (2, .int x), (3, .int y)]) hx hb dL_isStep_806 hl (by decide) rfl (fun ls hl => ?_)
  refine lv_iload_n hx hb dL_isStep_808 rfl (lv_at hl 7 rfl) ?_
  refine lv_iconst (v := nI 5) hx hb dL_isStep_809 (by decide) ?_
  refine lv_ishr hx hb dL_isStep_810 ?_
  refine lv_topi (fun x_810 ex_810 => ?_)
  refine lv_bipush (v := nI 12) hx hb dL_isStep_811 (by decide) ?_
  refine g2_S1i (n := 2) (As := [.int x_810, .int (nI 12)]) (rest := []) hx hb hml hown hts hE hw1 hw2 hS gL_isStep_L_up (c_L_up l G1 A1 _ x_810 12 (by omega) (by omega)) rfl (by decide +kernel) ⟨Nat.le_of_ble_eq_true rfl, Nat.le_of_ble_eq_true rfl⟩ rfl hl.1 rfl (Nat.le_of_ble_eq_true rfl) ⟨Nat.le_of_ble_eq_true rfl, Nat.le_of_ble_eq_true rfl⟩ dL_isStep_813 (fun x_813 τ_813 H locs hp_813 hw1 hw2 hS => ?_)
  obtain ⟨⟨k_813, hk_813, rfl⟩, hτ_813⟩ := hp_813
  rw [hτ_813] at hw1
  refine lv_istore (lv' := [(8, .int (nI k_813)), (7, .int (nI k_803)), (6, .int x_14), (5, .int x_7), (4, .int x_2), (0, .ref (G1.1 5 0)), (1, .ref (G2.1 5 0)), (2, .int x), (3, .int y)]) hx hb dL_isStep_816 hl (by decide) rfl (fun ls hl => ?_)
  refine lv_iload hx hb dL_isStep_818 (lv_at hl 4 rfl) ?_
  refine lv_iconst (v := nI 3) hx hb dL_isStep_820 (by decide) ?_
  refine g2_S1i (n := 2) (As := [.int x_2, .int (nI 3)]) (rest := []) hx hb hml hown hts hE hw1 hw2 hS gL_isStep_L_up (c_L_up l G1 A1 _ x_2 3 (by omega) (by omega)) rfl (by decide +kernel) ⟨Nat.le_of_ble_eq_true rfl, Nat.le_of_ble_eq_true rfl⟩ rfl hl.1 rfl (Nat.le_of_ble_eq_true rfl) ⟨Nat.le_of_ble_eq_true rfl, Nat.le_of_ble_eq_true rfl⟩ dL_isStep_821 (fun x_821 τ_821 H locs hp_821 hw1 hw2 hS => ?_)
  obtain ⟨⟨k_821, hk_821, rfl⟩, hτ_821⟩ := hp_821
  rw [hτ_821] at hw1
  have K_843 : ∀ (v : Nat), (v < 256) → ∀ (H : Heap) (locs : List Loc) (ls : Array Slot), Wcel G1 τ_14 H → Wcel G2 σ2 H → va_S (bA A1 A2) sS.heap H locs → lv_has ls 19 [(0, .ref (G1.1 5 0)), (1, .ref (G2.1 5 0)), (2, .int x), (3, .int y), (4, .int x_2), (5, .int x_7), (6, .int x_14), (7, .int (nI k_803)), (8, .int (nI k_813))] → W pP l eE { frames := 9, cells := 0, slots := 0, locals := 206 } sS mM args below meth cC H locs 0 0 (MQ below (va_Qi (fun r (τ : W2) => r = nI 1 ∧ Iv (B + 183600) τ.1 τ.2) (fun τ t => LPw G1 G2 A1 A2 τ t) (bA A1 A2)) args sS 0 0 (bA A1 A2)) (F0 mM 843 ls [.int (nI v)]) := by
    intro v hv H locs ls hw1 hw2 hS hl
    refine lv_istore (lv' := [(9, .int (nI v)), (0, .ref (G1.1 5 0)), (1, .ref (G2.1 5 0)), (2, .int x), (3, .int y), (4, .int x_2), (5, .int x_7), (6, .int x_14), (7, .int (nI k_803)), (8, .int (nI k_813))]) hx hb dL_isStep_843 hl (by decide) rfl (fun ls hl => ?_)
    refine lv_iconst (v := nI 1) hx hb dL_isStep_845 (by decide) ?_
    refine lv_iload hx hb dL_isStep_846 (lv_at hl 5 rfl) ?_
    refine lv_iconst (v := nI 3) hx hb dL_isStep_848 (by decide) ?_
    refine g2_S1i (n := 2) (As := [.int x_2, .int (nI 3)]) (rest := [.int (nI 1)]) hx hb hml hown hts hE hw1 hw2 hS gL_isStep_L_up (c_L_up l G1 A1 _ x_2 3 (by omega) (by omega)) rfl (by decide +kernel) ⟨Nat.le_of_ble_eq_true rfl, Nat.le_of_ble_eq_true rfl⟩ rfl hl.1 rfl (Nat.le_of_ble_eq_true rfl) ⟨Nat.le_of_ble_eq_true rfl, Nat.le_of_ble_eq_true rfl⟩ dL_isStep_849 (fun x_849 τ_849 H locs hp_849 hw1 hw2 hS => ?_)
    obtain ⟨⟨k_849, hk_849, rfl⟩, hτ_849⟩ := hp_849
    rw [hτ_849] at hw1
    refine n_iadd hx hb dL_isStep_852 ?_
    refine lv_istore (lv' := [(10, .int (nI (1 + k_849))), (9, .int (nI v)), (0, .ref (G1.1 5 0)), (1, .ref (G2.1 5 0)), (2, .int x), (3, .int y), (4, .int x_2), (5, .int x_7), (6, .int x_14), (7, .int (nI k_803)), (8, .int (nI k_813))]) hx hb dL_isStep_853 hl (by decide) rfl (fun ls hl => ?_)
    refine lv_iconst (v := nI 1) hx hb dL_isStep_855 (by decide) ?_
    refine lv_iload hx hb dL_isStep_856 (lv_at hl 6 rfl) ?_
    refine lv_iconst (v := nI 3) hx hb dL_isStep_858 (by decide) ?_
    refine lv_ishr hx hb dL_isStep_859 ?_
    refine lv_topi (fun x_859 ex_859 => ?_)
    refine lv_iconst (v := nI 3) hx hb dL_isStep_860 (by decide) ?_
    refine g2_S1i (n := 2) (As := [.int x_859, .int (nI 3)]) (rest := [.int (nI 1)]) hx hb hml hown hts hE hw1 hw2 hS gL_isStep_L_up (c_L_up l G1 A1 _ x_859 3 (by omega) (by omega)) rfl (by decide +kernel) ⟨Nat.le_of_ble_eq_true rfl, Nat.le_of_ble_eq_true rfl⟩ rfl hl.1 rfl (Nat.le_of_ble_eq_true rfl) ⟨Nat.le_of_ble_eq_true rfl, Nat.le_of_ble_eq_true rfl⟩ dL_isStep_861 (fun x_861 τ_861 H locs hp_861 hw1 hw2 hS => ?_)
    obtain ⟨⟨k_861, hk_861, rfl⟩, hτ_861⟩ := hp_861
    rw [hτ_861] at hw1
    refine n_iadd hx hb dL_isStep_864 ?_
    have hw3 : 1 + k_849 = 1 ∨ 1 + k_849 = 2 ∨ 1 + k_849 = 3 := by omega
    have hh3 : 1 + k_861 = 1 ∨ 1 + k_861 = 2 ∨ 1 + k_861 = 3 := by omega
    have hwh : (1 + k_849) * (1 + k_861) ≤ 3 * 3 := Nat.mul_le_mul (by omega) (by omega)
    refine lv_istore (lv' := [(11, .int (nI (1 + k_861))), (10, .int (nI (1 + k_849))), (9, .int (nI v)), (0, .ref (G1.1 5 0)), (1, .ref (G2.1 5 0)), (2, .int x), (3, .int y), (4, .int x_2), (5, .int x_7), (6, .int x_14), (7, .int (nI k_803)), (8, .int (nI k_813))]) hx hb dL_isStep_865 hl (by decide) rfl (fun ls hl => ?_)
    refine lv_iconst (v := nI 0) hx hb dL_isStep_867 (by decide) ?_
    refine lv_istore (lv' := [(12, .int (nI 0)), (11, .int (nI (1 + k_861))), (10, .int (nI (1 + k_849))), (9, .int (nI v)), (0, .ref (G1.1 5 0)), (1, .ref (G2.1 5 0)), (2, .int x), (3, .int y), (4, .int x_2), (5, .int x_7), (6, .int x_14), (7, .int (nI k_803)), (8, .int (nI k_813))]) hx hb dL_isStep_868 hl (by decide) rfl (fun ls hl => ?_)
    refine lv_iconst (v := nI 1) hx hb dL_isStep_870 (by decide) ?_
    refine lv_istore (lv' := [(13, .int (nI 1)), (12, .int (nI 0)), (11, .int (nI (1 + k_861))), (10, .int (nI (1 + k_849))), (9, .int (nI v)), (0, .ref (G1.1 5 0)), (1, .ref (G2.1 5 0)), (2, .int x), (3, .int y), (4, .int x_2), (5, .int x_7), (6, .int x_14), (7, .int (nI k_803)), (8, .int (nI k_813))]) hx hb dL_isStep_871 hl (by decide) rfl (fun ls hl => ?_)
    refine lv_iconst (v := nI 0) hx hb dL_isStep_873 (by decide) ?_
    refine lv_istore (lv' := [(14, .int (nI 0)), (13, .int (nI 1)), (12, .int (nI 0)), (11, .int (nI (1 + k_861))), (10, .int (nI (1 + k_849))), (9, .int (nI v)), (0, .ref (G1.1 5 0)), (1, .ref (G2.1 5 0)), (2, .int x), (3, .int y), (4, .int x_2), (5, .int x_7), (6, .int x_14), (7, .int (nI k_803)), (8, .int (nI k_813))]) hx hb dL_isStep_874 hl (by decide) rfl (fun ls hl => ?_)
    have K_876 : ∀ (fuel : Nat) (k : Nat) (q : Nat) (s1 : St) (s2 : St), (k ≤ (1 + k_849) * (1 + k_861)) → (Vw s1 (askK a k_803 k_813 (1 + k_849) (nI v) k) b sn t1 tx1) → (Vw s2 a b sn t2 tx2) → (q = cntK a k_803 k_813 (1 + k_849) (nI v) k) → (1 + k_849) * (1 + k_861) - k < fuel → ∀ (H : Heap) (locs : List Loc) (ls : Array Slot), Wcel G1 s1 H → Wcel G2 s2 H → va_S (bA A1 A2) sS.heap H locs → lv_has ls 19 [(0, .ref (G1.1 5 0)), (1, .ref (G2.1 5 0)), (7, .int (nI k_803)), (8, .int (nI k_813)), (9, .int (nI v)), (10, .int (nI (1 + k_849))), (11, .int (nI (1 + k_861))), (12, .int (nI q)), (13, .int (nI 1)), (14, .int (nI k))] → W pP l eE { frames := 9, cells := 0, slots := 0, locals := 206 } sS mM args below meth cC H locs 0 0 (MQ below (va_Qi (fun r (τ : W2) => r = nI 1 ∧ Iv (B + 183600) τ.1 τ.2) (fun τ t => LPw G1 G2 A1 A2 τ t) (bA A1 A2)) args sS 0 0 (bA A1 A2)) (F0 mM 876 ls []) := by
      intro fuel
      induction fuel with
      | zero =>
        intro k q s1 s2 hk hV1 hV2 hq hfu
        exact absurd hfu (Nat.not_lt_zero _)
      | succ fuel K_876 =>
        intro k q s1 s2 hk hV1 hV2 hq hfu H locs ls hw1 hw2 hS hl
        refine lv_iload hx hb dL_isStep_876 (lv_at hl 9 rfl) ?_
        refine lv_iload hx hb dL_isStep_878 (lv_at hl 5 rfl) ?_
        refine lv_iload hx hb dL_isStep_880 (lv_at hl 6 rfl) ?_
        refine n_imul hx hb dL_isStep_882 ?_
        refine n_cmp_ge (tgt := 999) hx hb dL_isStep_883 (by decide) (by omega) (by omega) (fun c_883 => ?_) (fun c_883 => ?_)
        · have ek : k = (1 + k_849) * (1 + k_861) := by omega
          rw [ek, rect_eq hk_803 hk_813 hw3 hh3 hv] at hV1
          rw [ek, rect_cnt hoka hk_803 hk_813 hw3 hh3 hv] at hq
          have hokn := rect_ok hoka hk_803 hk_813 hw3 hh3 hv
          refine lv_iload hx hb dL_isStep_999 (lv_at hl 8 rfl) ?_
          refine n_if_eq (tgt := 1027) hx hb dL_isStep_1001 (by decide) (by omega) (fun c_1001 => ?_) (fun c_1001 => ?_)
          · exact absurd c_1001 (by decide)
          · refine lv_aload_n hx hb dL_isStep_1004 rfl (lv_at hl 1 rfl) ?_
            refine lv_iload hx hb dL_isStep_1005 (lv_at hl 2 rfl) ?_
            refine lv_iload hx hb dL_isStep_1007 (lv_at hl 3 rfl) ?_
            refine lv_iload hx hb dL_isStep_1009 (lv_at hl 5 rfl) ?_
            refine lv_iload hx hb dL_isStep_1011 (lv_at hl 6 rfl) ?_
            refine lv_iload hx hb dL_isStep_1013 (lv_at hl 4 rfl) ?_
            refine lv_iload hx hb dL_isStep_1015 (lv_at hl 7 rfl) ?_
            refine g2_S2i (n := 7) (As := [.ref (G2.1 5 0), .int (nI k_803), .int (nI k_813), .int (nI (1 + k_849)), .int (nI (1 + k_861)), .int (nI v), .int (nI q)]) (rest := []) hx hb hml hown hts hE hw1 hw2 hS gL_isStep_L_isAskedByText (c_L_isAskedByText l G2 A2 _ k_803 k_813 (1 + k_849) (1 + k_861) v q _ _ _ _ _ hV2 hk_803 hk_813 ⟨by omega, by omega⟩ ⟨by omega, by omega⟩ hv hq) rfl (by decide +kernel) ⟨Nat.le_of_ble_eq_true rfl, Nat.le_of_ble_eq_true rfl⟩ rfl hl.1 rfl (Nat.le_of_ble_eq_true rfl) ⟨Nat.le_of_ble_eq_true rfl, Nat.le_of_ble_eq_true rfl⟩ dL_isStep_1017 (fun x_1017 τ_1017 H locs hp_1017 hw1 hw2 hS => ?_)
            obtain ⟨ex_1017, t_1017, tx_1017, hV2⟩ := hp_1017
            refine lv_if_eq (tgt := 1027) hx hb dL_isStep_1020 (by decide) (fun c_1020 => ?_) (fun c_1020 => ?_)
            · exact absurd (ex_1017.symm.trans c_1020) (by decide)
            · refine lv_iconst (v := nI 1) hx hb dL_isStep_1023 (by decide) ?_
              refine lv_goto (tgt := 1028) hx hb dL_isStep_1024 (by decide) ?_
              refine g2_zret hx hb hr hlk hE hw1 hw2 hS rfl dL_isStep_1028 ?_
              exact ⟨rfl, _, _, _, _, _, _, _, hV1, hV2, hokn, hokb, hsn, (flkB_mono (flkB_eq hfa rect_333) (by omega)), (flkB_mono hfb (by omega))⟩
        · have hk9 : k < 9 := by omega
          have h1m : k % (1 + k_849) < 3 := Nat.lt_of_lt_of_le (Nat.mod_lt _ (by omega)) (by omega)
          have h2d : k / (1 + k_849) < 10 := Nat.lt_of_le_of_lt (Nat.div_le_self _ _) (by omega)
          refine lv_iload hx hb dL_isStep_886 (lv_at hl 2 rfl) ?_
          refine lv_iload hx hb dL_isStep_888 (lv_at hl 9 rfl) ?_
          refine lv_iload hx hb dL_isStep_890 (lv_at hl 5 rfl) ?_
          refine n_irem hx hb dL_isStep_892 (by omega) (by omega) (by omega) ?_
          refine n_iadd hx hb dL_isStep_893 ?_
          refine lv_istore (lv' := [(15, .int (nI (k_803 + (k % (1 + k_849))))), (0, .ref (G1.1 5 0)), (1, .ref (G2.1 5 0)), (7, .int (nI k_803)), (8, .int (nI k_813)), (9, .int (nI v)), (10, .int (nI (1 + k_849))), (11, .int (nI (1 + k_861))), (12, .int (nI q)), (13, .int (nI 1)), (14, .int (nI k))]) hx hb dL_isStep_894 hl (by decide) rfl (fun ls hl => ?_)
          refine lv_iload hx hb dL_isStep_896 (lv_at hl 4 rfl) ?_
          refine lv_iload hx hb dL_isStep_898 (lv_at hl 10 rfl) ?_
          refine lv_iload hx hb dL_isStep_900 (lv_at hl 6 rfl) ?_
          refine n_idiv hx hb dL_isStep_902 (by omega) (by omega) (by omega) ?_
          refine n_iadd hx hb dL_isStep_903 ?_
          refine lv_istore (lv' := [(16, .int (nI (k_813 + (k / (1 + k_849))))), (15, .int (nI (k_803 + (k % (1 + k_849))))), (0, .ref (G1.1 5 0)), (1, .ref (G2.1 5 0)), (7, .int (nI k_803)), (8, .int (nI k_813)), (9, .int (nI v)), (10, .int (nI (1 + k_849))), (11, .int (nI (1 + k_861))), (12, .int (nI q)), (13, .int (nI 1)), (14, .int (nI k))]) hx hb dL_isStep_904 hl (by decide) rfl (fun ls hl => ?_)
          refine lv_aload_n hx hb dL_isStep_906 rfl (lv_at hl 2 rfl) ?_
          refine lv_iload hx hb dL_isStep_907 (lv_at hl 1 rfl) ?_
          refine lv_iload hx hb dL_isStep_909 (lv_at hl 0 rfl) ?_
          refine lv_iconst (v := nI 0) hx hb dL_isStep_911 (by decide) ?_
          refine g2_V1i (n := 3) (As := [.int (nI (k_803 + (k % (1 + k_849)))), .int (nI (k_813 + (k / (1 + k_849)))), .int (nI 0)]) (rest := []) hx hb hml hown hts hE hw1 hw2 hS gL_isStep_X5_spot (c_X5_spotV l G1 A1 _ (nI (k_803 + (k % (1 + k_849)))) (nI (k_813 + (k / (1 + k_849)))) (nI 0) hV1) rfl (by decide +kernel) ⟨Nat.le_of_ble_eq_true rfl, Nat.le_of_ble_eq_true rfl⟩ (Nat.zero_lt_one) rfl rfl rfl rfl hl.1 rfl (Nat.le_of_ble_eq_true rfl) ⟨Nat.le_of_ble_eq_true rfl, Nat.le_of_ble_eq_true rfl⟩ dL_isStep_912 (fun x_912 τ_912 H locs hp_912 hw1 hw2 hS => ?_)
          obtain ⟨ex_912, hV1⟩ := hp_912
          refine lv_istore (lv' := [(17, .int x_912), (16, .int (nI (k_813 + (k / (1 + k_849))))), (15, .int (nI (k_803 + (k % (1 + k_849))))), (0, .ref (G1.1 5 0)), (1, .ref (G2.1 5 0)), (7, .int (nI k_803)), (8, .int (nI k_813)), (9, .int (nI v)), (10, .int (nI (1 + k_849))), (11, .int (nI (1 + k_861))), (12, .int (nI q)), (13, .int (nI 1)), (14, .int (nI k))]) hx hb dL_isStep_915 hl (by decide) rfl (fun ls hl => ?_)
          refine lv_aload_n hx hb dL_isStep_917 rfl (lv_at hl 3 rfl) ?_
          refine lv_iload hx hb dL_isStep_918 (lv_at hl 2 rfl) ?_
          refine lv_iload hx hb dL_isStep_920 (lv_at hl 1 rfl) ?_
          refine lv_iload hx hb dL_isStep_922 (lv_at hl 7 rfl) ?_
          refine g2_V1i (n := 3) (As := [.int (nI (k_803 + (k % (1 + k_849)))), .int (nI (k_813 + (k / (1 + k_849)))), .int (nI v)]) (rest := []) hx hb hml hown hts hE hw1 hw2 hS gL_isStep_X5_ask (c_X5_askV l G1 A1 _ (nI (k_803 + (k % (1 + k_849)))) (nI (k_813 + (k / (1 + k_849)))) (nI v) hV1) rfl (by decide +kernel) ⟨Nat.le_of_ble_eq_true rfl, Nat.le_of_ble_eq_true rfl⟩ (Nat.zero_lt_one) rfl rfl rfl rfl hl.1 rfl (Nat.le_of_ble_eq_true rfl) ⟨Nat.le_of_ble_eq_true rfl, Nat.le_of_ble_eq_true rfl⟩ dL_isStep_924 (fun x_924 τ_924 H locs hp_924 hw1 hw2 hS => ?_)
          obtain ⟨ex_924, hV1⟩ := hp_924
          have hV1 : Vw τ_924 (askK a k_803 k_813 (1 + k_849) (nI v) (k + 1)) b sn t1 tx1 := hV1
          refine lv_istore (lv' := [(18, .int x_924), (17, .int x_912), (16, .int (nI (k_813 + (k / (1 + k_849))))), (15, .int (nI (k_803 + (k % (1 + k_849))))), (0, .ref (G1.1 5 0)), (1, .ref (G2.1 5 0)), (7, .int (nI k_803)), (8, .int (nI k_813)), (9, .int (nI v)), (10, .int (nI (1 + k_849))), (11, .int (nI (1 + k_861))), (12, .int (nI q)), (13, .int (nI 1)), (14, .int (nI k))]) hx hb dL_isStep_927 hl (by decide) rfl (fun ls hl => ?_)
          refine lv_iload hx hb dL_isStep_929 (lv_at hl 12 rfl) ?_
          refine n_if_eq (tgt := 975) hx hb dL_isStep_931 (by decide) (by omega) (fun c_931 => ?_) (fun c_931 => ?_)
          · exact absurd c_931 (by decide)
          · have K_971 : ∀ (H : Heap) (locs : List Loc) (ls : Array Slot), Wcel G1 τ_924 H → Wcel G2 s2 H → va_S (bA A1 A2) sS.heap H locs → lv_has ls 19 [(0, .ref (G1.1 5 0)), (1, .ref (G2.1 5 0)), (7, .int (nI k_803)), (8, .int (nI k_813)), (9, .int (nI v)), (10, .int (nI (1 + k_849))), (11, .int (nI (1 + k_861))), (12, .int (nI q)), (14, .int (nI k)), (18, .int x_924)] → W pP l eE { frames := 9, cells := 0, slots := 0, locals := 206 } sS mM args below meth cC H locs 0 0 (MQ below (va_Qi (fun r (τ : W2) => r = nI 1 ∧ Iv (B + 183600) τ.1 τ.2) (fun τ t => LPw G1 G2 A1 A2 τ t) (bA A1 A2)) args sS 0 0 (bA A1 A2)) (F0 mM 971 ls []) := by
              intro   H locs ls hw1 hw2 hS hl
              refine lv_iconst (v := nI 1) hx hb dL_isStep_971 (by decide) ?_
              refine lv_goto (tgt := 976) hx hb dL_isStep_972 (by decide) ?_
              refine lv_istore (lv' := [(13, .int (nI 1)), (0, .ref (G1.1 5 0)), (1, .ref (G2.1 5 0)), (7, .int (nI k_803)), (8, .int (nI k_813)), (9, .int (nI v)), (10, .int (nI (1 + k_849))), (11, .int (nI (1 + k_861))), (12, .int (nI q)), (14, .int (nI k)), (18, .int x_924)]) hx hb dL_isStep_976 hl (by decide) rfl (fun ls hl => ?_)
              refine lv_iload hx hb dL_isStep_978 (lv_at hl 8 rfl) ?_
              refine lv_iload hx hb dL_isStep_980 (lv_at hl 10 rfl) ?_
              refine lv_if_lt (tgt := 989) hx hb dL_isStep_982 (by decide) (fun c_982 => ?_) (fun c_982 => ?_)
              · have hq2 : q + 0 = cntK a k_803 k_813 (1 + k_849) (nI v) (k + 1) := by
                  rw [hq]
                  exact cntK_t ex_924 c_982
                refine lv_iconst (v := nI 0) hx hb dL_isStep_989 (by decide) ?_
                refine n_iadd hx hb dL_isStep_990 ?_
                refine lv_istore (lv' := [(12, .int (nI (q + 0))), (13, .int (nI 1)), (0, .ref (G1.1 5 0)), (1, .ref (G2.1 5 0)), (7, .int (nI k_803)), (8, .int (nI k_813)), (9, .int (nI v)), (10, .int (nI (1 + k_849))), (11, .int (nI (1 + k_861))), (14, .int (nI k)), (18, .int x_924)]) hx hb dL_isStep_991 hl (by decide) rfl (fun ls hl => ?_)
                refine lv_iinc (v := nI (k + 1)) (lv' := [(14, .int (nI (k + 1))), (12, .int (nI (q + 0))), (13, .int (nI 1)), (0, .ref (G1.1 5 0)), (1, .ref (G2.1 5 0)), (7, .int (nI k_803)), (8, .int (nI k_813)), (9, .int (nI v)), (10, .int (nI (1 + k_849))), (11, .int (nI (1 + k_861))), (18, .int x_924)]) hx hb dL_isStep_993 hl (k := 9) rfl (nI_add _ _) (by decide) rfl (fun ls hl => ?_)
                refine lv_goto (tgt := 876) hx hb dL_isStep_996 (by decide) ?_
                exact K_876 (k + 1) (q + 0) _ _ (by first | omega | assumption | rfl) hV1 hV2 hq2 (by omega) _ _ _ hw1 hw2 hS (lv_sub hl [3, 4, 5, 6, 7, 8, 9, 1, 2, 0] rfl)
              · have hq2 : q + 1 = cntK a k_803 k_813 (1 + k_849) (nI v) (k + 1) := by
                  rw [hq]
                  exact cntK_f ex_924 c_982
                refine lv_iconst (v := nI 1) hx hb dL_isStep_985 (by decide) ?_
                refine lv_goto (tgt := 990) hx hb dL_isStep_986 (by decide) ?_
                refine n_iadd hx hb dL_isStep_990 ?_
                refine lv_istore (lv' := [(12, .int (nI (q + 1))), (13, .int (nI 1)), (0, .ref (G1.1 5 0)), (1, .ref (G2.1 5 0)), (7, .int (nI k_803)), (8, .int (nI k_813)), (9, .int (nI v)), (10, .int (nI (1 + k_849))), (11, .int (nI (1 + k_861))), (14, .int (nI k)), (18, .int x_924)]) hx hb dL_isStep_991 hl (by decide) rfl (fun ls hl => ?_)
                refine lv_iinc (v := nI (k + 1)) (lv' := [(14, .int (nI (k + 1))), (12, .int (nI (q + 1))), (13, .int (nI 1)), (0, .ref (G1.1 5 0)), (1, .ref (G2.1 5 0)), (7, .int (nI k_803)), (8, .int (nI k_813)), (9, .int (nI v)), (10, .int (nI (1 + k_849))), (11, .int (nI (1 + k_861))), (18, .int x_924)]) hx hb dL_isStep_993 hl (k := 9) rfl (nI_add _ _) (by decide) rfl (fun ls hl => ?_)
                refine lv_goto (tgt := 876) hx hb dL_isStep_996 (by decide) ?_
                exact K_876 (k + 1) (q + 1) _ _ (by first | omega | assumption | rfl) hV1 hV2 hq2 (by omega) _ _ _ hw1 hw2 hS (lv_sub hl [3, 4, 5, 6, 7, 8, 9, 1, 2, 0] rfl)
            refine lv_iload hx hb dL_isStep_934 (lv_at hl 0 rfl) ?_
            refine lv_iload hx hb dL_isStep_936 (lv_at hl 3 rfl) ?_
            refine lv_bipush (v := nI 23) hx hb dL_isStep_938 (by decide) ?_
            refine n_cmp_gt (tgt := 950) hx hb dL_isStep_940 (by decide) (by omega) (by omega) (fun c_940 => ?_) (fun c_940 => ?_)
            · refine lv_iconst (v := (-1)) hx hb dL_isStep_950 (by decide) ?_
              refine lv_goto (tgt := 968) hx hb dL_isStep_951 (by decide) ?_
              refine lv_icmp_ne (tgt := 975) hx hb dL_isStep_968 (by decide) (fun c_968 => ?_) (fun c_968 => ?_)
              · first | exact absurd (ask_off (by omega) (by omega) ex_924 (by omega)) c_968 | exact absurd (ask_had (by omega) (by omega) hv ex_924 ex_912 c_958) c_968 | exact absurd (ask_same (by omega) (by omega) hv ex_924 ex_912 (Decidable.not_not.mp c_958)) c_968 | exact absurd (ask_same (by omega) (by omega) hv ex_924 ex_912 c_958) c_968
              · exact K_971   _ _ _ hw1 hw2 hS (lv_sub hl [4, 5, 6, 7, 8, 9, 10, 11, 13, 0] rfl)
            · refine lv_iload hx hb dL_isStep_943 (lv_at hl 2 rfl) ?_
              refine lv_bipush (v := nI 11) hx hb dL_isStep_945 (by decide) ?_
              refine n_cmp_le (tgt := 954) hx hb dL_isStep_947 (by decide) (by omega) (by omega) (fun c_947 => ?_) (fun c_947 => ?_)
              · refine lv_iload hx hb dL_isStep_954 (lv_at hl 1 rfl) ?_
                refine lv_iload hx hb dL_isStep_956 (lv_at hl 8 rfl) ?_
                refine lv_icmp_ne (tgt := 966) hx hb dL_isStep_958 (by decide) (fun c_958 => ?_) (fun c_958 => ?_)
                · refine lv_iload hx hb dL_isStep_966 (lv_at hl 1 rfl) ?_
                  refine lv_icmp_ne (tgt := 975) hx hb dL_isStep_968 (by decide) (fun c_968 => ?_) (fun c_968 => ?_)
                  · first | exact absurd (ask_off (by omega) (by omega) ex_924 (by omega)) c_968 | exact absurd (ask_had (by omega) (by omega) hv ex_924 ex_912 c_958) c_968 | exact absurd (ask_same (by omega) (by omega) hv ex_924 ex_912 (Decidable.not_not.mp c_958)) c_968 | exact absurd (ask_same (by omega) (by omega) hv ex_924 ex_912 c_958) c_968
                  · exact K_971   _ _ _ hw1 hw2 hS (lv_sub hl [4, 5, 6, 7, 8, 9, 10, 11, 13, 0] rfl)
                · refine lv_bipush (v := (-5)) hx hb dL_isStep_961 (by decide) ?_
                  refine lv_goto (tgt := 968) hx hb dL_isStep_963 (by decide) ?_
                  refine lv_icmp_ne (tgt := 975) hx hb dL_isStep_968 (by decide) (fun c_968 => ?_) (fun c_968 => ?_)
                  · first | exact absurd (ask_off (by omega) (by omega) ex_924 (by omega)) c_968 | exact absurd (ask_had (by omega) (by omega) hv ex_924 ex_912 c_958) c_968 | exact absurd (ask_same (by omega) (by omega) hv ex_924 ex_912 (Decidable.not_not.mp c_958)) c_968 | exact absurd (ask_same (by omega) (by omega) hv ex_924 ex_912 c_958) c_968
                  · exact K_971   _ _ _ hw1 hw2 hS (lv_sub hl [4, 5, 6, 7, 8, 9, 10, 11, 13, 0] rfl)
              · refine lv_iconst (v := (-1)) hx hb dL_isStep_950 (by decide) ?_
                refine lv_goto (tgt := 968) hx hb dL_isStep_951 (by decide) ?_
                refine lv_icmp_ne (tgt := 975) hx hb dL_isStep_968 (by decide) (fun c_968 => ?_) (fun c_968 => ?_)
                · first | exact absurd (ask_off (by omega) (by omega) ex_924 (by omega)) c_968 | exact absurd (ask_had (by omega) (by omega) hv ex_924 ex_912 c_958) c_968 | exact absurd (ask_same (by omega) (by omega) hv ex_924 ex_912 (Decidable.not_not.mp c_958)) c_968 | exact absurd (ask_same (by omega) (by omega) hv ex_924 ex_912 c_958) c_968
                · exact K_971   _ _ _ hw1 hw2 hS (lv_sub hl [4, 5, 6, 7, 8, 9, 10, 11, 13, 0] rfl)
    exact K_876 ((1 + k_849) * (1 + k_861) - 0 + 1) 0 0 _ _ (Nat.zero_le _) hV1 hV2 rfl (Nat.lt_succ_self _) _ _ _ hw1 hw2 hS (lv_sub hl [6, 7, 13, 14, 5, 4, 3, 2, 1, 0] rfl)
  refine n_if_ne (tgt := 833) hx hb dL_isStep_824 (by decide) (by omega) (fun c_824 => ?_) (fun c_824 => ?_)
  · refine lv_iload_n hx hb dL_isStep_833 rfl (lv_at hl 8 rfl) ?_
    refine lv_bipush (v := nI 9) hx hb dL_isStep_834 (by decide) ?_
    refine lv_ishr hx hb dL_isStep_836 ?_
    refine lv_topi (fun x_836 ex_836 => ?_)
    refine lv_sipush (v := nI 256) hx hb dL_isStep_837 (by decide) ?_
    refine g2_S1i (n := 2) (As := [.int x_836, .int (nI 256)]) (rest := []) hx hb hml hown hts hE hw1 hw2 hS gL_isStep_L_up (c_L_up l G1 A1 _ x_836 256 (by omega) (by omega)) rfl (by decide +kernel) ⟨Nat.le_of_ble_eq_true rfl, Nat.le_of_ble_eq_true rfl⟩ rfl hl.1 rfl (Nat.le_of_ble_eq_true rfl) ⟨Nat.le_of_ble_eq_true rfl, Nat.le_of_ble_eq_true rfl⟩ dL_isStep_840 (fun x_840 τ_840 H locs hp_840 hw1 hw2 hS => ?_)
    obtain ⟨⟨k_840, hk_840, rfl⟩, hτ_840⟩ := hp_840
    rw [hτ_840] at hw1
    exact K_843 k_840 (by omega) _ _ _ hw1 hw2 hS (lv_sub hl [5, 6, 7, 8, 4, 3, 2, 1, 0] rfl)
  · refine lv_sipush (v := nI 255) hx hb dL_isStep_827 (by decide) ?_
    refine lv_goto (tgt := 843) hx hb dL_isStep_830 (by decide) ?_
    exact K_843 255 (by omega) _ _ _ hw1 hw2 hS (lv_sub hl [5, 6, 7, 8, 4, 3, 2, 1, 0] rfl)
