/-! THE LAW: its loop, laid by program -/
set_option maxHeartbeats 16000000 in
set_option maxRecDepth 100000 in
/-- the law's loop -/
theorem law_loop (l : Launch) {pP : Program} {eE : Env} {sS : State} {mM : MethodId} {below : List Frame} {meth : Method} {cC : Code} {b L : Nat} {xs : Nat → Int32} (hL : L ≤ 2048) (C0 : lw_At pP sS mM meth cC b L xs) (G : GG) (A : Nat → Prop) (hbA : ¬ A b) (hAs : ∀ q, A q → sS.heap.size ≤ q) (hE : Wenv G A sS sS.heap) (σ0 : St) (hI00 : Inv σ0) (H : Heap) (locs : List Loc) (ls : Array Slot) (hw : Wcel G σ0 H) (hS : va_S A sS.heap H locs) (hl : lv_has ls 8 [(0, .ref b), (1, .ref (G.1 5 0)), (2, .ref (G.1 16 0)), (3, .int (nI 0))]) : W pP l eE room_1 sS mM #[Value.ref b] below meth cC H locs 53 4917 (lw_Z below #[Value.ref b] sS) (F0 mM 18 ls []) := by
  obtain ⟨hx, hb, hr, hml, hown, hts0, hX, hbl, hlocks, hgv⟩ := id C0
  have hts : ∀ w ∈ wsL_law, w.before #[Value.ref b] sS = true := fun w h => hts0 w (wsL_law_in w h)
  have hown : sS.vm.findClass RL = some mM.cls := hown
  have hb : cC.code = cL_law := hb
  have K_18 : ∀ (fuel : Nat) (i : Nat) (σ2 : St), (i ≤ L + 4) → (Inv σ2) → L + 8 - i < fuel → ∀ (H : Heap) (locs : List Loc) (ls : Array Slot), Wcel G σ2 H → va_S A sS.heap H locs → lv_has ls 8 [(0, .ref b), (1, .ref (G.1 5 0)), (2, .ref (G.1 16 0)), (3, .int (nI i))] → W pP l eE room_1 sS mM #[Value.ref b] below meth cC H locs 53 4917 (lw_Z below #[Value.ref b] sS) (F0 mM 18 ls []) := by
    intro fuel
    induction fuel with
    | zero =>
      intro i σ2 hi hI0 hfu
      exact absurd hfu (Nat.not_lt_zero _)
    | succ fuel K_18 =>
      intro i σ2 hi hI0 hfu H locs ls hw hS hl
      obtain ⟨o, n, t, hI⟩ := hI0
      refine lv_iload_n hx hb dL_law_18 rfl (lv_at hl 3 rfl) ?_
      refine lv_aload_n hx hb dL_law_19 rfl (lv_at hl 0 rfl) ?_
      refine va_slen hx hb hX hbl hbA hS dL_law_20 ?_
      refine lv_iconst (v := nI 4) hx hb dL_law_21 (by decide) ?_
      refine lv_isub hx hb dL_law_22 ?_
      refine lv_topi (fun x_22 ex_22 => ?_)
      refine lv_icmp_gt (tgt := 657) hx hb dL_law_23 (by decide) (fun c_23 => ?_) (fun c_23 => ?_)
      · refine lv_iconst (v := nI 1) hx hb dL_law_657 (by decide) ?_
        refine W.widen (k := 600000) (n := 7302250) (by omega) (by omega) ?_
        refine va_forget (fun q hq => hAs _ (hS.2.2 q hq)) ?_
        exact lw_ret (d0 := sS.drawn) (Drawn.sameBut.refl _ _) hx hb hr hlocks dL_law_658
      · have hin := law_in (show L < 2 ^ 30 by omega) (show i < 2 ^ 30 by omega) (by have g := c_23; rw [ex_22] at g; exact g)
        have hme : L + 8 - (i + 4) < fuel := by omega
        have hi4 : i + 4 ≤ L + 4 := by omega
        refine lv_aload_n hx hb dL_law_26 rfl (lv_at hl 0 rfl) ?_
        refine lv_iload_n hx hb dL_law_27 rfl (lv_at hl 3 rfl) ?_
        refine va_sld hx hb hX hbl hbA hS (vp_in_nI (show i < L by omega) (by omega)) dL_law_28 ?_
        refine lv_bipush (v := nI 31) hx hb dL_law_29 (by decide) ?_
        refine lv_iand hx hb dL_law_31 ?_
        refine lv_topi (fun x_31 ex_31 => ?_)
        by_cases k_32_0 : x_31 = 0
        · refine lv_tableIn (tgt := 132) hx hb dL_law_32 (by rw [k_32_0]; decide) (by rw [k_32_0]; decide) (off := 100) (by rw [k_32_0]; decide +kernel) (by decide) ?_
          refine lv_aload_n hx hb dL_law_132 rfl (lv_at hl 1 rfl) ?_
          refine lv_aload_n hx hb dL_law_133 rfl (lv_at hl 0 rfl) ?_
          refine lv_iload_n hx hb dL_law_134 rfl (lv_at hl 3 rfl) ?_
          refine lv_iconst (v := nI 1) hx hb dL_law_135 (by decide) ?_
          refine n_iadd hx hb dL_law_136 ?_
          refine va_sld hx hb hX hbl hbA hS (vp_in_nI (show i + 1 < L by omega) (by omega)) dL_law_137 ?_
          refine lv_aload_n hx hb dL_law_138 rfl (lv_at hl 0 rfl) ?_
          refine lv_iload_n hx hb dL_law_139 rfl (lv_at hl 3 rfl) ?_
          refine lv_iconst (v := nI 2) hx hb dL_law_140 (by decide) ?_
          refine n_iadd hx hb dL_law_141 ?_
          refine va_sld hx hb hX hbl hbA hS (vp_in_nI (show i + 2 < L by omega) (by omega)) dL_law_142 ?_
          refine lv_aload_n hx hb dL_law_143 rfl (lv_at hl 0 rfl) ?_
          refine lv_iload_n hx hb dL_law_144 rfl (lv_at hl 3 rfl) ?_
          refine lv_iconst (v := nI 3) hx hb dL_law_145 (by decide) ?_
          refine n_iadd hx hb dL_law_146 ?_
          refine va_sld hx hb hX hbl hbA hS (vp_in_nI (show i + 3 < L by omega) (by omega)) dL_law_147 ?_
          refine g_Vi (n := 3) (As := [.int (xs (nI (i + 1)).toNatClampNeg), .int (xs (nI (i + 2)).toNatClampNeg), .int (xs (nI (i + 3)).toNatClampNeg)]) (rest := []) hx hb hml hown hts hE hw hS gL_law_X5_ask (c_X5_ask l G A _ (xs (nI (i + 1)).toNatClampNeg) (xs (nI (i + 2)).toNatClampNeg) (xs (nI (i + 3)).toNatClampNeg) _ _ hI.1.1 hI.1.2.1 hI.2.1.1 hI.2.1.2.1) rfl (by decide +kernel) ⟨Nat.le_of_ble_eq_true rfl, Nat.le_of_ble_eq_true rfl⟩ (Nat.zero_lt_one) rfl rfl rfl rfl hl.1 rfl (Nat.le_of_ble_eq_true rfl) ⟨Nat.le_of_ble_eq_true rfl, Nat.le_of_ble_eq_true rfl⟩ dL_law_148 (fun x_148 τ_148 H locs hp_148 hw hS => ?_)
          refine lv_aload_n hx hb dL_law_151 rfl (lv_at hl 2 rfl) ?_
          refine lv_aload_n hx hb dL_law_152 rfl (lv_at hl 0 rfl) ?_
          refine lv_iload_n hx hb dL_law_153 rfl (lv_at hl 3 rfl) ?_
          refine lv_iconst (v := nI 1) hx hb dL_law_154 (by decide) ?_
          refine n_iadd hx hb dL_law_155 ?_
          refine va_sld hx hb hX hbl hbA hS (vp_in_nI (show i + 1 < L by omega) (by omega)) dL_law_156 ?_
          refine lv_aload_n hx hb dL_law_157 rfl (lv_at hl 0 rfl) ?_
          refine lv_iload_n hx hb dL_law_158 rfl (lv_at hl 3 rfl) ?_
          refine lv_iconst (v := nI 2) hx hb dL_law_159 (by decide) ?_
          refine n_iadd hx hb dL_law_160 ?_
          refine va_sld hx hb hX hbl hbA hS (vp_in_nI (show i + 2 < L by omega) (by omega)) dL_law_161 ?_
          refine lv_aload_n hx hb dL_law_162 rfl (lv_at hl 0 rfl) ?_
          refine lv_iload_n hx hb dL_law_163 rfl (lv_at hl 3 rfl) ?_
          refine lv_iconst (v := nI 3) hx hb dL_law_164 (by decide) ?_
          refine n_iadd hx hb dL_law_165 ?_
          refine va_sld hx hb hX hbl hbA hS (vp_in_nI (show i + 3 < L by omega) (by omega)) dL_law_166 ?_
          refine g_Vi (n := 3) (As := [.int (xs (nI (i + 1)).toNatClampNeg), .int (xs (nI (i + 2)).toNatClampNeg), .int (xs (nI (i + 3)).toNatClampNeg)]) (rest := [.int x_148]) hx hb hml hown hts hE hw hS gL_law_X6_ask (c_X6_ask l G A _ (xs (nI (i + 1)).toNatClampNeg) (xs (nI (i + 2)).toNatClampNeg) (xs (nI (i + 3)).toNatClampNeg) _ hI.1.2.1 (by rw [act_m hp_148 (by decide)]; exact hI.2.1.2.2.1)) rfl (by decide +kernel) ⟨Nat.le_of_ble_eq_true rfl, Nat.le_of_ble_eq_true rfl⟩ (Nat.zero_lt_one) rfl rfl rfl rfl hl.1 rfl (Nat.le_of_ble_eq_true rfl) ⟨Nat.le_of_ble_eq_true rfl, Nat.le_of_ble_eq_true rfl⟩ dL_law_167 (fun x_167 τ_167 H locs hp_167 hw hS => ?_)
          rw [show τ_148 17 0 = scr σ2 0 from (act_m hp_148 (by decide)).trans hI.2.2.1.symm] at hp_167
          obtain ⟨he, hI2⟩ := inv_act hI hp_148 hp_167 (ok_askF (by rw [hI.2.2.1]; exact hI.2.2.2.1))
          refine lv_icmp_eq (tgt := 651) hx hb dL_law_170 (by decide) (fun c_170 => ?_) (fun c_170 => ?_)
          · refine lv_iinc (v := nI (i + 4)) (lv' := [(3, .int (nI (i + 4))), (0, .ref b), (1, .ref (G.1 5 0)), (2, .ref (G.1 16 0))]) hx hb dL_law_651 hl (k := 3) rfl (nI_add _ _) (by decide) rfl (fun ls hl => ?_)
            refine lv_goto (tgt := 18) hx hb dL_law_654 (by decide) ?_
            exact K_18 (i + 4) _ hi4 (by first | exact hI2 | exact ⟨o, n, t, hI⟩) hme _ _ _ hw hS (lv_sub hl [1, 2, 3, 0] rfl)
          · exact absurd he c_170
        by_cases k_32_1 : x_31 = 1
        · refine lv_tableIn (tgt := 175) hx hb dL_law_32 (by rw [k_32_1]; decide) (by rw [k_32_1]; decide) (off := 143) (by rw [k_32_1]; decide +kernel) (by decide) ?_
          refine lv_aload_n hx hb dL_law_175 rfl (lv_at hl 1 rfl) ?_
          refine g_Vi (n := 0) (As := []) (rest := []) hx hb hml hown hts hE hw hS gL_law_X5_askAll (c_X5_askAll l G A _ _ _ _ hI.1.2.2 hI.2.1.2.2.2.1 hI.1.1 hI.1.2.1 hI.2.1.1 hI.2.1.2.1) rfl (by decide +kernel) ⟨Nat.le_of_ble_eq_true rfl, Nat.le_of_ble_eq_true rfl⟩ (Nat.zero_lt_one) rfl rfl rfl rfl hl.1 rfl (Nat.le_of_ble_eq_true rfl) ⟨Nat.le_of_ble_eq_true rfl, Nat.le_of_ble_eq_true rfl⟩ dL_law_176 (fun x_176 τ_176 H locs hp_176 hw hS => ?_)
          refine lv_aload_n hx hb dL_law_179 rfl (lv_at hl 2 rfl) ?_
          refine g_Vi (n := 0) (As := []) (rest := [.int x_176]) hx hb hml hown hts hE hw hS gL_law_X6_askAll (c_X6_askAll l G A _ _ _ hI.1.2.1 (by rw [act_m hp_176 (by decide)]; exact hI.2.1.2.2.1) hI.1.2.2 (by rw [act_m hp_176 (by decide)]; exact hI.2.1.2.2.2.2)) rfl (by decide +kernel) ⟨Nat.le_of_ble_eq_true rfl, Nat.le_of_ble_eq_true rfl⟩ (Nat.zero_lt_one) rfl rfl rfl rfl hl.1 rfl (Nat.le_of_ble_eq_true rfl) ⟨Nat.le_of_ble_eq_true rfl, Nat.le_of_ble_eq_true rfl⟩ dL_law_180 (fun x_180 τ_180 H locs hp_180 hw hS => ?_)
          rw [show τ_176 17 0 = scr σ2 0 from (act_m hp_176 (by decide)).trans hI.2.2.1.symm, allF_congr (t := t) (show ∀ j, j < t → τ_176 21 0 j = σ2 9 0 j from fun j hj => by rw [act_m hp_176 (by decide)]; exact (hI.2.2.2.2.2.2 j hj).symm)] at hp_180
          obtain ⟨he, hI2⟩ := inv_act hI hp_176 hp_180 (ok_allF (by rw [hI.2.2.1]; exact hI.2.2.2.1) hI.1.2.2)
          refine lv_icmp_eq (tgt := 651) hx hb dL_law_183 (by decide) (fun c_183 => ?_) (fun c_183 => ?_)
          · refine lv_iinc (v := nI (i + 4)) (lv' := [(3, .int (nI (i + 4))), (0, .ref b), (1, .ref (G.1 5 0)), (2, .ref (G.1 16 0))]) hx hb dL_law_651 hl (k := 3) rfl (nI_add _ _) (by decide) rfl (fun ls hl => ?_)
            refine lv_goto (tgt := 18) hx hb dL_law_654 (by decide) ?_
            exact K_18 (i + 4) _ hi4 (by first | exact hI2 | exact ⟨o, n, t, hI⟩) hme _ _ _ hw hS (lv_sub hl [1, 2, 3, 0] rfl)
          · exact absurd he c_183
        by_cases k_32_2 : x_31 = 2
        · refine lv_tableIn (tgt := 188) hx hb dL_law_32 (by rw [k_32_2]; decide) (by rw [k_32_2]; decide) (off := 156) (by rw [k_32_2]; decide +kernel) (by decide) ?_
          refine lv_aload_n hx hb dL_law_188 rfl (lv_at hl 1 rfl) ?_
          refine lv_aload_n hx hb dL_law_189 rfl (lv_at hl 0 rfl) ?_
          refine lv_iload_n hx hb dL_law_190 rfl (lv_at hl 3 rfl) ?_
          refine lv_iconst (v := nI 1) hx hb dL_law_191 (by decide) ?_
          refine n_iadd hx hb dL_law_192 ?_
          refine va_sld hx hb hX hbl hbA hS (vp_in_nI (show i + 1 < L by omega) (by omega)) dL_law_193 ?_
          refine g_Vi (n := 1) (As := [.int (xs (nI (i + 1)).toNatClampNeg)]) (rest := []) hx hb hml hown hts hE hw hS gL_law_X5_move (c_X5_move l G A _ (xs (nI (i + 1)).toNatClampNeg) _ _ hI.1.1 hI.1.2.1 hI.2.1.1 hI.2.1.2.1) rfl (by decide +kernel) ⟨Nat.le_of_ble_eq_true rfl, Nat.le_of_ble_eq_true rfl⟩ (Nat.zero_lt_one) rfl rfl rfl rfl hl.1 rfl (Nat.le_of_ble_eq_true rfl) ⟨Nat.le_of_ble_eq_true rfl, Nat.le_of_ble_eq_true rfl⟩ dL_law_194 (fun x_194 τ_194 H locs hp_194 hw hS => ?_)
          refine lv_aload_n hx hb dL_law_197 rfl (lv_at hl 2 rfl) ?_
          refine lv_aload_n hx hb dL_law_198 rfl (lv_at hl 0 rfl) ?_
          refine lv_iload_n hx hb dL_law_199 rfl (lv_at hl 3 rfl) ?_
          refine lv_iconst (v := nI 1) hx hb dL_law_200 (by decide) ?_
          refine n_iadd hx hb dL_law_201 ?_
          refine va_sld hx hb hX hbl hbA hS (vp_in_nI (show i + 1 < L by omega) (by omega)) dL_law_202 ?_
          refine g_Vi (n := 1) (As := [.int (xs (nI (i + 1)).toNatClampNeg)]) (rest := [.int x_194]) hx hb hml hown hts hE hw hS gL_law_X6_move (c_X6_move l G A _ (xs (nI (i + 1)).toNatClampNeg) _ hI.1.2.1 (by rw [act_m hp_194 (by decide)]; exact hI.2.1.2.2.1)) rfl (by decide +kernel) ⟨Nat.le_of_ble_eq_true rfl, Nat.le_of_ble_eq_true rfl⟩ (Nat.zero_lt_one) rfl rfl rfl rfl hl.1 rfl (Nat.le_of_ble_eq_true rfl) ⟨Nat.le_of_ble_eq_true rfl, Nat.le_of_ble_eq_true rfl⟩ dL_law_203 (fun x_203 τ_203 H locs hp_203 hw hS => ?_)
          rw [show τ_194 17 0 = scr σ2 0 from (act_m hp_194 (by decide)).trans hI.2.2.1.symm] at hp_203
          obtain ⟨he, hI2⟩ := inv_act hI hp_194 hp_203 (ok_movF (by rw [hI.2.2.1]; exact hI.2.2.2.1))
          refine lv_icmp_eq (tgt := 651) hx hb dL_law_206 (by decide) (fun c_206 => ?_) (fun c_206 => ?_)
          · refine lv_iinc (v := nI (i + 4)) (lv' := [(3, .int (nI (i + 4))), (0, .ref b), (1, .ref (G.1 5 0)), (2, .ref (G.1 16 0))]) hx hb dL_law_651 hl (k := 3) rfl (nI_add _ _) (by decide) rfl (fun ls hl => ?_)
            refine lv_goto (tgt := 18) hx hb dL_law_654 (by decide) ?_
            exact K_18 (i + 4) _ hi4 (by first | exact hI2 | exact ⟨o, n, t, hI⟩) hme _ _ _ hw hS (lv_sub hl [1, 2, 3, 0] rfl)
          · exact absurd he c_206
        by_cases k_32_3 : x_31 = 3
        · refine lv_tableIn (tgt := 211) hx hb dL_law_32 (by rw [k_32_3]; decide) (by rw [k_32_3]; decide) (off := 179) (by rw [k_32_3]; decide +kernel) (by decide) ?_
          have K_230 : ∀ (d : Int32), (d = 0 ∨ d = 1) → (d = if xs (nI (i + 2)).toNatClampNeg = 0 then 0 else 1) → ∀ (H : Heap) (locs : List Loc) (ls : Array Slot), Wcel G σ2 H → va_S A sS.heap H locs → lv_has ls 8 [(0, .ref b), (1, .ref (G.1 5 0)), (2, .ref (G.1 16 0)), (3, .int (nI i))] → W pP l eE room_1 sS mM #[Value.ref b] below meth cC H locs 53 4917 (lw_Z below #[Value.ref b] sS) (F0 mM 230 ls [.int d, .int (xs (nI (i + 1)).toNatClampNeg), .ref (G.1 5 0)]) := by
            intro d hd hdd H locs ls hw hS hl
            refine g_Vi (n := 2) (As := [.int (xs (nI (i + 1)).toNatClampNeg), .int d]) (rest := []) hx hb hml hown hts hE hw hS gL_law_X5_kill (c_X5_kill l G A _ (xs (nI (i + 1)).toNatClampNeg) d _ _ hd hI.1.1 hI.1.2.1 hI.2.1.1 hI.2.1.2.1) rfl (by decide +kernel) ⟨Nat.le_of_ble_eq_true rfl, Nat.le_of_ble_eq_true rfl⟩ (Nat.zero_lt_one) rfl rfl rfl rfl hl.1 rfl (Nat.le_of_ble_eq_true rfl) ⟨Nat.le_of_ble_eq_true rfl, Nat.le_of_ble_eq_true rfl⟩ dL_law_230 (fun x_230 τ_230 H locs hp_230 hw hS => ?_)
            have K_252 : ∀ (d2 : Int32), (d2 = d) → ∀ (H : Heap) (locs : List Loc) (ls : Array Slot), Wcel G τ_230 H → va_S A sS.heap H locs → lv_has ls 8 [(0, .ref b), (1, .ref (G.1 5 0)), (2, .ref (G.1 16 0)), (3, .int (nI i))] → W pP l eE room_1 sS mM #[Value.ref b] below meth cC H locs 53 4917 (lw_Z below #[Value.ref b] sS) (F0 mM 252 ls [.int d2, .int (xs (nI (i + 1)).toNatClampNeg), .ref (G.1 16 0), .int x_230]) := by
              intro d2 hd2 H locs ls hw hS hl
              subst hd2
              refine g_Vi (n := 2) (As := [.int (xs (nI (i + 1)).toNatClampNeg), .int d2]) (rest := [.int x_230]) hx hb hml hown hts hE hw hS gL_law_X6_kill (c_X6_kill l G A _ (xs (nI (i + 1)).toNatClampNeg) d2 _ hd hI.1.2.1 (by rw [act_m hp_230 (by decide)]; exact hI.2.1.2.2.1)) rfl (by decide +kernel) ⟨Nat.le_of_ble_eq_true rfl, Nat.le_of_ble_eq_true rfl⟩ (Nat.zero_lt_one) rfl rfl rfl rfl hl.1 rfl (Nat.le_of_ble_eq_true rfl) ⟨Nat.le_of_ble_eq_true rfl, Nat.le_of_ble_eq_true rfl⟩ dL_law_252 (fun x_252 τ_252 H locs hp_252 hw hS => ?_)
              rw [show τ_230 17 0 = scr σ2 0 from (act_m hp_230 (by decide)).trans hI.2.2.1.symm] at hp_252
              obtain ⟨he, hI2⟩ := inv_act hI hp_230 hp_252 (ok_killF (by rw [hI.2.2.1]; exact hI.2.2.2.1) hd)
              refine lv_icmp_eq (tgt := 651) hx hb dL_law_255 (by decide) (fun c_255 => ?_) (fun c_255 => ?_)
              · refine lv_iinc (v := nI (i + 4)) (lv' := [(3, .int (nI (i + 4))), (0, .ref b), (1, .ref (G.1 5 0)), (2, .ref (G.1 16 0))]) hx hb dL_law_651 hl (k := 3) rfl (nI_add _ _) (by decide) rfl (fun ls hl => ?_)
                refine lv_goto (tgt := 18) hx hb dL_law_654 (by decide) ?_
                exact K_18 (i + 4) _ hi4 (by first | exact hI2 | exact ⟨o, n, t, hI⟩) hme _ _ _ hw hS (lv_sub hl [1, 2, 3, 0] rfl)
              · exact absurd he c_255
            refine lv_aload_n hx hb dL_law_233 rfl (lv_at hl 2 rfl) ?_
            refine lv_aload_n hx hb dL_law_234 rfl (lv_at hl 0 rfl) ?_
            refine lv_iload_n hx hb dL_law_235 rfl (lv_at hl 3 rfl) ?_
            refine lv_iconst (v := nI 1) hx hb dL_law_236 (by decide) ?_
            refine n_iadd hx hb dL_law_237 ?_
            refine va_sld hx hb hX hbl hbA hS (vp_in_nI (show i + 1 < L by omega) (by omega)) dL_law_238 ?_
            refine lv_aload_n hx hb dL_law_239 rfl (lv_at hl 0 rfl) ?_
            refine lv_iload_n hx hb dL_law_240 rfl (lv_at hl 3 rfl) ?_
            refine lv_iconst (v := nI 2) hx hb dL_law_241 (by decide) ?_
            refine n_iadd hx hb dL_law_242 ?_
            refine va_sld hx hb hX hbl hbA hS (vp_in_nI (show i + 2 < L by omega) (by omega)) dL_law_243 ?_
            refine lv_if_eq (tgt := 251) hx hb dL_law_244 (by decide) (fun c_244 => ?_) (fun c_244 => ?_)
            · refine lv_iconst (v := nI 0) hx hb dL_law_251 (by decide) ?_
              exact K_252 (nI 0) (by rw [hdd]; first | (rw [if_pos c_244]; rfl) | (rw [if_neg c_244]; rfl)) _ _ _ hw hS (lv_sub hl [0, 1, 2, 3] rfl)
            · refine lv_iconst (v := nI 1) hx hb dL_law_247 (by decide) ?_
              refine lv_goto (tgt := 252) hx hb dL_law_248 (by decide) ?_
              exact K_252 (nI 1) (by rw [hdd]; first | (rw [if_pos c_244]; rfl) | (rw [if_neg c_244]; rfl)) _ _ _ hw hS (lv_sub hl [0, 1, 2, 3] rfl)
          refine lv_aload_n hx hb dL_law_211 rfl (lv_at hl 1 rfl) ?_
          refine lv_aload_n hx hb dL_law_212 rfl (lv_at hl 0 rfl) ?_
          refine lv_iload_n hx hb dL_law_213 rfl (lv_at hl 3 rfl) ?_
          refine lv_iconst (v := nI 1) hx hb dL_law_214 (by decide) ?_
          refine n_iadd hx hb dL_law_215 ?_
          refine va_sld hx hb hX hbl hbA hS (vp_in_nI (show i + 1 < L by omega) (by omega)) dL_law_216 ?_
          refine lv_aload_n hx hb dL_law_217 rfl (lv_at hl 0 rfl) ?_
          refine lv_iload_n hx hb dL_law_218 rfl (lv_at hl 3 rfl) ?_
          refine lv_iconst (v := nI 2) hx hb dL_law_219 (by decide) ?_
          refine n_iadd hx hb dL_law_220 ?_
          refine va_sld hx hb hX hbl hbA hS (vp_in_nI (show i + 2 < L by omega) (by omega)) dL_law_221 ?_
          refine lv_if_eq (tgt := 229) hx hb dL_law_222 (by decide) (fun c_222 => ?_) (fun c_222 => ?_)
          · refine lv_iconst (v := nI 0) hx hb dL_law_229 (by decide) ?_
            exact K_230 (nI 0) (by first | exact Or.inl rfl | exact Or.inr rfl) (by first | (rw [if_pos c_222]; rfl) | (rw [if_neg c_222]; rfl)) _ _ _ hw hS (lv_sub hl [0, 1, 2, 3] rfl)
          · refine lv_iconst (v := nI 1) hx hb dL_law_225 (by decide) ?_
            refine lv_goto (tgt := 230) hx hb dL_law_226 (by decide) ?_
            exact K_230 (nI 1) (by first | exact Or.inl rfl | exact Or.inr rfl) (by first | (rw [if_pos c_222]; rfl) | (rw [if_neg c_222]; rfl)) _ _ _ hw hS (lv_sub hl [0, 1, 2, 3] rfl)
        by_cases k_32_4 : x_31 = 4
        · refine lv_tableIn (tgt := 260) hx hb dL_law_32 (by rw [k_32_4]; decide) (by rw [k_32_4]; decide) (off := 228) (by rw [k_32_4]; decide +kernel) (by decide) ?_
          refine lv_aload_n hx hb dL_law_260 rfl (lv_at hl 1 rfl) ?_
          refine lv_aload_n hx hb dL_law_261 rfl (lv_at hl 0 rfl) ?_
          refine lv_iload_n hx hb dL_law_262 rfl (lv_at hl 3 rfl) ?_
          refine lv_iconst (v := nI 1) hx hb dL_law_263 (by decide) ?_
          refine n_iadd hx hb dL_law_264 ?_
          refine va_sld hx hb hX hbl hbA hS (vp_in_nI (show i + 1 < L by omega) (by omega)) dL_law_265 ?_
          refine g_Vi (n := 1) (As := [.int (xs (nI (i + 1)).toNatClampNeg)]) (rest := []) hx hb hml hown hts hE hw hS gL_law_X5_pass (c_X5_pass l G A _ (xs (nI (i + 1)).toNatClampNeg) _ _ (by rw [hI.2.2.1]; exact hI.2.2.2.1.1) hI.1.1 hI.1.2.1 hI.2.1.1 hI.2.1.2.1) rfl (by decide +kernel) ⟨Nat.le_of_ble_eq_true rfl, Nat.le_of_ble_eq_true rfl⟩ (Nat.zero_lt_one) rfl rfl rfl rfl hl.1 rfl (Nat.le_of_ble_eq_true rfl) ⟨Nat.le_of_ble_eq_true rfl, Nat.le_of_ble_eq_true rfl⟩ dL_law_266 (fun x_266 τ_266 H locs hp_266 hw hS => ?_)
          refine lv_aload_n hx hb dL_law_269 rfl (lv_at hl 2 rfl) ?_
          refine lv_aload_n hx hb dL_law_270 rfl (lv_at hl 0 rfl) ?_
          refine lv_iload_n hx hb dL_law_271 rfl (lv_at hl 3 rfl) ?_
          refine lv_iconst (v := nI 1) hx hb dL_law_272 (by decide) ?_
          refine n_iadd hx hb dL_law_273 ?_
          refine va_sld hx hb hX hbl hbA hS (vp_in_nI (show i + 1 < L by omega) (by omega)) dL_law_274 ?_
          refine g_Vi (n := 1) (As := [.int (xs (nI (i + 1)).toNatClampNeg)]) (rest := [.int x_266]) hx hb hml hown hts hE hw hS gL_law_X6_pass (c_X6_pass l G A _ (xs (nI (i + 1)).toNatClampNeg) _ (by rw [act_m hp_266 (by decide)]; exact hI.2.2.2.1) hI.1.2.1 (by rw [act_m hp_266 (by decide)]; exact hI.2.1.2.2.1)) rfl (by decide +kernel) ⟨Nat.le_of_ble_eq_true rfl, Nat.le_of_ble_eq_true rfl⟩ (Nat.zero_lt_one) rfl rfl rfl rfl hl.1 rfl (Nat.le_of_ble_eq_true rfl) ⟨Nat.le_of_ble_eq_true rfl, Nat.le_of_ble_eq_true rfl⟩ dL_law_275 (fun x_275 τ_275 H locs hp_275 hw hS => ?_)
          rw [show τ_266 17 0 = scr σ2 0 from (act_m hp_266 (by decide)).trans hI.2.2.1.symm] at hp_275
          obtain ⟨he, hI2⟩ := inv_act hI hp_266 hp_275 (ok_pasF (by rw [hI.2.2.1]; exact hI.2.2.2.1))
          refine lv_icmp_eq (tgt := 651) hx hb dL_law_278 (by decide) (fun c_278 => ?_) (fun c_278 => ?_)
          · refine lv_iinc (v := nI (i + 4)) (lv' := [(3, .int (nI (i + 4))), (0, .ref b), (1, .ref (G.1 5 0)), (2, .ref (G.1 16 0))]) hx hb dL_law_651 hl (k := 3) rfl (nI_add _ _) (by decide) rfl (fun ls hl => ?_)
            refine lv_goto (tgt := 18) hx hb dL_law_654 (by decide) ?_
            exact K_18 (i + 4) _ hi4 (by first | exact hI2 | exact ⟨o, n, t, hI⟩) hme _ _ _ hw hS (lv_sub hl [1, 2, 3, 0] rfl)
          · exact absurd he c_278
        by_cases k_32_5 : x_31 = 5
        · refine lv_tableIn (tgt := 283) hx hb dL_law_32 (by rw [k_32_5]; decide) (by rw [k_32_5]; decide) (off := 251) (by rw [k_32_5]; decide +kernel) (by decide) ?_
          refine lv_aload_n hx hb dL_law_283 rfl (lv_at hl 1 rfl) ?_
          refine lv_aload_n hx hb dL_law_284 rfl (lv_at hl 0 rfl) ?_
          refine lv_iload_n hx hb dL_law_285 rfl (lv_at hl 3 rfl) ?_
          refine lv_iconst (v := nI 1) hx hb dL_law_286 (by decide) ?_
          refine n_iadd hx hb dL_law_287 ?_
          refine va_sld hx hb hX hbl hbA hS (vp_in_nI (show i + 1 < L by omega) (by omega)) dL_law_288 ?_
          refine lv_aload_n hx hb dL_law_289 rfl (lv_at hl 0 rfl) ?_
          refine lv_iload_n hx hb dL_law_290 rfl (lv_at hl 3 rfl) ?_
          refine lv_iconst (v := nI 2) hx hb dL_law_291 (by decide) ?_
          refine n_iadd hx hb dL_law_292 ?_
          refine va_sld hx hb hX hbl hbA hS (vp_in_nI (show i + 2 < L by omega) (by omega)) dL_law_293 ?_
          refine g_Vi (n := 2) (As := [.int (xs (nI (i + 1)).toNatClampNeg), .int (xs (nI (i + 2)).toNatClampNeg)]) (rest := []) hx hb hml hown hts hE hw hS gL_law_X5_set (c_X5_set l G A _ (xs (nI (i + 1)).toNatClampNeg) (xs (nI (i + 2)).toNatClampNeg) _ _ hI.1.1 hI.1.2.1 hI.2.1.1 hI.2.1.2.1) rfl (by decide +kernel) ⟨Nat.le_of_ble_eq_true rfl, Nat.le_of_ble_eq_true rfl⟩ (Nat.zero_lt_one) rfl rfl rfl rfl hl.1 rfl (Nat.le_of_ble_eq_true rfl) ⟨Nat.le_of_ble_eq_true rfl, Nat.le_of_ble_eq_true rfl⟩ dL_law_294 (fun x_294 τ_294 H locs hp_294 hw hS => ?_)
          refine lv_aload_n hx hb dL_law_297 rfl (lv_at hl 2 rfl) ?_
          refine lv_aload_n hx hb dL_law_298 rfl (lv_at hl 0 rfl) ?_
          refine lv_iload_n hx hb dL_law_299 rfl (lv_at hl 3 rfl) ?_
          refine lv_iconst (v := nI 1) hx hb dL_law_300 (by decide) ?_
          refine n_iadd hx hb dL_law_301 ?_
          refine va_sld hx hb hX hbl hbA hS (vp_in_nI (show i + 1 < L by omega) (by omega)) dL_law_302 ?_
          refine lv_aload_n hx hb dL_law_303 rfl (lv_at hl 0 rfl) ?_
          refine lv_iload_n hx hb dL_law_304 rfl (lv_at hl 3 rfl) ?_
          refine lv_iconst (v := nI 2) hx hb dL_law_305 (by decide) ?_
          refine n_iadd hx hb dL_law_306 ?_
          refine va_sld hx hb hX hbl hbA hS (vp_in_nI (show i + 2 < L by omega) (by omega)) dL_law_307 ?_
          refine g_Vi (n := 2) (As := [.int (xs (nI (i + 1)).toNatClampNeg), .int (xs (nI (i + 2)).toNatClampNeg)]) (rest := [.int x_294]) hx hb hml hown hts hE hw hS gL_law_X6_set (c_X6_set l G A _ (xs (nI (i + 1)).toNatClampNeg) (xs (nI (i + 2)).toNatClampNeg) _ hI.1.2.1 (by rw [act_m hp_294 (by decide)]; exact hI.2.1.2.2.1)) rfl (by decide +kernel) ⟨Nat.le_of_ble_eq_true rfl, Nat.le_of_ble_eq_true rfl⟩ (Nat.zero_lt_one) rfl rfl rfl rfl hl.1 rfl (Nat.le_of_ble_eq_true rfl) ⟨Nat.le_of_ble_eq_true rfl, Nat.le_of_ble_eq_true rfl⟩ dL_law_308 (fun x_308 τ_308 H locs hp_308 hw hS => ?_)
          rw [show τ_294 17 0 = scr σ2 0 from (act_m hp_294 (by decide)).trans hI.2.2.1.symm] at hp_308
          obtain ⟨he, hI2⟩ := inv_act hI hp_294 hp_308 (ok_setF (by rw [hI.2.2.1]; exact hI.2.2.2.1))
          refine lv_icmp_eq (tgt := 651) hx hb dL_law_311 (by decide) (fun c_311 => ?_) (fun c_311 => ?_)
          · refine lv_iinc (v := nI (i + 4)) (lv' := [(3, .int (nI (i + 4))), (0, .ref b), (1, .ref (G.1 5 0)), (2, .ref (G.1 16 0))]) hx hb dL_law_651 hl (k := 3) rfl (nI_add _ _) (by decide) rfl (fun ls hl => ?_)
            refine lv_goto (tgt := 18) hx hb dL_law_654 (by decide) ?_
            exact K_18 (i + 4) _ hi4 (by first | exact hI2 | exact ⟨o, n, t, hI⟩) hme _ _ _ hw hS (lv_sub hl [1, 2, 3, 0] rfl)
          · exact absurd he c_311
        by_cases k_32_6 : x_31 = 6
        · refine lv_tableIn (tgt := 316) hx hb dL_law_32 (by rw [k_32_6]; decide) (by rw [k_32_6]; decide) (off := 284) (by rw [k_32_6]; decide +kernel) (by decide) ?_
          refine lv_aload_n hx hb dL_law_316 rfl (lv_at hl 1 rfl) ?_
          refine lv_aload_n hx hb dL_law_317 rfl (lv_at hl 0 rfl) ?_
          refine lv_iload_n hx hb dL_law_318 rfl (lv_at hl 3 rfl) ?_
          refine lv_iconst (v := nI 1) hx hb dL_law_319 (by decide) ?_
          refine n_iadd hx hb dL_law_320 ?_
          refine va_sld hx hb hX hbl hbA hS (vp_in_nI (show i + 1 < L by omega) (by omega)) dL_law_321 ?_
          refine lv_i2c hx hb dL_law_322 rfl ?_
          refine g_Vi (n := 1) (As := [.int (((xs (nI (i + 1)).toNatClampNeg).toUInt32 % 65536).toInt32)]) (rest := []) hx hb hml hown hts hE hw hS gL_law_X5_type (c_X5_type l G A _ t (((xs (nI (i + 1)).toNatClampNeg).toUInt32 % 65536).toInt32) hI.1.2.2 hI.2.1.2.2.2.1 char_nar) rfl (by decide +kernel) ⟨Nat.le_of_ble_eq_true rfl, Nat.le_of_ble_eq_true rfl⟩ (Nat.zero_lt_one) rfl rfl rfl rfl hl.1 rfl (Nat.le_of_ble_eq_true rfl) ⟨Nat.le_of_ble_eq_true rfl, Nat.le_of_ble_eq_true rfl⟩ dL_law_323 (fun x_323 τ_323 H locs hp_323 hw hS => ?_)
          refine lv_aload_n hx hb dL_law_326 rfl (lv_at hl 2 rfl) ?_
          refine lv_aload_n hx hb dL_law_327 rfl (lv_at hl 0 rfl) ?_
          refine lv_iload_n hx hb dL_law_328 rfl (lv_at hl 3 rfl) ?_
          refine lv_iconst (v := nI 1) hx hb dL_law_329 (by decide) ?_
          refine n_iadd hx hb dL_law_330 ?_
          refine va_sld hx hb hX hbl hbA hS (vp_in_nI (show i + 1 < L by omega) (by omega)) dL_law_331 ?_
          refine lv_i2c hx hb dL_law_332 rfl ?_
          refine g_Vi (n := 1) (As := [.int (((xs (nI (i + 1)).toNatClampNeg).toUInt32 % 65536).toInt32)]) (rest := [.int x_323]) hx hb hml hown hts hE hw hS gL_law_X6_type (c_X6_type l G A _ t (((xs (nI (i + 1)).toNatClampNeg).toUInt32 % 65536).toInt32) hI.1.2.2 (by rcases hp_323 with ⟨-, -, g⟩ | ⟨-, -, g⟩; rw [g]; exact hI.2.1.2.2.2.2; rw [g, us_k (by decide), us_k (by decide)]; exact hI.2.1.2.2.2.2)) rfl (by decide +kernel) ⟨Nat.le_of_ble_eq_true rfl, Nat.le_of_ble_eq_true rfl⟩ (Nat.zero_lt_one) rfl rfl rfl rfl hl.1 rfl (Nat.le_of_ble_eq_true rfl) ⟨Nat.le_of_ble_eq_true rfl, Nat.le_of_ble_eq_true rfl⟩ dL_law_333 (fun x_333 τ_333 H locs hp_333 hw hS => ?_)
          obtain ⟨he, hI2⟩ := inv_type hI hp_323 hp_333
          refine lv_icmp_eq (tgt := 651) hx hb dL_law_336 (by decide) (fun c_336 => ?_) (fun c_336 => ?_)
          · refine lv_iinc (v := nI (i + 4)) (lv' := [(3, .int (nI (i + 4))), (0, .ref b), (1, .ref (G.1 5 0)), (2, .ref (G.1 16 0))]) hx hb dL_law_651 hl (k := 3) rfl (nI_add _ _) (by decide) rfl (fun ls hl => ?_)
            refine lv_goto (tgt := 18) hx hb dL_law_654 (by decide) ?_
            exact K_18 (i + 4) _ hi4 (by first | exact hI2 | exact ⟨o, n, t, hI⟩) hme _ _ _ hw hS (lv_sub hl [1, 2, 3, 0] rfl)
          · exact absurd he c_336
        by_cases k_32_7 : x_31 = 7
        · refine lv_tableIn (tgt := 341) hx hb dL_law_32 (by rw [k_32_7]; decide) (by rw [k_32_7]; decide) (off := 309) (by rw [k_32_7]; decide +kernel) (by decide) ?_
          refine lv_aload_n hx hb dL_law_341 rfl (lv_at hl 1 rfl) ?_
          refine g_Vi (n := 0) (As := []) (rest := []) hx hb hml hown hts hE hw hS gL_law_X5_clearText (c_X5_clearText l G A _ ) rfl (by decide +kernel) ⟨Nat.le_of_ble_eq_true rfl, Nat.le_of_ble_eq_true rfl⟩ (Nat.zero_lt_one) rfl rfl rfl rfl hl.1 rfl (Nat.le_of_ble_eq_true rfl) ⟨Nat.le_of_ble_eq_true rfl, Nat.le_of_ble_eq_true rfl⟩ dL_law_342 (fun x_342 τ_342 H locs hp_342 hw hS => ?_)
          refine lv_aload_n hx hb dL_law_345 rfl (lv_at hl 2 rfl) ?_
          refine g_Vi (n := 0) (As := []) (rest := [.int x_342]) hx hb hml hown hts hE hw hS gL_law_X6_clearText (c_X6_clearText l G A _ ) rfl (by decide +kernel) ⟨Nat.le_of_ble_eq_true rfl, Nat.le_of_ble_eq_true rfl⟩ (Nat.zero_lt_one) rfl rfl rfl rfl hl.1 rfl (Nat.le_of_ble_eq_true rfl) ⟨Nat.le_of_ble_eq_true rfl, Nat.le_of_ble_eq_true rfl⟩ dL_law_346 (fun x_346 τ_346 H locs hp_346 hw hS => ?_)
          obtain ⟨he, hI2⟩ := inv_clear hI hp_342 hp_346
          refine lv_icmp_eq (tgt := 651) hx hb dL_law_349 (by decide) (fun c_349 => ?_) (fun c_349 => ?_)
          · refine lv_iinc (v := nI (i + 4)) (lv' := [(3, .int (nI (i + 4))), (0, .ref b), (1, .ref (G.1 5 0)), (2, .ref (G.1 16 0))]) hx hb dL_law_651 hl (k := 3) rfl (nI_add _ _) (by decide) rfl (fun ls hl => ?_)
            refine lv_goto (tgt := 18) hx hb dL_law_654 (by decide) ?_
            exact K_18 (i + 4) _ hi4 (by first | exact hI2 | exact ⟨o, n, t, hI⟩) hme _ _ _ hw hS (lv_sub hl [1, 2, 3, 0] rfl)
          · exact absurd he c_349
        by_cases k_32_8 : x_31 = 8
        · refine lv_tableIn (tgt := 354) hx hb dL_law_32 (by rw [k_32_8]; decide) (by rw [k_32_8]; decide) (off := 322) (by rw [k_32_8]; decide +kernel) (by decide) ?_
          refine lv_aload_n hx hb dL_law_354 rfl (lv_at hl 1 rfl) ?_
          refine g_Vi (n := 0) (As := []) (rest := []) hx hb hml hown hts hE hw hS gL_law_X5_fault (c_X5_fault l G A _ _ hI.1.2.2 hI.2.1.2.2.2.1) rfl (by decide +kernel) ⟨Nat.le_of_ble_eq_true rfl, Nat.le_of_ble_eq_true rfl⟩ (Nat.zero_lt_one) rfl rfl rfl rfl hl.1 rfl (Nat.le_of_ble_eq_true rfl) ⟨Nat.le_of_ble_eq_true rfl, Nat.le_of_ble_eq_true rfl⟩ dL_law_355 (fun x_355 τ_355 H locs hp_355 hw hS => ?_)
          refine lv_aload_n hx hb dL_law_358 rfl (lv_at hl 2 rfl) ?_
          refine g_Vi (n := 0) (As := []) (rest := [.int x_355]) hx hb hml hown hts hE hw hS gL_law_X6_fault (c_X6_fault l G A _ _ hI.1.2.2 (by rw [keepC_m hp_355.2 (by decide)]; exact hI.2.1.2.2.2.2)) rfl (by decide +kernel) ⟨Nat.le_of_ble_eq_true rfl, Nat.le_of_ble_eq_true rfl⟩ (Nat.zero_lt_one) rfl rfl rfl rfl hl.1 rfl (Nat.le_of_ble_eq_true rfl) ⟨Nat.le_of_ble_eq_true rfl, Nat.le_of_ble_eq_true rfl⟩ dL_law_359 (fun x_359 τ_359 H locs hp_359 hw hS => ?_)
          have he : x_355 = x_359 := by rw [hp_355.1, hp_359.1, keepC_m hp_355.2 (by decide)]; exact congrArg Prod.fst (rdF_congr hI.2.2.2.2.2.2)
          have hI2 : Inv τ_359 := ⟨o, n, t, inv_ask hI hp_355.2 (all_keep hp_359.2)⟩
          refine lv_icmp_eq (tgt := 651) hx hb dL_law_362 (by decide) (fun c_362 => ?_) (fun c_362 => ?_)
          · refine lv_iinc (v := nI (i + 4)) (lv' := [(3, .int (nI (i + 4))), (0, .ref b), (1, .ref (G.1 5 0)), (2, .ref (G.1 16 0))]) hx hb dL_law_651 hl (k := 3) rfl (nI_add _ _) (by decide) rfl (fun ls hl => ?_)
            refine lv_goto (tgt := 18) hx hb dL_law_654 (by decide) ?_
            exact K_18 (i + 4) _ hi4 (by first | exact hI2 | exact ⟨o, n, t, hI⟩) hme _ _ _ hw hS (lv_sub hl [1, 2, 3, 0] rfl)
          · exact absurd he c_362
        by_cases k_32_9 : x_31 = 9
        · refine lv_tableIn (tgt := 367) hx hb dL_law_32 (by rw [k_32_9]; decide) (by rw [k_32_9]; decide) (off := 335) (by rw [k_32_9]; decide +kernel) (by decide) ?_
          refine lv_aload_n hx hb dL_law_367 rfl (lv_at hl 1 rfl) ?_
          refine g_Vi (n := 0) (As := []) (rest := []) hx hb hml hown hts hE hw hS gL_law_X5_undo (c_X5_undo l G A _ _ _ hI.1.1 hI.1.2.1 hI.2.1.1 hI.2.1.2.1) rfl (by decide +kernel) ⟨Nat.le_of_ble_eq_true rfl, Nat.le_of_ble_eq_true rfl⟩ (Nat.zero_lt_one) rfl rfl rfl rfl hl.1 rfl (Nat.le_of_ble_eq_true rfl) ⟨Nat.le_of_ble_eq_true rfl, Nat.le_of_ble_eq_true rfl⟩ dL_law_368 (fun x_368 τ_368 H locs hp_368 hw hS => ?_)
          refine lv_aload_n hx hb dL_law_371 rfl (lv_at hl 2 rfl) ?_
          refine g_Vi (n := 0) (As := []) (rest := [.int x_368]) hx hb hml hown hts hE hw hS gL_law_X6_undo (c_X6_undo l G A _ _ hI.1.2.1 (by rw [undo_m hp_368 (by decide)]; exact hI.2.1.2.2.1)) rfl (by decide +kernel) ⟨Nat.le_of_ble_eq_true rfl, Nat.le_of_ble_eq_true rfl⟩ (Nat.zero_lt_one) rfl rfl rfl rfl hl.1 rfl (Nat.le_of_ble_eq_true rfl) ⟨Nat.le_of_ble_eq_true rfl, Nat.le_of_ble_eq_true rfl⟩ dL_law_372 (fun x_372 τ_372 H locs hp_372 hw hS => ?_)
          obtain ⟨he, hI2⟩ := inv_undo hI hp_368 hp_372
          refine lv_icmp_eq (tgt := 651) hx hb dL_law_375 (by decide) (fun c_375 => ?_) (fun c_375 => ?_)
          · refine lv_iinc (v := nI (i + 4)) (lv' := [(3, .int (nI (i + 4))), (0, .ref b), (1, .ref (G.1 5 0)), (2, .ref (G.1 16 0))]) hx hb dL_law_651 hl (k := 3) rfl (nI_add _ _) (by decide) rfl (fun ls hl => ?_)
            refine lv_goto (tgt := 18) hx hb dL_law_654 (by decide) ?_
            exact K_18 (i + 4) _ hi4 (by first | exact hI2 | exact ⟨o, n, t, hI⟩) hme _ _ _ hw hS (lv_sub hl [1, 2, 3, 0] rfl)
          · exact absurd he c_375
        by_cases k_32_10 : x_31 = 10
        · refine lv_tableIn (tgt := 380) hx hb dL_law_32 (by rw [k_32_10]; decide) (by rw [k_32_10]; decide) (off := 348) (by rw [k_32_10]; decide +kernel) (by decide) ?_
          refine lv_aload_n hx hb dL_law_380 rfl (lv_at hl 1 rfl) ?_
          refine g_Vi (n := 0) (As := []) (rest := []) hx hb hml hown hts hE hw hS gL_law_X5_keep (c_X5_keep l G A _ ) rfl (by decide +kernel) ⟨Nat.le_of_ble_eq_true rfl, Nat.le_of_ble_eq_true rfl⟩ (Nat.zero_lt_one) rfl rfl rfl rfl hl.1 rfl (Nat.le_of_ble_eq_true rfl) ⟨Nat.le_of_ble_eq_true rfl, Nat.le_of_ble_eq_true rfl⟩ dL_law_381 (fun x_381 τ_381 H locs hp_381 hw hS => ?_)
          refine lv_aload_n hx hb dL_law_384 rfl (lv_at hl 2 rfl) ?_
          refine g_Vi (n := 0) (As := []) (rest := [.int x_381]) hx hb hml hown hts hE hw hS gL_law_X6_keep (c_X6_keep l G A _ ) rfl (by decide +kernel) ⟨Nat.le_of_ble_eq_true rfl, Nat.le_of_ble_eq_true rfl⟩ (Nat.zero_lt_one) rfl rfl rfl rfl hl.1 rfl (Nat.le_of_ble_eq_true rfl) ⟨Nat.le_of_ble_eq_true rfl, Nat.le_of_ble_eq_true rfl⟩ dL_law_385 (fun x_385 τ_385 H locs hp_385 hw hS => ?_)
          obtain ⟨he, hI2⟩ := inv_keep hI hp_381 hp_385
          refine lv_icmp_eq (tgt := 651) hx hb dL_law_388 (by decide) (fun c_388 => ?_) (fun c_388 => ?_)
          · refine lv_iinc (v := nI (i + 4)) (lv' := [(3, .int (nI (i + 4))), (0, .ref b), (1, .ref (G.1 5 0)), (2, .ref (G.1 16 0))]) hx hb dL_law_651 hl (k := 3) rfl (nI_add _ _) (by decide) rfl (fun ls hl => ?_)
            refine lv_goto (tgt := 18) hx hb dL_law_654 (by decide) ?_
            exact K_18 (i + 4) _ hi4 (by first | exact hI2 | exact ⟨o, n, t, hI⟩) hme _ _ _ hw hS (lv_sub hl [1, 2, 3, 0] rfl)
          · exact absurd he c_388
        by_cases k_32_11 : x_31 = 11
        · refine lv_tableIn (tgt := 393) hx hb dL_law_32 (by rw [k_32_11]; decide) (by rw [k_32_11]; decide) (off := 361) (by rw [k_32_11]; decide +kernel) (by decide) ?_
          refine lv_aload_n hx hb dL_law_393 rfl (lv_at hl 1 rfl) ?_
          refine g_Vi (n := 0) (As := []) (rest := []) hx hb hml hown hts hE hw hS gL_law_X5_restore (c_X5_restore l G A _ _ _ hI.1.1 hI.1.2.1 hI.2.1.1 hI.2.1.2.1) rfl (by decide +kernel) ⟨Nat.le_of_ble_eq_true rfl, Nat.le_of_ble_eq_true rfl⟩ (Nat.zero_lt_one) rfl rfl rfl rfl hl.1 rfl (Nat.le_of_ble_eq_true rfl) ⟨Nat.le_of_ble_eq_true rfl, Nat.le_of_ble_eq_true rfl⟩ dL_law_394 (fun x_394 τ_394 H locs hp_394 hw hS => ?_)
          refine lv_aload_n hx hb dL_law_397 rfl (lv_at hl 2 rfl) ?_
          refine g_Vi (n := 0) (As := []) (rest := [.int x_394]) hx hb hml hown hts hE hw hS gL_law_X6_restore (c_X6_restore l G A _ _ hI.1.2.1 (by rw [act_m hp_394 (by decide)]; exact hI.2.1.2.2.1)) rfl (by decide +kernel) ⟨Nat.le_of_ble_eq_true rfl, Nat.le_of_ble_eq_true rfl⟩ (Nat.zero_lt_one) rfl rfl rfl rfl hl.1 rfl (Nat.le_of_ble_eq_true rfl) ⟨Nat.le_of_ble_eq_true rfl, Nat.le_of_ble_eq_true rfl⟩ dL_law_398 (fun x_398 τ_398 H locs hp_398 hw hS => ?_)
          rw [show restF (τ_394 16 0 4) (τ_394 19 0) = restF (σ2 5 0 2) (scr σ2 1) from by rw [act_m hp_394 (by decide), act_m hp_394 (by decide)]; exact (rest_eq hI).symm] at hp_398
          obtain ⟨he, hI2⟩ := inv_act hI hp_394 hp_398 (ok_restF (rest_ok hI))
          refine lv_icmp_eq (tgt := 651) hx hb dL_law_401 (by decide) (fun c_401 => ?_) (fun c_401 => ?_)
          · refine lv_iinc (v := nI (i + 4)) (lv' := [(3, .int (nI (i + 4))), (0, .ref b), (1, .ref (G.1 5 0)), (2, .ref (G.1 16 0))]) hx hb dL_law_651 hl (k := 3) rfl (nI_add _ _) (by decide) rfl (fun ls hl => ?_)
            refine lv_goto (tgt := 18) hx hb dL_law_654 (by decide) ?_
            exact K_18 (i + 4) _ hi4 (by first | exact hI2 | exact ⟨o, n, t, hI⟩) hme _ _ _ hw hS (lv_sub hl [1, 2, 3, 0] rfl)
          · exact absurd he c_401
        by_cases k_32_12 : x_31 = 12
        · refine lv_tableIn (tgt := 406) hx hb dL_law_32 (by rw [k_32_12]; decide) (by rw [k_32_12]; decide) (off := 374) (by rw [k_32_12]; decide +kernel) (by decide) ?_
          refine lv_aload_n hx hb dL_law_406 rfl (lv_at hl 1 rfl) ?_
          refine lv_aload_n hx hb dL_law_407 rfl (lv_at hl 0 rfl) ?_
          refine lv_iload_n hx hb dL_law_408 rfl (lv_at hl 3 rfl) ?_
          refine lv_iconst (v := nI 1) hx hb dL_law_409 (by decide) ?_
          refine n_iadd hx hb dL_law_410 ?_
          refine va_sld hx hb hX hbl hbA hS (vp_in_nI (show i + 1 < L by omega) (by omega)) dL_law_411 ?_
          refine lv_aload_n hx hb dL_law_412 rfl (lv_at hl 0 rfl) ?_
          refine lv_iload_n hx hb dL_law_413 rfl (lv_at hl 3 rfl) ?_
          refine lv_iconst (v := nI 2) hx hb dL_law_414 (by decide) ?_
          refine n_iadd hx hb dL_law_415 ?_
          refine va_sld hx hb hX hbl hbA hS (vp_in_nI (show i + 2 < L by omega) (by omega)) dL_law_416 ?_
          refine lv_aload_n hx hb dL_law_417 rfl (lv_at hl 0 rfl) ?_
          refine lv_iload_n hx hb dL_law_418 rfl (lv_at hl 3 rfl) ?_
          refine lv_iconst (v := nI 3) hx hb dL_law_419 (by decide) ?_
          refine n_iadd hx hb dL_law_420 ?_
          refine va_sld hx hb hX hbl hbA hS (vp_in_nI (show i + 3 < L by omega) (by omega)) dL_law_421 ?_
          refine g_Vi (n := 3) (As := [.int (xs (nI (i + 1)).toNatClampNeg), .int (xs (nI (i + 2)).toNatClampNeg), .int (xs (nI (i + 3)).toNatClampNeg)]) (rest := []) hx hb hml hown hts hE hw hS gL_law_X5_spot (c_X5_spot l G A _ (xs (nI (i + 1)).toNatClampNeg) (xs (nI (i + 2)).toNatClampNeg) (xs (nI (i + 3)).toNatClampNeg)) rfl (by decide +kernel) ⟨Nat.le_of_ble_eq_true rfl, Nat.le_of_ble_eq_true rfl⟩ (Nat.zero_lt_one) rfl rfl rfl rfl hl.1 rfl (Nat.le_of_ble_eq_true rfl) ⟨Nat.le_of_ble_eq_true rfl, Nat.le_of_ble_eq_true rfl⟩ dL_law_422 (fun x_422 τ_422 H locs hp_422 hw hS => ?_)
          refine lv_aload_n hx hb dL_law_425 rfl (lv_at hl 2 rfl) ?_
          refine lv_aload_n hx hb dL_law_426 rfl (lv_at hl 0 rfl) ?_
          refine lv_iload_n hx hb dL_law_427 rfl (lv_at hl 3 rfl) ?_
          refine lv_iconst (v := nI 1) hx hb dL_law_428 (by decide) ?_
          refine n_iadd hx hb dL_law_429 ?_
          refine va_sld hx hb hX hbl hbA hS (vp_in_nI (show i + 1 < L by omega) (by omega)) dL_law_430 ?_
          refine lv_aload_n hx hb dL_law_431 rfl (lv_at hl 0 rfl) ?_
          refine lv_iload_n hx hb dL_law_432 rfl (lv_at hl 3 rfl) ?_
          refine lv_iconst (v := nI 2) hx hb dL_law_433 (by decide) ?_
          refine n_iadd hx hb dL_law_434 ?_
          refine va_sld hx hb hX hbl hbA hS (vp_in_nI (show i + 2 < L by omega) (by omega)) dL_law_435 ?_
          refine lv_aload_n hx hb dL_law_436 rfl (lv_at hl 0 rfl) ?_
          refine lv_iload_n hx hb dL_law_437 rfl (lv_at hl 3 rfl) ?_
          refine lv_iconst (v := nI 3) hx hb dL_law_438 (by decide) ?_
          refine n_iadd hx hb dL_law_439 ?_
          refine va_sld hx hb hX hbl hbA hS (vp_in_nI (show i + 3 < L by omega) (by omega)) dL_law_440 ?_
          refine g_Vi (n := 3) (As := [.int (xs (nI (i + 1)).toNatClampNeg), .int (xs (nI (i + 2)).toNatClampNeg), .int (xs (nI (i + 3)).toNatClampNeg)]) (rest := [.int x_422]) hx hb hml hown hts hE hw hS gL_law_X6_spot (c_X6_spot l G A _ (xs (nI (i + 1)).toNatClampNeg) (xs (nI (i + 2)).toNatClampNeg) (xs (nI (i + 3)).toNatClampNeg) (by rw [hp_422.2]; exact hI.2.2.2.1)) rfl (by decide +kernel) ⟨Nat.le_of_ble_eq_true rfl, Nat.le_of_ble_eq_true rfl⟩ (Nat.zero_lt_one) rfl rfl rfl rfl hl.1 rfl (Nat.le_of_ble_eq_true rfl) ⟨Nat.le_of_ble_eq_true rfl, Nat.le_of_ble_eq_true rfl⟩ dL_law_441 (fun x_441 τ_441 H locs hp_441 hw hS => ?_)
          have he : x_422 = x_441 := by rw [hp_422.1, hp_441.1, hp_422.2, hI.2.2.1]
          have hI2 : Inv τ_441 := ⟨o, n, t, by rw [hp_441.2, hp_422.2]; exact hI⟩
          refine lv_icmp_eq (tgt := 651) hx hb dL_law_444 (by decide) (fun c_444 => ?_) (fun c_444 => ?_)
          · refine lv_iinc (v := nI (i + 4)) (lv' := [(3, .int (nI (i + 4))), (0, .ref b), (1, .ref (G.1 5 0)), (2, .ref (G.1 16 0))]) hx hb dL_law_651 hl (k := 3) rfl (nI_add _ _) (by decide) rfl (fun ls hl => ?_)
            refine lv_goto (tgt := 18) hx hb dL_law_654 (by decide) ?_
            exact K_18 (i + 4) _ hi4 (by first | exact hI2 | exact ⟨o, n, t, hI⟩) hme _ _ _ hw hS (lv_sub hl [1, 2, 3, 0] rfl)
          · exact absurd he c_444
        by_cases k_32_13 : x_31 = 13
        · refine lv_tableIn (tgt := 449) hx hb dL_law_32 (by rw [k_32_13]; decide) (by rw [k_32_13]; decide) (off := 417) (by rw [k_32_13]; decide +kernel) (by decide) ?_
          refine lv_aload_n hx hb dL_law_449 rfl (lv_at hl 1 rfl) ?_
          refine lv_aload_n hx hb dL_law_450 rfl (lv_at hl 0 rfl) ?_
          refine lv_iload_n hx hb dL_law_451 rfl (lv_at hl 3 rfl) ?_
          refine lv_iconst (v := nI 1) hx hb dL_law_452 (by decide) ?_
          refine n_iadd hx hb dL_law_453 ?_
          refine va_sld hx hb hX hbl hbA hS (vp_in_nI (show i + 1 < L by omega) (by omega)) dL_law_454 ?_
          refine lv_aload_n hx hb dL_law_455 rfl (lv_at hl 0 rfl) ?_
          refine lv_iload_n hx hb dL_law_456 rfl (lv_at hl 3 rfl) ?_
          refine lv_iconst (v := nI 2) hx hb dL_law_457 (by decide) ?_
          refine n_iadd hx hb dL_law_458 ?_
          refine va_sld hx hb hX hbl hbA hS (vp_in_nI (show i + 2 < L by omega) (by omega)) dL_law_459 ?_
          refine g_Vi (n := 2) (As := [.int (xs (nI (i + 1)).toNatClampNeg), .int (xs (nI (i + 2)).toNatClampNeg)]) (rest := []) hx hb hml hown hts hE hw hS gL_law_X5_zone (c_X5_zone l G A _ (xs (nI (i + 1)).toNatClampNeg) (xs (nI (i + 2)).toNatClampNeg) (by rw [hI.2.2.1]; exact hI.2.2.2.1.1)) rfl (by decide +kernel) ⟨Nat.le_of_ble_eq_true rfl, Nat.le_of_ble_eq_true rfl⟩ (Nat.zero_lt_one) rfl rfl rfl rfl hl.1 rfl (Nat.le_of_ble_eq_true rfl) ⟨Nat.le_of_ble_eq_true rfl, Nat.le_of_ble_eq_true rfl⟩ dL_law_460 (fun x_460 τ_460 H locs hp_460 hw hS => ?_)
          refine lv_aload_n hx hb dL_law_463 rfl (lv_at hl 2 rfl) ?_
          refine lv_aload_n hx hb dL_law_464 rfl (lv_at hl 0 rfl) ?_
          refine lv_iload_n hx hb dL_law_465 rfl (lv_at hl 3 rfl) ?_
          refine lv_iconst (v := nI 1) hx hb dL_law_466 (by decide) ?_
          refine n_iadd hx hb dL_law_467 ?_
          refine va_sld hx hb hX hbl hbA hS (vp_in_nI (show i + 1 < L by omega) (by omega)) dL_law_468 ?_
          refine lv_aload_n hx hb dL_law_469 rfl (lv_at hl 0 rfl) ?_
          refine lv_iload_n hx hb dL_law_470 rfl (lv_at hl 3 rfl) ?_
          refine lv_iconst (v := nI 2) hx hb dL_law_471 (by decide) ?_
          refine n_iadd hx hb dL_law_472 ?_
          refine va_sld hx hb hX hbl hbA hS (vp_in_nI (show i + 2 < L by omega) (by omega)) dL_law_473 ?_
          refine g_Vi (n := 2) (As := [.int (xs (nI (i + 1)).toNatClampNeg), .int (xs (nI (i + 2)).toNatClampNeg)]) (rest := [.int x_460]) hx hb hml hown hts hE hw hS gL_law_X6_zone (c_X6_zone l G A _ (xs (nI (i + 1)).toNatClampNeg) (xs (nI (i + 2)).toNatClampNeg) (by rw [keepC_m hp_460.2 (by decide)]; exact hI.2.2.2.1)) rfl (by decide +kernel) ⟨Nat.le_of_ble_eq_true rfl, Nat.le_of_ble_eq_true rfl⟩ (Nat.zero_lt_one) rfl rfl rfl rfl hl.1 rfl (Nat.le_of_ble_eq_true rfl) ⟨Nat.le_of_ble_eq_true rfl, Nat.le_of_ble_eq_true rfl⟩ dL_law_474 (fun x_474 τ_474 H locs hp_474 hw hS => ?_)
          have e17 : τ_460 17 0 = scr σ2 0 := (keepC_m hp_460.2 (by decide)).trans hI.2.2.1.symm
          have he : x_460 = x_474 := by rw [hp_460.1, hp_474.1, e17]
          have hI2 : Inv τ_474 := ⟨o, n, t, inv_ask hI hp_460.2 hp_474.2⟩
          refine lv_icmp_eq (tgt := 651) hx hb dL_law_477 (by decide) (fun c_477 => ?_) (fun c_477 => ?_)
          · refine lv_iinc (v := nI (i + 4)) (lv' := [(3, .int (nI (i + 4))), (0, .ref b), (1, .ref (G.1 5 0)), (2, .ref (G.1 16 0))]) hx hb dL_law_651 hl (k := 3) rfl (nI_add _ _) (by decide) rfl (fun ls hl => ?_)
            refine lv_goto (tgt := 18) hx hb dL_law_654 (by decide) ?_
            exact K_18 (i + 4) _ hi4 (by first | exact hI2 | exact ⟨o, n, t, hI⟩) hme _ _ _ hw hS (lv_sub hl [1, 2, 3, 0] rfl)
          · exact absurd he c_477
        by_cases k_32_14 : x_31 = 14
        · refine lv_tableIn (tgt := 482) hx hb dL_law_32 (by rw [k_32_14]; decide) (by rw [k_32_14]; decide) (off := 450) (by rw [k_32_14]; decide +kernel) (by decide) ?_
          refine lv_aload_n hx hb dL_law_482 rfl (lv_at hl 1 rfl) ?_
          refine lv_aload_n hx hb dL_law_483 rfl (lv_at hl 0 rfl) ?_
          refine lv_iload_n hx hb dL_law_484 rfl (lv_at hl 3 rfl) ?_
          refine lv_iconst (v := nI 1) hx hb dL_law_485 (by decide) ?_
          refine n_iadd hx hb dL_law_486 ?_
          refine va_sld hx hb hX hbl hbA hS (vp_in_nI (show i + 1 < L by omega) (by omega)) dL_law_487 ?_
          refine g_Vi (n := 1) (As := [.int (xs (nI (i + 1)).toNatClampNeg)]) (rest := []) hx hb hml hown hts hE hw hS gL_law_X5_count (c_X5_count l G A _ (xs (nI (i + 1)).toNatClampNeg) n t (by rw [hI.2.2.1]; exact hI.2.2.2.1.1) hI.2.1.2.1 hI.2.1.2.2.2.1) rfl (by decide +kernel) ⟨Nat.le_of_ble_eq_true rfl, Nat.le_of_ble_eq_true rfl⟩ (Nat.zero_lt_one) rfl rfl rfl rfl hl.1 rfl (Nat.le_of_ble_eq_true rfl) ⟨Nat.le_of_ble_eq_true rfl, Nat.le_of_ble_eq_true rfl⟩ dL_law_488 (fun x_488 τ_488 H locs hp_488 hw hS => ?_)
          refine lv_aload_n hx hb dL_law_491 rfl (lv_at hl 2 rfl) ?_
          refine lv_aload_n hx hb dL_law_492 rfl (lv_at hl 0 rfl) ?_
          refine lv_iload_n hx hb dL_law_493 rfl (lv_at hl 3 rfl) ?_
          refine lv_iconst (v := nI 1) hx hb dL_law_494 (by decide) ?_
          refine n_iadd hx hb dL_law_495 ?_
          refine va_sld hx hb hX hbl hbA hS (vp_in_nI (show i + 1 < L by omega) (by omega)) dL_law_496 ?_
          refine g_Vi (n := 1) (As := [.int (xs (nI (i + 1)).toNatClampNeg)]) (rest := [.int x_488]) hx hb hml hown hts hE hw hS gL_law_X6_count (c_X6_count l G A _ (xs (nI (i + 1)).toNatClampNeg) n t (by rw [keepC_m hp_488.2 (by decide)]; exact hI.2.2.2.1) (by rw [keepC_m hp_488.2 (by decide)]; exact hI.2.1.2.2.1) (by rw [keepC_m hp_488.2 (by decide)]; exact hI.2.1.2.2.2.2)) rfl (by decide +kernel) ⟨Nat.le_of_ble_eq_true rfl, Nat.le_of_ble_eq_true rfl⟩ (Nat.zero_lt_one) rfl rfl rfl rfl hl.1 rfl (Nat.le_of_ble_eq_true rfl) ⟨Nat.le_of_ble_eq_true rfl, Nat.le_of_ble_eq_true rfl⟩ dL_law_497 (fun x_497 τ_497 H locs hp_497 hw hS => ?_)
          have e17 : τ_488 17 0 = scr σ2 0 := (keepC_m hp_488.2 (by decide)).trans hI.2.2.1.symm
          have he : x_488 = x_497 := by rw [hp_488.1, hp_497.1, e17]
          have hI2 : Inv τ_497 := ⟨o, n, t, inv_ask hI hp_488.2 hp_497.2⟩
          refine lv_icmp_eq (tgt := 651) hx hb dL_law_500 (by decide) (fun c_500 => ?_) (fun c_500 => ?_)
          · refine lv_iinc (v := nI (i + 4)) (lv' := [(3, .int (nI (i + 4))), (0, .ref b), (1, .ref (G.1 5 0)), (2, .ref (G.1 16 0))]) hx hb dL_law_651 hl (k := 3) rfl (nI_add _ _) (by decide) rfl (fun ls hl => ?_)
            refine lv_goto (tgt := 18) hx hb dL_law_654 (by decide) ?_
            exact K_18 (i + 4) _ hi4 (by first | exact hI2 | exact ⟨o, n, t, hI⟩) hme _ _ _ hw hS (lv_sub hl [1, 2, 3, 0] rfl)
          · exact absurd he c_500
        by_cases k_32_15 : x_31 = 15
        · refine lv_tableIn (tgt := 505) hx hb dL_law_32 (by rw [k_32_15]; decide) (by rw [k_32_15]; decide) (off := 473) (by rw [k_32_15]; decide +kernel) (by decide) ?_
          refine lv_aload_n hx hb dL_law_505 rfl (lv_at hl 1 rfl) ?_
          refine g_Vd (n := 0) (As := []) (rest := []) hx hb hml hown hts hE hw hS gL_law_X5_meanShown (c_X5_meanShown l G A _ ) rfl (by decide +kernel) ⟨Nat.le_of_ble_eq_true rfl, Nat.le_of_ble_eq_true rfl⟩ (Nat.zero_lt_one) rfl rfl rfl rfl hl.1 rfl (Nat.le_of_ble_eq_true rfl) ⟨Nat.le_of_ble_eq_true rfl, Nat.le_of_ble_eq_true rfl⟩ dL_law_506 (fun x_506 τ_506 H locs hp_506 hw hS => ?_)
          obtain ⟨rfl, hkc⟩ := hp_506
          have e17 : τ_506 17 0 = scr σ2 0 := (keepC_m hkc (by decide)).trans hI.2.2.1.symm
          refine lv_dstore (lv' := [(4, .double (meanD (tAll (scr σ2 0) (levO (scr σ2 0)) 18 4))), (0, .ref b), (1, .ref (G.1 5 0)), (2, .ref (G.1 16 0)), (3, .int (nI i))]) hx hb dL_law_509 hl (by decide) rfl (fun ls hl => ?_)
          refine lv_aload_n hx hb dL_law_511 rfl (lv_at hl 3 rfl) ?_
          refine g_Vd (n := 0) (As := []) (rest := []) hx hb hml hown hts hE hw hS gL_law_X6_meanShown (c_X6_meanShown l G A _ (by rw [keepC_m hkc (by decide)]; exact hI.2.2.2.1)) rfl (by decide +kernel) ⟨Nat.le_of_ble_eq_true rfl, Nat.le_of_ble_eq_true rfl⟩ (Nat.zero_lt_one) rfl rfl rfl rfl hl.1 rfl (Nat.le_of_ble_eq_true rfl) ⟨Nat.le_of_ble_eq_true rfl, Nat.le_of_ble_eq_true rfl⟩ dL_law_512 (fun x_512 τ_512 H locs hp_512 hw hS => ?_)
          rw [e17] at hp_512
          obtain ⟨rfl, hkm⟩ := hp_512
          have hI2 : Inv τ_512 := ⟨o, n, t, inv_ask hI hkc hkm⟩
          refine lv_dstore (lv' := [(6, .double (meanD (tAll (scr σ2 0) (levO (scr σ2 0)) 18 4))), (4, .double (meanD (tAll (scr σ2 0) (levO (scr σ2 0)) 18 4))), (0, .ref b), (1, .ref (G.1 5 0)), (2, .ref (G.1 16 0)), (3, .int (nI i))]) hx hb dL_law_515 hl (by decide) rfl (fun ls hl => ?_)
          refine lv_dload hx hb dL_law_517 (lv_at hl 1 rfl) ?_
          refine lv_dload hx hb dL_law_519 (lv_at hl 0 rfl) ?_
          refine lv_dcmp hx hb dL_law_521 ?_
          refine lv_topi (fun x_521 ex_521 => ?_)
          refine lv_if_eq (tgt := 543) hx hb dL_law_522 (by decide) (fun c_522 => ?_) (fun c_522 => ?_)
          · refine lv_goto (tgt := 651) hx hb dL_law_543 (by decide) ?_
            refine lv_iinc (v := nI (i + 4)) (lv' := [(3, .int (nI (i + 4))), (6, .double (meanD (tAll (scr σ2 0) (levO (scr σ2 0)) 18 4))), (4, .double (meanD (tAll (scr σ2 0) (levO (scr σ2 0)) 18 4))), (0, .ref b), (1, .ref (G.1 5 0)), (2, .ref (G.1 16 0))]) hx hb dL_law_651 hl (k := 5) rfl (nI_add _ _) (by decide) rfl (fun ls hl => ?_)
            refine lv_goto (tgt := 18) hx hb dL_law_654 (by decide) ?_
            exact K_18 (i + 4) _ hi4 (by first | exact hI2 | exact ⟨o, n, t, hI⟩) hme _ _ _ hw hS (lv_sub hl [3, 4, 5, 0] rfl)
          · refine lv_dload hx hb dL_law_525 (lv_at hl 1 rfl) ?_
            refine lv_dload hx hb dL_law_527 (lv_at hl 1 rfl) ?_
            refine lv_dcmp hx hb dL_law_529 ?_
            refine lv_topi (fun x_529 ex_529 => ?_)
            refine lv_if_eq (tgt := 541) hx hb dL_law_530 (by decide) (fun c_530 => ?_) (fun c_530 => ?_)
            · exact absurd (by rw [ex_521, ← ex_529]; exact c_530) c_522
            · refine lv_dload hx hb dL_law_533 (lv_at hl 0 rfl) ?_
              refine lv_dload hx hb dL_law_535 (lv_at hl 0 rfl) ?_
              refine lv_dcmp hx hb dL_law_537 ?_
              refine lv_topi (fun x_537 ex_537 => ?_)
              refine lv_if_ne (tgt := 543) hx hb dL_law_538 (by decide) (fun c_538 => ?_) (fun c_538 => ?_)
              · refine lv_goto (tgt := 651) hx hb dL_law_543 (by decide) ?_
                refine lv_iinc (v := nI (i + 4)) (lv' := [(3, .int (nI (i + 4))), (6, .double (meanD (tAll (scr σ2 0) (levO (scr σ2 0)) 18 4))), (4, .double (meanD (tAll (scr σ2 0) (levO (scr σ2 0)) 18 4))), (0, .ref b), (1, .ref (G.1 5 0)), (2, .ref (G.1 16 0))]) hx hb dL_law_651 hl (k := 5) rfl (nI_add _ _) (by decide) rfl (fun ls hl => ?_)
                refine lv_goto (tgt := 18) hx hb dL_law_654 (by decide) ?_
                exact K_18 (i + 4) _ hi4 (by first | exact hI2 | exact ⟨o, n, t, hI⟩) hme _ _ _ hw hS (lv_sub hl [3, 4, 5, 0] rfl)
              · exact absurd (by rw [ex_521, ← ex_537]; exact c_538) c_522
        by_cases k_32_16 : x_31 = 16
        · refine lv_tableIn (tgt := 546) hx hb dL_law_32 (by rw [k_32_16]; decide) (by rw [k_32_16]; decide) (off := 514) (by rw [k_32_16]; decide +kernel) (by decide) ?_
          refine lv_aload_n hx hb dL_law_546 rfl (lv_at hl 1 rfl) ?_
          refine g_Vi (n := 0) (As := []) (rest := []) hx hb hml hown hts hE hw hS gL_law_X5_restsIn (c_X5_restsIn l G A _ (by rw [hI.2.2.1]; exact hI.2.2.2.1.1)) rfl (by decide +kernel) ⟨Nat.le_of_ble_eq_true rfl, Nat.le_of_ble_eq_true rfl⟩ (Nat.zero_lt_one) rfl rfl rfl rfl hl.1 rfl (Nat.le_of_ble_eq_true rfl) ⟨Nat.le_of_ble_eq_true rfl, Nat.le_of_ble_eq_true rfl⟩ dL_law_547 (fun x_547 τ_547 H locs hp_547 hw hS => ?_)
          refine lv_aload_n hx hb dL_law_550 rfl (lv_at hl 2 rfl) ?_
          refine g_Vi (n := 0) (As := []) (rest := [.int x_547]) hx hb hml hown hts hE hw hS gL_law_X6_restsIn (c_X6_restsIn l G A _ (by rw [keepC_m hp_547.2 (by decide)]; exact hI.2.2.2.1)) rfl (by decide +kernel) ⟨Nat.le_of_ble_eq_true rfl, Nat.le_of_ble_eq_true rfl⟩ (Nat.zero_lt_one) rfl rfl rfl rfl hl.1 rfl (Nat.le_of_ble_eq_true rfl) ⟨Nat.le_of_ble_eq_true rfl, Nat.le_of_ble_eq_true rfl⟩ dL_law_551 (fun x_551 τ_551 H locs hp_551 hw hS => ?_)
          have e17 : τ_547 17 0 = scr σ2 0 := (keepC_m hp_547.2 (by decide)).trans hI.2.2.1.symm
          have he : x_547 = x_551 := by rw [hp_547.1, hp_551.1, e17]
          have hI2 : Inv τ_551 := ⟨o, n, t, inv_ask hI hp_547.2 hp_551.2⟩
          refine lv_icmp_eq (tgt := 651) hx hb dL_law_554 (by decide) (fun c_554 => ?_) (fun c_554 => ?_)
          · refine lv_iinc (v := nI (i + 4)) (lv' := [(3, .int (nI (i + 4))), (0, .ref b), (1, .ref (G.1 5 0)), (2, .ref (G.1 16 0))]) hx hb dL_law_651 hl (k := 3) rfl (nI_add _ _) (by decide) rfl (fun ls hl => ?_)
            refine lv_goto (tgt := 18) hx hb dL_law_654 (by decide) ?_
            exact K_18 (i + 4) _ hi4 (by first | exact hI2 | exact ⟨o, n, t, hI⟩) hme _ _ _ hw hS (lv_sub hl [1, 2, 3, 0] rfl)
          · exact absurd he c_554
        by_cases k_32_17 : x_31 = 17
        · refine lv_tableIn (tgt := 559) hx hb dL_law_32 (by rw [k_32_17]; decide) (by rw [k_32_17]; decide) (off := 527) (by rw [k_32_17]; decide +kernel) (by decide) ?_
          refine lv_aload_n hx hb dL_law_559 rfl (lv_at hl 1 rfl) ?_
          refine lv_aload_n hx hb dL_law_560 rfl (lv_at hl 0 rfl) ?_
          refine lv_iload_n hx hb dL_law_561 rfl (lv_at hl 3 rfl) ?_
          refine lv_iconst (v := nI 1) hx hb dL_law_562 (by decide) ?_
          refine n_iadd hx hb dL_law_563 ?_
          refine va_sld hx hb hX hbl hbA hS (vp_in_nI (show i + 1 < L by omega) (by omega)) dL_law_564 ?_
          refine lv_aload_n hx hb dL_law_565 rfl (lv_at hl 0 rfl) ?_
          refine lv_iload_n hx hb dL_law_566 rfl (lv_at hl 3 rfl) ?_
          refine lv_iconst (v := nI 2) hx hb dL_law_567 (by decide) ?_
          refine n_iadd hx hb dL_law_568 ?_
          refine va_sld hx hb hX hbl hbA hS (vp_in_nI (show i + 2 < L by omega) (by omega)) dL_law_569 ?_
          refine g_Vi (n := 2) (As := [.int (xs (nI (i + 1)).toNatClampNeg), .int (xs (nI (i + 2)).toNatClampNeg)]) (rest := []) hx hb hml hown hts hE hw hS gL_law_X5_ifRule (c_X5_ifRule l G A _ (xs (nI (i + 1)).toNatClampNeg) (xs (nI (i + 2)).toNatClampNeg) (by rw [hI.2.2.1]; exact hI.2.2.2.1.1)) rfl (by decide +kernel) ⟨Nat.le_of_ble_eq_true rfl, Nat.le_of_ble_eq_true rfl⟩ (Nat.zero_lt_one) rfl rfl rfl rfl hl.1 rfl (Nat.le_of_ble_eq_true rfl) ⟨Nat.le_of_ble_eq_true rfl, Nat.le_of_ble_eq_true rfl⟩ dL_law_570 (fun x_570 τ_570 H locs hp_570 hw hS => ?_)
          refine lv_aload_n hx hb dL_law_573 rfl (lv_at hl 2 rfl) ?_
          refine lv_aload_n hx hb dL_law_574 rfl (lv_at hl 0 rfl) ?_
          refine lv_iload_n hx hb dL_law_575 rfl (lv_at hl 3 rfl) ?_
          refine lv_iconst (v := nI 1) hx hb dL_law_576 (by decide) ?_
          refine n_iadd hx hb dL_law_577 ?_
          refine va_sld hx hb hX hbl hbA hS (vp_in_nI (show i + 1 < L by omega) (by omega)) dL_law_578 ?_
          refine lv_aload_n hx hb dL_law_579 rfl (lv_at hl 0 rfl) ?_
          refine lv_iload_n hx hb dL_law_580 rfl (lv_at hl 3 rfl) ?_
          refine lv_iconst (v := nI 2) hx hb dL_law_581 (by decide) ?_
          refine n_iadd hx hb dL_law_582 ?_
          refine va_sld hx hb hX hbl hbA hS (vp_in_nI (show i + 2 < L by omega) (by omega)) dL_law_583 ?_
          refine g_Vi (n := 2) (As := [.int (xs (nI (i + 1)).toNatClampNeg), .int (xs (nI (i + 2)).toNatClampNeg)]) (rest := [.int x_570]) hx hb hml hown hts hE hw hS gL_law_X6_ifRule (c_X6_ifRule l G A _ (xs (nI (i + 1)).toNatClampNeg) (xs (nI (i + 2)).toNatClampNeg) (by rw [keepC_m hp_570.2 (by decide)]; exact hI.2.2.2.1)) rfl (by decide +kernel) ⟨Nat.le_of_ble_eq_true rfl, Nat.le_of_ble_eq_true rfl⟩ (Nat.zero_lt_one) rfl rfl rfl rfl hl.1 rfl (Nat.le_of_ble_eq_true rfl) ⟨Nat.le_of_ble_eq_true rfl, Nat.le_of_ble_eq_true rfl⟩ dL_law_584 (fun x_584 τ_584 H locs hp_584 hw hS => ?_)
          have e17 : τ_570 17 0 = scr σ2 0 := (keepC_m hp_570.2 (by decide)).trans hI.2.2.1.symm
          have he : x_570 = x_584 := by rw [hp_570.1, hp_584.1, e17]
          have hI2 : Inv τ_584 := ⟨o, n, t, inv_ask hI hp_570.2 hp_584.2⟩
          refine lv_icmp_eq (tgt := 651) hx hb dL_law_587 (by decide) (fun c_587 => ?_) (fun c_587 => ?_)
          · refine lv_iinc (v := nI (i + 4)) (lv' := [(3, .int (nI (i + 4))), (0, .ref b), (1, .ref (G.1 5 0)), (2, .ref (G.1 16 0))]) hx hb dL_law_651 hl (k := 3) rfl (nI_add _ _) (by decide) rfl (fun ls hl => ?_)
            refine lv_goto (tgt := 18) hx hb dL_law_654 (by decide) ?_
            exact K_18 (i + 4) _ hi4 (by first | exact hI2 | exact ⟨o, n, t, hI⟩) hme _ _ _ hw hS (lv_sub hl [1, 2, 3, 0] rfl)
          · exact absurd he c_587
        by_cases k_32_18 : x_31 = 18
        · refine lv_tableIn (tgt := 592) hx hb dL_law_32 (by rw [k_32_18]; decide) (by rw [k_32_18]; decide) (off := 560) (by rw [k_32_18]; decide +kernel) (by decide) ?_
          refine lv_aload_n hx hb dL_law_592 rfl (lv_at hl 1 rfl) ?_
          refine g_Vi (n := 0) (As := []) (rest := []) hx hb hml hown hts hE hw hS gL_law_X5_bestRule (c_X5_bestRule l G A _ (by rw [hI.2.2.1]; exact hI.2.2.2.1.1)) rfl (by decide +kernel) ⟨Nat.le_of_ble_eq_true rfl, Nat.le_of_ble_eq_true rfl⟩ (Nat.zero_lt_one) rfl rfl rfl rfl hl.1 rfl (Nat.le_of_ble_eq_true rfl) ⟨Nat.le_of_ble_eq_true rfl, Nat.le_of_ble_eq_true rfl⟩ dL_law_593 (fun x_593 τ_593 H locs hp_593 hw hS => ?_)
          refine lv_aload_n hx hb dL_law_596 rfl (lv_at hl 2 rfl) ?_
          refine g_Vi (n := 0) (As := []) (rest := [.int x_593]) hx hb hml hown hts hE hw hS gL_law_X6_bestRule (c_X6_bestRule l G A _ (by rw [keepC_m hp_593.2 (by decide)]; exact hI.2.2.2.1)) rfl (by decide +kernel) ⟨Nat.le_of_ble_eq_true rfl, Nat.le_of_ble_eq_true rfl⟩ (Nat.zero_lt_one) rfl rfl rfl rfl hl.1 rfl (Nat.le_of_ble_eq_true rfl) ⟨Nat.le_of_ble_eq_true rfl, Nat.le_of_ble_eq_true rfl⟩ dL_law_597 (fun x_597 τ_597 H locs hp_597 hw hS => ?_)
          have e17 : τ_593 17 0 = scr σ2 0 := (keepC_m hp_593.2 (by decide)).trans hI.2.2.1.symm
          have he : x_593 = x_597 := by rw [hp_593.1, hp_597.1, e17]
          have hI2 : Inv τ_597 := ⟨o, n, t, inv_ask hI hp_593.2 hp_597.2⟩
          refine lv_icmp_eq (tgt := 651) hx hb dL_law_600 (by decide) (fun c_600 => ?_) (fun c_600 => ?_)
          · refine lv_iinc (v := nI (i + 4)) (lv' := [(3, .int (nI (i + 4))), (0, .ref b), (1, .ref (G.1 5 0)), (2, .ref (G.1 16 0))]) hx hb dL_law_651 hl (k := 3) rfl (nI_add _ _) (by decide) rfl (fun ls hl => ?_)
            refine lv_goto (tgt := 18) hx hb dL_law_654 (by decide) ?_
            exact K_18 (i + 4) _ hi4 (by first | exact hI2 | exact ⟨o, n, t, hI⟩) hme _ _ _ hw hS (lv_sub hl [1, 2, 3, 0] rfl)
          · exact absurd he c_600
        by_cases k_32_19 : x_31 = 19
        · refine lv_tableIn (tgt := 605) hx hb dL_law_32 (by rw [k_32_19]; decide) (by rw [k_32_19]; decide) (off := 573) (by rw [k_32_19]; decide +kernel) (by decide) ?_
          refine lv_aload_n hx hb dL_law_605 rfl (lv_at hl 1 rfl) ?_
          refine lv_aload_n hx hb dL_law_606 rfl (lv_at hl 0 rfl) ?_
          refine lv_iload_n hx hb dL_law_607 rfl (lv_at hl 3 rfl) ?_
          refine lv_iconst (v := nI 1) hx hb dL_law_608 (by decide) ?_
          refine n_iadd hx hb dL_law_609 ?_
          refine va_sld hx hb hX hbl hbA hS (vp_in_nI (show i + 1 < L by omega) (by omega)) dL_law_610 ?_
          refine g_Vi (n := 1) (As := [.int (xs (nI (i + 1)).toNatClampNeg)]) (rest := []) hx hb hml hown hts hE hw hS gL_law_X5_leastStep (c_X5_leastStep l G A _ (xs (nI (i + 1)).toNatClampNeg) (by rw [hI.2.2.1]; exact hI.2.2.2.1.1)) rfl (by decide +kernel) ⟨Nat.le_of_ble_eq_true rfl, Nat.le_of_ble_eq_true rfl⟩ (Nat.zero_lt_one) rfl rfl rfl rfl hl.1 rfl (Nat.le_of_ble_eq_true rfl) ⟨Nat.le_of_ble_eq_true rfl, Nat.le_of_ble_eq_true rfl⟩ dL_law_611 (fun x_611 τ_611 H locs hp_611 hw hS => ?_)
          refine lv_aload_n hx hb dL_law_614 rfl (lv_at hl 2 rfl) ?_
          refine lv_aload_n hx hb dL_law_615 rfl (lv_at hl 0 rfl) ?_
          refine lv_iload_n hx hb dL_law_616 rfl (lv_at hl 3 rfl) ?_
          refine lv_iconst (v := nI 1) hx hb dL_law_617 (by decide) ?_
          refine n_iadd hx hb dL_law_618 ?_
          refine va_sld hx hb hX hbl hbA hS (vp_in_nI (show i + 1 < L by omega) (by omega)) dL_law_619 ?_
          refine g_Vi (n := 1) (As := [.int (xs (nI (i + 1)).toNatClampNeg)]) (rest := [.int x_611]) hx hb hml hown hts hE hw hS gL_law_X6_leastStep (c_X6_leastStep l G A _ (xs (nI (i + 1)).toNatClampNeg) (by rw [keepC_m hp_611.2 (by decide)]; exact hI.2.2.2.1)) rfl (by decide +kernel) ⟨Nat.le_of_ble_eq_true rfl, Nat.le_of_ble_eq_true rfl⟩ (Nat.zero_lt_one) rfl rfl rfl rfl hl.1 rfl (Nat.le_of_ble_eq_true rfl) ⟨Nat.le_of_ble_eq_true rfl, Nat.le_of_ble_eq_true rfl⟩ dL_law_620 (fun x_620 τ_620 H locs hp_620 hw hS => ?_)
          have e17 : τ_611 17 0 = scr σ2 0 := (keepC_m hp_611.2 (by decide)).trans hI.2.2.1.symm
          have he : x_611 = x_620 := by rw [hp_611.1, hp_620.1, e17]
          have hI2 : Inv τ_620 := ⟨o, n, t, inv_ask hI hp_611.2 hp_620.2⟩
          refine lv_icmp_eq (tgt := 651) hx hb dL_law_623 (by decide) (fun c_623 => ?_) (fun c_623 => ?_)
          · refine lv_iinc (v := nI (i + 4)) (lv' := [(3, .int (nI (i + 4))), (0, .ref b), (1, .ref (G.1 5 0)), (2, .ref (G.1 16 0))]) hx hb dL_law_651 hl (k := 3) rfl (nI_add _ _) (by decide) rfl (fun ls hl => ?_)
            refine lv_goto (tgt := 18) hx hb dL_law_654 (by decide) ?_
            exact K_18 (i + 4) _ hi4 (by first | exact hI2 | exact ⟨o, n, t, hI⟩) hme _ _ _ hw hS (lv_sub hl [1, 2, 3, 0] rfl)
          · exact absurd he c_623
        by_cases k_32_20 : x_31 = 20
        · refine lv_tableIn (tgt := 628) hx hb dL_law_32 (by rw [k_32_20]; decide) (by rw [k_32_20]; decide) (off := 596) (by rw [k_32_20]; decide +kernel) (by decide) ?_
          refine lv_aload_n hx hb dL_law_628 rfl (lv_at hl 1 rfl) ?_
          refine lv_aload_n hx hb dL_law_629 rfl (lv_at hl 0 rfl) ?_
          refine lv_iload_n hx hb dL_law_630 rfl (lv_at hl 3 rfl) ?_
          refine lv_iconst (v := nI 1) hx hb dL_law_631 (by decide) ?_
          refine n_iadd hx hb dL_law_632 ?_
          refine va_sld hx hb hX hbl hbA hS (vp_in_nI (show i + 1 < L by omega) (by omega)) dL_law_633 ?_
          refine g_Vi (n := 1) (As := [.int (xs (nI (i + 1)).toNatClampNeg)]) (rest := []) hx hb hml hown hts hE hw hS gL_law_X5_dearest (c_X5_dearest l G A _ (xs (nI (i + 1)).toNatClampNeg) (by rw [hI.2.2.1]; exact hI.2.2.2.1.1)) rfl (by decide +kernel) ⟨Nat.le_of_ble_eq_true rfl, Nat.le_of_ble_eq_true rfl⟩ (Nat.zero_lt_one) rfl rfl rfl rfl hl.1 rfl (Nat.le_of_ble_eq_true rfl) ⟨Nat.le_of_ble_eq_true rfl, Nat.le_of_ble_eq_true rfl⟩ dL_law_634 (fun x_634 τ_634 H locs hp_634 hw hS => ?_)
          refine lv_aload_n hx hb dL_law_637 rfl (lv_at hl 2 rfl) ?_
          refine lv_aload_n hx hb dL_law_638 rfl (lv_at hl 0 rfl) ?_
          refine lv_iload_n hx hb dL_law_639 rfl (lv_at hl 3 rfl) ?_
          refine lv_iconst (v := nI 1) hx hb dL_law_640 (by decide) ?_
          refine n_iadd hx hb dL_law_641 ?_
          refine va_sld hx hb hX hbl hbA hS (vp_in_nI (show i + 1 < L by omega) (by omega)) dL_law_642 ?_
          refine g_Vi (n := 1) (As := [.int (xs (nI (i + 1)).toNatClampNeg)]) (rest := [.int x_634]) hx hb hml hown hts hE hw hS gL_law_X6_dearest (c_X6_dearest l G A _ (xs (nI (i + 1)).toNatClampNeg) (by rw [keepC_m hp_634.2 (by decide)]; exact hI.2.2.2.1)) rfl (by decide +kernel) ⟨Nat.le_of_ble_eq_true rfl, Nat.le_of_ble_eq_true rfl⟩ (Nat.zero_lt_one) rfl rfl rfl rfl hl.1 rfl (Nat.le_of_ble_eq_true rfl) ⟨Nat.le_of_ble_eq_true rfl, Nat.le_of_ble_eq_true rfl⟩ dL_law_643 (fun x_643 τ_643 H locs hp_643 hw hS => ?_)
          have e17 : τ_634 17 0 = scr σ2 0 := (keepC_m hp_634.2 (by decide)).trans hI.2.2.1.symm
          have he : x_634 = x_643 := by rw [hp_634.1, hp_643.1, e17]; exact dear_both (by rw [hI.2.2.1]; exact hI.2.2.2.1.1)
          have hI2 : Inv τ_643 := ⟨o, n, t, inv_ask hI hp_634.2 hp_643.2⟩
          refine lv_icmp_eq (tgt := 651) hx hb dL_law_646 (by decide) (fun c_646 => ?_) (fun c_646 => ?_)
          · refine lv_iinc (v := nI (i + 4)) (lv' := [(3, .int (nI (i + 4))), (0, .ref b), (1, .ref (G.1 5 0)), (2, .ref (G.1 16 0))]) hx hb dL_law_651 hl (k := 3) rfl (nI_add _ _) (by decide) rfl (fun ls hl => ?_)
            refine lv_goto (tgt := 18) hx hb dL_law_654 (by decide) ?_
            exact K_18 (i + 4) _ hi4 (by first | exact hI2 | exact ⟨o, n, t, hI⟩) hme _ _ _ hw hS (lv_sub hl [1, 2, 3, 0] rfl)
          · exact absurd he c_646
        refine lv_tableOut (tgt := 651) hx hb dL_law_32 (by have t0 := tw_ne (k := 0) (0) (by decide) k_32_0; have t1 := tw_ne (k := 1) (1) (by decide) k_32_1; have t2 := tw_ne (k := 2) (2) (by decide) k_32_2; have t3 := tw_ne (k := 3) (3) (by decide) k_32_3; have t4 := tw_ne (k := 4) (4) (by decide) k_32_4; have t5 := tw_ne (k := 5) (5) (by decide) k_32_5; have t6 := tw_ne (k := 6) (6) (by decide) k_32_6; have t7 := tw_ne (k := 7) (7) (by decide) k_32_7; have t8 := tw_ne (k := 8) (8) (by decide) k_32_8; have t9 := tw_ne (k := 9) (9) (by decide) k_32_9; have t10 := tw_ne (k := 10) (10) (by decide) k_32_10; have t11 := tw_ne (k := 11) (11) (by decide) k_32_11; have t12 := tw_ne (k := 12) (12) (by decide) k_32_12; have t13 := tw_ne (k := 13) (13) (by decide) k_32_13; have t14 := tw_ne (k := 14) (14) (by decide) k_32_14; have t15 := tw_ne (k := 15) (15) (by decide) k_32_15; have t16 := tw_ne (k := 16) (16) (by decide) k_32_16; have t17 := tw_ne (k := 17) (17) (by decide) k_32_17; have t18 := tw_ne (k := 18) (18) (by decide) k_32_18; have t19 := tw_ne (k := 19) (19) (by decide) k_32_19; have t20 := tw_ne (k := 20) (20) (by decide) k_32_20; omega) (by decide) ?_
        refine lv_iinc (v := nI (i + 4)) (lv' := [(3, .int (nI (i + 4))), (0, .ref b), (1, .ref (G.1 5 0)), (2, .ref (G.1 16 0))]) hx hb dL_law_651 hl (k := 3) rfl (nI_add _ _) (by decide) rfl (fun ls hl => ?_)
        refine lv_goto (tgt := 18) hx hb dL_law_654 (by decide) ?_
        exact K_18 (i + 4) _ hi4 (by first | exact hI2 | exact ⟨o, n, t, hI⟩) hme _ _ _ hw hS (lv_sub hl [1, 2, 3, 0] rfl)
  exact K_18 (L + 9) 0 σ0 (by omega) hI00 (by omega) H locs ls hw hS hl
