/-! CONTRACTS, laid by program -/
set_option maxHeartbeats 4000000 in
set_option maxRecDepth 100000 in
/-- ZonedLightModel.over(IIZ)I -/
theorem c_X6_over (l : Launch) (G : GG) (A : Nat → Prop) (σ : St) (v : Int32) (hok : okW (σ 17 0)) (hlw : ∀ k, k < 18 → ∃ n, n < 256 ∧ (levO (σ 17 0)) k = nI n) : MI l yX6_over wsX6_over 3 67 G A σ [.ref (G.1 16 0), .int (-5), .int v, .int (nI 0)] (fun r τ => r = accZ (fS (σ 17 0) (levO (σ 17 0)) v) 0 18 ∧ τ = σ) := by
  refine MI.on (by decide) rfl (Nat.le_of_ble_eq_true rfl) (fun pP eE sS mM args below meth cC ls hx hb hml hr hown hlk hts hE hw hS hl => ?_)
  have hl : lv_has ls 12 [(0, .ref (G.1 16 0)), (1, .int (-5)), (2, .int v), (3, .int (nI 0))] := hl
  refine lv_iconst (v := nI 0) hx hb dX6_over_0 (by decide) ?_
  refine lv_istore (lv' := [(4, .int (nI 0)), (0, .ref (G.1 16 0)), (1, .int (-5)), (2, .int v), (3, .int (nI 0))]) hx hb dX6_over_1 hl (by decide) rfl (fun ls hl => ?_)
  refine lv_iconst (v := nI 0) hx hb dX6_over_3 (by decide) ?_
  refine lv_istore (lv' := [(5, .int (nI 0)), (4, .int (nI 0)), (0, .ref (G.1 16 0)), (1, .int (-5)), (2, .int v), (3, .int (nI 0))]) hx hb dX6_over_4 hl (by decide) rfl (fun ls hl => ?_)
  have K_6 : ∀ (fuel : Nat) (k : Nat) (acc : Int32), (k ≤ 18) → (acc = accZ (fS (σ 17 0) (levO (σ 17 0)) v) 0 k) → 18 - k < fuel → ∀ (H : Heap) (locs : List Loc) (ls : Array Slot), Wcel G σ H → va_S A sS.heap H locs → lv_has ls 12 [(0, .ref (G.1 16 0)), (1, .int (-5)), (2, .int v), (3, .int (nI 0)), (4, .int acc), (5, .int (nI k))] → W pP l eE { frames := 3, cells := 0, slots := 0, locals := 67 } sS mM args below meth cC H locs 0 0 (MQ below (va_Qi (fun r τ => r = accZ (fS (σ 17 0) (levO (σ 17 0)) v) 0 18 ∧ τ = σ) (fun τ t => gP G A τ t) A) args sS 0 0 A) (F0 mM 6 ls []) := by
    intro fuel
    induction fuel with
    | zero =>
      intro k acc hk ha hfu
      exact absurd hfu (Nat.not_lt_zero _)
    | succ fuel K_6 =>
      intro k acc hk ha hfu H locs ls hw hS hl
      refine lv_iload hx hb dX6_over_6 (lv_at hl 5 rfl) ?_
      refine lv_bipush (v := nI 18) hx hb dX6_over_8 (by decide) ?_
      refine n_cmp_ge (tgt := 189) hx hb dX6_over_10 (by decide) (by omega) (by omega) (fun c_10 => ?_) (fun c_10 => ?_)
      · refine lv_iload hx hb dX6_over_189 (lv_at hl 4 rfl) ?_
        refine g_iret hx hb hr hlk hE hw hS dX6_over_191 ?_
        exact ⟨by rw [ha, show k = 18 by omega], rfl⟩
      · have K_41 : ∀ (fuel : Nat) (j : Nat) (acc2 : Int32) (lt : Int32), (j ≤ 16) → (lt = lightF (σ 17 0) (levO (σ 17 0)) k) → (acc2 = accK (fS (σ 17 0) (levO (σ 17 0)) v) k (accZ (fS (σ 17 0) (levO (σ 17 0)) v) 0 k) j) → 16 - j < fuel → ∀ (H : Heap) (locs : List Loc) (ls : Array Slot), Wcel G σ H → va_S A sS.heap H locs → lv_has ls 12 [(0, .ref (G.1 16 0)), (1, .int (-5)), (2, .int v), (3, .int (nI 0)), (4, .int acc2), (5, .int (nI k)), (6, .int lt), (7, .int (nI j))] → W pP l eE { frames := 3, cells := 0, slots := 0, locals := 67 } sS mM args below meth cC H locs 0 0 (MQ below (va_Qi (fun r τ => r = accZ (fS (σ 17 0) (levO (σ 17 0)) v) 0 18 ∧ τ = σ) (fun τ t => gP G A τ t) A) args sS 0 0 A) (F0 mM 41 ls []) := by
          intro fuel
          induction fuel with
          | zero =>
            intro j acc2 lt hj hlt ha2 hfu
            exact absurd hfu (Nat.not_lt_zero _)
          | succ fuel K_41 =>
            intro j acc2 lt hj hlt ha2 hfu H locs ls hw hS hl
            refine lv_iload hx hb dX6_over_41 (lv_at hl 7 rfl) ?_
            refine lv_bipush (v := nI 16) hx hb dX6_over_43 (by decide) ?_
            refine n_cmp_ge (tgt := 183) hx hb dX6_over_45 (by decide) (by omega) (by omega) (fun c_45 => ?_) (fun c_45 => ?_)
            · refine lv_iinc (v := nI (k + 1)) (lv' := [(5, .int (nI (k + 1))), (0, .ref (G.1 16 0)), (1, .int (-5)), (2, .int v), (3, .int (nI 0)), (4, .int acc2), (6, .int lt), (7, .int (nI j))]) hx hb dX6_over_183 hl (k := 5) rfl (nI_add _ _) (by decide) rfl (fun ls hl => ?_)
              refine lv_goto (tgt := 6) hx hb dX6_over_186 (by decide) ?_
              exact K_6 (k + 1) acc2 (by first | omega | assumption | rfl) (by rw [ha2, show j = 16 by omega]; rfl) (by omega) _ _ _ hw hS (lv_sub hl [1, 2, 3, 4, 5, 0] rfl)
            · have K_119 : ∀ (iv : Int32) (bv : Int32) (av : Int32) (sv : Int32), (iv = verdF av sv) → (bv = iabs (sv - av)) → (av = σ 17 0 (spotN k j)) → (sv = shownAt (σ 17 0) (levO (σ 17 0)) k j) → ∀ (H : Heap) (locs : List Loc) (ls : Array Slot), Wcel G σ H → va_S A sS.heap H locs → lv_has ls 12 [(0, .ref (G.1 16 0)), (1, .int (-5)), (2, .int v), (3, .int (nI 0)), (4, .int acc2), (5, .int (nI k)), (6, .int lt), (7, .int (nI j)), (8, .int av), (9, .int sv), (10, .int bv), (11, .int iv)] → W pP l eE { frames := 3, cells := 0, slots := 0, locals := 67 } sS mM args below meth cC H locs 0 0 (MQ below (va_Qi (fun r τ => r = accZ (fS (σ 17 0) (levO (σ 17 0)) v) 0 18 ∧ τ = σ) (fun τ t => gP G A τ t) A) args sS 0 0 A) (F0 mM 119 ls []) := by
                intro iv bv av sv hiv hbv hav hsv H locs ls hw hS hl
                refine lv_iload_n hx hb dX6_over_119 rfl (lv_at hl 2 rfl) ?_
                refine lv_iconst (v := nI 4) hx hb dX6_over_120 (by decide) ?_
                refine lv_icmp_ne (tgt := 141) hx hb dX6_over_121 (by decide) (fun c_121 => ?_) (fun c_121 => ?_)
                · refine lv_iload hx hb dX6_over_141 (lv_at hl 4 rfl) ?_
                  refine lv_iload_n hx hb dX6_over_143 rfl (lv_at hl 2 rfl) ?_
                  refine lv_iconst (v := nI 3) hx hb dX6_over_144 (by decide) ?_
                  refine lv_icmp_ne (tgt := 153) hx hb dX6_over_145 (by decide) (fun c_145 => ?_) (fun c_145 => ?_)
                  · refine lv_iload_n hx hb dX6_over_153 rfl (lv_at hl 2 rfl) ?_
                    refine lv_iconst (v := nI 5) hx hb dX6_over_154 (by decide) ?_
                    refine lv_icmp_ne (tgt := 163) hx hb dX6_over_155 (by decide) (fun c_155 => ?_) (fun c_155 => ?_)
                    · refine lv_iload hx hb dX6_over_163 (lv_at hl 11 rfl) ?_
                      refine lv_iload_n hx hb dX6_over_165 rfl (lv_at hl 2 rfl) ?_
                      refine lv_icmp_ne (tgt := 173) hx hb dX6_over_166 (by decide) (fun c_166 => ?_) (fun c_166 => ?_)
                      · refine lv_iconst (v := nI 0) hx hb dX6_over_173 (by decide) ?_
                        refine lv_iadd hx hb dX6_over_174 ?_
                        refine lv_topi (fun x_174 ex_174 => ?_)
                        refine lv_istore (lv' := [(4, .int x_174), (0, .ref (G.1 16 0)), (1, .int (-5)), (2, .int v), (3, .int (nI 0)), (5, .int (nI k)), (6, .int lt), (7, .int (nI j)), (8, .int av), (9, .int sv), (10, .int bv), (11, .int iv)]) hx hb dX6_over_175 hl (by decide) rfl (fun ls hl => ?_)
                        refine lv_iinc (v := nI (j + 1)) (lv' := [(7, .int (nI (j + 1))), (4, .int x_174), (0, .ref (G.1 16 0)), (1, .int (-5)), (2, .int v), (3, .int (nI 0)), (5, .int (nI k)), (6, .int lt), (8, .int av), (9, .int sv), (10, .int bv), (11, .int iv)]) hx hb dX6_over_177 hl (k := 7) rfl (nI_add _ _) (by decide) rfl (fun ls hl => ?_)
                        refine lv_goto (tgt := 41) hx hb dX6_over_180 (by decide) ?_
                        exact K_41 (j + 1) x_174 lt (by first | omega | assumption | rfl) (by first | omega | assumption | rfl) (by show _ = stepV v (accK (fS (σ 17 0) (levO (σ 17 0)) v) k (accZ (fS (σ 17 0) (levO (σ 17 0)) v) 0 k) j) _ _; rw [← ha2, ← hsv, ← hav, stepV]; first | (rw [if_pos (show v = 4 from c_121), ← hbv]; first | exact imax_gt2 c_128 | exact imax_le2 c_128) | (rw [if_neg (show ¬ v = 4 from c_121), ex_174]; first | (rw [if_pos (show v = 3 from c_145), hbv]) | (rw [if_neg (show ¬ v = 3 from c_145), if_pos (show v = 5 from c_155)]) | (rw [if_neg (show ¬ v = 3 from c_145), if_neg (show ¬ v = 5 from c_155), if_pos (hiv.symm.trans c_166)]; rfl) | (rw [if_neg (show ¬ v = 3 from c_145), if_neg (show ¬ v = 5 from c_155), if_neg (fun g => c_166 (hiv.trans g))]; rfl))) (by omega) _ _ _ hw hS (lv_sub hl [2, 3, 4, 5, 1, 6, 7, 0] rfl)
                      · refine lv_iconst (v := nI 1) hx hb dX6_over_169 (by decide) ?_
                        refine lv_goto (tgt := 174) hx hb dX6_over_170 (by decide) ?_
                        refine lv_iadd hx hb dX6_over_174 ?_
                        refine lv_topi (fun x_174 ex_174 => ?_)
                        refine lv_istore (lv' := [(4, .int x_174), (0, .ref (G.1 16 0)), (1, .int (-5)), (2, .int v), (3, .int (nI 0)), (5, .int (nI k)), (6, .int lt), (7, .int (nI j)), (8, .int av), (9, .int sv), (10, .int bv), (11, .int iv)]) hx hb dX6_over_175 hl (by decide) rfl (fun ls hl => ?_)
                        refine lv_iinc (v := nI (j + 1)) (lv' := [(7, .int (nI (j + 1))), (4, .int x_174), (0, .ref (G.1 16 0)), (1, .int (-5)), (2, .int v), (3, .int (nI 0)), (5, .int (nI k)), (6, .int lt), (8, .int av), (9, .int sv), (10, .int bv), (11, .int iv)]) hx hb dX6_over_177 hl (k := 7) rfl (nI_add _ _) (by decide) rfl (fun ls hl => ?_)
                        refine lv_goto (tgt := 41) hx hb dX6_over_180 (by decide) ?_
                        exact K_41 (j + 1) x_174 lt (by first | omega | assumption | rfl) (by first | omega | assumption | rfl) (by show _ = stepV v (accK (fS (σ 17 0) (levO (σ 17 0)) v) k (accZ (fS (σ 17 0) (levO (σ 17 0)) v) 0 k) j) _ _; rw [← ha2, ← hsv, ← hav, stepV]; first | (rw [if_pos (show v = 4 from c_121), ← hbv]; first | exact imax_gt2 c_128 | exact imax_le2 c_128) | (rw [if_neg (show ¬ v = 4 from c_121), ex_174]; first | (rw [if_pos (show v = 3 from c_145), hbv]) | (rw [if_neg (show ¬ v = 3 from c_145), if_pos (show v = 5 from c_155)]) | (rw [if_neg (show ¬ v = 3 from c_145), if_neg (show ¬ v = 5 from c_155), if_pos (hiv.symm.trans c_166)]; rfl) | (rw [if_neg (show ¬ v = 3 from c_145), if_neg (show ¬ v = 5 from c_155), if_neg (fun g => c_166 (hiv.trans g))]; rfl))) (by omega) _ _ _ hw hS (lv_sub hl [2, 3, 4, 5, 1, 6, 7, 0] rfl)
                    · refine lv_iload hx hb dX6_over_158 (lv_at hl 9 rfl) ?_
                      refine lv_goto (tgt := 174) hx hb dX6_over_160 (by decide) ?_
                      refine lv_iadd hx hb dX6_over_174 ?_
                      refine lv_topi (fun x_174 ex_174 => ?_)
                      refine lv_istore (lv' := [(4, .int x_174), (0, .ref (G.1 16 0)), (1, .int (-5)), (2, .int v), (3, .int (nI 0)), (5, .int (nI k)), (6, .int lt), (7, .int (nI j)), (8, .int av), (9, .int sv), (10, .int bv), (11, .int iv)]) hx hb dX6_over_175 hl (by decide) rfl (fun ls hl => ?_)
                      refine lv_iinc (v := nI (j + 1)) (lv' := [(7, .int (nI (j + 1))), (4, .int x_174), (0, .ref (G.1 16 0)), (1, .int (-5)), (2, .int v), (3, .int (nI 0)), (5, .int (nI k)), (6, .int lt), (8, .int av), (9, .int sv), (10, .int bv), (11, .int iv)]) hx hb dX6_over_177 hl (k := 7) rfl (nI_add _ _) (by decide) rfl (fun ls hl => ?_)
                      refine lv_goto (tgt := 41) hx hb dX6_over_180 (by decide) ?_
                      exact K_41 (j + 1) x_174 lt (by first | omega | assumption | rfl) (by first | omega | assumption | rfl) (by show _ = stepV v (accK (fS (σ 17 0) (levO (σ 17 0)) v) k (accZ (fS (σ 17 0) (levO (σ 17 0)) v) 0 k) j) _ _; rw [← ha2, ← hsv, ← hav, stepV]; first | (rw [if_pos (show v = 4 from c_121), ← hbv]; first | exact imax_gt2 c_128 | exact imax_le2 c_128) | (rw [if_neg (show ¬ v = 4 from c_121), ex_174]; first | (rw [if_pos (show v = 3 from c_145), hbv]) | (rw [if_neg (show ¬ v = 3 from c_145), if_pos (show v = 5 from c_155)]) | (rw [if_neg (show ¬ v = 3 from c_145), if_neg (show ¬ v = 5 from c_155), if_pos (hiv.symm.trans c_166)]; rfl) | (rw [if_neg (show ¬ v = 3 from c_145), if_neg (show ¬ v = 5 from c_155), if_neg (fun g => c_166 (hiv.trans g))]; rfl))) (by omega) _ _ _ hw hS (lv_sub hl [2, 3, 4, 5, 1, 6, 7, 0] rfl)
                  · refine lv_iload hx hb dX6_over_148 (lv_at hl 10 rfl) ?_
                    refine lv_goto (tgt := 174) hx hb dX6_over_150 (by decide) ?_
                    refine lv_iadd hx hb dX6_over_174 ?_
                    refine lv_topi (fun x_174 ex_174 => ?_)
                    refine lv_istore (lv' := [(4, .int x_174), (0, .ref (G.1 16 0)), (1, .int (-5)), (2, .int v), (3, .int (nI 0)), (5, .int (nI k)), (6, .int lt), (7, .int (nI j)), (8, .int av), (9, .int sv), (10, .int bv), (11, .int iv)]) hx hb dX6_over_175 hl (by decide) rfl (fun ls hl => ?_)
                    refine lv_iinc (v := nI (j + 1)) (lv' := [(7, .int (nI (j + 1))), (4, .int x_174), (0, .ref (G.1 16 0)), (1, .int (-5)), (2, .int v), (3, .int (nI 0)), (5, .int (nI k)), (6, .int lt), (8, .int av), (9, .int sv), (10, .int bv), (11, .int iv)]) hx hb dX6_over_177 hl (k := 7) rfl (nI_add _ _) (by decide) rfl (fun ls hl => ?_)
                    refine lv_goto (tgt := 41) hx hb dX6_over_180 (by decide) ?_
                    exact K_41 (j + 1) x_174 lt (by first | omega | assumption | rfl) (by first | omega | assumption | rfl) (by show _ = stepV v (accK (fS (σ 17 0) (levO (σ 17 0)) v) k (accZ (fS (σ 17 0) (levO (σ 17 0)) v) 0 k) j) _ _; rw [← ha2, ← hsv, ← hav, stepV]; first | (rw [if_pos (show v = 4 from c_121), ← hbv]; first | exact imax_gt2 c_128 | exact imax_le2 c_128) | (rw [if_neg (show ¬ v = 4 from c_121), ex_174]; first | (rw [if_pos (show v = 3 from c_145), hbv]) | (rw [if_neg (show ¬ v = 3 from c_145), if_pos (show v = 5 from c_155)]) | (rw [if_neg (show ¬ v = 3 from c_145), if_neg (show ¬ v = 5 from c_155), if_pos (hiv.symm.trans c_166)]; rfl) | (rw [if_neg (show ¬ v = 3 from c_145), if_neg (show ¬ v = 5 from c_155), if_neg (fun g => c_166 (hiv.trans g))]; rfl))) (by omega) _ _ _ hw hS (lv_sub hl [2, 3, 4, 5, 1, 6, 7, 0] rfl)
                · refine lv_iload hx hb dX6_over_124 (lv_at hl 10 rfl) ?_
                  refine lv_iload hx hb dX6_over_126 (lv_at hl 4 rfl) ?_
                  refine lv_icmp_le (tgt := 136) hx hb dX6_over_128 (by decide) (fun c_128 => ?_) (fun c_128 => ?_)
                  · refine lv_iload hx hb dX6_over_136 (lv_at hl 4 rfl) ?_
                    refine lv_goto (tgt := 175) hx hb dX6_over_138 (by decide) ?_
                    refine lv_istore (lv' := [(4, .int acc2), (0, .ref (G.1 16 0)), (1, .int (-5)), (2, .int v), (3, .int (nI 0)), (5, .int (nI k)), (6, .int lt), (7, .int (nI j)), (8, .int av), (9, .int sv), (10, .int bv), (11, .int iv)]) hx hb dX6_over_175 hl (by decide) rfl (fun ls hl => ?_)
                    refine lv_iinc (v := nI (j + 1)) (lv' := [(7, .int (nI (j + 1))), (4, .int acc2), (0, .ref (G.1 16 0)), (1, .int (-5)), (2, .int v), (3, .int (nI 0)), (5, .int (nI k)), (6, .int lt), (8, .int av), (9, .int sv), (10, .int bv), (11, .int iv)]) hx hb dX6_over_177 hl (k := 7) rfl (nI_add _ _) (by decide) rfl (fun ls hl => ?_)
                    refine lv_goto (tgt := 41) hx hb dX6_over_180 (by decide) ?_
                    exact K_41 (j + 1) acc2 lt (by first | omega | assumption | rfl) (by first | omega | assumption | rfl) (by show _ = stepV v (accK (fS (σ 17 0) (levO (σ 17 0)) v) k (accZ (fS (σ 17 0) (levO (σ 17 0)) v) 0 k) j) _ _; rw [← ha2, ← hsv, ← hav, stepV]; first | (rw [if_pos (show v = 4 from c_121), ← hbv]; first | exact imax_gt2 c_128 | exact imax_le2 c_128) | (rw [if_neg (show ¬ v = 4 from c_121), ex_174]; first | (rw [if_pos (show v = 3 from c_145), hbv]) | (rw [if_neg (show ¬ v = 3 from c_145), if_pos (show v = 5 from c_155)]) | (rw [if_neg (show ¬ v = 3 from c_145), if_neg (show ¬ v = 5 from c_155), if_pos (hiv.symm.trans c_166)]; rfl) | (rw [if_neg (show ¬ v = 3 from c_145), if_neg (show ¬ v = 5 from c_155), if_neg (fun g => c_166 (hiv.trans g))]; rfl))) (by omega) _ _ _ hw hS (lv_sub hl [2, 3, 4, 5, 1, 6, 7, 0] rfl)
                  · refine lv_iload hx hb dX6_over_131 (lv_at hl 10 rfl) ?_
                    refine lv_goto (tgt := 175) hx hb dX6_over_133 (by decide) ?_
                    refine lv_istore (lv' := [(4, .int bv), (0, .ref (G.1 16 0)), (1, .int (-5)), (2, .int v), (3, .int (nI 0)), (5, .int (nI k)), (6, .int lt), (7, .int (nI j)), (8, .int av), (9, .int sv), (10, .int bv), (11, .int iv)]) hx hb dX6_over_175 hl (by decide) rfl (fun ls hl => ?_)
                    refine lv_iinc (v := nI (j + 1)) (lv' := [(7, .int (nI (j + 1))), (4, .int bv), (0, .ref (G.1 16 0)), (1, .int (-5)), (2, .int v), (3, .int (nI 0)), (5, .int (nI k)), (6, .int lt), (8, .int av), (9, .int sv), (10, .int bv), (11, .int iv)]) hx hb dX6_over_177 hl (k := 7) rfl (nI_add _ _) (by decide) rfl (fun ls hl => ?_)
                    refine lv_goto (tgt := 41) hx hb dX6_over_180 (by decide) ?_
                    exact K_41 (j + 1) bv lt (by first | omega | assumption | rfl) (by first | omega | assumption | rfl) (by show _ = stepV v (accK (fS (σ 17 0) (levO (σ 17 0)) v) k (accZ (fS (σ 17 0) (levO (σ 17 0)) v) 0 k) j) _ _; rw [← ha2, ← hsv, ← hav, stepV]; first | (rw [if_pos (show v = 4 from c_121), ← hbv]; first | exact imax_gt2 c_128 | exact imax_le2 c_128) | (rw [if_neg (show ¬ v = 4 from c_121), ex_174]; first | (rw [if_pos (show v = 3 from c_145), hbv]) | (rw [if_neg (show ¬ v = 3 from c_145), if_pos (show v = 5 from c_155)]) | (rw [if_neg (show ¬ v = 3 from c_145), if_neg (show ¬ v = 5 from c_155), if_pos (hiv.symm.trans c_166)]; rfl) | (rw [if_neg (show ¬ v = 3 from c_145), if_neg (show ¬ v = 5 from c_155), if_neg (fun g => c_166 (hiv.trans g))]; rfl))) (by omega) _ _ _ hw hS (lv_sub hl [2, 3, 4, 5, 1, 6, 7, 0] rfl)
              refine lv_iload_n hx hb dX6_over_48 rfl (lv_at hl 1 rfl) ?_
              refine lv_bipush (v := (-5)) hx hb dX6_over_49 (by decide) ?_
              refine lv_icmp_eq (tgt := 60) hx hb dX6_over_51 (by decide) (fun c_51 => ?_) (fun c_51 => ?_)
              · refine lv_aload_n hx hb dX6_over_60 rfl (lv_at hl 0 rfl) ?_
                refine gf_X6_all hx hb hE hw (Nat.zero_lt_one) hown (hts (.fieldLink RX6 7 "ZonedLightModel" "all" "[I") (by decide +kernel)) dX6_over_61 ?_
                refine lv_iload hx hb dX6_over_64 (lv_at hl 5 rfl) ?_
                refine lv_iload hx hb dX6_over_66 (lv_at hl 7 rfl) ?_
                refine g_Si (n := 2) (As := [.int (nI k), .int (nI j)]) (rest := [.ref (G.1 17 0)]) hx hb hml hown hts hE hw hS gX6_over_X6_spotIn (c_X6_spotIn l G A _ k j (by omega) (by omega)) rfl (by decide +kernel) ⟨Nat.le_of_ble_eq_true rfl, Nat.le_of_ble_eq_true rfl⟩ rfl hl.1 rfl (Nat.le_of_ble_eq_true rfl) ⟨Nat.le_of_ble_eq_true rfl, Nat.le_of_ble_eq_true rfl⟩ dX6_over_68 (fun r_68 τ_68 H locs hp_68 hw hS => ?_)
                obtain ⟨rfl, hτ_68⟩ := hp_68
                rw [hτ_68] at hw
                refine g_ald hx hb hE hw (n := 335) (Nat.zero_lt_one) rfl (by decide) (Nat.lt_trans (spotN_lt c_10 c_45) (by decide)) dX6_over_71 ?_
                refine lv_topi (fun x_71 ex_71 => ?_)
                obtain ⟨nl, hnl, enl⟩ := okW_light18 hok hlw c_10
                have hpos : 0 ≤ lt := by rw [hlt, enl]; exact nI_pos' (by omega)
                refine lv_istore (lv' := [(8, .int x_71), (0, .ref (G.1 16 0)), (1, .int (-5)), (2, .int v), (3, .int (nI 0)), (4, .int acc2), (5, .int (nI k)), (6, .int lt), (7, .int (nI j))]) hx hb dX6_over_72 hl (by decide) rfl (fun ls hl => ?_)
                refine lv_aload_n hx hb dX6_over_74 rfl (lv_at hl 1 rfl) ?_
                refine lv_iload hx hb dX6_over_75 (lv_at hl 0 rfl) ?_
                refine lv_iload hx hb dX6_over_77 (lv_at hl 7 rfl) ?_
                refine g_Vi (n := 2) (As := [.int x_71, .int lt]) (rest := []) hx hb hml hown hts hE hw hS gX6_over_X6_shown (c_X6_shown l G A _ x_71 lt hpos) rfl (by decide +kernel) ⟨Nat.le_of_ble_eq_true rfl, Nat.le_of_ble_eq_true rfl⟩ (Nat.zero_lt_one) rfl rfl rfl rfl hl.1 rfl (Nat.le_of_ble_eq_true rfl) ⟨Nat.le_of_ble_eq_true rfl, Nat.le_of_ble_eq_true rfl⟩ dX6_over_79 (fun x_79 τ_79 H locs hp_79 hw hS => ?_)
                obtain ⟨ex_79, hτ_79⟩ := hp_79
                rw [hτ_79] at hw
                refine lv_istore (lv' := [(9, .int x_79), (8, .int x_71), (0, .ref (G.1 16 0)), (1, .int (-5)), (2, .int v), (3, .int (nI 0)), (4, .int acc2), (5, .int (nI k)), (6, .int lt), (7, .int (nI j))]) hx hb dX6_over_82 hl (by decide) rfl (fun ls hl => ?_)
                refine lv_iload hx hb dX6_over_84 (lv_at hl 0 rfl) ?_
                refine lv_iload hx hb dX6_over_86 (lv_at hl 1 rfl) ?_
                refine lv_isub hx hb dX6_over_88 ?_
                refine lv_topi (fun x_88 ex_88 => ?_)
                refine g_Si (n := 1) (As := [.int x_88]) (rest := []) hx hb hml hown hts hE hw hS gX6_over_X6_off (c_X6_off l G A _ x_88) rfl (by decide +kernel) ⟨Nat.le_of_ble_eq_true rfl, Nat.le_of_ble_eq_true rfl⟩ rfl hl.1 rfl (Nat.le_of_ble_eq_true rfl) ⟨Nat.le_of_ble_eq_true rfl, Nat.le_of_ble_eq_true rfl⟩ dX6_over_89 (fun x_89 τ_89 H locs hp_89 hw hS => ?_)
                obtain ⟨ex_89, hτ_89⟩ := hp_89
                rw [hτ_89] at hw
                have e79 : shownAt (σ 17 0) (levO (σ 17 0)) k j = x_79 := by rw [ex_79, ex_71, shownAt, hlt]
                refine lv_istore (lv' := [(10, .int x_89), (9, .int x_79), (8, .int x_71), (0, .ref (G.1 16 0)), (1, .int (-5)), (2, .int v), (3, .int (nI 0)), (4, .int acc2), (5, .int (nI k)), (6, .int lt), (7, .int (nI j))]) hx hb dX6_over_92 hl (by decide) rfl (fun ls hl => ?_)
                refine lv_iload hx hb dX6_over_94 (lv_at hl 1 rfl) ?_
                refine lv_iload hx hb dX6_over_96 (lv_at hl 2 rfl) ?_
                refine lv_icmp_ne (tgt := 105) hx hb dX6_over_98 (by decide) (fun c_98 => ?_) (fun c_98 => ?_)
                · refine lv_iload hx hb dX6_over_105 (lv_at hl 1 rfl) ?_
                  refine lv_iload hx hb dX6_over_107 (lv_at hl 2 rfl) ?_
                  refine lv_icmp_ge (tgt := 116) hx hb dX6_over_109 (by decide) (fun c_109 => ?_) (fun c_109 => ?_)
                  · refine lv_iconst (v := nI 2) hx hb dX6_over_116 (by decide) ?_
                    refine lv_istore (lv' := [(11, .int (nI 2)), (10, .int x_89), (9, .int x_79), (8, .int x_71), (0, .ref (G.1 16 0)), (1, .int (-5)), (2, .int v), (3, .int (nI 0)), (4, .int acc2), (5, .int (nI k)), (6, .int lt), (7, .int (nI j))]) hx hb dX6_over_117 hl (by decide) rfl (fun ls hl => ?_)
                    exact K_119 (nI 2) x_89 x_71 x_79 (by unfold verdF; first | (rw [if_pos c_98]; rfl) | (rw [if_neg c_98, if_pos (Int32.not_le.mp c_109)]; rfl) | (rw [if_neg c_98, if_neg (Int32.not_lt.mpr c_109)]; rfl)) (by rw [ex_89, ex_88]) ex_71 e79.symm _ _ _ hw hS (lv_sub hl [4, 5, 6, 7, 8, 9, 10, 11, 3, 2, 1, 0] rfl)
                  · refine lv_iconst (v := nI 1) hx hb dX6_over_112 (by decide) ?_
                    refine lv_goto (tgt := 117) hx hb dX6_over_113 (by decide) ?_
                    refine lv_istore (lv' := [(11, .int (nI 1)), (10, .int x_89), (9, .int x_79), (8, .int x_71), (0, .ref (G.1 16 0)), (1, .int (-5)), (2, .int v), (3, .int (nI 0)), (4, .int acc2), (5, .int (nI k)), (6, .int lt), (7, .int (nI j))]) hx hb dX6_over_117 hl (by decide) rfl (fun ls hl => ?_)
                    exact K_119 (nI 1) x_89 x_71 x_79 (by unfold verdF; first | (rw [if_pos c_98]; rfl) | (rw [if_neg c_98, if_pos (Int32.not_le.mp c_109)]; rfl) | (rw [if_neg c_98, if_neg (Int32.not_lt.mpr c_109)]; rfl)) (by rw [ex_89, ex_88]) ex_71 e79.symm _ _ _ hw hS (lv_sub hl [4, 5, 6, 7, 8, 9, 10, 11, 3, 2, 1, 0] rfl)
                · refine lv_iconst (v := nI 0) hx hb dX6_over_101 (by decide) ?_
                  refine lv_goto (tgt := 117) hx hb dX6_over_102 (by decide) ?_
                  refine lv_istore (lv' := [(11, .int (nI 0)), (10, .int x_89), (9, .int x_79), (8, .int x_71), (0, .ref (G.1 16 0)), (1, .int (-5)), (2, .int v), (3, .int (nI 0)), (4, .int acc2), (5, .int (nI k)), (6, .int lt), (7, .int (nI j))]) hx hb dX6_over_117 hl (by decide) rfl (fun ls hl => ?_)
                  exact K_119 (nI 0) x_89 x_71 x_79 (by unfold verdF; first | (rw [if_pos c_98]; rfl) | (rw [if_neg c_98, if_pos (Int32.not_le.mp c_109)]; rfl) | (rw [if_neg c_98, if_neg (Int32.not_lt.mpr c_109)]; rfl)) (by rw [ex_89, ex_88]) ex_71 e79.symm _ _ _ hw hS (lv_sub hl [4, 5, 6, 7, 8, 9, 10, 11, 3, 2, 1, 0] rfl)
              · exact absurd rfl c_51
        refine lv_iload_n hx hb dX6_over_13 rfl (lv_at hl 1 rfl) ?_
        refine lv_bipush (v := (-5)) hx hb dX6_over_14 (by decide) ?_
        refine lv_icmp_eq (tgt := 25) hx hb dX6_over_16 (by decide) (fun c_16 => ?_) (fun c_16 => ?_)
        · refine lv_aload_n hx hb dX6_over_25 rfl (lv_at hl 0 rfl) ?_
          refine lv_iload hx hb dX6_over_26 (lv_at hl 5 rfl) ?_
          refine lv_iload_n hx hb dX6_over_28 rfl (lv_at hl 3 rfl) ?_
          refine g_Vi (n := 2) (As := [.int (nI k), .int (nI 0)]) (rest := []) hx hb hml hown hts hE hw hS gX6_over_X6_light (c_X6_light l G A _ k (by omega)) rfl (by decide +kernel) ⟨Nat.le_of_ble_eq_true rfl, Nat.le_of_ble_eq_true rfl⟩ (Nat.zero_lt_one) rfl rfl rfl rfl hl.1 rfl (Nat.le_of_ble_eq_true rfl) ⟨Nat.le_of_ble_eq_true rfl, Nat.le_of_ble_eq_true rfl⟩ dX6_over_29 (fun x_29 τ_29 H locs hp_29 hw hS => ?_)
          obtain ⟨ex_29, hτ_29⟩ := hp_29
          rw [hτ_29] at hw
          refine lv_goto (tgt := 36) hx hb dX6_over_32 (by decide) ?_
          refine lv_istore (lv' := [(6, .int x_29), (0, .ref (G.1 16 0)), (1, .int (-5)), (2, .int v), (3, .int (nI 0)), (4, .int acc), (5, .int (nI k))]) hx hb dX6_over_36 hl (by decide) rfl (fun ls hl => ?_)
          refine lv_iconst (v := nI 0) hx hb dX6_over_38 (by decide) ?_
          refine lv_istore (lv' := [(7, .int (nI 0)), (6, .int x_29), (0, .ref (G.1 16 0)), (1, .int (-5)), (2, .int v), (3, .int (nI 0)), (4, .int acc), (5, .int (nI k))]) hx hb dX6_over_39 hl (by decide) rfl (fun ls hl => ?_)
          exact K_41 (16 - 0 + 1) 0 acc x_29 (by first | omega | assumption | rfl) ex_29 (by rw [ha]; rfl) (Nat.lt_succ_self _) _ _ _ hw hS (lv_sub hl [2, 3, 4, 5, 6, 7, 1, 0] rfl)
        · exact absurd rfl c_16
  exact K_6 (18 - 0 + 1) 0 (nI 0) (by first | omega | assumption | rfl) rfl (Nat.lt_succ_self _) _ _ _ hw hS (lv_sub hl [2, 3, 4, 5, 1, 0] rfl)
set_option maxHeartbeats 4000000 in
set_option maxRecDepth 100000 in
/-- ZonedLightModel.over(IIZ)I -/
theorem c_X6_overW (l : Launch) (G : GG) (A : Nat → Prop) (σ : St) (v : Int32) (hok : okW (σ 17 0)) (hlw : lowW (σ 20 0)) : MI l yX6_over wsX6_over 3 67 G A σ [.ref (G.1 16 0), .int (-5), .int v, .int (nI 1)] (fun r τ => r = accZ (fS (σ 17 0) (σ 20 0) v) 0 18 ∧ τ = σ) := by
  refine MI.on (by decide) rfl (Nat.le_of_ble_eq_true rfl) (fun pP eE sS mM args below meth cC ls hx hb hml hr hown hlk hts hE hw hS hl => ?_)
  have hl : lv_has ls 12 [(0, .ref (G.1 16 0)), (1, .int (-5)), (2, .int v), (3, .int (nI 1))] := hl
  refine lv_iconst (v := nI 0) hx hb dX6_over_0 (by decide) ?_
  refine lv_istore (lv' := [(4, .int (nI 0)), (0, .ref (G.1 16 0)), (1, .int (-5)), (2, .int v), (3, .int (nI 1))]) hx hb dX6_over_1 hl (by decide) rfl (fun ls hl => ?_)
  refine lv_iconst (v := nI 0) hx hb dX6_over_3 (by decide) ?_
  refine lv_istore (lv' := [(5, .int (nI 0)), (4, .int (nI 0)), (0, .ref (G.1 16 0)), (1, .int (-5)), (2, .int v), (3, .int (nI 1))]) hx hb dX6_over_4 hl (by decide) rfl (fun ls hl => ?_)
  have K_6 : ∀ (fuel : Nat) (k : Nat) (acc : Int32), (k ≤ 18) → (acc = accZ (fS (σ 17 0) (σ 20 0) v) 0 k) → 18 - k < fuel → ∀ (H : Heap) (locs : List Loc) (ls : Array Slot), Wcel G σ H → va_S A sS.heap H locs → lv_has ls 12 [(0, .ref (G.1 16 0)), (1, .int (-5)), (2, .int v), (3, .int (nI 1)), (4, .int acc), (5, .int (nI k))] → W pP l eE { frames := 3, cells := 0, slots := 0, locals := 67 } sS mM args below meth cC H locs 0 0 (MQ below (va_Qi (fun r τ => r = accZ (fS (σ 17 0) (σ 20 0) v) 0 18 ∧ τ = σ) (fun τ t => gP G A τ t) A) args sS 0 0 A) (F0 mM 6 ls []) := by
    intro fuel
    induction fuel with
    | zero =>
      intro k acc hk ha hfu
      exact absurd hfu (Nat.not_lt_zero _)
    | succ fuel K_6 =>
      intro k acc hk ha hfu H locs ls hw hS hl
      refine lv_iload hx hb dX6_over_6 (lv_at hl 5 rfl) ?_
      refine lv_bipush (v := nI 18) hx hb dX6_over_8 (by decide) ?_
      refine n_cmp_ge (tgt := 189) hx hb dX6_over_10 (by decide) (by omega) (by omega) (fun c_10 => ?_) (fun c_10 => ?_)
      · refine lv_iload hx hb dX6_over_189 (lv_at hl 4 rfl) ?_
        refine g_iret hx hb hr hlk hE hw hS dX6_over_191 ?_
        exact ⟨by rw [ha, show k = 18 by omega], rfl⟩
      · have K_41 : ∀ (fuel : Nat) (j : Nat) (acc2 : Int32) (lt : Int32), (j ≤ 16) → (lt = lightF (σ 17 0) (σ 20 0) k) → (acc2 = accK (fS (σ 17 0) (σ 20 0) v) k (accZ (fS (σ 17 0) (σ 20 0) v) 0 k) j) → 16 - j < fuel → ∀ (H : Heap) (locs : List Loc) (ls : Array Slot), Wcel G σ H → va_S A sS.heap H locs → lv_has ls 12 [(0, .ref (G.1 16 0)), (1, .int (-5)), (2, .int v), (3, .int (nI 1)), (4, .int acc2), (5, .int (nI k)), (6, .int lt), (7, .int (nI j))] → W pP l eE { frames := 3, cells := 0, slots := 0, locals := 67 } sS mM args below meth cC H locs 0 0 (MQ below (va_Qi (fun r τ => r = accZ (fS (σ 17 0) (σ 20 0) v) 0 18 ∧ τ = σ) (fun τ t => gP G A τ t) A) args sS 0 0 A) (F0 mM 41 ls []) := by
          intro fuel
          induction fuel with
          | zero =>
            intro j acc2 lt hj hlt ha2 hfu
            exact absurd hfu (Nat.not_lt_zero _)
          | succ fuel K_41 =>
            intro j acc2 lt hj hlt ha2 hfu H locs ls hw hS hl
            refine lv_iload hx hb dX6_over_41 (lv_at hl 7 rfl) ?_
            refine lv_bipush (v := nI 16) hx hb dX6_over_43 (by decide) ?_
            refine n_cmp_ge (tgt := 183) hx hb dX6_over_45 (by decide) (by omega) (by omega) (fun c_45 => ?_) (fun c_45 => ?_)
            · refine lv_iinc (v := nI (k + 1)) (lv' := [(5, .int (nI (k + 1))), (0, .ref (G.1 16 0)), (1, .int (-5)), (2, .int v), (3, .int (nI 1)), (4, .int acc2), (6, .int lt), (7, .int (nI j))]) hx hb dX6_over_183 hl (k := 5) rfl (nI_add _ _) (by decide) rfl (fun ls hl => ?_)
              refine lv_goto (tgt := 6) hx hb dX6_over_186 (by decide) ?_
              exact K_6 (k + 1) acc2 (by first | omega | assumption | rfl) (by rw [ha2, show j = 16 by omega]; rfl) (by omega) _ _ _ hw hS (lv_sub hl [1, 2, 3, 4, 5, 0] rfl)
            · have K_119 : ∀ (iv : Int32) (bv : Int32) (av : Int32) (sv : Int32), (iv = verdF av sv) → (bv = iabs (sv - av)) → (av = σ 17 0 (spotN k j)) → (sv = shownAt (σ 17 0) (σ 20 0) k j) → ∀ (H : Heap) (locs : List Loc) (ls : Array Slot), Wcel G σ H → va_S A sS.heap H locs → lv_has ls 12 [(0, .ref (G.1 16 0)), (1, .int (-5)), (2, .int v), (3, .int (nI 1)), (4, .int acc2), (5, .int (nI k)), (6, .int lt), (7, .int (nI j)), (8, .int av), (9, .int sv), (10, .int bv), (11, .int iv)] → W pP l eE { frames := 3, cells := 0, slots := 0, locals := 67 } sS mM args below meth cC H locs 0 0 (MQ below (va_Qi (fun r τ => r = accZ (fS (σ 17 0) (σ 20 0) v) 0 18 ∧ τ = σ) (fun τ t => gP G A τ t) A) args sS 0 0 A) (F0 mM 119 ls []) := by
                intro iv bv av sv hiv hbv hav hsv H locs ls hw hS hl
                refine lv_iload_n hx hb dX6_over_119 rfl (lv_at hl 2 rfl) ?_
                refine lv_iconst (v := nI 4) hx hb dX6_over_120 (by decide) ?_
                refine lv_icmp_ne (tgt := 141) hx hb dX6_over_121 (by decide) (fun c_121 => ?_) (fun c_121 => ?_)
                · refine lv_iload hx hb dX6_over_141 (lv_at hl 4 rfl) ?_
                  refine lv_iload_n hx hb dX6_over_143 rfl (lv_at hl 2 rfl) ?_
                  refine lv_iconst (v := nI 3) hx hb dX6_over_144 (by decide) ?_
                  refine lv_icmp_ne (tgt := 153) hx hb dX6_over_145 (by decide) (fun c_145 => ?_) (fun c_145 => ?_)
                  · refine lv_iload_n hx hb dX6_over_153 rfl (lv_at hl 2 rfl) ?_
                    refine lv_iconst (v := nI 5) hx hb dX6_over_154 (by decide) ?_
                    refine lv_icmp_ne (tgt := 163) hx hb dX6_over_155 (by decide) (fun c_155 => ?_) (fun c_155 => ?_)
                    · refine lv_iload hx hb dX6_over_163 (lv_at hl 11 rfl) ?_
                      refine lv_iload_n hx hb dX6_over_165 rfl (lv_at hl 2 rfl) ?_
                      refine lv_icmp_ne (tgt := 173) hx hb dX6_over_166 (by decide) (fun c_166 => ?_) (fun c_166 => ?_)
                      · refine lv_iconst (v := nI 0) hx hb dX6_over_173 (by decide) ?_
                        refine lv_iadd hx hb dX6_over_174 ?_
                        refine lv_topi (fun x_174 ex_174 => ?_)
                        refine lv_istore (lv' := [(4, .int x_174), (0, .ref (G.1 16 0)), (1, .int (-5)), (2, .int v), (3, .int (nI 1)), (5, .int (nI k)), (6, .int lt), (7, .int (nI j)), (8, .int av), (9, .int sv), (10, .int bv), (11, .int iv)]) hx hb dX6_over_175 hl (by decide) rfl (fun ls hl => ?_)
                        refine lv_iinc (v := nI (j + 1)) (lv' := [(7, .int (nI (j + 1))), (4, .int x_174), (0, .ref (G.1 16 0)), (1, .int (-5)), (2, .int v), (3, .int (nI 1)), (5, .int (nI k)), (6, .int lt), (8, .int av), (9, .int sv), (10, .int bv), (11, .int iv)]) hx hb dX6_over_177 hl (k := 7) rfl (nI_add _ _) (by decide) rfl (fun ls hl => ?_)
                        refine lv_goto (tgt := 41) hx hb dX6_over_180 (by decide) ?_
                        exact K_41 (j + 1) x_174 lt (by first | omega | assumption | rfl) (by first | omega | assumption | rfl) (by show _ = stepV v (accK (fS (σ 17 0) (σ 20 0) v) k (accZ (fS (σ 17 0) (σ 20 0) v) 0 k) j) _ _; rw [← ha2, ← hsv, ← hav, stepV]; first | (rw [if_pos (show v = 4 from c_121), ← hbv]; first | exact imax_gt2 c_128 | exact imax_le2 c_128) | (rw [if_neg (show ¬ v = 4 from c_121), ex_174]; first | (rw [if_pos (show v = 3 from c_145), hbv]) | (rw [if_neg (show ¬ v = 3 from c_145), if_pos (show v = 5 from c_155)]) | (rw [if_neg (show ¬ v = 3 from c_145), if_neg (show ¬ v = 5 from c_155), if_pos (hiv.symm.trans c_166)]; rfl) | (rw [if_neg (show ¬ v = 3 from c_145), if_neg (show ¬ v = 5 from c_155), if_neg (fun g => c_166 (hiv.trans g))]; rfl))) (by omega) _ _ _ hw hS (lv_sub hl [2, 3, 4, 5, 1, 6, 7, 0] rfl)
                      · refine lv_iconst (v := nI 1) hx hb dX6_over_169 (by decide) ?_
                        refine lv_goto (tgt := 174) hx hb dX6_over_170 (by decide) ?_
                        refine lv_iadd hx hb dX6_over_174 ?_
                        refine lv_topi (fun x_174 ex_174 => ?_)
                        refine lv_istore (lv' := [(4, .int x_174), (0, .ref (G.1 16 0)), (1, .int (-5)), (2, .int v), (3, .int (nI 1)), (5, .int (nI k)), (6, .int lt), (7, .int (nI j)), (8, .int av), (9, .int sv), (10, .int bv), (11, .int iv)]) hx hb dX6_over_175 hl (by decide) rfl (fun ls hl => ?_)
                        refine lv_iinc (v := nI (j + 1)) (lv' := [(7, .int (nI (j + 1))), (4, .int x_174), (0, .ref (G.1 16 0)), (1, .int (-5)), (2, .int v), (3, .int (nI 1)), (5, .int (nI k)), (6, .int lt), (8, .int av), (9, .int sv), (10, .int bv), (11, .int iv)]) hx hb dX6_over_177 hl (k := 7) rfl (nI_add _ _) (by decide) rfl (fun ls hl => ?_)
                        refine lv_goto (tgt := 41) hx hb dX6_over_180 (by decide) ?_
                        exact K_41 (j + 1) x_174 lt (by first | omega | assumption | rfl) (by first | omega | assumption | rfl) (by show _ = stepV v (accK (fS (σ 17 0) (σ 20 0) v) k (accZ (fS (σ 17 0) (σ 20 0) v) 0 k) j) _ _; rw [← ha2, ← hsv, ← hav, stepV]; first | (rw [if_pos (show v = 4 from c_121), ← hbv]; first | exact imax_gt2 c_128 | exact imax_le2 c_128) | (rw [if_neg (show ¬ v = 4 from c_121), ex_174]; first | (rw [if_pos (show v = 3 from c_145), hbv]) | (rw [if_neg (show ¬ v = 3 from c_145), if_pos (show v = 5 from c_155)]) | (rw [if_neg (show ¬ v = 3 from c_145), if_neg (show ¬ v = 5 from c_155), if_pos (hiv.symm.trans c_166)]; rfl) | (rw [if_neg (show ¬ v = 3 from c_145), if_neg (show ¬ v = 5 from c_155), if_neg (fun g => c_166 (hiv.trans g))]; rfl))) (by omega) _ _ _ hw hS (lv_sub hl [2, 3, 4, 5, 1, 6, 7, 0] rfl)
                    · refine lv_iload hx hb dX6_over_158 (lv_at hl 9 rfl) ?_
                      refine lv_goto (tgt := 174) hx hb dX6_over_160 (by decide) ?_
                      refine lv_iadd hx hb dX6_over_174 ?_
                      refine lv_topi (fun x_174 ex_174 => ?_)
                      refine lv_istore (lv' := [(4, .int x_174), (0, .ref (G.1 16 0)), (1, .int (-5)), (2, .int v), (3, .int (nI 1)), (5, .int (nI k)), (6, .int lt), (7, .int (nI j)), (8, .int av), (9, .int sv), (10, .int bv), (11, .int iv)]) hx hb dX6_over_175 hl (by decide) rfl (fun ls hl => ?_)
                      refine lv_iinc (v := nI (j + 1)) (lv' := [(7, .int (nI (j + 1))), (4, .int x_174), (0, .ref (G.1 16 0)), (1, .int (-5)), (2, .int v), (3, .int (nI 1)), (5, .int (nI k)), (6, .int lt), (8, .int av), (9, .int sv), (10, .int bv), (11, .int iv)]) hx hb dX6_over_177 hl (k := 7) rfl (nI_add _ _) (by decide) rfl (fun ls hl => ?_)
                      refine lv_goto (tgt := 41) hx hb dX6_over_180 (by decide) ?_
                      exact K_41 (j + 1) x_174 lt (by first | omega | assumption | rfl) (by first | omega | assumption | rfl) (by show _ = stepV v (accK (fS (σ 17 0) (σ 20 0) v) k (accZ (fS (σ 17 0) (σ 20 0) v) 0 k) j) _ _; rw [← ha2, ← hsv, ← hav, stepV]; first | (rw [if_pos (show v = 4 from c_121), ← hbv]; first | exact imax_gt2 c_128 | exact imax_le2 c_128) | (rw [if_neg (show ¬ v = 4 from c_121), ex_174]; first | (rw [if_pos (show v = 3 from c_145), hbv]) | (rw [if_neg (show ¬ v = 3 from c_145), if_pos (show v = 5 from c_155)]) | (rw [if_neg (show ¬ v = 3 from c_145), if_neg (show ¬ v = 5 from c_155), if_pos (hiv.symm.trans c_166)]; rfl) | (rw [if_neg (show ¬ v = 3 from c_145), if_neg (show ¬ v = 5 from c_155), if_neg (fun g => c_166 (hiv.trans g))]; rfl))) (by omega) _ _ _ hw hS (lv_sub hl [2, 3, 4, 5, 1, 6, 7, 0] rfl)
                  · refine lv_iload hx hb dX6_over_148 (lv_at hl 10 rfl) ?_
                    refine lv_goto (tgt := 174) hx hb dX6_over_150 (by decide) ?_
                    refine lv_iadd hx hb dX6_over_174 ?_
                    refine lv_topi (fun x_174 ex_174 => ?_)
                    refine lv_istore (lv' := [(4, .int x_174), (0, .ref (G.1 16 0)), (1, .int (-5)), (2, .int v), (3, .int (nI 1)), (5, .int (nI k)), (6, .int lt), (7, .int (nI j)), (8, .int av), (9, .int sv), (10, .int bv), (11, .int iv)]) hx hb dX6_over_175 hl (by decide) rfl (fun ls hl => ?_)
                    refine lv_iinc (v := nI (j + 1)) (lv' := [(7, .int (nI (j + 1))), (4, .int x_174), (0, .ref (G.1 16 0)), (1, .int (-5)), (2, .int v), (3, .int (nI 1)), (5, .int (nI k)), (6, .int lt), (8, .int av), (9, .int sv), (10, .int bv), (11, .int iv)]) hx hb dX6_over_177 hl (k := 7) rfl (nI_add _ _) (by decide) rfl (fun ls hl => ?_)
                    refine lv_goto (tgt := 41) hx hb dX6_over_180 (by decide) ?_
                    exact K_41 (j + 1) x_174 lt (by first | omega | assumption | rfl) (by first | omega | assumption | rfl) (by show _ = stepV v (accK (fS (σ 17 0) (σ 20 0) v) k (accZ (fS (σ 17 0) (σ 20 0) v) 0 k) j) _ _; rw [← ha2, ← hsv, ← hav, stepV]; first | (rw [if_pos (show v = 4 from c_121), ← hbv]; first | exact imax_gt2 c_128 | exact imax_le2 c_128) | (rw [if_neg (show ¬ v = 4 from c_121), ex_174]; first | (rw [if_pos (show v = 3 from c_145), hbv]) | (rw [if_neg (show ¬ v = 3 from c_145), if_pos (show v = 5 from c_155)]) | (rw [if_neg (show ¬ v = 3 from c_145), if_neg (show ¬ v = 5 from c_155), if_pos (hiv.symm.trans c_166)]; rfl) | (rw [if_neg (show ¬ v = 3 from c_145), if_neg (show ¬ v = 5 from c_155), if_neg (fun g => c_166 (hiv.trans g))]; rfl))) (by omega) _ _ _ hw hS (lv_sub hl [2, 3, 4, 5, 1, 6, 7, 0] rfl)
                · refine lv_iload hx hb dX6_over_124 (lv_at hl 10 rfl) ?_
                  refine lv_iload hx hb dX6_over_126 (lv_at hl 4 rfl) ?_
                  refine lv_icmp_le (tgt := 136) hx hb dX6_over_128 (by decide) (fun c_128 => ?_) (fun c_128 => ?_)
                  · refine lv_iload hx hb dX6_over_136 (lv_at hl 4 rfl) ?_
                    refine lv_goto (tgt := 175) hx hb dX6_over_138 (by decide) ?_
                    refine lv_istore (lv' := [(4, .int acc2), (0, .ref (G.1 16 0)), (1, .int (-5)), (2, .int v), (3, .int (nI 1)), (5, .int (nI k)), (6, .int lt), (7, .int (nI j)), (8, .int av), (9, .int sv), (10, .int bv), (11, .int iv)]) hx hb dX6_over_175 hl (by decide) rfl (fun ls hl => ?_)
                    refine lv_iinc (v := nI (j + 1)) (lv' := [(7, .int (nI (j + 1))), (4, .int acc2), (0, .ref (G.1 16 0)), (1, .int (-5)), (2, .int v), (3, .int (nI 1)), (5, .int (nI k)), (6, .int lt), (8, .int av), (9, .int sv), (10, .int bv), (11, .int iv)]) hx hb dX6_over_177 hl (k := 7) rfl (nI_add _ _) (by decide) rfl (fun ls hl => ?_)
                    refine lv_goto (tgt := 41) hx hb dX6_over_180 (by decide) ?_
                    exact K_41 (j + 1) acc2 lt (by first | omega | assumption | rfl) (by first | omega | assumption | rfl) (by show _ = stepV v (accK (fS (σ 17 0) (σ 20 0) v) k (accZ (fS (σ 17 0) (σ 20 0) v) 0 k) j) _ _; rw [← ha2, ← hsv, ← hav, stepV]; first | (rw [if_pos (show v = 4 from c_121), ← hbv]; first | exact imax_gt2 c_128 | exact imax_le2 c_128) | (rw [if_neg (show ¬ v = 4 from c_121), ex_174]; first | (rw [if_pos (show v = 3 from c_145), hbv]) | (rw [if_neg (show ¬ v = 3 from c_145), if_pos (show v = 5 from c_155)]) | (rw [if_neg (show ¬ v = 3 from c_145), if_neg (show ¬ v = 5 from c_155), if_pos (hiv.symm.trans c_166)]; rfl) | (rw [if_neg (show ¬ v = 3 from c_145), if_neg (show ¬ v = 5 from c_155), if_neg (fun g => c_166 (hiv.trans g))]; rfl))) (by omega) _ _ _ hw hS (lv_sub hl [2, 3, 4, 5, 1, 6, 7, 0] rfl)
                  · refine lv_iload hx hb dX6_over_131 (lv_at hl 10 rfl) ?_
                    refine lv_goto (tgt := 175) hx hb dX6_over_133 (by decide) ?_
                    refine lv_istore (lv' := [(4, .int bv), (0, .ref (G.1 16 0)), (1, .int (-5)), (2, .int v), (3, .int (nI 1)), (5, .int (nI k)), (6, .int lt), (7, .int (nI j)), (8, .int av), (9, .int sv), (10, .int bv), (11, .int iv)]) hx hb dX6_over_175 hl (by decide) rfl (fun ls hl => ?_)
                    refine lv_iinc (v := nI (j + 1)) (lv' := [(7, .int (nI (j + 1))), (4, .int bv), (0, .ref (G.1 16 0)), (1, .int (-5)), (2, .int v), (3, .int (nI 1)), (5, .int (nI k)), (6, .int lt), (8, .int av), (9, .int sv), (10, .int bv), (11, .int iv)]) hx hb dX6_over_177 hl (k := 7) rfl (nI_add _ _) (by decide) rfl (fun ls hl => ?_)
                    refine lv_goto (tgt := 41) hx hb dX6_over_180 (by decide) ?_
                    exact K_41 (j + 1) bv lt (by first | omega | assumption | rfl) (by first | omega | assumption | rfl) (by show _ = stepV v (accK (fS (σ 17 0) (σ 20 0) v) k (accZ (fS (σ 17 0) (σ 20 0) v) 0 k) j) _ _; rw [← ha2, ← hsv, ← hav, stepV]; first | (rw [if_pos (show v = 4 from c_121), ← hbv]; first | exact imax_gt2 c_128 | exact imax_le2 c_128) | (rw [if_neg (show ¬ v = 4 from c_121), ex_174]; first | (rw [if_pos (show v = 3 from c_145), hbv]) | (rw [if_neg (show ¬ v = 3 from c_145), if_pos (show v = 5 from c_155)]) | (rw [if_neg (show ¬ v = 3 from c_145), if_neg (show ¬ v = 5 from c_155), if_pos (hiv.symm.trans c_166)]; rfl) | (rw [if_neg (show ¬ v = 3 from c_145), if_neg (show ¬ v = 5 from c_155), if_neg (fun g => c_166 (hiv.trans g))]; rfl))) (by omega) _ _ _ hw hS (lv_sub hl [2, 3, 4, 5, 1, 6, 7, 0] rfl)
              refine lv_iload_n hx hb dX6_over_48 rfl (lv_at hl 1 rfl) ?_
              refine lv_bipush (v := (-5)) hx hb dX6_over_49 (by decide) ?_
              refine lv_icmp_eq (tgt := 60) hx hb dX6_over_51 (by decide) (fun c_51 => ?_) (fun c_51 => ?_)
              · refine lv_aload_n hx hb dX6_over_60 rfl (lv_at hl 0 rfl) ?_
                refine gf_X6_all hx hb hE hw (Nat.zero_lt_one) hown (hts (.fieldLink RX6 7 "ZonedLightModel" "all" "[I") (by decide +kernel)) dX6_over_61 ?_
                refine lv_iload hx hb dX6_over_64 (lv_at hl 5 rfl) ?_
                refine lv_iload hx hb dX6_over_66 (lv_at hl 7 rfl) ?_
                refine g_Si (n := 2) (As := [.int (nI k), .int (nI j)]) (rest := [.ref (G.1 17 0)]) hx hb hml hown hts hE hw hS gX6_over_X6_spotIn (c_X6_spotIn l G A _ k j (by omega) (by omega)) rfl (by decide +kernel) ⟨Nat.le_of_ble_eq_true rfl, Nat.le_of_ble_eq_true rfl⟩ rfl hl.1 rfl (Nat.le_of_ble_eq_true rfl) ⟨Nat.le_of_ble_eq_true rfl, Nat.le_of_ble_eq_true rfl⟩ dX6_over_68 (fun r_68 τ_68 H locs hp_68 hw hS => ?_)
                obtain ⟨rfl, hτ_68⟩ := hp_68
                rw [hτ_68] at hw
                refine g_ald hx hb hE hw (n := 335) (Nat.zero_lt_one) rfl (by decide) (Nat.lt_trans (spotN_lt c_10 c_45) (by decide)) dX6_over_71 ?_
                refine lv_topi (fun x_71 ex_71 => ?_)
                obtain ⟨nl, hnl, enl⟩ := okW_light hok hlw c_10
                have hpos : 0 ≤ lt := by rw [hlt, enl]; exact nI_pos' (by omega)
                refine lv_istore (lv' := [(8, .int x_71), (0, .ref (G.1 16 0)), (1, .int (-5)), (2, .int v), (3, .int (nI 1)), (4, .int acc2), (5, .int (nI k)), (6, .int lt), (7, .int (nI j))]) hx hb dX6_over_72 hl (by decide) rfl (fun ls hl => ?_)
                refine lv_aload_n hx hb dX6_over_74 rfl (lv_at hl 1 rfl) ?_
                refine lv_iload hx hb dX6_over_75 (lv_at hl 0 rfl) ?_
                refine lv_iload hx hb dX6_over_77 (lv_at hl 7 rfl) ?_
                refine g_Vi (n := 2) (As := [.int x_71, .int lt]) (rest := []) hx hb hml hown hts hE hw hS gX6_over_X6_shown (c_X6_shown l G A _ x_71 lt hpos) rfl (by decide +kernel) ⟨Nat.le_of_ble_eq_true rfl, Nat.le_of_ble_eq_true rfl⟩ (Nat.zero_lt_one) rfl rfl rfl rfl hl.1 rfl (Nat.le_of_ble_eq_true rfl) ⟨Nat.le_of_ble_eq_true rfl, Nat.le_of_ble_eq_true rfl⟩ dX6_over_79 (fun x_79 τ_79 H locs hp_79 hw hS => ?_)
                obtain ⟨ex_79, hτ_79⟩ := hp_79
                rw [hτ_79] at hw
                refine lv_istore (lv' := [(9, .int x_79), (8, .int x_71), (0, .ref (G.1 16 0)), (1, .int (-5)), (2, .int v), (3, .int (nI 1)), (4, .int acc2), (5, .int (nI k)), (6, .int lt), (7, .int (nI j))]) hx hb dX6_over_82 hl (by decide) rfl (fun ls hl => ?_)
                refine lv_iload hx hb dX6_over_84 (lv_at hl 0 rfl) ?_
                refine lv_iload hx hb dX6_over_86 (lv_at hl 1 rfl) ?_
                refine lv_isub hx hb dX6_over_88 ?_
                refine lv_topi (fun x_88 ex_88 => ?_)
                refine g_Si (n := 1) (As := [.int x_88]) (rest := []) hx hb hml hown hts hE hw hS gX6_over_X6_off (c_X6_off l G A _ x_88) rfl (by decide +kernel) ⟨Nat.le_of_ble_eq_true rfl, Nat.le_of_ble_eq_true rfl⟩ rfl hl.1 rfl (Nat.le_of_ble_eq_true rfl) ⟨Nat.le_of_ble_eq_true rfl, Nat.le_of_ble_eq_true rfl⟩ dX6_over_89 (fun x_89 τ_89 H locs hp_89 hw hS => ?_)
                obtain ⟨ex_89, hτ_89⟩ := hp_89
                rw [hτ_89] at hw
                have e79 : shownAt (σ 17 0) (σ 20 0) k j = x_79 := by rw [ex_79, ex_71, shownAt, hlt]
                refine lv_istore (lv' := [(10, .int x_89), (9, .int x_79), (8, .int x_71), (0, .ref (G.1 16 0)), (1, .int (-5)), (2, .int v), (3, .int (nI 1)), (4, .int acc2), (5, .int (nI k)), (6, .int lt), (7, .int (nI j))]) hx hb dX6_over_92 hl (by decide) rfl (fun ls hl => ?_)
                refine lv_iload hx hb dX6_over_94 (lv_at hl 1 rfl) ?_
                refine lv_iload hx hb dX6_over_96 (lv_at hl 2 rfl) ?_
                refine lv_icmp_ne (tgt := 105) hx hb dX6_over_98 (by decide) (fun c_98 => ?_) (fun c_98 => ?_)
                · refine lv_iload hx hb dX6_over_105 (lv_at hl 1 rfl) ?_
                  refine lv_iload hx hb dX6_over_107 (lv_at hl 2 rfl) ?_
                  refine lv_icmp_ge (tgt := 116) hx hb dX6_over_109 (by decide) (fun c_109 => ?_) (fun c_109 => ?_)
                  · refine lv_iconst (v := nI 2) hx hb dX6_over_116 (by decide) ?_
                    refine lv_istore (lv' := [(11, .int (nI 2)), (10, .int x_89), (9, .int x_79), (8, .int x_71), (0, .ref (G.1 16 0)), (1, .int (-5)), (2, .int v), (3, .int (nI 1)), (4, .int acc2), (5, .int (nI k)), (6, .int lt), (7, .int (nI j))]) hx hb dX6_over_117 hl (by decide) rfl (fun ls hl => ?_)
                    exact K_119 (nI 2) x_89 x_71 x_79 (by unfold verdF; first | (rw [if_pos c_98]; rfl) | (rw [if_neg c_98, if_pos (Int32.not_le.mp c_109)]; rfl) | (rw [if_neg c_98, if_neg (Int32.not_lt.mpr c_109)]; rfl)) (by rw [ex_89, ex_88]) ex_71 e79.symm _ _ _ hw hS (lv_sub hl [4, 5, 6, 7, 8, 9, 10, 11, 3, 2, 1, 0] rfl)
                  · refine lv_iconst (v := nI 1) hx hb dX6_over_112 (by decide) ?_
                    refine lv_goto (tgt := 117) hx hb dX6_over_113 (by decide) ?_
                    refine lv_istore (lv' := [(11, .int (nI 1)), (10, .int x_89), (9, .int x_79), (8, .int x_71), (0, .ref (G.1 16 0)), (1, .int (-5)), (2, .int v), (3, .int (nI 1)), (4, .int acc2), (5, .int (nI k)), (6, .int lt), (7, .int (nI j))]) hx hb dX6_over_117 hl (by decide) rfl (fun ls hl => ?_)
                    exact K_119 (nI 1) x_89 x_71 x_79 (by unfold verdF; first | (rw [if_pos c_98]; rfl) | (rw [if_neg c_98, if_pos (Int32.not_le.mp c_109)]; rfl) | (rw [if_neg c_98, if_neg (Int32.not_lt.mpr c_109)]; rfl)) (by rw [ex_89, ex_88]) ex_71 e79.symm _ _ _ hw hS (lv_sub hl [4, 5, 6, 7, 8, 9, 10, 11, 3, 2, 1, 0] rfl)
                · refine lv_iconst (v := nI 0) hx hb dX6_over_101 (by decide) ?_
                  refine lv_goto (tgt := 117) hx hb dX6_over_102 (by decide) ?_
                  refine lv_istore (lv' := [(11, .int (nI 0)), (10, .int x_89), (9, .int x_79), (8, .int x_71), (0, .ref (G.1 16 0)), (1, .int (-5)), (2, .int v), (3, .int (nI 1)), (4, .int acc2), (5, .int (nI k)), (6, .int lt), (7, .int (nI j))]) hx hb dX6_over_117 hl (by decide) rfl (fun ls hl => ?_)
                  exact K_119 (nI 0) x_89 x_71 x_79 (by unfold verdF; first | (rw [if_pos c_98]; rfl) | (rw [if_neg c_98, if_pos (Int32.not_le.mp c_109)]; rfl) | (rw [if_neg c_98, if_neg (Int32.not_lt.mpr c_109)]; rfl)) (by rw [ex_89, ex_88]) ex_71 e79.symm _ _ _ hw hS (lv_sub hl [4, 5, 6, 7, 8, 9, 10, 11, 3, 2, 1, 0] rfl)
              · exact absurd rfl c_51
        refine lv_iload_n hx hb dX6_over_13 rfl (lv_at hl 1 rfl) ?_
        refine lv_bipush (v := (-5)) hx hb dX6_over_14 (by decide) ?_
        refine lv_icmp_eq (tgt := 25) hx hb dX6_over_16 (by decide) (fun c_16 => ?_) (fun c_16 => ?_)
        · refine lv_aload_n hx hb dX6_over_25 rfl (lv_at hl 0 rfl) ?_
          refine lv_iload hx hb dX6_over_26 (lv_at hl 5 rfl) ?_
          refine lv_iload_n hx hb dX6_over_28 rfl (lv_at hl 3 rfl) ?_
          refine g_Vi (n := 2) (As := [.int (nI k), .int (nI 1)]) (rest := []) hx hb hml hown hts hE hw hS gX6_over_X6_light (c_X6_lightW l G A _ k (by omega)) rfl (by decide +kernel) ⟨Nat.le_of_ble_eq_true rfl, Nat.le_of_ble_eq_true rfl⟩ (Nat.zero_lt_one) rfl rfl rfl rfl hl.1 rfl (Nat.le_of_ble_eq_true rfl) ⟨Nat.le_of_ble_eq_true rfl, Nat.le_of_ble_eq_true rfl⟩ dX6_over_29 (fun x_29 τ_29 H locs hp_29 hw hS => ?_)
          obtain ⟨ex_29, hτ_29⟩ := hp_29
          rw [hτ_29] at hw
          refine lv_goto (tgt := 36) hx hb dX6_over_32 (by decide) ?_
          refine lv_istore (lv' := [(6, .int x_29), (0, .ref (G.1 16 0)), (1, .int (-5)), (2, .int v), (3, .int (nI 1)), (4, .int acc), (5, .int (nI k))]) hx hb dX6_over_36 hl (by decide) rfl (fun ls hl => ?_)
          refine lv_iconst (v := nI 0) hx hb dX6_over_38 (by decide) ?_
          refine lv_istore (lv' := [(7, .int (nI 0)), (6, .int x_29), (0, .ref (G.1 16 0)), (1, .int (-5)), (2, .int v), (3, .int (nI 1)), (4, .int acc), (5, .int (nI k))]) hx hb dX6_over_39 hl (by decide) rfl (fun ls hl => ?_)
          exact K_41 (16 - 0 + 1) 0 acc x_29 (by first | omega | assumption | rfl) ex_29 (by rw [ha]; rfl) (Nat.lt_succ_self _) _ _ _ hw hS (lv_sub hl [2, 3, 4, 5, 6, 7, 1, 0] rfl)
        · exact absurd rfl c_16
  exact K_6 (18 - 0 + 1) 0 (nI 0) (by first | omega | assumption | rfl) rfl (Nat.lt_succ_self _) _ _ _ hw hS (lv_sub hl [2, 3, 4, 5, 1, 0] rfl)
set_option maxHeartbeats 4000000 in
set_option maxRecDepth 100000 in
/-- ZonedLightModel.over(IIZ)I -/
theorem c_X6_overZ (l : Launch) (G : GG) (A : Nat → Prop) (σ : St) (z : Nat) (v : Int32) (hz : z < 18) (hok : okW (σ 17 0)) (hlw : ∀ k, k < 18 → ∃ n, n < 256 ∧ (levO (σ 17 0)) k = nI n) : MI l yX6_over wsX6_over 3 67 G A σ [.ref (G.1 16 0), .int (nI z), .int v, .int (nI 0)] (fun r τ => r = accK (fS (σ 17 0) (levO (σ 17 0)) v) z 0 16 ∧ τ = σ) := by
  refine MI.on (by decide) rfl (Nat.le_of_ble_eq_true rfl) (fun pP eE sS mM args below meth cC ls hx hb hml hr hown hlk hts hE hw hS hl => ?_)
  have hl : lv_has ls 12 [(0, .ref (G.1 16 0)), (1, .int (nI z)), (2, .int v), (3, .int (nI 0))] := hl
  have hn5 : ¬ nI z = (-5) := fun g => nI_pos (n := z) (by omega) (by rw [g]; decide)
  refine lv_iconst (v := nI 0) hx hb dX6_over_0 (by decide) ?_
  refine lv_istore (lv' := [(4, .int (nI 0)), (0, .ref (G.1 16 0)), (1, .int (nI z)), (2, .int v), (3, .int (nI 0))]) hx hb dX6_over_1 hl (by decide) rfl (fun ls hl => ?_)
  refine lv_iconst (v := nI 0) hx hb dX6_over_3 (by decide) ?_
  refine lv_istore (lv' := [(5, .int (nI 0)), (4, .int (nI 0)), (0, .ref (G.1 16 0)), (1, .int (nI z)), (2, .int v), (3, .int (nI 0))]) hx hb dX6_over_4 hl (by decide) rfl (fun ls hl => ?_)
  have K_6 : ∀ (fuel : Nat) (k : Nat) (acc : Int32), (k ≤ 18) → (acc = (if z < k then accK (fS (σ 17 0) (levO (σ 17 0)) v) z 0 16 else 0)) → 18 - k < fuel → ∀ (H : Heap) (locs : List Loc) (ls : Array Slot), Wcel G σ H → va_S A sS.heap H locs → lv_has ls 12 [(0, .ref (G.1 16 0)), (1, .int (nI z)), (2, .int v), (3, .int (nI 0)), (4, .int acc), (5, .int (nI k))] → W pP l eE { frames := 3, cells := 0, slots := 0, locals := 67 } sS mM args below meth cC H locs 0 0 (MQ below (va_Qi (fun r τ => r = accK (fS (σ 17 0) (levO (σ 17 0)) v) z 0 16 ∧ τ = σ) (fun τ t => gP G A τ t) A) args sS 0 0 A) (F0 mM 6 ls []) := by
    intro fuel
    induction fuel with
    | zero =>
      intro k acc hk ha hfu
      exact absurd hfu (Nat.not_lt_zero _)
    | succ fuel K_6 =>
      intro k acc hk ha hfu H locs ls hw hS hl
      refine lv_iload hx hb dX6_over_6 (lv_at hl 5 rfl) ?_
      refine lv_bipush (v := nI 18) hx hb dX6_over_8 (by decide) ?_
      refine n_cmp_ge (tgt := 189) hx hb dX6_over_10 (by decide) (by omega) (by omega) (fun c_10 => ?_) (fun c_10 => ?_)
      · refine lv_iload hx hb dX6_over_189 (lv_at hl 4 rfl) ?_
        refine g_iret hx hb hr hlk hE hw hS dX6_over_191 ?_
        exact ⟨by rw [ha, if_pos (by omega)], rfl⟩
      · have K_41 : ∀ (fuel : Nat) (j : Nat) (acc2 : Int32) (lt : Int32), (j ≤ 16) → (k = z → lt = lightF (σ 17 0) (levO (σ 17 0)) k) → (acc2 = (if z < k then accK (fS (σ 17 0) (levO (σ 17 0)) v) z 0 16 else if k = z then accK (fS (σ 17 0) (levO (σ 17 0)) v) z 0 j else 0)) → 16 - j < fuel → ∀ (H : Heap) (locs : List Loc) (ls : Array Slot), Wcel G σ H → va_S A sS.heap H locs → lv_has ls 12 [(0, .ref (G.1 16 0)), (1, .int (nI z)), (2, .int v), (3, .int (nI 0)), (4, .int acc2), (5, .int (nI k)), (6, .int lt), (7, .int (nI j))] → W pP l eE { frames := 3, cells := 0, slots := 0, locals := 67 } sS mM args below meth cC H locs 0 0 (MQ below (va_Qi (fun r τ => r = accK (fS (σ 17 0) (levO (σ 17 0)) v) z 0 16 ∧ τ = σ) (fun τ t => gP G A τ t) A) args sS 0 0 A) (F0 mM 41 ls []) := by
          intro fuel
          induction fuel with
          | zero =>
            intro j acc2 lt hj hlt ha2 hfu
            exact absurd hfu (Nat.not_lt_zero _)
          | succ fuel K_41 =>
            intro j acc2 lt hj hlt ha2 hfu H locs ls hw hS hl
            refine lv_iload hx hb dX6_over_41 (lv_at hl 7 rfl) ?_
            refine lv_bipush (v := nI 16) hx hb dX6_over_43 (by decide) ?_
            refine n_cmp_ge (tgt := 183) hx hb dX6_over_45 (by decide) (by omega) (by omega) (fun c_45 => ?_) (fun c_45 => ?_)
            · refine lv_iinc (v := nI (k + 1)) (lv' := [(5, .int (nI (k + 1))), (0, .ref (G.1 16 0)), (1, .int (nI z)), (2, .int v), (3, .int (nI 0)), (4, .int acc2), (6, .int lt), (7, .int (nI j))]) hx hb dX6_over_183 hl (k := 5) rfl (nI_add _ _) (by decide) rfl (fun ls hl => ?_)
              refine lv_goto (tgt := 6) hx hb dX6_over_186 (by decide) ?_
              exact K_6 (k + 1) acc2 (by first | omega | assumption | rfl) (by rw [ha2]; first | (rw [show j = 16 by omega]; by_cases g : z < k; rw [if_pos g, if_pos (by omega)]; rw [if_neg g]; by_cases g2 : k = z; rw [if_pos g2, if_pos (by omega)]; rw [if_neg g2, if_neg (by omega)]) | (by_cases g : z < k; rw [if_pos g, if_pos (by omega)]; rw [if_neg g, if_neg (fun g2 : k = z => c_57 g2.symm), if_neg (fun g2 => c_57 (by omega))])) (by omega) _ _ _ hw hS (lv_sub hl [1, 2, 3, 4, 5, 0] rfl)
            · have K_119 : ∀ (iv : Int32) (bv : Int32) (av : Int32) (sv : Int32), (iv = verdF av sv) → (bv = iabs (sv - av)) → (av = σ 17 0 (spotN k j)) → (sv = shownAt (σ 17 0) (levO (σ 17 0)) k j) → (z = k) → ∀ (H : Heap) (locs : List Loc) (ls : Array Slot), Wcel G σ H → va_S A sS.heap H locs → lv_has ls 12 [(0, .ref (G.1 16 0)), (1, .int (nI z)), (2, .int v), (3, .int (nI 0)), (4, .int acc2), (5, .int (nI k)), (6, .int lt), (7, .int (nI j)), (8, .int av), (9, .int sv), (10, .int bv), (11, .int iv)] → W pP l eE { frames := 3, cells := 0, slots := 0, locals := 67 } sS mM args below meth cC H locs 0 0 (MQ below (va_Qi (fun r τ => r = accK (fS (σ 17 0) (levO (σ 17 0)) v) z 0 16 ∧ τ = σ) (fun τ t => gP G A τ t) A) args sS 0 0 A) (F0 mM 119 ls []) := by
                intro iv bv av sv hiv hbv hav hsv hkz H locs ls hw hS hl
                refine lv_iload_n hx hb dX6_over_119 rfl (lv_at hl 2 rfl) ?_
                refine lv_iconst (v := nI 4) hx hb dX6_over_120 (by decide) ?_
                refine lv_icmp_ne (tgt := 141) hx hb dX6_over_121 (by decide) (fun c_121 => ?_) (fun c_121 => ?_)
                · refine lv_iload hx hb dX6_over_141 (lv_at hl 4 rfl) ?_
                  refine lv_iload_n hx hb dX6_over_143 rfl (lv_at hl 2 rfl) ?_
                  refine lv_iconst (v := nI 3) hx hb dX6_over_144 (by decide) ?_
                  refine lv_icmp_ne (tgt := 153) hx hb dX6_over_145 (by decide) (fun c_145 => ?_) (fun c_145 => ?_)
                  · refine lv_iload_n hx hb dX6_over_153 rfl (lv_at hl 2 rfl) ?_
                    refine lv_iconst (v := nI 5) hx hb dX6_over_154 (by decide) ?_
                    refine lv_icmp_ne (tgt := 163) hx hb dX6_over_155 (by decide) (fun c_155 => ?_) (fun c_155 => ?_)
                    · refine lv_iload hx hb dX6_over_163 (lv_at hl 11 rfl) ?_
                      refine lv_iload_n hx hb dX6_over_165 rfl (lv_at hl 2 rfl) ?_
                      refine lv_icmp_ne (tgt := 173) hx hb dX6_over_166 (by decide) (fun c_166 => ?_) (fun c_166 => ?_)
                      · refine lv_iconst (v := nI 0) hx hb dX6_over_173 (by decide) ?_
                        refine lv_iadd hx hb dX6_over_174 ?_
                        refine lv_topi (fun x_174 ex_174 => ?_)
                        refine lv_istore (lv' := [(4, .int x_174), (0, .ref (G.1 16 0)), (1, .int (nI z)), (2, .int v), (3, .int (nI 0)), (5, .int (nI k)), (6, .int lt), (7, .int (nI j)), (8, .int av), (9, .int sv), (10, .int bv), (11, .int iv)]) hx hb dX6_over_175 hl (by decide) rfl (fun ls hl => ?_)
                        refine lv_iinc (v := nI (j + 1)) (lv' := [(7, .int (nI (j + 1))), (4, .int x_174), (0, .ref (G.1 16 0)), (1, .int (nI z)), (2, .int v), (3, .int (nI 0)), (5, .int (nI k)), (6, .int lt), (8, .int av), (9, .int sv), (10, .int bv), (11, .int iv)]) hx hb dX6_over_177 hl (k := 7) rfl (nI_add _ _) (by decide) rfl (fun ls hl => ?_)
                        refine lv_goto (tgt := 41) hx hb dX6_over_180 (by decide) ?_
                        exact K_41 (j + 1) x_174 lt (by first | omega | assumption | rfl) (by first | omega | assumption | rfl) (by subst hkz; rw [if_neg (Nat.lt_irrefl _), if_pos rfl] at ha2; rw [if_neg (Nat.lt_irrefl _), if_pos rfl]; show _ = stepV v (accK (fS (σ 17 0) (levO (σ 17 0)) v) z 0 j) _ _; rw [← ha2, ← hsv, ← hav, stepV]; first | (rw [if_pos (show v = 4 from c_121), ← hbv]; first | exact imax_gt2 c_128 | exact imax_le2 c_128) | (rw [if_neg (show ¬ v = 4 from c_121), ex_174]; first | (rw [if_pos (show v = 3 from c_145), hbv]) | (rw [if_neg (show ¬ v = 3 from c_145), if_pos (show v = 5 from c_155)]) | (rw [if_neg (show ¬ v = 3 from c_145), if_neg (show ¬ v = 5 from c_155), if_pos (hiv.symm.trans c_166)]; rfl) | (rw [if_neg (show ¬ v = 3 from c_145), if_neg (show ¬ v = 5 from c_155), if_neg (fun g => c_166 (hiv.trans g))]; rfl))) (by omega) _ _ _ hw hS (lv_sub hl [2, 3, 4, 5, 1, 6, 7, 0] rfl)
                      · refine lv_iconst (v := nI 1) hx hb dX6_over_169 (by decide) ?_
                        refine lv_goto (tgt := 174) hx hb dX6_over_170 (by decide) ?_
                        refine lv_iadd hx hb dX6_over_174 ?_
                        refine lv_topi (fun x_174 ex_174 => ?_)
                        refine lv_istore (lv' := [(4, .int x_174), (0, .ref (G.1 16 0)), (1, .int (nI z)), (2, .int v), (3, .int (nI 0)), (5, .int (nI k)), (6, .int lt), (7, .int (nI j)), (8, .int av), (9, .int sv), (10, .int bv), (11, .int iv)]) hx hb dX6_over_175 hl (by decide) rfl (fun ls hl => ?_)
                        refine lv_iinc (v := nI (j + 1)) (lv' := [(7, .int (nI (j + 1))), (4, .int x_174), (0, .ref (G.1 16 0)), (1, .int (nI z)), (2, .int v), (3, .int (nI 0)), (5, .int (nI k)), (6, .int lt), (8, .int av), (9, .int sv), (10, .int bv), (11, .int iv)]) hx hb dX6_over_177 hl (k := 7) rfl (nI_add _ _) (by decide) rfl (fun ls hl => ?_)
                        refine lv_goto (tgt := 41) hx hb dX6_over_180 (by decide) ?_
                        exact K_41 (j + 1) x_174 lt (by first | omega | assumption | rfl) (by first | omega | assumption | rfl) (by subst hkz; rw [if_neg (Nat.lt_irrefl _), if_pos rfl] at ha2; rw [if_neg (Nat.lt_irrefl _), if_pos rfl]; show _ = stepV v (accK (fS (σ 17 0) (levO (σ 17 0)) v) z 0 j) _ _; rw [← ha2, ← hsv, ← hav, stepV]; first | (rw [if_pos (show v = 4 from c_121), ← hbv]; first | exact imax_gt2 c_128 | exact imax_le2 c_128) | (rw [if_neg (show ¬ v = 4 from c_121), ex_174]; first | (rw [if_pos (show v = 3 from c_145), hbv]) | (rw [if_neg (show ¬ v = 3 from c_145), if_pos (show v = 5 from c_155)]) | (rw [if_neg (show ¬ v = 3 from c_145), if_neg (show ¬ v = 5 from c_155), if_pos (hiv.symm.trans c_166)]; rfl) | (rw [if_neg (show ¬ v = 3 from c_145), if_neg (show ¬ v = 5 from c_155), if_neg (fun g => c_166 (hiv.trans g))]; rfl))) (by omega) _ _ _ hw hS (lv_sub hl [2, 3, 4, 5, 1, 6, 7, 0] rfl)
                    · refine lv_iload hx hb dX6_over_158 (lv_at hl 9 rfl) ?_
                      refine lv_goto (tgt := 174) hx hb dX6_over_160 (by decide) ?_
                      refine lv_iadd hx hb dX6_over_174 ?_
                      refine lv_topi (fun x_174 ex_174 => ?_)
                      refine lv_istore (lv' := [(4, .int x_174), (0, .ref (G.1 16 0)), (1, .int (nI z)), (2, .int v), (3, .int (nI 0)), (5, .int (nI k)), (6, .int lt), (7, .int (nI j)), (8, .int av), (9, .int sv), (10, .int bv), (11, .int iv)]) hx hb dX6_over_175 hl (by decide) rfl (fun ls hl => ?_)
                      refine lv_iinc (v := nI (j + 1)) (lv' := [(7, .int (nI (j + 1))), (4, .int x_174), (0, .ref (G.1 16 0)), (1, .int (nI z)), (2, .int v), (3, .int (nI 0)), (5, .int (nI k)), (6, .int lt), (8, .int av), (9, .int sv), (10, .int bv), (11, .int iv)]) hx hb dX6_over_177 hl (k := 7) rfl (nI_add _ _) (by decide) rfl (fun ls hl => ?_)
                      refine lv_goto (tgt := 41) hx hb dX6_over_180 (by decide) ?_
                      exact K_41 (j + 1) x_174 lt (by first | omega | assumption | rfl) (by first | omega | assumption | rfl) (by subst hkz; rw [if_neg (Nat.lt_irrefl _), if_pos rfl] at ha2; rw [if_neg (Nat.lt_irrefl _), if_pos rfl]; show _ = stepV v (accK (fS (σ 17 0) (levO (σ 17 0)) v) z 0 j) _ _; rw [← ha2, ← hsv, ← hav, stepV]; first | (rw [if_pos (show v = 4 from c_121), ← hbv]; first | exact imax_gt2 c_128 | exact imax_le2 c_128) | (rw [if_neg (show ¬ v = 4 from c_121), ex_174]; first | (rw [if_pos (show v = 3 from c_145), hbv]) | (rw [if_neg (show ¬ v = 3 from c_145), if_pos (show v = 5 from c_155)]) | (rw [if_neg (show ¬ v = 3 from c_145), if_neg (show ¬ v = 5 from c_155), if_pos (hiv.symm.trans c_166)]; rfl) | (rw [if_neg (show ¬ v = 3 from c_145), if_neg (show ¬ v = 5 from c_155), if_neg (fun g => c_166 (hiv.trans g))]; rfl))) (by omega) _ _ _ hw hS (lv_sub hl [2, 3, 4, 5, 1, 6, 7, 0] rfl)
                  · refine lv_iload hx hb dX6_over_148 (lv_at hl 10 rfl) ?_
                    refine lv_goto (tgt := 174) hx hb dX6_over_150 (by decide) ?_
                    refine lv_iadd hx hb dX6_over_174 ?_
                    refine lv_topi (fun x_174 ex_174 => ?_)
                    refine lv_istore (lv' := [(4, .int x_174), (0, .ref (G.1 16 0)), (1, .int (nI z)), (2, .int v), (3, .int (nI 0)), (5, .int (nI k)), (6, .int lt), (7, .int (nI j)), (8, .int av), (9, .int sv), (10, .int bv), (11, .int iv)]) hx hb dX6_over_175 hl (by decide) rfl (fun ls hl => ?_)
                    refine lv_iinc (v := nI (j + 1)) (lv' := [(7, .int (nI (j + 1))), (4, .int x_174), (0, .ref (G.1 16 0)), (1, .int (nI z)), (2, .int v), (3, .int (nI 0)), (5, .int (nI k)), (6, .int lt), (8, .int av), (9, .int sv), (10, .int bv), (11, .int iv)]) hx hb dX6_over_177 hl (k := 7) rfl (nI_add _ _) (by decide) rfl (fun ls hl => ?_)
                    refine lv_goto (tgt := 41) hx hb dX6_over_180 (by decide) ?_
                    exact K_41 (j + 1) x_174 lt (by first | omega | assumption | rfl) (by first | omega | assumption | rfl) (by subst hkz; rw [if_neg (Nat.lt_irrefl _), if_pos rfl] at ha2; rw [if_neg (Nat.lt_irrefl _), if_pos rfl]; show _ = stepV v (accK (fS (σ 17 0) (levO (σ 17 0)) v) z 0 j) _ _; rw [← ha2, ← hsv, ← hav, stepV]; first | (rw [if_pos (show v = 4 from c_121), ← hbv]; first | exact imax_gt2 c_128 | exact imax_le2 c_128) | (rw [if_neg (show ¬ v = 4 from c_121), ex_174]; first | (rw [if_pos (show v = 3 from c_145), hbv]) | (rw [if_neg (show ¬ v = 3 from c_145), if_pos (show v = 5 from c_155)]) | (rw [if_neg (show ¬ v = 3 from c_145), if_neg (show ¬ v = 5 from c_155), if_pos (hiv.symm.trans c_166)]; rfl) | (rw [if_neg (show ¬ v = 3 from c_145), if_neg (show ¬ v = 5 from c_155), if_neg (fun g => c_166 (hiv.trans g))]; rfl))) (by omega) _ _ _ hw hS (lv_sub hl [2, 3, 4, 5, 1, 6, 7, 0] rfl)
                · refine lv_iload hx hb dX6_over_124 (lv_at hl 10 rfl) ?_
                  refine lv_iload hx hb dX6_over_126 (lv_at hl 4 rfl) ?_
                  refine lv_icmp_le (tgt := 136) hx hb dX6_over_128 (by decide) (fun c_128 => ?_) (fun c_128 => ?_)
                  · refine lv_iload hx hb dX6_over_136 (lv_at hl 4 rfl) ?_
                    refine lv_goto (tgt := 175) hx hb dX6_over_138 (by decide) ?_
                    refine lv_istore (lv' := [(4, .int acc2), (0, .ref (G.1 16 0)), (1, .int (nI z)), (2, .int v), (3, .int (nI 0)), (5, .int (nI k)), (6, .int lt), (7, .int (nI j)), (8, .int av), (9, .int sv), (10, .int bv), (11, .int iv)]) hx hb dX6_over_175 hl (by decide) rfl (fun ls hl => ?_)
                    refine lv_iinc (v := nI (j + 1)) (lv' := [(7, .int (nI (j + 1))), (4, .int acc2), (0, .ref (G.1 16 0)), (1, .int (nI z)), (2, .int v), (3, .int (nI 0)), (5, .int (nI k)), (6, .int lt), (8, .int av), (9, .int sv), (10, .int bv), (11, .int iv)]) hx hb dX6_over_177 hl (k := 7) rfl (nI_add _ _) (by decide) rfl (fun ls hl => ?_)
                    refine lv_goto (tgt := 41) hx hb dX6_over_180 (by decide) ?_
                    exact K_41 (j + 1) acc2 lt (by first | omega | assumption | rfl) (by first | omega | assumption | rfl) (by subst hkz; rw [if_neg (Nat.lt_irrefl _), if_pos rfl] at ha2; rw [if_neg (Nat.lt_irrefl _), if_pos rfl]; show _ = stepV v (accK (fS (σ 17 0) (levO (σ 17 0)) v) z 0 j) _ _; rw [← ha2, ← hsv, ← hav, stepV]; first | (rw [if_pos (show v = 4 from c_121), ← hbv]; first | exact imax_gt2 c_128 | exact imax_le2 c_128) | (rw [if_neg (show ¬ v = 4 from c_121), ex_174]; first | (rw [if_pos (show v = 3 from c_145), hbv]) | (rw [if_neg (show ¬ v = 3 from c_145), if_pos (show v = 5 from c_155)]) | (rw [if_neg (show ¬ v = 3 from c_145), if_neg (show ¬ v = 5 from c_155), if_pos (hiv.symm.trans c_166)]; rfl) | (rw [if_neg (show ¬ v = 3 from c_145), if_neg (show ¬ v = 5 from c_155), if_neg (fun g => c_166 (hiv.trans g))]; rfl))) (by omega) _ _ _ hw hS (lv_sub hl [2, 3, 4, 5, 1, 6, 7, 0] rfl)
                  · refine lv_iload hx hb dX6_over_131 (lv_at hl 10 rfl) ?_
                    refine lv_goto (tgt := 175) hx hb dX6_over_133 (by decide) ?_
                    refine lv_istore (lv' := [(4, .int bv), (0, .ref (G.1 16 0)), (1, .int (nI z)), (2, .int v), (3, .int (nI 0)), (5, .int (nI k)), (6, .int lt), (7, .int (nI j)), (8, .int av), (9, .int sv), (10, .int bv), (11, .int iv)]) hx hb dX6_over_175 hl (by decide) rfl (fun ls hl => ?_)
                    refine lv_iinc (v := nI (j + 1)) (lv' := [(7, .int (nI (j + 1))), (4, .int bv), (0, .ref (G.1 16 0)), (1, .int (nI z)), (2, .int v), (3, .int (nI 0)), (5, .int (nI k)), (6, .int lt), (8, .int av), (9, .int sv), (10, .int bv), (11, .int iv)]) hx hb dX6_over_177 hl (k := 7) rfl (nI_add _ _) (by decide) rfl (fun ls hl => ?_)
                    refine lv_goto (tgt := 41) hx hb dX6_over_180 (by decide) ?_
                    exact K_41 (j + 1) bv lt (by first | omega | assumption | rfl) (by first | omega | assumption | rfl) (by subst hkz; rw [if_neg (Nat.lt_irrefl _), if_pos rfl] at ha2; rw [if_neg (Nat.lt_irrefl _), if_pos rfl]; show _ = stepV v (accK (fS (σ 17 0) (levO (σ 17 0)) v) z 0 j) _ _; rw [← ha2, ← hsv, ← hav, stepV]; first | (rw [if_pos (show v = 4 from c_121), ← hbv]; first | exact imax_gt2 c_128 | exact imax_le2 c_128) | (rw [if_neg (show ¬ v = 4 from c_121), ex_174]; first | (rw [if_pos (show v = 3 from c_145), hbv]) | (rw [if_neg (show ¬ v = 3 from c_145), if_pos (show v = 5 from c_155)]) | (rw [if_neg (show ¬ v = 3 from c_145), if_neg (show ¬ v = 5 from c_155), if_pos (hiv.symm.trans c_166)]; rfl) | (rw [if_neg (show ¬ v = 3 from c_145), if_neg (show ¬ v = 5 from c_155), if_neg (fun g => c_166 (hiv.trans g))]; rfl))) (by omega) _ _ _ hw hS (lv_sub hl [2, 3, 4, 5, 1, 6, 7, 0] rfl)
              refine lv_iload_n hx hb dX6_over_48 rfl (lv_at hl 1 rfl) ?_
              refine lv_bipush (v := (-5)) hx hb dX6_over_49 (by decide) ?_
              refine lv_icmp_eq (tgt := 60) hx hb dX6_over_51 (by decide) (fun c_51 => ?_) (fun c_51 => ?_)
              · exact absurd c_51 hn5
              · refine lv_iload_n hx hb dX6_over_54 rfl (lv_at hl 1 rfl) ?_
                refine lv_iload hx hb dX6_over_55 (lv_at hl 5 rfl) ?_
                refine n_cmp_ne (tgt := 183) hx hb dX6_over_57 (by decide) (by omega) (by omega) (fun c_57 => ?_) (fun c_57 => ?_)
                · refine lv_iinc (v := nI (k + 1)) (lv' := [(5, .int (nI (k + 1))), (0, .ref (G.1 16 0)), (1, .int (nI z)), (2, .int v), (3, .int (nI 0)), (4, .int acc2), (6, .int lt), (7, .int (nI j))]) hx hb dX6_over_183 hl (k := 5) rfl (nI_add _ _) (by decide) rfl (fun ls hl => ?_)
                  refine lv_goto (tgt := 6) hx hb dX6_over_186 (by decide) ?_
                  exact K_6 (k + 1) acc2 (by first | omega | assumption | rfl) (by rw [ha2]; first | (rw [show j = 16 by omega]; by_cases g : z < k; rw [if_pos g, if_pos (by omega)]; rw [if_neg g]; by_cases g2 : k = z; rw [if_pos g2, if_pos (by omega)]; rw [if_neg g2, if_neg (by omega)]) | (by_cases g : z < k; rw [if_pos g, if_pos (by omega)]; rw [if_neg g, if_neg (fun g2 : k = z => c_57 g2.symm), if_neg (fun g2 => c_57 (by omega))])) (by omega) _ _ _ hw hS (lv_sub hl [1, 2, 3, 4, 5, 0] rfl)
                · refine lv_aload_n hx hb dX6_over_60 rfl (lv_at hl 0 rfl) ?_
                  refine gf_X6_all hx hb hE hw (Nat.zero_lt_one) hown (hts (.fieldLink RX6 7 "ZonedLightModel" "all" "[I") (by decide +kernel)) dX6_over_61 ?_
                  refine lv_iload hx hb dX6_over_64 (lv_at hl 5 rfl) ?_
                  refine lv_iload hx hb dX6_over_66 (lv_at hl 7 rfl) ?_
                  refine g_Si (n := 2) (As := [.int (nI k), .int (nI j)]) (rest := [.ref (G.1 17 0)]) hx hb hml hown hts hE hw hS gX6_over_X6_spotIn (c_X6_spotIn l G A _ k j (by omega) (by omega)) rfl (by decide +kernel) ⟨Nat.le_of_ble_eq_true rfl, Nat.le_of_ble_eq_true rfl⟩ rfl hl.1 rfl (Nat.le_of_ble_eq_true rfl) ⟨Nat.le_of_ble_eq_true rfl, Nat.le_of_ble_eq_true rfl⟩ dX6_over_68 (fun r_68 τ_68 H locs hp_68 hw hS => ?_)
                  obtain ⟨rfl, hτ_68⟩ := hp_68
                  rw [hτ_68] at hw
                  refine g_ald hx hb hE hw (n := 335) (Nat.zero_lt_one) rfl (by decide) (Nat.lt_trans (spotN_lt c_10 c_45) (by decide)) dX6_over_71 ?_
                  refine lv_topi (fun x_71 ex_71 => ?_)
                  obtain ⟨nl, hnl, enl⟩ := okW_light18 hok hlw c_10
                  have hpos : 0 ≤ lt := by rw [hlt c_57.symm, enl]; exact nI_pos' (by omega)
                  refine lv_istore (lv' := [(8, .int x_71), (0, .ref (G.1 16 0)), (1, .int (nI z)), (2, .int v), (3, .int (nI 0)), (4, .int acc2), (5, .int (nI k)), (6, .int lt), (7, .int (nI j))]) hx hb dX6_over_72 hl (by decide) rfl (fun ls hl => ?_)
                  refine lv_aload_n hx hb dX6_over_74 rfl (lv_at hl 1 rfl) ?_
                  refine lv_iload hx hb dX6_over_75 (lv_at hl 0 rfl) ?_
                  refine lv_iload hx hb dX6_over_77 (lv_at hl 7 rfl) ?_
                  refine g_Vi (n := 2) (As := [.int x_71, .int lt]) (rest := []) hx hb hml hown hts hE hw hS gX6_over_X6_shown (c_X6_shown l G A _ x_71 lt hpos) rfl (by decide +kernel) ⟨Nat.le_of_ble_eq_true rfl, Nat.le_of_ble_eq_true rfl⟩ (Nat.zero_lt_one) rfl rfl rfl rfl hl.1 rfl (Nat.le_of_ble_eq_true rfl) ⟨Nat.le_of_ble_eq_true rfl, Nat.le_of_ble_eq_true rfl⟩ dX6_over_79 (fun x_79 τ_79 H locs hp_79 hw hS => ?_)
                  obtain ⟨ex_79, hτ_79⟩ := hp_79
                  rw [hτ_79] at hw
                  refine lv_istore (lv' := [(9, .int x_79), (8, .int x_71), (0, .ref (G.1 16 0)), (1, .int (nI z)), (2, .int v), (3, .int (nI 0)), (4, .int acc2), (5, .int (nI k)), (6, .int lt), (7, .int (nI j))]) hx hb dX6_over_82 hl (by decide) rfl (fun ls hl => ?_)
                  refine lv_iload hx hb dX6_over_84 (lv_at hl 0 rfl) ?_
                  refine lv_iload hx hb dX6_over_86 (lv_at hl 1 rfl) ?_
                  refine lv_isub hx hb dX6_over_88 ?_
                  refine lv_topi (fun x_88 ex_88 => ?_)
                  refine g_Si (n := 1) (As := [.int x_88]) (rest := []) hx hb hml hown hts hE hw hS gX6_over_X6_off (c_X6_off l G A _ x_88) rfl (by decide +kernel) ⟨Nat.le_of_ble_eq_true rfl, Nat.le_of_ble_eq_true rfl⟩ rfl hl.1 rfl (Nat.le_of_ble_eq_true rfl) ⟨Nat.le_of_ble_eq_true rfl, Nat.le_of_ble_eq_true rfl⟩ dX6_over_89 (fun x_89 τ_89 H locs hp_89 hw hS => ?_)
                  obtain ⟨ex_89, hτ_89⟩ := hp_89
                  rw [hτ_89] at hw
                  have e79 : shownAt (σ 17 0) (levO (σ 17 0)) k j = x_79 := by rw [ex_79, ex_71, shownAt, hlt c_57.symm]
                  refine lv_istore (lv' := [(10, .int x_89), (9, .int x_79), (8, .int x_71), (0, .ref (G.1 16 0)), (1, .int (nI z)), (2, .int v), (3, .int (nI 0)), (4, .int acc2), (5, .int (nI k)), (6, .int lt), (7, .int (nI j))]) hx hb dX6_over_92 hl (by decide) rfl (fun ls hl => ?_)
                  refine lv_iload hx hb dX6_over_94 (lv_at hl 1 rfl) ?_
                  refine lv_iload hx hb dX6_over_96 (lv_at hl 2 rfl) ?_
                  refine lv_icmp_ne (tgt := 105) hx hb dX6_over_98 (by decide) (fun c_98 => ?_) (fun c_98 => ?_)
                  · refine lv_iload hx hb dX6_over_105 (lv_at hl 1 rfl) ?_
                    refine lv_iload hx hb dX6_over_107 (lv_at hl 2 rfl) ?_
                    refine lv_icmp_ge (tgt := 116) hx hb dX6_over_109 (by decide) (fun c_109 => ?_) (fun c_109 => ?_)
                    · refine lv_iconst (v := nI 2) hx hb dX6_over_116 (by decide) ?_
                      refine lv_istore (lv' := [(11, .int (nI 2)), (10, .int x_89), (9, .int x_79), (8, .int x_71), (0, .ref (G.1 16 0)), (1, .int (nI z)), (2, .int v), (3, .int (nI 0)), (4, .int acc2), (5, .int (nI k)), (6, .int lt), (7, .int (nI j))]) hx hb dX6_over_117 hl (by decide) rfl (fun ls hl => ?_)
                      exact K_119 (nI 2) x_89 x_71 x_79 (by unfold verdF; first | (rw [if_pos c_98]; rfl) | (rw [if_neg c_98, if_pos (Int32.not_le.mp c_109)]; rfl) | (rw [if_neg c_98, if_neg (Int32.not_lt.mpr c_109)]; rfl)) (by rw [ex_89, ex_88]) ex_71 e79.symm c_57 _ _ _ hw hS (lv_sub hl [4, 5, 6, 7, 8, 9, 10, 11, 3, 2, 1, 0] rfl)
                    · refine lv_iconst (v := nI 1) hx hb dX6_over_112 (by decide) ?_
                      refine lv_goto (tgt := 117) hx hb dX6_over_113 (by decide) ?_
                      refine lv_istore (lv' := [(11, .int (nI 1)), (10, .int x_89), (9, .int x_79), (8, .int x_71), (0, .ref (G.1 16 0)), (1, .int (nI z)), (2, .int v), (3, .int (nI 0)), (4, .int acc2), (5, .int (nI k)), (6, .int lt), (7, .int (nI j))]) hx hb dX6_over_117 hl (by decide) rfl (fun ls hl => ?_)
                      exact K_119 (nI 1) x_89 x_71 x_79 (by unfold verdF; first | (rw [if_pos c_98]; rfl) | (rw [if_neg c_98, if_pos (Int32.not_le.mp c_109)]; rfl) | (rw [if_neg c_98, if_neg (Int32.not_lt.mpr c_109)]; rfl)) (by rw [ex_89, ex_88]) ex_71 e79.symm c_57 _ _ _ hw hS (lv_sub hl [4, 5, 6, 7, 8, 9, 10, 11, 3, 2, 1, 0] rfl)
                  · refine lv_iconst (v := nI 0) hx hb dX6_over_101 (by decide) ?_
                    refine lv_goto (tgt := 117) hx hb dX6_over_102 (by decide) ?_
                    refine lv_istore (lv' := [(11, .int (nI 0)), (10, .int x_89), (9, .int x_79), (8, .int x_71), (0, .ref (G.1 16 0)), (1, .int (nI z)), (2, .int v), (3, .int (nI 0)), (4, .int acc2), (5, .int (nI k)), (6, .int lt), (7, .int (nI j))]) hx hb dX6_over_117 hl (by decide) rfl (fun ls hl => ?_)
                    exact K_119 (nI 0) x_89 x_71 x_79 (by unfold verdF; first | (rw [if_pos c_98]; rfl) | (rw [if_neg c_98, if_pos (Int32.not_le.mp c_109)]; rfl) | (rw [if_neg c_98, if_neg (Int32.not_lt.mpr c_109)]; rfl)) (by rw [ex_89, ex_88]) ex_71 e79.symm c_57 _ _ _ hw hS (lv_sub hl [4, 5, 6, 7, 8, 9, 10, 11, 3, 2, 1, 0] rfl)
        refine lv_iload_n hx hb dX6_over_13 rfl (lv_at hl 1 rfl) ?_
        refine lv_bipush (v := (-5)) hx hb dX6_over_14 (by decide) ?_
        refine lv_icmp_eq (tgt := 25) hx hb dX6_over_16 (by decide) (fun c_16 => ?_) (fun c_16 => ?_)
        · exact absurd c_16 hn5
        · refine lv_iload_n hx hb dX6_over_19 rfl (lv_at hl 1 rfl) ?_
          refine lv_iload hx hb dX6_over_20 (lv_at hl 5 rfl) ?_
          refine n_cmp_ne (tgt := 35) hx hb dX6_over_22 (by decide) (by omega) (by omega) (fun c_22 => ?_) (fun c_22 => ?_)
          · refine lv_iconst (v := nI 0) hx hb dX6_over_35 (by decide) ?_
            refine lv_istore (lv' := [(6, .int (nI 0)), (0, .ref (G.1 16 0)), (1, .int (nI z)), (2, .int v), (3, .int (nI 0)), (4, .int acc), (5, .int (nI k))]) hx hb dX6_over_36 hl (by decide) rfl (fun ls hl => ?_)
            refine lv_iconst (v := nI 0) hx hb dX6_over_38 (by decide) ?_
            refine lv_istore (lv' := [(7, .int (nI 0)), (6, .int (nI 0)), (0, .ref (G.1 16 0)), (1, .int (nI z)), (2, .int v), (3, .int (nI 0)), (4, .int acc), (5, .int (nI k))]) hx hb dX6_over_39 hl (by decide) rfl (fun ls hl => ?_)
            exact K_41 (16 - 0 + 1) 0 acc (nI 0) (by first | omega | assumption | rfl) (by first | exact fun _ => ex_29 | exact fun g => absurd g.symm c_22) (by rw [ha]; by_cases g : z < k; rw [if_pos g, if_pos g]; rw [if_neg g, if_neg g]; by_cases g2 : k = z; rw [if_pos g2]; rfl; rw [if_neg g2]) (Nat.lt_succ_self _) _ _ _ hw hS (lv_sub hl [2, 3, 4, 5, 6, 7, 1, 0] rfl)
          · refine lv_aload_n hx hb dX6_over_25 rfl (lv_at hl 0 rfl) ?_
            refine lv_iload hx hb dX6_over_26 (lv_at hl 5 rfl) ?_
            refine lv_iload_n hx hb dX6_over_28 rfl (lv_at hl 3 rfl) ?_
            refine g_Vi (n := 2) (As := [.int (nI k), .int (nI 0)]) (rest := []) hx hb hml hown hts hE hw hS gX6_over_X6_light (c_X6_light l G A _ k (by omega)) rfl (by decide +kernel) ⟨Nat.le_of_ble_eq_true rfl, Nat.le_of_ble_eq_true rfl⟩ (Nat.zero_lt_one) rfl rfl rfl rfl hl.1 rfl (Nat.le_of_ble_eq_true rfl) ⟨Nat.le_of_ble_eq_true rfl, Nat.le_of_ble_eq_true rfl⟩ dX6_over_29 (fun x_29 τ_29 H locs hp_29 hw hS => ?_)
            obtain ⟨ex_29, hτ_29⟩ := hp_29
            rw [hτ_29] at hw
            refine lv_goto (tgt := 36) hx hb dX6_over_32 (by decide) ?_
            refine lv_istore (lv' := [(6, .int x_29), (0, .ref (G.1 16 0)), (1, .int (nI z)), (2, .int v), (3, .int (nI 0)), (4, .int acc), (5, .int (nI k))]) hx hb dX6_over_36 hl (by decide) rfl (fun ls hl => ?_)
            refine lv_iconst (v := nI 0) hx hb dX6_over_38 (by decide) ?_
            refine lv_istore (lv' := [(7, .int (nI 0)), (6, .int x_29), (0, .ref (G.1 16 0)), (1, .int (nI z)), (2, .int v), (3, .int (nI 0)), (4, .int acc), (5, .int (nI k))]) hx hb dX6_over_39 hl (by decide) rfl (fun ls hl => ?_)
            exact K_41 (16 - 0 + 1) 0 acc x_29 (by first | omega | assumption | rfl) (by first | exact fun _ => ex_29 | exact fun g => absurd g.symm c_22) (by rw [ha]; by_cases g : z < k; rw [if_pos g, if_pos g]; rw [if_neg g, if_neg g]; by_cases g2 : k = z; rw [if_pos g2]; rfl; rw [if_neg g2]) (Nat.lt_succ_self _) _ _ _ hw hS (lv_sub hl [2, 3, 4, 5, 6, 7, 1, 0] rfl)
  exact K_6 (18 - 0 + 1) 0 (nI 0) (by first | omega | assumption | rfl) (by rw [if_neg (Nat.not_lt_zero _)]; rfl) (Nat.lt_succ_self _) _ _ _ hw hS (lv_sub hl [2, 3, 4, 5, 1, 0] rfl)
