/-! CONTRACTS, laid by program -/
set_option maxHeartbeats 4000000 in
set_option maxRecDepth 100000 in
/-- ZonedLightModel.fault()I -/
theorem c_X6_fault (l : Launch) (G : GG) (A : Nat → Prop) (σ : St) (t : Nat) (ht : t ≤ 60) (et : σ 16 0 7 = nI t) : MI l yX6_fault wsX6_fault 4 91 G A σ [.ref (G.1 16 0)] (fun r τ => r = (rdF (σ 21 0) t).1 ∧ ∃ row q, τ = us (ur σ 22 0 row) 16 0 8 (nI q)) := by
  refine MI.on (by decide) rfl (Nat.le_of_ble_eq_true rfl) (fun pP eE sS mM args below meth cC ls hx hb hml hr hown hlk hts hE hw hS hl => ?_)
  have hl : lv_has ls 2 [(0, .ref (G.1 16 0))] := hl
  refine lv_aload_n hx hb dX6_fault_0 rfl (lv_at hl 0 rfl) ?_
  refine lv_iconst (v := nI 0) hx hb dX6_fault_1 (by decide) ?_
  refine gp_X6_spot hx hb hE hw hS (Nat.zero_lt_one) hown (hts (.fieldLink RX6 150 "ZonedLightModel" "spot" "I") (by decide +kernel)) dX6_fault_2 (fun H locs hw hS => ?_)
  refine lv_iconst (v := nI 1) hx hb dX6_fault_5 (by decide) ?_
  refine lv_istore_n (lv' := [(1, .int (nI 1)), (0, .ref (G.1 16 0))]) hx hb dX6_fault_6 rfl hl (by decide) rfl (fun ls hl => ?_)
  have K_7 : ∀ (fuel : Nat) (mo : Int32) (q : Nat) (row : Nat → Int32) (σ2 : St), (q ≤ t) → (σ2 = us (ur σ 22 0 row) 16 0 8 (nI q)) → ((¬ mo = 0 ∧ (rdF (σ 21 0) t).1 = (rdK (σ 21 0) (t - q) q 0 (-1)).1) ∨ (mo = 0 ∧ (rdF (σ 21 0) t).1 = if q = t then -5 else nI q)) → t + 1 - q < fuel → ∀ (H : Heap) (locs : List Loc) (ls : Array Slot), Wcel G σ2 H → va_S A sS.heap H locs → lv_has ls 2 [(0, .ref (G.1 16 0)), (1, .int mo)] → W pP l eE { frames := 4, cells := 0, slots := 0, locals := 91 } sS mM args below meth cC H locs 0 0 (MQ below (va_Qi (fun r τ => r = (rdF (σ 21 0) t).1 ∧ ∃ row q, τ = us (ur σ 22 0 row) 16 0 8 (nI q)) (fun τ t => gP G A τ t) A) args sS 0 0 A) (F0 mM 7 ls []) := by
    intro fuel
    induction fuel with
    | zero =>
      intro mo q row σ2 hq h2 hI hfu
      exact absurd hfu (Nat.not_lt_zero _)
    | succ fuel K_7 =>
      intro mo q row σ2 hq h2 hI hfu H locs ls hw hS hl
      subst h2
      refine lv_iload_n hx hb dX6_fault_7 rfl (lv_at hl 1 rfl) ?_
      refine lv_if_eq (tgt := 33) hx hb dX6_fault_8 (by decide) (fun c_8 => ?_) (fun c_8 => ?_)
      · refine lv_aload_n hx hb dX6_fault_33 rfl (lv_at hl 0 rfl) ?_
        refine gf_X6_spot hx hb hE hw (Nat.zero_lt_one) hown (hts (.fieldLink RX6 150 "ZonedLightModel" "spot" "I") (by decide +kernel)) dX6_fault_34 ?_
        refine lv_topi (fun x_34 ex_34 => ?_)
        obtain rfl : x_34 = nI q := by rw [ex_34, st_8]
        refine lv_aload_n hx hb dX6_fault_37 rfl (lv_at hl 0 rfl) ?_
        refine gf_X6_textLong hx hb hE hw (Nat.zero_lt_one) hown (hts (.fieldLink RX6 147 "ZonedLightModel" "textLong" "I") (by decide +kernel)) dX6_fault_38 ?_
        refine lv_topi (fun x_38 ex_38 => ?_)
        obtain rfl : x_38 = nI t := by rw [ex_38, st_7, et]
        refine n_cmp_ne (tgt := 49) hx hb dX6_fault_41 (by decide) (by omega) (by omega) (fun c_41 => ?_) (fun c_41 => ?_)
        · refine lv_aload_n hx hb dX6_fault_49 rfl (lv_at hl 0 rfl) ?_
          refine gf_X6_spot hx hb hE hw (Nat.zero_lt_one) hown (hts (.fieldLink RX6 150 "ZonedLightModel" "spot" "I") (by decide +kernel)) dX6_fault_50 ?_
          refine lv_topi (fun x_50 ex_50 => ?_)
          have e50 : x_50 = nI q := by rw [ex_50, st_8]
          refine g_iret hx hb hr hlk hE hw hS dX6_fault_53 ?_
          have hE := (hI.resolve_left (fun g => g.1 c_8)).2
          first | exact ⟨by rw [hE, if_pos c_41], row, q, rfl⟩ | exact ⟨by rw [hE, if_neg c_41, e50], row, q, rfl⟩
        · refine lv_bipush (v := (-5)) hx hb dX6_fault_44 (by decide) ?_
          refine lv_goto (tgt := 53) hx hb dX6_fault_46 (by decide) ?_
          refine g_iret hx hb hr hlk hE hw hS dX6_fault_53 ?_
          have hE := (hI.resolve_left (fun g => g.1 c_8)).2
          first | exact ⟨by rw [hE, if_pos c_41], row, q, rfl⟩ | exact ⟨by rw [hE, if_neg c_41, e50], row, q, rfl⟩
      · have hrd := (hI.resolve_right (fun g => c_8 g.1)).2
        refine lv_aload_n hx hb dX6_fault_11 rfl (lv_at hl 0 rfl) ?_
        refine g_Vi (n := 0) (As := []) (rest := []) hx hb hml hown hts hE hw hS gX6_fault_X6_readsPart (c_X6_readsPart l G A _ q t hq ht st_8 (by rw [st_7, et])) rfl (by decide +kernel) ⟨Nat.le_of_ble_eq_true rfl, Nat.le_of_ble_eq_true rfl⟩ (Nat.zero_lt_one) rfl rfl rfl rfl hl.1 rfl (Nat.le_of_ble_eq_true rfl) ⟨Nat.le_of_ble_eq_true rfl, Nat.le_of_ble_eq_true rfl⟩ dX6_fault_12 (fun x_12 τ_12 H locs hp_12 hw hS => ?_)
        refine lv_if_ne (tgt := 23) hx hb dX6_fault_15 (by decide) (fun c_15 => ?_) (fun c_15 => ?_)
        · obtain ⟨q1, row1, L1, v1, hN⟩ := part_1 hp_12 c_15
          refine lv_aload_n hx hb dX6_fault_23 rfl (lv_at hl 0 rfl) ?_
          refine lv_bipush (v := nI 59) hx hb dX6_fault_24 (by decide) ?_
          refine g_Vi (n := 1) (As := [.int (nI 59)]) (rest := []) hx hb hml hown hts hE hw hS gX6_fault_X6_takes (c_X6_takes l G A _ q1 t (nI 59) hN.2.2.1 ht (by rw [hN.1]; exact st_8) (by rw [hN.1, st_7, st_7, et])) rfl (by decide +kernel) ⟨Nat.le_of_ble_eq_true rfl, Nat.le_of_ble_eq_true rfl⟩ (Nat.zero_lt_one) rfl rfl rfl rfl hl.1 rfl (Nat.le_of_ble_eq_true rfl) ⟨Nat.le_of_ble_eq_true rfl, Nat.le_of_ble_eq_true rfl⟩ dX6_fault_26 (fun x_26 τ_26 H locs hp_26 hw hS => ?_)
          refine lv_istore_n (lv' := [(1, .int x_26), (0, .ref (G.1 16 0))]) hx hb dX6_fault_29 rfl hl (by decide) rfl (fun ls hl => ?_)
          refine lv_goto (tgt := 7) hx hb dX6_fault_30 (by decide) ?_
          obtain ⟨q2, r2, hq2, hlt, h22, hI2⟩ := flt_step hN rfl hp_26 hrd
          exact K_7 x_26 q2 r2 _ hq2 h22 hI2 (by omega) _ _ _ hw hS (lv_sub hl [1, 0] rfl)
        · obtain ⟨q1, row1, hq1, hb1, hb2⟩ := part_0 hp_12 c_15
          refine lv_aload_n hx hb dX6_fault_18 rfl (lv_at hl 0 rfl) ?_
          refine gf_X6_spot hx hb hE hw (Nat.zero_lt_one) hown (hts (.fieldLink RX6 150 "ZonedLightModel" "spot" "I") (by decide +kernel)) dX6_fault_19 ?_
          refine lv_topi (fun x_19 ex_19 => ?_)
          have e19 : x_19 = nI q1 := by rw [ex_19, hb1]; exact us_at
          refine g_iret hx hb hr hlk hE hw hS dX6_fault_22 ?_
          rw [st_21] at hb2
          exact ⟨by rw [hrd, hb2, e19], row1, q1, by rw [hb1]; exact st_st⟩
  exact K_7 (t + 1 - 0 + 1) (nI 1) 0 (σ 22 0) _ (by first | omega | assumption | rfl) (by rw [ur_self (σ := σ) rfl]) (Or.inl ⟨by decide, rfl⟩) (Nat.lt_succ_self _) _ _ _ hw hS (lv_sub hl [1, 0] rfl)
set_option maxHeartbeats 4000000 in
set_option maxRecDepth 100000 in
/-- ZonedLightModel.asksPart()V -/
theorem c_X6_asksPart (l : Launch) (G : GG) (A : Nat → Prop) (σ : St) (L : Nat) (T : Nat) (w : Nat) (h : Nat) (b : Int32) (hL : L < 24) (hT : T < 12) (hw1 : w ≤ 24) (hh1 : h ≤ 12) (eL : σ 22 0 0 = nI L) (eT : σ 22 0 1 = nI T) (ew : σ 22 0 2 = nI w) (eh : σ 22 0 3 = nI h) (eb : σ 22 0 4 = b) : MV l yX6_asksPart wsX6_asksPart 0 0 G A σ [.ref (G.1 16 0)] (fun τ => τ = ur σ 17 0 (paintK (σ 17 0) L T w h b 288)) := by
  refine MV.on (by decide) rfl (Nat.le_of_ble_eq_true rfl) (fun pP eE sS mM args below meth cC ls hx hb hml hr hown hlk hts hE hw hS hl => ?_)
  have hl : lv_has ls 3 [(0, .ref (G.1 16 0))] := hl
  refine lv_aload_n hx hb dX6_asksPart_0 rfl (lv_at hl 0 rfl) ?_
  refine gf_X6_part hx hb hE hw (Nat.zero_lt_one) hown (hts (.fieldLink RX6 25 "ZonedLightModel" "part" "[I") (by decide +kernel)) dX6_asksPart_1 ?_
  refine lv_iconst (v := nI 1) hx hb dX6_asksPart_4 (by decide) ?_
  refine g_ald hx hb hE hw (n := 5) (Nat.zero_lt_one) rfl (by decide) (by omega) dX6_asksPart_5 ?_
  refine lv_topi (fun x_5 ex_5 => ?_)
  obtain rfl : x_5 = nI T := by rw [ex_5, eT]
  refine lv_istore_n (lv' := [(1, .int (nI T)), (0, .ref (G.1 16 0))]) hx hb dX6_asksPart_6 rfl hl (by decide) rfl (fun ls hl => ?_)
  have K_7 : ∀ (fuel : Nat) (y : Nat) (σ2 : St), (T ≤ y) → (y ≤ 12) → (σ2 = ur σ 17 0 (paintK (σ 17 0) L T w h b (24 * y))) → 12 - y < fuel → ∀ (H : Heap) (locs : List Loc) (ls : Array Slot), Wcel G σ2 H → va_S A sS.heap H locs → lv_has ls 3 [(0, .ref (G.1 16 0)), (1, .int (nI y))] → W pP l eE { frames := 0, cells := 0, slots := 0, locals := 0 } sS mM args below meth cC H locs 0 0 (MQ below (va_Qv (fun τ => τ = ur σ 17 0 (paintK (σ 17 0) L T w h b 288)) (fun τ t => gP G A τ t) A) args sS 0 0 A) (F0 mM 7 ls []) := by
    intro fuel
    induction fuel with
    | zero =>
      intro y σ2 hy1 hy2 h2 hfu
      exact absurd hfu (Nat.not_lt_zero _)
    | succ fuel K_7 =>
      intro y σ2 hy1 hy2 h2 hfu H locs ls hw hS hl
      subst h2
      refine lv_iload_n hx hb dX6_asksPart_7 rfl (lv_at hl 1 rfl) ?_
      refine lv_aload_n hx hb dX6_asksPart_8 rfl (lv_at hl 0 rfl) ?_
      refine gf_X6_part hx hb hE hw (Nat.zero_lt_one) hown (hts (.fieldLink RX6 25 "ZonedLightModel" "part" "[I") (by decide +kernel)) dX6_asksPart_9 ?_
      refine lv_iconst (v := nI 1) hx hb dX6_asksPart_12 (by decide) ?_
      refine g_ald hx hb hE hw (n := 5) (Nat.zero_lt_one) rfl (by decide) (by omega) dX6_asksPart_13 ?_
      refine lv_topi (fun x_13 ex_13 => ?_)
      obtain rfl : x_13 = nI T := by rw [ex_13, ur_k (by decide), eT]
      refine lv_aload_n hx hb dX6_asksPart_14 rfl (lv_at hl 0 rfl) ?_
      refine gf_X6_part hx hb hE hw (Nat.zero_lt_one) hown (hts (.fieldLink RX6 25 "ZonedLightModel" "part" "[I") (by decide +kernel)) dX6_asksPart_15 ?_
      refine lv_iconst (v := nI 3) hx hb dX6_asksPart_18 (by decide) ?_
      refine g_ald hx hb hE hw (n := 5) (Nat.zero_lt_one) rfl (by decide) (by omega) dX6_asksPart_19 ?_
      refine lv_topi (fun x_19 ex_19 => ?_)
      obtain rfl : x_19 = nI h := by rw [ex_19, ur_k (by decide), eh]
      refine n_iadd hx hb dX6_asksPart_20 ?_
      refine n_cmp_ge (tgt := 89) hx hb dX6_asksPart_21 (by decide) (by omega) (by omega) (fun c_21 => ?_) (fun c_21 => ?_)
      · refine g_vret hx hb hr hlk hE hw hS dX6_asksPart_89 ?_
        first | rw [paint_last hy2 (minN_ge (Or.inr c_21))] | rw [paint_last hy2 (minN_ge (Or.inl c_27))]
      · refine lv_iload_n hx hb dX6_asksPart_24 rfl (lv_at hl 1 rfl) ?_
        refine lv_bipush (v := nI 12) hx hb dX6_asksPart_25 (by decide) ?_
        refine n_cmp_ge (tgt := 89) hx hb dX6_asksPart_27 (by decide) (by omega) (by omega) (fun c_27 => ?_) (fun c_27 => ?_)
        · refine g_vret hx hb hr hlk hE hw hS dX6_asksPart_89 ?_
          first | rw [paint_last hy2 (minN_ge (Or.inr c_21))] | rw [paint_last hy2 (minN_ge (Or.inl c_27))]
        · refine lv_aload_n hx hb dX6_asksPart_30 rfl (lv_at hl 0 rfl) ?_
          refine gf_X6_part hx hb hE hw (Nat.zero_lt_one) hown (hts (.fieldLink RX6 25 "ZonedLightModel" "part" "[I") (by decide +kernel)) dX6_asksPart_31 ?_
          refine lv_iconst (v := nI 0) hx hb dX6_asksPart_34 (by decide) ?_
          refine g_ald hx hb hE hw (n := 5) (Nat.zero_lt_one) rfl (by decide) (by omega) dX6_asksPart_35 ?_
          refine lv_topi (fun x_35 ex_35 => ?_)
          obtain rfl : x_35 = nI L := by rw [ex_35, ur_k (by decide), eL]
          refine lv_istore_n (lv' := [(2, .int (nI L)), (0, .ref (G.1 16 0)), (1, .int (nI y))]) hx hb dX6_asksPart_36 rfl hl (by decide) rfl (fun ls hl => ?_)
          have K_37 : ∀ (fuel : Nat) (x : Nat) (σ2 : St), (L ≤ x) → (x ≤ 24) → (σ2 = ur σ 17 0 (paintK (σ 17 0) L T w h b (24 * y + x))) → 24 - x < fuel → ∀ (H : Heap) (locs : List Loc) (ls : Array Slot), Wcel G σ2 H → va_S A sS.heap H locs → lv_has ls 3 [(0, .ref (G.1 16 0)), (1, .int (nI y)), (2, .int (nI x))] → W pP l eE { frames := 0, cells := 0, slots := 0, locals := 0 } sS mM args below meth cC H locs 0 0 (MQ below (va_Qv (fun τ => τ = ur σ 17 0 (paintK (σ 17 0) L T w h b 288)) (fun τ t => gP G A τ t) A) args sS 0 0 A) (F0 mM 37 ls []) := by
            intro fuel
            induction fuel with
            | zero =>
              intro x σ2 hx1 hx2 h2 hfu
              exact absurd hfu (Nat.not_lt_zero _)
            | succ fuel K_37 =>
              intro x σ2 hx1 hx2 h2 hfu H locs ls hw hS hl
              subst h2
              refine lv_iload_n hx hb dX6_asksPart_37 rfl (lv_at hl 2 rfl) ?_
              refine lv_aload_n hx hb dX6_asksPart_38 rfl (lv_at hl 0 rfl) ?_
              refine gf_X6_part hx hb hE hw (Nat.zero_lt_one) hown (hts (.fieldLink RX6 25 "ZonedLightModel" "part" "[I") (by decide +kernel)) dX6_asksPart_39 ?_
              refine lv_iconst (v := nI 0) hx hb dX6_asksPart_42 (by decide) ?_
              refine g_ald hx hb hE hw (n := 5) (Nat.zero_lt_one) rfl (by decide) (by omega) dX6_asksPart_43 ?_
              refine lv_topi (fun x_43 ex_43 => ?_)
              obtain rfl : x_43 = nI L := by rw [ex_43, ur_k (by decide), eL]
              refine lv_aload_n hx hb dX6_asksPart_44 rfl (lv_at hl 0 rfl) ?_
              refine gf_X6_part hx hb hE hw (Nat.zero_lt_one) hown (hts (.fieldLink RX6 25 "ZonedLightModel" "part" "[I") (by decide +kernel)) dX6_asksPart_45 ?_
              refine lv_iconst (v := nI 2) hx hb dX6_asksPart_48 (by decide) ?_
              refine g_ald hx hb hE hw (n := 5) (Nat.zero_lt_one) rfl (by decide) (by omega) dX6_asksPart_49 ?_
              refine lv_topi (fun x_49 ex_49 => ?_)
              obtain rfl : x_49 = nI w := by rw [ex_49, ur_k (by decide), ew]
              refine n_iadd hx hb dX6_asksPart_50 ?_
              refine n_cmp_ge (tgt := 83) hx hb dX6_asksPart_51 (by decide) (by omega) (by omega) (fun c_51 => ?_) (fun c_51 => ?_)
              · refine lv_iinc (v := nI (y + 1)) (lv' := [(1, .int (nI (y + 1))), (0, .ref (G.1 16 0)), (2, .int (nI x))]) hx hb dX6_asksPart_83 hl (k := 1) rfl (nI_add _ _) (by decide) rfl (fun ls hl => ?_)
                refine lv_goto (tgt := 7) hx hb dX6_asksPart_86 (by decide) ?_
                first | exact K_7 (y + 1) _ (by first | omega | assumption | rfl) (by first | omega | assumption | rfl) (by rw [paint_row1 hx2 (minN_ge (Or.inr c_51))]) (by omega) _ _ _ hw hS (lv_sub hl [1, 0] rfl) | exact K_7 (y + 1) _ (by first | omega | assumption | rfl) (by first | omega | assumption | rfl) (by rw [paint_row1 hx2 (minN_ge (Or.inl c_57))]) (by omega) _ _ _ hw hS (lv_sub hl [1, 0] rfl)
              · refine lv_iload_n hx hb dX6_asksPart_54 rfl (lv_at hl 2 rfl) ?_
                refine lv_bipush (v := nI 24) hx hb dX6_asksPart_55 (by decide) ?_
                refine n_cmp_ge (tgt := 83) hx hb dX6_asksPart_57 (by decide) (by omega) (by omega) (fun c_57 => ?_) (fun c_57 => ?_)
                · refine lv_iinc (v := nI (y + 1)) (lv' := [(1, .int (nI (y + 1))), (0, .ref (G.1 16 0)), (2, .int (nI x))]) hx hb dX6_asksPart_83 hl (k := 1) rfl (nI_add _ _) (by decide) rfl (fun ls hl => ?_)
                  refine lv_goto (tgt := 7) hx hb dX6_asksPart_86 (by decide) ?_
                  first | exact K_7 (y + 1) _ (by first | omega | assumption | rfl) (by first | omega | assumption | rfl) (by rw [paint_row1 hx2 (minN_ge (Or.inr c_51))]) (by omega) _ _ _ hw hS (lv_sub hl [1, 0] rfl) | exact K_7 (y + 1) _ (by first | omega | assumption | rfl) (by first | omega | assumption | rfl) (by rw [paint_row1 hx2 (minN_ge (Or.inl c_57))]) (by omega) _ _ _ hw hS (lv_sub hl [1, 0] rfl)
                · refine lv_aload_n hx hb dX6_asksPart_60 rfl (lv_at hl 0 rfl) ?_
                  refine gf_X6_all hx hb hE hw (Nat.zero_lt_one) hown (hts (.fieldLink RX6 7 "ZonedLightModel" "all" "[I") (by decide +kernel)) dX6_asksPart_61 ?_
                  refine lv_bipush (v := nI 24) hx hb dX6_asksPart_64 (by decide) ?_
                  refine lv_iload_n hx hb dX6_asksPart_66 rfl (lv_at hl 1 rfl) ?_
                  refine n_imul hx hb dX6_asksPart_67 ?_
                  refine lv_iload_n hx hb dX6_asksPart_68 rfl (lv_at hl 2 rfl) ?_
                  refine n_iadd hx hb dX6_asksPart_69 ?_
                  refine lv_aload_n hx hb dX6_asksPart_70 rfl (lv_at hl 0 rfl) ?_
                  refine gf_X6_part hx hb hE hw (Nat.zero_lt_one) hown (hts (.fieldLink RX6 25 "ZonedLightModel" "part" "[I") (by decide +kernel)) dX6_asksPart_71 ?_
                  refine lv_iconst (v := nI 4) hx hb dX6_asksPart_74 (by decide) ?_
                  refine g_ald hx hb hE hw (n := 5) (Nat.zero_lt_one) rfl (by decide) (by omega) dX6_asksPart_75 ?_
                  refine lv_topi (fun x_75 ex_75 => ?_)
                  have e75 : x_75 = b := by rw [ex_75, ur_k (by decide), eb]
                  refine g_ast hx hb hE hw hS (n := 335) (Nat.zero_lt_one) (by decide) (fun _ => rfl) rfl (by decide) (by omega) dX6_asksPart_76 (fun H locs hw hS => ?_)
                  refine lv_iinc (v := nI (x + 1)) (lv' := [(2, .int (nI (x + 1))), (0, .ref (G.1 16 0)), (1, .int (nI y))]) hx hb dX6_asksPart_77 hl (k := 2) rfl (nI_add _ _) (by decide) rfl (fun ls hl => ?_)
                  refine lv_goto (tgt := 37) hx hb dX6_asksPart_80 (by decide) ?_
                  exact K_37 (x + 1) _ (by first | omega | assumption | rfl) (by first | omega | assumption | rfl) (by rw [us_ur, e75, show 24 * y + x = y * 24 + x by omega, show paintK (σ 17 0) L T w h b (y * 24 + x) = paintK (σ 17 0) L T w h b (24 * y + x) by rw [show y * 24 + x = 24 * y + x by omega], paint_put (by omega) hy1 c_21 hx1 c_51]) (by omega) _ _ _ hw hS (lv_sub hl [1, 2, 0] rfl)
          exact K_37 (24 - L + 1) L _ (by first | omega | assumption | rfl) (by first | omega | assumption | rfl) (by rw [paint_row0 hL]) (Nat.lt_succ_self _) _ _ _ hw hS (lv_sub hl [1, 2, 0] rfl)
  exact K_7 (12 - T + 1) T _ (by first | omega | assumption | rfl) (by first | omega | assumption | rfl) (by rw [← paint_first, ur_self rfl]) (Nat.lt_succ_self _) _ _ _ hw hS (lv_sub hl [1, 0] rfl)
set_option maxHeartbeats 4000000 in
set_option maxRecDepth 100000 in
/-- ZonedLightModel.askAll()I -/
theorem c_X6_askAll (l : Launch) (G : GG) (A : Nat → Prop) (σ : St) (m : Nat) (t : Nat) (hm : m ≤ 4) (em : σ 16 0 2 = nI m) (ht : t ≤ 60) (et : σ 16 0 7 = nI t) : MI l yX6_askAll wsX6_askAll 5 112 G A σ [.ref (G.1 16 0)] (fun r τ => actM σ τ r (allF (σ 17 0) (σ 21 0) t) m) := by
  refine MI.on (by decide) rfl (Nat.le_of_ble_eq_true rfl) (fun pP eE sS mM args below meth cC ls hx hb hml hr hown hlk hts hE hw hS hl => ?_)
  have hl : lv_has ls 4 [(0, .ref (G.1 16 0))] := hl
  refine lv_aload_n hx hb dX6_askAll_0 rfl (lv_at hl 0 rfl) ?_
  refine g_Vi (n := 0) (As := []) (rest := []) hx hb hml hown hts hE hw hS gX6_askAll_X6_fault (c_X6_fault l G A _ _ ht et) rfl (by decide +kernel) ⟨Nat.le_of_ble_eq_true rfl, Nat.le_of_ble_eq_true rfl⟩ (Nat.zero_lt_one) rfl rfl rfl rfl hl.1 rfl (Nat.le_of_ble_eq_true rfl) ⟨Nat.le_of_ble_eq_true rfl, Nat.le_of_ble_eq_true rfl⟩ dX6_askAll_1 (fun x_1 τ_1 H locs hp_1 hw hS => ?_)
  have hst := hp_1.2
  refine lv_istore_n (lv' := [(1, .int x_1), (0, .ref (G.1 16 0))]) hx hb dX6_askAll_4 rfl hl (by decide) rfl (fun ls hl => ?_)
  refine lv_iload_n hx hb dX6_askAll_5 rfl (lv_at hl 0 rfl) ?_
  refine lv_bipush (v := (-5)) hx hb dX6_askAll_6 (by decide) ?_
  refine lv_icmp_eq (tgt := 16) hx hb dX6_askAll_8 (by decide) (fun c_8 => ?_) (fun c_8 => ?_)
  · have hc8 : (rdF (σ 21 0) t).1 = -5 := by rw [← hp_1.1]; exact c_8
    refine lv_aload_n hx hb dX6_askAll_16 rfl (lv_at hl 1 rfl) ?_
    refine g_Vv (n := 0) (As := []) (rest := []) hx hb hml hown hts hE hw hS gX6_askAll_X6_acts (c_X6_acts l G A _ _ hm (by rw [fst_n hst (by decide)]; exact em)) rfl (by decide +kernel) ⟨Nat.le_of_ble_eq_true rfl, Nat.le_of_ble_eq_true rfl⟩ (Nat.zero_lt_one) rfl rfl rfl rfl hl.1 rfl (Nat.le_of_ble_eq_true rfl) ⟨Nat.le_of_ble_eq_true rfl, Nat.le_of_ble_eq_true rfl⟩ dX6_askAll_17 (fun τ_17 H locs hp_17 hw hS => ?_)
    refine lv_aload_n hx hb dX6_askAll_20 rfl (lv_at hl 1 rfl) ?_
    refine lv_iconst (v := nI 0) hx hb dX6_askAll_21 (by decide) ?_
    refine gp_X6_spot hx hb hE hw hS (Nat.zero_lt_one) hown (hts (.fieldLink RX6 150 "ZonedLightModel" "spot" "I") (by decide +kernel)) dX6_askAll_22 (fun H locs hw hS => ?_)
    refine lv_iconst (v := nI 1) hx hb dX6_askAll_25 (by decide) ?_
    refine lv_istore_n (lv' := [(2, .int (nI 1)), (1, .int x_1), (0, .ref (G.1 16 0))]) hx hb dX6_askAll_26 rfl hl (by decide) rfl (fun ls hl => ?_)
    have K_27 : ∀ (fuel : Nat) (mo : Int32) (q : Nat) (σ2 : St), (allI σ σ2 m t mo q) → t + 1 - q < fuel → ∀ (H : Heap) (locs : List Loc) (ls : Array Slot), Wcel G σ2 H → va_S A sS.heap H locs → lv_has ls 4 [(0, .ref (G.1 16 0)), (2, .int mo)] → W pP l eE { frames := 5, cells := 0, slots := 0, locals := 112 } sS mM args below meth cC H locs 0 0 (MQ below (va_Qi (fun r τ => actM σ τ r (allF (σ 17 0) (σ 21 0) t) m) (fun τ t => gP G A τ t) A) args sS 0 0 A) (F0 mM 27 ls []) := by
      intro fuel
      induction fuel with
      | zero =>
        intro mo q σ2 hI hfu
        exact absurd hfu (Nat.not_lt_zero _)
      | succ fuel K_27 =>
        intro mo q σ2 hI hfu H locs ls hw hS hl
        refine lv_iload_n hx hb dX6_askAll_27 rfl (lv_at hl 1 rfl) ?_
        refine lv_if_eq (tgt := 50) hx hb dX6_askAll_28 (by decide) (fun c_28 => ?_) (fun c_28 => ?_)
        · refine lv_aload_n hx hb dX6_askAll_50 rfl (lv_at hl 0 rfl) ?_
          refine g_Vi (n := 0) (As := []) (rest := []) hx hb hml hown hts hE hw hS gX6_askAll_X6_otherSpots (c_X6_otherSpots l G A _ (sizeH m) (sizeH_p m) (sizeH_le hm) (all_m2 hI)) rfl (by decide +kernel) ⟨Nat.le_of_ble_eq_true rfl, Nat.le_of_ble_eq_true rfl⟩ (Nat.zero_lt_one) rfl rfl rfl rfl hl.1 rfl (Nat.le_of_ble_eq_true rfl) ⟨Nat.le_of_ble_eq_true rfl, Nat.le_of_ble_eq_true rfl⟩ dX6_askAll_51 (fun r_51 τ_51 H locs hp_51 hw hS => ?_)
          obtain ⟨rfl, hτ_51⟩ := hp_51
          rw [hτ_51] at hw
          refine g_iret hx hb hr hlk hE hw hS dX6_askAll_54 ?_
          exact all_end hm hc8 hI c_28
        · refine lv_aload_n hx hb dX6_askAll_31 rfl (lv_at hl 0 rfl) ?_
          refine g_Vi (n := 0) (As := []) (rest := []) hx hb hml hown hts hE hw hS gX6_askAll_X6_readsPart (c_X6_readsPart l G A _ q t (all_q hI) ht (all_sp hI) (all_tx hI et)) rfl (by decide +kernel) ⟨Nat.le_of_ble_eq_true rfl, Nat.le_of_ble_eq_true rfl⟩ (Nat.zero_lt_one) rfl rfl rfl rfl hl.1 rfl (Nat.le_of_ble_eq_true rfl) ⟨Nat.le_of_ble_eq_true rfl, Nat.le_of_ble_eq_true rfl⟩ dX6_askAll_32 (fun x_32 τ_32 H locs hp_32 hw hS => ?_)
          obtain ⟨q1, row1, L1, v1, hN⟩ := all_part ht hc8 hI c_28 hp_32
          obtain ⟨P, n, hP, h17, he, ⟨b0, b1, b2, b3⟩, e0, e1, e2, e3, e4⟩ := all_nums ht hc8 hI c_28 hN
          have e22 : τ_32 22 0 = row1 := by rw [hN.1, us_k (by decide), ur_same]
          refine lv_istore_n (lv' := [(3, .int x_32), (0, .ref (G.1 16 0)), (2, .int mo)]) hx hb dX6_askAll_35 rfl hl (by decide) rfl (fun ls hl => ?_)
          refine lv_aload_n hx hb dX6_askAll_36 rfl (lv_at hl 1 rfl) ?_
          refine g_Vv (n := 0) (As := []) (rest := []) hx hb hml hown hts hE hw hS gX6_askAll_X6_asksPart (c_X6_asksPart l G A _ (num (rdF (σ 21 0) t).2 (n * 5)) (num (rdF (σ 21 0) t).2 (n * 5 + 1)) (num (rdF (σ 21 0) t).2 (n * 5 + 2)) (num (rdF (σ 21 0) t).2 (n * 5 + 3)) ((rdF (σ 21 0) t).2.getD (n * 5 + 4) 0) b0 b1 b2 b3 (by rw [e22]; exact e0) (by rw [e22]; exact e1) (by rw [e22]; exact e2) (by rw [e22]; exact e3) (by rw [e22]; exact e4)) rfl (by decide +kernel) ⟨Nat.le_of_ble_eq_true rfl, Nat.le_of_ble_eq_true rfl⟩ (Nat.zero_lt_one) rfl rfl rfl rfl hl.1 rfl (Nat.le_of_ble_eq_true rfl) ⟨Nat.le_of_ble_eq_true rfl, Nat.le_of_ble_eq_true rfl⟩ dX6_askAll_37 (fun τ_37 H locs hp_37 hw hS => ?_)
          refine lv_aload_n hx hb dX6_askAll_40 rfl (lv_at hl 1 rfl) ?_
          refine lv_bipush (v := nI 59) hx hb dX6_askAll_41 (by decide) ?_
          refine g_Vi (n := 1) (As := [.int (nI 59)]) (rest := []) hx hb hml hown hts hE hw hS gX6_askAll_X6_takes (c_X6_takes l G A _ q1 t (nI 59) hN.2.2.1 ht (by rw [hp_37, ur_k (by decide), hN.1]; exact us_at) (by rw [hp_37, ur_k (by decide), hN.1, st_7]; exact all_tx hI et)) rfl (by decide +kernel) ⟨Nat.le_of_ble_eq_true rfl, Nat.le_of_ble_eq_true rfl⟩ (Nat.zero_lt_one) rfl rfl rfl rfl hl.1 rfl (Nat.le_of_ble_eq_true rfl) ⟨Nat.le_of_ble_eq_true rfl, Nat.le_of_ble_eq_true rfl⟩ dX6_askAll_43 (fun x_43 τ_43 H locs hp_43 hw hS => ?_)
          refine lv_istore_n (lv' := [(2, .int x_43), (3, .int x_32), (0, .ref (G.1 16 0))]) hx hb dX6_askAll_46 rfl hl (by decide) rfl (fun ls hl => ?_)
          refine lv_goto (tgt := 27) hx hb dX6_askAll_47 (by decide) ?_
          obtain ⟨q2, hlt, hI2⟩ := all_step ht hc8 hI hN hP h17 he hp_37 rfl hp_43
          have hq2 := all_q hI2
          exact K_27 x_43 q2 _ hI2 (by omega) _ _ _ hw hS (lv_sub hl [2, 0] rfl)
    exact K_27 (t + 1 - 0 + 1) (nI 1) 0 _ (by rw [hp_17]; exact all_0 hst) (Nat.lt_succ_self _) _ _ _ hw hS (lv_sub hl [2, 0] rfl)
  · have hc8 : ¬ (rdF (σ 21 0) t).1 = -5 := by rw [← hp_1.1]; exact c_8
    refine lv_bipush (v := (-100)) hx hb dX6_askAll_11 (by decide) ?_
    refine lv_iload_n hx hb dX6_askAll_13 rfl (lv_at hl 0 rfl) ?_
    refine lv_isub hx hb dX6_askAll_14 ?_
    refine lv_topi (fun x_14 ex_14 => ?_)
    refine g_iret hx hb hr hlk hE hw hS dX6_askAll_15 ?_
    exact Or.inl ⟨_, if_neg hc8, by rw [ex_14, hp_1.1], all_keep hst⟩
set_option maxHeartbeats 4000000 in
set_option maxRecDepth 100000 in
/-- ZonedLight.askAll()I -/
theorem c_X5_askAll (l : Launch) (G : GG) (A : Nat → Prop) (σ : St) (t : Nat) (o : Nat) (n : Nat) (ht : t ≤ 60) (et : σ 8 0 1 = nI t) (ho : o < 4) (hn : n ≤ 4) (eo : σ 6 0 1 = nI o) (en : σ 6 0 2 = nI n) : MI l yX5_askAll wsX5_askAll 3 69 G A σ [.ref (G.1 5 0)] (fun r τ => actC σ τ r (allF (scr σ 0) (σ 9 0) t) o n) := by
  refine MI.on (by decide) rfl (Nat.le_of_ble_eq_true rfl) (fun pP eE sS mM args below meth cC ls hx hb hml hr hown hlk hts hE hw hS hl => ?_)
  have hl : lv_has ls 3 [(0, .ref (G.1 5 0))] := hl
  refine lv_aload_n hx hb dX5_askAll_0 rfl (lv_at hl 0 rfl) ?_
  refine gf_X5_text hx hb hE hw (Nat.zero_lt_one) hown (hts (.fieldLink RX5 33 "ZonedLight" "text" "LZonedLight$PictureText;") (by decide +kernel)) dX5_askAll_1 ?_
  refine g_Vi (n := 0) (As := []) (rest := []) hx hb hml hown hts hE hw hS gX5_askAll_X1_read (c_X1_read l G A _ _ (by omega) (by omega)) rfl (by decide +kernel) ⟨Nat.le_of_ble_eq_true rfl, Nat.le_of_ble_eq_true rfl⟩ (Nat.zero_lt_one) rfl rfl rfl rfl hl.1 rfl (Nat.le_of_ble_eq_true rfl) ⟨Nat.le_of_ble_eq_true rfl, Nat.le_of_ble_eq_true rfl⟩ dX5_askAll_4 (fun x_4 τ_4 H locs hp_4 hw hS => ?_)
  have hkp := readP_keep hp_4
  obtain ⟨row, cnt, hrd, hr1, hcnt, hr2⟩ := hp_4
  refine lv_istore_n (lv' := [(1, .int x_4), (0, .ref (G.1 5 0))]) hx hb dX5_askAll_7 rfl hl (by decide) rfl (fun ls hl => ?_)
  refine lv_iload_n hx hb dX5_askAll_8 rfl (lv_at hl 0 rfl) ?_
  refine lv_bipush (v := (-5)) hx hb dX5_askAll_9 (by decide) ?_
  refine lv_icmp_eq (tgt := 19) hx hb dX5_askAll_11 (by decide) (fun c_11 => ?_) (fun c_11 => ?_)
  · have hc8 : (rdF (σ 9 0) t).1 = -5 := by rw [← hr1]; exact c_11
    obtain ⟨hc1, hc2⟩ := hr2 c_11
    refine lv_aload_n hx hb dX5_askAll_19 rfl (lv_at hl 1 rfl) ?_
    refine gf_X5_history hx hb hE hw (Nat.zero_lt_one) hown (hts (.fieldLink RX5 26 "ZonedLight" "history" "LZonedLight$History;") (by decide +kernel)) dX5_askAll_20 ?_
    refine lv_aload_n hx hb dX5_askAll_23 rfl (lv_at hl 1 rfl) ?_
    refine gf_X5_now hx hb hE hw (Nat.zero_lt_one) hown (hts (.fieldLink RX5 12 "ZonedLight" "now" "LZonedLight$Screen;") (by decide +kernel)) dX5_askAll_24 ?_
    refine g_Vv (n := 1) (As := [.ref (G.1 0 0)]) (rest := []) hx hb hml hown hts hE hw hS gX5_askAll_X0_record (c_X0_record l G A _ _ _ ho hn (by rw [keepC_row hkp (by unfold scrC; omega)]; exact eo) (by rw [keepC_row hkp (by unfold scrC; omega)]; exact en)) rfl (by decide +kernel) ⟨Nat.le_of_ble_eq_true rfl, Nat.le_of_ble_eq_true rfl⟩ (Nat.zero_lt_one) rfl rfl rfl rfl hl.1 rfl (Nat.le_of_ble_eq_true rfl) ⟨Nat.le_of_ble_eq_true rfl, Nat.le_of_ble_eq_true rfl⟩ dX5_askAll_27 (fun τ_27 H locs hp_27 hw hS => ?_)
    have k10 : τ_27 10 0 = row := by rw [rec_k hp_27 (by decide) (by omega), hrd, us_k (by decide), ur_same]
    have k8 : τ_27 8 0 3 = nI cnt := by rw [rec_k hp_27 (by decide) (by omega), hrd, us_at]
    have know : scr τ_27 0 = scr σ 0 := (rec_now hp_27).trans (keepC_now hkp)
    refine lv_aload_n hx hb dX5_askAll_30 rfl (lv_at hl 1 rfl) ?_
    refine g_Vv (n := 0) (As := []) (rest := []) hx hb hml hown hts hE hw hS gX5_askAll_X5_rememberPicture (c_X5_rememberPicture l G A _ ) rfl (by decide +kernel) ⟨Nat.le_of_ble_eq_true rfl, Nat.le_of_ble_eq_true rfl⟩ (Nat.zero_lt_one) rfl rfl rfl rfl hl.1 rfl (Nat.le_of_ble_eq_true rfl) ⟨Nat.le_of_ble_eq_true rfl, Nat.le_of_ble_eq_true rfl⟩ dX5_askAll_31 (fun τ_31 H locs hp_31 hw hS => ?_)
    refine lv_iconst (v := nI 0) hx hb dX5_askAll_34 (by decide) ?_
    refine lv_istore_n (lv' := [(2, .int (nI 0)), (1, .int x_4), (0, .ref (G.1 5 0))]) hx hb dX5_askAll_35 rfl hl (by decide) rfl (fun ls hl => ?_)
    have K_36 : ∀ (fuel : Nat) (p : Nat) (σ2 : St), (p ≤ cnt / 5) → (sameC τ_27 σ2 atNow) → (scr σ2 0 = putA (scr σ 0) (partsK (rdF (σ 9 0) t).2 (scr σ 0) p)) → (σ2 10 0 = row) → (σ2 8 0 3 = nI cnt) → (σ2 15 0 = τ_27 1 0) → cnt / 5 - p < fuel → ∀ (H : Heap) (locs : List Loc) (ls : Array Slot), Wcel G σ2 H → va_S A sS.heap H locs → lv_has ls 3 [(0, .ref (G.1 5 0)), (2, .int (nI p))] → W pP l eE { frames := 3, cells := 0, slots := 0, locals := 69 } sS mM args below meth cC H locs 0 0 (MQ below (va_Qi (fun r τ => actC σ τ r (allF (scr σ 0) (σ 9 0) t) o n) (fun τ t => gP G A τ t) A) args sS 0 0 A) (F0 mM 36 ls []) := by
      intro fuel
      induction fuel with
      | zero =>
        intro p σ2 hpp h1 h2 h3 h4 h5 hfu
        exact absurd hfu (Nat.not_lt_zero _)
      | succ fuel K_36 =>
        intro p σ2 hpp h1 h2 h3 h4 h5 hfu H locs ls hw hS hl
        refine lv_iload_n hx hb dX5_askAll_36 rfl (lv_at hl 1 rfl) ?_
        refine lv_aload_n hx hb dX5_askAll_37 rfl (lv_at hl 0 rfl) ?_
        refine gf_X5_text hx hb hE hw (Nat.zero_lt_one) hown (hts (.fieldLink RX5 33 "ZonedLight" "text" "LZonedLight$PictureText;") (by decide +kernel)) dX5_askAll_38 ?_
        refine g_Vi (n := 0) (As := []) (rest := [.int (nI p)]) hx hb hml hown hts hE hw hS gX5_askAll_X1_parts (c_X1_parts l G A _ cnt hcnt h4) rfl (by decide +kernel) ⟨Nat.le_of_ble_eq_true rfl, Nat.le_of_ble_eq_true rfl⟩ (Nat.zero_lt_one) rfl rfl rfl rfl hl.1 rfl (Nat.le_of_ble_eq_true rfl) ⟨Nat.le_of_ble_eq_true rfl, Nat.le_of_ble_eq_true rfl⟩ dX5_askAll_41 (fun r_41 τ_41 H locs hp_41 hw hS => ?_)
        obtain ⟨rfl, hτ_41⟩ := hp_41
        rw [hτ_41] at hw
        refine n_cmp_ge (tgt := 105) hx hb dX5_askAll_44 (by decide) (by omega) (by omega) (fun c_44 => ?_) (fun c_44 => ?_)
        · refine lv_aload_n hx hb dX5_askAll_105 rfl (lv_at hl 0 rfl) ?_
          refine g_Vi (n := 0) (As := []) (rest := []) hx hb hml hown hts hE hw hS gX5_askAll_X5_changedSpots (c_X5_changedSpots l G A _ ) rfl (by decide +kernel) ⟨Nat.le_of_ble_eq_true rfl, Nat.le_of_ble_eq_true rfl⟩ (Nat.zero_lt_one) rfl rfl rfl rfl hl.1 rfl (Nat.le_of_ble_eq_true rfl) ⟨Nat.le_of_ble_eq_true rfl, Nat.le_of_ble_eq_true rfl⟩ dX5_askAll_106 (fun r_106 τ_106 H locs hp_106 hw hS => ?_)
          obtain ⟨rfl, hτ_106⟩ := hp_106
          rw [hτ_106] at hw
          refine g_iret hx hb hr hlk hE hw hS dX5_askAll_109 ?_
          obtain rfl : p = cnt / 5 := by omega
          have es : scr σ2 0 = textA (scr σ 0) (rdF (σ 9 0) t).2 := by rw [h2, textA, hc1]
          have hd : difK (σ2 1 0) (σ2 15 0) 288 = difK (textA (scr σ 0) (rdF (σ 9 0) t).2) (scr σ 0) 288 := difK_congr 288 (fun j g => by rw [← es]; exact (scr_asked g).symm) (fun j g => by rw [h5, ← know]; exact (scr_asked g).symm)
          exact act_go2 (a1 := textA (scr σ 0) (rdF (σ 9 0) t).2) (by rw [allF, if_pos hc8, hd]) hkp hp_27 h1 es
        · refine lv_aload_n hx hb dX5_askAll_47 rfl (lv_at hl 0 rfl) ?_
          refine gf_X5_now hx hb hE hw (Nat.zero_lt_one) hown (hts (.fieldLink RX5 12 "ZonedLight" "now" "LZonedLight$Screen;") (by decide +kernel)) dX5_askAll_48 ?_
          refine lv_aload_n hx hb dX5_askAll_51 rfl (lv_at hl 0 rfl) ?_
          refine gf_X5_text hx hb hE hw (Nat.zero_lt_one) hown (hts (.fieldLink RX5 33 "ZonedLight" "text" "LZonedLight$PictureText;") (by decide +kernel)) dX5_askAll_52 ?_
          refine lv_iload_n hx hb dX5_askAll_55 rfl (lv_at hl 1 rfl) ?_
          refine lv_iconst (v := nI 0) hx hb dX5_askAll_56 (by decide) ?_
          refine g_Vi (n := 2) (As := [.int (nI p), .int (nI 0)]) (rest := [.ref (G.1 0 0)]) hx hb hml hown hts hE hw hS gX5_askAll_X1_number (c_X1_number l G A _ p 0 (by omega) (by omega)) rfl (by decide +kernel) ⟨Nat.le_of_ble_eq_true rfl, Nat.le_of_ble_eq_true rfl⟩ (Nat.zero_lt_one) rfl rfl rfl rfl hl.1 rfl (Nat.le_of_ble_eq_true rfl) ⟨Nat.le_of_ble_eq_true rfl, Nat.le_of_ble_eq_true rfl⟩ dX5_askAll_57 (fun x_57 τ_57 H locs hp_57 hw hS => ?_)
          obtain ⟨ex_57, hτ_57⟩ := hp_57
          rw [hτ_57] at hw
          have g_57 := cls_num (j := 0) ht hc1 hc2 c_44 (by decide)
          obtain rfl : x_57 = nI (num (rdF (σ 9 0) t).2 (p * 5)) := by rw [ex_57, h3]; exact g_57.1
          refine lv_aload_n hx hb dX5_askAll_60 rfl (lv_at hl 0 rfl) ?_
          refine gf_X5_text hx hb hE hw (Nat.zero_lt_one) hown (hts (.fieldLink RX5 33 "ZonedLight" "text" "LZonedLight$PictureText;") (by decide +kernel)) dX5_askAll_61 ?_
          refine lv_iload_n hx hb dX5_askAll_64 rfl (lv_at hl 1 rfl) ?_
          refine lv_iconst (v := nI 1) hx hb dX5_askAll_65 (by decide) ?_
          refine g_Vi (n := 2) (As := [.int (nI p), .int (nI 1)]) (rest := [.int (nI (num (rdF (σ 9 0) t).2 (p * 5))), .ref (G.1 0 0)]) hx hb hml hown hts hE hw hS gX5_askAll_X1_number (c_X1_number l G A _ p 1 (by omega) (by omega)) rfl (by decide +kernel) ⟨Nat.le_of_ble_eq_true rfl, Nat.le_of_ble_eq_true rfl⟩ (Nat.zero_lt_one) rfl rfl rfl rfl hl.1 rfl (Nat.le_of_ble_eq_true rfl) ⟨Nat.le_of_ble_eq_true rfl, Nat.le_of_ble_eq_true rfl⟩ dX5_askAll_66 (fun x_66 τ_66 H locs hp_66 hw hS => ?_)
          obtain ⟨ex_66, hτ_66⟩ := hp_66
          rw [hτ_66] at hw
          have g_66 := cls_num (j := 1) ht hc1 hc2 c_44 (by decide)
          obtain rfl : x_66 = nI (num (rdF (σ 9 0) t).2 (p * 5 + 1)) := by rw [ex_66, h3]; exact g_66.1
          refine lv_aload_n hx hb dX5_askAll_69 rfl (lv_at hl 0 rfl) ?_
          refine gf_X5_text hx hb hE hw (Nat.zero_lt_one) hown (hts (.fieldLink RX5 33 "ZonedLight" "text" "LZonedLight$PictureText;") (by decide +kernel)) dX5_askAll_70 ?_
          refine lv_iload_n hx hb dX5_askAll_73 rfl (lv_at hl 1 rfl) ?_
          refine lv_iconst (v := nI 2) hx hb dX5_askAll_74 (by decide) ?_
          refine g_Vi (n := 2) (As := [.int (nI p), .int (nI 2)]) (rest := [.int (nI (num (rdF (σ 9 0) t).2 (p * 5 + 1))), .int (nI (num (rdF (σ 9 0) t).2 (p * 5))), .ref (G.1 0 0)]) hx hb hml hown hts hE hw hS gX5_askAll_X1_number (c_X1_number l G A _ p 2 (by omega) (by omega)) rfl (by decide +kernel) ⟨Nat.le_of_ble_eq_true rfl, Nat.le_of_ble_eq_true rfl⟩ (Nat.zero_lt_one) rfl rfl rfl rfl hl.1 rfl (Nat.le_of_ble_eq_true rfl) ⟨Nat.le_of_ble_eq_true rfl, Nat.le_of_ble_eq_true rfl⟩ dX5_askAll_75 (fun x_75 τ_75 H locs hp_75 hw hS => ?_)
          obtain ⟨ex_75, hτ_75⟩ := hp_75
          rw [hτ_75] at hw
          have g_75 := cls_num (j := 2) ht hc1 hc2 c_44 (by decide)
          obtain rfl : x_75 = nI (num (rdF (σ 9 0) t).2 (p * 5 + 2)) := by rw [ex_75, h3]; exact g_75.1
          refine lv_aload_n hx hb dX5_askAll_78 rfl (lv_at hl 0 rfl) ?_
          refine gf_X5_text hx hb hE hw (Nat.zero_lt_one) hown (hts (.fieldLink RX5 33 "ZonedLight" "text" "LZonedLight$PictureText;") (by decide +kernel)) dX5_askAll_79 ?_
          refine lv_iload_n hx hb dX5_askAll_82 rfl (lv_at hl 1 rfl) ?_
          refine lv_iconst (v := nI 3) hx hb dX5_askAll_83 (by decide) ?_
          refine g_Vi (n := 2) (As := [.int (nI p), .int (nI 3)]) (rest := [.int (nI (num (rdF (σ 9 0) t).2 (p * 5 + 2))), .int (nI (num (rdF (σ 9 0) t).2 (p * 5 + 1))), .int (nI (num (rdF (σ 9 0) t).2 (p * 5))), .ref (G.1 0 0)]) hx hb hml hown hts hE hw hS gX5_askAll_X1_number (c_X1_number l G A _ p 3 (by omega) (by omega)) rfl (by decide +kernel) ⟨Nat.le_of_ble_eq_true rfl, Nat.le_of_ble_eq_true rfl⟩ (Nat.zero_lt_one) rfl rfl rfl rfl hl.1 rfl (Nat.le_of_ble_eq_true rfl) ⟨Nat.le_of_ble_eq_true rfl, Nat.le_of_ble_eq_true rfl⟩ dX5_askAll_84 (fun x_84 τ_84 H locs hp_84 hw hS => ?_)
          obtain ⟨ex_84, hτ_84⟩ := hp_84
          rw [hτ_84] at hw
          have g_84 := cls_num (j := 3) ht hc1 hc2 c_44 (by decide)
          obtain rfl : x_84 = nI (num (rdF (σ 9 0) t).2 (p * 5 + 3)) := by rw [ex_84, h3]; exact g_84.1
          refine lv_aload_n hx hb dX5_askAll_87 rfl (lv_at hl 0 rfl) ?_
          refine gf_X5_text hx hb hE hw (Nat.zero_lt_one) hown (hts (.fieldLink RX5 33 "ZonedLight" "text" "LZonedLight$PictureText;") (by decide +kernel)) dX5_askAll_88 ?_
          refine lv_iload_n hx hb dX5_askAll_91 rfl (lv_at hl 1 rfl) ?_
          refine lv_iconst (v := nI 4) hx hb dX5_askAll_92 (by decide) ?_
          refine g_Vi (n := 2) (As := [.int (nI p), .int (nI 4)]) (rest := [.int (nI (num (rdF (σ 9 0) t).2 (p * 5 + 3))), .int (nI (num (rdF (σ 9 0) t).2 (p * 5 + 2))), .int (nI (num (rdF (σ 9 0) t).2 (p * 5 + 1))), .int (nI (num (rdF (σ 9 0) t).2 (p * 5))), .ref (G.1 0 0)]) hx hb hml hown hts hE hw hS gX5_askAll_X1_number (c_X1_number l G A _ p 4 (by omega) (by omega)) rfl (by decide +kernel) ⟨Nat.le_of_ble_eq_true rfl, Nat.le_of_ble_eq_true rfl⟩ (Nat.zero_lt_one) rfl rfl rfl rfl hl.1 rfl (Nat.le_of_ble_eq_true rfl) ⟨Nat.le_of_ble_eq_true rfl, Nat.le_of_ble_eq_true rfl⟩ dX5_askAll_93 (fun x_93 τ_93 H locs hp_93 hw hS => ?_)
          obtain ⟨ex_93, hτ_93⟩ := hp_93
          rw [hτ_93] at hw
          have g_93 := cls_num (j := 4) ht hc1 hc2 c_44 (by decide)
          have e_93 : x_93 = (rdF (σ 9 0) t).2.getD (p * 5 + 4) 0 := by rw [ex_93, h3]; exact hc2 _ (by omega)
          refine g_Vv (n := 5) (As := [.int (nI (num (rdF (σ 9 0) t).2 (p * 5))), .int (nI (num (rdF (σ 9 0) t).2 (p * 5 + 1))), .int (nI (num (rdF (σ 9 0) t).2 (p * 5 + 2))), .int (nI (num (rdF (σ 9 0) t).2 (p * 5 + 3))), .int x_93]) (rest := []) hx hb hml hown hts hE hw hS gX5_askAll_X3_paint (c_X3_paint l G A _ 0 (num (rdF (σ 9 0) t).2 (p * 5)) (num (rdF (σ 9 0) t).2 (p * 5 + 1)) (num (rdF (σ 9 0) t).2 (p * 5 + 2)) (num (rdF (σ 9 0) t).2 (p * 5 + 3)) x_93 (by omega) (Nat.lt_succ_of_le g_57.2) (Nat.lt_succ_of_le g_66.2) g_75.2 g_84.2) rfl (by decide +kernel) ⟨Nat.le_of_ble_eq_true rfl, Nat.le_of_ble_eq_true rfl⟩ (by decide) rfl rfl rfl rfl hl.1 rfl (Nat.le_of_ble_eq_true rfl) ⟨Nat.le_of_ble_eq_true rfl, Nat.le_of_ble_eq_true rfl⟩ dX5_askAll_96 (fun τ_96 H locs hp_96 hw hS => ?_)
          refine lv_iinc (v := nI (p + 1)) (lv' := [(2, .int (nI (p + 1))), (0, .ref (G.1 5 0))]) hx hb dX5_askAll_99 hl (k := 1) rfl (nI_add _ _) (by decide) rfl (fun ls hl => ?_)
          refine lv_goto (tgt := 36) hx hb dX5_askAll_102 (by decide) ?_
          exact K_36 (p + 1) _ (by first | omega | assumption | rfl) (by rw [hp_96]; exact h1.ur (Or.inr ⟨by decide, rfl⟩) (by decide)) (by rw [hp_96, scr_pic, h2, e_93]; exact cls_paint h2) (by rw [hp_96, ur_k (by decide), h3]) (by rw [hp_96, ur_k (by decide), h4]) (by rw [hp_96, ur_k (by decide), h5]) (by omega) _ _ _ hw hS (lv_sub hl [1, 0] rfl)
    exact K_36 (cnt / 5 - 0 + 1) 0 _ (by first | omega | assumption | rfl) (by rw [hp_31]; exact sameC.rf.ur (Or.inl (by unfold scrC; decide)) (by decide)) (by rw [hp_31, scr_ur (by decide), know]; exact putA_self.symm) (by rw [hp_31, ur_k (by decide), k10]) (by rw [hp_31, ur_k (by decide), k8]) (by rw [hp_31, ur_same]) (Nat.lt_succ_self _) _ _ _ hw hS (lv_sub hl [2, 0] rfl)
  · have hc8 : ¬ (rdF (σ 9 0) t).1 = -5 := by rw [← hr1]; exact c_11
    refine lv_bipush (v := (-100)) hx hb dX5_askAll_14 (by decide) ?_
    refine lv_iload_n hx hb dX5_askAll_16 rfl (lv_at hl 0 rfl) ?_
    refine lv_isub hx hb dX5_askAll_17 ?_
    refine lv_topi (fun x_17 ex_17 => ?_)
    refine g_iret hx hb hr hlk hE hw hS dX5_askAll_18 ?_
    exact Or.inl ⟨_, if_neg hc8, by rw [ex_17, hr1], hkp⟩
