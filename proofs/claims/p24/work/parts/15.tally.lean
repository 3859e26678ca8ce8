/-! CONTRACTS, laid by program -/
set_option maxHeartbeats 4000000 in
set_option maxRecDepth 100000 in
/-- ZonedLight$Screen.paint(IIIII)V -/
theorem c_X3_paint (l : Launch) (G : GG) (A : Nat → Prop) (σ : St) (s : Nat) (L : Nat) (T : Nat) (w : Nat) (h : Nat) (b : Int32) (hs : s < 7) (hL : L < 24) (hT : T < 12) (hw1 : w ≤ 24) (hh1 : h ≤ 12) : MV l yX3_paint wsX3_paint 1 21 G A σ [.ref (G.1 0 s), .int (nI L), .int (nI T), .int (nI w), .int (nI h), .int b] (fun τ => τ = ur σ 1 s (paintK (σ 1 s) L T w h b 288)) := by
  refine MV.on (by decide) rfl (Nat.le_of_ble_eq_true rfl) (fun pP eE sS mM args below meth cC ls hx hb hml hr hown hlk hts hE hw hS hl => ?_)
  have hl : lv_has ls 10 [(0, .ref (G.1 0 s)), (1, .int (nI L)), (2, .int (nI T)), (3, .int (nI w)), (4, .int (nI h)), (5, .int b)] := hl
  refine lv_bipush (v := nI 24) hx hb dX3_paint_0 (by decide) ?_
  refine lv_iload_n hx hb dX3_paint_2 rfl (lv_at hl 1 rfl) ?_
  refine lv_iload_n hx hb dX3_paint_3 rfl (lv_at hl 3 rfl) ?_
  refine n_iadd hx hb dX3_paint_4 ?_
  refine g_min hx hb (hml.trans hl.1.symm) hE hown (hts (.methodLink RX3 44 Lib.Math.min.name) (by decide +kernel)) ⟨Nat.le_of_ble_eq_true rfl, Nat.le_of_ble_eq_true rfl⟩ ⟨Nat.le_of_ble_eq_true rfl, Nat.le_of_ble_eq_true rfl⟩ dX3_paint_5 ?_
  refine lv_topi (fun x_5 ex_5 => ?_)
  obtain rfl : x_5 = nI (minN 24 (L + w)) := by rw [ex_5]; exact imin_nI (by decide) (by omega)
  refine lv_istore (lv' := [(6, .int (nI (minN 24 (L + w)))), (0, .ref (G.1 0 s)), (1, .int (nI L)), (2, .int (nI T)), (3, .int (nI w)), (4, .int (nI h)), (5, .int b)]) hx hb dX3_paint_8 hl (by decide) rfl (fun ls hl => ?_)
  refine lv_bipush (v := nI 12) hx hb dX3_paint_10 (by decide) ?_
  refine lv_iload_n hx hb dX3_paint_12 rfl (lv_at hl 3 rfl) ?_
  refine lv_iload hx hb dX3_paint_13 (lv_at hl 5 rfl) ?_
  refine n_iadd hx hb dX3_paint_15 ?_
  refine g_min hx hb (hml.trans hl.1.symm) hE hown (hts (.methodLink RX3 44 Lib.Math.min.name) (by decide +kernel)) ⟨Nat.le_of_ble_eq_true rfl, Nat.le_of_ble_eq_true rfl⟩ ⟨Nat.le_of_ble_eq_true rfl, Nat.le_of_ble_eq_true rfl⟩ dX3_paint_16 ?_
  refine lv_topi (fun x_16 ex_16 => ?_)
  obtain rfl : x_16 = nI (minN 12 (T + h)) := by rw [ex_16]; exact imin_nI (by decide) (by omega)
  refine lv_istore (lv' := [(7, .int (nI (minN 12 (T + h)))), (6, .int (nI (minN 24 (L + w)))), (0, .ref (G.1 0 s)), (1, .int (nI L)), (2, .int (nI T)), (3, .int (nI w)), (4, .int (nI h)), (5, .int b)]) hx hb dX3_paint_19 hl (by decide) rfl (fun ls hl => ?_)
  refine lv_iconst (v := nI 0) hx hb dX3_paint_21 (by decide) ?_
  refine lv_iload_n hx hb dX3_paint_22 rfl (lv_at hl 4 rfl) ?_
  refine g_max hx hb (hml.trans hl.1.symm) hE hown (hts (.methodLink RX3 50 Lib.Math.max.name) (by decide +kernel)) ⟨Nat.le_of_ble_eq_true rfl, Nat.le_of_ble_eq_true rfl⟩ ⟨Nat.le_of_ble_eq_true rfl, Nat.le_of_ble_eq_true rfl⟩ dX3_paint_23 ?_
  refine lv_topi (fun x_23 ex_23 => ?_)
  obtain rfl : x_23 = nI (T) := by rw [ex_23]; exact (imax_nI (a := 0) (by decide) (by omega)).trans (by rw [maxN_zero])
  refine lv_istore (lv' := [(8, .int (nI T)), (7, .int (nI (minN 12 (T + h)))), (6, .int (nI (minN 24 (L + w)))), (0, .ref (G.1 0 s)), (1, .int (nI L)), (2, .int (nI T)), (3, .int (nI w)), (4, .int (nI h)), (5, .int b)]) hx hb dX3_paint_26 hl (by decide) rfl (fun ls hl => ?_)
  have K_28 : ∀ (fuel : Nat) (y : Nat) (σ2 : St), (T ≤ y) → (y ≤ 12) → (σ2 = ur σ 1 s (paintK (σ 1 s) L T w h b (24 * y))) → 12 - y < fuel → ∀ (H : Heap) (locs : List Loc) (ls : Array Slot), Wcel G σ2 H → va_S A sS.heap H locs → lv_has ls 10 [(0, .ref (G.1 0 s)), (1, .int (nI L)), (5, .int b), (6, .int (nI (minN 24 (L + w)))), (7, .int (nI (minN 12 (T + h)))), (8, .int (nI y))] → W pP l eE { frames := 1, cells := 0, slots := 0, locals := 21 } sS mM args below meth cC H locs 0 0 (MQ below (va_Qv (fun τ => τ = ur σ 1 s (paintK (σ 1 s) L T w h b 288)) (fun τ t => gP G A τ t) A) args sS 0 0 A) (F0 mM 28 ls []) := by
    intro fuel
    induction fuel with
    | zero =>
      intro y σ2 hy1 hy2 h2 hfu
      exact absurd hfu (Nat.not_lt_zero _)
    | succ fuel K_28 =>
      intro y σ2 hy1 hy2 h2 hfu H locs ls hw hS hl
      subst h2
      refine lv_iload hx hb dX3_paint_28 (lv_at hl 5 rfl) ?_
      refine lv_iload hx hb dX3_paint_30 (lv_at hl 4 rfl) ?_
      refine n_cmp_ge (tgt := 75) hx hb dX3_paint_32 (by decide) (by omega) (minN_small _ _ (by decide)) (fun c_32 => ?_) (fun c_32 => ?_)
      · refine g_vret hx hb hr hlk hE hw hS dX3_paint_75 ?_
        rw [paint_last hy2 c_32]
      · refine lv_iconst (v := nI 0) hx hb dX3_paint_35 (by decide) ?_
        refine lv_iload_n hx hb dX3_paint_36 rfl (lv_at hl 1 rfl) ?_
        refine g_max hx hb (hml.trans hl.1.symm) hE hown (hts (.methodLink RX3 50 Lib.Math.max.name) (by decide +kernel)) ⟨Nat.le_of_ble_eq_true rfl, Nat.le_of_ble_eq_true rfl⟩ ⟨Nat.le_of_ble_eq_true rfl, Nat.le_of_ble_eq_true rfl⟩ dX3_paint_37 ?_
        refine lv_topi (fun x_37 ex_37 => ?_)
        obtain rfl : x_37 = nI (L) := by rw [ex_37]; exact (imax_nI (a := 0) (by decide) (by omega)).trans (by rw [maxN_zero])
        refine lv_istore (lv' := [(9, .int (nI L)), (0, .ref (G.1 0 s)), (1, .int (nI L)), (5, .int b), (6, .int (nI (minN 24 (L + w)))), (7, .int (nI (minN 12 (T + h)))), (8, .int (nI y))]) hx hb dX3_paint_40 hl (by decide) rfl (fun ls hl => ?_)
        have K_42 : ∀ (fuel : Nat) (x : Nat) (σ2 : St), (L ≤ x) → (x ≤ 24) → (σ2 = ur σ 1 s (paintK (σ 1 s) L T w h b (24 * y + x))) → 24 - x < fuel → ∀ (H : Heap) (locs : List Loc) (ls : Array Slot), Wcel G σ2 H → va_S A sS.heap H locs → lv_has ls 10 [(0, .ref (G.1 0 s)), (1, .int (nI L)), (5, .int b), (6, .int (nI (minN 24 (L + w)))), (7, .int (nI (minN 12 (T + h)))), (8, .int (nI y)), (9, .int (nI x))] → W pP l eE { frames := 1, cells := 0, slots := 0, locals := 21 } sS mM args below meth cC H locs 0 0 (MQ below (va_Qv (fun τ => τ = ur σ 1 s (paintK (σ 1 s) L T w h b 288)) (fun τ t => gP G A τ t) A) args sS 0 0 A) (F0 mM 42 ls []) := by
          intro fuel
          induction fuel with
          | zero =>
            intro x σ2 hx1 hx2 h2 hfu
            exact absurd hfu (Nat.not_lt_zero _)
          | succ fuel K_42 =>
            intro x σ2 hx1 hx2 h2 hfu H locs ls hw hS hl
            subst h2
            refine lv_iload hx hb dX3_paint_42 (lv_at hl 6 rfl) ?_
            refine lv_iload hx hb dX3_paint_44 (lv_at hl 3 rfl) ?_
            refine n_cmp_ge (tgt := 69) hx hb dX3_paint_46 (by decide) (by omega) (minN_small _ _ (by decide)) (fun c_46 => ?_) (fun c_46 => ?_)
            · refine lv_iinc (v := nI (y + 1)) (lv' := [(8, .int (nI (y + 1))), (0, .ref (G.1 0 s)), (1, .int (nI L)), (5, .int b), (6, .int (nI (minN 24 (L + w)))), (7, .int (nI (minN 12 (T + h)))), (9, .int (nI x))]) hx hb dX3_paint_69 hl (k := 5) rfl (nI_add _ _) (by decide) rfl (fun ls hl => ?_)
              refine lv_goto (tgt := 28) hx hb dX3_paint_72 (by decide) ?_
              exact K_28 (y + 1) _ (by first | omega | assumption | rfl) (by have := minN_lt.mp c_32; omega) (by rw [paint_row1 hx2 c_46]) (by have := minN_lt.mp c_32; omega) _ _ _ hw hS (lv_sub hl [1, 2, 3, 4, 5, 0] rfl)
            · refine lv_aload_n hx hb dX3_paint_49 rfl (lv_at hl 0 rfl) ?_
              refine gf_X3_asked hx hb hE hw (show s < 7 by omega) hown (hts (.fieldLink RX3 9 "ZonedLight$Screen" "asked" "[I") (by decide +kernel)) dX3_paint_50 ?_
              refine lv_iload hx hb dX3_paint_53 (lv_at hl 6 rfl) ?_
              refine lv_iload hx hb dX3_paint_55 (lv_at hl 5 rfl) ?_
              refine g_SNi (n := 2) (As := [.int (nI x), .int (nI y)]) (rest := [.ref (G.1 1 s)]) hx hb hml hown hts hE hw hS gX3_paint_X5_spotAt_n53 (host := "ZonedLight") (by decide +kernel) (hts (.initialized RX5) (by decide +kernel)) (hts (.static yX5_spotAt) (by decide +kernel)) (c_X5_spotAt l G A _ x y) rfl (by decide +kernel) ⟨Nat.le_of_ble_eq_true rfl, Nat.le_of_ble_eq_true rfl⟩ rfl hl.1 rfl (Nat.le_of_ble_eq_true rfl) ⟨Nat.le_of_ble_eq_true rfl, Nat.le_of_ble_eq_true rfl⟩ dX3_paint_57 (fun r_57 τ_57 H locs hp_57 hw hS => ?_)
              obtain ⟨rfl, hτ_57⟩ := hp_57
              rw [hτ_57] at hw
              refine lv_iload hx hb dX3_paint_60 (lv_at hl 2 rfl) ?_
              refine g_ast hx hb hE hw hS (n := 288) (show s < 7 by omega) (by decide) (fun _ => rfl) rfl (by decide) (by have := minN_lt.mp c_32; have := minN_lt.mp c_46; omega) dX3_paint_62 (fun H locs hw hS => ?_)
              refine lv_iinc (v := nI (x + 1)) (lv' := [(9, .int (nI (x + 1))), (0, .ref (G.1 0 s)), (1, .int (nI L)), (5, .int b), (6, .int (nI (minN 24 (L + w)))), (7, .int (nI (minN 12 (T + h)))), (8, .int (nI y))]) hx hb dX3_paint_63 hl (k := 6) rfl (nI_add _ _) (by decide) rfl (fun ls hl => ?_)
              refine lv_goto (tgt := 42) hx hb dX3_paint_66 (by decide) ?_
              exact K_42 (x + 1) _ (by first | omega | assumption | rfl) (by have := minN_lt.mp c_46; omega) (by rw [us_ur, paint_put (by have := minN_lt.mp c_46; omega) hy1 (minN_lt.mp c_32).2 hx1 (minN_lt.mp c_46).2]) (by have := minN_lt.mp c_46; omega) _ _ _ hw hS (lv_sub hl [1, 2, 3, 4, 5, 6, 0] rfl)
        exact K_42 (24 - L + 1) L _ (by first | omega | assumption | rfl) (by first | omega | assumption | rfl) (by rw [paint_row0 hL]) (Nat.lt_succ_self _) _ _ _ hw hS (lv_sub hl [1, 2, 3, 4, 5, 6, 0] rfl)
  exact K_28 (12 - T + 1) T _ (by first | omega | assumption | rfl) (by first | omega | assumption | rfl) (by rw [← paint_first, ur_self rfl]) (Nat.lt_succ_self _) _ _ _ hw hS (lv_sub hl [3, 4, 8, 2, 1, 0] rfl)
set_option maxHeartbeats 4000000 in
set_option maxRecDepth 100000 in
/-- ZonedLight$Screen.takeShifted([III)V -/
theorem c_X3_takeShifted (l : Launch) (G : GG) (A : Nat → Prop) (σ : St) (s : Nat) (fx : Int32) (fy : Int32) (hs : s < 7) : MV l yX3_takeShifted wsX3_takeShifted 1 21 G A σ [.ref (G.1 0 s), .ref (G.1 15 0), .int fx, .int fy] (fun τ => τ = ur σ 1 s (shK (σ 1 s) (σ 15 0) fx fy 288)) := by
  refine MV.on (by decide) rfl (Nat.le_of_ble_eq_true rfl) (fun pP eE sS mM args below meth cC ls hx hb hml hr hown hlk hts hE hw hS hl => ?_)
  have hl : lv_has ls 7 [(0, .ref (G.1 0 s)), (1, .ref (G.1 15 0)), (2, .int fx), (3, .int fy)] := hl
  refine lv_iconst (v := nI 0) hx hb dX3_takeShifted_0 (by decide) ?_
  refine lv_istore (lv' := [(4, .int (nI 0)), (0, .ref (G.1 0 s)), (1, .ref (G.1 15 0)), (2, .int fx), (3, .int fy)]) hx hb dX3_takeShifted_1 hl (by decide) rfl (fun ls hl => ?_)
  have K_3 : ∀ (fuel : Nat) (y : Nat) (σ2 : St), (y ≤ 12) → (σ2 = ur σ 1 s (shK (σ 1 s) (σ 15 0) fx fy (24 * y))) → 12 - y < fuel → ∀ (H : Heap) (locs : List Loc) (ls : Array Slot), Wcel G σ2 H → va_S A sS.heap H locs → lv_has ls 7 [(0, .ref (G.1 0 s)), (1, .ref (G.1 15 0)), (2, .int fx), (3, .int fy), (4, .int (nI y))] → W pP l eE { frames := 1, cells := 0, slots := 0, locals := 21 } sS mM args below meth cC H locs 0 0 (MQ below (va_Qv (fun τ => τ = ur σ 1 s (shK (σ 1 s) (σ 15 0) fx fy 288)) (fun τ t => gP G A τ t) A) args sS 0 0 A) (F0 mM 3 ls []) := by
    intro fuel
    induction fuel with
    | zero =>
      intro y σ2 hy2 h2 hfu
      exact absurd hfu (Nat.not_lt_zero _)
    | succ fuel K_3 =>
      intro y σ2 hy2 h2 hfu H locs ls hw hS hl
      subst h2
      refine lv_iload hx hb dX3_takeShifted_3 (lv_at hl 4 rfl) ?_
      refine lv_bipush (v := nI 12) hx hb dX3_takeShifted_5 (by decide) ?_
      refine n_cmp_ge (tgt := 79) hx hb dX3_takeShifted_7 (by decide) (by omega) (by omega) (fun c_7 => ?_) (fun c_7 => ?_)
      · refine g_vret hx hb hr hlk hE hw hS dX3_takeShifted_79 ?_
        rw [show y = 12 by omega]
      · refine lv_iconst (v := nI 0) hx hb dX3_takeShifted_10 (by decide) ?_
        refine lv_istore (lv' := [(5, .int (nI 0)), (0, .ref (G.1 0 s)), (1, .ref (G.1 15 0)), (2, .int fx), (3, .int fy), (4, .int (nI y))]) hx hb dX3_takeShifted_11 hl (by decide) rfl (fun ls hl => ?_)
        have K_13 : ∀ (fuel : Nat) (x : Nat) (σ2 : St), (x ≤ 24) → (σ2 = ur σ 1 s (shK (σ 1 s) (σ 15 0) fx fy (24 * y + x))) → 24 - x < fuel → ∀ (H : Heap) (locs : List Loc) (ls : Array Slot), Wcel G σ2 H → va_S A sS.heap H locs → lv_has ls 7 [(0, .ref (G.1 0 s)), (1, .ref (G.1 15 0)), (2, .int fx), (3, .int fy), (4, .int (nI y)), (5, .int (nI x))] → W pP l eE { frames := 1, cells := 0, slots := 0, locals := 21 } sS mM args below meth cC H locs 0 0 (MQ below (va_Qv (fun τ => τ = ur σ 1 s (shK (σ 1 s) (σ 15 0) fx fy 288)) (fun τ t => gP G A τ t) A) args sS 0 0 A) (F0 mM 13 ls []) := by
          intro fuel
          induction fuel with
          | zero =>
            intro x σ2 hx2 h2 hfu
            exact absurd hfu (Nat.not_lt_zero _)
          | succ fuel K_13 =>
            intro x σ2 hx2 h2 hfu H locs ls hw hS hl
            subst h2
            refine lv_iload hx hb dX3_takeShifted_13 (lv_at hl 5 rfl) ?_
            refine lv_bipush (v := nI 24) hx hb dX3_takeShifted_15 (by decide) ?_
            refine n_cmp_ge (tgt := 73) hx hb dX3_takeShifted_17 (by decide) (by omega) (by omega) (fun c_17 => ?_) (fun c_17 => ?_)
            · refine lv_iinc (v := nI (y + 1)) (lv' := [(4, .int (nI (y + 1))), (0, .ref (G.1 0 s)), (1, .ref (G.1 15 0)), (2, .int fx), (3, .int fy), (5, .int (nI x))]) hx hb dX3_takeShifted_73 hl (k := 4) rfl (nI_add _ _) (by decide) rfl (fun ls hl => ?_)
              refine lv_goto (tgt := 3) hx hb dX3_takeShifted_76 (by decide) ?_
              exact K_3 (y + 1) _ (by first | omega | assumption | rfl) (by rw [show x = 24 by omega]; rfl) (by omega) _ _ _ hw hS (lv_sub hl [1, 2, 3, 4, 0] rfl)
            · refine lv_iload hx hb dX3_takeShifted_20 (lv_at hl 5 rfl) ?_
              refine lv_iload_n hx hb dX3_takeShifted_22 rfl (lv_at hl 2 rfl) ?_
              refine lv_iadd hx hb dX3_takeShifted_23 ?_
              refine lv_topi (fun x_23 ex_23 => ?_)
              refine lv_iload hx hb dX3_takeShifted_24 (lv_at hl 4 rfl) ?_
              refine lv_iload_n hx hb dX3_takeShifted_26 rfl (lv_at hl 3 rfl) ?_
              refine lv_iadd hx hb dX3_takeShifted_27 ?_
              refine lv_topi (fun x_27 ex_27 => ?_)
              refine g_SNi (n := 2) (As := [.int x_23, .int x_27]) (rest := []) hx hb hml hown hts hE hw hS gX3_takeShifted_X5_onScreen_n56 (host := "ZonedLight") (by decide +kernel) (hts (.initialized RX5) (by decide +kernel)) (hts (.static yX5_onScreen) (by decide +kernel)) (c_X5_onScreen l G A _ x_23 x_27) rfl (by decide +kernel) ⟨Nat.le_of_ble_eq_true rfl, Nat.le_of_ble_eq_true rfl⟩ rfl hl.1 rfl (Nat.le_of_ble_eq_true rfl) ⟨Nat.le_of_ble_eq_true rfl, Nat.le_of_ble_eq_true rfl⟩ dX3_takeShifted_28 (fun x_28 τ_28 H locs hp_28 hw hS => ?_)
              obtain ⟨hb_28, hτ_28⟩ := hp_28
              rw [hτ_28] at hw
              refine lv_istore (lv' := [(6, .int x_28), (0, .ref (G.1 0 s)), (1, .ref (G.1 15 0)), (2, .int fx), (3, .int fy), (4, .int (nI y)), (5, .int (nI x))]) hx hb dX3_takeShifted_31 hl (by decide) rfl (fun ls hl => ?_)
              refine lv_aload_n hx hb dX3_takeShifted_33 rfl (lv_at hl 1 rfl) ?_
              refine gf_X3_asked hx hb hE hw (show s < 7 by omega) hown (hts (.fieldLink RX3 9 "ZonedLight$Screen" "asked" "[I") (by decide +kernel)) dX3_takeShifted_34 ?_
              refine lv_iload hx hb dX3_takeShifted_37 (lv_at hl 6 rfl) ?_
              refine lv_iload hx hb dX3_takeShifted_39 (lv_at hl 5 rfl) ?_
              refine g_SNi (n := 2) (As := [.int (nI x), .int (nI y)]) (rest := [.ref (G.1 1 s)]) hx hb hml hown hts hE hw hS gX3_takeShifted_X5_spotAt_n53 (host := "ZonedLight") (by decide +kernel) (hts (.initialized RX5) (by decide +kernel)) (hts (.static yX5_spotAt) (by decide +kernel)) (c_X5_spotAt l G A _ x y) rfl (by decide +kernel) ⟨Nat.le_of_ble_eq_true rfl, Nat.le_of_ble_eq_true rfl⟩ rfl hl.1 rfl (Nat.le_of_ble_eq_true rfl) ⟨Nat.le_of_ble_eq_true rfl, Nat.le_of_ble_eq_true rfl⟩ dX3_takeShifted_41 (fun r_41 τ_41 H locs hp_41 hw hS => ?_)
              obtain ⟨rfl, hτ_41⟩ := hp_41
              rw [hτ_41] at hw
              refine lv_iload hx hb dX3_takeShifted_44 (lv_at hl 0 rfl) ?_
              refine lv_if_eq (tgt := 65) hx hb dX3_takeShifted_46 (by decide) (fun c_46 => ?_) (fun c_46 => ?_)
              · have hnon : ¬ onP (nI x + fx) (nI y + fy) := by rw [← ex_23, ← ex_27]; exact bP_f hb_28 c_46
                refine lv_iconst (v := nI 0) hx hb dX3_takeShifted_65 (by decide) ?_
                refine g_ast hx hb hE hw hS (n := 288) (show s < 7 by omega) (by decide) (fun _ => rfl) rfl (by decide) (by omega) dX3_takeShifted_66 (fun H locs hw hS => ?_)
                refine lv_iinc (v := nI (x + 1)) (lv' := [(5, .int (nI (x + 1))), (6, .int x_28), (0, .ref (G.1 0 s)), (1, .ref (G.1 15 0)), (2, .int fx), (3, .int fy), (4, .int (nI y))]) hx hb dX3_takeShifted_67 hl (k := 6) rfl (nI_add _ _) (by decide) rfl (fun ls hl => ?_)
                refine lv_goto (tgt := 13) hx hb dX3_takeShifted_70 (by decide) ?_
                exact K_13 (x + 1) _ (by first | omega | assumption | rfl) (by first | (rw [us_ur, shK_put (by omega) (by rw [shV_at c_17, if_pos (onB_iff.mpr honp), eX, eY, ex_61, ur_k (by decide), nI_clamp (by omega), nI_clamp (by omega)])]; rfl) | (rw [us_ur, shK_put (by omega) (by rw [shV_at c_17, if_neg (fun q => hnon (onB_iff.mp q))]; rfl)]; rfl)) (by omega) _ _ _ hw hS (lv_sub hl [2, 3, 4, 5, 6, 0] rfl)
              · have honp : onP (nI x + fx) (nI y + fy) := by rw [← ex_23, ← ex_27]; exact bP_t hb_28 c_46
                have honp2 := honp
                obtain ⟨⟨X, hX, eX⟩, ⟨Y, hY, eY⟩⟩ := honp2
                refine lv_aload_n hx hb dX3_takeShifted_49 rfl (lv_at hl 2 rfl) ?_
                refine lv_iload hx hb dX3_takeShifted_50 (lv_at hl 6 rfl) ?_
                refine lv_iload_n hx hb dX3_takeShifted_52 rfl (lv_at hl 3 rfl) ?_
                refine lv_iadd hx hb dX3_takeShifted_53 ?_
                refine lv_topi (fun x_53 ex_53 => ?_)
                obtain rfl : x_53 = nI X := by rw [ex_53, eX]
                refine lv_iload hx hb dX3_takeShifted_54 (lv_at hl 5 rfl) ?_
                refine lv_iload_n hx hb dX3_takeShifted_56 rfl (lv_at hl 4 rfl) ?_
                refine lv_iadd hx hb dX3_takeShifted_57 ?_
                refine lv_topi (fun x_57 ex_57 => ?_)
                obtain rfl : x_57 = nI Y := by rw [ex_57, eY]
                refine g_SNi (n := 2) (As := [.int (nI X), .int (nI Y)]) (rest := [.ref (G.1 15 0), .int (nI (y * 24 + x)), .ref (G.1 1 s)]) hx hb hml hown hts hE hw hS gX3_takeShifted_X5_spotAt_n53 (host := "ZonedLight") (by decide +kernel) (hts (.initialized RX5) (by decide +kernel)) (hts (.static yX5_spotAt) (by decide +kernel)) (c_X5_spotAt l G A _ X Y) rfl (by decide +kernel) ⟨Nat.le_of_ble_eq_true rfl, Nat.le_of_ble_eq_true rfl⟩ rfl hl.1 rfl (Nat.le_of_ble_eq_true rfl) ⟨Nat.le_of_ble_eq_true rfl, Nat.le_of_ble_eq_true rfl⟩ dX3_takeShifted_58 (fun r_58 τ_58 H locs hp_58 hw hS => ?_)
                obtain ⟨rfl, hτ_58⟩ := hp_58
                rw [hτ_58] at hw
                refine g_ald hx hb hE hw (n := 288) (Nat.zero_lt_one) rfl (by decide) (by omega) dX3_takeShifted_61 ?_
                refine lv_topi (fun x_61 ex_61 => ?_)
                refine lv_goto (tgt := 66) hx hb dX3_takeShifted_62 (by decide) ?_
                refine g_ast hx hb hE hw hS (n := 288) (show s < 7 by omega) (by decide) (fun _ => rfl) rfl (by decide) (by omega) dX3_takeShifted_66 (fun H locs hw hS => ?_)
                refine lv_iinc (v := nI (x + 1)) (lv' := [(5, .int (nI (x + 1))), (6, .int x_28), (0, .ref (G.1 0 s)), (1, .ref (G.1 15 0)), (2, .int fx), (3, .int fy), (4, .int (nI y))]) hx hb dX3_takeShifted_67 hl (k := 6) rfl (nI_add _ _) (by decide) rfl (fun ls hl => ?_)
                refine lv_goto (tgt := 13) hx hb dX3_takeShifted_70 (by decide) ?_
                exact K_13 (x + 1) _ (by first | omega | assumption | rfl) (by first | (rw [us_ur, shK_put (by omega) (by rw [shV_at c_17, if_pos (onB_iff.mpr honp), eX, eY, ex_61, ur_k (by decide), nI_clamp (by omega), nI_clamp (by omega)])]; rfl) | (rw [us_ur, shK_put (by omega) (by rw [shV_at c_17, if_neg (fun q => hnon (onB_iff.mp q))]; rfl)]; rfl)) (by omega) _ _ _ hw hS (lv_sub hl [2, 3, 4, 5, 6, 0] rfl)
        exact K_13 (24 - 0 + 1) 0 _ (by first | omega | assumption | rfl) rfl (Nat.lt_succ_self _) _ _ _ hw hS (lv_sub hl [1, 2, 3, 4, 5, 0] rfl)
  exact K_3 (12 - 0 + 1) 0 _ (by first | omega | assumption | rfl) (by rw [shK_0, ur_self rfl]) (Nat.lt_succ_self _) _ _ _ hw hS (lv_sub hl [1, 2, 3, 4, 0] rfl)
set_option maxHeartbeats 4000000 in
set_option maxRecDepth 100000 in
/-- ZonedLight$Tally.addZone(LZonedLight$Screen;I)V -/
theorem c_X4_addZone (l : Launch) (G : GG) (A : Nat → Prop) (σ : St) (s : Nat) (z : Nat) (hs : s < 7) (hz : z < 18) : MV l yX4_addZone wsX4_addZone 4 90 G A σ [.ref (G.1 14 0), .ref (G.1 0 s), .int (nI z)] (fun τ => τ = ur σ 14 0 (tZ (scr σ s) (levO (scr σ s)) z (σ 14 0) 16)) := by
  refine MV.on (by decide) rfl (Nat.le_of_ble_eq_true rfl) (fun pP eE sS mM args below meth cC ls hx hb hml hr hown hlk hts hE hw hS hl => ?_)
  have hl : lv_has ls 6 [(0, .ref (G.1 14 0)), (1, .ref (G.1 0 s)), (2, .int (nI z))] := hl
  refine lv_aload_n hx hb dX4_addZone_0 rfl (lv_at hl 1 rfl) ?_
  refine lv_iload_n hx hb dX4_addZone_1 rfl (lv_at hl 2 rfl) ?_
  refine g_Vi (n := 1) (As := [.int (nI z)]) (rest := []) hx hb hml hown hts hE hw hS gX4_addZone_X3_light (c_X3_light l G A _ s z (by omega) (by omega)) rfl (by decide +kernel) ⟨Nat.le_of_ble_eq_true rfl, Nat.le_of_ble_eq_true rfl⟩ (show s < 7 by omega) rfl rfl rfl rfl hl.1 rfl (Nat.le_of_ble_eq_true rfl) ⟨Nat.le_of_ble_eq_true rfl, Nat.le_of_ble_eq_true rfl⟩ dX4_addZone_2 (fun x_2 τ_2 H locs hp_2 hw hS => ?_)
  obtain ⟨ex_2, hτ_2⟩ := hp_2
  rw [hτ_2] at hw
  refine lv_istore_n (lv' := [(3, .int x_2), (0, .ref (G.1 14 0)), (1, .ref (G.1 0 s)), (2, .int (nI z))]) hx hb dX4_addZone_5 rfl hl (by decide) rfl (fun ls hl => ?_)
  refine lv_iconst (v := nI 0) hx hb dX4_addZone_6 (by decide) ?_
  refine lv_istore (lv' := [(4, .int (nI 0)), (3, .int x_2), (0, .ref (G.1 14 0)), (1, .ref (G.1 0 s)), (2, .int (nI z))]) hx hb dX4_addZone_7 hl (by decide) rfl (fun ls hl => ?_)
  have K_9 : ∀ (fuel : Nat) (k : Nat) (lt : Int32) (σ2 : St), (k ≤ 16) → (lt = lightF (scr σ s) (levO (scr σ s)) z) → (σ2 = ur σ 14 0 (tZ (scr σ s) (levO (scr σ s)) z (σ 14 0) k)) → 16 - k < fuel → ∀ (H : Heap) (locs : List Loc) (ls : Array Slot), Wcel G σ2 H → va_S A sS.heap H locs → lv_has ls 6 [(0, .ref (G.1 14 0)), (1, .ref (G.1 0 s)), (2, .int (nI z)), (3, .int lt), (4, .int (nI k))] → W pP l eE { frames := 4, cells := 0, slots := 0, locals := 90 } sS mM args below meth cC H locs 0 0 (MQ below (va_Qv (fun τ => τ = ur σ 14 0 (tZ (scr σ s) (levO (scr σ s)) z (σ 14 0) 16)) (fun τ t => gP G A τ t) A) args sS 0 0 A) (F0 mM 9 ls []) := by
    intro fuel
    induction fuel with
    | zero =>
      intro k lt σ2 hk hlt h2 hfu
      exact absurd hfu (Nat.not_lt_zero _)
    | succ fuel K_9 =>
      intro k lt σ2 hk hlt h2 hfu H locs ls hw hS hl
      subst h2
      refine lv_iload hx hb dX4_addZone_9 (lv_at hl 4 rfl) ?_
      refine lv_bipush (v := nI 16) hx hb dX4_addZone_11 (by decide) ?_
      refine n_cmp_ge (tgt := 48) hx hb dX4_addZone_13 (by decide) (by omega) (by omega) (fun c_13 => ?_) (fun c_13 => ?_)
      · refine g_vret hx hb hr hlk hE hw hS dX4_addZone_48 ?_
        rw [show k = 16 by omega]
      · refine lv_aload_n hx hb dX4_addZone_16 rfl (lv_at hl 1 rfl) ?_
        refine gf_X3_asked hx hb hE hw (show s < 7 by omega) hown (hts (.fieldLink RX4 40 "ZonedLight$Screen" "asked" "[I") (by decide +kernel)) dX4_addZone_17 ?_
        refine lv_iload_n hx hb dX4_addZone_20 rfl (lv_at hl 2 rfl) ?_
        refine lv_iload hx hb dX4_addZone_21 (lv_at hl 4 rfl) ?_
        refine g_SNi (n := 2) (As := [.int (nI z), .int (nI k)]) (rest := [.ref (G.1 1 s)]) hx hb hml hown hts hE hw hS gX4_addZone_X5_spotOfZone_n44 (host := "ZonedLight") (by decide +kernel) (hts (.initialized RX5) (by decide +kernel)) (hts (.static yX5_spotOfZone) (by decide +kernel)) (c_X5_spotOfZone l G A _ z k (by omega) (by omega)) rfl (by decide +kernel) ⟨Nat.le_of_ble_eq_true rfl, Nat.le_of_ble_eq_true rfl⟩ rfl hl.1 rfl (Nat.le_of_ble_eq_true rfl) ⟨Nat.le_of_ble_eq_true rfl, Nat.le_of_ble_eq_true rfl⟩ dX4_addZone_23 (fun r_23 τ_23 H locs hp_23 hw hS => ?_)
        obtain ⟨rfl, hτ_23⟩ := hp_23
        rw [hτ_23] at hw
        refine g_ald hx hb hE hw (n := 288) (show s < 7 by omega) rfl (by decide) (spotN_lt hz c_13) dX4_addZone_26 ?_
        refine lv_topi (fun x_26 ex_26 => ?_)
        refine lv_istore (lv' := [(5, .int x_26), (0, .ref (G.1 14 0)), (1, .ref (G.1 0 s)), (2, .int (nI z)), (3, .int lt), (4, .int (nI k))]) hx hb dX4_addZone_27 hl (by decide) rfl (fun ls hl => ?_)
        refine lv_aload_n hx hb dX4_addZone_29 rfl (lv_at hl 1 rfl) ?_
        refine lv_iload hx hb dX4_addZone_30 (lv_at hl 0 rfl) ?_
        refine lv_aload_n hx hb dX4_addZone_32 rfl (lv_at hl 2 rfl) ?_
        refine lv_iload hx hb dX4_addZone_33 (lv_at hl 0 rfl) ?_
        refine lv_iload_n hx hb dX4_addZone_35 rfl (lv_at hl 4 rfl) ?_
        refine g_Vi (n := 2) (As := [.int x_26, .int lt]) (rest := [.int x_26, .ref (G.1 14 0)]) hx hb hml hown hts hE hw hS gX4_addZone_X3_shown (c_X3_shown l G A _ s x_26 lt (by omega)) rfl (by decide +kernel) ⟨Nat.le_of_ble_eq_true rfl, Nat.le_of_ble_eq_true rfl⟩ (show s < 7 by omega) rfl rfl rfl rfl hl.1 rfl (Nat.le_of_ble_eq_true rfl) ⟨Nat.le_of_ble_eq_true rfl, Nat.le_of_ble_eq_true rfl⟩ dX4_addZone_36 (fun x_36 τ_36 H locs hp_36 hw hS => ?_)
        obtain ⟨ex_36, hτ_36⟩ := hp_36
        rw [hτ_36] at hw
        refine g_Vv (n := 2) (As := [.int x_26, .int x_36]) (rest := []) hx hb hml hown hts hE hw hS gX4_addZone_X4_addSpot (c_X4_addSpot l G A _ x_26 x_36) rfl (by decide +kernel) ⟨Nat.le_of_ble_eq_true rfl, Nat.le_of_ble_eq_true rfl⟩ (Nat.zero_lt_one) rfl rfl rfl rfl hl.1 rfl (Nat.le_of_ble_eq_true rfl) ⟨Nat.le_of_ble_eq_true rfl, Nat.le_of_ble_eq_true rfl⟩ dX4_addZone_39 (fun τ_39 H locs hp_39 hw hS => ?_)
        refine lv_iinc (v := nI (k + 1)) (lv' := [(4, .int (nI (k + 1))), (5, .int x_26), (0, .ref (G.1 14 0)), (1, .ref (G.1 0 s)), (2, .int (nI z)), (3, .int lt)]) hx hb dX4_addZone_42 hl (k := 5) rfl (nI_add _ _) (by decide) rfl (fun ls hl => ?_)
        refine lv_goto (tgt := 9) hx hb dX4_addZone_45 (by decide) ?_
        exact K_9 (k + 1) lt _ (by first | omega | assumption | rfl) (by first | omega | assumption | rfl) (by rw [hp_39, ur_same, ur_ur, tZ, ex_36, scr_ur (by decide), hlt, ex_26, ur_k (by decide), ← scr_asked (σ := σ) (s := s) (spotN_lt hz c_13)]; rfl) (by omega) _ _ _ hw hS (lv_sub hl [2, 3, 4, 5, 0] rfl)
  exact K_9 (16 - 0 + 1) 0 x_2 _ (by first | omega | assumption | rfl) ex_2 (ur_self rfl).symm (Nat.lt_succ_self _) _ _ _ hw hS (lv_sub hl [2, 3, 4, 1, 0] rfl)
set_option maxHeartbeats 4000000 in
set_option maxRecDepth 100000 in
/-- ZonedLight$Tally.takeAll(LZonedLight$Screen;)V -/
theorem c_X4_takeAll (l : Launch) (G : GG) (A : Nat → Prop) (σ : St) (s : Nat) (hs : s < 7) : MV l yX4_takeAll wsX4_takeAll 5 115 G A σ [.ref (G.1 14 0), .ref (G.1 0 s)] (fun τ => τ = ur σ 14 0 (tAll (scr σ s) (levO (scr σ s)) 18)) := by
  refine MV.on (by decide) rfl (Nat.le_of_ble_eq_true rfl) (fun pP eE sS mM args below meth cC ls hx hb hml hr hown hlk hts hE hw hS hl => ?_)
  have hl : lv_has ls 3 [(0, .ref (G.1 14 0)), (1, .ref (G.1 0 s))] := hl
  refine lv_aload_n hx hb dX4_takeAll_0 rfl (lv_at hl 0 rfl) ?_
  refine g_Vv (n := 0) (As := []) (rest := []) hx hb hml hown hts hE hw hS gX4_takeAll_X4_clear (c_X4_clear l G A _ ) rfl (by decide +kernel) ⟨Nat.le_of_ble_eq_true rfl, Nat.le_of_ble_eq_true rfl⟩ (Nat.zero_lt_one) rfl rfl rfl rfl hl.1 rfl (Nat.le_of_ble_eq_true rfl) ⟨Nat.le_of_ble_eq_true rfl, Nat.le_of_ble_eq_true rfl⟩ dX4_takeAll_1 (fun τ_1 H locs hp_1 hw hS => ?_)
  refine lv_iconst (v := nI 0) hx hb dX4_takeAll_4 (by decide) ?_
  refine lv_istore_n (lv' := [(2, .int (nI 0)), (0, .ref (G.1 14 0)), (1, .ref (G.1 0 s))]) hx hb dX4_takeAll_5 rfl hl (by decide) rfl (fun ls hl => ?_)
  have K_6 : ∀ (fuel : Nat) (k : Nat) (σ2 : St), (k ≤ 18) → (σ2 = ur σ 14 0 (tAll (scr σ s) (levO (scr σ s)) k)) → 18 - k < fuel → ∀ (H : Heap) (locs : List Loc) (ls : Array Slot), Wcel G σ2 H → va_S A sS.heap H locs → lv_has ls 3 [(0, .ref (G.1 14 0)), (1, .ref (G.1 0 s)), (2, .int (nI k))] → W pP l eE { frames := 5, cells := 0, slots := 0, locals := 115 } sS mM args below meth cC H locs 0 0 (MQ below (va_Qv (fun τ => τ = ur σ 14 0 (tAll (scr σ s) (levO (scr σ s)) 18)) (fun τ t => gP G A τ t) A) args sS 0 0 A) (F0 mM 6 ls []) := by
    intro fuel
    induction fuel with
    | zero =>
      intro k σ2 hk h2 hfu
      exact absurd hfu (Nat.not_lt_zero _)
    | succ fuel K_6 =>
      intro k σ2 hk h2 hfu H locs ls hw hS hl
      subst h2
      refine lv_iload_n hx hb dX4_takeAll_6 rfl (lv_at hl 2 rfl) ?_
      refine lv_bipush (v := nI 18) hx hb dX4_takeAll_7 (by decide) ?_
      refine n_cmp_ge (tgt := 24) hx hb dX4_takeAll_9 (by decide) (by omega) (by omega) (fun c_9 => ?_) (fun c_9 => ?_)
      · refine g_vret hx hb hr hlk hE hw hS dX4_takeAll_24 ?_
        rw [show k = 18 by omega]
      · refine lv_aload_n hx hb dX4_takeAll_12 rfl (lv_at hl 0 rfl) ?_
        refine lv_aload_n hx hb dX4_takeAll_13 rfl (lv_at hl 1 rfl) ?_
        refine lv_iload_n hx hb dX4_takeAll_14 rfl (lv_at hl 2 rfl) ?_
        refine g_Vv (n := 2) (As := [.ref (G.1 0 s), .int (nI k)]) (rest := []) hx hb hml hown hts hE hw hS gX4_takeAll_X4_addZone (c_X4_addZone l G A _ s k (by omega) (by omega)) rfl (by decide +kernel) ⟨Nat.le_of_ble_eq_true rfl, Nat.le_of_ble_eq_true rfl⟩ (Nat.zero_lt_one) rfl rfl rfl rfl hl.1 rfl (Nat.le_of_ble_eq_true rfl) ⟨Nat.le_of_ble_eq_true rfl, Nat.le_of_ble_eq_true rfl⟩ dX4_takeAll_15 (fun τ_15 H locs hp_15 hw hS => ?_)
        refine lv_iinc (v := nI (k + 1)) (lv' := [(2, .int (nI (k + 1))), (0, .ref (G.1 14 0)), (1, .ref (G.1 0 s))]) hx hb dX4_takeAll_18 hl (k := 2) rfl (nI_add _ _) (by decide) rfl (fun ls hl => ?_)
        refine lv_goto (tgt := 6) hx hb dX4_takeAll_21 (by decide) ?_
        exact K_6 (k + 1) _ (by first | omega | assumption | rfl) (by rw [hp_15, ur_same, ur_ur, scr_ur (by decide)]; rfl) (by omega) _ _ _ hw hS (lv_sub hl [1, 2, 0] rfl)
  exact K_6 (18 - 0 + 1) 0 _ (by first | omega | assumption | rfl) hp_1 (Nat.lt_succ_self _) _ _ _ hw hS (lv_sub hl [1, 2, 0] rfl)
set_option maxHeartbeats 4000000 in
set_option maxRecDepth 100000 in
/-- ZonedLight$Tally.takeZone(LZonedLight$Screen;I)V -/
theorem c_X4_takeZone (l : Launch) (G : GG) (A : Nat → Prop) (σ : St) (s : Nat) (z : Nat) (hs : s < 7) (hz : z < 18) : MV l yX4_takeZone wsX4_takeZone 5 115 G A σ [.ref (G.1 14 0), .ref (G.1 0 s), .int (nI z)] (fun τ => τ = ur σ 14 0 (tZ (scr σ s) (levO (scr σ s)) z (fun _ => 0) 16)) := by
  refine MV.on (by decide) rfl (Nat.le_of_ble_eq_true rfl) (fun pP eE sS mM args below meth cC ls hx hb hml hr hown hlk hts hE hw hS hl => ?_)
  have hl : lv_has ls 3 [(0, .ref (G.1 14 0)), (1, .ref (G.1 0 s)), (2, .int (nI z))] := hl
  refine lv_aload_n hx hb dX4_takeZone_0 rfl (lv_at hl 0 rfl) ?_
  refine g_Vv (n := 0) (As := []) (rest := []) hx hb hml hown hts hE hw hS gX4_takeZone_X4_clear (c_X4_clear l G A _ ) rfl (by decide +kernel) ⟨Nat.le_of_ble_eq_true rfl, Nat.le_of_ble_eq_true rfl⟩ (Nat.zero_lt_one) rfl rfl rfl rfl hl.1 rfl (Nat.le_of_ble_eq_true rfl) ⟨Nat.le_of_ble_eq_true rfl, Nat.le_of_ble_eq_true rfl⟩ dX4_takeZone_1 (fun τ_1 H locs hp_1 hw hS => ?_)
  refine lv_aload_n hx hb dX4_takeZone_4 rfl (lv_at hl 0 rfl) ?_
  refine lv_aload_n hx hb dX4_takeZone_5 rfl (lv_at hl 1 rfl) ?_
  refine lv_iload_n hx hb dX4_takeZone_6 rfl (lv_at hl 2 rfl) ?_
  refine g_Vv (n := 2) (As := [.ref (G.1 0 s), .int (nI z)]) (rest := []) hx hb hml hown hts hE hw hS gX4_takeZone_X4_addZone (c_X4_addZone l G A _ s z (by omega) (by omega)) rfl (by decide +kernel) ⟨Nat.le_of_ble_eq_true rfl, Nat.le_of_ble_eq_true rfl⟩ (Nat.zero_lt_one) rfl rfl rfl rfl hl.1 rfl (Nat.le_of_ble_eq_true rfl) ⟨Nat.le_of_ble_eq_true rfl, Nat.le_of_ble_eq_true rfl⟩ dX4_takeZone_7 (fun τ_7 H locs hp_7 hw hS => ?_)
  refine g_vret hx hb hr hlk hE hw hS dX4_takeZone_10 ?_
  rw [hp_7, hp_1, ur_same, ur_ur, scr_ur (by decide)]
set_option maxHeartbeats 4000000 in
set_option maxRecDepth 100000 in
/-- ZonedLight$Plan.aim(LZonedLight$Screen;I)I -/
theorem c_X2_aim (l : Launch) (G : GG) (A : Nat → Prop) (σ : St) (s : Nat) (z : Nat) (hs : s < 7) (hz : z < 18) : MI l yX2_aim wsX2_aim 3 67 G A σ [.ref (G.1 11 0), .ref (G.1 0 s), .int (nI z)] (fun r τ => r = aimV (scr σ s) (scr σ s 327) (σ 13 0 z) z ∧ τ = σ) := by
  refine MI.on (by decide) rfl (Nat.le_of_ble_eq_true rfl) (fun pP eE sS mM args below meth cC ls hx hb hml hr hown hlk hts hE hw hS hl => ?_)
  have hl : lv_has ls 3 [(0, .ref (G.1 11 0)), (1, .ref (G.1 0 s)), (2, .int (nI z))] := hl
  refine lv_aload_n hx hb dX2_aim_0 rfl (lv_at hl 1 rfl) ?_
  refine gf_X3_setting hx hb hE hw (show s < 7 by omega) hown (hts (.fieldLink RX2 31 "ZonedLight$Screen" "setting" "[I") (by decide +kernel)) dX2_aim_1 ?_
  refine lv_iconst (v := nI 3) hx hb dX2_aim_4 (by decide) ?_
  refine g_ald hx hb hE hw (n := 8) (show s < 7 by omega) rfl (by decide) (by omega) dX2_aim_5 ?_
  refine lv_topi (fun x_5 ex_5 => ?_)
  have e5 : scr σ s 327 = x_5 := by rw [ex_5]; exact scr_set (k := 3) (by decide)
  by_cases k_6_0 : x_5 = 0
  · refine lv_lookup (tgt := 32) (off := 26) hx hb dX2_aim_6 (by decide +kernel) (by rw [k_6_0]; decide +kernel) (by decide) ?_
    refine lv_aload_n hx hb dX2_aim_32 rfl (lv_at hl 0 rfl) ?_
    refine gf_X2_peak hx hb hE hw (Nat.zero_lt_one) hown (hts (.fieldLink RX2 15 "ZonedLight$Plan" "peak" "[I") (by decide +kernel)) dX2_aim_33 ?_
    refine lv_iload_n hx hb dX2_aim_36 rfl (lv_at hl 2 rfl) ?_
    refine g_ald hx hb hE hw (n := 18) (Nat.zero_lt_one) rfl (by decide) (by omega) dX2_aim_37 ?_
    refine lv_topi (fun x_37 ex_37 => ?_)
    refine g_iret hx hb hr hlk hE hw hS dX2_aim_38 ?_
    exact ⟨by rw [aimV, e5, if_pos k_6_0, ex_37], rfl⟩
  by_cases k_6_1 : x_5 = 1
  · refine lv_lookup (tgt := 39) (off := 33) hx hb dX2_aim_6 (by decide +kernel) (by rw [k_6_1]; decide +kernel) (by decide) ?_
    refine lv_aload_n hx hb dX2_aim_39 rfl (lv_at hl 0 rfl) ?_
    refine gf_X2_peak hx hb hE hw (Nat.zero_lt_one) hown (hts (.fieldLink RX2 15 "ZonedLight$Plan" "peak" "[I") (by decide +kernel)) dX2_aim_40 ?_
    refine lv_iload_n hx hb dX2_aim_43 rfl (lv_at hl 2 rfl) ?_
    refine g_ald hx hb hE hw (n := 18) (Nat.zero_lt_one) rfl (by decide) (by omega) dX2_aim_44 ?_
    refine lv_topi (fun x_44 ex_44 => ?_)
    refine lv_aload_n hx hb dX2_aim_45 rfl (lv_at hl 1 rfl) ?_
    refine lv_iload_n hx hb dX2_aim_46 rfl (lv_at hl 2 rfl) ?_
    refine g_Vi (n := 1) (As := [.int (nI z)]) (rest := [.int x_44]) hx hb hml hown hts hE hw hS gX2_aim_X3_mean (c_X3_mean l G A _ s z (by omega) (by omega)) rfl (by decide +kernel) ⟨Nat.le_of_ble_eq_true rfl, Nat.le_of_ble_eq_true rfl⟩ (show s < 7 by omega) rfl rfl rfl rfl hl.1 rfl (Nat.le_of_ble_eq_true rfl) ⟨Nat.le_of_ble_eq_true rfl, Nat.le_of_ble_eq_true rfl⟩ dX2_aim_47 (fun x_47 τ_47 H locs hp_47 hw hS => ?_)
    obtain ⟨ex_47, hτ_47⟩ := hp_47
    rw [hτ_47] at hw
    refine lv_iadd hx hb dX2_aim_50 ?_
    refine lv_topi (fun x_50 ex_50 => ?_)
    refine lv_iconst (v := nI 2) hx hb dX2_aim_51 (by decide) ?_
    refine lv_idiv hx hb dX2_aim_52 (by decide) ?_
    refine lv_topi (fun x_52 ex_52 => ?_)
    refine g_iret hx hb hr hlk hE hw hS dX2_aim_53 ?_
    exact ⟨by rw [aimV, e5, if_neg k_6_0, if_pos k_6_1, ex_52, ex_50, ex_47, ex_44]; rfl, rfl⟩
  refine lv_lookup (tgt := 54) (off := 48) hx hb dX2_aim_6 (by decide +kernel) (by rw [lookupswitch.offset_cons, lookupswitch.offset_cons, lookupswitch.offset_nil, if_neg (fun q => k_6_0 (Int32.toInt_inj.mp (by rw [← q]; rfl))), if_neg (fun q => k_6_1 (Int32.toInt_inj.mp (by rw [← q]; rfl)))]) (by decide) ?_
  refine lv_aload_n hx hb dX2_aim_54 rfl (lv_at hl 1 rfl) ?_
  refine lv_iload_n hx hb dX2_aim_55 rfl (lv_at hl 2 rfl) ?_
  refine g_Vi (n := 1) (As := [.int (nI z)]) (rest := []) hx hb hml hown hts hE hw hS gX2_aim_X3_mean (c_X3_mean l G A _ s z (by omega) (by omega)) rfl (by decide +kernel) ⟨Nat.le_of_ble_eq_true rfl, Nat.le_of_ble_eq_true rfl⟩ (show s < 7 by omega) rfl rfl rfl rfl hl.1 rfl (Nat.le_of_ble_eq_true rfl) ⟨Nat.le_of_ble_eq_true rfl, Nat.le_of_ble_eq_true rfl⟩ dX2_aim_56 (fun x_56 τ_56 H locs hp_56 hw hS => ?_)
  obtain ⟨ex_56, hτ_56⟩ := hp_56
  rw [hτ_56] at hw
  refine g_iret hx hb hr hlk hE hw hS dX2_aim_59 ?_
  exact ⟨by rw [aimV, e5, if_neg k_6_0, if_neg k_6_1, ex_56], rfl⟩
set_option maxHeartbeats 4000000 in
set_option maxRecDepth 100000 in
/-- ZonedLight$Plan.levelByRule(LZonedLight$Screen;I)I -/
theorem c_X2_levelByRule (l : Launch) (G : GG) (A : Nat → Prop) (σ : St) (s : Nat) (z : Nat) (hs : s < 7) (hz : z < 18) : MI l yX2_levelByRule wsX2_levelByRule 4 89 G A σ [.ref (G.1 11 0), .ref (G.1 0 s), .int (nI z)] (fun r τ => r = ruleV (scr σ s) (scr σ s 327) (σ 13 0 z) z ∧ τ = σ) := by
  refine MI.on (by decide) rfl (Nat.le_of_ble_eq_true rfl) (fun pP eE sS mM args below meth cC ls hx hb hml hr hown hlk hts hE hw hS hl => ?_)
  have hl : lv_has ls 5 [(0, .ref (G.1 11 0)), (1, .ref (G.1 0 s)), (2, .int (nI z))] := hl
  refine lv_aload_n hx hb dX2_levelByRule_0 rfl (lv_at hl 1 rfl) ?_
  refine gf_X3_setting hx hb hE hw (show s < 7 by omega) hown (hts (.fieldLink RX2 31 "ZonedLight$Screen" "setting" "[I") (by decide +kernel)) dX2_levelByRule_1 ?_
  refine lv_iconst (v := nI 0) hx hb dX2_levelByRule_4 (by decide) ?_
  refine g_ald hx hb hE hw (n := 8) (show s < 7 by omega) rfl (by decide) (by omega) dX2_levelByRule_5 ?_
  refine lv_topi (fun x_5 ex_5 => ?_)
  have e5 : scr σ s 324 = x_5 := by rw [ex_5]; exact scr_set (k := 0) (by decide)
  refine lv_istore_n (lv' := [(3, .int x_5), (0, .ref (G.1 11 0)), (1, .ref (G.1 0 s)), (2, .int (nI z))]) hx hb dX2_levelByRule_6 rfl hl (by decide) rfl (fun ls hl => ?_)
  refine lv_aload_n hx hb dX2_levelByRule_7 rfl (lv_at hl 1 rfl) ?_
  refine lv_aload_n hx hb dX2_levelByRule_8 rfl (lv_at hl 2 rfl) ?_
  refine lv_iload_n hx hb dX2_levelByRule_9 rfl (lv_at hl 3 rfl) ?_
  refine g_Vi (n := 2) (As := [.ref (G.1 0 s), .int (nI z)]) (rest := []) hx hb hml hown hts hE hw hS gX2_levelByRule_X2_aim (c_X2_aim l G A _ s z (by omega) (by omega)) rfl (by decide +kernel) ⟨Nat.le_of_ble_eq_true rfl, Nat.le_of_ble_eq_true rfl⟩ (Nat.zero_lt_one) rfl rfl rfl rfl hl.1 rfl (Nat.le_of_ble_eq_true rfl) ⟨Nat.le_of_ble_eq_true rfl, Nat.le_of_ble_eq_true rfl⟩ dX2_levelByRule_10 (fun x_10 τ_10 H locs hp_10 hw hS => ?_)
  obtain ⟨ex_10, hτ_10⟩ := hp_10
  rw [hτ_10] at hw
  refine lv_sipush (v := nI 256) hx hb dX2_levelByRule_13 (by decide) ?_
  refine lv_imul hx hb dX2_levelByRule_16 ?_
  refine lv_topi (fun x_16 ex_16 => ?_)
  refine lv_istore (lv' := [(4, .int x_16), (3, .int x_5), (0, .ref (G.1 11 0)), (1, .ref (G.1 0 s)), (2, .int (nI z))]) hx hb dX2_levelByRule_17 hl (by decide) rfl (fun ls hl => ?_)
  refine lv_iload_n hx hb dX2_levelByRule_19 rfl (lv_at hl 1 rfl) ?_
  refine lv_if_le (tgt := 36) hx hb dX2_levelByRule_20 (by decide) (fun c_20 => ?_) (fun c_20 => ?_)
  · refine lv_iconst (v := nI 0) hx hb dX2_levelByRule_36 (by decide) ?_
    refine g_iret hx hb hr hlk hE hw hS dX2_levelByRule_37 ?_
    first | exact ⟨by rw [ruleV, e5, if_pos (Int32.not_le.mp c_20), ex_30, ex_29, ex_16, ex_10]; rfl, rfl⟩ | exact ⟨by rw [ruleV, e5, if_neg (Int32.not_lt.mpr c_20)]; rfl, rfl⟩
  · refine lv_sipush (v := nI 255) hx hb dX2_levelByRule_23 (by decide) ?_
    refine lv_iload hx hb dX2_levelByRule_26 (lv_at hl 0 rfl) ?_
    refine lv_iload_n hx hb dX2_levelByRule_28 rfl (lv_at hl 1 rfl) ?_
    refine lv_idiv hx hb dX2_levelByRule_29 (fun q => c_20 (by rw [q]; decide)) ?_
    refine lv_topi (fun x_29 ex_29 => ?_)
    refine g_min hx hb (hml.trans hl.1.symm) hE hown (hts (.methodLink RX2 49 Lib.Math.min.name) (by decide +kernel)) ⟨Nat.le_of_ble_eq_true rfl, Nat.le_of_ble_eq_true rfl⟩ ⟨Nat.le_of_ble_eq_true rfl, Nat.le_of_ble_eq_true rfl⟩ dX2_levelByRule_30 ?_
    refine lv_topi (fun x_30 ex_30 => ?_)
    refine lv_goto (tgt := 37) hx hb dX2_levelByRule_33 (by decide) ?_
    refine g_iret hx hb hr hlk hE hw hS dX2_levelByRule_37 ?_
    first | exact ⟨by rw [ruleV, e5, if_pos (Int32.not_le.mp c_20), ex_30, ex_29, ex_16, ex_10]; rfl, rfl⟩ | exact ⟨by rw [ruleV, e5, if_neg (Int32.not_lt.mpr c_20)]; rfl, rfl⟩
set_option maxHeartbeats 4000000 in
set_option maxRecDepth 100000 in
/-- ZonedLight$Plan.make(LZonedLight$Screen;)V -/
theorem c_X2_make (l : Launch) (G : GG) (A : Nat → Prop) (σ : St) (s : Nat) (hs : s < 7) (hok : okW (scr σ s)) : MV l yX2_make wsX2_make 5 115 G A σ [.ref (G.1 11 0), .ref (G.1 0 s)] (fun τ => ∃ r13, τ = ur (ur σ 13 0 r13) 12 0 (wantF (scr σ s) (scr σ s 327))) := by
  refine MV.on (by decide) rfl (Nat.le_of_ble_eq_true rfl) (fun pP eE sS mM args below meth cC ls hx hb hml hr hown hlk hts hE hw hS hl => ?_)
  have hl : lv_has ls 3 [(0, .ref (G.1 11 0)), (1, .ref (G.1 0 s))] := hl
  obtain ⟨RR, hRR, eRR⟩ := hok.2.2.2.2.2.2.1
  have hcan := hw.2.1 12 0
  refine lv_iconst (v := nI 0) hx hb dX2_make_0 (by decide) ?_
  refine lv_istore_n (lv' := [(2, .int (nI 0)), (0, .ref (G.1 11 0)), (1, .ref (G.1 0 s))]) hx hb dX2_make_1 rfl hl (by decide) rfl (fun ls hl => ?_)
  have K_2 : ∀ (fuel : Nat) (k : Nat) (σ2 : St), (k ≤ 18) → (σ2 = ur (ur σ 13 0 (peaksK (scr σ s) (σ 13 0) k)) 12 0 (lev0K (scr σ s) (scr σ s 327) (σ 12 0) k)) → 18 - k < fuel → ∀ (H : Heap) (locs : List Loc) (ls : Array Slot), Wcel G σ2 H → va_S A sS.heap H locs → lv_has ls 3 [(0, .ref (G.1 11 0)), (1, .ref (G.1 0 s)), (2, .int (nI k))] → W pP l eE { frames := 5, cells := 0, slots := 0, locals := 115 } sS mM args below meth cC H locs 0 0 (MQ below (va_Qv (fun τ => ∃ r13, τ = ur (ur σ 13 0 r13) 12 0 (wantF (scr σ s) (scr σ s 327))) (fun τ t => gP G A τ t) A) args sS 0 0 A) (F0 mM 2 ls []) := by
    intro fuel
    induction fuel with
    | zero =>
      intro k σ2 hk h2 hfu
      exact absurd hfu (Nat.not_lt_zero _)
    | succ fuel K_2 =>
      intro k σ2 hk h2 hfu H locs ls hw hS hl
      subst h2
      refine lv_iload_n hx hb dX2_make_2 rfl (lv_at hl 2 rfl) ?_
      refine lv_bipush (v := nI 18) hx hb dX2_make_3 (by decide) ?_
      refine n_cmp_ge (tgt := 50) hx hb dX2_make_5 (by decide) (by omega) (by omega) (fun c_5 => ?_) (fun c_5 => ?_)
      · refine lv_iconst (v := nI 0) hx hb dX2_make_50 (by decide) ?_
        refine lv_istore_n (lv' := [(2, .int (nI 0)), (0, .ref (G.1 11 0)), (1, .ref (G.1 0 s))]) hx hb dX2_make_51 rfl hl (by decide) rfl (fun ls hl => ?_)
        have K_52 : ∀ (fuel : Nat) (k : Nat) (σ2 : St), (k ≤ RR) → (σ2 = ur (ur σ 13 0 (peaksK (scr σ s) (σ 13 0) 18)) 12 0 (roundsK (scr σ s) (lev0F (scr σ s) (scr σ s 327)) k)) → RR - k < fuel → ∀ (H : Heap) (locs : List Loc) (ls : Array Slot), Wcel G σ2 H → va_S A sS.heap H locs → lv_has ls 3 [(0, .ref (G.1 11 0)), (1, .ref (G.1 0 s)), (2, .int (nI k))] → W pP l eE { frames := 5, cells := 0, slots := 0, locals := 115 } sS mM args below meth cC H locs 0 0 (MQ below (va_Qv (fun τ => ∃ r13, τ = ur (ur σ 13 0 r13) 12 0 (wantF (scr σ s) (scr σ s 327))) (fun τ t => gP G A τ t) A) args sS 0 0 A) (F0 mM 52 ls []) := by
          intro fuel
          induction fuel with
          | zero =>
            intro k σ2 hk h2 hfu
            exact absurd hfu (Nat.not_lt_zero _)
          | succ fuel K_52 =>
            intro k σ2 hk h2 hfu H locs ls hw hS hl
            subst h2
            refine lv_iload_n hx hb dX2_make_52 rfl (lv_at hl 2 rfl) ?_
            refine lv_aload_n hx hb dX2_make_53 rfl (lv_at hl 1 rfl) ?_
            refine gf_X3_setting hx hb hE hw (show s < 7 by omega) hown (hts (.fieldLink RX2 31 "ZonedLight$Screen" "setting" "[I") (by decide +kernel)) dX2_make_54 ?_
            refine lv_iconst (v := nI 4) hx hb dX2_make_57 (by decide) ?_
            refine g_ald hx hb hE hw (n := 8) (show s < 7 by omega) rfl (by decide) (by omega) dX2_make_58 ?_
            refine lv_topi (fun x_58 ex_58 => ?_)
            obtain rfl : x_58 = nI RR := by rw [ex_58, ur_k (by decide), ur_k (by decide), ← eRR]; exact (scr_set (k := 4) (by decide)).symm
            refine n_cmp_ge (tgt := 73) hx hb dX2_make_59 (by decide) (by omega) (by omega) (fun c_59 => ?_) (fun c_59 => ?_)
            · refine lv_iconst (v := nI 0) hx hb dX2_make_73 (by decide) ?_
              refine lv_istore_n (lv' := [(2, .int (nI 0)), (0, .ref (G.1 11 0)), (1, .ref (G.1 0 s))]) hx hb dX2_make_74 rfl hl (by decide) rfl (fun ls hl => ?_)
              have K_75 : ∀ (fuel : Nat) (k : Nat) (σ2 : St), (k ≤ 18) → (σ2 = ur (ur σ 13 0 (peaksK (scr σ s) (σ 13 0) 18)) 12 0 (lowersK (scr σ s) (roundsK (scr σ s) (lev0F (scr σ s) (scr σ s 327)) RR) k)) → 18 - k < fuel → ∀ (H : Heap) (locs : List Loc) (ls : Array Slot), Wcel G σ2 H → va_S A sS.heap H locs → lv_has ls 3 [(0, .ref (G.1 11 0)), (1, .ref (G.1 0 s)), (2, .int (nI k))] → W pP l eE { frames := 5, cells := 0, slots := 0, locals := 115 } sS mM args below meth cC H locs 0 0 (MQ below (va_Qv (fun τ => ∃ r13, τ = ur (ur σ 13 0 r13) 12 0 (wantF (scr σ s) (scr σ s 327))) (fun τ t => gP G A τ t) A) args sS 0 0 A) (F0 mM 75 ls []) := by
                intro fuel
                induction fuel with
                | zero =>
                  intro k σ2 hk h2 hfu
                  exact absurd hfu (Nat.not_lt_zero _)
                | succ fuel K_75 =>
                  intro k σ2 hk h2 hfu H locs ls hw hS hl
                  subst h2
                  obtain ⟨nn, hnn, enn⟩ := lowW_lowers (lowW_rounds hok (lowW_lev0 hok (scr σ s 327)) RR) k k
                  refine lv_iload_n hx hb dX2_make_75 rfl (lv_at hl 2 rfl) ?_
                  refine lv_bipush (v := nI 18) hx hb dX2_make_76 (by decide) ?_
                  refine n_cmp_ge (tgt := 101) hx hb dX2_make_78 (by decide) (by omega) (by omega) (fun c_78 => ?_) (fun c_78 => ?_)
                  · refine g_vret hx hb hr hlk hE hw hS dX2_make_101 ?_
                    exact ⟨_, by rw [show k = 18 by omega, wantF, eRR, nI_clamp (by omega)]; rfl⟩
                  · refine lv_aload_n hx hb dX2_make_81 rfl (lv_at hl 1 rfl) ?_
                    refine lv_iload_n hx hb dX2_make_82 rfl (lv_at hl 2 rfl) ?_
                    refine g_Vi (n := 1) (As := [.int (nI k)]) (rest := []) hx hb hml hown hts hE hw hS gX2_make_X3_asksBlack (c_X3_asksBlack l G A _ s k (by omega) (by omega)) rfl (by decide +kernel) ⟨Nat.le_of_ble_eq_true rfl, Nat.le_of_ble_eq_true rfl⟩ (show s < 7 by omega) rfl rfl rfl rfl hl.1 rfl (Nat.le_of_ble_eq_true rfl) ⟨Nat.le_of_ble_eq_true rfl, Nat.le_of_ble_eq_true rfl⟩ dX2_make_83 (fun x_83 τ_83 H locs hp_83 hw hS => ?_)
                    obtain ⟨hb_83, hτ_83⟩ := hp_83
                    rw [hτ_83] at hw
                    refine lv_if_eq (tgt := 95) hx hb dX2_make_86 (by decide) (fun c_86 => ?_) (fun c_86 => ?_)
                    · have hnb : ¬ blackF (scr σ s) k = true := by have q := bP_f hb_83 c_86; rw [scr_ur (by decide), scr_ur (by decide)] at q; exact q
                      refine lv_iinc (v := nI (k + 1)) (lv' := [(2, .int (nI (k + 1))), (0, .ref (G.1 11 0)), (1, .ref (G.1 0 s))]) hx hb dX2_make_95 hl (k := 2) rfl (nI_add _ _) (by decide) rfl (fun ls hl => ?_)
                      refine lv_goto (tgt := 75) hx hb dX2_make_98 (by decide) ?_
                      exact K_75 (k + 1) _ (by first | omega | assumption | rfl) (by first | (rw [hp_92, us_ur, ur_same, scr_ur (by decide), scr_ur (by decide), lowersK, lowerV, if_pos hbk, enn, nI_clamp (by omega)]) | (rw [lowersK, lowerV, if_neg hnb])) (by omega) _ _ _ hw hS (lv_sub hl [1, 2, 0] rfl)
                    · have hbk : blackF (scr σ s) k = true := by have q := bP_t hb_83 c_86; rw [scr_ur (by decide), scr_ur (by decide)] at q; exact q
                      refine lv_aload_n hx hb dX2_make_89 rfl (lv_at hl 0 rfl) ?_
                      refine lv_aload_n hx hb dX2_make_90 rfl (lv_at hl 1 rfl) ?_
                      refine lv_iload_n hx hb dX2_make_91 rfl (lv_at hl 2 rfl) ?_
                      refine g_Vv (n := 2) (As := [.ref (G.1 0 s), .int (nI k)]) (rest := []) hx hb hml hown hts hE hw hS gX2_make_X2_lowerForBlack (c_X2_lowerForBlack l G A _ s k nn (by omega) (by omega) (by rw [ur_same]; exact enn) hnn) rfl (by decide +kernel) ⟨Nat.le_of_ble_eq_true rfl, Nat.le_of_ble_eq_true rfl⟩ (Nat.zero_lt_one) rfl rfl rfl rfl hl.1 rfl (Nat.le_of_ble_eq_true rfl) ⟨Nat.le_of_ble_eq_true rfl, Nat.le_of_ble_eq_true rfl⟩ dX2_make_92 (fun τ_92 H locs hp_92 hw hS => ?_)
                      refine lv_iinc (v := nI (k + 1)) (lv' := [(2, .int (nI (k + 1))), (0, .ref (G.1 11 0)), (1, .ref (G.1 0 s))]) hx hb dX2_make_95 hl (k := 2) rfl (nI_add _ _) (by decide) rfl (fun ls hl => ?_)
                      refine lv_goto (tgt := 75) hx hb dX2_make_98 (by decide) ?_
                      exact K_75 (k + 1) _ (by first | omega | assumption | rfl) (by first | (rw [hp_92, us_ur, ur_same, scr_ur (by decide), scr_ur (by decide), lowersK, lowerV, if_pos hbk, enn, nI_clamp (by omega)]) | (rw [lowersK, lowerV, if_neg hnb])) (by omega) _ _ _ hw hS (lv_sub hl [1, 2, 0] rfl)
              exact K_75 (18 - 0 + 1) 0 _ (by first | omega | assumption | rfl) (by rw [show k = RR by omega]; rfl) (Nat.lt_succ_self _) _ _ _ hw hS (lv_sub hl [1, 2, 0] rfl)
            · refine lv_aload_n hx hb dX2_make_62 rfl (lv_at hl 0 rfl) ?_
              refine lv_aload_n hx hb dX2_make_63 rfl (lv_at hl 1 rfl) ?_
              refine g_Vv (n := 1) (As := [.ref (G.1 0 s)]) (rest := []) hx hb hml hown hts hE hw hS gX2_make_X2_raiseAll (c_X2_raiseAll l G A _ s (by omega) (fun z hz => by rw [scr_ur (by decide), scr_ur (by decide), ur_k (by decide), ur_same]; exact if_pos hz)) rfl (by decide +kernel) ⟨Nat.le_of_ble_eq_true rfl, Nat.le_of_ble_eq_true rfl⟩ (Nat.zero_lt_one) rfl rfl rfl rfl hl.1 rfl (Nat.le_of_ble_eq_true rfl) ⟨Nat.le_of_ble_eq_true rfl, Nat.le_of_ble_eq_true rfl⟩ dX2_make_64 (fun τ_64 H locs hp_64 hw hS => ?_)
              refine lv_iinc (v := nI (k + 1)) (lv' := [(2, .int (nI (k + 1))), (0, .ref (G.1 11 0)), (1, .ref (G.1 0 s))]) hx hb dX2_make_67 hl (k := 2) rfl (nI_add _ _) (by decide) rfl (fun ls hl => ?_)
              refine lv_goto (tgt := 52) hx hb dX2_make_70 (by decide) ?_
              exact K_52 (k + 1) _ (by first | omega | assumption | rfl) (by rw [hp_64, ur_same, ur_ur, scr_ur (by decide), scr_ur (by decide)]; rfl) (by omega) _ _ _ hw hS (lv_sub hl [1, 2, 0] rfl)
        exact K_52 (RR - 0 + 1) 0 _ (by first | omega | assumption | rfl) (by rw [show k = 18 by omega, lev0K_all hcan]; rfl) (Nat.lt_succ_self _) _ _ _ hw hS (lv_sub hl [1, 2, 0] rfl)
      · refine lv_aload_n hx hb dX2_make_8 rfl (lv_at hl 0 rfl) ?_
        refine gf_X2_peak hx hb hE hw (Nat.zero_lt_one) hown (hts (.fieldLink RX2 15 "ZonedLight$Plan" "peak" "[I") (by decide +kernel)) dX2_make_9 ?_
        refine lv_iload_n hx hb dX2_make_12 rfl (lv_at hl 2 rfl) ?_
        refine lv_aload_n hx hb dX2_make_13 rfl (lv_at hl 1 rfl) ?_
        refine lv_iload_n hx hb dX2_make_14 rfl (lv_at hl 2 rfl) ?_
        refine g_Vi (n := 1) (As := [.int (nI k)]) (rest := [.int (nI k), .ref (G.1 13 0)]) hx hb hml hown hts hE hw hS gX2_make_X3_peak (c_X3_peak l G A _ s k (by omega) (by omega)) rfl (by decide +kernel) ⟨Nat.le_of_ble_eq_true rfl, Nat.le_of_ble_eq_true rfl⟩ (show s < 7 by omega) rfl rfl rfl rfl hl.1 rfl (Nat.le_of_ble_eq_true rfl) ⟨Nat.le_of_ble_eq_true rfl, Nat.le_of_ble_eq_true rfl⟩ dX2_make_15 (fun x_15 τ_15 H locs hp_15 hw hS => ?_)
        obtain ⟨ex_15, hτ_15⟩ := hp_15
        rw [hτ_15] at hw
        refine g_ast hx hb hE hw hS (n := 18) (Nat.zero_lt_one) (by decide) (fun _ => rfl) rfl (by decide) (by omega) dX2_make_18 (fun H locs hw hS => ?_)
        refine lv_aload_n hx hb dX2_make_19 rfl (lv_at hl 0 rfl) ?_
        refine gf_X2_level hx hb hE hw (Nat.zero_lt_one) hown (hts (.fieldLink RX2 9 "ZonedLight$Plan" "level" "[I") (by decide +kernel)) dX2_make_20 ?_
        refine lv_iload_n hx hb dX2_make_23 rfl (lv_at hl 2 rfl) ?_
        refine lv_aload_n hx hb dX2_make_24 rfl (lv_at hl 1 rfl) ?_
        refine gf_X3_dead hx hb hE hw (show s < 7 by omega) hown (hts (.fieldLink RX2 23 "ZonedLight$Screen" "dead" "[Z") (by decide +kernel)) dX2_make_25 ?_
        refine lv_iload_n hx hb dX2_make_28 rfl (lv_at hl 2 rfl) ?_
        refine g_zald hx hb hE hw (n := 18) (show s < 7 by omega) rfl (by decide) (by omega) dX2_make_29 ?_
        refine lv_topi (fun x_29 ex_29 => ?_)
        refine lv_if_eq (tgt := 37) hx hb dX2_make_30 (by decide) (fun c_30 => ?_) (fun c_30 => ?_)
        · refine lv_aload_n hx hb dX2_make_37 rfl (lv_at hl 0 rfl) ?_
          refine lv_aload_n hx hb dX2_make_38 rfl (lv_at hl 1 rfl) ?_
          refine lv_iload_n hx hb dX2_make_39 rfl (lv_at hl 2 rfl) ?_
          refine g_Vi (n := 2) (As := [.ref (G.1 0 s), .int (nI k)]) (rest := [.int (nI k), .ref (G.1 12 0)]) hx hb hml hown hts hE hw hS gX2_make_X2_levelByRule (c_X2_levelByRule l G A _ s k (by omega) (by omega)) rfl (by decide +kernel) ⟨Nat.le_of_ble_eq_true rfl, Nat.le_of_ble_eq_true rfl⟩ (Nat.zero_lt_one) rfl rfl rfl rfl hl.1 rfl (Nat.le_of_ble_eq_true rfl) ⟨Nat.le_of_ble_eq_true rfl, Nat.le_of_ble_eq_true rfl⟩ dX2_make_40 (fun x_40 τ_40 H locs hp_40 hw hS => ?_)
          obtain ⟨ex_40, hτ_40⟩ := hp_40
          rw [hτ_40] at hw
          refine g_ast hx hb hE hw hS (n := 18) (Nat.zero_lt_one) (by decide) (fun _ => rfl) rfl (by decide) (by omega) dX2_make_43 (fun H locs hw hS => ?_)
          refine lv_iinc (v := nI (k + 1)) (lv' := [(2, .int (nI (k + 1))), (0, .ref (G.1 11 0)), (1, .ref (G.1 0 s))]) hx hb dX2_make_44 hl (k := 2) rfl (nI_add _ _) (by decide) rfl (fun ls hl => ?_)
          refine lv_goto (tgt := 2) hx hb dX2_make_47 (by decide) ?_
          have hp1 : x_15 = peakF (scr σ s) k := by rw [ex_15, scr_ur (by decide), scr_ur (by decide)]
          have hd1 : x_29 = scr σ s (306 + k) := by rw [ex_29, us_k (by decide), ur_k (by decide), ur_k (by decide), scr_dead (σ := σ) (s := s) c_5]
          exact K_2 (k + 1) _ (by first | omega | assumption | rfl) (by first | (rw [mk_step, peaksK_put hp1, lev0K_put (by rw [lev0, if_neg (by rw [← hd1]; exact c_30)]; rfl)]) | (rw [mk_step, peaksK_put hp1, lev0K_put (by rw [lev0, if_pos (by rw [← hd1]; exact c_30), ex_40, scr_us (by decide), scr_ur (by decide), scr_ur (by decide), us_at, hp1])])) (by omega) _ _ _ hw hS (lv_sub hl [1, 2, 0] rfl)
        · refine lv_iconst (v := nI 0) hx hb dX2_make_33 (by decide) ?_
          refine lv_goto (tgt := 43) hx hb dX2_make_34 (by decide) ?_
          refine g_ast hx hb hE hw hS (n := 18) (Nat.zero_lt_one) (by decide) (fun _ => rfl) rfl (by decide) (by omega) dX2_make_43 (fun H locs hw hS => ?_)
          refine lv_iinc (v := nI (k + 1)) (lv' := [(2, .int (nI (k + 1))), (0, .ref (G.1 11 0)), (1, .ref (G.1 0 s))]) hx hb dX2_make_44 hl (k := 2) rfl (nI_add _ _) (by decide) rfl (fun ls hl => ?_)
          refine lv_goto (tgt := 2) hx hb dX2_make_47 (by decide) ?_
          have hp1 : x_15 = peakF (scr σ s) k := by rw [ex_15, scr_ur (by decide), scr_ur (by decide)]
          have hd1 : x_29 = scr σ s (306 + k) := by rw [ex_29, us_k (by decide), ur_k (by decide), ur_k (by decide), scr_dead (σ := σ) (s := s) c_5]
          exact K_2 (k + 1) _ (by first | omega | assumption | rfl) (by first | (rw [mk_step, peaksK_put hp1, lev0K_put (by rw [lev0, if_neg (by rw [← hd1]; exact c_30)]; rfl)]) | (rw [mk_step, peaksK_put hp1, lev0K_put (by rw [lev0, if_pos (by rw [← hd1]; exact c_30), ex_40, scr_us (by decide), scr_ur (by decide), scr_ur (by decide), us_at, hp1])])) (by omega) _ _ _ hw hS (lv_sub hl [1, 2, 0] rfl)
  exact K_2 (18 - 0 + 1) 0 _ (by first | omega | assumption | rfl) (by rw [peaksK_0, lev0K_0, ur_self (σ := σ) (k := 13) rfl, ur_self rfl]) (Nat.lt_succ_self _) _ _ _ hw hS (lv_sub hl [1, 2, 0] rfl)
set_option maxHeartbeats 4000000 in
set_option maxRecDepth 100000 in
/-- ZonedLight$History.record(LZonedLight$Screen;)V -/
theorem c_X0_record (l : Launch) (G : GG) (A : Nat → Prop) (σ : St) (o : Nat) (n : Nat) (ho : o < 4) (hn : n ≤ 4) (eo : σ 6 0 1 = nI o) (en : σ 6 0 2 = nI n) : MV l yX0_record wsX0_record 2 48 G A σ [.ref (G.1 6 0), .ref (G.1 0 0)] (fun τ => recP σ τ o n) := by
  refine MV.on (by decide) rfl (Nat.le_of_ble_eq_true rfl) (fun pP eE sS mM args below meth cC ls hx hb hml hr hown hlk hts hE hw hS hl => ?_)
  have hl : lv_has ls 2 [(0, .ref (G.1 6 0)), (1, .ref (G.1 0 0))] := hl
  refine lv_aload_n hx hb dX0_record_0 rfl (lv_at hl 0 rfl) ?_
  refine gf_X0_size hx hb hE hw (Nat.zero_lt_one) hown (hts (.fieldLink RX0 19 "ZonedLight$History" "size" "I") (by decide +kernel)) dX0_record_1 ?_
  refine lv_topi (fun x_1 ex_1 => ?_)
  have K_30 : ∀ (o1 : Nat) (n1 : Nat) (σ2 : St), (o1 < 4) → (n1 < 4) → (σ2 = us (us σ 6 0 1 (nI o1)) 6 0 2 (nI n1)) → ((n < 4 ∧ o1 = o ∧ n1 = n) ∨ (n = 4 ∧ o1 = (o + 1) % 4 ∧ n1 = 3)) → ∀ (H : Heap) (locs : List Loc) (ls : Array Slot), Wcel G σ2 H → va_S A sS.heap H locs → lv_has ls 2 [(0, .ref (G.1 6 0)), (1, .ref (G.1 0 0))] → W pP l eE { frames := 2, cells := 0, slots := 0, locals := 48 } sS mM args below meth cC H locs 0 0 (MQ below (va_Qv (fun τ => recP σ τ o n) (fun τ t => gP G A τ t) A) args sS 0 0 A) (F0 mM 30 ls []) := by
    intro o1 n1 σ2 ho1 hn1 e1 hsh H locs ls hw hS hl
    subst e1
    refine lv_aload_n hx hb dX0_record_30 rfl (lv_at hl 0 rfl) ?_
    refine gf_X0_ring hx hb hE hw (Nat.zero_lt_one) hown (hts (.fieldLink RX0 11 "ZonedLight$History" "ring" "[LZonedLight$Screen;") (by decide +kernel)) dX0_record_31 ?_
    refine lv_aload_n hx hb dX0_record_34 rfl (lv_at hl 0 rfl) ?_
    refine gf_X0_oldest hx hb hE hw (Nat.zero_lt_one) hown (hts (.fieldLink RX0 15 "ZonedLight$History" "oldest" "I") (by decide +kernel)) dX0_record_35 ?_
    refine lv_topi (fun x_35 ex_35 => ?_)
    obtain rfl : x_35 = nI o1 := by rw [ex_35, us_not (by decide), us_at]
    refine lv_aload_n hx hb dX0_record_38 rfl (lv_at hl 0 rfl) ?_
    refine gf_X0_size hx hb hE hw (Nat.zero_lt_one) hown (hts (.fieldLink RX0 19 "ZonedLight$History" "size" "I") (by decide +kernel)) dX0_record_39 ?_
    refine lv_topi (fun x_39 ex_39 => ?_)
    obtain rfl : x_39 = nI n1 := by rw [ex_39, us_at]
    refine n_iadd hx hb dX0_record_42 ?_
    refine lv_iconst (v := nI 4) hx hb dX0_record_43 (by decide) ?_
    refine n_irem hx hb dX0_record_44 (by omega) (by decide) (by decide) ?_
    refine g_qald hx hb hE hw (Nat.mod_lt _ (by decide)) dX0_record_45 ?_
    refine lv_aload_n hx hb dX0_record_46 rfl (lv_at hl 1 rfl) ?_
    refine g_Vv (n := 1) (As := [.ref (G.1 0 0)]) (rest := []) hx hb hml hown hts hE hw hS gX0_record_X3_copyFrom (c_X3_copyFrom l G A _ (3 + ((o1 + n1) % 4)) 0 (by omega) (by omega) (by omega)) rfl (by decide +kernel) ⟨Nat.le_of_ble_eq_true rfl, Nat.le_of_ble_eq_true rfl⟩ (show 3 + ((o1 + n1) % 4) < 7 by omega) rfl rfl rfl rfl hl.1 rfl (Nat.le_of_ble_eq_true rfl) ⟨Nat.le_of_ble_eq_true rfl, Nat.le_of_ble_eq_true rfl⟩ dX0_record_47 (fun τ_47 H locs hp_47 hw hS => ?_)
    refine lv_aload_n hx hb dX0_record_50 rfl (lv_at hl 0 rfl) ?_
    refine lv_dup hx hb dX0_record_51 rfl ?_
    refine gf_X0_size hx hb hE hw (Nat.zero_lt_one) hown (hts (.fieldLink RX0 19 "ZonedLight$History" "size" "I") (by decide +kernel)) dX0_record_52 ?_
    refine lv_topi (fun x_52 ex_52 => ?_)
    obtain rfl : x_52 = nI n1 := by rw [ex_52, hp_47.2 6 0 (by omega), us_at]
    refine lv_iconst (v := nI 1) hx hb dX0_record_55 (by decide) ?_
    refine n_iadd hx hb dX0_record_56 ?_
    refine gp_X0_size hx hb hE hw hS (Nat.zero_lt_one) hown (hts (.fieldLink RX0 19 "ZonedLight$History" "size" "I") (by decide +kernel)) dX0_record_57 (fun H locs hw hS => ?_)
    refine g_vret hx hb hr hlk hE hw hS dX0_record_60 ?_
    exact recP_end ho1 hn1 hsh hp_47.1 hp_47.2 rfl
  refine lv_iconst (v := nI 4) hx hb dX0_record_4 (by decide) ?_
  refine lv_icmp_ne (tgt := 30) hx hb dX0_record_5 (by decide) (fun c_5 => ?_) (fun c_5 => ?_)
  · have hn4 : n < 4 := by rw [ex_1, en] at c_5; have h4 : ¬ n = 4 := fun q => c_5 (by rw [q]); omega
    exact K_30 o n _ (by first | omega | assumption | rfl) hn4 (by rw [us_self (σ := σ) eo, us_self en]) (Or.inl ⟨hn4, rfl, rfl⟩) _ _ _ hw hS (lv_sub hl [0, 1] rfl)
  · obtain rfl : n = 4 := by rw [ex_1, en] at c_5; exact (nI_eq (by omega) (by decide)).mp c_5
    refine lv_aload_n hx hb dX0_record_8 rfl (lv_at hl 0 rfl) ?_
    refine lv_aload_n hx hb dX0_record_9 rfl (lv_at hl 0 rfl) ?_
    refine gf_X0_oldest hx hb hE hw (Nat.zero_lt_one) hown (hts (.fieldLink RX0 15 "ZonedLight$History" "oldest" "I") (by decide +kernel)) dX0_record_10 ?_
    refine lv_topi (fun x_10 ex_10 => ?_)
    obtain rfl : x_10 = nI o := by rw [ex_10, eo]
    refine lv_iconst (v := nI 1) hx hb dX0_record_13 (by decide) ?_
    refine n_iadd hx hb dX0_record_14 ?_
    refine lv_iconst (v := nI 4) hx hb dX0_record_15 (by decide) ?_
    refine n_irem hx hb dX0_record_16 (by omega) (by decide) (by decide) ?_
    refine gp_X0_oldest hx hb hE hw hS (Nat.zero_lt_one) hown (hts (.fieldLink RX0 15 "ZonedLight$History" "oldest" "I") (by decide +kernel)) dX0_record_17 (fun H locs hw hS => ?_)
    refine lv_aload_n hx hb dX0_record_20 rfl (lv_at hl 0 rfl) ?_
    refine lv_dup hx hb dX0_record_21 rfl ?_
    refine gf_X0_size hx hb hE hw (Nat.zero_lt_one) hown (hts (.fieldLink RX0 19 "ZonedLight$History" "size" "I") (by decide +kernel)) dX0_record_22 ?_
    refine lv_topi (fun x_22 ex_22 => ?_)
    obtain rfl : x_22 = nI 4 := by rw [ex_22, us_not (by decide), en]
    refine lv_iconst (v := nI 1) hx hb dX0_record_25 (by decide) ?_
    refine n_isub hx hb dX0_record_26 (by decide) ?_
    refine gp_X0_size hx hb hE hw hS (Nat.zero_lt_one) hown (hts (.fieldLink RX0 19 "ZonedLight$History" "size" "I") (by decide +kernel)) dX0_record_27 (fun H locs hw hS => ?_)
    exact K_30 ((o + 1) % 4) 3 _ (by first | omega | assumption | rfl) (by decide) rfl (Or.inr ⟨rfl, rfl, rfl⟩) _ _ _ hw hS (lv_sub hl [0, 1] rfl)
