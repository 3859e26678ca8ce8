/-! CONTRACTS, laid by program -/
set_option maxHeartbeats 4000000 in
set_option maxRecDepth 100000 in
/-- ZonedLight$Screen.peak(I)I -/
theorem c_X3_peak (l : Launch) (G : GG) (A : Nat → Prop) (σ : St) (s : Nat) (z : Nat) (hs : s < 7) (hz : z < 18) : MI l yX3_peak wsX3_peak 2 44 G A σ [.ref (G.1 0 s), .int (nI z)] (fun r τ => r = peakF (scr σ s) z ∧ τ = σ) := by
  refine MI.on (by decide) rfl (Nat.le_of_ble_eq_true rfl) (fun pP eE sS mM args below meth cC ls hx hb hml hr hown hlk hts hE hw hS hl => ?_)
  have hl : lv_has ls 4 [(0, .ref (G.1 0 s)), (1, .int (nI z))] := hl
  refine lv_iconst (v := nI 0) hx hb dX3_peak_0 (by decide) ?_
  refine lv_istore_n (lv' := [(2, .int (nI 0)), (0, .ref (G.1 0 s)), (1, .int (nI z))]) hx hb dX3_peak_1 rfl hl (by decide) rfl (fun ls hl => ?_)
  refine lv_iconst (v := nI 0) hx hb dX3_peak_2 (by decide) ?_
  refine lv_istore_n (lv' := [(3, .int (nI 0)), (2, .int (nI 0)), (0, .ref (G.1 0 s)), (1, .int (nI z))]) hx hb dX3_peak_3 rfl hl (by decide) rfl (fun ls hl => ?_)
  have K_4 : ∀ (fuel : Nat) (k : Nat) (acc : Int32), (k ≤ 16) → (acc = peakK (scr σ s) z k) → 16 - k < fuel → ∀ (H : Heap) (locs : List Loc) (ls : Array Slot), Wcel G σ H → va_S A sS.heap H locs → lv_has ls 4 [(0, .ref (G.1 0 s)), (1, .int (nI z)), (2, .int acc), (3, .int (nI k))] → W pP l eE { frames := 2, cells := 0, slots := 0, locals := 44 } sS mM args below meth cC H locs 0 0 (MQ below (va_Qi (fun r τ => r = peakF (scr σ s) z ∧ τ = σ) (fun τ t => gP G A τ t) A) args sS 0 0 A) (F0 mM 4 ls []) := by
    intro fuel
    induction fuel with
    | zero =>
      intro k acc hk ha hfu
      exact absurd hfu (Nat.not_lt_zero _)
    | succ fuel K_4 =>
      intro k acc hk ha hfu H locs ls hw hS hl
      refine lv_iload_n hx hb dX3_peak_4 rfl (lv_at hl 3 rfl) ?_
      refine lv_bipush (v := nI 16) hx hb dX3_peak_5 (by decide) ?_
      refine n_cmp_ge (tgt := 31) hx hb dX3_peak_7 (by decide) (by omega) (by omega) (fun c_7 => ?_) (fun c_7 => ?_)
      · refine lv_iload_n hx hb dX3_peak_31 rfl (lv_at hl 2 rfl) ?_
        refine g_iret hx hb hr hlk hE hw hS dX3_peak_32 ?_
        exact ⟨by rw [ha, show k = 16 by omega]; rfl, rfl⟩
      · refine lv_iload_n hx hb dX3_peak_10 rfl (lv_at hl 2 rfl) ?_
        refine lv_aload_n hx hb dX3_peak_11 rfl (lv_at hl 0 rfl) ?_
        refine gf_X3_asked hx hb hE hw (show s < 7 by omega) hown (hts (.fieldLink RX3 9 "ZonedLight$Screen" "asked" "[I") (by decide +kernel)) dX3_peak_12 ?_
        refine lv_iload_n hx hb dX3_peak_15 rfl (lv_at hl 1 rfl) ?_
        refine lv_iload_n hx hb dX3_peak_16 rfl (lv_at hl 3 rfl) ?_
        refine g_SNi (n := 2) (As := [.int (nI z), .int (nI k)]) (rest := [.ref (G.1 1 s), .int acc]) hx hb hml hown hts hE hw hS gX3_peak_X5_spotOfZone_n60 (host := "ZonedLight") (by decide +kernel) (hts (.initialized RX5) (by decide +kernel)) (hts (.static yX5_spotOfZone) (by decide +kernel)) (c_X5_spotOfZone l G A _ z k (by omega) (by omega)) rfl (by decide +kernel) ⟨Nat.le_of_ble_eq_true rfl, Nat.le_of_ble_eq_true rfl⟩ rfl hl.1 rfl (Nat.le_of_ble_eq_true rfl) ⟨Nat.le_of_ble_eq_true rfl, Nat.le_of_ble_eq_true rfl⟩ dX3_peak_17 (fun r_17 τ_17 H locs hp_17 hw hS => ?_)
        obtain ⟨rfl, hτ_17⟩ := hp_17
        rw [hτ_17] at hw
        refine g_ald hx hb hE hw (n := 288) (show s < 7 by omega) rfl (by decide) (spotN_lt hz c_7) dX3_peak_20 ?_
        refine lv_topi (fun x_20 ex_20 => ?_)
        refine g_max hx hb (hml.trans hl.1.symm) hE hown (hts (.methodLink RX3 50 Lib.Math.max.name) (by decide +kernel)) ⟨Nat.le_of_ble_eq_true rfl, Nat.le_of_ble_eq_true rfl⟩ ⟨Nat.le_of_ble_eq_true rfl, Nat.le_of_ble_eq_true rfl⟩ dX3_peak_21 ?_
        refine lv_topi (fun x_21 ex_21 => ?_)
        refine lv_istore_n (lv' := [(2, .int x_21), (0, .ref (G.1 0 s)), (1, .int (nI z)), (3, .int (nI k))]) hx hb dX3_peak_24 rfl hl (by decide) rfl (fun ls hl => ?_)
        refine lv_iinc (v := nI (k + 1)) (lv' := [(3, .int (nI (k + 1))), (2, .int x_21), (0, .ref (G.1 0 s)), (1, .int (nI z))]) hx hb dX3_peak_25 hl (k := 3) rfl (nI_add _ _) (by decide) rfl (fun ls hl => ?_)
        refine lv_goto (tgt := 4) hx hb dX3_peak_28 (by decide) ?_
        exact K_4 (k + 1) x_21 (by first | omega | assumption | rfl) (by rw [ex_21, ex_20, ha, ← scr_asked (σ := σ) (s := s) (spotN_lt hz c_7)]; rfl) (by omega) _ _ _ hw hS (lv_sub hl [2, 3, 1, 0] rfl)
  exact K_4 (16 - 0 + 1) 0 (nI 0) (by first | omega | assumption | rfl) (by first | omega | assumption | rfl) (Nat.lt_succ_self _) _ _ _ hw hS (lv_sub hl [2, 3, 1, 0] rfl)
set_option maxHeartbeats 4000000 in
set_option maxRecDepth 100000 in
/-- ZonedLight$Screen.mean(I)I -/
theorem c_X3_mean (l : Launch) (G : GG) (A : Nat → Prop) (σ : St) (s : Nat) (z : Nat) (hs : s < 7) (hz : z < 18) : MI l yX3_mean wsX3_mean 2 44 G A σ [.ref (G.1 0 s), .int (nI z)] (fun r τ => r = meanF (scr σ s) z ∧ τ = σ) := by
  refine MI.on (by decide) rfl (Nat.le_of_ble_eq_true rfl) (fun pP eE sS mM args below meth cC ls hx hb hml hr hown hlk hts hE hw hS hl => ?_)
  have hl : lv_has ls 4 [(0, .ref (G.1 0 s)), (1, .int (nI z))] := hl
  refine lv_iconst (v := nI 0) hx hb dX3_mean_0 (by decide) ?_
  refine lv_istore_n (lv' := [(2, .int (nI 0)), (0, .ref (G.1 0 s)), (1, .int (nI z))]) hx hb dX3_mean_1 rfl hl (by decide) rfl (fun ls hl => ?_)
  refine lv_iconst (v := nI 0) hx hb dX3_mean_2 (by decide) ?_
  refine lv_istore_n (lv' := [(3, .int (nI 0)), (2, .int (nI 0)), (0, .ref (G.1 0 s)), (1, .int (nI z))]) hx hb dX3_mean_3 rfl hl (by decide) rfl (fun ls hl => ?_)
  have K_4 : ∀ (fuel : Nat) (k : Nat) (acc : Int32), (k ≤ 16) → (acc = sumK (scr σ s) z k) → 16 - k < fuel → ∀ (H : Heap) (locs : List Loc) (ls : Array Slot), Wcel G σ H → va_S A sS.heap H locs → lv_has ls 4 [(0, .ref (G.1 0 s)), (1, .int (nI z)), (2, .int acc), (3, .int (nI k))] → W pP l eE { frames := 2, cells := 0, slots := 0, locals := 44 } sS mM args below meth cC H locs 0 0 (MQ below (va_Qi (fun r τ => r = meanF (scr σ s) z ∧ τ = σ) (fun τ t => gP G A τ t) A) args sS 0 0 A) (F0 mM 4 ls []) := by
    intro fuel
    induction fuel with
    | zero =>
      intro k acc hk ha hfu
      exact absurd hfu (Nat.not_lt_zero _)
    | succ fuel K_4 =>
      intro k acc hk ha hfu H locs ls hw hS hl
      refine lv_iload_n hx hb dX3_mean_4 rfl (lv_at hl 3 rfl) ?_
      refine lv_bipush (v := nI 16) hx hb dX3_mean_5 (by decide) ?_
      refine n_cmp_ge (tgt := 29) hx hb dX3_mean_7 (by decide) (by omega) (by omega) (fun c_7 => ?_) (fun c_7 => ?_)
      · refine lv_iload_n hx hb dX3_mean_29 rfl (lv_at hl 2 rfl) ?_
        refine lv_bipush (v := nI 16) hx hb dX3_mean_30 (by decide) ?_
        refine lv_idiv hx hb dX3_mean_32 (by decide) ?_
        refine lv_topi (fun x_32 ex_32 => ?_)
        refine g_iret hx hb hr hlk hE hw hS dX3_mean_33 ?_
        exact ⟨by rw [ex_32, ha, show k = 16 by omega]; rfl, rfl⟩
      · refine lv_iload_n hx hb dX3_mean_10 rfl (lv_at hl 2 rfl) ?_
        refine lv_aload_n hx hb dX3_mean_11 rfl (lv_at hl 0 rfl) ?_
        refine gf_X3_asked hx hb hE hw (show s < 7 by omega) hown (hts (.fieldLink RX3 9 "ZonedLight$Screen" "asked" "[I") (by decide +kernel)) dX3_mean_12 ?_
        refine lv_iload_n hx hb dX3_mean_15 rfl (lv_at hl 1 rfl) ?_
        refine lv_iload_n hx hb dX3_mean_16 rfl (lv_at hl 3 rfl) ?_
        refine g_SNi (n := 2) (As := [.int (nI z), .int (nI k)]) (rest := [.ref (G.1 1 s), .int acc]) hx hb hml hown hts hE hw hS gX3_mean_X5_spotOfZone_n60 (host := "ZonedLight") (by decide +kernel) (hts (.initialized RX5) (by decide +kernel)) (hts (.static yX5_spotOfZone) (by decide +kernel)) (c_X5_spotOfZone l G A _ z k (by omega) (by omega)) rfl (by decide +kernel) ⟨Nat.le_of_ble_eq_true rfl, Nat.le_of_ble_eq_true rfl⟩ rfl hl.1 rfl (Nat.le_of_ble_eq_true rfl) ⟨Nat.le_of_ble_eq_true rfl, Nat.le_of_ble_eq_true rfl⟩ dX3_mean_17 (fun r_17 τ_17 H locs hp_17 hw hS => ?_)
        obtain ⟨rfl, hτ_17⟩ := hp_17
        rw [hτ_17] at hw
        refine g_ald hx hb hE hw (n := 288) (show s < 7 by omega) rfl (by decide) (spotN_lt hz c_7) dX3_mean_20 ?_
        refine lv_topi (fun x_20 ex_20 => ?_)
        refine lv_iadd hx hb dX3_mean_21 ?_
        refine lv_topi (fun x_21 ex_21 => ?_)
        refine lv_istore_n (lv' := [(2, .int x_21), (0, .ref (G.1 0 s)), (1, .int (nI z)), (3, .int (nI k))]) hx hb dX3_mean_22 rfl hl (by decide) rfl (fun ls hl => ?_)
        refine lv_iinc (v := nI (k + 1)) (lv' := [(3, .int (nI (k + 1))), (2, .int x_21), (0, .ref (G.1 0 s)), (1, .int (nI z))]) hx hb dX3_mean_23 hl (k := 3) rfl (nI_add _ _) (by decide) rfl (fun ls hl => ?_)
        refine lv_goto (tgt := 4) hx hb dX3_mean_26 (by decide) ?_
        exact K_4 (k + 1) x_21 (by first | omega | assumption | rfl) (by rw [ex_21, ex_20, ha, ← scr_asked (σ := σ) (s := s) (spotN_lt hz c_7)]; rfl) (by omega) _ _ _ hw hS (lv_sub hl [2, 3, 1, 0] rfl)
  exact K_4 (16 - 0 + 1) 0 (nI 0) (by first | omega | assumption | rfl) (by first | omega | assumption | rfl) (Nat.lt_succ_self _) _ _ _ hw hS (lv_sub hl [2, 3, 1, 0] rfl)
set_option maxHeartbeats 4000000 in
set_option maxRecDepth 100000 in
/-- ZonedLight$Screen.asksBlack(I)Z -/
theorem c_X3_asksBlack (l : Launch) (G : GG) (A : Nat → Prop) (σ : St) (s : Nat) (z : Nat) (hs : s < 7) (hz : z < 18) : MI l yX3_asksBlack wsX3_asksBlack 2 44 G A σ [.ref (G.1 0 s), .int (nI z)] (fun r τ => bP r (blackF (scr σ s) z = true) ∧ τ = σ) := by
  refine MI.on (by decide) rfl (Nat.le_of_ble_eq_true rfl) (fun pP eE sS mM args below meth cC ls hx hb hml hr hown hlk hts hE hw hS hl => ?_)
  have hl : lv_has ls 3 [(0, .ref (G.1 0 s)), (1, .int (nI z))] := hl
  refine lv_iconst (v := nI 0) hx hb dX3_asksBlack_0 (by decide) ?_
  refine lv_istore_n (lv' := [(2, .int (nI 0)), (0, .ref (G.1 0 s)), (1, .int (nI z))]) hx hb dX3_asksBlack_1 rfl hl (by decide) rfl (fun ls hl => ?_)
  have K_2 : ∀ (fuel : Nat) (k : Nat), (k ≤ 16) → (blackK (scr σ s) z k = false) → 16 - k < fuel → ∀ (H : Heap) (locs : List Loc) (ls : Array Slot), Wcel G σ H → va_S A sS.heap H locs → lv_has ls 3 [(0, .ref (G.1 0 s)), (1, .int (nI z)), (2, .int (nI k))] → W pP l eE { frames := 2, cells := 0, slots := 0, locals := 44 } sS mM args below meth cC H locs 0 0 (MQ below (va_Qi (fun r τ => bP r (blackF (scr σ s) z = true) ∧ τ = σ) (fun τ t => gP G A τ t) A) args sS 0 0 A) (F0 mM 2 ls []) := by
    intro fuel
    induction fuel with
    | zero =>
      intro k hk ha hfu
      exact absurd hfu (Nat.not_lt_zero _)
    | succ fuel K_2 =>
      intro k hk ha hfu H locs ls hw hS hl
      refine lv_iload_n hx hb dX3_asksBlack_2 rfl (lv_at hl 2 rfl) ?_
      refine lv_bipush (v := nI 16) hx hb dX3_asksBlack_3 (by decide) ?_
      refine n_cmp_ge (tgt := 29) hx hb dX3_asksBlack_5 (by decide) (by omega) (by omega) (fun c_5 => ?_) (fun c_5 => ?_)
      · refine lv_iconst (v := nI 0) hx hb dX3_asksBlack_29 (by decide) ?_
        refine g_zret hx hb hr hlk hE hw hS rfl dX3_asksBlack_30 ?_
        exact ⟨Or.inr ⟨rfl, fun q => by rw [show k = 16 by omega] at ha; rw [blackF, ha] at q; cases q⟩, rfl⟩
      · refine lv_aload_n hx hb dX3_asksBlack_8 rfl (lv_at hl 0 rfl) ?_
        refine gf_X3_asked hx hb hE hw (show s < 7 by omega) hown (hts (.fieldLink RX3 9 "ZonedLight$Screen" "asked" "[I") (by decide +kernel)) dX3_asksBlack_9 ?_
        refine lv_iload_n hx hb dX3_asksBlack_12 rfl (lv_at hl 1 rfl) ?_
        refine lv_iload_n hx hb dX3_asksBlack_13 rfl (lv_at hl 2 rfl) ?_
        refine g_SNi (n := 2) (As := [.int (nI z), .int (nI k)]) (rest := [.ref (G.1 1 s)]) hx hb hml hown hts hE hw hS gX3_asksBlack_X5_spotOfZone_n60 (host := "ZonedLight") (by decide +kernel) (hts (.initialized RX5) (by decide +kernel)) (hts (.static yX5_spotOfZone) (by decide +kernel)) (c_X5_spotOfZone l G A _ z k (by omega) (by omega)) rfl (by decide +kernel) ⟨Nat.le_of_ble_eq_true rfl, Nat.le_of_ble_eq_true rfl⟩ rfl hl.1 rfl (Nat.le_of_ble_eq_true rfl) ⟨Nat.le_of_ble_eq_true rfl, Nat.le_of_ble_eq_true rfl⟩ dX3_asksBlack_14 (fun r_14 τ_14 H locs hp_14 hw hS => ?_)
        obtain ⟨rfl, hτ_14⟩ := hp_14
        rw [hτ_14] at hw
        refine g_ald hx hb hE hw (n := 288) (show s < 7 by omega) rfl (by decide) (spotN_lt hz c_5) dX3_asksBlack_17 ?_
        refine lv_topi (fun x_17 ex_17 => ?_)
        refine lv_if_ne (tgt := 23) hx hb dX3_asksBlack_18 (by decide) (fun c_18 => ?_) (fun c_18 => ?_)
        · refine lv_iinc (v := nI (k + 1)) (lv' := [(2, .int (nI (k + 1))), (0, .ref (G.1 0 s)), (1, .int (nI z))]) hx hb dX3_asksBlack_23 hl (k := 2) rfl (nI_add _ _) (by decide) rfl (fun ls hl => ?_)
          refine lv_goto (tgt := 2) hx hb dX3_asksBlack_26 (by decide) ?_
          exact K_2 (k + 1) (by first | omega | assumption | rfl) (by show (blackK (scr σ s) z k || decide (scr σ s (spotN z k) = 0)) = false; rw [ha, scr_asked (σ := σ) (s := s) (spotN_lt hz c_5), ← ex_17, decide_eq_false c_18]; rfl) (by omega) _ _ _ hw hS (lv_sub hl [1, 2, 0] rfl)
        · refine lv_iconst (v := nI 1) hx hb dX3_asksBlack_21 (by decide) ?_
          refine g_zret hx hb hr hlk hE hw hS rfl dX3_asksBlack_22 ?_
          refine ⟨Or.inl ⟨rfl, ?_⟩, rfl⟩
          have e1 : blackK (scr σ s) z (k + 1) = true := by
            show (blackK (scr σ s) z k || decide (scr σ s (spotN z k) = 0)) = true
            rw [scr_asked (σ := σ) (s := s) (spotN_lt hz c_5), ← ex_17, decide_eq_true (c_18), Bool.or_true]
          have e2 := blackK_mono e1 (16 - (k + 1))
          rw [show k + 1 + (16 - (k + 1)) = 16 by omega] at e2
          exact e2
  exact K_2 (16 - 0 + 1) 0 (by first | omega | assumption | rfl) (by first | omega | assumption | rfl) (Nat.lt_succ_self _) _ _ _ hw hS (lv_sub hl [1, 2, 0] rfl)
set_option maxHeartbeats 4000000 in
set_option maxRecDepth 100000 in
/-- ZonedLight$Screen.glow(I[I)I -/
theorem c_X3_glow (l : Launch) (G : GG) (A : Nat → Prop) (σ : St) (s : Nat) (z : Nat) (hs : s < 7) (hz : z < 18) : MI l yX3_glow wsX3_glow 2 44 G A σ [.ref (G.1 0 s), .int (nI z), .ref (G.1 12 0)] (fun r τ => r = glowK (scr σ s) (σ 12 0) z 18 ∧ τ = σ) := by
  refine MI.on (by decide) rfl (Nat.le_of_ble_eq_true rfl) (fun pP eE sS mM args below meth cC ls hx hb hml hr hown hlk hts hE hw hS hl => ?_)
  have hl : lv_has ls 6 [(0, .ref (G.1 0 s)), (1, .int (nI z)), (2, .ref (G.1 12 0))] := hl
  refine lv_iconst (v := nI 0) hx hb dX3_glow_0 (by decide) ?_
  refine lv_istore_n (lv' := [(3, .int (nI 0)), (0, .ref (G.1 0 s)), (1, .int (nI z)), (2, .ref (G.1 12 0))]) hx hb dX3_glow_1 rfl hl (by decide) rfl (fun ls hl => ?_)
  refine lv_iconst (v := nI 0) hx hb dX3_glow_2 (by decide) ?_
  refine lv_istore (lv' := [(4, .int (nI 0)), (3, .int (nI 0)), (0, .ref (G.1 0 s)), (1, .int (nI z)), (2, .ref (G.1 12 0))]) hx hb dX3_glow_3 hl (by decide) rfl (fun ls hl => ?_)
  have K_5 : ∀ (fuel : Nat) (k : Nat) (acc : Int32), (k ≤ 18) → (acc = glowK (scr σ s) (σ 12 0) z k) → 18 - k < fuel → ∀ (H : Heap) (locs : List Loc) (ls : Array Slot), Wcel G σ H → va_S A sS.heap H locs → lv_has ls 6 [(0, .ref (G.1 0 s)), (1, .int (nI z)), (2, .ref (G.1 12 0)), (3, .int acc), (4, .int (nI k))] → W pP l eE { frames := 2, cells := 0, slots := 0, locals := 44 } sS mM args below meth cC H locs 0 0 (MQ below (va_Qi (fun r τ => r = glowK (scr σ s) (σ 12 0) z 18 ∧ τ = σ) (fun τ t => gP G A τ t) A) args sS 0 0 A) (F0 mM 5 ls []) := by
    intro fuel
    induction fuel with
    | zero =>
      intro k acc hk ha hfu
      exact absurd hfu (Nat.not_lt_zero _)
    | succ fuel K_5 =>
      intro k acc hk ha hfu H locs ls hw hS hl
      refine lv_iload hx hb dX3_glow_5 (lv_at hl 4 rfl) ?_
      refine lv_bipush (v := nI 18) hx hb dX3_glow_7 (by decide) ?_
      refine n_cmp_ge (tgt := 47) hx hb dX3_glow_9 (by decide) (by omega) (by omega) (fun c_9 => ?_) (fun c_9 => ?_)
      · refine lv_iload_n hx hb dX3_glow_47 rfl (lv_at hl 3 rfl) ?_
        refine g_iret hx hb hr hlk hE hw hS dX3_glow_48 ?_
        exact ⟨by rw [ha, show k = 18 by omega], rfl⟩
      · refine lv_iload_n hx hb dX3_glow_12 rfl (lv_at hl 1 rfl) ?_
        refine lv_iload hx hb dX3_glow_13 (lv_at hl 4 rfl) ?_
        refine g_SNi (n := 2) (As := [.int (nI z), .int (nI k)]) (rest := []) hx hb hml hown hts hE hw hS gX3_glow_X5_zonesApart_n63 (host := "ZonedLight") (by decide +kernel) (hts (.initialized RX5) (by decide +kernel)) (hts (.static yX5_zonesApart) (by decide +kernel)) (c_X5_zonesApart l G A _ z k (by omega) (by omega)) rfl (by decide +kernel) ⟨Nat.le_of_ble_eq_true rfl, Nat.le_of_ble_eq_true rfl⟩ rfl hl.1 rfl (Nat.le_of_ble_eq_true rfl) ⟨Nat.le_of_ble_eq_true rfl, Nat.le_of_ble_eq_true rfl⟩ dX3_glow_15 (fun r_15 τ_15 H locs hp_15 hw hS => ?_)
        obtain ⟨rfl, hτ_15⟩ := hp_15
        rw [hτ_15] at hw
        refine lv_istore (lv' := [(5, .int (nI (apartN z k))), (0, .ref (G.1 0 s)), (1, .int (nI z)), (2, .ref (G.1 12 0)), (3, .int acc), (4, .int (nI k))]) hx hb dX3_glow_18 hl (by decide) rfl (fun ls hl => ?_)
        refine lv_iload hx hb dX3_glow_20 (lv_at hl 0 rfl) ?_
        refine lv_iconst (v := nI 3) hx hb dX3_glow_22 (by decide) ?_
        refine n_cmp_ge (tgt := 41) hx hb dX3_glow_23 (by decide) (Nat.lt_trans (apartN_lt hz c_9) (by decide)) (by decide) (fun c_23 => ?_) (fun c_23 => ?_)
        · refine lv_iinc (v := nI (k + 1)) (lv' := [(4, .int (nI (k + 1))), (5, .int (nI (apartN z k))), (0, .ref (G.1 0 s)), (1, .int (nI z)), (2, .ref (G.1 12 0)), (3, .int acc)]) hx hb dX3_glow_41 hl (k := 5) rfl (nI_add _ _) (by decide) rfl (fun ls hl => ?_)
          refine lv_goto (tgt := 5) hx hb dX3_glow_44 (by decide) ?_
          exact K_5 (k + 1) acc (by first | omega | assumption | rfl) (by first | (rw [glowK, if_neg (Nat.not_lt.mpr c_23)]; exact ha) | (rw [glowK, if_pos c_23, ex_39, ex_38, ex_37, ex_30, ha, ← scr_set (σ := σ) (s := s) (show apartN z k < 8 by omega)])) (by omega) _ _ _ hw hS (lv_sub hl [2, 3, 4, 5, 0] rfl)
        · refine lv_iload_n hx hb dX3_glow_26 rfl (lv_at hl 4 rfl) ?_
          refine lv_aload_n hx hb dX3_glow_27 rfl (lv_at hl 3 rfl) ?_
          refine lv_iload hx hb dX3_glow_28 (lv_at hl 5 rfl) ?_
          refine g_ald hx hb hE hw (n := 18) (Nat.zero_lt_one) rfl (by decide) (by omega) dX3_glow_30 ?_
          refine lv_topi (fun x_30 ex_30 => ?_)
          refine lv_aload_n hx hb dX3_glow_31 rfl (lv_at hl 1 rfl) ?_
          refine gf_X3_setting hx hb hE hw (show s < 7 by omega) hown (hts (.fieldLink RX3 22 "ZonedLight$Screen" "setting" "[I") (by decide +kernel)) dX3_glow_32 ?_
          refine lv_iload hx hb dX3_glow_35 (lv_at hl 0 rfl) ?_
          refine g_ald hx hb hE hw (n := 8) (show s < 7 by omega) rfl (by decide) (by omega) dX3_glow_37 ?_
          refine lv_topi (fun x_37 ex_37 => ?_)
          refine lv_imul hx hb dX3_glow_38 ?_
          refine lv_topi (fun x_38 ex_38 => ?_)
          refine lv_iadd hx hb dX3_glow_39 ?_
          refine lv_topi (fun x_39 ex_39 => ?_)
          refine lv_istore_n (lv' := [(3, .int x_39), (5, .int (nI (apartN z k))), (0, .ref (G.1 0 s)), (1, .int (nI z)), (2, .ref (G.1 12 0)), (4, .int (nI k))]) hx hb dX3_glow_40 rfl hl (by decide) rfl (fun ls hl => ?_)
          refine lv_iinc (v := nI (k + 1)) (lv' := [(4, .int (nI (k + 1))), (3, .int x_39), (5, .int (nI (apartN z k))), (0, .ref (G.1 0 s)), (1, .int (nI z)), (2, .ref (G.1 12 0))]) hx hb dX3_glow_41 hl (k := 5) rfl (nI_add _ _) (by decide) rfl (fun ls hl => ?_)
          refine lv_goto (tgt := 5) hx hb dX3_glow_44 (by decide) ?_
          exact K_5 (k + 1) x_39 (by first | omega | assumption | rfl) (by first | (rw [glowK, if_neg (Nat.not_lt.mpr c_23)]; exact ha) | (rw [glowK, if_pos c_23, ex_39, ex_38, ex_37, ex_30, ha, ← scr_set (σ := σ) (s := s) (show apartN z k < 8 by omega)])) (by omega) _ _ _ hw hS (lv_sub hl [3, 4, 5, 1, 0] rfl)
  exact K_5 (18 - 0 + 1) 0 (nI 0) (by first | omega | assumption | rfl) (by first | omega | assumption | rfl) (Nat.lt_succ_self _) _ _ _ hw hS (lv_sub hl [2, 3, 4, 1, 0] rfl)
set_option maxHeartbeats 4000000 in
set_option maxRecDepth 100000 in
/-- ZonedLight$Screen.glow(I[I)I -/
theorem c_X3_glowS (l : Launch) (G : GG) (A : Nat → Prop) (σ : St) (s : Nat) (z : Nat) (hs : s < 7) (hz : z < 18) : MI l yX3_glow wsX3_glow 2 44 G A σ [.ref (G.1 0 s), .int (nI z), .ref (G.1 2 s)] (fun r τ => r = glowK (scr σ s) (levO (scr σ s)) z 18 ∧ τ = σ) := by
  refine MI.on (by decide) rfl (Nat.le_of_ble_eq_true rfl) (fun pP eE sS mM args below meth cC ls hx hb hml hr hown hlk hts hE hw hS hl => ?_)
  have hl : lv_has ls 6 [(0, .ref (G.1 0 s)), (1, .int (nI z)), (2, .ref (G.1 2 s))] := hl
  refine lv_iconst (v := nI 0) hx hb dX3_glow_0 (by decide) ?_
  refine lv_istore_n (lv' := [(3, .int (nI 0)), (0, .ref (G.1 0 s)), (1, .int (nI z)), (2, .ref (G.1 2 s))]) hx hb dX3_glow_1 rfl hl (by decide) rfl (fun ls hl => ?_)
  refine lv_iconst (v := nI 0) hx hb dX3_glow_2 (by decide) ?_
  refine lv_istore (lv' := [(4, .int (nI 0)), (3, .int (nI 0)), (0, .ref (G.1 0 s)), (1, .int (nI z)), (2, .ref (G.1 2 s))]) hx hb dX3_glow_3 hl (by decide) rfl (fun ls hl => ?_)
  have K_5 : ∀ (fuel : Nat) (k : Nat) (acc : Int32), (k ≤ 18) → (acc = glowK (scr σ s) (levO (scr σ s)) z k) → 18 - k < fuel → ∀ (H : Heap) (locs : List Loc) (ls : Array Slot), Wcel G σ H → va_S A sS.heap H locs → lv_has ls 6 [(0, .ref (G.1 0 s)), (1, .int (nI z)), (2, .ref (G.1 2 s)), (3, .int acc), (4, .int (nI k))] → W pP l eE { frames := 2, cells := 0, slots := 0, locals := 44 } sS mM args below meth cC H locs 0 0 (MQ below (va_Qi (fun r τ => r = glowK (scr σ s) (levO (scr σ s)) z 18 ∧ τ = σ) (fun τ t => gP G A τ t) A) args sS 0 0 A) (F0 mM 5 ls []) := by
    intro fuel
    induction fuel with
    | zero =>
      intro k acc hk ha hfu
      exact absurd hfu (Nat.not_lt_zero _)
    | succ fuel K_5 =>
      intro k acc hk ha hfu H locs ls hw hS hl
      refine lv_iload hx hb dX3_glow_5 (lv_at hl 4 rfl) ?_
      refine lv_bipush (v := nI 18) hx hb dX3_glow_7 (by decide) ?_
      refine n_cmp_ge (tgt := 47) hx hb dX3_glow_9 (by decide) (by omega) (by omega) (fun c_9 => ?_) (fun c_9 => ?_)
      · refine lv_iload_n hx hb dX3_glow_47 rfl (lv_at hl 3 rfl) ?_
        refine g_iret hx hb hr hlk hE hw hS dX3_glow_48 ?_
        exact ⟨by rw [ha, show k = 18 by omega], rfl⟩
      · refine lv_iload_n hx hb dX3_glow_12 rfl (lv_at hl 1 rfl) ?_
        refine lv_iload hx hb dX3_glow_13 (lv_at hl 4 rfl) ?_
        refine g_SNi (n := 2) (As := [.int (nI z), .int (nI k)]) (rest := []) hx hb hml hown hts hE hw hS gX3_glow_X5_zonesApart_n63 (host := "ZonedLight") (by decide +kernel) (hts (.initialized RX5) (by decide +kernel)) (hts (.static yX5_zonesApart) (by decide +kernel)) (c_X5_zonesApart l G A _ z k (by omega) (by omega)) rfl (by decide +kernel) ⟨Nat.le_of_ble_eq_true rfl, Nat.le_of_ble_eq_true rfl⟩ rfl hl.1 rfl (Nat.le_of_ble_eq_true rfl) ⟨Nat.le_of_ble_eq_true rfl, Nat.le_of_ble_eq_true rfl⟩ dX3_glow_15 (fun r_15 τ_15 H locs hp_15 hw hS => ?_)
        obtain ⟨rfl, hτ_15⟩ := hp_15
        rw [hτ_15] at hw
        refine lv_istore (lv' := [(5, .int (nI (apartN z k))), (0, .ref (G.1 0 s)), (1, .int (nI z)), (2, .ref (G.1 2 s)), (3, .int acc), (4, .int (nI k))]) hx hb dX3_glow_18 hl (by decide) rfl (fun ls hl => ?_)
        refine lv_iload hx hb dX3_glow_20 (lv_at hl 0 rfl) ?_
        refine lv_iconst (v := nI 3) hx hb dX3_glow_22 (by decide) ?_
        refine n_cmp_ge (tgt := 41) hx hb dX3_glow_23 (by decide) (Nat.lt_trans (apartN_lt hz c_9) (by decide)) (by decide) (fun c_23 => ?_) (fun c_23 => ?_)
        · refine lv_iinc (v := nI (k + 1)) (lv' := [(4, .int (nI (k + 1))), (5, .int (nI (apartN z k))), (0, .ref (G.1 0 s)), (1, .int (nI z)), (2, .ref (G.1 2 s)), (3, .int acc)]) hx hb dX3_glow_41 hl (k := 5) rfl (nI_add _ _) (by decide) rfl (fun ls hl => ?_)
          refine lv_goto (tgt := 5) hx hb dX3_glow_44 (by decide) ?_
          exact K_5 (k + 1) acc (by first | omega | assumption | rfl) (by first | (rw [glowK, if_neg (Nat.not_lt.mpr c_23)]; exact ha) | (rw [glowK, if_pos c_23, ex_39, ex_38, ex_37, ex_30, ha, ← scr_set (σ := σ) (s := s) (show apartN z k < 8 by omega)]; rw [← scr_level (σ := σ) (s := s) c_9]; rfl)) (by omega) _ _ _ hw hS (lv_sub hl [2, 3, 4, 5, 0] rfl)
        · refine lv_iload_n hx hb dX3_glow_26 rfl (lv_at hl 4 rfl) ?_
          refine lv_aload_n hx hb dX3_glow_27 rfl (lv_at hl 3 rfl) ?_
          refine lv_iload hx hb dX3_glow_28 (lv_at hl 5 rfl) ?_
          refine g_ald hx hb hE hw (n := 18) (show s < 7 by omega) rfl (by decide) (by omega) dX3_glow_30 ?_
          refine lv_topi (fun x_30 ex_30 => ?_)
          refine lv_aload_n hx hb dX3_glow_31 rfl (lv_at hl 1 rfl) ?_
          refine gf_X3_setting hx hb hE hw (show s < 7 by omega) hown (hts (.fieldLink RX3 22 "ZonedLight$Screen" "setting" "[I") (by decide +kernel)) dX3_glow_32 ?_
          refine lv_iload hx hb dX3_glow_35 (lv_at hl 0 rfl) ?_
          refine g_ald hx hb hE hw (n := 8) (show s < 7 by omega) rfl (by decide) (by omega) dX3_glow_37 ?_
          refine lv_topi (fun x_37 ex_37 => ?_)
          refine lv_imul hx hb dX3_glow_38 ?_
          refine lv_topi (fun x_38 ex_38 => ?_)
          refine lv_iadd hx hb dX3_glow_39 ?_
          refine lv_topi (fun x_39 ex_39 => ?_)
          refine lv_istore_n (lv' := [(3, .int x_39), (5, .int (nI (apartN z k))), (0, .ref (G.1 0 s)), (1, .int (nI z)), (2, .ref (G.1 2 s)), (4, .int (nI k))]) hx hb dX3_glow_40 rfl hl (by decide) rfl (fun ls hl => ?_)
          refine lv_iinc (v := nI (k + 1)) (lv' := [(4, .int (nI (k + 1))), (3, .int x_39), (5, .int (nI (apartN z k))), (0, .ref (G.1 0 s)), (1, .int (nI z)), (2, .ref (G.1 2 s))]) hx hb dX3_glow_41 hl (k := 5) rfl (nI_add _ _) (by decide) rfl (fun ls hl => ?_)
          refine lv_goto (tgt := 5) hx hb dX3_glow_44 (by decide) ?_
          exact K_5 (k + 1) x_39 (by first | omega | assumption | rfl) (by first | (rw [glowK, if_neg (Nat.not_lt.mpr c_23)]; exact ha) | (rw [glowK, if_pos c_23, ex_39, ex_38, ex_37, ex_30, ha, ← scr_set (σ := σ) (s := s) (show apartN z k < 8 by omega)]; rw [← scr_level (σ := σ) (s := s) c_9]; rfl)) (by omega) _ _ _ hw hS (lv_sub hl [3, 4, 5, 1, 0] rfl)
  exact K_5 (18 - 0 + 1) 0 (nI 0) (by first | omega | assumption | rfl) (by first | omega | assumption | rfl) (Nat.lt_succ_self _) _ _ _ hw hS (lv_sub hl [2, 3, 4, 1, 0] rfl)
set_option maxHeartbeats 4000000 in
set_option maxRecDepth 100000 in
/-- ZonedLight$Screen.light(I)I -/
theorem c_X3_light (l : Launch) (G : GG) (A : Nat → Prop) (σ : St) (s : Nat) (z : Nat) (hs : s < 7) (hz : z < 18) : MI l yX3_light wsX3_light 3 69 G A σ [.ref (G.1 0 s), .int (nI z)] (fun r τ => r = lightF (scr σ s) (levO (scr σ s)) z ∧ τ = σ) := by
  refine MI.on (by decide) rfl (Nat.le_of_ble_eq_true rfl) (fun pP eE sS mM args below meth cC ls hx hb hml hr hown hlk hts hE hw hS hl => ?_)
  have hl : lv_has ls 2 [(0, .ref (G.1 0 s)), (1, .int (nI z))] := hl
  refine lv_aload_n hx hb dX3_light_0 rfl (lv_at hl 0 rfl) ?_
  refine lv_iload_n hx hb dX3_light_1 rfl (lv_at hl 1 rfl) ?_
  refine lv_aload_n hx hb dX3_light_2 rfl (lv_at hl 0 rfl) ?_
  refine gf_X3_level hx hb hE hw (show s < 7 by omega) hown (hts (.fieldLink RX3 15 "ZonedLight$Screen" "level" "[I") (by decide +kernel)) dX3_light_3 ?_
  refine g_Vi (n := 2) (As := [.int (nI z), .ref (G.1 2 s)]) (rest := []) hx hb hml hown hts hE hw hS gX3_light_X3_glow (c_X3_glowS l G A _ s z (by omega) (by omega)) rfl (by decide +kernel) ⟨Nat.le_of_ble_eq_true rfl, Nat.le_of_ble_eq_true rfl⟩ (show s < 7 by omega) rfl rfl rfl rfl hl.1 rfl (Nat.le_of_ble_eq_true rfl) ⟨Nat.le_of_ble_eq_true rfl, Nat.le_of_ble_eq_true rfl⟩ dX3_light_6 (fun x_6 τ_6 H locs hp_6 hw hS => ?_)
  obtain ⟨ex_6, hτ_6⟩ := hp_6
  rw [hτ_6] at hw
  refine g_SNi (n := 1) (As := [.int x_6]) (rest := []) hx hb hml hown hts hE hw hS gX3_light_X5_lightOf_n70 (host := "ZonedLight") (by decide +kernel) (hts (.initialized RX5) (by decide +kernel)) (hts (.static yX5_lightOf) (by decide +kernel)) (c_X5_lightOf l G A _ x_6) rfl (by decide +kernel) ⟨Nat.le_of_ble_eq_true rfl, Nat.le_of_ble_eq_true rfl⟩ rfl hl.1 rfl (Nat.le_of_ble_eq_true rfl) ⟨Nat.le_of_ble_eq_true rfl, Nat.le_of_ble_eq_true rfl⟩ dX3_light_9 (fun x_9 τ_9 H locs hp_9 hw hS => ?_)
  obtain ⟨ex_9, hτ_9⟩ := hp_9
  rw [hτ_9] at hw
  refine g_iret hx hb hr hlk hE hw hS dX3_light_12 ?_
  exact ⟨by rw [ex_9, ex_6]; rfl, rfl⟩
set_option maxHeartbeats 4000000 in
set_option maxRecDepth 100000 in
/-- ZonedLight$Screen.leakOf(I)I -/
theorem c_X3_leakOf (l : Launch) (G : GG) (A : Nat → Prop) (σ : St) (s : Nat) (x : Int32) (hs : s < 7) : MI l yX3_leakOf wsX3_leakOf 0 0 G A σ [.ref (G.1 0 s), .int x] (fun r τ => r = leakF (scr σ s) x ∧ τ = σ) := by
  refine MI.on (by decide) rfl (Nat.le_of_ble_eq_true rfl) (fun pP eE sS mM args below meth cC ls hx hb hml hr hown hlk hts hE hw hS hl => ?_)
  have hl : lv_has ls 2 [(0, .ref (G.1 0 s)), (1, .int x)] := hl
  refine lv_iload_n hx hb dX3_leakOf_0 rfl (lv_at hl 1 rfl) ?_
  refine lv_aload_n hx hb dX3_leakOf_1 rfl (lv_at hl 0 rfl) ?_
  refine gf_X3_setting hx hb hE hw (show s < 7 by omega) hown (hts (.fieldLink RX3 22 "ZonedLight$Screen" "setting" "[I") (by decide +kernel)) dX3_leakOf_2 ?_
  refine lv_iconst (v := nI 5) hx hb dX3_leakOf_5 (by decide) ?_
  refine g_ald hx hb hE hw (n := 8) (show s < 7 by omega) rfl (by decide) (by omega) dX3_leakOf_6 ?_
  refine lv_topi (fun x_6 ex_6 => ?_)
  refine lv_imul hx hb dX3_leakOf_7 ?_
  refine lv_topi (fun x_7 ex_7 => ?_)
  refine lv_sipush (v := nI 1000) hx hb dX3_leakOf_8 (by decide) ?_
  refine lv_idiv hx hb dX3_leakOf_11 (by decide) ?_
  refine lv_topi (fun x_11 ex_11 => ?_)
  refine g_iret hx hb hr hlk hE hw hS dX3_leakOf_12 ?_
  exact ⟨by rw [ex_11, ex_7, ex_6, ← scr_set (σ := σ) (s := s) (k := 5) (by decide)]; rfl, rfl⟩
set_option maxHeartbeats 4000000 in
set_option maxRecDepth 100000 in
/-- ZonedLight$Screen.shown(II)I -/
theorem c_X3_shown (l : Launch) (G : GG) (A : Nat → Prop) (σ : St) (s : Nat) (x : Int32) (y : Int32) (hs : s < 7) : MI l yX3_shown wsX3_shown 2 42 G A σ [.ref (G.1 0 s), .int x, .int y] (fun r τ => r = shownF (scr σ s) x y ∧ τ = σ) := by
  refine MI.on (by decide) rfl (Nat.le_of_ble_eq_true rfl) (fun pP eE sS mM args below meth cC ls hx hb hml hr hown hlk hts hE hw hS hl => ?_)
  have hl : lv_has ls 3 [(0, .ref (G.1 0 s)), (1, .int x), (2, .int y)] := hl
  refine lv_iload_n hx hb dX3_shown_0 rfl (lv_at hl 2 rfl) ?_
  refine lv_iload_n hx hb dX3_shown_1 rfl (lv_at hl 1 rfl) ?_
  refine lv_iload_n hx hb dX3_shown_2 rfl (lv_at hl 2 rfl) ?_
  refine g_SNi (n := 2) (As := [.int x, .int y]) (rest := [.int y]) hx hb hml hown hts hE hw hS gX3_shown_X5_glassFor_n74 (host := "ZonedLight") (by decide +kernel) (hts (.initialized RX5) (by decide +kernel)) (hts (.static yX5_glassFor) (by decide +kernel)) (c_X5_glassFor l G A _ x y) rfl (by decide +kernel) ⟨Nat.le_of_ble_eq_true rfl, Nat.le_of_ble_eq_true rfl⟩ rfl hl.1 rfl (Nat.le_of_ble_eq_true rfl) ⟨Nat.le_of_ble_eq_true rfl, Nat.le_of_ble_eq_true rfl⟩ dX3_shown_3 (fun x_3 τ_3 H locs hp_3 hw hS => ?_)
  obtain ⟨ex_3, hτ_3⟩ := hp_3
  rw [hτ_3] at hw
  refine lv_imul hx hb dX3_shown_6 ?_
  refine lv_topi (fun x_6 ex_6 => ?_)
  refine lv_sipush (v := nI 255) hx hb dX3_shown_7 (by decide) ?_
  refine lv_idiv hx hb dX3_shown_10 (by decide) ?_
  refine lv_topi (fun x_10 ex_10 => ?_)
  refine lv_aload_n hx hb dX3_shown_11 rfl (lv_at hl 0 rfl) ?_
  refine lv_iload_n hx hb dX3_shown_12 rfl (lv_at hl 2 rfl) ?_
  refine g_Vi (n := 1) (As := [.int y]) (rest := [.int x_10]) hx hb hml hown hts hE hw hS gX3_shown_X3_leakOf (c_X3_leakOf l G A _ s y (by omega)) rfl (by decide +kernel) ⟨Nat.le_of_ble_eq_true rfl, Nat.le_of_ble_eq_true rfl⟩ (show s < 7 by omega) rfl rfl rfl rfl hl.1 rfl (Nat.le_of_ble_eq_true rfl) ⟨Nat.le_of_ble_eq_true rfl, Nat.le_of_ble_eq_true rfl⟩ dX3_shown_13 (fun x_13 τ_13 H locs hp_13 hw hS => ?_)
  obtain ⟨ex_13, hτ_13⟩ := hp_13
  rw [hτ_13] at hw
  refine g_max hx hb (hml.trans hl.1.symm) hE hown (hts (.methodLink RX3 50 Lib.Math.max.name) (by decide +kernel)) ⟨Nat.le_of_ble_eq_true rfl, Nat.le_of_ble_eq_true rfl⟩ ⟨Nat.le_of_ble_eq_true rfl, Nat.le_of_ble_eq_true rfl⟩ dX3_shown_16 ?_
  refine lv_topi (fun x_16 ex_16 => ?_)
  refine g_iret hx hb hr hlk hE hw hS dX3_shown_19 ?_
  exact ⟨by rw [ex_16, ex_13, ex_10, ex_6, ex_3]; rfl, rfl⟩
set_option maxHeartbeats 4000000 in
set_option maxRecDepth 100000 in
/-- ZonedLight$Screen.power()I -/
theorem c_X3_power (l : Launch) (G : GG) (A : Nat → Prop) (σ : St) (s : Nat) (hs : s < 7) : MI l yX3_power wsX3_power 0 0 G A σ [.ref (G.1 0 s)] (fun r τ => r = powK (levO (scr σ s)) 18 ∧ τ = σ) := by
  refine MI.on (by decide) rfl (Nat.le_of_ble_eq_true rfl) (fun pP eE sS mM args below meth cC ls hx hb hml hr hown hlk hts hE hw hS hl => ?_)
  have hl : lv_has ls 3 [(0, .ref (G.1 0 s))] := hl
  refine lv_iconst (v := nI 0) hx hb dX3_power_0 (by decide) ?_
  refine lv_istore_n (lv' := [(1, .int (nI 0)), (0, .ref (G.1 0 s))]) hx hb dX3_power_1 rfl hl (by decide) rfl (fun ls hl => ?_)
  refine lv_iconst (v := nI 0) hx hb dX3_power_2 (by decide) ?_
  refine lv_istore_n (lv' := [(2, .int (nI 0)), (1, .int (nI 0)), (0, .ref (G.1 0 s))]) hx hb dX3_power_3 rfl hl (by decide) rfl (fun ls hl => ?_)
  have K_4 : ∀ (fuel : Nat) (k : Nat) (acc : Int32), (k ≤ 18) → (acc = powK (levO (scr σ s)) k) → 18 - k < fuel → ∀ (H : Heap) (locs : List Loc) (ls : Array Slot), Wcel G σ H → va_S A sS.heap H locs → lv_has ls 3 [(0, .ref (G.1 0 s)), (1, .int acc), (2, .int (nI k))] → W pP l eE { frames := 0, cells := 0, slots := 0, locals := 0 } sS mM args below meth cC H locs 0 0 (MQ below (va_Qi (fun r τ => r = powK (levO (scr σ s)) 18 ∧ τ = σ) (fun τ t => gP G A τ t) A) args sS 0 0 A) (F0 mM 4 ls []) := by
    intro fuel
    induction fuel with
    | zero =>
      intro k acc hk ha hfu
      exact absurd hfu (Nat.not_lt_zero _)
    | succ fuel K_4 =>
      intro k acc hk ha hfu H locs ls hw hS hl
      refine lv_iload_n hx hb dX3_power_4 rfl (lv_at hl 2 rfl) ?_
      refine lv_bipush (v := nI 18) hx hb dX3_power_5 (by decide) ?_
      refine n_cmp_ge (tgt := 25) hx hb dX3_power_7 (by decide) (by omega) (by omega) (fun c_7 => ?_) (fun c_7 => ?_)
      · refine lv_iload_n hx hb dX3_power_25 rfl (lv_at hl 1 rfl) ?_
        refine g_iret hx hb hr hlk hE hw hS dX3_power_26 ?_
        exact ⟨by rw [ha, show k = 18 by omega], rfl⟩
      · refine lv_iload_n hx hb dX3_power_10 rfl (lv_at hl 1 rfl) ?_
        refine lv_aload_n hx hb dX3_power_11 rfl (lv_at hl 0 rfl) ?_
        refine gf_X3_level hx hb hE hw (show s < 7 by omega) hown (hts (.fieldLink RX3 15 "ZonedLight$Screen" "level" "[I") (by decide +kernel)) dX3_power_12 ?_
        refine lv_iload_n hx hb dX3_power_15 rfl (lv_at hl 2 rfl) ?_
        refine g_ald hx hb hE hw (n := 18) (show s < 7 by omega) rfl (by decide) (by omega) dX3_power_16 ?_
        refine lv_topi (fun x_16 ex_16 => ?_)
        refine lv_iadd hx hb dX3_power_17 ?_
        refine lv_topi (fun x_17 ex_17 => ?_)
        refine lv_istore_n (lv' := [(1, .int x_17), (0, .ref (G.1 0 s)), (2, .int (nI k))]) hx hb dX3_power_18 rfl hl (by decide) rfl (fun ls hl => ?_)
        refine lv_iinc (v := nI (k + 1)) (lv' := [(2, .int (nI (k + 1))), (1, .int x_17), (0, .ref (G.1 0 s))]) hx hb dX3_power_19 hl (k := 2) rfl (nI_add _ _) (by decide) rfl (fun ls hl => ?_)
        refine lv_goto (tgt := 4) hx hb dX3_power_22 (by decide) ?_
        exact K_4 (k + 1) x_17 (by first | omega | assumption | rfl) (by rw [powK, ex_17, ex_16, ha, ← scr_level (σ := σ) (s := s) c_7]; rfl) (by omega) _ _ _ hw hS (lv_sub hl [2, 1, 0] rfl)
  exact K_4 (18 - 0 + 1) 0 (nI 0) (by first | omega | assumption | rfl) (by first | omega | assumption | rfl) (Nat.lt_succ_self _) _ _ _ hw hS (lv_sub hl [2, 1, 0] rfl)
set_option maxHeartbeats 4000000 in
set_option maxRecDepth 100000 in
/-- ZonedLight$Screen.deadZones()I -/
theorem c_X3_deadZones (l : Launch) (G : GG) (A : Nat → Prop) (σ : St) (s : Nat) (hs : s < 7) : MI l yX3_deadZones wsX3_deadZones 0 0 G A σ [.ref (G.1 0 s)] (fun r τ => r = deadK (scr σ s) 18 ∧ τ = σ) := by
  refine MI.on (by decide) rfl (Nat.le_of_ble_eq_true rfl) (fun pP eE sS mM args below meth cC ls hx hb hml hr hown hlk hts hE hw hS hl => ?_)
  have hl : lv_has ls 3 [(0, .ref (G.1 0 s))] := hl
  refine lv_iconst (v := nI 0) hx hb dX3_deadZones_0 (by decide) ?_
  refine lv_istore_n (lv' := [(1, .int (nI 0)), (0, .ref (G.1 0 s))]) hx hb dX3_deadZones_1 rfl hl (by decide) rfl (fun ls hl => ?_)
  refine lv_iconst (v := nI 0) hx hb dX3_deadZones_2 (by decide) ?_
  refine lv_istore_n (lv' := [(2, .int (nI 0)), (1, .int (nI 0)), (0, .ref (G.1 0 s))]) hx hb dX3_deadZones_3 rfl hl (by decide) rfl (fun ls hl => ?_)
  have K_4 : ∀ (fuel : Nat) (k : Nat) (acc : Int32), (k ≤ 18) → (acc = deadK (scr σ s) k) → 18 - k < fuel → ∀ (H : Heap) (locs : List Loc) (ls : Array Slot), Wcel G σ H → va_S A sS.heap H locs → lv_has ls 3 [(0, .ref (G.1 0 s)), (1, .int acc), (2, .int (nI k))] → W pP l eE { frames := 0, cells := 0, slots := 0, locals := 0 } sS mM args below meth cC H locs 0 0 (MQ below (va_Qi (fun r τ => r = deadK (scr σ s) 18 ∧ τ = σ) (fun τ t => gP G A τ t) A) args sS 0 0 A) (F0 mM 4 ls []) := by
    intro fuel
    induction fuel with
    | zero =>
      intro k acc hk ha hfu
      exact absurd hfu (Nat.not_lt_zero _)
    | succ fuel K_4 =>
      intro k acc hk ha hfu H locs ls hw hS hl
      refine lv_iload_n hx hb dX3_deadZones_4 rfl (lv_at hl 2 rfl) ?_
      refine lv_bipush (v := nI 18) hx hb dX3_deadZones_5 (by decide) ?_
      refine n_cmp_ge (tgt := 28) hx hb dX3_deadZones_7 (by decide) (by omega) (by omega) (fun c_7 => ?_) (fun c_7 => ?_)
      · refine lv_iload_n hx hb dX3_deadZones_28 rfl (lv_at hl 1 rfl) ?_
        refine g_iret hx hb hr hlk hE hw hS dX3_deadZones_29 ?_
        exact ⟨by rw [ha, show k = 18 by omega], rfl⟩
      · refine lv_aload_n hx hb dX3_deadZones_10 rfl (lv_at hl 0 rfl) ?_
        refine gf_X3_dead hx hb hE hw (show s < 7 by omega) hown (hts (.fieldLink RX3 18 "ZonedLight$Screen" "dead" "[Z") (by decide +kernel)) dX3_deadZones_11 ?_
        refine lv_iload_n hx hb dX3_deadZones_14 rfl (lv_at hl 2 rfl) ?_
        refine g_zald hx hb hE hw (n := 18) (show s < 7 by omega) rfl (by decide) (by omega) dX3_deadZones_15 ?_
        refine lv_topi (fun x_15 ex_15 => ?_)
        refine lv_if_eq (tgt := 22) hx hb dX3_deadZones_16 (by decide) (fun c_16 => ?_) (fun c_16 => ?_)
        · refine lv_iinc (v := nI (k + 1)) (lv' := [(2, .int (nI (k + 1))), (0, .ref (G.1 0 s)), (1, .int acc)]) hx hb dX3_deadZones_22 hl (k := 2) rfl (nI_add _ _) (by decide) rfl (fun ls hl => ?_)
          refine lv_goto (tgt := 4) hx hb dX3_deadZones_25 (by decide) ?_
          exact K_4 (k + 1) acc (by first | omega | assumption | rfl) (by rw [deadK, scr_dead (σ := σ) (s := s) c_7, ← ex_15]; first | (rw [if_pos c_16]; exact ha) | (rw [if_neg c_16, ex_19, ha]; rfl)) (by omega) _ _ _ hw hS (lv_sub hl [1, 2, 0] rfl)
        · obtain ⟨x_19, ex_19⟩ : ∃ y : Int32, y = acc + Int32.ofInt (1) := ⟨_, rfl⟩
          refine lv_iinc (v := x_19) (lv' := [(1, .int x_19), (0, .ref (G.1 0 s)), (2, .int (nI k))]) hx hb dX3_deadZones_19 hl (k := 1) rfl ex_19.symm (by decide) rfl (fun ls hl => ?_)
          refine lv_iinc (v := nI (k + 1)) (lv' := [(2, .int (nI (k + 1))), (1, .int x_19), (0, .ref (G.1 0 s))]) hx hb dX3_deadZones_22 hl (k := 2) rfl (nI_add _ _) (by decide) rfl (fun ls hl => ?_)
          refine lv_goto (tgt := 4) hx hb dX3_deadZones_25 (by decide) ?_
          exact K_4 (k + 1) x_19 (by first | omega | assumption | rfl) (by rw [deadK, scr_dead (σ := σ) (s := s) c_7, ← ex_15]; first | (rw [if_pos c_16]; exact ha) | (rw [if_neg c_16, ex_19, ha]; rfl)) (by omega) _ _ _ hw hS (lv_sub hl [2, 1, 0] rfl)
  exact K_4 (18 - 0 + 1) 0 (nI 0) (by first | omega | assumption | rfl) (by first | omega | assumption | rfl) (Nat.lt_succ_self _) _ _ _ hw hS (lv_sub hl [2, 1, 0] rfl)
