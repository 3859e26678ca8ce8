/-! CONTRACTS, laid by program -/
set_option maxHeartbeats 4000000 in
set_option maxRecDepth 100000 in
/-- ZonedLightModel.isHere(II)Z -/
theorem c_X6_isHere (l : Launch) (G : GG) (A : Nat → Prop) (σ : St) (p : Nat) (t : Nat) (lo : Int32) (hi : Int32) (hp : p ≤ t) (ht : t ≤ 60) (ep : σ 16 0 8 = nI p) (et : σ 16 0 7 = nI t) : MI l yX6_isHere wsX6_isHere 1 25 G A σ [.ref (G.1 16 0), .int lo, .int hi] (fun r τ => bP r (p < t ∧ btw (σ 21 0 p) lo hi) ∧ τ = σ) := by
  refine MI.on (by decide) rfl (Nat.le_of_ble_eq_true rfl) (fun pP eE sS mM args below meth cC ls hx hb hml hr hown hlk hts hE hw hS hl => ?_)
  have hl : lv_has ls 3 [(0, .ref (G.1 16 0)), (1, .int lo), (2, .int hi)] := hl
  refine lv_aload_n hx hb dX6_isHere_0 rfl (lv_at hl 0 rfl) ?_
  refine gf_X6_spot hx hb hE hw (Nat.zero_lt_one) hown (hts (.fieldLink RX6 150 "ZonedLightModel" "spot" "I") (by decide +kernel)) dX6_isHere_1 ?_
  refine lv_topi (fun x_1 ex_1 => ?_)
  obtain rfl : x_1 = nI p := by rw [ex_1, ep]
  refine lv_aload_n hx hb dX6_isHere_4 rfl (lv_at hl 0 rfl) ?_
  refine gf_X6_textLong hx hb hE hw (Nat.zero_lt_one) hown (hts (.fieldLink RX6 147 "ZonedLightModel" "textLong" "I") (by decide +kernel)) dX6_isHere_5 ?_
  refine lv_topi (fun x_5 ex_5 => ?_)
  obtain rfl : x_5 = nI t := by rw [ex_5, et]
  refine n_cmp_ge (tgt := 35) hx hb dX6_isHere_8 (by decide) (by omega) (by omega) (fun c_8 => ?_) (fun c_8 => ?_)
  · refine lv_iconst (v := nI 0) hx hb dX6_isHere_35 (by decide) ?_
    refine g_zret hx hb hr hlk hE hw hS rfl dX6_isHere_36 ?_
    first | exact ⟨Or.inr ⟨rfl, fun g => absurd g.1 (by omega)⟩, rfl⟩ | exact ⟨Or.inl ⟨rfl, by omega, by rw [← ex_19]; exact bP_t hb_25 c_28⟩, rfl⟩ | exact ⟨Or.inr ⟨rfl, fun g => bP_f hb_25 c_28 (by rw [ex_19]; exact g.2)⟩, rfl⟩
  · refine lv_aload_n hx hb dX6_isHere_11 rfl (lv_at hl 0 rfl) ?_
    refine gf_X6_text hx hb hE hw (Nat.zero_lt_one) hown (hts (.fieldLink RX6 22 "ZonedLightModel" "text" "[I") (by decide +kernel)) dX6_isHere_12 ?_
    refine lv_aload_n hx hb dX6_isHere_15 rfl (lv_at hl 0 rfl) ?_
    refine gf_X6_spot hx hb hE hw (Nat.zero_lt_one) hown (hts (.fieldLink RX6 150 "ZonedLightModel" "spot" "I") (by decide +kernel)) dX6_isHere_16 ?_
    refine lv_topi (fun x_16 ex_16 => ?_)
    obtain rfl : x_16 = nI p := by rw [ex_16, ep]
    refine g_ald hx hb hE hw (n := 60) (Nat.zero_lt_one) rfl (by decide) (by omega) dX6_isHere_19 ?_
    refine lv_topi (fun x_19 ex_19 => ?_)
    refine lv_i2l hx hb dX6_isHere_20 rfl ?_
    refine lv_iload_n hx hb dX6_isHere_21 rfl (lv_at hl 1 rfl) ?_
    refine lv_i2l hx hb dX6_isHere_22 rfl ?_
    refine lv_iload_n hx hb dX6_isHere_23 rfl (lv_at hl 2 rfl) ?_
    refine lv_i2l hx hb dX6_isHere_24 rfl ?_
    refine g_Si (n := 3) (As := [.long (x_19.toInt64), .long (lo.toInt64), .long (hi.toInt64)]) (rest := []) hx hb hml hown hts hE hw hS gX6_isHere_X6_in (c_X6_in l G A _ x_19 lo hi) rfl (by decide +kernel) ⟨Nat.le_of_ble_eq_true rfl, Nat.le_of_ble_eq_true rfl⟩ rfl hl.1 rfl (Nat.le_of_ble_eq_true rfl) ⟨Nat.le_of_ble_eq_true rfl, Nat.le_of_ble_eq_true rfl⟩ dX6_isHere_25 (fun x_25 τ_25 H locs hp_25 hw hS => ?_)
    obtain ⟨hb_25, hτ_25⟩ := hp_25
    rw [hτ_25] at hw
    refine lv_if_eq (tgt := 35) hx hb dX6_isHere_28 (by decide) (fun c_28 => ?_) (fun c_28 => ?_)
    · refine lv_iconst (v := nI 0) hx hb dX6_isHere_35 (by decide) ?_
      refine g_zret hx hb hr hlk hE hw hS rfl dX6_isHere_36 ?_
      first | exact ⟨Or.inr ⟨rfl, fun g => absurd g.1 (by omega)⟩, rfl⟩ | exact ⟨Or.inl ⟨rfl, by omega, by rw [← ex_19]; exact bP_t hb_25 c_28⟩, rfl⟩ | exact ⟨Or.inr ⟨rfl, fun g => bP_f hb_25 c_28 (by rw [ex_19]; exact g.2)⟩, rfl⟩
    · refine lv_iconst (v := nI 1) hx hb dX6_isHere_31 (by decide) ?_
      refine lv_goto (tgt := 36) hx hb dX6_isHere_32 (by decide) ?_
      refine g_zret hx hb hr hlk hE hw hS rfl dX6_isHere_36 ?_
      first | exact ⟨Or.inr ⟨rfl, fun g => absurd g.1 (by omega)⟩, rfl⟩ | exact ⟨Or.inl ⟨rfl, by omega, by rw [← ex_19]; exact bP_t hb_25 c_28⟩, rfl⟩ | exact ⟨Or.inr ⟨rfl, fun g => bP_f hb_25 c_28 (by rw [ex_19]; exact g.2)⟩, rfl⟩
set_option maxHeartbeats 4000000 in
set_option maxRecDepth 100000 in
/-- ZonedLightModel.takes(I)Z -/
theorem c_X6_takes (l : Launch) (G : GG) (A : Nat → Prop) (σ : St) (p : Nat) (t : Nat) (c : Int32) (hp : p ≤ t) (ht : t ≤ 60) (ep : σ 16 0 8 = nI p) (et : σ 16 0 7 = nI t) : MI l yX6_takes wsX6_takes 2 47 G A σ [.ref (G.1 16 0), .int c] (fun r τ => takeQ σ τ p t c r) := by
  refine MI.on (by decide) rfl (Nat.le_of_ble_eq_true rfl) (fun pP eE sS mM args below meth cC ls hx hb hml hr hown hlk hts hE hw hS hl => ?_)
  have hl : lv_has ls 3 [(0, .ref (G.1 16 0)), (1, .int c)] := hl
  refine lv_aload_n hx hb dX6_takes_0 rfl (lv_at hl 0 rfl) ?_
  refine lv_iload_n hx hb dX6_takes_1 rfl (lv_at hl 1 rfl) ?_
  refine lv_iload_n hx hb dX6_takes_2 rfl (lv_at hl 1 rfl) ?_
  refine g_Vi (n := 2) (As := [.int c, .int c]) (rest := []) hx hb hml hown hts hE hw hS gX6_takes_X6_isHere (c_X6_isHere l G A _ _ _ c c hp ht ep et) rfl (by decide +kernel) ⟨Nat.le_of_ble_eq_true rfl, Nat.le_of_ble_eq_true rfl⟩ (Nat.zero_lt_one) rfl rfl rfl rfl hl.1 rfl (Nat.le_of_ble_eq_true rfl) ⟨Nat.le_of_ble_eq_true rfl, Nat.le_of_ble_eq_true rfl⟩ dX6_takes_3 (fun x_3 τ_3 H locs hp_3 hw hS => ?_)
  obtain ⟨hb_3, hτ_3⟩ := hp_3
  rw [hτ_3] at hw
  refine lv_istore_n (lv' := [(2, .int x_3), (0, .ref (G.1 16 0)), (1, .int c)]) hx hb dX6_takes_6 rfl hl (by decide) rfl (fun ls hl => ?_)
  refine lv_aload_n hx hb dX6_takes_7 rfl (lv_at hl 1 rfl) ?_
  refine lv_dup hx hb dX6_takes_8 rfl ?_
  refine gf_X6_spot hx hb hE hw (Nat.zero_lt_one) hown (hts (.fieldLink RX6 150 "ZonedLightModel" "spot" "I") (by decide +kernel)) dX6_takes_9 ?_
  refine lv_topi (fun x_9 ex_9 => ?_)
  obtain rfl : x_9 = nI p := by rw [ex_9, ep]
  refine lv_iload_n hx hb dX6_takes_12 rfl (lv_at hl 0 rfl) ?_
  refine lv_if_eq (tgt := 20) hx hb dX6_takes_13 (by decide) (fun c_13 => ?_) (fun c_13 => ?_)
  · refine lv_iconst (v := nI 0) hx hb dX6_takes_20 (by decide) ?_
    refine n_iadd hx hb dX6_takes_21 ?_
    refine gp_X6_spot hx hb hE hw hS (Nat.zero_lt_one) hown (hts (.fieldLink RX6 150 "ZonedLightModel" "spot" "I") (by decide +kernel)) dX6_takes_22 (fun H locs hw hS => ?_)
    refine lv_iload_n hx hb dX6_takes_25 rfl (lv_at hl 0 rfl) ?_
    refine g_zret hx hb hr hlk hE hw hS (bP_n hb_3) dX6_takes_26 ?_
    first
    | exact takeQ_1 (bP_t hb_3 c_13) (bP_1 hb_3 c_13)
    | exact takeQ_0 (bP_f hb_3 c_13) c_13 ep
  · refine lv_iconst (v := nI 1) hx hb dX6_takes_16 (by decide) ?_
    refine lv_goto (tgt := 21) hx hb dX6_takes_17 (by decide) ?_
    refine n_iadd hx hb dX6_takes_21 ?_
    refine gp_X6_spot hx hb hE hw hS (Nat.zero_lt_one) hown (hts (.fieldLink RX6 150 "ZonedLightModel" "spot" "I") (by decide +kernel)) dX6_takes_22 (fun H locs hw hS => ?_)
    refine lv_iload_n hx hb dX6_takes_25 rfl (lv_at hl 0 rfl) ?_
    refine g_zret hx hb hr hlk hE hw hS (bP_n hb_3) dX6_takes_26 ?_
    first
    | exact takeQ_1 (bP_t hb_3 c_13) (bP_1 hb_3 c_13)
    | exact takeQ_0 (bP_f hb_3 c_13) c_13 ep
set_option maxHeartbeats 4000000 in
set_option maxRecDepth 100000 in
/-- ZonedLightModel.readsNumber(III)Z -/
theorem c_X6_readsNumber (l : Launch) (G : GG) (A : Nat → Prop) (σ : St) (p : Nat) (t : Nat) (f : Nat) (lo : Nat) (hi : Nat) (hp : p ≤ t) (ht : t ≤ 60) (ep : σ 16 0 8 = nI p) (et : σ 16 0 7 = nI t) (hf : f < 5) (elo : tab_LEAST.getD f 0 = nI lo) (ehi : tab_GREATEST.getD f 0 = nI hi) (hlo : lo ≤ 1) (hhi : 9 ≤ hi) (hhi2 : hi ≤ 255) : MI l yX6_readsNumber wsX6_readsNumber 2 47 G A σ [.ref (G.1 16 0), .int (nI f), .int (nI lo), .int (nI hi)] (fun r τ => numQ σ τ p t f hi r) := by
  refine MI.on (by decide) rfl (Nat.le_of_ble_eq_true rfl) (fun pP eE sS mM args below meth cC ls hx hb hml hr hown hlk hts hE hw hS hl => ?_)
  have hl : lv_has ls 5 [(0, .ref (G.1 16 0)), (1, .int (nI f)), (2, .int (nI lo)), (3, .int (nI hi))] := hl
  
  refine lv_aload_n hx hb dX6_readsNumber_0 rfl (lv_at hl 0 rfl) ?_
  refine lv_bipush (v := nI 48) hx hb dX6_readsNumber_1 (by decide) ?_
  refine lv_iload_n hx hb dX6_readsNumber_3 rfl (lv_at hl 2 rfl) ?_
  refine n_iadd hx hb dX6_readsNumber_4 ?_
  refine lv_bipush (v := nI 57) hx hb dX6_readsNumber_5 (by decide) ?_
  refine g_Vi (n := 2) (As := [.int (nI (48 + lo)), .int (nI 57)]) (rest := []) hx hb hml hown hts hE hw hS gX6_readsNumber_X6_isHere (c_X6_isHere l G A _ p t (nI (48 + lo)) (nI 57) hp ht ep et) rfl (by decide +kernel) ⟨Nat.le_of_ble_eq_true rfl, Nat.le_of_ble_eq_true rfl⟩ (Nat.zero_lt_one) rfl rfl rfl rfl hl.1 rfl (Nat.le_of_ble_eq_true rfl) ⟨Nat.le_of_ble_eq_true rfl, Nat.le_of_ble_eq_true rfl⟩ dX6_readsNumber_7 (fun x_7 τ_7 H locs hp_7 hw hS => ?_)
  obtain ⟨hb_7, hτ_7⟩ := hp_7
  rw [hτ_7] at hw
  refine lv_if_ne (tgt := 15) hx hb dX6_readsNumber_10 (by decide) (fun c_10 => ?_) (fun c_10 => ?_)
  · have hh := bP_t hb_7 c_10
    refine lv_aload_n hx hb dX6_readsNumber_15 rfl (lv_at hl 0 rfl) ?_
    refine gf_X6_text hx hb hE hw (Nat.zero_lt_one) hown (hts (.fieldLink RX6 22 "ZonedLightModel" "text" "[I") (by decide +kernel)) dX6_readsNumber_16 ?_
    refine lv_aload_n hx hb dX6_readsNumber_19 rfl (lv_at hl 0 rfl) ?_
    refine gf_X6_spot hx hb hE hw (Nat.zero_lt_one) hown (hts (.fieldLink RX6 150 "ZonedLightModel" "spot" "I") (by decide +kernel)) dX6_readsNumber_20 ?_
    refine lv_topi (fun x_20 ex_20 => ?_)
    obtain rfl : x_20 = nI p := by rw [ex_20, ep]
    refine g_ald hx hb hE hw (n := 60) (Nat.zero_lt_one) rfl (by decide) (by omega) dX6_readsNumber_23 ?_
    refine lv_topi (fun x_23 ex_23 => ?_)
    refine lv_bipush (v := nI 48) hx hb dX6_readsNumber_24 (by decide) ?_
    refine lv_isub hx hb dX6_readsNumber_26 ?_
    refine lv_topi (fun x_26 ex_26 => ?_)
    obtain ⟨v0, hv0, hv1, ev0, hI0⟩ := num_first (tx := σ 21 0) (f := f) hf elo ehi hlo hhi hhi2 hh.1 hh.2
    obtain rfl : x_26 = nI v0 := by rw [ex_26, ex_23]; exact ev0
    refine lv_istore (lv' := [(4, .int (nI v0)), (0, .ref (G.1 16 0)), (1, .int (nI f)), (2, .int (nI lo)), (3, .int (nI hi))]) hx hb dX6_readsNumber_27 hl (by decide) rfl (fun ls hl => ?_)
    refine lv_aload_n hx hb dX6_readsNumber_29 rfl (lv_at hl 1 rfl) ?_
    refine lv_dup hx hb dX6_readsNumber_30 rfl ?_
    refine gf_X6_spot hx hb hE hw (Nat.zero_lt_one) hown (hts (.fieldLink RX6 150 "ZonedLightModel" "spot" "I") (by decide +kernel)) dX6_readsNumber_31 ?_
    refine lv_topi (fun x_31 ex_31 => ?_)
    obtain rfl : x_31 = nI p := by rw [ex_31, ep]
    refine lv_iconst (v := nI 1) hx hb dX6_readsNumber_34 (by decide) ?_
    refine n_iadd hx hb dX6_readsNumber_35 ?_
    refine gp_X6_spot hx hb hE hw hS (Nat.zero_lt_one) hown (hts (.fieldLink RX6 150 "ZonedLightModel" "spot" "I") (by decide +kernel)) dX6_readsNumber_36 (fun H locs hw hS => ?_)
    have K_39 : ∀ (fuel : Nat) (i : Nat) (v : Nat) (σ2 : St), (p < i) → (i ≤ t) → (v ≤ hi) → (σ2 = us σ 16 0 8 (nI i)) → (rdK (σ 21 0) (t - p) p f (-1) = rdK (σ 21 0) (t - i) i f (nI v)) → t - i < fuel → ∀ (H : Heap) (locs : List Loc) (ls : Array Slot), Wcel G σ2 H → va_S A sS.heap H locs → lv_has ls 5 [(0, .ref (G.1 16 0)), (1, .int (nI f)), (2, .int (nI lo)), (3, .int (nI hi)), (4, .int (nI v))] → W pP l eE { frames := 2, cells := 0, slots := 0, locals := 47 } sS mM args below meth cC H locs 0 0 (MQ below (va_Qi (fun r τ => numQ σ τ p t f hi r) (fun τ t => gP G A τ t) A) args sS 0 0 A) (F0 mM 39 ls []) := by
      intro fuel
      induction fuel with
      | zero =>
        intro i v σ2 hi1 hi2 hv h2 hI hfu
        exact absurd hfu (Nat.not_lt_zero _)
      | succ fuel K_39 =>
        intro i v σ2 hi1 hi2 hv h2 hI hfu H locs ls hw hS hl
        subst h2
        refine lv_iload hx hb dX6_readsNumber_39 (lv_at hl 4 rfl) ?_
        refine n_if_le (tgt := 110) hx hb dX6_readsNumber_41 (by decide) (by omega) (fun c_41 => ?_) (fun c_41 => ?_)
        · refine lv_aload_n hx hb dX6_readsNumber_110 rfl (lv_at hl 0 rfl) ?_
          refine gf_X6_part hx hb hE hw (Nat.zero_lt_one) hown (hts (.fieldLink RX6 25 "ZonedLightModel" "part" "[I") (by decide +kernel)) dX6_readsNumber_111 ?_
          refine lv_iload_n hx hb dX6_readsNumber_114 rfl (lv_at hl 1 rfl) ?_
          refine lv_iload hx hb dX6_readsNumber_115 (lv_at hl 4 rfl) ?_
          refine g_ast hx hb hE hw hS (n := 5) (Nat.zero_lt_one) (by decide) (fun _ => rfl) rfl (by decide) (by omega) dX6_readsNumber_117 (fun H locs hw hS => ?_)
          refine lv_iconst (v := nI 1) hx hb dX6_readsNumber_118 (by decide) ?_
          refine g_zret hx hb hr hlk hE hw hS rfl dX6_readsNumber_119 ?_
          first
          | exact numQ_1 hi1 hi2 hv (num_stop0 c_41) hI
          | exact numQ_1 hi1 hi2 hv (num_stop1 (by have h := bP_f hb_49 c_52; rw [us_k (by decide)] at h; exact h)) hI
          | exact numQ_1 hi1 hi2 hv (num_stop2 elo ehi hlo hhi2 hv0 hv hd.2 (by rw [← e72]; exact Int32.not_le.mpr c_74)) hI
        · have hv0 : 0 < v := c_41
          refine lv_aload_n hx hb dX6_readsNumber_44 rfl (lv_at hl 0 rfl) ?_
          refine lv_bipush (v := nI 48) hx hb dX6_readsNumber_45 (by decide) ?_
          refine lv_bipush (v := nI 57) hx hb dX6_readsNumber_47 (by decide) ?_
          refine g_Vi (n := 2) (As := [.int (nI 48), .int (nI 57)]) (rest := []) hx hb hml hown hts hE hw hS gX6_readsNumber_X6_isHere (c_X6_isHere l G A _ i t (nI 48) (nI 57) hi2 ht us_at (by rw [us_not (by decide), et])) rfl (by decide +kernel) ⟨Nat.le_of_ble_eq_true rfl, Nat.le_of_ble_eq_true rfl⟩ (Nat.zero_lt_one) rfl rfl rfl rfl hl.1 rfl (Nat.le_of_ble_eq_true rfl) ⟨Nat.le_of_ble_eq_true rfl, Nat.le_of_ble_eq_true rfl⟩ dX6_readsNumber_49 (fun x_49 τ_49 H locs hp_49 hw hS => ?_)
          obtain ⟨hb_49, hτ_49⟩ := hp_49
          rw [hτ_49] at hw
          refine lv_if_eq (tgt := 110) hx hb dX6_readsNumber_52 (by decide) (fun c_52 => ?_) (fun c_52 => ?_)
          · refine lv_aload_n hx hb dX6_readsNumber_110 rfl (lv_at hl 0 rfl) ?_
            refine gf_X6_part hx hb hE hw (Nat.zero_lt_one) hown (hts (.fieldLink RX6 25 "ZonedLightModel" "part" "[I") (by decide +kernel)) dX6_readsNumber_111 ?_
            refine lv_iload_n hx hb dX6_readsNumber_114 rfl (lv_at hl 1 rfl) ?_
            refine lv_iload hx hb dX6_readsNumber_115 (lv_at hl 4 rfl) ?_
            refine g_ast hx hb hE hw hS (n := 5) (Nat.zero_lt_one) (by decide) (fun _ => rfl) rfl (by decide) (by omega) dX6_readsNumber_117 (fun H locs hw hS => ?_)
            refine lv_iconst (v := nI 1) hx hb dX6_readsNumber_118 (by decide) ?_
            refine g_zret hx hb hr hlk hE hw hS rfl dX6_readsNumber_119 ?_
            first
            | exact numQ_1 hi1 hi2 hv (num_stop0 c_41) hI
            | exact numQ_1 hi1 hi2 hv (num_stop1 (by have h := bP_f hb_49 c_52; rw [us_k (by decide)] at h; exact h)) hI
            | exact numQ_1 hi1 hi2 hv (num_stop2 elo ehi hlo hhi2 hv0 hv hd.2 (by rw [← e72]; exact Int32.not_le.mpr c_74)) hI
          · have hd := bP_t hb_49 c_52
            rw [us_k (by decide)] at hd
            refine lv_bipush (v := nI 10) hx hb dX6_readsNumber_55 (by decide) ?_
            refine lv_iload hx hb dX6_readsNumber_57 (lv_at hl 4 rfl) ?_
            refine n_imul hx hb dX6_readsNumber_59 ?_
            refine lv_aload_n hx hb dX6_readsNumber_60 rfl (lv_at hl 0 rfl) ?_
            refine gf_X6_text hx hb hE hw (Nat.zero_lt_one) hown (hts (.fieldLink RX6 22 "ZonedLightModel" "text" "[I") (by decide +kernel)) dX6_readsNumber_61 ?_
            refine lv_aload_n hx hb dX6_readsNumber_64 rfl (lv_at hl 0 rfl) ?_
            refine gf_X6_spot hx hb hE hw (Nat.zero_lt_one) hown (hts (.fieldLink RX6 150 "ZonedLightModel" "spot" "I") (by decide +kernel)) dX6_readsNumber_65 ?_
            refine lv_topi (fun x_65 ex_65 => ?_)
            obtain rfl : x_65 = nI i := by rw [ex_65, us_at]
            refine g_ald hx hb hE hw (n := 60) (Nat.zero_lt_one) rfl (by decide) (by omega) dX6_readsNumber_68 ?_
            refine lv_topi (fun x_68 ex_68 => ?_)
            refine lv_iadd hx hb dX6_readsNumber_69 ?_
            refine lv_topi (fun x_69 ex_69 => ?_)
            refine lv_bipush (v := nI 48) hx hb dX6_readsNumber_70 (by decide) ?_
            refine lv_isub hx hb dX6_readsNumber_72 ?_
            refine lv_topi (fun x_72 ex_72 => ?_)
            have e72 : x_72 = nI (10 * v) + (σ 21 0 i - 48) := by rw [ex_72, ex_69, ex_68, us_k (by decide)]; exact num_sub
            refine lv_iload_n hx hb dX6_readsNumber_73 rfl (lv_at hl 3 rfl) ?_
            refine lv_icmp_gt (tgt := 110) hx hb dX6_readsNumber_74 (by decide) (fun c_74 => ?_) (fun c_74 => ?_)
            · refine lv_aload_n hx hb dX6_readsNumber_110 rfl (lv_at hl 0 rfl) ?_
              refine gf_X6_part hx hb hE hw (Nat.zero_lt_one) hown (hts (.fieldLink RX6 25 "ZonedLightModel" "part" "[I") (by decide +kernel)) dX6_readsNumber_111 ?_
              refine lv_iload_n hx hb dX6_readsNumber_114 rfl (lv_at hl 1 rfl) ?_
              refine lv_iload hx hb dX6_readsNumber_115 (lv_at hl 4 rfl) ?_
              refine g_ast hx hb hE hw hS (n := 5) (Nat.zero_lt_one) (by decide) (fun _ => rfl) rfl (by decide) (by omega) dX6_readsNumber_117 (fun H locs hw hS => ?_)
              refine lv_iconst (v := nI 1) hx hb dX6_readsNumber_118 (by decide) ?_
              refine g_zret hx hb hr hlk hE hw hS rfl dX6_readsNumber_119 ?_
              first
              | exact numQ_1 hi1 hi2 hv (num_stop0 c_41) hI
              | exact numQ_1 hi1 hi2 hv (num_stop1 (by have h := bP_f hb_49 c_52; rw [us_k (by decide)] at h; exact h)) hI
              | exact numQ_1 hi1 hi2 hv (num_stop2 elo ehi hlo hhi2 hv0 hv hd.2 (by rw [← e72]; exact Int32.not_le.mpr c_74)) hI
            · refine lv_bipush (v := nI 10) hx hb dX6_readsNumber_77 (by decide) ?_
              refine lv_iload hx hb dX6_readsNumber_79 (lv_at hl 4 rfl) ?_
              refine n_imul hx hb dX6_readsNumber_81 ?_
              refine lv_aload_n hx hb dX6_readsNumber_82 rfl (lv_at hl 0 rfl) ?_
              refine gf_X6_text hx hb hE hw (Nat.zero_lt_one) hown (hts (.fieldLink RX6 22 "ZonedLightModel" "text" "[I") (by decide +kernel)) dX6_readsNumber_83 ?_
              refine lv_aload_n hx hb dX6_readsNumber_86 rfl (lv_at hl 0 rfl) ?_
              refine gf_X6_spot hx hb hE hw (Nat.zero_lt_one) hown (hts (.fieldLink RX6 150 "ZonedLightModel" "spot" "I") (by decide +kernel)) dX6_readsNumber_87 ?_
              refine lv_topi (fun x_87 ex_87 => ?_)
              obtain rfl : x_87 = nI i := by rw [ex_87, us_at]
              refine g_ald hx hb hE hw (n := 60) (Nat.zero_lt_one) rfl (by decide) (by omega) dX6_readsNumber_90 ?_
              refine lv_topi (fun x_90 ex_90 => ?_)
              refine lv_iadd hx hb dX6_readsNumber_91 ?_
              refine lv_topi (fun x_91 ex_91 => ?_)
              refine lv_bipush (v := nI 48) hx hb dX6_readsNumber_92 (by decide) ?_
              refine lv_isub hx hb dX6_readsNumber_94 ?_
              refine lv_topi (fun x_94 ex_94 => ?_)
              have e94 : x_94 = nI (10 * v) + (σ 21 0 i - 48) := by rw [ex_94, ex_91, ex_90, us_k (by decide)]; exact num_sub
              obtain ⟨v1, hv1, ev1, hI1⟩ := num_next (tx := σ 21 0) (f := f) hf elo ehi hlo hhi2 hv0 hv hd.1 hd.2 (by rw [← e72]; exact Int32.not_lt.mp c_74)
              obtain rfl : x_94 = nI v1 := by rw [e94, ev1]
              refine lv_istore (lv' := [(4, .int (nI v1)), (0, .ref (G.1 16 0)), (1, .int (nI f)), (2, .int (nI lo)), (3, .int (nI hi))]) hx hb dX6_readsNumber_95 hl (by decide) rfl (fun ls hl => ?_)
              refine lv_aload_n hx hb dX6_readsNumber_97 rfl (lv_at hl 1 rfl) ?_
              refine lv_dup hx hb dX6_readsNumber_98 rfl ?_
              refine gf_X6_spot hx hb hE hw (Nat.zero_lt_one) hown (hts (.fieldLink RX6 150 "ZonedLightModel" "spot" "I") (by decide +kernel)) dX6_readsNumber_99 ?_
              refine lv_topi (fun x_99 ex_99 => ?_)
              obtain rfl : x_99 = nI i := by rw [ex_99, us_at]
              refine lv_iconst (v := nI 1) hx hb dX6_readsNumber_102 (by decide) ?_
              refine n_iadd hx hb dX6_readsNumber_103 ?_
              refine gp_X6_spot hx hb hE hw hS (Nat.zero_lt_one) hown (hts (.fieldLink RX6 150 "ZonedLightModel" "spot" "I") (by decide +kernel)) dX6_readsNumber_104 (fun H locs hw hS => ?_)
              refine lv_goto (tgt := 39) hx hb dX6_readsNumber_107 (by decide) ?_
              exact K_39 (i + 1) v1 _ (by first | omega | assumption | rfl) (by first | omega | assumption | rfl) (by first | omega | assumption | rfl) us_us (hI.trans hI1) (by omega) _ _ _ hw hS (lv_sub hl [1, 2, 3, 4, 0] rfl)
    exact K_39 (t - (p + 1) + 1) (p + 1) v0 _ (by first | omega | assumption | rfl) (by first | omega | assumption | rfl) (by first | omega | assumption | rfl) rfl hI0 (Nat.lt_succ_self _) _ _ _ hw hS (lv_sub hl [1, 2, 3, 4, 0] rfl)
  · refine lv_iconst (v := nI 0) hx hb dX6_readsNumber_13 (by decide) ?_
    refine g_zret hx hb hr hlk hE hw hS rfl dX6_readsNumber_14 ?_
    exact Or.inl ⟨rfl, rfl, num_none elo ehi hlo hhi hhi2 hp (bP_f hb_7 c_10)⟩
set_option maxHeartbeats 4000000 in
set_option maxRecDepth 100000 in
/-- ZonedLightModel.readsPart()Z -/
theorem c_X6_readsPart (l : Launch) (G : GG) (A : Nat → Prop) (σ : St) (p : Nat) (t : Nat) (hp : p ≤ t) (ht : t ≤ 60) (ep : σ 16 0 8 = nI p) (et : σ 16 0 7 = nI t) : MI l yX6_readsPart wsX6_readsPart 3 71 G A σ [.ref (G.1 16 0)] (fun r τ => partQ σ τ p t r) := by
  refine MI.on (by decide) rfl (Nat.le_of_ble_eq_true rfl) (fun pP eE sS mM args below meth cC ls hx hb hml hr hown hlk hts hE hw hS hl => ?_)
  have hl : lv_has ls 1 [(0, .ref (G.1 16 0))] := hl
  have hQ0 := prQ_0 hp ep
  refine lv_aload_n hx hb dX6_readsPart_0 rfl (lv_at hl 0 rfl) ?_
  refine lv_iconst (v := nI 0) hx hb dX6_readsPart_1 (by decide) ?_
  refine lv_iconst (v := nI 0) hx hb dX6_readsPart_2 (by decide) ?_
  refine lv_bipush (v := nI 23) hx hb dX6_readsPart_3 (by decide) ?_
  refine g_Vi (n := 3) (As := [.int (nI 0), .int (nI 0), .int (nI 23)]) (rest := []) hx hb hml hown hts hE hw hS gX6_readsPart_X6_readsNumber (c_X6_readsNumber l G A _ p t 0 0 23 hp ht ep et (by decide) (by decide) (by decide) (by decide) (by decide) (by decide)) rfl (by decide +kernel) ⟨Nat.le_of_ble_eq_true rfl, Nat.le_of_ble_eq_true rfl⟩ (Nat.zero_lt_one) rfl rfl rfl rfl hl.1 rfl (Nat.le_of_ble_eq_true rfl) ⟨Nat.le_of_ble_eq_true rfl, Nat.le_of_ble_eq_true rfl⟩ dX6_readsPart_5 (fun x_5 τ_5 H locs hp_5 hw hS => ?_)
  refine lv_if_eq (tgt := 96) hx hb dX6_readsPart_8 (by decide) (fun c_8 => ?_) (fun c_8 => ?_)
  · have hbad := pr_num0 hQ0 hp_5 c_8
    refine lv_iconst (v := nI 0) hx hb dX6_readsPart_96 (by decide) ?_
    refine g_zret hx hb hr hlk hE hw hS rfl dX6_readsPart_97 ?_
    first | exact Or.inl ⟨rfl, hbad⟩ | exact Or.inr ⟨q4, row4, _, v4, rfl, hN4⟩
  · obtain ⟨q0, row0, v0, hN0⟩ := pr_num1 hQ0 hp_5 (by decide) c_8
    refine lv_aload_n hx hb dX6_readsPart_11 rfl (lv_at hl 0 rfl) ?_
    refine lv_bipush (v := nI 44) hx hb dX6_readsPart_12 (by decide) ?_
    refine g_Vi (n := 1) (As := [.int (nI 44)]) (rest := []) hx hb hml hown hts hE hw hS gX6_readsPart_X6_takes (c_X6_takes l G A _ q0 t (nI 44) hN0.2.2.1 ht (by rw [hN0.1]; exact st_8) (by rw [hN0.1, st_7, et])) rfl (by decide +kernel) ⟨Nat.le_of_ble_eq_true rfl, Nat.le_of_ble_eq_true rfl⟩ (Nat.zero_lt_one) rfl rfl rfl rfl hl.1 rfl (Nat.le_of_ble_eq_true rfl) ⟨Nat.le_of_ble_eq_true rfl, Nat.le_of_ble_eq_true rfl⟩ dX6_readsPart_14 (fun x_14 τ_14 H locs hp_14 hw hS => ?_)
    refine lv_if_eq (tgt := 96) hx hb dX6_readsPart_17 (by decide) (fun c_17 => ?_) (fun c_17 => ?_)
    · have hbad := pr_take0 (f := 0) (by decide) (by decide) hN0 hp_14 c_17
      refine lv_iconst (v := nI 0) hx hb dX6_readsPart_96 (by decide) ?_
      refine g_zret hx hb hr hlk hE hw hS rfl dX6_readsPart_97 ?_
      first | exact Or.inl ⟨rfl, hbad⟩ | exact Or.inr ⟨q4, row4, _, v4, rfl, hN4⟩
    · have hQ1 := pr_take1 (f := 0) (by decide) (by decide) hN0 hp_14 c_17
      refine lv_aload_n hx hb dX6_readsPart_20 rfl (lv_at hl 0 rfl) ?_
      refine lv_iconst (v := nI 1) hx hb dX6_readsPart_21 (by decide) ?_
      refine lv_iconst (v := nI 0) hx hb dX6_readsPart_22 (by decide) ?_
      refine lv_bipush (v := nI 11) hx hb dX6_readsPart_23 (by decide) ?_
      refine g_Vi (n := 3) (As := [.int (nI 1), .int (nI 0), .int (nI 11)]) (rest := []) hx hb hml hown hts hE hw hS gX6_readsPart_X6_readsNumber (c_X6_readsNumber l G A _ (q0 + 1) t 1 0 11 hQ1.2.2.1 ht (by rw [hQ1.1]; exact st_8) (by rw [hQ1.1, st_7, et]) (by decide) (by decide) (by decide) (by decide) (by decide) (by decide)) rfl (by decide +kernel) ⟨Nat.le_of_ble_eq_true rfl, Nat.le_of_ble_eq_true rfl⟩ (Nat.zero_lt_one) rfl rfl rfl rfl hl.1 rfl (Nat.le_of_ble_eq_true rfl) ⟨Nat.le_of_ble_eq_true rfl, Nat.le_of_ble_eq_true rfl⟩ dX6_readsPart_25 (fun x_25 τ_25 H locs hp_25 hw hS => ?_)
      refine lv_if_eq (tgt := 96) hx hb dX6_readsPart_28 (by decide) (fun c_28 => ?_) (fun c_28 => ?_)
      · have hbad := pr_num0 hQ1 hp_25 c_28
        refine lv_iconst (v := nI 0) hx hb dX6_readsPart_96 (by decide) ?_
        refine g_zret hx hb hr hlk hE hw hS rfl dX6_readsPart_97 ?_
        first | exact Or.inl ⟨rfl, hbad⟩ | exact Or.inr ⟨q4, row4, _, v4, rfl, hN4⟩
      · obtain ⟨q1, row1, v1, hN1⟩ := pr_num1 hQ1 hp_25 (by decide) c_28
        refine lv_aload_n hx hb dX6_readsPart_31 rfl (lv_at hl 0 rfl) ?_
        refine lv_bipush (v := nI 43) hx hb dX6_readsPart_32 (by decide) ?_
        refine g_Vi (n := 1) (As := [.int (nI 43)]) (rest := []) hx hb hml hown hts hE hw hS gX6_readsPart_X6_takes (c_X6_takes l G A _ q1 t (nI 43) hN1.2.2.1 ht (by rw [hN1.1]; exact st_8) (by rw [hN1.1, st_7, et])) rfl (by decide +kernel) ⟨Nat.le_of_ble_eq_true rfl, Nat.le_of_ble_eq_true rfl⟩ (Nat.zero_lt_one) rfl rfl rfl rfl hl.1 rfl (Nat.le_of_ble_eq_true rfl) ⟨Nat.le_of_ble_eq_true rfl, Nat.le_of_ble_eq_true rfl⟩ dX6_readsPart_34 (fun x_34 τ_34 H locs hp_34 hw hS => ?_)
        refine lv_if_eq (tgt := 96) hx hb dX6_readsPart_37 (by decide) (fun c_37 => ?_) (fun c_37 => ?_)
        · have hbad := pr_take0 (f := 1) (by decide) (by decide) hN1 hp_34 c_37
          refine lv_iconst (v := nI 0) hx hb dX6_readsPart_96 (by decide) ?_
          refine g_zret hx hb hr hlk hE hw hS rfl dX6_readsPart_97 ?_
          first | exact Or.inl ⟨rfl, hbad⟩ | exact Or.inr ⟨q4, row4, _, v4, rfl, hN4⟩
        · have hQ2 := pr_take1 (f := 1) (by decide) (by decide) hN1 hp_34 c_37
          refine lv_aload_n hx hb dX6_readsPart_40 rfl (lv_at hl 0 rfl) ?_
          refine lv_iconst (v := nI 2) hx hb dX6_readsPart_41 (by decide) ?_
          refine lv_iconst (v := nI 1) hx hb dX6_readsPart_42 (by decide) ?_
          refine lv_bipush (v := nI 24) hx hb dX6_readsPart_43 (by decide) ?_
          refine g_Vi (n := 3) (As := [.int (nI 2), .int (nI 1), .int (nI 24)]) (rest := []) hx hb hml hown hts hE hw hS gX6_readsPart_X6_readsNumber (c_X6_readsNumber l G A _ (q1 + 1) t 2 1 24 hQ2.2.2.1 ht (by rw [hQ2.1]; exact st_8) (by rw [hQ2.1, st_7, et]) (by decide) (by decide) (by decide) (by decide) (by decide) (by decide)) rfl (by decide +kernel) ⟨Nat.le_of_ble_eq_true rfl, Nat.le_of_ble_eq_true rfl⟩ (Nat.zero_lt_one) rfl rfl rfl rfl hl.1 rfl (Nat.le_of_ble_eq_true rfl) ⟨Nat.le_of_ble_eq_true rfl, Nat.le_of_ble_eq_true rfl⟩ dX6_readsPart_45 (fun x_45 τ_45 H locs hp_45 hw hS => ?_)
          refine lv_if_eq (tgt := 96) hx hb dX6_readsPart_48 (by decide) (fun c_48 => ?_) (fun c_48 => ?_)
          · have hbad := pr_num0 hQ2 hp_45 c_48
            refine lv_iconst (v := nI 0) hx hb dX6_readsPart_96 (by decide) ?_
            refine g_zret hx hb hr hlk hE hw hS rfl dX6_readsPart_97 ?_
            first | exact Or.inl ⟨rfl, hbad⟩ | exact Or.inr ⟨q4, row4, _, v4, rfl, hN4⟩
          · obtain ⟨q2, row2, v2, hN2⟩ := pr_num1 hQ2 hp_45 (by decide) c_48
            refine lv_aload_n hx hb dX6_readsPart_51 rfl (lv_at hl 0 rfl) ?_
            refine lv_bipush (v := nI 120) hx hb dX6_readsPart_52 (by decide) ?_
            refine g_Vi (n := 1) (As := [.int (nI 120)]) (rest := []) hx hb hml hown hts hE hw hS gX6_readsPart_X6_takes (c_X6_takes l G A _ q2 t (nI 120) hN2.2.2.1 ht (by rw [hN2.1]; exact st_8) (by rw [hN2.1, st_7, et])) rfl (by decide +kernel) ⟨Nat.le_of_ble_eq_true rfl, Nat.le_of_ble_eq_true rfl⟩ (Nat.zero_lt_one) rfl rfl rfl rfl hl.1 rfl (Nat.le_of_ble_eq_true rfl) ⟨Nat.le_of_ble_eq_true rfl, Nat.le_of_ble_eq_true rfl⟩ dX6_readsPart_54 (fun x_54 τ_54 H locs hp_54 hw hS => ?_)
            refine lv_if_eq (tgt := 96) hx hb dX6_readsPart_57 (by decide) (fun c_57 => ?_) (fun c_57 => ?_)
            · have hbad := pr_take0 (f := 2) (by decide) (by decide) hN2 hp_54 c_57
              refine lv_iconst (v := nI 0) hx hb dX6_readsPart_96 (by decide) ?_
              refine g_zret hx hb hr hlk hE hw hS rfl dX6_readsPart_97 ?_
              first | exact Or.inl ⟨rfl, hbad⟩ | exact Or.inr ⟨q4, row4, _, v4, rfl, hN4⟩
            · have hQ3 := pr_take1 (f := 2) (by decide) (by decide) hN2 hp_54 c_57
              refine lv_aload_n hx hb dX6_readsPart_60 rfl (lv_at hl 0 rfl) ?_
              refine lv_iconst (v := nI 3) hx hb dX6_readsPart_61 (by decide) ?_
              refine lv_iconst (v := nI 1) hx hb dX6_readsPart_62 (by decide) ?_
              refine lv_bipush (v := nI 12) hx hb dX6_readsPart_63 (by decide) ?_
              refine g_Vi (n := 3) (As := [.int (nI 3), .int (nI 1), .int (nI 12)]) (rest := []) hx hb hml hown hts hE hw hS gX6_readsPart_X6_readsNumber (c_X6_readsNumber l G A _ (q2 + 1) t 3 1 12 hQ3.2.2.1 ht (by rw [hQ3.1]; exact st_8) (by rw [hQ3.1, st_7, et]) (by decide) (by decide) (by decide) (by decide) (by decide) (by decide)) rfl (by decide +kernel) ⟨Nat.le_of_ble_eq_true rfl, Nat.le_of_ble_eq_true rfl⟩ (Nat.zero_lt_one) rfl rfl rfl rfl hl.1 rfl (Nat.le_of_ble_eq_true rfl) ⟨Nat.le_of_ble_eq_true rfl, Nat.le_of_ble_eq_true rfl⟩ dX6_readsPart_65 (fun x_65 τ_65 H locs hp_65 hw hS => ?_)
              refine lv_if_eq (tgt := 96) hx hb dX6_readsPart_68 (by decide) (fun c_68 => ?_) (fun c_68 => ?_)
              · have hbad := pr_num0 hQ3 hp_65 c_68
                refine lv_iconst (v := nI 0) hx hb dX6_readsPart_96 (by decide) ?_
                refine g_zret hx hb hr hlk hE hw hS rfl dX6_readsPart_97 ?_
                first | exact Or.inl ⟨rfl, hbad⟩ | exact Or.inr ⟨q4, row4, _, v4, rfl, hN4⟩
              · obtain ⟨q3, row3, v3, hN3⟩ := pr_num1 hQ3 hp_65 (by decide) c_68
                refine lv_aload_n hx hb dX6_readsPart_71 rfl (lv_at hl 0 rfl) ?_
                refine lv_bipush (v := nI 61) hx hb dX6_readsPart_72 (by decide) ?_
                refine g_Vi (n := 1) (As := [.int (nI 61)]) (rest := []) hx hb hml hown hts hE hw hS gX6_readsPart_X6_takes (c_X6_takes l G A _ q3 t (nI 61) hN3.2.2.1 ht (by rw [hN3.1]; exact st_8) (by rw [hN3.1, st_7, et])) rfl (by decide +kernel) ⟨Nat.le_of_ble_eq_true rfl, Nat.le_of_ble_eq_true rfl⟩ (Nat.zero_lt_one) rfl rfl rfl rfl hl.1 rfl (Nat.le_of_ble_eq_true rfl) ⟨Nat.le_of_ble_eq_true rfl, Nat.le_of_ble_eq_true rfl⟩ dX6_readsPart_74 (fun x_74 τ_74 H locs hp_74 hw hS => ?_)
                refine lv_if_eq (tgt := 96) hx hb dX6_readsPart_77 (by decide) (fun c_77 => ?_) (fun c_77 => ?_)
                · have hbad := pr_take0 (f := 3) (by decide) (by decide) hN3 hp_74 c_77
                  refine lv_iconst (v := nI 0) hx hb dX6_readsPart_96 (by decide) ?_
                  refine g_zret hx hb hr hlk hE hw hS rfl dX6_readsPart_97 ?_
                  first | exact Or.inl ⟨rfl, hbad⟩ | exact Or.inr ⟨q4, row4, _, v4, rfl, hN4⟩
                · have hQ4 := pr_take1 (f := 3) (by decide) (by decide) hN3 hp_74 c_77
                  refine lv_aload_n hx hb dX6_readsPart_80 rfl (lv_at hl 0 rfl) ?_
                  refine lv_iconst (v := nI 4) hx hb dX6_readsPart_81 (by decide) ?_
                  refine lv_iconst (v := nI 0) hx hb dX6_readsPart_82 (by decide) ?_
                  refine lv_sipush (v := nI 255) hx hb dX6_readsPart_83 (by decide) ?_
                  refine g_Vi (n := 3) (As := [.int (nI 4), .int (nI 0), .int (nI 255)]) (rest := []) hx hb hml hown hts hE hw hS gX6_readsPart_X6_readsNumber (c_X6_readsNumber l G A _ (q3 + 1) t 4 0 255 hQ4.2.2.1 ht (by rw [hQ4.1]; exact st_8) (by rw [hQ4.1, st_7, et]) (by decide) (by decide) (by decide) (by decide) (by decide) (by decide)) rfl (by decide +kernel) ⟨Nat.le_of_ble_eq_true rfl, Nat.le_of_ble_eq_true rfl⟩ (Nat.zero_lt_one) rfl rfl rfl rfl hl.1 rfl (Nat.le_of_ble_eq_true rfl) ⟨Nat.le_of_ble_eq_true rfl, Nat.le_of_ble_eq_true rfl⟩ dX6_readsPart_86 (fun x_86 τ_86 H locs hp_86 hw hS => ?_)
                  refine lv_if_eq (tgt := 96) hx hb dX6_readsPart_89 (by decide) (fun c_89 => ?_) (fun c_89 => ?_)
                  · have hbad := pr_num0 hQ4 hp_86 c_89
                    refine lv_iconst (v := nI 0) hx hb dX6_readsPart_96 (by decide) ?_
                    refine g_zret hx hb hr hlk hE hw hS rfl dX6_readsPart_97 ?_
                    first | exact Or.inl ⟨rfl, hbad⟩ | exact Or.inr ⟨q4, row4, _, v4, rfl, hN4⟩
                  · obtain ⟨q4, row4, v4, hN4⟩ := pr_num1 hQ4 hp_86 (by decide) c_89
                    refine lv_iconst (v := nI 1) hx hb dX6_readsPart_92 (by decide) ?_
                    refine lv_goto (tgt := 97) hx hb dX6_readsPart_93 (by decide) ?_
                    refine g_zret hx hb hr hlk hE hw hS rfl dX6_readsPart_97 ?_
                    first | exact Or.inl ⟨rfl, hbad⟩ | exact Or.inr ⟨q4, row4, _, v4, rfl, hN4⟩
