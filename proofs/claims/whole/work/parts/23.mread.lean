/-! CONTRACTS, laid by program -/
set_option maxHeartbeats 4000000 in
set_option maxRecDepth 100000 in
/-- ZonedLightModel.in(JJJ)Z -/
theorem c_X6_in (l : Launch) (G : GG) (A : Nat → Prop) (σ : St) (v : Int32) (lo : Int32) (hi : Int32)  : MI l yX6_in wsX6_in 0 0 G A σ [.long (v.toInt64), .long (lo.toInt64), .long (hi.toInt64)] (fun r τ => bP r (btw v lo hi) ∧ τ = σ) := by
  refine MI.on (by decide) rfl (Nat.le_of_ble_eq_true rfl) (fun pP eE sS mM args below meth cC ls hx hb hml hr hown hlk hts hE hw hS hl => ?_)
  have hl : lv_has ls 6 [(0, .long (v.toInt64)), (2, .long (lo.toInt64)), (4, .long (hi.toInt64))] := hl
  refine lv_lload_n hx hb dX6_in_0 rfl (lv_at hl 0 rfl) ?_
  refine lv_lload_n hx hb dX6_in_1 rfl (lv_at hl 1 rfl) ?_
  refine W.lcmp hx hb dX6_in_2 ?_
  refine lv_topi (fun x_2 ex_2 => ?_)
  refine lv_if_lt (tgt := 17) hx hb dX6_in_3 (by decide) (fun c_3 => ?_) (fun c_3 => ?_)
  · refine lv_iconst (v := nI 0) hx hb dX6_in_17 (by decide) ?_
    refine g_zret hx hb hr hlk hE hw hS rfl dX6_in_18 ?_
    first | exact ⟨Or.inl ⟨rfl, fun q => c_3 (by rw [ex_2]; exact cmp_lt.mpr q), fun q => c_10 (by rw [ex_9]; exact cmp_gt.mpr q)⟩, rfl⟩ | exact ⟨Or.inr ⟨rfl, fun q => q.1 (cmp_lt.mp (by rw [← ex_2]; exact c_3))⟩, rfl⟩ | exact ⟨Or.inr ⟨rfl, fun q => q.2 (cmp_gt.mp (by rw [← ex_9]; exact c_10))⟩, rfl⟩
  · refine lv_lload_n hx hb dX6_in_6 rfl (lv_at hl 0 rfl) ?_
    refine lv_lload hx hb dX6_in_7 (lv_at hl 2 rfl) ?_
    refine W.lcmp hx hb dX6_in_9 ?_
    refine lv_topi (fun x_9 ex_9 => ?_)
    refine lv_if_gt (tgt := 17) hx hb dX6_in_10 (by decide) (fun c_10 => ?_) (fun c_10 => ?_)
    · refine lv_iconst (v := nI 0) hx hb dX6_in_17 (by decide) ?_
      refine g_zret hx hb hr hlk hE hw hS rfl dX6_in_18 ?_
      first | exact ⟨Or.inl ⟨rfl, fun q => c_3 (by rw [ex_2]; exact cmp_lt.mpr q), fun q => c_10 (by rw [ex_9]; exact cmp_gt.mpr q)⟩, rfl⟩ | exact ⟨Or.inr ⟨rfl, fun q => q.1 (cmp_lt.mp (by rw [← ex_2]; exact c_3))⟩, rfl⟩ | exact ⟨Or.inr ⟨rfl, fun q => q.2 (cmp_gt.mp (by rw [← ex_9]; exact c_10))⟩, rfl⟩
    · refine lv_iconst (v := nI 1) hx hb dX6_in_13 (by decide) ?_
      refine lv_goto (tgt := 18) hx hb dX6_in_14 (by decide) ?_
      refine g_zret hx hb hr hlk hE hw hS rfl dX6_in_18 ?_
      first | exact ⟨Or.inl ⟨rfl, fun q => c_3 (by rw [ex_2]; exact cmp_lt.mpr q), fun q => c_10 (by rw [ex_9]; exact cmp_gt.mpr q)⟩, rfl⟩ | exact ⟨Or.inr ⟨rfl, fun q => q.1 (cmp_lt.mp (by rw [← ex_2]; exact c_3))⟩, rfl⟩ | exact ⟨Or.inr ⟨rfl, fun q => q.2 (cmp_gt.mp (by rw [← ex_9]; exact c_10))⟩, rfl⟩
set_option maxHeartbeats 4000000 in
set_option maxRecDepth 100000 in
/-- ZonedLightModel.lesser(II)I -/
theorem c_X6_lesser (l : Launch) (G : GG) (A : Nat → Prop) (σ : St) (x : Int32) (y : Int32)  : MI l yX6_lesser wsX6_lesser 0 0 G A σ [.int x, .int y] (fun r τ => r = imin x y ∧ τ = σ) := by
  refine MI.on (by decide) rfl (Nat.le_of_ble_eq_true rfl) (fun pP eE sS mM args below meth cC ls hx hb hml hr hown hlk hts hE hw hS hl => ?_)
  have hl : lv_has ls 2 [(0, .int x), (1, .int y)] := hl
  refine lv_iload_n hx hb dX6_lesser_0 rfl (lv_at hl 0 rfl) ?_
  refine lv_iload_n hx hb dX6_lesser_1 rfl (lv_at hl 1 rfl) ?_
  refine lv_icmp_ge (tgt := 9) hx hb dX6_lesser_2 (by decide) (fun c_2 => ?_) (fun c_2 => ?_)
  · refine lv_iload_n hx hb dX6_lesser_9 rfl (lv_at hl 1 rfl) ?_
    refine g_iret hx hb hr hlk hE hw hS dX6_lesser_10 ?_
    first | exact ⟨imin_ge c_2, rfl⟩ | exact ⟨imin_lt c_2, rfl⟩
  · refine lv_iload_n hx hb dX6_lesser_5 rfl (lv_at hl 0 rfl) ?_
    refine lv_goto (tgt := 10) hx hb dX6_lesser_6 (by decide) ?_
    refine g_iret hx hb hr hlk hE hw hS dX6_lesser_10 ?_
    first | exact ⟨imin_ge c_2, rfl⟩ | exact ⟨imin_lt c_2, rfl⟩
set_option maxHeartbeats 4000000 in
set_option maxRecDepth 100000 in
/-- ZonedLightModel.off(I)I -/
theorem c_X6_off (l : Launch) (G : GG) (A : Nat → Prop) (σ : St) (x : Int32)  : MI l yX6_off wsX6_off 0 0 G A σ [.int x] (fun r τ => r = iabs x ∧ τ = σ) := by
  refine MI.on (by decide) rfl (Nat.le_of_ble_eq_true rfl) (fun pP eE sS mM args below meth cC ls hx hb hml hr hown hlk hts hE hw hS hl => ?_)
  have hl : lv_has ls 1 [(0, .int x)] := hl
  refine lv_iload_n hx hb dX6_off_0 rfl (lv_at hl 0 rfl) ?_
  refine lv_if_ge (tgt := 9) hx hb dX6_off_1 (by decide) (fun c_1 => ?_) (fun c_1 => ?_)
  · refine lv_iload_n hx hb dX6_off_9 rfl (lv_at hl 0 rfl) ?_
    refine g_iret hx hb hr hlk hE hw hS dX6_off_10 ?_
    first | exact ⟨iabs_pos c_1, rfl⟩ | exact ⟨by rw [ex_5]; exact iabs_neg c_1, rfl⟩
  · refine lv_iload_n hx hb dX6_off_4 rfl (lv_at hl 0 rfl) ?_
    refine lv_ineg hx hb dX6_off_5 ?_
    refine lv_topi (fun x_5 ex_5 => ?_)
    refine lv_goto (tgt := 10) hx hb dX6_off_6 (by decide) ?_
    refine g_iret hx hb hr hlk hE hw hS dX6_off_10 ?_
    first | exact ⟨iabs_pos c_1, rfl⟩ | exact ⟨by rw [ex_5]; exact iabs_neg c_1, rfl⟩
set_option maxHeartbeats 4000000 in
set_option maxRecDepth 100000 in
/-- ZonedLightModel.isSpot(II)Z -/
theorem c_X6_isSpot (l : Launch) (G : GG) (A : Nat → Prop) (σ : St) (x : Int32) (y : Int32)  : MI l yX6_isSpot wsX6_isSpot 1 25 G A σ [.int x, .int y] (fun r τ => bP r (onP x y) ∧ τ = σ) := by
  refine MI.on (by decide) rfl (Nat.le_of_ble_eq_true rfl) (fun pP eE sS mM args below meth cC ls hx hb hml hr hown hlk hts hE hw hS hl => ?_)
  have hl : lv_has ls 2 [(0, .int x), (1, .int y)] := hl
  refine lv_iload_n hx hb dX6_isSpot_0 rfl (lv_at hl 0 rfl) ?_
  refine lv_i2l hx hb dX6_isSpot_1 rfl ?_
  refine lv_lconst (v := (nI 0).toInt64) hx hb dX6_isSpot_2 (by decide +kernel) ?_
  refine lv_ldc2 (v := (nI 23).toInt64) hx hb hown (hts (.constantLong RX6 32 (nI 23).toInt64) (by decide +kernel)) dX6_isSpot_3 ?_
  refine g_Si (n := 3) (As := [.long (x.toInt64), .long ((nI 0).toInt64), .long ((nI 23).toInt64)]) (rest := []) hx hb hml hown hts hE hw hS gX6_isSpot_X6_in (c_X6_in l G A _ x (nI 0) (nI 23)) rfl (by decide +kernel) ⟨Nat.le_of_ble_eq_true rfl, Nat.le_of_ble_eq_true rfl⟩ rfl hl.1 rfl (Nat.le_of_ble_eq_true rfl) ⟨Nat.le_of_ble_eq_true rfl, Nat.le_of_ble_eq_true rfl⟩ dX6_isSpot_6 (fun x_6 τ_6 H locs hp_6 hw hS => ?_)
  obtain ⟨hb_6, hτ_6⟩ := hp_6
  rw [hτ_6] at hw
  refine lv_if_eq (tgt := 28) hx hb dX6_isSpot_9 (by decide) (fun c_9 => ?_) (fun c_9 => ?_)
  · refine lv_iconst (v := nI 0) hx hb dX6_isSpot_28 (by decide) ?_
    refine g_zret hx hb hr hlk hE hw hS rfl dX6_isSpot_29 ?_
    first | exact ⟨Or.inl ⟨rfl, (btw_in (by decide)).mp (bP_t hb_6 c_9), (btw_in (by decide)).mp (bP_t hb_18 c_21)⟩, rfl⟩ | exact ⟨Or.inr ⟨rfl, fun q => bP_f hb_6 c_9 ((btw_in (by decide)).mpr q.1)⟩, rfl⟩ | exact ⟨Or.inr ⟨rfl, fun q => bP_f hb_18 c_21 ((btw_in (by decide)).mpr q.2)⟩, rfl⟩
  · refine lv_iload_n hx hb dX6_isSpot_12 rfl (lv_at hl 1 rfl) ?_
    refine lv_i2l hx hb dX6_isSpot_13 rfl ?_
    refine lv_lconst (v := (nI 0).toInt64) hx hb dX6_isSpot_14 (by decide +kernel) ?_
    refine lv_ldc2 (v := (nI 11).toInt64) hx hb hown (hts (.constantLong RX6 38 (nI 11).toInt64) (by decide +kernel)) dX6_isSpot_15 ?_
    refine g_Si (n := 3) (As := [.long (y.toInt64), .long ((nI 0).toInt64), .long ((nI 11).toInt64)]) (rest := []) hx hb hml hown hts hE hw hS gX6_isSpot_X6_in (c_X6_in l G A _ y (nI 0) (nI 11)) rfl (by decide +kernel) ⟨Nat.le_of_ble_eq_true rfl, Nat.le_of_ble_eq_true rfl⟩ rfl hl.1 rfl (Nat.le_of_ble_eq_true rfl) ⟨Nat.le_of_ble_eq_true rfl, Nat.le_of_ble_eq_true rfl⟩ dX6_isSpot_18 (fun x_18 τ_18 H locs hp_18 hw hS => ?_)
    obtain ⟨hb_18, hτ_18⟩ := hp_18
    rw [hτ_18] at hw
    refine lv_if_eq (tgt := 28) hx hb dX6_isSpot_21 (by decide) (fun c_21 => ?_) (fun c_21 => ?_)
    · refine lv_iconst (v := nI 0) hx hb dX6_isSpot_28 (by decide) ?_
      refine g_zret hx hb hr hlk hE hw hS rfl dX6_isSpot_29 ?_
      first | exact ⟨Or.inl ⟨rfl, (btw_in (by decide)).mp (bP_t hb_6 c_9), (btw_in (by decide)).mp (bP_t hb_18 c_21)⟩, rfl⟩ | exact ⟨Or.inr ⟨rfl, fun q => bP_f hb_6 c_9 ((btw_in (by decide)).mpr q.1)⟩, rfl⟩ | exact ⟨Or.inr ⟨rfl, fun q => bP_f hb_18 c_21 ((btw_in (by decide)).mpr q.2)⟩, rfl⟩
    · refine lv_iconst (v := nI 1) hx hb dX6_isSpot_24 (by decide) ?_
      refine lv_goto (tgt := 29) hx hb dX6_isSpot_25 (by decide) ?_
      refine g_zret hx hb hr hlk hE hw hS rfl dX6_isSpot_29 ?_
      first | exact ⟨Or.inl ⟨rfl, (btw_in (by decide)).mp (bP_t hb_6 c_9), (btw_in (by decide)).mp (bP_t hb_18 c_21)⟩, rfl⟩ | exact ⟨Or.inr ⟨rfl, fun q => bP_f hb_6 c_9 ((btw_in (by decide)).mpr q.1)⟩, rfl⟩ | exact ⟨Or.inr ⟨rfl, fun q => bP_f hb_18 c_21 ((btw_in (by decide)).mpr q.2)⟩, rfl⟩
set_option maxHeartbeats 4000000 in
set_option maxRecDepth 100000 in
/-- ZonedLightModel.isZone(I)Z -/
theorem c_X6_isZone (l : Launch) (G : GG) (A : Nat → Prop) (σ : St) (z : Int32)  : MI l yX6_isZone wsX6_isZone 1 25 G A σ [.int z] (fun r τ => bP r (inN z 18) ∧ τ = σ) := by
  refine MI.on (by decide) rfl (Nat.le_of_ble_eq_true rfl) (fun pP eE sS mM args below meth cC ls hx hb hml hr hown hlk hts hE hw hS hl => ?_)
  have hl : lv_has ls 1 [(0, .int z)] := hl
  refine lv_iload_n hx hb dX6_isZone_0 rfl (lv_at hl 0 rfl) ?_
  refine lv_i2l hx hb dX6_isZone_1 rfl ?_
  refine lv_lconst (v := (nI 0).toInt64) hx hb dX6_isZone_2 (by decide +kernel) ?_
  refine lv_ldc2 (v := (nI 17).toInt64) hx hb hown (hts (.constantLong RX6 40 (nI 17).toInt64) (by decide +kernel)) dX6_isZone_3 ?_
  refine g_Si (n := 3) (As := [.long (z.toInt64), .long ((nI 0).toInt64), .long ((nI 17).toInt64)]) (rest := []) hx hb hml hown hts hE hw hS gX6_isZone_X6_in (c_X6_in l G A _ z (nI 0) (nI 17)) rfl (by decide +kernel) ⟨Nat.le_of_ble_eq_true rfl, Nat.le_of_ble_eq_true rfl⟩ rfl hl.1 rfl (Nat.le_of_ble_eq_true rfl) ⟨Nat.le_of_ble_eq_true rfl, Nat.le_of_ble_eq_true rfl⟩ dX6_isZone_6 (fun x_6 τ_6 H locs hp_6 hw hS => ?_)
  obtain ⟨hb_6, hτ_6⟩ := hp_6
  rw [hτ_6] at hw
  refine g_zret hx hb hr hlk hE hw hS (bP_n hb_6) dX6_isZone_9 ?_
  exact ⟨bP_iff (btw_in (by decide)) hb_6, rfl⟩
set_option maxHeartbeats 4000000 in
set_option maxRecDepth 100000 in
/-- ZonedLightModel.spotIn(II)I -/
theorem c_X6_spotIn (l : Launch) (G : GG) (A : Nat → Prop) (σ : St) (z : Nat) (w : Nat) (hz : z < 18) (hw2 : w < 16) : MI l yX6_spotIn wsX6_spotIn 0 0 G A σ [.int (nI z), .int (nI w)] (fun r τ => r = nI (spotN z w) ∧ τ = σ) := by
  refine MI.on (by decide) rfl (Nat.le_of_ble_eq_true rfl) (fun pP eE sS mM args below meth cC ls hx hb hml hr hown hlk hts hE hw hS hl => ?_)
  have hl : lv_has ls 2 [(0, .int (nI z)), (1, .int (nI w))] := hl
  refine lv_bipush (v := nI 24) hx hb dX6_spotIn_0 (by decide) ?_
  refine lv_iload_n hx hb dX6_spotIn_2 rfl (lv_at hl 0 rfl) ?_
  refine lv_bipush (v := nI 6) hx hb dX6_spotIn_3 (by decide) ?_
  refine n_idiv hx hb dX6_spotIn_5 (by omega) (by omega) (by omega) ?_
  refine lv_iconst (v := nI 4) hx hb dX6_spotIn_6 (by decide) ?_
  refine n_imul hx hb dX6_spotIn_7 ?_
  refine lv_iload_n hx hb dX6_spotIn_8 rfl (lv_at hl 1 rfl) ?_
  refine lv_iconst (v := nI 4) hx hb dX6_spotIn_9 (by decide) ?_
  refine n_idiv hx hb dX6_spotIn_10 (by omega) (by omega) (by omega) ?_
  refine n_iadd hx hb dX6_spotIn_11 ?_
  refine n_imul hx hb dX6_spotIn_12 ?_
  refine lv_iload_n hx hb dX6_spotIn_13 rfl (lv_at hl 0 rfl) ?_
  refine lv_bipush (v := nI 6) hx hb dX6_spotIn_14 (by decide) ?_
  refine n_irem hx hb dX6_spotIn_16 (by omega) (by omega) (by omega) ?_
  refine lv_iconst (v := nI 4) hx hb dX6_spotIn_17 (by decide) ?_
  refine n_imul hx hb dX6_spotIn_18 ?_
  refine n_iadd hx hb dX6_spotIn_19 ?_
  refine lv_iload_n hx hb dX6_spotIn_20 rfl (lv_at hl 1 rfl) ?_
  refine lv_iconst (v := nI 4) hx hb dX6_spotIn_21 (by decide) ?_
  refine n_irem hx hb dX6_spotIn_22 (by omega) (by omega) (by omega) ?_
  refine n_iadd hx hb dX6_spotIn_23 ?_
  refine g_iret hx hb hr hlk hE hw hS dX6_spotIn_24 ?_
  exact ⟨by congr 1; unfold spotN; omega, rfl⟩
set_option maxHeartbeats 4000000 in
set_option maxRecDepth 100000 in
/-- ZonedLightModel.zoneOf(I)I -/
theorem c_X6_zoneOf (l : Launch) (G : GG) (A : Nat → Prop) (σ : St) (s : Nat) (hs : s < 288) : MI l yX6_zoneOf wsX6_zoneOf 0 0 G A σ [.int (nI s)] (fun r τ => r = nI (s / 24 / 4 * 6 + s % 24 / 4) ∧ τ = σ) := by
  refine MI.on (by decide) rfl (Nat.le_of_ble_eq_true rfl) (fun pP eE sS mM args below meth cC ls hx hb hml hr hown hlk hts hE hw hS hl => ?_)
  have hl : lv_has ls 1 [(0, .int (nI s))] := hl
  refine lv_iload_n hx hb dX6_zoneOf_0 rfl (lv_at hl 0 rfl) ?_
  refine lv_bipush (v := nI 24) hx hb dX6_zoneOf_1 (by decide) ?_
  refine n_idiv hx hb dX6_zoneOf_3 (by omega) (by omega) (by omega) ?_
  refine lv_iconst (v := nI 4) hx hb dX6_zoneOf_4 (by decide) ?_
  refine n_idiv hx hb dX6_zoneOf_5 (by omega) (by omega) (by omega) ?_
  refine lv_bipush (v := nI 6) hx hb dX6_zoneOf_6 (by decide) ?_
  refine n_imul hx hb dX6_zoneOf_8 ?_
  refine lv_iload_n hx hb dX6_zoneOf_9 rfl (lv_at hl 0 rfl) ?_
  refine lv_bipush (v := nI 24) hx hb dX6_zoneOf_10 (by decide) ?_
  refine n_irem hx hb dX6_zoneOf_12 (by omega) (by omega) (by omega) ?_
  refine lv_iconst (v := nI 4) hx hb dX6_zoneOf_13 (by decide) ?_
  refine n_idiv hx hb dX6_zoneOf_14 (by omega) (by omega) (by omega) ?_
  refine n_iadd hx hb dX6_zoneOf_15 ?_
  refine g_iret hx hb hr hlk hE hw hS dX6_zoneOf_16 ?_
  exact ⟨rfl, rfl⟩
set_option maxHeartbeats 4000000 in
set_option maxRecDepth 100000 in
/-- ZonedLightModel.apart(II)I -/
theorem c_X6_apart (l : Launch) (G : GG) (A : Nat → Prop) (σ : St) (z : Nat) (o : Nat) (hz : z < 18) (ho : o < 18) : MI l yX6_apart wsX6_apart 1 20 G A σ [.int (nI z), .int (nI o)] (fun r τ => r = nI (apartN z o) ∧ τ = σ) := by
  refine MI.on (by decide) rfl (Nat.le_of_ble_eq_true rfl) (fun pP eE sS mM args below meth cC ls hx hb hml hr hown hlk hts hE hw hS hl => ?_)
  have hl : lv_has ls 4 [(0, .int (nI z)), (1, .int (nI o))] := hl
  refine lv_iload_n hx hb dX6_apart_0 rfl (lv_at hl 0 rfl) ?_
  refine lv_bipush (v := nI 6) hx hb dX6_apart_1 (by decide) ?_
  refine n_irem hx hb dX6_apart_3 (by omega) (by omega) (by omega) ?_
  refine lv_iload_n hx hb dX6_apart_4 rfl (lv_at hl 1 rfl) ?_
  refine lv_bipush (v := nI 6) hx hb dX6_apart_5 (by decide) ?_
  refine n_irem hx hb dX6_apart_7 (by omega) (by omega) (by omega) ?_
  refine lv_isub hx hb dX6_apart_8 ?_
  refine lv_topi (fun x_8 ex_8 => ?_)
  refine g_Si (n := 1) (As := [.int x_8]) (rest := []) hx hb hml hown hts hE hw hS gX6_apart_X6_off (c_X6_off l G A _ x_8) rfl (by decide +kernel) ⟨Nat.le_of_ble_eq_true rfl, Nat.le_of_ble_eq_true rfl⟩ rfl hl.1 rfl (Nat.le_of_ble_eq_true rfl) ⟨Nat.le_of_ble_eq_true rfl, Nat.le_of_ble_eq_true rfl⟩ dX6_apart_9 (fun x_9 τ_9 H locs hp_9 hw hS => ?_)
  obtain ⟨ex_9, hτ_9⟩ := hp_9
  rw [hτ_9] at hw
  obtain rfl : x_9 = nI (distN (z % 6) (o % 6)) := by rw [ex_9, ex_8]; exact iabs_sub (by omega) (by omega)
  refine lv_istore_n (lv' := [(2, .int (nI (distN (z % 6) (o % 6)))), (0, .int (nI z)), (1, .int (nI o))]) hx hb dX6_apart_12 rfl hl (by decide) rfl (fun ls hl => ?_)
  refine lv_iload_n hx hb dX6_apart_13 rfl (lv_at hl 1 rfl) ?_
  refine lv_bipush (v := nI 6) hx hb dX6_apart_14 (by decide) ?_
  refine n_idiv hx hb dX6_apart_16 (by omega) (by omega) (by omega) ?_
  refine lv_iload_n hx hb dX6_apart_17 rfl (lv_at hl 2 rfl) ?_
  refine lv_bipush (v := nI 6) hx hb dX6_apart_18 (by decide) ?_
  refine n_idiv hx hb dX6_apart_20 (by omega) (by omega) (by omega) ?_
  refine lv_isub hx hb dX6_apart_21 ?_
  refine lv_topi (fun x_21 ex_21 => ?_)
  refine g_Si (n := 1) (As := [.int x_21]) (rest := []) hx hb hml hown hts hE hw hS gX6_apart_X6_off (c_X6_off l G A _ x_21) rfl (by decide +kernel) ⟨Nat.le_of_ble_eq_true rfl, Nat.le_of_ble_eq_true rfl⟩ rfl hl.1 rfl (Nat.le_of_ble_eq_true rfl) ⟨Nat.le_of_ble_eq_true rfl, Nat.le_of_ble_eq_true rfl⟩ dX6_apart_22 (fun x_22 τ_22 H locs hp_22 hw hS => ?_)
  obtain ⟨ex_22, hτ_22⟩ := hp_22
  rw [hτ_22] at hw
  obtain rfl : x_22 = nI (distN (z / 6) (o / 6)) := by rw [ex_22, ex_21]; exact iabs_sub (by omega) (by omega)
  refine lv_istore_n (lv' := [(3, .int (nI (distN (z / 6) (o / 6)))), (2, .int (nI (distN (z % 6) (o % 6)))), (0, .int (nI z)), (1, .int (nI o))]) hx hb dX6_apart_25 rfl hl (by decide) rfl (fun ls hl => ?_)
  refine lv_iload_n hx hb dX6_apart_26 rfl (lv_at hl 1 rfl) ?_
  refine lv_iload_n hx hb dX6_apart_27 rfl (lv_at hl 0 rfl) ?_
  refine n_cmp_le (tgt := 35) hx hb dX6_apart_28 (by decide) (by unfold distN; split <;> omega) (by unfold distN; split <;> omega) (fun c_28 => ?_) (fun c_28 => ?_)
  · refine lv_iload_n hx hb dX6_apart_35 rfl (lv_at hl 0 rfl) ?_
    refine g_iret hx hb hr hlk hE hw hS dX6_apart_36 ?_
    first | exact ⟨by rw [apartN, maxN_of_le c_28], rfl⟩ | exact ⟨by rw [apartN, maxN_of_lt c_28], rfl⟩
  · refine lv_iload_n hx hb dX6_apart_31 rfl (lv_at hl 1 rfl) ?_
    refine lv_goto (tgt := 36) hx hb dX6_apart_32 (by decide) ?_
    refine g_iret hx hb hr hlk hE hw hS dX6_apart_36 ?_
    first | exact ⟨by rw [apartN, maxN_of_le c_28], rfl⟩ | exact ⟨by rw [apartN, maxN_of_lt c_28], rfl⟩
set_option maxHeartbeats 4000000 in
set_option maxRecDepth 100000 in
/-- ZonedLightModel.shareAt(I)I -/
theorem c_X6_shareAt (l : Launch) (G : GG) (A : Nat → Prop) (σ : St) (f : Nat) (hf : f < 6) : MI l yX6_shareAt wsX6_shareAt 0 0 G A σ [.ref (G.1 16 0), .int (nI f)] (fun r τ => r = (if f < 3 then σ 17 0 (324 + f) else 0) ∧ τ = σ) := by
  refine MI.on (by decide) rfl (Nat.le_of_ble_eq_true rfl) (fun pP eE sS mM args below meth cC ls hx hb hml hr hown hlk hts hE hw hS hl => ?_)
  have hl : lv_has ls 2 [(0, .ref (G.1 16 0)), (1, .int (nI f))] := hl
  refine lv_iload_n hx hb dX6_shareAt_0 rfl (lv_at hl 1 rfl) ?_
  refine lv_iconst (v := nI 3) hx hb dX6_shareAt_1 (by decide) ?_
  refine n_cmp_ge (tgt := 18) hx hb dX6_shareAt_2 (by decide) (by omega) (by omega) (fun c_2 => ?_) (fun c_2 => ?_)
  · refine lv_iconst (v := nI 0) hx hb dX6_shareAt_18 (by decide) ?_
    refine g_iret hx hb hr hlk hE hw hS dX6_shareAt_19 ?_
    first | exact ⟨by rw [ex_14, if_pos (by omega)], rfl⟩ | exact ⟨by rw [if_neg (by omega)]; rfl, rfl⟩
  · refine lv_aload_n hx hb dX6_shareAt_5 rfl (lv_at hl 0 rfl) ?_
    refine gf_X6_all hx hb hE hw (Nat.zero_lt_one) hown (hts (.fieldLink RX6 7 "ZonedLightModel" "all" "[I") (by decide +kernel)) dX6_shareAt_6 ?_
    refine lv_sipush (v := nI 324) hx hb dX6_shareAt_9 (by decide) ?_
    refine lv_iload_n hx hb dX6_shareAt_12 rfl (lv_at hl 1 rfl) ?_
    refine n_iadd hx hb dX6_shareAt_13 ?_
    refine g_ald hx hb hE hw (n := 335) (Nat.zero_lt_one) rfl (by decide) (by omega) dX6_shareAt_14 ?_
    refine lv_topi (fun x_14 ex_14 => ?_)
    refine lv_goto (tgt := 19) hx hb dX6_shareAt_15 (by decide) ?_
    refine g_iret hx hb hr hlk hE hw hS dX6_shareAt_19 ?_
    first | exact ⟨by rw [ex_14, if_pos (by omega)], rfl⟩ | exact ⟨by rw [if_neg (by omega)]; rfl, rfl⟩
set_option maxHeartbeats 4000000 in
set_option maxRecDepth 100000 in
/-- ZonedLightModel.light(IZ)I -/
theorem c_X6_light (l : Launch) (G : GG) (A : Nat → Prop) (σ : St) (z : Nat) (hz : z < 18) : MI l yX6_light wsX6_light 2 43 G A σ [.ref (G.1 16 0), .int (nI z), .int (nI 0)] (fun r τ => r = lightF (σ 17 0) (levO (σ 17 0)) z ∧ τ = σ) := by
  refine MI.on (by decide) rfl (Nat.le_of_ble_eq_true rfl) (fun pP eE sS mM args below meth cC ls hx hb hml hr hown hlk hts hE hw hS hl => ?_)
  have hl : lv_has ls 5 [(0, .ref (G.1 16 0)), (1, .int (nI z)), (2, .int (nI 0))] := hl
  refine lv_iconst (v := nI 0) hx hb dX6_light_0 (by decide) ?_
  refine lv_istore_n (lv' := [(3, .int (nI 0)), (0, .ref (G.1 16 0)), (1, .int (nI z)), (2, .int (nI 0))]) hx hb dX6_light_1 rfl hl (by decide) rfl (fun ls hl => ?_)
  refine lv_iconst (v := nI 0) hx hb dX6_light_2 (by decide) ?_
  refine lv_istore (lv' := [(4, .int (nI 0)), (3, .int (nI 0)), (0, .ref (G.1 16 0)), (1, .int (nI z)), (2, .int (nI 0))]) hx hb dX6_light_3 hl (by decide) rfl (fun ls hl => ?_)
  have K_5 : ∀ (fuel : Nat) (k : Nat) (acc : Int32), (k ≤ 18) → (acc = glowK (σ 17 0) (levO (σ 17 0)) z k) → 18 - k < fuel → ∀ (H : Heap) (locs : List Loc) (ls : Array Slot), Wcel G σ H → va_S A sS.heap H locs → lv_has ls 5 [(0, .ref (G.1 16 0)), (1, .int (nI z)), (2, .int (nI 0)), (3, .int acc), (4, .int (nI k))] → W pP l eE { frames := 2, cells := 0, slots := 0, locals := 43 } sS mM args below meth cC H locs 0 0 (MQ below (va_Qi (fun r τ => r = lightF (σ 17 0) (levO (σ 17 0)) z ∧ τ = σ) (fun τ t => gP G A τ t) A) args sS 0 0 A) (F0 mM 5 ls []) := by
    intro fuel
    induction fuel with
    | zero =>
      intro k acc hk ha hfu
      exact absurd hfu (Nat.not_lt_zero _)
    | succ fuel K_5 =>
      intro k acc hk ha hfu H locs ls hw hS hl
      refine lv_iload hx hb dX6_light_5 (lv_at hl 4 rfl) ?_
      refine lv_bipush (v := nI 18) hx hb dX6_light_7 (by decide) ?_
      refine n_cmp_ge (tgt := 57) hx hb dX6_light_9 (by decide) (by omega) (by omega) (fun c_9 => ?_) (fun c_9 => ?_)
      · refine lv_sipush (v := nI 255) hx hb dX6_light_57 (by decide) ?_
        refine lv_iload_n hx hb dX6_light_60 rfl (lv_at hl 3 rfl) ?_
        refine lv_sipush (v := nI 256) hx hb dX6_light_61 (by decide) ?_
        refine lv_idiv hx hb dX6_light_64 (by decide) ?_
        refine lv_topi (fun x_64 ex_64 => ?_)
        refine g_Si (n := 2) (As := [.int (nI 255), .int x_64]) (rest := []) hx hb hml hown hts hE hw hS gX6_light_X6_lesser (c_X6_lesser l G A _ (nI 255) x_64) rfl (by decide +kernel) ⟨Nat.le_of_ble_eq_true rfl, Nat.le_of_ble_eq_true rfl⟩ rfl hl.1 rfl (Nat.le_of_ble_eq_true rfl) ⟨Nat.le_of_ble_eq_true rfl, Nat.le_of_ble_eq_true rfl⟩ dX6_light_65 (fun x_65 τ_65 H locs hp_65 hw hS => ?_)
        obtain ⟨ex_65, hτ_65⟩ := hp_65
        rw [hτ_65] at hw
        refine g_iret hx hb hr hlk hE hw hS dX6_light_68 ?_
        exact ⟨by rw [ex_65, ex_64, ha, show k = 18 by omega]; rfl, rfl⟩
      · refine lv_iload_n hx hb dX6_light_12 rfl (lv_at hl 3 rfl) ?_
        refine lv_iload_n hx hb dX6_light_13 rfl (lv_at hl 2 rfl) ?_
        refine n_if_eq (tgt := 27) hx hb dX6_light_14 (by decide) (by omega) (fun c_14 => ?_) (fun c_14 => ?_)
        · refine lv_aload_n hx hb dX6_light_27 rfl (lv_at hl 0 rfl) ?_
          refine gf_X6_all hx hb hE hw (Nat.zero_lt_one) hown (hts (.fieldLink RX6 7 "ZonedLightModel" "all" "[I") (by decide +kernel)) dX6_light_28 ?_
          refine lv_sipush (v := nI 288) hx hb dX6_light_31 (by decide) ?_
          refine lv_iload hx hb dX6_light_34 (lv_at hl 4 rfl) ?_
          refine n_iadd hx hb dX6_light_36 ?_
          refine g_ald hx hb hE hw (n := 335) (Nat.zero_lt_one) rfl (by decide) (by omega) dX6_light_37 ?_
          refine lv_topi (fun x_37 ex_37 => ?_)
          refine lv_aload_n hx hb dX6_light_38 rfl (lv_at hl 0 rfl) ?_
          refine lv_iload_n hx hb dX6_light_39 rfl (lv_at hl 1 rfl) ?_
          refine lv_iload hx hb dX6_light_40 (lv_at hl 4 rfl) ?_
          refine g_Si (n := 2) (As := [.int (nI z), .int (nI k)]) (rest := [.ref (G.1 16 0), .int x_37, .int acc]) hx hb hml hown hts hE hw hS gX6_light_X6_apart (c_X6_apart l G A _ z k (by omega) (by omega)) rfl (by decide +kernel) ⟨Nat.le_of_ble_eq_true rfl, Nat.le_of_ble_eq_true rfl⟩ rfl hl.1 rfl (Nat.le_of_ble_eq_true rfl) ⟨Nat.le_of_ble_eq_true rfl, Nat.le_of_ble_eq_true rfl⟩ dX6_light_42 (fun r_42 τ_42 H locs hp_42 hw hS => ?_)
          obtain ⟨rfl, hτ_42⟩ := hp_42
          rw [hτ_42] at hw
          refine g_Vi (n := 1) (As := [.int (nI (apartN z k))]) (rest := [.int x_37, .int acc]) hx hb hml hown hts hE hw hS gX6_light_X6_shareAt (c_X6_shareAt l G A _ (apartN z k) (apartN_lt hz c_9)) rfl (by decide +kernel) ⟨Nat.le_of_ble_eq_true rfl, Nat.le_of_ble_eq_true rfl⟩ (Nat.zero_lt_one) rfl rfl rfl rfl hl.1 rfl (Nat.le_of_ble_eq_true rfl) ⟨Nat.le_of_ble_eq_true rfl, Nat.le_of_ble_eq_true rfl⟩ dX6_light_45 (fun x_45 τ_45 H locs hp_45 hw hS => ?_)
          obtain ⟨ex_45, hτ_45⟩ := hp_45
          rw [hτ_45] at hw
          refine lv_imul hx hb dX6_light_48 ?_
          refine lv_topi (fun x_48 ex_48 => ?_)
          refine lv_iadd hx hb dX6_light_49 ?_
          refine lv_topi (fun x_49 ex_49 => ?_)
          refine lv_istore_n (lv' := [(3, .int x_49), (0, .ref (G.1 16 0)), (1, .int (nI z)), (2, .int (nI 0)), (4, .int (nI k))]) hx hb dX6_light_50 rfl hl (by decide) rfl (fun ls hl => ?_)
          refine lv_iinc (v := nI (k + 1)) (lv' := [(4, .int (nI (k + 1))), (3, .int x_49), (0, .ref (G.1 16 0)), (1, .int (nI z)), (2, .int (nI 0))]) hx hb dX6_light_51 hl (k := 4) rfl (nI_add _ _) (by decide) rfl (fun ls hl => ?_)
          refine lv_goto (tgt := 5) hx hb dX6_light_54 (by decide) ?_
          exact K_5 (k + 1) x_49 (by first | omega | assumption | rfl) (by rw [← glowK_m, ex_49, ex_48, ex_45, ex_37, ha] <;> rfl) (by omega) _ _ _ hw hS (lv_sub hl [2, 3, 4, 1, 0] rfl)
        · exact absurd c_14 (by decide)
  exact K_5 (18 - 0 + 1) 0 (nI 0) (by first | omega | assumption | rfl) (by first | omega | assumption | rfl) (Nat.lt_succ_self _) _ _ _ hw hS (lv_sub hl [2, 3, 4, 1, 0] rfl)
set_option maxHeartbeats 4000000 in
set_option maxRecDepth 100000 in
/-- ZonedLightModel.light(IZ)I -/
theorem c_X6_lightW (l : Launch) (G : GG) (A : Nat → Prop) (σ : St) (z : Nat) (hz : z < 18) : MI l yX6_light wsX6_light 2 43 G A σ [.ref (G.1 16 0), .int (nI z), .int (nI 1)] (fun r τ => r = lightF (σ 17 0) (σ 20 0) z ∧ τ = σ) := by
  refine MI.on (by decide) rfl (Nat.le_of_ble_eq_true rfl) (fun pP eE sS mM args below meth cC ls hx hb hml hr hown hlk hts hE hw hS hl => ?_)
  have hl : lv_has ls 5 [(0, .ref (G.1 16 0)), (1, .int (nI z)), (2, .int (nI 1))] := hl
  refine lv_iconst (v := nI 0) hx hb dX6_light_0 (by decide) ?_
  refine lv_istore_n (lv' := [(3, .int (nI 0)), (0, .ref (G.1 16 0)), (1, .int (nI z)), (2, .int (nI 1))]) hx hb dX6_light_1 rfl hl (by decide) rfl (fun ls hl => ?_)
  refine lv_iconst (v := nI 0) hx hb dX6_light_2 (by decide) ?_
  refine lv_istore (lv' := [(4, .int (nI 0)), (3, .int (nI 0)), (0, .ref (G.1 16 0)), (1, .int (nI z)), (2, .int (nI 1))]) hx hb dX6_light_3 hl (by decide) rfl (fun ls hl => ?_)
  have K_5 : ∀ (fuel : Nat) (k : Nat) (acc : Int32), (k ≤ 18) → (acc = glowK (σ 17 0) (σ 20 0) z k) → 18 - k < fuel → ∀ (H : Heap) (locs : List Loc) (ls : Array Slot), Wcel G σ H → va_S A sS.heap H locs → lv_has ls 5 [(0, .ref (G.1 16 0)), (1, .int (nI z)), (2, .int (nI 1)), (3, .int acc), (4, .int (nI k))] → W pP l eE { frames := 2, cells := 0, slots := 0, locals := 43 } sS mM args below meth cC H locs 0 0 (MQ below (va_Qi (fun r τ => r = lightF (σ 17 0) (σ 20 0) z ∧ τ = σ) (fun τ t => gP G A τ t) A) args sS 0 0 A) (F0 mM 5 ls []) := by
    intro fuel
    induction fuel with
    | zero =>
      intro k acc hk ha hfu
      exact absurd hfu (Nat.not_lt_zero _)
    | succ fuel K_5 =>
      intro k acc hk ha hfu H locs ls hw hS hl
      refine lv_iload hx hb dX6_light_5 (lv_at hl 4 rfl) ?_
      refine lv_bipush (v := nI 18) hx hb dX6_light_7 (by decide) ?_
      refine n_cmp_ge (tgt := 57) hx hb dX6_light_9 (by decide) (by omega) (by omega) (fun c_9 => ?_) (fun c_9 => ?_)
      · refine lv_sipush (v := nI 255) hx hb dX6_light_57 (by decide) ?_
        refine lv_iload_n hx hb dX6_light_60 rfl (lv_at hl 3 rfl) ?_
        refine lv_sipush (v := nI 256) hx hb dX6_light_61 (by decide) ?_
        refine lv_idiv hx hb dX6_light_64 (by decide) ?_
        refine lv_topi (fun x_64 ex_64 => ?_)
        refine g_Si (n := 2) (As := [.int (nI 255), .int x_64]) (rest := []) hx hb hml hown hts hE hw hS gX6_light_X6_lesser (c_X6_lesser l G A _ (nI 255) x_64) rfl (by decide +kernel) ⟨Nat.le_of_ble_eq_true rfl, Nat.le_of_ble_eq_true rfl⟩ rfl hl.1 rfl (Nat.le_of_ble_eq_true rfl) ⟨Nat.le_of_ble_eq_true rfl, Nat.le_of_ble_eq_true rfl⟩ dX6_light_65 (fun x_65 τ_65 H locs hp_65 hw hS => ?_)
        obtain ⟨ex_65, hτ_65⟩ := hp_65
        rw [hτ_65] at hw
        refine g_iret hx hb hr hlk hE hw hS dX6_light_68 ?_
        exact ⟨by rw [ex_65, ex_64, ha, show k = 18 by omega]; rfl, rfl⟩
      · refine lv_iload_n hx hb dX6_light_12 rfl (lv_at hl 3 rfl) ?_
        refine lv_iload_n hx hb dX6_light_13 rfl (lv_at hl 2 rfl) ?_
        refine n_if_eq (tgt := 27) hx hb dX6_light_14 (by decide) (by omega) (fun c_14 => ?_) (fun c_14 => ?_)
        · exact absurd c_14 (by decide)
        · refine lv_aload_n hx hb dX6_light_17 rfl (lv_at hl 0 rfl) ?_
          refine gf_X6_wanted hx hb hE hw (Nat.zero_lt_one) hown (hts (.fieldLink RX6 19 "ZonedLightModel" "wanted" "[I") (by decide +kernel)) dX6_light_18 ?_
          refine lv_iload hx hb dX6_light_21 (lv_at hl 4 rfl) ?_
          refine g_ald hx hb hE hw (n := 18) (Nat.zero_lt_one) rfl (by decide) (by omega) dX6_light_23 ?_
          refine lv_topi (fun x_23 ex_23 => ?_)
          refine lv_goto (tgt := 38) hx hb dX6_light_24 (by decide) ?_
          refine lv_aload_n hx hb dX6_light_38 rfl (lv_at hl 0 rfl) ?_
          refine lv_iload_n hx hb dX6_light_39 rfl (lv_at hl 1 rfl) ?_
          refine lv_iload hx hb dX6_light_40 (lv_at hl 4 rfl) ?_
          refine g_Si (n := 2) (As := [.int (nI z), .int (nI k)]) (rest := [.ref (G.1 16 0), .int x_23, .int acc]) hx hb hml hown hts hE hw hS gX6_light_X6_apart (c_X6_apart l G A _ z k (by omega) (by omega)) rfl (by decide +kernel) ⟨Nat.le_of_ble_eq_true rfl, Nat.le_of_ble_eq_true rfl⟩ rfl hl.1 rfl (Nat.le_of_ble_eq_true rfl) ⟨Nat.le_of_ble_eq_true rfl, Nat.le_of_ble_eq_true rfl⟩ dX6_light_42 (fun r_42 τ_42 H locs hp_42 hw hS => ?_)
          obtain ⟨rfl, hτ_42⟩ := hp_42
          rw [hτ_42] at hw
          refine g_Vi (n := 1) (As := [.int (nI (apartN z k))]) (rest := [.int x_23, .int acc]) hx hb hml hown hts hE hw hS gX6_light_X6_shareAt (c_X6_shareAt l G A _ (apartN z k) (apartN_lt hz c_9)) rfl (by decide +kernel) ⟨Nat.le_of_ble_eq_true rfl, Nat.le_of_ble_eq_true rfl⟩ (Nat.zero_lt_one) rfl rfl rfl rfl hl.1 rfl (Nat.le_of_ble_eq_true rfl) ⟨Nat.le_of_ble_eq_true rfl, Nat.le_of_ble_eq_true rfl⟩ dX6_light_45 (fun x_45 τ_45 H locs hp_45 hw hS => ?_)
          obtain ⟨ex_45, hτ_45⟩ := hp_45
          rw [hτ_45] at hw
          refine lv_imul hx hb dX6_light_48 ?_
          refine lv_topi (fun x_48 ex_48 => ?_)
          refine lv_iadd hx hb dX6_light_49 ?_
          refine lv_topi (fun x_49 ex_49 => ?_)
          refine lv_istore_n (lv' := [(3, .int x_49), (0, .ref (G.1 16 0)), (1, .int (nI z)), (2, .int (nI 1)), (4, .int (nI k))]) hx hb dX6_light_50 rfl hl (by decide) rfl (fun ls hl => ?_)
          refine lv_iinc (v := nI (k + 1)) (lv' := [(4, .int (nI (k + 1))), (3, .int x_49), (0, .ref (G.1 16 0)), (1, .int (nI z)), (2, .int (nI 1))]) hx hb dX6_light_51 hl (k := 4) rfl (nI_add _ _) (by decide) rfl (fun ls hl => ?_)
          refine lv_goto (tgt := 5) hx hb dX6_light_54 (by decide) ?_
          exact K_5 (k + 1) x_49 (by first | omega | assumption | rfl) (by rw [← glowK_m, ex_49, ex_48, ex_45, ex_23, ha] <;> rfl) (by omega) _ _ _ hw hS (lv_sub hl [2, 3, 4, 1, 0] rfl)
  exact K_5 (18 - 0 + 1) 0 (nI 0) (by first | omega | assumption | rfl) (by first | omega | assumption | rfl) (Nat.lt_succ_self _) _ _ _ hw hS (lv_sub hl [2, 3, 4, 1, 0] rfl)
set_option maxHeartbeats 4000000 in
set_option maxRecDepth 100000 in
/-- ZonedLightModel.leakOf(I)I -/
theorem c_X6_leakOf (l : Launch) (G : GG) (A : Nat → Prop) (σ : St) (x : Int32)  : MI l yX6_leakOf wsX6_leakOf 0 0 G A σ [.ref (G.1 16 0), .int x] (fun r τ => r = leakF (σ 17 0) x ∧ τ = σ) := by
  refine MI.on (by decide) rfl (Nat.le_of_ble_eq_true rfl) (fun pP eE sS mM args below meth cC ls hx hb hml hr hown hlk hts hE hw hS hl => ?_)
  have hl : lv_has ls 2 [(0, .ref (G.1 16 0)), (1, .int x)] := hl
  refine lv_iload_n hx hb dX6_leakOf_0 rfl (lv_at hl 1 rfl) ?_
  refine lv_aload_n hx hb dX6_leakOf_1 rfl (lv_at hl 0 rfl) ?_
  refine gf_X6_all hx hb hE hw (Nat.zero_lt_one) hown (hts (.fieldLink RX6 7 "ZonedLightModel" "all" "[I") (by decide +kernel)) dX6_leakOf_2 ?_
  refine lv_sipush (v := nI 329) hx hb dX6_leakOf_5 (by decide) ?_
  refine g_ald hx hb hE hw (n := 335) (Nat.zero_lt_one) rfl (by decide) (by omega) dX6_leakOf_8 ?_
  refine lv_topi (fun x_8 ex_8 => ?_)
  refine lv_imul hx hb dX6_leakOf_9 ?_
  refine lv_topi (fun x_9 ex_9 => ?_)
  refine lv_sipush (v := nI 1000) hx hb dX6_leakOf_10 (by decide) ?_
  refine lv_idiv hx hb dX6_leakOf_13 (by decide) ?_
  refine lv_topi (fun x_13 ex_13 => ?_)
  refine g_iret hx hb hr hlk hE hw hS dX6_leakOf_14 ?_
  exact ⟨by rw [ex_13, ex_9, ex_8]; rfl, rfl⟩
set_option maxHeartbeats 4000000 in
set_option maxRecDepth 100000 in
/-- ZonedLightModel.glass(II)I -/
theorem c_X6_glass (l : Launch) (G : GG) (A : Nat → Prop) (σ : St) (x : Int32) (y : Int32) (hy : 0 ≤ y) : MI l yX6_glass wsX6_glass 1 21 G A σ [.int x, .int y] (fun r τ => r = glassF x y ∧ τ = σ) := by
  refine MI.on (by decide) rfl (Nat.le_of_ble_eq_true rfl) (fun pP eE sS mM args below meth cC ls hx hb hml hr hown hlk hts hE hw hS hl => ?_)
  have hl : lv_has ls 2 [(0, .int x), (1, .int y)] := hl
  refine lv_iload_n hx hb dX6_glass_0 rfl (lv_at hl 1 rfl) ?_
  refine lv_if_ne (tgt := 8) hx hb dX6_glass_1 (by decide) (fun c_1 => ?_) (fun c_1 => ?_)
  · refine lv_sipush (v := nI 255) hx hb dX6_glass_8 (by decide) ?_
    refine lv_iload_n hx hb dX6_glass_11 rfl (lv_at hl 0 rfl) ?_
    refine lv_sipush (v := nI 255) hx hb dX6_glass_12 (by decide) ?_
    refine lv_imul hx hb dX6_glass_15 ?_
    refine lv_topi (fun x_15 ex_15 => ?_)
    refine lv_iload_n hx hb dX6_glass_16 rfl (lv_at hl 1 rfl) ?_
    refine lv_iadd hx hb dX6_glass_17 ?_
    refine lv_topi (fun x_17 ex_17 => ?_)
    refine lv_iconst (v := nI 1) hx hb dX6_glass_18 (by decide) ?_
    refine lv_isub hx hb dX6_glass_19 ?_
    refine lv_topi (fun x_19 ex_19 => ?_)
    refine lv_iload_n hx hb dX6_glass_20 rfl (lv_at hl 1 rfl) ?_
    refine lv_idiv hx hb dX6_glass_21 c_1 ?_
    refine lv_topi (fun x_21 ex_21 => ?_)
    refine g_Si (n := 2) (As := [.int (nI 255), .int x_21]) (rest := []) hx hb hml hown hts hE hw hS gX6_glass_X6_lesser (c_X6_lesser l G A _ (nI 255) x_21) rfl (by decide +kernel) ⟨Nat.le_of_ble_eq_true rfl, Nat.le_of_ble_eq_true rfl⟩ rfl hl.1 rfl (Nat.le_of_ble_eq_true rfl) ⟨Nat.le_of_ble_eq_true rfl, Nat.le_of_ble_eq_true rfl⟩ dX6_glass_22 (fun x_22 τ_22 H locs hp_22 hw hS => ?_)
    obtain ⟨ex_22, hτ_22⟩ := hp_22
    rw [hτ_22] at hw
    refine g_iret hx hb hr hlk hE hw hS dX6_glass_25 ?_
    first | exact ⟨by rw [c_1, glassF_0]; rfl, rfl⟩ | exact ⟨by rw [glassF_p hy c_1, ex_22, ex_21, ex_19, ex_17, ex_15]; rfl, rfl⟩
  · refine lv_iconst (v := nI 0) hx hb dX6_glass_4 (by decide) ?_
    refine lv_goto (tgt := 25) hx hb dX6_glass_5 (by decide) ?_
    refine g_iret hx hb hr hlk hE hw hS dX6_glass_25 ?_
    first | exact ⟨by rw [c_1, glassF_0]; rfl, rfl⟩ | exact ⟨by rw [glassF_p hy c_1, ex_22, ex_21, ex_19, ex_17, ex_15]; rfl, rfl⟩
set_option maxHeartbeats 4000000 in
set_option maxRecDepth 100000 in
/-- ZonedLightModel.shown(II)I -/
theorem c_X6_shown (l : Launch) (G : GG) (A : Nat → Prop) (σ : St) (x : Int32) (y : Int32) (hy : 0 ≤ y) : MI l yX6_shown wsX6_shown 2 42 G A σ [.ref (G.1 16 0), .int x, .int y] (fun r τ => r = shownF (σ 17 0) x y ∧ τ = σ) := by
  refine MI.on (by decide) rfl (Nat.le_of_ble_eq_true rfl) (fun pP eE sS mM args below meth cC ls hx hb hml hr hown hlk hts hE hw hS hl => ?_)
  have hl : lv_has ls 4 [(0, .ref (G.1 16 0)), (1, .int x), (2, .int y)] := hl
  refine lv_iload_n hx hb dX6_shown_0 rfl (lv_at hl 2 rfl) ?_
  refine lv_iload_n hx hb dX6_shown_1 rfl (lv_at hl 1 rfl) ?_
  refine lv_iload_n hx hb dX6_shown_2 rfl (lv_at hl 2 rfl) ?_
  refine g_Si (n := 2) (As := [.int x, .int y]) (rest := [.int y]) hx hb hml hown hts hE hw hS gX6_shown_X6_glass (c_X6_glass l G A _ x y hy) rfl (by decide +kernel) ⟨Nat.le_of_ble_eq_true rfl, Nat.le_of_ble_eq_true rfl⟩ rfl hl.1 rfl (Nat.le_of_ble_eq_true rfl) ⟨Nat.le_of_ble_eq_true rfl, Nat.le_of_ble_eq_true rfl⟩ dX6_shown_3 (fun x_3 τ_3 H locs hp_3 hw hS => ?_)
  obtain ⟨ex_3, hτ_3⟩ := hp_3
  rw [hτ_3] at hw
  refine lv_imul hx hb dX6_shown_6 ?_
  refine lv_topi (fun x_6 ex_6 => ?_)
  refine lv_sipush (v := nI 255) hx hb dX6_shown_7 (by decide) ?_
  refine lv_idiv hx hb dX6_shown_10 (by decide) ?_
  refine lv_topi (fun x_10 ex_10 => ?_)
  have e10 : x_10 = y * glassF x y / 255 := by rw [ex_10, ex_6, ex_3]; rfl
  refine lv_istore_n (lv' := [(3, .int x_10), (0, .ref (G.1 16 0)), (1, .int x), (2, .int y)]) hx hb dX6_shown_11 rfl hl (by decide) rfl (fun ls hl => ?_)
  refine lv_iload_n hx hb dX6_shown_12 rfl (lv_at hl 0 rfl) ?_
  refine lv_aload_n hx hb dX6_shown_13 rfl (lv_at hl 1 rfl) ?_
  refine lv_iload_n hx hb dX6_shown_14 rfl (lv_at hl 3 rfl) ?_
  refine g_Vi (n := 1) (As := [.int y]) (rest := [.int x_10]) hx hb hml hown hts hE hw hS gX6_shown_X6_leakOf (c_X6_leakOf l G A _ y) rfl (by decide +kernel) ⟨Nat.le_of_ble_eq_true rfl, Nat.le_of_ble_eq_true rfl⟩ (Nat.zero_lt_one) rfl rfl rfl rfl hl.1 rfl (Nat.le_of_ble_eq_true rfl) ⟨Nat.le_of_ble_eq_true rfl, Nat.le_of_ble_eq_true rfl⟩ dX6_shown_15 (fun x_15 τ_15 H locs hp_15 hw hS => ?_)
  obtain ⟨ex_15, hτ_15⟩ := hp_15
  rw [hτ_15] at hw
  refine lv_icmp_le (tgt := 25) hx hb dX6_shown_18 (by decide) (fun c_18 => ?_) (fun c_18 => ?_)
  · refine lv_aload_n hx hb dX6_shown_25 rfl (lv_at hl 1 rfl) ?_
    refine lv_iload_n hx hb dX6_shown_26 rfl (lv_at hl 3 rfl) ?_
    refine g_Vi (n := 1) (As := [.int y]) (rest := []) hx hb hml hown hts hE hw hS gX6_shown_X6_leakOf (c_X6_leakOf l G A _ y) rfl (by decide +kernel) ⟨Nat.le_of_ble_eq_true rfl, Nat.le_of_ble_eq_true rfl⟩ (Nat.zero_lt_one) rfl rfl rfl rfl hl.1 rfl (Nat.le_of_ble_eq_true rfl) ⟨Nat.le_of_ble_eq_true rfl, Nat.le_of_ble_eq_true rfl⟩ dX6_shown_27 (fun x_27 τ_27 H locs hp_27 hw hS => ?_)
    obtain ⟨ex_27, hτ_27⟩ := hp_27
    rw [hτ_27] at hw
    refine g_iret hx hb hr hlk hE hw hS dX6_shown_30 ?_
    first | exact ⟨by rw [shownF, ← e10, ex_27, ← ex_15]; exact imax_le c_18, rfl⟩ | exact ⟨by rw [shownF, ← e10, ← ex_15]; exact imax_gt c_18, rfl⟩
  · refine lv_iload_n hx hb dX6_shown_21 rfl (lv_at hl 0 rfl) ?_
    refine lv_goto (tgt := 30) hx hb dX6_shown_22 (by decide) ?_
    refine g_iret hx hb hr hlk hE hw hS dX6_shown_30 ?_
    first | exact ⟨by rw [shownF, ← e10, ex_27, ← ex_15]; exact imax_le c_18, rfl⟩ | exact ⟨by rw [shownF, ← e10, ← ex_15]; exact imax_gt c_18, rfl⟩
set_option maxHeartbeats 4000000 in
set_option maxRecDepth 100000 in
/-- ZonedLightModel.greatestIn(I)I -/
theorem c_X6_greatestIn (l : Launch) (G : GG) (A : Nat → Prop) (σ : St) (z : Nat) (hz : z < 18) : MI l yX6_greatestIn wsX6_greatestIn 1 21 G A σ [.ref (G.1 16 0), .int (nI z)] (fun r τ => r = peakF (σ 17 0) z ∧ τ = σ) := by
  refine MI.on (by decide) rfl (Nat.le_of_ble_eq_true rfl) (fun pP eE sS mM args below meth cC ls hx hb hml hr hown hlk hts hE hw hS hl => ?_)
  have hl : lv_has ls 5 [(0, .ref (G.1 16 0)), (1, .int (nI z))] := hl
  refine lv_iconst (v := nI 0) hx hb dX6_greatestIn_0 (by decide) ?_
  refine lv_istore_n (lv' := [(2, .int (nI 0)), (0, .ref (G.1 16 0)), (1, .int (nI z))]) hx hb dX6_greatestIn_1 rfl hl (by decide) rfl (fun ls hl => ?_)
  refine lv_iconst (v := nI 0) hx hb dX6_greatestIn_2 (by decide) ?_
  refine lv_istore_n (lv' := [(3, .int (nI 0)), (2, .int (nI 0)), (0, .ref (G.1 16 0)), (1, .int (nI z))]) hx hb dX6_greatestIn_3 rfl hl (by decide) rfl (fun ls hl => ?_)
  have K_4 : ∀ (fuel : Nat) (k : Nat) (acc : Int32), (k ≤ 16) → (acc = peakK (σ 17 0) z k) → 16 - k < fuel → ∀ (H : Heap) (locs : List Loc) (ls : Array Slot), Wcel G σ H → va_S A sS.heap H locs → lv_has ls 5 [(0, .ref (G.1 16 0)), (1, .int (nI z)), (2, .int acc), (3, .int (nI k))] → W pP l eE { frames := 1, cells := 0, slots := 0, locals := 21 } sS mM args below meth cC H locs 0 0 (MQ below (va_Qi (fun r τ => r = peakF (σ 17 0) z ∧ τ = σ) (fun τ t => gP G A τ t) A) args sS 0 0 A) (F0 mM 4 ls []) := by
    intro fuel
    induction fuel with
    | zero =>
      intro k acc hk ha hfu
      exact absurd hfu (Nat.not_lt_zero _)
    | succ fuel K_4 =>
      intro k acc hk ha hfu H locs ls hw hS hl
      refine lv_iload_n hx hb dX6_greatestIn_4 rfl (lv_at hl 3 rfl) ?_
      refine lv_bipush (v := nI 16) hx hb dX6_greatestIn_5 (by decide) ?_
      refine n_cmp_ge (tgt := 41) hx hb dX6_greatestIn_7 (by decide) (by omega) (by omega) (fun c_7 => ?_) (fun c_7 => ?_)
      · refine lv_iload_n hx hb dX6_greatestIn_41 rfl (lv_at hl 2 rfl) ?_
        refine g_iret hx hb hr hlk hE hw hS dX6_greatestIn_42 ?_
        exact ⟨by rw [ha, show k = 16 by omega]; rfl, rfl⟩
      · refine lv_aload_n hx hb dX6_greatestIn_10 rfl (lv_at hl 0 rfl) ?_
        refine gf_X6_all hx hb hE hw (Nat.zero_lt_one) hown (hts (.fieldLink RX6 7 "ZonedLightModel" "all" "[I") (by decide +kernel)) dX6_greatestIn_11 ?_
        refine lv_iload_n hx hb dX6_greatestIn_14 rfl (lv_at hl 1 rfl) ?_
        refine lv_iload_n hx hb dX6_greatestIn_15 rfl (lv_at hl 3 rfl) ?_
        refine g_Si (n := 2) (As := [.int (nI z), .int (nI k)]) (rest := [.ref (G.1 17 0)]) hx hb hml hown hts hE hw hS gX6_greatestIn_X6_spotIn (c_X6_spotIn l G A _ z k (by omega) (by omega)) rfl (by decide +kernel) ⟨Nat.le_of_ble_eq_true rfl, Nat.le_of_ble_eq_true rfl⟩ rfl hl.1 rfl (Nat.le_of_ble_eq_true rfl) ⟨Nat.le_of_ble_eq_true rfl, Nat.le_of_ble_eq_true rfl⟩ dX6_greatestIn_16 (fun r_16 τ_16 H locs hp_16 hw hS => ?_)
        obtain ⟨rfl, hτ_16⟩ := hp_16
        rw [hτ_16] at hw
        refine g_ald hx hb hE hw (n := 335) (Nat.zero_lt_one) rfl (by decide) (Nat.lt_trans (spotN_lt hz c_7) (by decide)) dX6_greatestIn_19 ?_
        refine lv_topi (fun x_19 ex_19 => ?_)
        refine lv_istore (lv' := [(4, .int x_19), (0, .ref (G.1 16 0)), (1, .int (nI z)), (2, .int acc), (3, .int (nI k))]) hx hb dX6_greatestIn_20 hl (by decide) rfl (fun ls hl => ?_)
        refine lv_iload hx hb dX6_greatestIn_22 (lv_at hl 0 rfl) ?_
        refine lv_iload_n hx hb dX6_greatestIn_24 rfl (lv_at hl 3 rfl) ?_
        refine lv_icmp_le (tgt := 33) hx hb dX6_greatestIn_25 (by decide) (fun c_25 => ?_) (fun c_25 => ?_)
        · refine lv_iload_n hx hb dX6_greatestIn_33 rfl (lv_at hl 3 rfl) ?_
          refine lv_istore_n (lv' := [(2, .int acc), (4, .int x_19), (0, .ref (G.1 16 0)), (1, .int (nI z)), (3, .int (nI k))]) hx hb dX6_greatestIn_34 rfl hl (by decide) rfl (fun ls hl => ?_)
          refine lv_iinc (v := nI (k + 1)) (lv' := [(3, .int (nI (k + 1))), (2, .int acc), (4, .int x_19), (0, .ref (G.1 16 0)), (1, .int (nI z))]) hx hb dX6_greatestIn_35 hl (k := 4) rfl (nI_add _ _) (by decide) rfl (fun ls hl => ?_)
          refine lv_goto (tgt := 4) hx hb dX6_greatestIn_38 (by decide) ?_
          exact K_4 (k + 1) acc (by first | omega | assumption | rfl) (by rw [peakK, ← ha, ← ex_19]; first | exact imax_le2 c_25 | exact imax_gt2 c_25) (by omega) _ _ _ hw hS (lv_sub hl [3, 4, 1, 0] rfl)
        · refine lv_iload hx hb dX6_greatestIn_28 (lv_at hl 0 rfl) ?_
          refine lv_goto (tgt := 34) hx hb dX6_greatestIn_30 (by decide) ?_
          refine lv_istore_n (lv' := [(2, .int x_19), (4, .int x_19), (0, .ref (G.1 16 0)), (1, .int (nI z)), (3, .int (nI k))]) hx hb dX6_greatestIn_34 rfl hl (by decide) rfl (fun ls hl => ?_)
          refine lv_iinc (v := nI (k + 1)) (lv' := [(3, .int (nI (k + 1))), (2, .int x_19), (4, .int x_19), (0, .ref (G.1 16 0)), (1, .int (nI z))]) hx hb dX6_greatestIn_35 hl (k := 4) rfl (nI_add _ _) (by decide) rfl (fun ls hl => ?_)
          refine lv_goto (tgt := 4) hx hb dX6_greatestIn_38 (by decide) ?_
          exact K_4 (k + 1) x_19 (by first | omega | assumption | rfl) (by rw [peakK, ← ha, ← ex_19]; first | exact imax_le2 c_25 | exact imax_gt2 c_25) (by omega) _ _ _ hw hS (lv_sub hl [3, 4, 1, 0] rfl)
  exact K_4 (16 - 0 + 1) 0 (nI 0) (by first | omega | assumption | rfl) (by first | omega | assumption | rfl) (Nat.lt_succ_self _) _ _ _ hw hS (lv_sub hl [2, 3, 1, 0] rfl)
set_option maxHeartbeats 4000000 in
set_option maxRecDepth 100000 in
/-- ZonedLightModel.meanIn(I)I -/
theorem c_X6_meanIn (l : Launch) (G : GG) (A : Nat → Prop) (σ : St) (z : Nat) (hz : z < 18) : MI l yX6_meanIn wsX6_meanIn 1 21 G A σ [.ref (G.1 16 0), .int (nI z)] (fun r τ => r = meanF (σ 17 0) z ∧ τ = σ) := by
  refine MI.on (by decide) rfl (Nat.le_of_ble_eq_true rfl) (fun pP eE sS mM args below meth cC ls hx hb hml hr hown hlk hts hE hw hS hl => ?_)
  have hl : lv_has ls 4 [(0, .ref (G.1 16 0)), (1, .int (nI z))] := hl
  refine lv_iconst (v := nI 0) hx hb dX6_meanIn_0 (by decide) ?_
  refine lv_istore_n (lv' := [(2, .int (nI 0)), (0, .ref (G.1 16 0)), (1, .int (nI z))]) hx hb dX6_meanIn_1 rfl hl (by decide) rfl (fun ls hl => ?_)
  refine lv_iconst (v := nI 0) hx hb dX6_meanIn_2 (by decide) ?_
  refine lv_istore_n (lv' := [(3, .int (nI 0)), (2, .int (nI 0)), (0, .ref (G.1 16 0)), (1, .int (nI z))]) hx hb dX6_meanIn_3 rfl hl (by decide) rfl (fun ls hl => ?_)
  have K_4 : ∀ (fuel : Nat) (k : Nat) (acc : Int32), (k ≤ 16) → (acc = sumK (σ 17 0) z k) → 16 - k < fuel → ∀ (H : Heap) (locs : List Loc) (ls : Array Slot), Wcel G σ H → va_S A sS.heap H locs → lv_has ls 4 [(0, .ref (G.1 16 0)), (1, .int (nI z)), (2, .int acc), (3, .int (nI k))] → W pP l eE { frames := 1, cells := 0, slots := 0, locals := 21 } sS mM args below meth cC H locs 0 0 (MQ below (va_Qi (fun r τ => r = meanF (σ 17 0) z ∧ τ = σ) (fun τ t => gP G A τ t) A) args sS 0 0 A) (F0 mM 4 ls []) := by
    intro fuel
    induction fuel with
    | zero =>
      intro k acc hk ha hfu
      exact absurd hfu (Nat.not_lt_zero _)
    | succ fuel K_4 =>
      intro k acc hk ha hfu H locs ls hw hS hl
      refine lv_iload_n hx hb dX6_meanIn_4 rfl (lv_at hl 3 rfl) ?_
      refine lv_bipush (v := nI 16) hx hb dX6_meanIn_5 (by decide) ?_
      refine n_cmp_ge (tgt := 29) hx hb dX6_meanIn_7 (by decide) (by omega) (by omega) (fun c_7 => ?_) (fun c_7 => ?_)
      · refine lv_iload_n hx hb dX6_meanIn_29 rfl (lv_at hl 2 rfl) ?_
        refine lv_bipush (v := nI 16) hx hb dX6_meanIn_30 (by decide) ?_
        refine lv_idiv hx hb dX6_meanIn_32 (by decide) ?_
        refine lv_topi (fun x_32 ex_32 => ?_)
        refine g_iret hx hb hr hlk hE hw hS dX6_meanIn_33 ?_
        exact ⟨by rw [ex_32, ha, show k = 16 by omega]; rfl, rfl⟩
      · refine lv_iload_n hx hb dX6_meanIn_10 rfl (lv_at hl 2 rfl) ?_
        refine lv_aload_n hx hb dX6_meanIn_11 rfl (lv_at hl 0 rfl) ?_
        refine gf_X6_all hx hb hE hw (Nat.zero_lt_one) hown (hts (.fieldLink RX6 7 "ZonedLightModel" "all" "[I") (by decide +kernel)) dX6_meanIn_12 ?_
        refine lv_iload_n hx hb dX6_meanIn_15 rfl (lv_at hl 1 rfl) ?_
        refine lv_iload_n hx hb dX6_meanIn_16 rfl (lv_at hl 3 rfl) ?_
        refine g_Si (n := 2) (As := [.int (nI z), .int (nI k)]) (rest := [.ref (G.1 17 0), .int acc]) hx hb hml hown hts hE hw hS gX6_meanIn_X6_spotIn (c_X6_spotIn l G A _ z k (by omega) (by omega)) rfl (by decide +kernel) ⟨Nat.le_of_ble_eq_true rfl, Nat.le_of_ble_eq_true rfl⟩ rfl hl.1 rfl (Nat.le_of_ble_eq_true rfl) ⟨Nat.le_of_ble_eq_true rfl, Nat.le_of_ble_eq_true rfl⟩ dX6_meanIn_17 (fun r_17 τ_17 H locs hp_17 hw hS => ?_)
        obtain ⟨rfl, hτ_17⟩ := hp_17
        rw [hτ_17] at hw
        refine g_ald hx hb hE hw (n := 335) (Nat.zero_lt_one) rfl (by decide) (Nat.lt_trans (spotN_lt hz c_7) (by decide)) dX6_meanIn_20 ?_
        refine lv_topi (fun x_20 ex_20 => ?_)
        refine lv_iadd hx hb dX6_meanIn_21 ?_
        refine lv_topi (fun x_21 ex_21 => ?_)
        refine lv_istore_n (lv' := [(2, .int x_21), (0, .ref (G.1 16 0)), (1, .int (nI z)), (3, .int (nI k))]) hx hb dX6_meanIn_22 rfl hl (by decide) rfl (fun ls hl => ?_)
        refine lv_iinc (v := nI (k + 1)) (lv' := [(3, .int (nI (k + 1))), (2, .int x_21), (0, .ref (G.1 16 0)), (1, .int (nI z))]) hx hb dX6_meanIn_23 hl (k := 3) rfl (nI_add _ _) (by decide) rfl (fun ls hl => ?_)
        refine lv_goto (tgt := 4) hx hb dX6_meanIn_26 (by decide) ?_
        exact K_4 (k + 1) x_21 (by first | omega | assumption | rfl) (by rw [sumK, ex_21, ex_20, ha]) (by omega) _ _ _ hw hS (lv_sub hl [2, 3, 1, 0] rfl)
  exact K_4 (16 - 0 + 1) 0 (nI 0) (by first | omega | assumption | rfl) (by first | omega | assumption | rfl) (Nat.lt_succ_self _) _ _ _ hw hS (lv_sub hl [2, 3, 1, 0] rfl)
set_option maxHeartbeats 4000000 in
set_option maxRecDepth 100000 in
/-- ZonedLightModel.hasBlack(I)Z -/
theorem c_X6_hasBlack (l : Launch) (G : GG) (A : Nat → Prop) (σ : St) (z : Nat) (hz : z < 18) : MI l yX6_hasBlack wsX6_hasBlack 1 21 G A σ [.ref (G.1 16 0), .int (nI z)] (fun r τ => bP r (blackF (σ 17 0) z = true) ∧ τ = σ) := by
  refine MI.on (by decide) rfl (Nat.le_of_ble_eq_true rfl) (fun pP eE sS mM args below meth cC ls hx hb hml hr hown hlk hts hE hw hS hl => ?_)
  have hl : lv_has ls 4 [(0, .ref (G.1 16 0)), (1, .int (nI z))] := hl
  refine lv_iconst (v := nI 0) hx hb dX6_hasBlack_0 (by decide) ?_
  refine lv_istore_n (lv' := [(2, .int (nI 0)), (0, .ref (G.1 16 0)), (1, .int (nI z))]) hx hb dX6_hasBlack_1 rfl hl (by decide) rfl (fun ls hl => ?_)
  refine lv_iconst (v := nI 0) hx hb dX6_hasBlack_2 (by decide) ?_
  refine lv_istore_n (lv' := [(3, .int (nI 0)), (2, .int (nI 0)), (0, .ref (G.1 16 0)), (1, .int (nI z))]) hx hb dX6_hasBlack_3 rfl hl (by decide) rfl (fun ls hl => ?_)
  have K_4 : ∀ (fuel : Nat) (k : Nat) (b : Int32), (k ≤ 16) → (bP b (blackK (σ 17 0) z k = true)) → 16 - k < fuel → ∀ (H : Heap) (locs : List Loc) (ls : Array Slot), Wcel G σ H → va_S A sS.heap H locs → lv_has ls 4 [(0, .ref (G.1 16 0)), (1, .int (nI z)), (2, .int b), (3, .int (nI k))] → W pP l eE { frames := 1, cells := 0, slots := 0, locals := 21 } sS mM args below meth cC H locs 0 0 (MQ below (va_Qi (fun r τ => bP r (blackF (σ 17 0) z = true) ∧ τ = σ) (fun τ t => gP G A τ t) A) args sS 0 0 A) (F0 mM 4 ls []) := by
    intro fuel
    induction fuel with
    | zero =>
      intro k b hk ha hfu
      exact absurd hfu (Nat.not_lt_zero _)
    | succ fuel K_4 =>
      intro k b hk ha hfu H locs ls hw hS hl
      refine lv_iload_n hx hb dX6_hasBlack_4 rfl (lv_at hl 3 rfl) ?_
      refine lv_bipush (v := nI 16) hx hb dX6_hasBlack_5 (by decide) ?_
      refine n_cmp_ge (tgt := 39) hx hb dX6_hasBlack_7 (by decide) (by omega) (by omega) (fun c_7 => ?_) (fun c_7 => ?_)
      · refine lv_iload_n hx hb dX6_hasBlack_39 rfl (lv_at hl 2 rfl) ?_
        refine g_zret hx hb hr hlk hE hw hS (bP_n ha) dX6_hasBlack_40 ?_
        exact ⟨by rw [show k = 16 by omega] at ha; exact ha, rfl⟩
      · refine lv_iload_n hx hb dX6_hasBlack_10 rfl (lv_at hl 2 rfl) ?_
        refine lv_if_ne (tgt := 27) hx hb dX6_hasBlack_11 (by decide) (fun c_11 => ?_) (fun c_11 => ?_)
        · refine lv_iconst (v := nI 1) hx hb dX6_hasBlack_27 (by decide) ?_
          refine lv_goto (tgt := 32) hx hb dX6_hasBlack_28 (by decide) ?_
          refine lv_istore_n (lv' := [(2, .int (nI 1)), (0, .ref (G.1 16 0)), (1, .int (nI z)), (3, .int (nI k))]) hx hb dX6_hasBlack_32 rfl hl (by decide) rfl (fun ls hl => ?_)
          refine lv_iinc (v := nI (k + 1)) (lv' := [(3, .int (nI (k + 1))), (2, .int (nI 1)), (0, .ref (G.1 16 0)), (1, .int (nI z))]) hx hb dX6_hasBlack_33 hl (k := 3) rfl (nI_add _ _) (by decide) rfl (fun ls hl => ?_)
          refine lv_goto (tgt := 4) hx hb dX6_hasBlack_36 (by decide) ?_
          exact K_4 (k + 1) (nI 1) (by first | omega | assumption | rfl) (by rw [blackK]; first | exact Or.inl ⟨rfl, by rw [bP_t ha c_11]; rfl⟩ | exact Or.inl ⟨rfl, by rw [decide_eq_true (by rw [← ex_23]; exact c_24), Bool.or_true]⟩ | exact Or.inr ⟨rfl, by rw [Bool.eq_false_iff.mpr (bP_f ha c_11), decide_eq_false (by rw [← ex_23]; exact c_24)]; decide⟩) (by omega) _ _ _ hw hS (lv_sub hl [2, 3, 1, 0] rfl)
        · refine lv_aload_n hx hb dX6_hasBlack_14 rfl (lv_at hl 0 rfl) ?_
          refine gf_X6_all hx hb hE hw (Nat.zero_lt_one) hown (hts (.fieldLink RX6 7 "ZonedLightModel" "all" "[I") (by decide +kernel)) dX6_hasBlack_15 ?_
          refine lv_iload_n hx hb dX6_hasBlack_18 rfl (lv_at hl 1 rfl) ?_
          refine lv_iload_n hx hb dX6_hasBlack_19 rfl (lv_at hl 3 rfl) ?_
          refine g_Si (n := 2) (As := [.int (nI z), .int (nI k)]) (rest := [.ref (G.1 17 0)]) hx hb hml hown hts hE hw hS gX6_hasBlack_X6_spotIn (c_X6_spotIn l G A _ z k (by omega) (by omega)) rfl (by decide +kernel) ⟨Nat.le_of_ble_eq_true rfl, Nat.le_of_ble_eq_true rfl⟩ rfl hl.1 rfl (Nat.le_of_ble_eq_true rfl) ⟨Nat.le_of_ble_eq_true rfl, Nat.le_of_ble_eq_true rfl⟩ dX6_hasBlack_20 (fun r_20 τ_20 H locs hp_20 hw hS => ?_)
          obtain ⟨rfl, hτ_20⟩ := hp_20
          rw [hτ_20] at hw
          refine g_ald hx hb hE hw (n := 335) (Nat.zero_lt_one) rfl (by decide) (Nat.lt_trans (spotN_lt hz c_7) (by decide)) dX6_hasBlack_23 ?_
          refine lv_topi (fun x_23 ex_23 => ?_)
          refine lv_if_ne (tgt := 31) hx hb dX6_hasBlack_24 (by decide) (fun c_24 => ?_) (fun c_24 => ?_)
          · refine lv_iconst (v := nI 0) hx hb dX6_hasBlack_31 (by decide) ?_
            refine lv_istore_n (lv' := [(2, .int (nI 0)), (0, .ref (G.1 16 0)), (1, .int (nI z)), (3, .int (nI k))]) hx hb dX6_hasBlack_32 rfl hl (by decide) rfl (fun ls hl => ?_)
            refine lv_iinc (v := nI (k + 1)) (lv' := [(3, .int (nI (k + 1))), (2, .int (nI 0)), (0, .ref (G.1 16 0)), (1, .int (nI z))]) hx hb dX6_hasBlack_33 hl (k := 3) rfl (nI_add _ _) (by decide) rfl (fun ls hl => ?_)
            refine lv_goto (tgt := 4) hx hb dX6_hasBlack_36 (by decide) ?_
            exact K_4 (k + 1) (nI 0) (by first | omega | assumption | rfl) (by rw [blackK]; first | exact Or.inl ⟨rfl, by rw [bP_t ha c_11]; rfl⟩ | exact Or.inl ⟨rfl, by rw [decide_eq_true (by rw [← ex_23]; exact c_24), Bool.or_true]⟩ | exact Or.inr ⟨rfl, by rw [Bool.eq_false_iff.mpr (bP_f ha c_11), decide_eq_false (by rw [← ex_23]; exact c_24)]; decide⟩) (by omega) _ _ _ hw hS (lv_sub hl [2, 3, 1, 0] rfl)
          · refine lv_iconst (v := nI 1) hx hb dX6_hasBlack_27 (by decide) ?_
            refine lv_goto (tgt := 32) hx hb dX6_hasBlack_28 (by decide) ?_
            refine lv_istore_n (lv' := [(2, .int (nI 1)), (0, .ref (G.1 16 0)), (1, .int (nI z)), (3, .int (nI k))]) hx hb dX6_hasBlack_32 rfl hl (by decide) rfl (fun ls hl => ?_)
            refine lv_iinc (v := nI (k + 1)) (lv' := [(3, .int (nI (k + 1))), (2, .int (nI 1)), (0, .ref (G.1 16 0)), (1, .int (nI z))]) hx hb dX6_hasBlack_33 hl (k := 3) rfl (nI_add _ _) (by decide) rfl (fun ls hl => ?_)
            refine lv_goto (tgt := 4) hx hb dX6_hasBlack_36 (by decide) ?_
            exact K_4 (k + 1) (nI 1) (by first | omega | assumption | rfl) (by rw [blackK]; first | exact Or.inl ⟨rfl, by rw [bP_t ha c_11]; rfl⟩ | exact Or.inl ⟨rfl, by rw [decide_eq_true (by rw [← ex_23]; exact c_24), Bool.or_true]⟩ | exact Or.inr ⟨rfl, by rw [Bool.eq_false_iff.mpr (bP_f ha c_11), decide_eq_false (by rw [← ex_23]; exact c_24)]; decide⟩) (by omega) _ _ _ hw hS (lv_sub hl [2, 3, 1, 0] rfl)
  exact K_4 (16 - 0 + 1) 0 (nI 0) (by first | omega | assumption | rfl) (Or.inr ⟨rfl, fun g => absurd (show false = true from g) (by decide)⟩) (Nat.lt_succ_self _) _ _ _ hw hS (lv_sub hl [2, 3, 1, 0] rfl)
set_option maxHeartbeats 4000000 in
set_option maxRecDepth 100000 in
/-- ZonedLightModel.beginning(II)I -/
theorem c_X6_beginning (l : Launch) (G : GG) (A : Nat → Prop) (σ : St) (z : Nat) (q : Int32) (hz : z < 18) (hok : okW (σ 17 0)) : MI l yX6_beginning wsX6_beginning 2 45 G A σ [.ref (G.1 16 0), .int (nI z), .int q] (fun r τ => r = ruleV (σ 17 0) q (peakF (σ 17 0) z) z ∧ τ = σ) := by
  refine MI.on (by decide) rfl (Nat.le_of_ble_eq_true rfl) (fun pP eE sS mM args below meth cC ls hx hb hml hr hown hlk hts hE hw hS hl => ?_)
  have hl : lv_has ls 5 [(0, .ref (G.1 16 0)), (1, .int (nI z)), (2, .int q)] := hl
  obtain ⟨ow, ho1, ho2, eow⟩ := hok.2.2.1
  have how : 0 < σ 17 0 324 := by rw [eow]; exact nI_lt (a := 0) (by omega) (by omega)
  refine lv_aload_n hx hb dX6_beginning_0 rfl (lv_at hl 0 rfl) ?_
  refine lv_iload_n hx hb dX6_beginning_1 rfl (lv_at hl 1 rfl) ?_
  refine g_Vi (n := 1) (As := [.int (nI z)]) (rest := []) hx hb hml hown hts hE hw hS gX6_beginning_X6_greatestIn (c_X6_greatestIn l G A _ z (by omega)) rfl (by decide +kernel) ⟨Nat.le_of_ble_eq_true rfl, Nat.le_of_ble_eq_true rfl⟩ (Nat.zero_lt_one) rfl rfl rfl rfl hl.1 rfl (Nat.le_of_ble_eq_true rfl) ⟨Nat.le_of_ble_eq_true rfl, Nat.le_of_ble_eq_true rfl⟩ dX6_beginning_2 (fun x_2 τ_2 H locs hp_2 hw hS => ?_)
  obtain ⟨ex_2, hτ_2⟩ := hp_2
  rw [hτ_2] at hw
  refine lv_istore_n (lv' := [(3, .int x_2), (0, .ref (G.1 16 0)), (1, .int (nI z)), (2, .int q)]) hx hb dX6_beginning_5 rfl hl (by decide) rfl (fun ls hl => ?_)
  have K_36 : ∀ (v : Int32), (v = aimV (σ 17 0) q (peakF (σ 17 0) z) z) → ∀ (H : Heap) (locs : List Loc) (ls : Array Slot), Wcel G σ H → va_S A sS.heap H locs → lv_has ls 5 [(0, .ref (G.1 16 0))] → W pP l eE { frames := 2, cells := 0, slots := 0, locals := 45 } sS mM args below meth cC H locs 0 0 (MQ below (va_Qi (fun r τ => r = ruleV (σ 17 0) q (peakF (σ 17 0) z) z ∧ τ = σ) (fun τ t => gP G A τ t) A) args sS 0 0 A) (F0 mM 36 ls [.int v]) := by
    intro v hv H locs ls hw hS hl
    refine lv_istore (lv' := [(4, .int v), (0, .ref (G.1 16 0))]) hx hb dX6_beginning_36 hl (by decide) rfl (fun ls hl => ?_)
    refine lv_sipush (v := nI 255) hx hb dX6_beginning_38 (by decide) ?_
    refine lv_iload hx hb dX6_beginning_41 (lv_at hl 0 rfl) ?_
    refine lv_sipush (v := nI 256) hx hb dX6_beginning_43 (by decide) ?_
    refine lv_imul hx hb dX6_beginning_46 ?_
    refine lv_topi (fun x_46 ex_46 => ?_)
    refine lv_aload_n hx hb dX6_beginning_47 rfl (lv_at hl 1 rfl) ?_
    refine gf_X6_all hx hb hE hw (Nat.zero_lt_one) hown (hts (.fieldLink RX6 7 "ZonedLightModel" "all" "[I") (by decide +kernel)) dX6_beginning_48 ?_
    refine lv_sipush (v := nI 324) hx hb dX6_beginning_51 (by decide) ?_
    refine g_ald hx hb hE hw (n := 335) (Nat.zero_lt_one) rfl (by decide) (by omega) dX6_beginning_54 ?_
    refine lv_topi (fun x_54 ex_54 => ?_)
    refine lv_idiv hx hb dX6_beginning_55 (fun g => by rw [← ex_54, g] at how; exact absurd how (by decide)) ?_
    refine lv_topi (fun x_55 ex_55 => ?_)
    refine g_Si (n := 2) (As := [.int (nI 255), .int x_55]) (rest := []) hx hb hml hown hts hE hw hS gX6_beginning_X6_lesser (c_X6_lesser l G A _ (nI 255) x_55) rfl (by decide +kernel) ⟨Nat.le_of_ble_eq_true rfl, Nat.le_of_ble_eq_true rfl⟩ rfl hl.1 rfl (Nat.le_of_ble_eq_true rfl) ⟨Nat.le_of_ble_eq_true rfl, Nat.le_of_ble_eq_true rfl⟩ dX6_beginning_56 (fun x_56 τ_56 H locs hp_56 hw hS => ?_)
    obtain ⟨ex_56, hτ_56⟩ := hp_56
    rw [hτ_56] at hw
    refine g_iret hx hb hr hlk hE hw hS dX6_beginning_59 ?_
    exact ⟨by rw [ruleV, if_pos how, ex_56, ex_55, ex_54, ex_46, hv]; rfl, rfl⟩
  refine lv_iload_n hx hb dX6_beginning_6 rfl (lv_at hl 3 rfl) ?_
  refine lv_if_ne (tgt := 14) hx hb dX6_beginning_7 (by decide) (fun c_7 => ?_) (fun c_7 => ?_)
  · refine lv_iload_n hx hb dX6_beginning_14 rfl (lv_at hl 3 rfl) ?_
    refine lv_iconst (v := nI 1) hx hb dX6_beginning_15 (by decide) ?_
    refine lv_icmp_ne (tgt := 31) hx hb dX6_beginning_16 (by decide) (fun c_16 => ?_) (fun c_16 => ?_)
    · refine lv_aload_n hx hb dX6_beginning_31 rfl (lv_at hl 1 rfl) ?_
      refine lv_iload_n hx hb dX6_beginning_32 rfl (lv_at hl 2 rfl) ?_
      refine g_Vi (n := 1) (As := [.int (nI z)]) (rest := []) hx hb hml hown hts hE hw hS gX6_beginning_X6_meanIn (c_X6_meanIn l G A _ z (by omega)) rfl (by decide +kernel) ⟨Nat.le_of_ble_eq_true rfl, Nat.le_of_ble_eq_true rfl⟩ (Nat.zero_lt_one) rfl rfl rfl rfl hl.1 rfl (Nat.le_of_ble_eq_true rfl) ⟨Nat.le_of_ble_eq_true rfl, Nat.le_of_ble_eq_true rfl⟩ dX6_beginning_33 (fun x_33 τ_33 H locs hp_33 hw hS => ?_)
      obtain ⟨ex_33, hτ_33⟩ := hp_33
      rw [hτ_33] at hw
      exact K_36 x_33 (by unfold aimV; first | (rw [if_pos c_7, ex_2]) | (rw [if_neg c_7, if_pos (show q = 1 from c_16), ex_27, ex_25, ex_22, ex_2]; rfl) | (rw [if_neg c_7, if_neg (show ¬ q = 1 from c_16), ex_33])) _ _ _ hw hS (lv_sub hl [1] rfl)
    · refine lv_iload_n hx hb dX6_beginning_19 rfl (lv_at hl 0 rfl) ?_
      refine lv_aload_n hx hb dX6_beginning_20 rfl (lv_at hl 1 rfl) ?_
      refine lv_iload_n hx hb dX6_beginning_21 rfl (lv_at hl 2 rfl) ?_
      refine g_Vi (n := 1) (As := [.int (nI z)]) (rest := [.int x_2]) hx hb hml hown hts hE hw hS gX6_beginning_X6_meanIn (c_X6_meanIn l G A _ z (by omega)) rfl (by decide +kernel) ⟨Nat.le_of_ble_eq_true rfl, Nat.le_of_ble_eq_true rfl⟩ (Nat.zero_lt_one) rfl rfl rfl rfl hl.1 rfl (Nat.le_of_ble_eq_true rfl) ⟨Nat.le_of_ble_eq_true rfl, Nat.le_of_ble_eq_true rfl⟩ dX6_beginning_22 (fun x_22 τ_22 H locs hp_22 hw hS => ?_)
      obtain ⟨ex_22, hτ_22⟩ := hp_22
      rw [hτ_22] at hw
      refine lv_iadd hx hb dX6_beginning_25 ?_
      refine lv_topi (fun x_25 ex_25 => ?_)
      refine lv_iconst (v := nI 2) hx hb dX6_beginning_26 (by decide) ?_
      refine lv_idiv hx hb dX6_beginning_27 (by decide) ?_
      refine lv_topi (fun x_27 ex_27 => ?_)
      refine lv_goto (tgt := 36) hx hb dX6_beginning_28 (by decide) ?_
      exact K_36 x_27 (by unfold aimV; first | (rw [if_pos c_7, ex_2]) | (rw [if_neg c_7, if_pos (show q = 1 from c_16), ex_27, ex_25, ex_22, ex_2]; rfl) | (rw [if_neg c_7, if_neg (show ¬ q = 1 from c_16), ex_33])) _ _ _ hw hS (lv_sub hl [1] rfl)
  · refine lv_iload_n hx hb dX6_beginning_10 rfl (lv_at hl 0 rfl) ?_
    refine lv_goto (tgt := 36) hx hb dX6_beginning_11 (by decide) ?_
    exact K_36 x_2 (by unfold aimV; first | (rw [if_pos c_7, ex_2]) | (rw [if_neg c_7, if_pos (show q = 1 from c_16), ex_27, ex_25, ex_22, ex_2]; rfl) | (rw [if_neg c_7, if_neg (show ¬ q = 1 from c_16), ex_33])) _ _ _ hw hS (lv_sub hl [1] rfl)
set_option maxHeartbeats 4000000 in
set_option maxRecDepth 100000 in
/-- ZonedLightModel.isLiveBeside(II)Z -/
theorem c_X6_isLiveBeside (l : Launch) (G : GG) (A : Nat → Prop) (σ : St) (z : Nat) (o : Nat) (hz : z < 18) (ho : o < 18) : MI l yX6_isLiveBeside wsX6_isLiveBeside 2 43 G A σ [.ref (G.1 16 0), .int (nI z), .int (nI o)] (fun r τ => bP r (helpB (σ 17 0) z o = true) ∧ τ = σ) := by
  refine MI.on (by decide) rfl (Nat.le_of_ble_eq_true rfl) (fun pP eE sS mM args below meth cC ls hx hb hml hr hown hlk hts hE hw hS hl => ?_)
  have hl : lv_has ls 3 [(0, .ref (G.1 16 0)), (1, .int (nI z)), (2, .int (nI o))] := hl
  refine lv_iload_n hx hb dX6_isLiveBeside_0 rfl (lv_at hl 1 rfl) ?_
  refine lv_iload_n hx hb dX6_isLiveBeside_1 rfl (lv_at hl 2 rfl) ?_
  refine g_Si (n := 2) (As := [.int (nI z), .int (nI o)]) (rest := []) hx hb hml hown hts hE hw hS gX6_isLiveBeside_X6_apart (c_X6_apart l G A _ z o (by omega) (by omega)) rfl (by decide +kernel) ⟨Nat.le_of_ble_eq_true rfl, Nat.le_of_ble_eq_true rfl⟩ rfl hl.1 rfl (Nat.le_of_ble_eq_true rfl) ⟨Nat.le_of_ble_eq_true rfl, Nat.le_of_ble_eq_true rfl⟩ dX6_isLiveBeside_2 (fun r_2 τ_2 H locs hp_2 hw hS => ?_)
  obtain ⟨rfl, hτ_2⟩ := hp_2
  rw [hτ_2] at hw
  refine lv_iconst (v := nI 1) hx hb dX6_isLiveBeside_5 (by decide) ?_
  refine n_cmp_ne (tgt := 26) hx hb dX6_isLiveBeside_6 (by decide) (Nat.lt_trans (apartN_lt hz ho) (by decide)) (by decide) (fun c_6 => ?_) (fun c_6 => ?_)
  · refine lv_iconst (v := nI 0) hx hb dX6_isLiveBeside_26 (by decide) ?_
    refine g_zret hx hb hr hlk hE hw hS rfl dX6_isLiveBeside_27 ?_
    first | exact ⟨Or.inl ⟨rfl, helpB_iff.mpr ⟨by rw [← ex_18]; exact c_19, c_6⟩⟩, rfl⟩ | exact ⟨Or.inr ⟨rfl, fun h => c_6 (helpB_iff.mp h).2⟩, rfl⟩ | exact ⟨Or.inr ⟨rfl, fun h => c_19 (by rw [ex_18]; exact (helpB_iff.mp h).1)⟩, rfl⟩
  · refine lv_aload_n hx hb dX6_isLiveBeside_9 rfl (lv_at hl 0 rfl) ?_
    refine gf_X6_all hx hb hE hw (Nat.zero_lt_one) hown (hts (.fieldLink RX6 7 "ZonedLightModel" "all" "[I") (by decide +kernel)) dX6_isLiveBeside_10 ?_
    refine lv_sipush (v := nI 306) hx hb dX6_isLiveBeside_13 (by decide) ?_
    refine lv_iload_n hx hb dX6_isLiveBeside_16 rfl (lv_at hl 2 rfl) ?_
    refine n_iadd hx hb dX6_isLiveBeside_17 ?_
    refine g_ald hx hb hE hw (n := 335) (Nat.zero_lt_one) rfl (by decide) (by omega) dX6_isLiveBeside_18 ?_
    refine lv_topi (fun x_18 ex_18 => ?_)
    refine lv_if_ne (tgt := 26) hx hb dX6_isLiveBeside_19 (by decide) (fun c_19 => ?_) (fun c_19 => ?_)
    · refine lv_iconst (v := nI 0) hx hb dX6_isLiveBeside_26 (by decide) ?_
      refine g_zret hx hb hr hlk hE hw hS rfl dX6_isLiveBeside_27 ?_
      first | exact ⟨Or.inl ⟨rfl, helpB_iff.mpr ⟨by rw [← ex_18]; exact c_19, c_6⟩⟩, rfl⟩ | exact ⟨Or.inr ⟨rfl, fun h => c_6 (helpB_iff.mp h).2⟩, rfl⟩ | exact ⟨Or.inr ⟨rfl, fun h => c_19 (by rw [ex_18]; exact (helpB_iff.mp h).1)⟩, rfl⟩
    · refine lv_iconst (v := nI 1) hx hb dX6_isLiveBeside_22 (by decide) ?_
      refine lv_goto (tgt := 27) hx hb dX6_isLiveBeside_23 (by decide) ?_
      refine g_zret hx hb hr hlk hE hw hS rfl dX6_isLiveBeside_27 ?_
      first | exact ⟨Or.inl ⟨rfl, helpB_iff.mpr ⟨by rw [← ex_18]; exact c_19, c_6⟩⟩, rfl⟩ | exact ⟨Or.inr ⟨rfl, fun h => c_6 (helpB_iff.mp h).2⟩, rfl⟩ | exact ⟨Or.inr ⟨rfl, fun h => c_19 (by rw [ex_18]; exact (helpB_iff.mp h).1)⟩, rfl⟩
set_option maxHeartbeats 4000000 in
set_option maxRecDepth 100000 in
/-- ZonedLightModel.power(Z)I -/
theorem c_X6_power (l : Launch) (G : GG) (A : Nat → Prop) (σ : St)   : MI l yX6_power wsX6_power 0 0 G A σ [.ref (G.1 16 0), .int (nI 0)] (fun r τ => r = powK (levO (σ 17 0)) 18 ∧ τ = σ) := by
  refine MI.on (by decide) rfl (Nat.le_of_ble_eq_true rfl) (fun pP eE sS mM args below meth cC ls hx hb hml hr hown hlk hts hE hw hS hl => ?_)
  have hl : lv_has ls 4 [(0, .ref (G.1 16 0)), (1, .int (nI 0))] := hl
  refine lv_iconst (v := nI 0) hx hb dX6_power_0 (by decide) ?_
  refine lv_istore_n (lv' := [(2, .int (nI 0)), (0, .ref (G.1 16 0)), (1, .int (nI 0))]) hx hb dX6_power_1 rfl hl (by decide) rfl (fun ls hl => ?_)
  refine lv_iconst (v := nI 0) hx hb dX6_power_2 (by decide) ?_
  refine lv_istore_n (lv' := [(3, .int (nI 0)), (2, .int (nI 0)), (0, .ref (G.1 16 0)), (1, .int (nI 0))]) hx hb dX6_power_3 rfl hl (by decide) rfl (fun ls hl => ?_)
  have K_4 : ∀ (fuel : Nat) (k : Nat) (acc : Int32), (k ≤ 18) → (acc = powK (levO (σ 17 0)) k) → 18 - k < fuel → ∀ (H : Heap) (locs : List Loc) (ls : Array Slot), Wcel G σ H → va_S A sS.heap H locs → lv_has ls 4 [(0, .ref (G.1 16 0)), (1, .int (nI 0)), (2, .int acc), (3, .int (nI k))] → W pP l eE { frames := 0, cells := 0, slots := 0, locals := 0 } sS mM args below meth cC H locs 0 0 (MQ below (va_Qi (fun r τ => r = powK (levO (σ 17 0)) 18 ∧ τ = σ) (fun τ t => gP G A τ t) A) args sS 0 0 A) (F0 mM 4 ls []) := by
    intro fuel
    induction fuel with
    | zero =>
      intro k acc hk ha hfu
      exact absurd hfu (Nat.not_lt_zero _)
    | succ fuel K_4 =>
      intro k acc hk ha hfu H locs ls hw hS hl
      refine lv_iload_n hx hb dX6_power_4 rfl (lv_at hl 3 rfl) ?_
      refine lv_bipush (v := nI 18) hx hb dX6_power_5 (by decide) ?_
      refine n_cmp_ge (tgt := 42) hx hb dX6_power_7 (by decide) (by omega) (by omega) (fun c_7 => ?_) (fun c_7 => ?_)
      · refine lv_iload_n hx hb dX6_power_42 rfl (lv_at hl 2 rfl) ?_
        refine g_iret hx hb hr hlk hE hw hS dX6_power_43 ?_
        exact ⟨by rw [ha, show k = 18 by omega], rfl⟩
      · refine lv_iload_n hx hb dX6_power_10 rfl (lv_at hl 2 rfl) ?_
        refine lv_iload_n hx hb dX6_power_11 rfl (lv_at hl 1 rfl) ?_
        refine n_if_eq (tgt := 24) hx hb dX6_power_12 (by decide) (by omega) (fun c_12 => ?_) (fun c_12 => ?_)
        · refine lv_aload_n hx hb dX6_power_24 rfl (lv_at hl 0 rfl) ?_
          refine gf_X6_all hx hb hE hw (Nat.zero_lt_one) hown (hts (.fieldLink RX6 7 "ZonedLightModel" "all" "[I") (by decide +kernel)) dX6_power_25 ?_
          refine lv_sipush (v := nI 288) hx hb dX6_power_28 (by decide) ?_
          refine lv_iload_n hx hb dX6_power_31 rfl (lv_at hl 3 rfl) ?_
          refine n_iadd hx hb dX6_power_32 ?_
          refine g_ald hx hb hE hw (n := 335) (Nat.zero_lt_one) rfl (by decide) (by omega) dX6_power_33 ?_
          refine lv_topi (fun x_33 ex_33 => ?_)
          refine lv_iadd hx hb dX6_power_34 ?_
          refine lv_topi (fun x_34 ex_34 => ?_)
          refine lv_istore_n (lv' := [(2, .int x_34), (0, .ref (G.1 16 0)), (1, .int (nI 0)), (3, .int (nI k))]) hx hb dX6_power_35 rfl hl (by decide) rfl (fun ls hl => ?_)
          refine lv_iinc (v := nI (k + 1)) (lv' := [(3, .int (nI (k + 1))), (2, .int x_34), (0, .ref (G.1 16 0)), (1, .int (nI 0))]) hx hb dX6_power_36 hl (k := 3) rfl (nI_add _ _) (by decide) rfl (fun ls hl => ?_)
          refine lv_goto (tgt := 4) hx hb dX6_power_39 (by decide) ?_
          exact K_4 (k + 1) x_34 (by first | omega | assumption | rfl) (by rw [powK, ex_34, ex_33, ha]; first | done | rfl) (by omega) _ _ _ hw hS (lv_sub hl [2, 3, 1, 0] rfl)
        · exact absurd c_12 (by decide)
  exact K_4 (18 - 0 + 1) 0 (nI 0) (by first | omega | assumption | rfl) (by first | omega | assumption | rfl) (Nat.lt_succ_self _) _ _ _ hw hS (lv_sub hl [2, 3, 1, 0] rfl)
set_option maxHeartbeats 4000000 in
set_option maxRecDepth 100000 in
/-- ZonedLightModel.power(Z)I -/
theorem c_X6_powerW (l : Launch) (G : GG) (A : Nat → Prop) (σ : St)   : MI l yX6_power wsX6_power 0 0 G A σ [.ref (G.1 16 0), .int (nI 1)] (fun r τ => r = powK (σ 20 0) 18 ∧ τ = σ) := by
  refine MI.on (by decide) rfl (Nat.le_of_ble_eq_true rfl) (fun pP eE sS mM args below meth cC ls hx hb hml hr hown hlk hts hE hw hS hl => ?_)
  have hl : lv_has ls 4 [(0, .ref (G.1 16 0)), (1, .int (nI 1))] := hl
  refine lv_iconst (v := nI 0) hx hb dX6_power_0 (by decide) ?_
  refine lv_istore_n (lv' := [(2, .int (nI 0)), (0, .ref (G.1 16 0)), (1, .int (nI 1))]) hx hb dX6_power_1 rfl hl (by decide) rfl (fun ls hl => ?_)
  refine lv_iconst (v := nI 0) hx hb dX6_power_2 (by decide) ?_
  refine lv_istore_n (lv' := [(3, .int (nI 0)), (2, .int (nI 0)), (0, .ref (G.1 16 0)), (1, .int (nI 1))]) hx hb dX6_power_3 rfl hl (by decide) rfl (fun ls hl => ?_)
  have K_4 : ∀ (fuel : Nat) (k : Nat) (acc : Int32), (k ≤ 18) → (acc = powK (σ 20 0) k) → 18 - k < fuel → ∀ (H : Heap) (locs : List Loc) (ls : Array Slot), Wcel G σ H → va_S A sS.heap H locs → lv_has ls 4 [(0, .ref (G.1 16 0)), (1, .int (nI 1)), (2, .int acc), (3, .int (nI k))] → W pP l eE { frames := 0, cells := 0, slots := 0, locals := 0 } sS mM args below meth cC H locs 0 0 (MQ below (va_Qi (fun r τ => r = powK (σ 20 0) 18 ∧ τ = σ) (fun τ t => gP G A τ t) A) args sS 0 0 A) (F0 mM 4 ls []) := by
    intro fuel
    induction fuel with
    | zero =>
      intro k acc hk ha hfu
      exact absurd hfu (Nat.not_lt_zero _)
    | succ fuel K_4 =>
      intro k acc hk ha hfu H locs ls hw hS hl
      refine lv_iload_n hx hb dX6_power_4 rfl (lv_at hl 3 rfl) ?_
      refine lv_bipush (v := nI 18) hx hb dX6_power_5 (by decide) ?_
      refine n_cmp_ge (tgt := 42) hx hb dX6_power_7 (by decide) (by omega) (by omega) (fun c_7 => ?_) (fun c_7 => ?_)
      · refine lv_iload_n hx hb dX6_power_42 rfl (lv_at hl 2 rfl) ?_
        refine g_iret hx hb hr hlk hE hw hS dX6_power_43 ?_
        exact ⟨by rw [ha, show k = 18 by omega], rfl⟩
      · refine lv_iload_n hx hb dX6_power_10 rfl (lv_at hl 2 rfl) ?_
        refine lv_iload_n hx hb dX6_power_11 rfl (lv_at hl 1 rfl) ?_
        refine n_if_eq (tgt := 24) hx hb dX6_power_12 (by decide) (by omega) (fun c_12 => ?_) (fun c_12 => ?_)
        · exact absurd c_12 (by decide)
        · refine lv_aload_n hx hb dX6_power_15 rfl (lv_at hl 0 rfl) ?_
          refine gf_X6_wanted hx hb hE hw (Nat.zero_lt_one) hown (hts (.fieldLink RX6 19 "ZonedLightModel" "wanted" "[I") (by decide +kernel)) dX6_power_16 ?_
          refine lv_iload_n hx hb dX6_power_19 rfl (lv_at hl 3 rfl) ?_
          refine g_ald hx hb hE hw (n := 18) (Nat.zero_lt_one) rfl (by decide) (by omega) dX6_power_20 ?_
          refine lv_topi (fun x_20 ex_20 => ?_)
          refine lv_goto (tgt := 34) hx hb dX6_power_21 (by decide) ?_
          refine lv_iadd hx hb dX6_power_34 ?_
          refine lv_topi (fun x_34 ex_34 => ?_)
          refine lv_istore_n (lv' := [(2, .int x_34), (0, .ref (G.1 16 0)), (1, .int (nI 1)), (3, .int (nI k))]) hx hb dX6_power_35 rfl hl (by decide) rfl (fun ls hl => ?_)
          refine lv_iinc (v := nI (k + 1)) (lv' := [(3, .int (nI (k + 1))), (2, .int x_34), (0, .ref (G.1 16 0)), (1, .int (nI 1))]) hx hb dX6_power_36 hl (k := 3) rfl (nI_add _ _) (by decide) rfl (fun ls hl => ?_)
          refine lv_goto (tgt := 4) hx hb dX6_power_39 (by decide) ?_
          exact K_4 (k + 1) x_34 (by first | omega | assumption | rfl) (by rw [powK, ex_34, ex_20, ha]; first | done | rfl) (by omega) _ _ _ hw hS (lv_sub hl [2, 3, 1, 0] rfl)
  exact K_4 (18 - 0 + 1) 0 (nI 0) (by first | omega | assumption | rfl) (by first | omega | assumption | rfl) (Nat.lt_succ_self _) _ _ _ hw hS (lv_sub hl [2, 3, 1, 0] rfl)
set_option maxHeartbeats 4000000 in
set_option maxRecDepth 100000 in
/-- ZonedLightModel.deadZones()I -/
theorem c_X6_deadZones (l : Launch) (G : GG) (A : Nat → Prop) (σ : St)  (hok : okW (σ 17 0)) : MI l yX6_deadZones wsX6_deadZones 0 0 G A σ [.ref (G.1 16 0)] (fun r τ => r = deadK (σ 17 0) 18 ∧ τ = σ) := by
  refine MI.on (by decide) rfl (Nat.le_of_ble_eq_true rfl) (fun pP eE sS mM args below meth cC ls hx hb hml hr hown hlk hts hE hw hS hl => ?_)
  have hl : lv_has ls 3 [(0, .ref (G.1 16 0))] := hl
  refine lv_iconst (v := nI 0) hx hb dX6_deadZones_0 (by decide) ?_
  refine lv_istore_n (lv' := [(1, .int (nI 0)), (0, .ref (G.1 16 0))]) hx hb dX6_deadZones_1 rfl hl (by decide) rfl (fun ls hl => ?_)
  refine lv_iconst (v := nI 0) hx hb dX6_deadZones_2 (by decide) ?_
  refine lv_istore_n (lv' := [(2, .int (nI 0)), (1, .int (nI 0)), (0, .ref (G.1 16 0))]) hx hb dX6_deadZones_3 rfl hl (by decide) rfl (fun ls hl => ?_)
  have K_4 : ∀ (fuel : Nat) (k : Nat) (acc : Int32), (k ≤ 18) → (acc = deadK (σ 17 0) k) → 18 - k < fuel → ∀ (H : Heap) (locs : List Loc) (ls : Array Slot), Wcel G σ H → va_S A sS.heap H locs → lv_has ls 3 [(0, .ref (G.1 16 0)), (1, .int acc), (2, .int (nI k))] → W pP l eE { frames := 0, cells := 0, slots := 0, locals := 0 } sS mM args below meth cC H locs 0 0 (MQ below (va_Qi (fun r τ => r = deadK (σ 17 0) 18 ∧ τ = σ) (fun τ t => gP G A τ t) A) args sS 0 0 A) (F0 mM 4 ls []) := by
    intro fuel
    induction fuel with
    | zero =>
      intro k acc hk ha hfu
      exact absurd hfu (Nat.not_lt_zero _)
    | succ fuel K_4 =>
      intro k acc hk ha hfu H locs ls hw hS hl
      refine lv_iload_n hx hb dX6_deadZones_4 rfl (lv_at hl 2 rfl) ?_
      refine lv_bipush (v := nI 18) hx hb dX6_deadZones_5 (by decide) ?_
      refine n_cmp_ge (tgt := 29) hx hb dX6_deadZones_7 (by decide) (by omega) (by omega) (fun c_7 => ?_) (fun c_7 => ?_)
      · refine lv_iload_n hx hb dX6_deadZones_29 rfl (lv_at hl 1 rfl) ?_
        refine g_iret hx hb hr hlk hE hw hS dX6_deadZones_30 ?_
        exact ⟨by rw [ha, show k = 18 by omega], rfl⟩
      · refine lv_iload_n hx hb dX6_deadZones_10 rfl (lv_at hl 1 rfl) ?_
        refine lv_aload_n hx hb dX6_deadZones_11 rfl (lv_at hl 0 rfl) ?_
        refine gf_X6_all hx hb hE hw (Nat.zero_lt_one) hown (hts (.fieldLink RX6 7 "ZonedLightModel" "all" "[I") (by decide +kernel)) dX6_deadZones_12 ?_
        refine lv_sipush (v := nI 306) hx hb dX6_deadZones_15 (by decide) ?_
        refine lv_iload_n hx hb dX6_deadZones_18 rfl (lv_at hl 2 rfl) ?_
        refine n_iadd hx hb dX6_deadZones_19 ?_
        refine g_ald hx hb hE hw (n := 335) (Nat.zero_lt_one) rfl (by decide) (by omega) dX6_deadZones_20 ?_
        refine lv_topi (fun x_20 ex_20 => ?_)
        refine lv_iadd hx hb dX6_deadZones_21 ?_
        refine lv_topi (fun x_21 ex_21 => ?_)
        refine lv_istore_n (lv' := [(1, .int x_21), (0, .ref (G.1 16 0)), (2, .int (nI k))]) hx hb dX6_deadZones_22 rfl hl (by decide) rfl (fun ls hl => ?_)
        refine lv_iinc (v := nI (k + 1)) (lv' := [(2, .int (nI (k + 1))), (1, .int x_21), (0, .ref (G.1 16 0))]) hx hb dX6_deadZones_23 hl (k := 2) rfl (nI_add _ _) (by decide) rfl (fun ls hl => ?_)
        refine lv_goto (tgt := 4) hx hb dX6_deadZones_26 (by decide) ?_
        exact K_4 (k + 1) x_21 (by first | omega | assumption | rfl) (by rw [← dead_m (hok.2.1 k c_7), ex_21, ex_20, ha]) (by omega) _ _ _ hw hS (lv_sub hl [2, 1, 0] rfl)
  exact K_4 (18 - 0 + 1) 0 (nI 0) (by first | omega | assumption | rfl) (by first | omega | assumption | rfl) (Nat.lt_succ_self _) _ _ _ hw hS (lv_sub hl [2, 1, 0] rfl)
set_option maxHeartbeats 4000000 in
set_option maxRecDepth 100000 in
/-- ZonedLightModel.otherSpots()I -/
theorem c_X6_otherSpots (l : Launch) (G : GG) (A : Nat → Prop) (σ : St) (m : Nat) (hm1 : 1 ≤ m) (hm : m ≤ 4) (em : σ 16 0 2 = nI m) : MI l yX6_otherSpots wsX6_otherSpots 0 0 G A σ [.ref (G.1 16 0)] (fun r τ => r = nI (difK (σ 17 0) (fun j => σ 18 0 (335 * (m - 1) + j)) 288) ∧ τ = σ) := by
  refine MI.on (by decide) rfl (Nat.le_of_ble_eq_true rfl) (fun pP eE sS mM args below meth cC ls hx hb hml hr hown hlk hts hE hw hS hl => ?_)
  have hl : lv_has ls 3 [(0, .ref (G.1 16 0))] := hl
  refine lv_iconst (v := nI 0) hx hb dX6_otherSpots_0 (by decide) ?_
  refine lv_istore_n (lv' := [(1, .int (nI 0)), (0, .ref (G.1 16 0))]) hx hb dX6_otherSpots_1 rfl hl (by decide) rfl (fun ls hl => ?_)
  refine lv_iconst (v := nI 0) hx hb dX6_otherSpots_2 (by decide) ?_
  refine lv_istore_n (lv' := [(2, .int (nI 0)), (1, .int (nI 0)), (0, .ref (G.1 16 0))]) hx hb dX6_otherSpots_3 rfl hl (by decide) rfl (fun ls hl => ?_)
  have K_4 : ∀ (fuel : Nat) (k : Nat) (c : Nat), (k ≤ 288) → (c = difK (σ 17 0) (fun j => σ 18 0 (335 * (m - 1) + j)) k) → 288 - k < fuel → ∀ (H : Heap) (locs : List Loc) (ls : Array Slot), Wcel G σ H → va_S A sS.heap H locs → lv_has ls 3 [(0, .ref (G.1 16 0)), (1, .int (nI c)), (2, .int (nI k))] → W pP l eE { frames := 0, cells := 0, slots := 0, locals := 0 } sS mM args below meth cC H locs 0 0 (MQ below (va_Qi (fun r τ => r = nI (difK (σ 17 0) (fun j => σ 18 0 (335 * (m - 1) + j)) 288) ∧ τ = σ) (fun τ t => gP G A τ t) A) args sS 0 0 A) (F0 mM 4 ls []) := by
    intro fuel
    induction fuel with
    | zero =>
      intro k c hk hc hfu
      exact absurd hfu (Nat.not_lt_zero _)
    | succ fuel K_4 =>
      intro k c hk hc hfu H locs ls hw hS hl
      refine lv_iload_n hx hb dX6_otherSpots_4 rfl (lv_at hl 2 rfl) ?_
      refine lv_sipush (v := nI 288) hx hb dX6_otherSpots_5 (by decide) ?_
      refine n_cmp_ge (tgt := 51) hx hb dX6_otherSpots_8 (by decide) (by omega) (by omega) (fun c_8 => ?_) (fun c_8 => ?_)
      · refine lv_iload_n hx hb dX6_otherSpots_51 rfl (lv_at hl 1 rfl) ?_
        refine g_iret hx hb hr hlk hE hw hS dX6_otherSpots_52 ?_
        exact ⟨by rw [hc, show k = 288 by omega], rfl⟩
      · refine lv_iload_n hx hb dX6_otherSpots_11 rfl (lv_at hl 1 rfl) ?_
        refine lv_aload_n hx hb dX6_otherSpots_12 rfl (lv_at hl 0 rfl) ?_
        refine gf_X6_all hx hb hE hw (Nat.zero_lt_one) hown (hts (.fieldLink RX6 7 "ZonedLightModel" "all" "[I") (by decide +kernel)) dX6_otherSpots_13 ?_
        refine lv_iload_n hx hb dX6_otherSpots_16 rfl (lv_at hl 2 rfl) ?_
        refine g_ald hx hb hE hw (n := 335) (Nat.zero_lt_one) rfl (by decide) (by omega) dX6_otherSpots_17 ?_
        refine lv_topi (fun x_17 ex_17 => ?_)
        refine lv_aload_n hx hb dX6_otherSpots_18 rfl (lv_at hl 0 rfl) ?_
        refine gf_X6_history hx hb hE hw (Nat.zero_lt_one) hown (hts (.fieldLink RX6 13 "ZonedLightModel" "history" "[I") (by decide +kernel)) dX6_otherSpots_19 ?_
        refine lv_sipush (v := nI 335) hx hb dX6_otherSpots_22 (by decide) ?_
        refine lv_aload_n hx hb dX6_otherSpots_25 rfl (lv_at hl 0 rfl) ?_
        refine gf_X6_historyLong hx hb hE hw (Nat.zero_lt_one) hown (hts (.fieldLink RX6 28 "ZonedLightModel" "historyLong" "I") (by decide +kernel)) dX6_otherSpots_26 ?_
        refine lv_topi (fun x_26 ex_26 => ?_)
        obtain rfl : x_26 = nI m := by rw [ex_26, em]
        refine lv_iconst (v := nI 1) hx hb dX6_otherSpots_29 (by decide) ?_
        refine n_isub hx hb dX6_otherSpots_30 (by omega) ?_
        refine n_imul hx hb dX6_otherSpots_31 ?_
        refine lv_iload_n hx hb dX6_otherSpots_32 rfl (lv_at hl 2 rfl) ?_
        refine n_iadd hx hb dX6_otherSpots_33 ?_
        refine g_ald hx hb hE hw (n := 1340) (Nat.zero_lt_one) rfl (by decide) (by omega) dX6_otherSpots_34 ?_
        refine lv_topi (fun x_34 ex_34 => ?_)
        refine lv_icmp_ne (tgt := 42) hx hb dX6_otherSpots_35 (by decide) (fun c_35 => ?_) (fun c_35 => ?_)
        · refine lv_iconst (v := nI 1) hx hb dX6_otherSpots_42 (by decide) ?_
          refine n_iadd hx hb dX6_otherSpots_43 ?_
          refine lv_istore_n (lv' := [(1, .int (nI (c + 1))), (0, .ref (G.1 16 0)), (2, .int (nI k))]) hx hb dX6_otherSpots_44 rfl hl (by decide) rfl (fun ls hl => ?_)
          refine lv_iinc (v := nI (k + 1)) (lv' := [(2, .int (nI (k + 1))), (1, .int (nI (c + 1))), (0, .ref (G.1 16 0))]) hx hb dX6_otherSpots_45 hl (k := 2) rfl (nI_add _ _) (by decide) rfl (fun ls hl => ?_)
          refine lv_goto (tgt := 4) hx hb dX6_otherSpots_48 (by decide) ?_
          exact K_4 (k + 1) (c + 1) (by first | omega | assumption | rfl) (by first | (rw [difK, if_pos (by rw [← ex_17]; exact c_35.trans ex_34), Nat.add_zero]; exact hc) | (rw [difK, if_neg (by rw [← ex_17]; exact fun g => c_35 (g.trans ex_34.symm)), hc])) (by omega) _ _ _ hw hS (lv_sub hl [2, 1, 0] rfl)
        · refine lv_iconst (v := nI 0) hx hb dX6_otherSpots_38 (by decide) ?_
          refine lv_goto (tgt := 43) hx hb dX6_otherSpots_39 (by decide) ?_
          refine n_iadd hx hb dX6_otherSpots_43 ?_
          refine lv_istore_n (lv' := [(1, .int (nI (c + 0))), (0, .ref (G.1 16 0)), (2, .int (nI k))]) hx hb dX6_otherSpots_44 rfl hl (by decide) rfl (fun ls hl => ?_)
          refine lv_iinc (v := nI (k + 1)) (lv' := [(2, .int (nI (k + 1))), (1, .int (nI (c + 0))), (0, .ref (G.1 16 0))]) hx hb dX6_otherSpots_45 hl (k := 2) rfl (nI_add _ _) (by decide) rfl (fun ls hl => ?_)
          refine lv_goto (tgt := 4) hx hb dX6_otherSpots_48 (by decide) ?_
          exact K_4 (k + 1) (c + 0) (by first | omega | assumption | rfl) (by first | (rw [difK, if_pos (by rw [← ex_17]; exact c_35.trans ex_34), Nat.add_zero]; exact hc) | (rw [difK, if_neg (by rw [← ex_17]; exact fun g => c_35 (g.trans ex_34.symm)), hc])) (by omega) _ _ _ hw hS (lv_sub hl [2, 1, 0] rfl)
  exact K_4 (288 - 0 + 1) 0 0 (by first | omega | assumption | rfl) (by first | omega | assumption | rfl) (Nat.lt_succ_self _) _ _ _ hw hS (lv_sub hl [2, 1, 0] rfl)
