/-! CONTRACTS, laid by program -/
set_option maxHeartbeats 4000000 in
set_option maxRecDepth 100000 in
/-- ZonedLight.spotAt(II)I -/
theorem c_X5_spotAt (l : Launch) (G : GG) (A : Nat → Prop) (σ : St) (x : Nat) (y : Nat)  : MI l yX5_spotAt wsX5_spotAt 0 0 G A σ [.int (nI x), .int (nI y)] (fun r τ => r = nI (y * 24 + x) ∧ τ = σ) := by
  refine MI.on (by decide) rfl (Nat.le_of_ble_eq_true rfl) (fun pP eE sS mM args below meth cC ls hx hb hml hr hown hlk hts hE hw hS hl => ?_)
  have hl : lv_has ls 2 [(0, .int (nI x)), (1, .int (nI y))] := hl
  refine lv_iload_n hx hb dX5_spotAt_0 rfl (lv_at hl 1 rfl) ?_
  refine lv_bipush (v := nI 24) hx hb dX5_spotAt_1 (by decide) ?_
  refine n_imul hx hb dX5_spotAt_3 ?_
  refine lv_iload_n hx hb dX5_spotAt_4 rfl (lv_at hl 0 rfl) ?_
  refine n_iadd hx hb dX5_spotAt_5 ?_
  refine g_iret hx hb hr hlk hE hw hS dX5_spotAt_6 ?_
  exact ⟨rfl, rfl⟩
set_option maxHeartbeats 4000000 in
set_option maxRecDepth 100000 in
/-- ZonedLight.onScreen(II)Z -/
theorem c_X5_onScreen (l : Launch) (G : GG) (A : Nat → Prop) (σ : St) (x : Int32) (y : Int32)  : MI l yX5_onScreen wsX5_onScreen 0 0 G A σ [.int x, .int y] (fun r τ => bP r (onP x y) ∧ τ = σ) := by
  refine MI.on (by decide) rfl (Nat.le_of_ble_eq_true rfl) (fun pP eE sS mM args below meth cC ls hx hb hml hr hown hlk hts hE hw hS hl => ?_)
  have hl : lv_has ls 2 [(0, .int x), (1, .int y)] := hl
  refine lv_iload_n hx hb dX5_onScreen_0 rfl (lv_at hl 0 rfl) ?_
  refine lv_if_lt (tgt := 24) hx hb dX5_onScreen_1 (by decide) (fun c_1 => ?_) (fun c_1 => ?_)
  · refine lv_iconst (v := nI 0) hx hb dX5_onScreen_24 (by decide) ?_
    refine g_zret hx hb hr hlk hE hw hS rfl dX5_onScreen_25 ?_
    first | exact ⟨Or.inl ⟨rfl, onP_iff.mpr ⟨c_1, c_7, c_11, c_17⟩⟩, rfl⟩ | exact ⟨Or.inr ⟨rfl, fun h => absurd c_1 (onP_iff.mp h).1⟩, rfl⟩ | exact ⟨Or.inr ⟨rfl, fun h => absurd c_7 (onP_iff.mp h).2.1⟩, rfl⟩ | exact ⟨Or.inr ⟨rfl, fun h => absurd c_11 (onP_iff.mp h).2.2.1⟩, rfl⟩ | exact ⟨Or.inr ⟨rfl, fun h => (onP_iff.mp h).2.2.2 c_17⟩, rfl⟩
  · refine lv_iload_n hx hb dX5_onScreen_4 rfl (lv_at hl 0 rfl) ?_
    refine lv_bipush (v := nI 24) hx hb dX5_onScreen_5 (by decide) ?_
    refine lv_icmp_ge (tgt := 24) hx hb dX5_onScreen_7 (by decide) (fun c_7 => ?_) (fun c_7 => ?_)
    · refine lv_iconst (v := nI 0) hx hb dX5_onScreen_24 (by decide) ?_
      refine g_zret hx hb hr hlk hE hw hS rfl dX5_onScreen_25 ?_
      first | exact ⟨Or.inl ⟨rfl, onP_iff.mpr ⟨c_1, c_7, c_11, c_17⟩⟩, rfl⟩ | exact ⟨Or.inr ⟨rfl, fun h => absurd c_1 (onP_iff.mp h).1⟩, rfl⟩ | exact ⟨Or.inr ⟨rfl, fun h => absurd c_7 (onP_iff.mp h).2.1⟩, rfl⟩ | exact ⟨Or.inr ⟨rfl, fun h => absurd c_11 (onP_iff.mp h).2.2.1⟩, rfl⟩ | exact ⟨Or.inr ⟨rfl, fun h => (onP_iff.mp h).2.2.2 c_17⟩, rfl⟩
    · refine lv_iload_n hx hb dX5_onScreen_10 rfl (lv_at hl 1 rfl) ?_
      refine lv_if_lt (tgt := 24) hx hb dX5_onScreen_11 (by decide) (fun c_11 => ?_) (fun c_11 => ?_)
      · refine lv_iconst (v := nI 0) hx hb dX5_onScreen_24 (by decide) ?_
        refine g_zret hx hb hr hlk hE hw hS rfl dX5_onScreen_25 ?_
        first | exact ⟨Or.inl ⟨rfl, onP_iff.mpr ⟨c_1, c_7, c_11, c_17⟩⟩, rfl⟩ | exact ⟨Or.inr ⟨rfl, fun h => absurd c_1 (onP_iff.mp h).1⟩, rfl⟩ | exact ⟨Or.inr ⟨rfl, fun h => absurd c_7 (onP_iff.mp h).2.1⟩, rfl⟩ | exact ⟨Or.inr ⟨rfl, fun h => absurd c_11 (onP_iff.mp h).2.2.1⟩, rfl⟩ | exact ⟨Or.inr ⟨rfl, fun h => (onP_iff.mp h).2.2.2 c_17⟩, rfl⟩
      · refine lv_iload_n hx hb dX5_onScreen_14 rfl (lv_at hl 1 rfl) ?_
        refine lv_bipush (v := nI 12) hx hb dX5_onScreen_15 (by decide) ?_
        refine lv_icmp_ge (tgt := 24) hx hb dX5_onScreen_17 (by decide) (fun c_17 => ?_) (fun c_17 => ?_)
        · refine lv_iconst (v := nI 0) hx hb dX5_onScreen_24 (by decide) ?_
          refine g_zret hx hb hr hlk hE hw hS rfl dX5_onScreen_25 ?_
          first | exact ⟨Or.inl ⟨rfl, onP_iff.mpr ⟨c_1, c_7, c_11, c_17⟩⟩, rfl⟩ | exact ⟨Or.inr ⟨rfl, fun h => absurd c_1 (onP_iff.mp h).1⟩, rfl⟩ | exact ⟨Or.inr ⟨rfl, fun h => absurd c_7 (onP_iff.mp h).2.1⟩, rfl⟩ | exact ⟨Or.inr ⟨rfl, fun h => absurd c_11 (onP_iff.mp h).2.2.1⟩, rfl⟩ | exact ⟨Or.inr ⟨rfl, fun h => (onP_iff.mp h).2.2.2 c_17⟩, rfl⟩
        · refine lv_iconst (v := nI 1) hx hb dX5_onScreen_20 (by decide) ?_
          refine lv_goto (tgt := 25) hx hb dX5_onScreen_21 (by decide) ?_
          refine g_zret hx hb hr hlk hE hw hS rfl dX5_onScreen_25 ?_
          first | exact ⟨Or.inl ⟨rfl, onP_iff.mpr ⟨c_1, c_7, c_11, c_17⟩⟩, rfl⟩ | exact ⟨Or.inr ⟨rfl, fun h => absurd c_1 (onP_iff.mp h).1⟩, rfl⟩ | exact ⟨Or.inr ⟨rfl, fun h => absurd c_7 (onP_iff.mp h).2.1⟩, rfl⟩ | exact ⟨Or.inr ⟨rfl, fun h => absurd c_11 (onP_iff.mp h).2.2.1⟩, rfl⟩ | exact ⟨Or.inr ⟨rfl, fun h => (onP_iff.mp h).2.2.2 c_17⟩, rfl⟩
set_option maxHeartbeats 4000000 in
set_option maxRecDepth 100000 in
/-- ZonedLight.isZone(I)Z -/
theorem c_X5_isZone (l : Launch) (G : GG) (A : Nat → Prop) (σ : St) (z : Int32)  : MI l yX5_isZone wsX5_isZone 0 0 G A σ [.int z] (fun r τ => bP r (inN z 18) ∧ τ = σ) := by
  refine MI.on (by decide) rfl (Nat.le_of_ble_eq_true rfl) (fun pP eE sS mM args below meth cC ls hx hb hml hr hown hlk hts hE hw hS hl => ?_)
  have hl : lv_has ls 1 [(0, .int z)] := hl
  refine lv_iload_n hx hb dX5_isZone_0 rfl (lv_at hl 0 rfl) ?_
  refine lv_if_lt (tgt := 14) hx hb dX5_isZone_1 (by decide) (fun c_1 => ?_) (fun c_1 => ?_)
  · refine lv_iconst (v := nI 0) hx hb dX5_isZone_14 (by decide) ?_
    refine g_zret hx hb hr hlk hE hw hS rfl dX5_isZone_15 ?_
    first | exact ⟨Or.inl ⟨rfl, (inN_iff (by decide)).mpr ⟨c_1, c_7⟩⟩, rfl⟩ | exact ⟨Or.inr ⟨rfl, fun h => absurd c_1 ((inN_iff (by decide)).mp h).1⟩, rfl⟩ | exact ⟨Or.inr ⟨rfl, fun h => ((inN_iff (by decide)).mp h).2 c_7⟩, rfl⟩
  · refine lv_iload_n hx hb dX5_isZone_4 rfl (lv_at hl 0 rfl) ?_
    refine lv_bipush (v := nI 18) hx hb dX5_isZone_5 (by decide) ?_
    refine lv_icmp_ge (tgt := 14) hx hb dX5_isZone_7 (by decide) (fun c_7 => ?_) (fun c_7 => ?_)
    · refine lv_iconst (v := nI 0) hx hb dX5_isZone_14 (by decide) ?_
      refine g_zret hx hb hr hlk hE hw hS rfl dX5_isZone_15 ?_
      first | exact ⟨Or.inl ⟨rfl, (inN_iff (by decide)).mpr ⟨c_1, c_7⟩⟩, rfl⟩ | exact ⟨Or.inr ⟨rfl, fun h => absurd c_1 ((inN_iff (by decide)).mp h).1⟩, rfl⟩ | exact ⟨Or.inr ⟨rfl, fun h => ((inN_iff (by decide)).mp h).2 c_7⟩, rfl⟩
    · refine lv_iconst (v := nI 1) hx hb dX5_isZone_10 (by decide) ?_
      refine lv_goto (tgt := 15) hx hb dX5_isZone_11 (by decide) ?_
      refine g_zret hx hb hr hlk hE hw hS rfl dX5_isZone_15 ?_
      first | exact ⟨Or.inl ⟨rfl, (inN_iff (by decide)).mpr ⟨c_1, c_7⟩⟩, rfl⟩ | exact ⟨Or.inr ⟨rfl, fun h => absurd c_1 ((inN_iff (by decide)).mp h).1⟩, rfl⟩ | exact ⟨Or.inr ⟨rfl, fun h => ((inN_iff (by decide)).mp h).2 c_7⟩, rfl⟩
set_option maxHeartbeats 4000000 in
set_option maxRecDepth 100000 in
/-- ZonedLight.spotOfZone(II)I -/
theorem c_X5_spotOfZone (l : Launch) (G : GG) (A : Nat → Prop) (σ : St) (z : Nat) (w : Nat) (hz : z < 18) (hw2 : w < 16) : MI l yX5_spotOfZone wsX5_spotOfZone 1 21 G A σ [.int (nI z), .int (nI w)] (fun r τ => r = nI (spotN z w) ∧ τ = σ) := by
  refine MI.on (by decide) rfl (Nat.le_of_ble_eq_true rfl) (fun pP eE sS mM args below meth cC ls hx hb hml hr hown hlk hts hE hw hS hl => ?_)
  have hl : lv_has ls 4 [(0, .int (nI z)), (1, .int (nI w))] := hl
  refine lv_iload_n hx hb dX5_spotOfZone_0 rfl (lv_at hl 0 rfl) ?_
  refine lv_bipush (v := nI 6) hx hb dX5_spotOfZone_1 (by decide) ?_
  refine n_irem hx hb dX5_spotOfZone_3 (by omega) (by omega) (by omega) ?_
  refine lv_iconst (v := nI 4) hx hb dX5_spotOfZone_4 (by decide) ?_
  refine n_imul hx hb dX5_spotOfZone_5 ?_
  refine lv_iload_n hx hb dX5_spotOfZone_6 rfl (lv_at hl 1 rfl) ?_
  refine lv_iconst (v := nI 4) hx hb dX5_spotOfZone_7 (by decide) ?_
  refine n_irem hx hb dX5_spotOfZone_8 (by omega) (by omega) (by omega) ?_
  refine n_iadd hx hb dX5_spotOfZone_9 ?_
  refine lv_istore_n (lv' := [(2, .int (nI (((z % 6) * 4) + (w % 4)))), (0, .int (nI z)), (1, .int (nI w))]) hx hb dX5_spotOfZone_10 rfl hl (by decide) rfl (fun ls hl => ?_)
  refine lv_iload_n hx hb dX5_spotOfZone_11 rfl (lv_at hl 1 rfl) ?_
  refine lv_bipush (v := nI 6) hx hb dX5_spotOfZone_12 (by decide) ?_
  refine n_idiv hx hb dX5_spotOfZone_14 (by omega) (by omega) (by omega) ?_
  refine lv_iconst (v := nI 4) hx hb dX5_spotOfZone_15 (by decide) ?_
  refine n_imul hx hb dX5_spotOfZone_16 ?_
  refine lv_iload_n hx hb dX5_spotOfZone_17 rfl (lv_at hl 2 rfl) ?_
  refine lv_iconst (v := nI 4) hx hb dX5_spotOfZone_18 (by decide) ?_
  refine n_idiv hx hb dX5_spotOfZone_19 (by omega) (by omega) (by omega) ?_
  refine n_iadd hx hb dX5_spotOfZone_20 ?_
  refine lv_istore_n (lv' := [(3, .int (nI (((z / 6) * 4) + (w / 4)))), (2, .int (nI (((z % 6) * 4) + (w % 4)))), (0, .int (nI z)), (1, .int (nI w))]) hx hb dX5_spotOfZone_21 rfl hl (by decide) rfl (fun ls hl => ?_)
  refine lv_iload_n hx hb dX5_spotOfZone_22 rfl (lv_at hl 1 rfl) ?_
  refine lv_iload_n hx hb dX5_spotOfZone_23 rfl (lv_at hl 0 rfl) ?_
  refine g_Si (n := 2) (As := [.int (nI (((z % 6) * 4) + (w % 4))), .int (nI (((z / 6) * 4) + (w / 4)))]) (rest := []) hx hb hml hown hts hE hw hS gX5_spotOfZone_X5_spotAt (c_X5_spotAt l G A _ (((z % 6) * 4) + (w % 4)) (((z / 6) * 4) + (w / 4))) rfl (by decide +kernel) ⟨Nat.le_of_ble_eq_true rfl, Nat.le_of_ble_eq_true rfl⟩ rfl hl.1 rfl (Nat.le_of_ble_eq_true rfl) ⟨Nat.le_of_ble_eq_true rfl, Nat.le_of_ble_eq_true rfl⟩ dX5_spotOfZone_24 (fun r_24 τ_24 H locs hp_24 hw hS => ?_)
  obtain ⟨rfl, hτ_24⟩ := hp_24
  rw [hτ_24] at hw
  refine g_iret hx hb hr hlk hE hw hS dX5_spotOfZone_27 ?_
  exact ⟨rfl, rfl⟩
set_option maxHeartbeats 4000000 in
set_option maxRecDepth 100000 in
/-- ZonedLight.zonesApart(II)I -/
theorem c_X5_zonesApart (l : Launch) (G : GG) (A : Nat → Prop) (σ : St) (z : Nat) (o : Nat) (hz : z < 18) (ho : o < 18) : MI l yX5_zonesApart wsX5_zonesApart 1 21 G A σ [.int (nI z), .int (nI o)] (fun r τ => r = nI (apartN z o) ∧ τ = σ) := by
  refine MI.on (by decide) rfl (Nat.le_of_ble_eq_true rfl) (fun pP eE sS mM args below meth cC ls hx hb hml hr hown hlk hts hE hw hS hl => ?_)
  have hl : lv_has ls 4 [(0, .int (nI z)), (1, .int (nI o))] := hl
  refine lv_iload_n hx hb dX5_zonesApart_0 rfl (lv_at hl 0 rfl) ?_
  refine lv_bipush (v := nI 6) hx hb dX5_zonesApart_1 (by decide) ?_
  refine n_irem hx hb dX5_zonesApart_3 (by omega) (by omega) (by omega) ?_
  refine lv_iload_n hx hb dX5_zonesApart_4 rfl (lv_at hl 1 rfl) ?_
  refine lv_bipush (v := nI 6) hx hb dX5_zonesApart_5 (by decide) ?_
  refine n_irem hx hb dX5_zonesApart_7 (by omega) (by omega) (by omega) ?_
  refine lv_isub hx hb dX5_zonesApart_8 ?_
  refine lv_topi (fun x_8 ex_8 => ?_)
  refine g_abs hx hb (hml.trans hl.1.symm) hE hown (hts (.methodLink RX5 227 Lib.Math.abs.name) (by decide +kernel)) ⟨Nat.le_of_ble_eq_true rfl, Nat.le_of_ble_eq_true rfl⟩ ⟨Nat.le_of_ble_eq_true rfl, Nat.le_of_ble_eq_true rfl⟩ dX5_zonesApart_9 ?_
  refine lv_topi (fun x_9 ex_9 => ?_)
  obtain rfl : x_9 = nI (distN (z % 6) (o % 6)) := by rw [ex_9, ex_8]; exact iabs_sub (by omega) (by omega)
  refine lv_istore_n (lv' := [(2, .int (nI (distN (z % 6) (o % 6)))), (0, .int (nI z)), (1, .int (nI o))]) hx hb dX5_zonesApart_12 rfl hl (by decide) rfl (fun ls hl => ?_)
  refine lv_iload_n hx hb dX5_zonesApart_13 rfl (lv_at hl 1 rfl) ?_
  refine lv_bipush (v := nI 6) hx hb dX5_zonesApart_14 (by decide) ?_
  refine n_idiv hx hb dX5_zonesApart_16 (by omega) (by omega) (by omega) ?_
  refine lv_iload_n hx hb dX5_zonesApart_17 rfl (lv_at hl 2 rfl) ?_
  refine lv_bipush (v := nI 6) hx hb dX5_zonesApart_18 (by decide) ?_
  refine n_idiv hx hb dX5_zonesApart_20 (by omega) (by omega) (by omega) ?_
  refine lv_isub hx hb dX5_zonesApart_21 ?_
  refine lv_topi (fun x_21 ex_21 => ?_)
  refine g_abs hx hb (hml.trans hl.1.symm) hE hown (hts (.methodLink RX5 227 Lib.Math.abs.name) (by decide +kernel)) ⟨Nat.le_of_ble_eq_true rfl, Nat.le_of_ble_eq_true rfl⟩ ⟨Nat.le_of_ble_eq_true rfl, Nat.le_of_ble_eq_true rfl⟩ dX5_zonesApart_22 ?_
  refine lv_topi (fun x_22 ex_22 => ?_)
  obtain rfl : x_22 = nI (distN (z / 6) (o / 6)) := by rw [ex_22, ex_21]; exact iabs_sub (by omega) (by omega)
  refine lv_istore_n (lv' := [(3, .int (nI (distN (z / 6) (o / 6)))), (2, .int (nI (distN (z % 6) (o % 6)))), (0, .int (nI z)), (1, .int (nI o))]) hx hb dX5_zonesApart_25 rfl hl (by decide) rfl (fun ls hl => ?_)
  refine lv_iload_n hx hb dX5_zonesApart_26 rfl (lv_at hl 1 rfl) ?_
  refine lv_iload_n hx hb dX5_zonesApart_27 rfl (lv_at hl 0 rfl) ?_
  refine g_max hx hb (hml.trans hl.1.symm) hE hown (hts (.methodLink RX5 232 Lib.Math.max.name) (by decide +kernel)) ⟨Nat.le_of_ble_eq_true rfl, Nat.le_of_ble_eq_true rfl⟩ ⟨Nat.le_of_ble_eq_true rfl, Nat.le_of_ble_eq_true rfl⟩ dX5_zonesApart_28 ?_
  refine lv_topi (fun x_28 ex_28 => ?_)
  obtain rfl : x_28 = nI (apartN z o) := by rw [ex_28]; exact imax_nI (by unfold distN; split <;> omega) (by unfold distN; split <;> omega)
  refine g_iret hx hb hr hlk hE hw hS dX5_zonesApart_31 ?_
  exact ⟨rfl, rfl⟩
set_option maxHeartbeats 4000000 in
set_option maxRecDepth 100000 in
/-- ZonedLight.roundedUp(II)I -/
theorem c_X5_roundedUp (l : Launch) (G : GG) (A : Nat → Prop) (σ : St) (x : Int32) (y : Int32)  : MI l yX5_roundedUp wsX5_roundedUp 0 0 G A σ [.int x, .int y] (fun r τ => r = rupF x y ∧ τ = σ) := by
  refine MI.on (by decide) rfl (Nat.le_of_ble_eq_true rfl) (fun pP eE sS mM args below meth cC ls hx hb hml hr hown hlk hts hE hw hS hl => ?_)
  have hl : lv_has ls 2 [(0, .int x), (1, .int y)] := hl
  refine lv_iload_n hx hb dX5_roundedUp_0 rfl (lv_at hl 1 rfl) ?_
  refine lv_if_le (tgt := 14) hx hb dX5_roundedUp_1 (by decide) (fun c_1 => ?_) (fun c_1 => ?_)
  · refine lv_iconst (v := nI 0) hx hb dX5_roundedUp_14 (by decide) ?_
    refine g_iret hx hb hr hlk hE hw hS dX5_roundedUp_15 ?_
    first | exact ⟨by unfold rupF; rw [if_pos (Int32.not_le.mp c_1), ex_10, ex_8, ex_6]; rfl, rfl⟩ | exact ⟨by unfold rupF; rw [if_neg (Int32.not_lt.mpr c_1)]; rfl, rfl⟩
  · refine lv_iload_n hx hb dX5_roundedUp_4 rfl (lv_at hl 0 rfl) ?_
    refine lv_iload_n hx hb dX5_roundedUp_5 rfl (lv_at hl 1 rfl) ?_
    refine lv_iadd hx hb dX5_roundedUp_6 ?_
    refine lv_topi (fun x_6 ex_6 => ?_)
    refine lv_iconst (v := nI 1) hx hb dX5_roundedUp_7 (by decide) ?_
    refine lv_isub hx hb dX5_roundedUp_8 ?_
    refine lv_topi (fun x_8 ex_8 => ?_)
    refine lv_iload_n hx hb dX5_roundedUp_9 rfl (lv_at hl 1 rfl) ?_
    refine lv_idiv hx hb dX5_roundedUp_10 (fun q => c_1 (by rw [q]; decide)) ?_
    refine lv_topi (fun x_10 ex_10 => ?_)
    refine lv_goto (tgt := 15) hx hb dX5_roundedUp_11 (by decide) ?_
    refine g_iret hx hb hr hlk hE hw hS dX5_roundedUp_15 ?_
    first | exact ⟨by unfold rupF; rw [if_pos (Int32.not_le.mp c_1), ex_10, ex_8, ex_6]; rfl, rfl⟩ | exact ⟨by unfold rupF; rw [if_neg (Int32.not_lt.mpr c_1)]; rfl, rfl⟩
set_option maxHeartbeats 4000000 in
set_option maxRecDepth 100000 in
/-- ZonedLight.lightOf(I)I -/
theorem c_X5_lightOf (l : Launch) (G : GG) (A : Nat → Prop) (σ : St) (g : Int32)  : MI l yX5_lightOf wsX5_lightOf 1 21 G A σ [.int g] (fun r τ => r = lightV g ∧ τ = σ) := by
  refine MI.on (by decide) rfl (Nat.le_of_ble_eq_true rfl) (fun pP eE sS mM args below meth cC ls hx hb hml hr hown hlk hts hE hw hS hl => ?_)
  have hl : lv_has ls 1 [(0, .int g)] := hl
  refine lv_sipush (v := nI 255) hx hb dX5_lightOf_0 (by decide) ?_
  refine lv_iload_n hx hb dX5_lightOf_3 rfl (lv_at hl 0 rfl) ?_
  refine lv_sipush (v := nI 256) hx hb dX5_lightOf_4 (by decide) ?_
  refine lv_idiv hx hb dX5_lightOf_7 (by decide) ?_
  refine lv_topi (fun x_7 ex_7 => ?_)
  refine g_min hx hb (hml.trans hl.1.symm) hE hown (hts (.methodLink RX5 235 Lib.Math.min.name) (by decide +kernel)) ⟨Nat.le_of_ble_eq_true rfl, Nat.le_of_ble_eq_true rfl⟩ ⟨Nat.le_of_ble_eq_true rfl, Nat.le_of_ble_eq_true rfl⟩ dX5_lightOf_8 ?_
  refine lv_topi (fun x_8 ex_8 => ?_)
  refine g_iret hx hb hr hlk hE hw hS dX5_lightOf_11 ?_
  exact ⟨by rw [ex_8, ex_7]; rfl, rfl⟩
set_option maxHeartbeats 4000000 in
set_option maxRecDepth 100000 in
/-- ZonedLight.glassFor(II)I -/
theorem c_X5_glassFor (l : Launch) (G : GG) (A : Nat → Prop) (σ : St) (x : Int32) (y : Int32)  : MI l yX5_glassFor wsX5_glassFor 1 21 G A σ [.int x, .int y] (fun r τ => r = glassF x y ∧ τ = σ) := by
  refine MI.on (by decide) rfl (Nat.le_of_ble_eq_true rfl) (fun pP eE sS mM args below meth cC ls hx hb hml hr hown hlk hts hE hw hS hl => ?_)
  have hl : lv_has ls 2 [(0, .int x), (1, .int y)] := hl
  refine lv_sipush (v := nI 255) hx hb dX5_glassFor_0 (by decide) ?_
  refine lv_iload_n hx hb dX5_glassFor_3 rfl (lv_at hl 0 rfl) ?_
  refine lv_sipush (v := nI 255) hx hb dX5_glassFor_4 (by decide) ?_
  refine lv_imul hx hb dX5_glassFor_7 ?_
  refine lv_topi (fun x_7 ex_7 => ?_)
  refine lv_iload_n hx hb dX5_glassFor_8 rfl (lv_at hl 1 rfl) ?_
  refine g_Si (n := 2) (As := [.int x_7, .int y]) (rest := [.int (nI 255)]) hx hb hml hown hts hE hw hS gX5_glassFor_X5_roundedUp (c_X5_roundedUp l G A _ x_7 y) rfl (by decide +kernel) ⟨Nat.le_of_ble_eq_true rfl, Nat.le_of_ble_eq_true rfl⟩ rfl hl.1 rfl (Nat.le_of_ble_eq_true rfl) ⟨Nat.le_of_ble_eq_true rfl, Nat.le_of_ble_eq_true rfl⟩ dX5_glassFor_9 (fun x_9 τ_9 H locs hp_9 hw hS => ?_)
  obtain ⟨ex_9, hτ_9⟩ := hp_9
  rw [hτ_9] at hw
  refine g_min hx hb (hml.trans hl.1.symm) hE hown (hts (.methodLink RX5 235 Lib.Math.min.name) (by decide +kernel)) ⟨Nat.le_of_ble_eq_true rfl, Nat.le_of_ble_eq_true rfl⟩ ⟨Nat.le_of_ble_eq_true rfl, Nat.le_of_ble_eq_true rfl⟩ dX5_glassFor_12 ?_
  refine lv_topi (fun x_12 ex_12 => ?_)
  refine g_iret hx hb hr hlk hE hw hS dX5_glassFor_15 ?_
  exact ⟨by rw [ex_12, ex_9, ex_7]; rfl, rfl⟩
set_option maxHeartbeats 4000000 in
set_option maxRecDepth 100000 in
/-- ZonedLight.verdict(II)I -/
theorem c_X5_verdict (l : Launch) (G : GG) (A : Nat → Prop) (σ : St) (x : Int32) (y : Int32)  : MI l yX5_verdict wsX5_verdict 0 0 G A σ [.int x, .int y] (fun r τ => r = verdF x y ∧ τ = σ) := by
  refine MI.on (by decide) rfl (Nat.le_of_ble_eq_true rfl) (fun pP eE sS mM args below meth cC ls hx hb hml hr hown hlk hts hE hw hS hl => ?_)
  have hl : lv_has ls 2 [(0, .int x), (1, .int y)] := hl
  refine lv_iload_n hx hb dX5_verdict_0 rfl (lv_at hl 1 rfl) ?_
  refine lv_iload_n hx hb dX5_verdict_1 rfl (lv_at hl 0 rfl) ?_
  refine lv_icmp_ne (tgt := 7) hx hb dX5_verdict_2 (by decide) (fun c_2 => ?_) (fun c_2 => ?_)
  · refine lv_iload_n hx hb dX5_verdict_7 rfl (lv_at hl 1 rfl) ?_
    refine lv_iload_n hx hb dX5_verdict_8 rfl (lv_at hl 0 rfl) ?_
    refine lv_icmp_ge (tgt := 16) hx hb dX5_verdict_9 (by decide) (fun c_9 => ?_) (fun c_9 => ?_)
    · refine lv_iconst (v := nI 2) hx hb dX5_verdict_16 (by decide) ?_
      refine g_iret hx hb hr hlk hE hw hS dX5_verdict_17 ?_
      first | exact ⟨by unfold verdF; rw [if_pos (Decidable.not_not.mp c_2)]; rfl, rfl⟩ | exact ⟨by unfold verdF; rw [if_pos c_2]; rfl, rfl⟩ | exact ⟨by unfold verdF; rw [if_neg c_2, if_pos (Int32.not_le.mp c_9)]; rfl, rfl⟩ | exact ⟨by unfold verdF; rw [if_neg c_2, if_neg (Int32.not_lt.mpr c_9)]; rfl, rfl⟩ | exact ⟨by unfold verdF; rw [if_neg c_2, if_pos c_9]; rfl, rfl⟩ | exact ⟨by unfold verdF; rw [if_neg c_2, if_neg c_9]; rfl, rfl⟩
    · refine lv_iconst (v := nI 1) hx hb dX5_verdict_12 (by decide) ?_
      refine lv_goto (tgt := 17) hx hb dX5_verdict_13 (by decide) ?_
      refine g_iret hx hb hr hlk hE hw hS dX5_verdict_17 ?_
      first | exact ⟨by unfold verdF; rw [if_pos (Decidable.not_not.mp c_2)]; rfl, rfl⟩ | exact ⟨by unfold verdF; rw [if_pos c_2]; rfl, rfl⟩ | exact ⟨by unfold verdF; rw [if_neg c_2, if_pos (Int32.not_le.mp c_9)]; rfl, rfl⟩ | exact ⟨by unfold verdF; rw [if_neg c_2, if_neg (Int32.not_lt.mpr c_9)]; rfl, rfl⟩ | exact ⟨by unfold verdF; rw [if_neg c_2, if_pos c_9]; rfl, rfl⟩ | exact ⟨by unfold verdF; rw [if_neg c_2, if_neg c_9]; rfl, rfl⟩
  · refine lv_iconst (v := nI 0) hx hb dX5_verdict_5 (by decide) ?_
    refine g_iret hx hb hr hlk hE hw hS dX5_verdict_6 ?_
    first | exact ⟨by unfold verdF; rw [if_pos (Decidable.not_not.mp c_2)]; rfl, rfl⟩ | exact ⟨by unfold verdF; rw [if_pos c_2]; rfl, rfl⟩ | exact ⟨by unfold verdF; rw [if_neg c_2, if_pos (Int32.not_le.mp c_9)]; rfl, rfl⟩ | exact ⟨by unfold verdF; rw [if_neg c_2, if_neg (Int32.not_lt.mpr c_9)]; rfl, rfl⟩ | exact ⟨by unfold verdF; rw [if_neg c_2, if_pos c_9]; rfl, rfl⟩ | exact ⟨by unfold verdF; rw [if_neg c_2, if_neg c_9]; rfl, rfl⟩
