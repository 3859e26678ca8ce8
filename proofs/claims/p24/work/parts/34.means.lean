/-! CONTRACTS, laid by program -/
set_option maxHeartbeats 4000000 in
set_option maxRecDepth 100000 in
/-- ZonedLight.meanShown()D -/
theorem c_X5_meanShown (l : Launch) (G : GG) (A : Nat → Prop) (σ : St)   : MDb l yX5_meanShown wsX5_meanShown 6 137 G A σ [.ref (G.1 5 0)] (fun r τ => r = meanD (tAll (scr σ 0) (levO (scr σ 0)) 18 4) ∧ keepC σ τ) := by
  refine MDb.on (by decide) rfl (Nat.le_of_ble_eq_true rfl) (fun pP eE sS mM args below meth cC ls hx hb hml hr hown hlk hts hE hw hS hl => ?_)
  have hl : lv_has ls 1 [(0, .ref (G.1 5 0))] := hl
  refine lv_aload_n hx hb dX5_meanShown_0 rfl (lv_at hl 0 rfl) ?_
  refine gf_X5_tally hx hb hE hw (Nat.zero_lt_one) hown (hts (.fieldLink RX5 50 "ZonedLight" "tally" "LZonedLight$Tally;") (by decide +kernel)) dX5_meanShown_1 ?_
  refine lv_aload_n hx hb dX5_meanShown_4 rfl (lv_at hl 0 rfl) ?_
  refine gf_X5_now hx hb hE hw (Nat.zero_lt_one) hown (hts (.fieldLink RX5 12 "ZonedLight" "now" "LZonedLight$Screen;") (by decide +kernel)) dX5_meanShown_5 ?_
  refine g_Vv (n := 1) (As := [.ref (G.1 0 0)]) (rest := []) hx hb hml hown hts hE hw hS gX5_meanShown_X4_takeAll (c_X4_takeAll l G A _ 0 (by omega)) rfl (by decide +kernel) ⟨Nat.le_of_ble_eq_true rfl, Nat.le_of_ble_eq_true rfl⟩ (Nat.zero_lt_one) rfl rfl rfl rfl hl.1 rfl (Nat.le_of_ble_eq_true rfl) ⟨Nat.le_of_ble_eq_true rfl, Nat.le_of_ble_eq_true rfl⟩ dX5_meanShown_8 (fun τ_8 H locs hp_8 hw hS => ?_)
  refine lv_aload_n hx hb dX5_meanShown_11 rfl (lv_at hl 0 rfl) ?_
  refine gf_X5_tally hx hb hE hw (Nat.zero_lt_one) hown (hts (.fieldLink RX5 50 "ZonedLight" "tally" "LZonedLight$Tally;") (by decide +kernel)) dX5_meanShown_12 ?_
  refine gf_X4_shown hx hb hE hw (Nat.zero_lt_one) hown (hts (.fieldLink RX5 205 "ZonedLight$Tally" "shown" "I") (by decide +kernel)) dX5_meanShown_15 ?_
  refine lv_topi (fun x_15 ex_15 => ?_)
  refine lv_i2d hx hb dX5_meanShown_18 ?_
  refine lv_ldc2d hx hb hown (hts (.constantDouble RX5 207 c288) (by decide +kernel)) dX5_meanShown_19 ?_
  refine lv_ddiv hx hb dX5_meanShown_22 (mean_num _) ?_
  refine g_dret hx hb hr hlk hE hw hS dX5_meanShown_23 ?_
  exact ⟨by rw [ex_15, hp_8, ur_same]; rfl, tal_keep hp_8⟩
