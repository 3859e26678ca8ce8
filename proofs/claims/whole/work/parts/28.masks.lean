/-! CONTRACTS, laid by program -/
set_option maxHeartbeats 4000000 in
set_option maxRecDepth 100000 in
/-- ZonedLightModel.spot(III)I -/
theorem c_X6_spot (l : Launch) (G : GG) (A : Nat → Prop) (σ : St) (x : Int32) (y : Int32) (w : Int32) (hok : okA (σ 17 0)) : MI l yX6_spot wsX6_spot 3 67 G A σ [.ref (G.1 16 0), .int x, .int y, .int w] (fun r τ => r = spotQ (σ 17 0) x y w ∧ τ = σ) := by
  refine MI.on (by decide) rfl (Nat.le_of_ble_eq_true rfl) (fun pP eE sS mM args below meth cC ls hx hb hml hr hown hlk hts hE hw hS hl => ?_)
  have hl : lv_has ls 7 [(0, .ref (G.1 16 0)), (1, .int x), (2, .int y), (3, .int w)] := hl
  refine lv_iload_n hx hb dX6_spot_0 rfl (lv_at hl 1 rfl) ?_
  refine lv_iload_n hx hb dX6_spot_1 rfl (lv_at hl 2 rfl) ?_
  refine g_Si (n := 2) (As := [.int x, .int y]) (rest := []) hx hb hml hown hts hE hw hS gX6_spot_X6_isSpot (c_X6_isSpot l G A _ x y) rfl (by decide +kernel) ⟨Nat.le_of_ble_eq_true rfl, Nat.le_of_ble_eq_true rfl⟩ rfl hl.1 rfl (Nat.le_of_ble_eq_true rfl) ⟨Nat.le_of_ble_eq_true rfl, Nat.le_of_ble_eq_true rfl⟩ dX6_spot_2 (fun x_2 τ_2 H locs hp_2 hw hS => ?_)
  obtain ⟨hb_2, hτ_2⟩ := hp_2
  rw [hτ_2] at hw
  refine lv_if_ne (tgt := 10) hx hb dX6_spot_5 (by decide) (fun c_5 => ?_) (fun c_5 => ?_)
  · have honp := bP_t hb_2 c_5
    obtain ⟨⟨X, hX, rfl⟩, ⟨Y, hY, rfl⟩⟩ := honp
    refine lv_aload_n hx hb dX6_spot_10 rfl (lv_at hl 0 rfl) ?_
    refine gf_X6_all hx hb hE hw (Nat.zero_lt_one) hown (hts (.fieldLink RX6 7 "ZonedLightModel" "all" "[I") (by decide +kernel)) dX6_spot_11 ?_
    refine lv_bipush (v := nI 24) hx hb dX6_spot_14 (by decide) ?_
    refine lv_iload_n hx hb dX6_spot_16 rfl (lv_at hl 2 rfl) ?_
    refine n_imul hx hb dX6_spot_17 ?_
    refine lv_iload_n hx hb dX6_spot_18 rfl (lv_at hl 1 rfl) ?_
    refine n_iadd hx hb dX6_spot_19 ?_
    refine g_ald hx hb hE hw (n := 335) (Nat.zero_lt_one) rfl (by decide) (by omega) dX6_spot_20 ?_
    refine lv_topi (fun x_20 ex_20 => ?_)
    have e20 : σ 17 0 (Y * 24 + X) = x_20 := by rw [ex_20, show 24 * Y + X = Y * 24 + X by omega]
    refine lv_istore (lv' := [(4, .int x_20), (0, .ref (G.1 16 0)), (1, .int (nI X)), (2, .int (nI Y)), (3, .int w)]) hx hb dX6_spot_21 hl (by decide) rfl (fun ls hl => ?_)
    refine lv_aload_n hx hb dX6_spot_23 rfl (lv_at hl 1 rfl) ?_
    refine lv_bipush (v := nI 24) hx hb dX6_spot_24 (by decide) ?_
    refine lv_iload_n hx hb dX6_spot_26 rfl (lv_at hl 3 rfl) ?_
    refine n_imul hx hb dX6_spot_27 ?_
    refine lv_iload_n hx hb dX6_spot_28 rfl (lv_at hl 2 rfl) ?_
    refine n_iadd hx hb dX6_spot_29 ?_
    refine g_Si (n := 1) (As := [.int (nI ((24 * Y) + X))]) (rest := [.ref (G.1 16 0)]) hx hb hml hown hts hE hw hS gX6_spot_X6_zoneOf (c_X6_zoneOf l G A _ ((24 * Y) + X) (by omega)) rfl (by decide +kernel) ⟨Nat.le_of_ble_eq_true rfl, Nat.le_of_ble_eq_true rfl⟩ rfl hl.1 rfl (Nat.le_of_ble_eq_true rfl) ⟨Nat.le_of_ble_eq_true rfl, Nat.le_of_ble_eq_true rfl⟩ dX6_spot_30 (fun r_30 τ_30 H locs hp_30 hw hS => ?_)
    obtain ⟨rfl, hτ_30⟩ := hp_30
    rw [hτ_30] at hw
    refine lv_iconst (v := nI 0) hx hb dX6_spot_33 (by decide) ?_
    refine g_Vi (n := 2) (As := [.int (nI (((24 * Y) + X) / 24 / 4 * 6 + ((24 * Y) + X) % 24 / 4)), .int (nI 0)]) (rest := []) hx hb hml hown hts hE hw hS gX6_spot_X6_light (c_X6_light l G A _ (((24 * Y) + X) / 24 / 4 * 6 + ((24 * Y) + X) % 24 / 4) (by omega)) rfl (by decide +kernel) ⟨Nat.le_of_ble_eq_true rfl, Nat.le_of_ble_eq_true rfl⟩ (Nat.zero_lt_one) rfl rfl rfl rfl hl.1 rfl (Nat.le_of_ble_eq_true rfl) ⟨Nat.le_of_ble_eq_true rfl, Nat.le_of_ble_eq_true rfl⟩ dX6_spot_34 (fun x_34 τ_34 H locs hp_34 hw hS => ?_)
    obtain ⟨ex_34, hτ_34⟩ := hp_34
    rw [hτ_34] at hw
    have e34 : lightF (σ 17 0) (levO (σ 17 0)) (6 * (Y / 4) + X / 4) = x_34 := by rw [ex_34, zone_of hX hY]
    have hpos : 0 ≤ x_34 := by
      obtain ⟨q, hq, eq_⟩ := okW_light18 (z := 6 * (Y / 4) + X / 4) hok.1 (w := levO (σ 17 0)) hok.2.1 (by omega)
      rw [← e34, eq_]
      exact nI_pos' (by omega)
    have hq : ∀ w2, spotQ (σ 17 0) (nI X) (nI Y) w2 = spotV (σ 17 0) x_20 x_34 w2 := fun w2 => by rw [spotQ_nI hX hY, e20, e34]
    refine lv_istore (lv' := [(5, .int x_34), (4, .int x_20), (0, .ref (G.1 16 0)), (1, .int (nI X)), (2, .int (nI Y)), (3, .int w)]) hx hb dX6_spot_37 hl (by decide) rfl (fun ls hl => ?_)
    refine lv_aload_n hx hb dX6_spot_39 rfl (lv_at hl 2 rfl) ?_
    refine lv_iload hx hb dX6_spot_40 (lv_at hl 1 rfl) ?_
    refine lv_iload hx hb dX6_spot_42 (lv_at hl 0 rfl) ?_
    refine g_Vi (n := 2) (As := [.int x_20, .int x_34]) (rest := []) hx hb hml hown hts hE hw hS gX6_spot_X6_shown (c_X6_shown l G A _ x_20 x_34 hpos) rfl (by decide +kernel) ⟨Nat.le_of_ble_eq_true rfl, Nat.le_of_ble_eq_true rfl⟩ (Nat.zero_lt_one) rfl rfl rfl rfl hl.1 rfl (Nat.le_of_ble_eq_true rfl) ⟨Nat.le_of_ble_eq_true rfl, Nat.le_of_ble_eq_true rfl⟩ dX6_spot_44 (fun x_44 τ_44 H locs hp_44 hw hS => ?_)
    obtain ⟨ex_44, hτ_44⟩ := hp_44
    rw [hτ_44] at hw
    refine lv_istore (lv' := [(6, .int x_44), (5, .int x_34), (4, .int x_20), (0, .ref (G.1 16 0)), (1, .int (nI X)), (2, .int (nI Y)), (3, .int w)]) hx hb dX6_spot_47 hl (by decide) rfl (fun ls hl => ?_)
    refine lv_iload_n hx hb dX6_spot_49 rfl (lv_at hl 6 rfl) ?_
    by_cases k_50_0 : w = 0
    · refine lv_tableIn (tgt := 84) hx hb dX6_spot_50 (by rw [k_50_0]; decide) (by rw [k_50_0]; decide) (off := 34) (by rw [k_50_0]; decide +kernel) (by decide) ?_
      refine lv_iload hx hb dX6_spot_84 (lv_at hl 2 rfl) ?_
      refine g_iret hx hb hr hlk hE hw hS dX6_spot_86 ?_
      exact ⟨by rw [hq, k_50_0, spotV, if_neg (by decide), if_pos rfl], rfl⟩
    by_cases k_50_1 : w = 1
    · refine lv_tableIn (tgt := 87) hx hb dX6_spot_50 (by rw [k_50_1]; decide) (by rw [k_50_1]; decide) (off := 37) (by rw [k_50_1]; decide +kernel) (by decide) ?_
      refine lv_iload hx hb dX6_spot_87 (lv_at hl 1 rfl) ?_
      refine g_iret hx hb hr hlk hE hw hS dX6_spot_89 ?_
      exact ⟨by rw [hq, k_50_1, spotV, if_neg (by decide), if_neg (by decide), if_pos rfl], rfl⟩
    by_cases k_50_2 : w = 2
    · refine lv_tableIn (tgt := 90) hx hb dX6_spot_50 (by rw [k_50_2]; decide) (by rw [k_50_2]; decide) (off := 40) (by rw [k_50_2]; decide +kernel) (by decide) ?_
      refine lv_iload hx hb dX6_spot_90 (lv_at hl 2 rfl) ?_
      refine lv_iload hx hb dX6_spot_92 (lv_at hl 1 rfl) ?_
      refine g_Si (n := 2) (As := [.int x_20, .int x_34]) (rest := []) hx hb hml hown hts hE hw hS gX6_spot_X6_glass (c_X6_glass l G A _ x_20 x_34 hpos) rfl (by decide +kernel) ⟨Nat.le_of_ble_eq_true rfl, Nat.le_of_ble_eq_true rfl⟩ rfl hl.1 rfl (Nat.le_of_ble_eq_true rfl) ⟨Nat.le_of_ble_eq_true rfl, Nat.le_of_ble_eq_true rfl⟩ dX6_spot_94 (fun x_94 τ_94 H locs hp_94 hw hS => ?_)
      obtain ⟨ex_94, hτ_94⟩ := hp_94
      rw [hτ_94] at hw
      refine g_iret hx hb hr hlk hE hw hS dX6_spot_97 ?_
      exact ⟨by rw [hq, k_50_2, spotV, if_neg (by decide), if_neg (by decide), if_neg (by decide), if_pos rfl, ex_94], rfl⟩
    by_cases k_50_3 : w = 3
    · refine lv_tableIn (tgt := 98) hx hb dX6_spot_50 (by rw [k_50_3]; decide) (by rw [k_50_3]; decide) (off := 48) (by rw [k_50_3]; decide +kernel) (by decide) ?_
      refine lv_iload hx hb dX6_spot_98 (lv_at hl 0 rfl) ?_
      refine g_iret hx hb hr hlk hE hw hS dX6_spot_100 ?_
      exact ⟨by rw [hq, k_50_3, spotV, if_neg (by decide), if_neg (by decide), if_neg (by decide), if_neg (by decide), if_pos rfl, ex_44], rfl⟩
    by_cases k_50_4 : w = 4
    · refine lv_tableIn (tgt := 101) hx hb dX6_spot_50 (by rw [k_50_4]; decide) (by rw [k_50_4]; decide) (off := 51) (by rw [k_50_4]; decide +kernel) (by decide) ?_
      refine lv_iload hx hb dX6_spot_101 (lv_at hl 0 rfl) ?_
      refine lv_iload hx hb dX6_spot_103 (lv_at hl 2 rfl) ?_
      refine lv_icmp_ne (tgt := 112) hx hb dX6_spot_105 (by decide) (fun c_105 => ?_) (fun c_105 => ?_)
      · refine lv_iload hx hb dX6_spot_112 (lv_at hl 0 rfl) ?_
        refine lv_iload hx hb dX6_spot_114 (lv_at hl 2 rfl) ?_
        refine lv_icmp_ge (tgt := 123) hx hb dX6_spot_116 (by decide) (fun c_116 => ?_) (fun c_116 => ?_)
        · refine lv_iconst (v := nI 2) hx hb dX6_spot_123 (by decide) ?_
          refine g_iret hx hb hr hlk hE hw hS dX6_spot_124 ?_
          refine ⟨?_, rfl⟩
          rw [hq, k_50_4, spotV, if_neg (by decide), if_neg (by decide), if_neg (by decide), if_neg (by decide), if_neg (by decide), ← ex_44, verdF]
          first | (rw [if_pos c_105]; rfl) | (rw [if_neg c_105, if_pos (Int32.not_le.mp c_116)]; rfl) | (rw [if_neg c_105, if_neg (Int32.not_lt.mpr c_116)]; rfl)
        · refine lv_iconst (v := nI 1) hx hb dX6_spot_119 (by decide) ?_
          refine lv_goto (tgt := 124) hx hb dX6_spot_120 (by decide) ?_
          refine g_iret hx hb hr hlk hE hw hS dX6_spot_124 ?_
          refine ⟨?_, rfl⟩
          rw [hq, k_50_4, spotV, if_neg (by decide), if_neg (by decide), if_neg (by decide), if_neg (by decide), if_neg (by decide), ← ex_44, verdF]
          first | (rw [if_pos c_105]; rfl) | (rw [if_neg c_105, if_pos (Int32.not_le.mp c_116)]; rfl) | (rw [if_neg c_105, if_neg (Int32.not_lt.mpr c_116)]; rfl)
      · refine lv_iconst (v := nI 0) hx hb dX6_spot_108 (by decide) ?_
        refine lv_goto (tgt := 124) hx hb dX6_spot_109 (by decide) ?_
        refine g_iret hx hb hr hlk hE hw hS dX6_spot_124 ?_
        refine ⟨?_, rfl⟩
        rw [hq, k_50_4, spotV, if_neg (by decide), if_neg (by decide), if_neg (by decide), if_neg (by decide), if_neg (by decide), ← ex_44, verdF]
        first | (rw [if_pos c_105]; rfl) | (rw [if_neg c_105, if_pos (Int32.not_le.mp c_116)]; rfl) | (rw [if_neg c_105, if_neg (Int32.not_lt.mpr c_116)]; rfl)
    refine lv_tableOut (tgt := 125) hx hb dX6_spot_50 (by have t0 := tw_ne (k := 0) (0) (by decide) k_50_0; have t1 := tw_ne (k := 1) (1) (by decide) k_50_1; have t2 := tw_ne (k := 2) (2) (by decide) k_50_2; have t3 := tw_ne (k := 3) (3) (by decide) k_50_3; have t4 := tw_ne (k := 4) (4) (by decide) k_50_4; omega) (by decide) ?_
    refine lv_bipush (v := (-2)) hx hb dX6_spot_125 (by decide) ?_
    refine g_iret hx hb hr hlk hE hw hS dX6_spot_127 ?_
    exact ⟨by rw [hq, spotV, if_pos (spot_out k_50_0 k_50_1 k_50_2 k_50_3 k_50_4)], rfl⟩
  · refine lv_iconst (v := (-1)) hx hb dX6_spot_8 (by decide) ?_
    refine g_iret hx hb hr hlk hE hw hS dX6_spot_9 ?_
    exact ⟨(spotQ_off (bP_f hb_2 c_5)).symm, rfl⟩
set_option maxHeartbeats 4000000 in
set_option maxRecDepth 100000 in
/-- ZonedLightModel.zone(II)I -/
theorem c_X6_zone (l : Launch) (G : GG) (A : Nat → Prop) (σ : St) (z : Int32) (w : Int32) (hok : okA (σ 17 0)) : MI l yX6_zone wsX6_zone 7 156 G A σ [.ref (G.1 16 0), .int z, .int w] (fun r τ => r = zoneQ (σ 17 0) z w ∧ keepM σ τ) := by
  refine MI.on (by decide) rfl (Nat.le_of_ble_eq_true rfl) (fun pP eE sS mM args below meth cC ls hx hb hml hr hown hlk hts hE hw hS hl => ?_)
  have hl : lv_has ls 3 [(0, .ref (G.1 16 0)), (1, .int z), (2, .int w)] := hl
  refine lv_iload_n hx hb dX6_zone_0 rfl (lv_at hl 1 rfl) ?_
  refine g_Si (n := 1) (As := [.int z]) (rest := []) hx hb hml hown hts hE hw hS gX6_zone_X6_isZone (c_X6_isZone l G A _ z) rfl (by decide +kernel) ⟨Nat.le_of_ble_eq_true rfl, Nat.le_of_ble_eq_true rfl⟩ rfl hl.1 rfl (Nat.le_of_ble_eq_true rfl) ⟨Nat.le_of_ble_eq_true rfl, Nat.le_of_ble_eq_true rfl⟩ dX6_zone_1 (fun x_1 τ_1 H locs hp_1 hw hS => ?_)
  obtain ⟨hb_1, hτ_1⟩ := hp_1
  rw [hτ_1] at hw
  refine lv_if_ne (tgt := 9) hx hb dX6_zone_4 (by decide) (fun c_4 => ?_) (fun c_4 => ?_)
  · obtain ⟨k, hk, rfl⟩ := bP_t hb_1 c_4
    refine lv_iload_n hx hb dX6_zone_9 rfl (lv_at hl 2 rfl) ?_
    by_cases k_10_0 : w = 0
    · refine lv_tableIn (tgt := 60) hx hb dX6_zone_10 (by rw [k_10_0]; decide) (by rw [k_10_0]; decide) (off := 50) (by rw [k_10_0]; decide +kernel) (by decide) ?_
      refine lv_aload_n hx hb dX6_zone_60 rfl (lv_at hl 0 rfl) ?_
      refine gf_X6_all hx hb hE hw (Nat.zero_lt_one) hown (hts (.fieldLink RX6 7 "ZonedLightModel" "all" "[I") (by decide +kernel)) dX6_zone_61 ?_
      refine lv_sipush (v := nI 288) hx hb dX6_zone_64 (by decide) ?_
      refine lv_iload_n hx hb dX6_zone_67 rfl (lv_at hl 1 rfl) ?_
      refine n_iadd hx hb dX6_zone_68 ?_
      refine g_ald hx hb hE hw (n := 335) (Nat.zero_lt_one) rfl (by decide) (by omega) dX6_zone_69 ?_
      refine lv_topi (fun x_69 ex_69 => ?_)
      refine g_iret hx hb hr hlk hE hw hS dX6_zone_70 ?_
      exact ⟨by rw [zoneQ_nI hk, zoneV, if_pos k_10_0, ex_69], sameM.rf⟩
    by_cases k_10_1 : w = 1
    · refine lv_tableIn (tgt := 71) hx hb dX6_zone_10 (by rw [k_10_1]; decide) (by rw [k_10_1]; decide) (off := 61) (by rw [k_10_1]; decide +kernel) (by decide) ?_
      refine lv_aload_n hx hb dX6_zone_71 rfl (lv_at hl 0 rfl) ?_
      refine lv_iload_n hx hb dX6_zone_72 rfl (lv_at hl 1 rfl) ?_
      refine g_Vi (n := 1) (As := [.int (nI k)]) (rest := []) hx hb hml hown hts hE hw hS gX6_zone_X6_wantedFor (c_X6_wantedFor l G A _ k (by omega) hok.1) rfl (by decide +kernel) ⟨Nat.le_of_ble_eq_true rfl, Nat.le_of_ble_eq_true rfl⟩ (Nat.zero_lt_one) rfl rfl rfl rfl hl.1 rfl (Nat.le_of_ble_eq_true rfl) ⟨Nat.le_of_ble_eq_true rfl, Nat.le_of_ble_eq_true rfl⟩ dX6_zone_73 (fun x_73 τ_73 H locs hp_73 hw hS => ?_)
      refine g_iret hx hb hr hlk hE hw hS dX6_zone_76 ?_
      exact ⟨by rw [zoneQ_nI hk, zoneV, if_neg k_10_0, if_pos k_10_1, hp_73.1], by rw [hp_73.2]; exact sameM.rf.w1 (Or.inl (Or.inl rfl)) (by decide)⟩
    by_cases k_10_2 : w = 2
    · refine lv_tableIn (tgt := 77) hx hb dX6_zone_10 (by rw [k_10_2]; decide) (by rw [k_10_2]; decide) (off := 67) (by rw [k_10_2]; decide +kernel) (by decide) ?_
      refine lv_aload_n hx hb dX6_zone_77 rfl (lv_at hl 0 rfl) ?_
      refine lv_iload_n hx hb dX6_zone_78 rfl (lv_at hl 1 rfl) ?_
      refine lv_iconst (v := nI 0) hx hb dX6_zone_79 (by decide) ?_
      refine g_Vi (n := 2) (As := [.int (nI k), .int (nI 0)]) (rest := []) hx hb hml hown hts hE hw hS gX6_zone_X6_light (c_X6_light l G A _ k (by omega)) rfl (by decide +kernel) ⟨Nat.le_of_ble_eq_true rfl, Nat.le_of_ble_eq_true rfl⟩ (Nat.zero_lt_one) rfl rfl rfl rfl hl.1 rfl (Nat.le_of_ble_eq_true rfl) ⟨Nat.le_of_ble_eq_true rfl, Nat.le_of_ble_eq_true rfl⟩ dX6_zone_80 (fun x_80 τ_80 H locs hp_80 hw hS => ?_)
      obtain ⟨ex_80, hτ_80⟩ := hp_80
      rw [hτ_80] at hw
      refine g_iret hx hb hr hlk hE hw hS dX6_zone_83 ?_
      exact ⟨by rw [zoneQ_nI hk, zoneV, if_neg k_10_0, if_neg k_10_1, if_pos k_10_2, ex_80], sameM.rf⟩
    by_cases k_10_3 : w = 3
    · refine lv_tableIn (tgt := 84) hx hb dX6_zone_10 (by rw [k_10_3]; decide) (by rw [k_10_3]; decide) (off := 74) (by rw [k_10_3]; decide +kernel) (by decide) ?_
      refine lv_aload_n hx hb dX6_zone_84 rfl (lv_at hl 0 rfl) ?_
      refine gf_X6_all hx hb hE hw (Nat.zero_lt_one) hown (hts (.fieldLink RX6 7 "ZonedLightModel" "all" "[I") (by decide +kernel)) dX6_zone_85 ?_
      refine lv_sipush (v := nI 306) hx hb dX6_zone_88 (by decide) ?_
      refine lv_iload_n hx hb dX6_zone_91 rfl (lv_at hl 1 rfl) ?_
      refine n_iadd hx hb dX6_zone_92 ?_
      refine g_ald hx hb hE hw (n := 335) (Nat.zero_lt_one) rfl (by decide) (by omega) dX6_zone_93 ?_
      refine lv_topi (fun x_93 ex_93 => ?_)
      refine g_iret hx hb hr hlk hE hw hS dX6_zone_94 ?_
      exact ⟨by rw [zoneQ_nI hk, zoneV, if_neg k_10_0, if_neg k_10_1, if_neg k_10_2, if_pos k_10_3, ex_93], sameM.rf⟩
    by_cases k_10_4 : w = 4
    · refine lv_tableIn (tgt := 95) hx hb dX6_zone_10 (by rw [k_10_4]; decide) (by rw [k_10_4]; decide) (off := 85) (by rw [k_10_4]; decide +kernel) (by decide) ?_
      refine lv_aload_n hx hb dX6_zone_95 rfl (lv_at hl 0 rfl) ?_
      refine lv_iload_n hx hb dX6_zone_96 rfl (lv_at hl 1 rfl) ?_
      refine g_Vi (n := 1) (As := [.int (nI k)]) (rest := []) hx hb hml hown hts hE hw hS gX6_zone_X6_greatestIn (c_X6_greatestIn l G A _ k (by omega)) rfl (by decide +kernel) ⟨Nat.le_of_ble_eq_true rfl, Nat.le_of_ble_eq_true rfl⟩ (Nat.zero_lt_one) rfl rfl rfl rfl hl.1 rfl (Nat.le_of_ble_eq_true rfl) ⟨Nat.le_of_ble_eq_true rfl, Nat.le_of_ble_eq_true rfl⟩ dX6_zone_97 (fun x_97 τ_97 H locs hp_97 hw hS => ?_)
      obtain ⟨ex_97, hτ_97⟩ := hp_97
      rw [hτ_97] at hw
      refine g_iret hx hb hr hlk hE hw hS dX6_zone_100 ?_
      exact ⟨by rw [zoneQ_nI hk, zoneV, if_neg k_10_0, if_neg k_10_1, if_neg k_10_2, if_neg k_10_3, if_pos k_10_4, ex_97], sameM.rf⟩
    by_cases k_10_5 : w = 5
    · refine lv_tableIn (tgt := 101) hx hb dX6_zone_10 (by rw [k_10_5]; decide) (by rw [k_10_5]; decide) (off := 91) (by rw [k_10_5]; decide +kernel) (by decide) ?_
      refine lv_aload_n hx hb dX6_zone_101 rfl (lv_at hl 0 rfl) ?_
      refine lv_iload_n hx hb dX6_zone_102 rfl (lv_at hl 1 rfl) ?_
      refine g_Vi (n := 1) (As := [.int (nI k)]) (rest := []) hx hb hml hown hts hE hw hS gX6_zone_X6_meanIn (c_X6_meanIn l G A _ k (by omega)) rfl (by decide +kernel) ⟨Nat.le_of_ble_eq_true rfl, Nat.le_of_ble_eq_true rfl⟩ (Nat.zero_lt_one) rfl rfl rfl rfl hl.1 rfl (Nat.le_of_ble_eq_true rfl) ⟨Nat.le_of_ble_eq_true rfl, Nat.le_of_ble_eq_true rfl⟩ dX6_zone_103 (fun x_103 τ_103 H locs hp_103 hw hS => ?_)
      obtain ⟨ex_103, hτ_103⟩ := hp_103
      rw [hτ_103] at hw
      refine g_iret hx hb hr hlk hE hw hS dX6_zone_106 ?_
      exact ⟨by rw [zoneQ_nI hk, zoneV, if_neg k_10_0, if_neg k_10_1, if_neg k_10_2, if_neg k_10_3, if_neg k_10_4, if_pos k_10_5, ex_103], sameM.rf⟩
    by_cases k_10_6 : w = 6
    · refine lv_tableIn (tgt := 107) hx hb dX6_zone_10 (by rw [k_10_6]; decide) (by rw [k_10_6]; decide) (off := 97) (by rw [k_10_6]; decide +kernel) (by decide) ?_
      refine lv_aload_n hx hb dX6_zone_107 rfl (lv_at hl 0 rfl) ?_
      refine lv_aload_n hx hb dX6_zone_108 rfl (lv_at hl 0 rfl) ?_
      refine lv_iload_n hx hb dX6_zone_109 rfl (lv_at hl 1 rfl) ?_
      refine lv_iconst (v := nI 0) hx hb dX6_zone_110 (by decide) ?_
      refine g_Vi (n := 2) (As := [.int (nI k), .int (nI 0)]) (rest := [.ref (G.1 16 0)]) hx hb hml hown hts hE hw hS gX6_zone_X6_light (c_X6_light l G A _ k (by omega)) rfl (by decide +kernel) ⟨Nat.le_of_ble_eq_true rfl, Nat.le_of_ble_eq_true rfl⟩ (Nat.zero_lt_one) rfl rfl rfl rfl hl.1 rfl (Nat.le_of_ble_eq_true rfl) ⟨Nat.le_of_ble_eq_true rfl, Nat.le_of_ble_eq_true rfl⟩ dX6_zone_111 (fun x_111 τ_111 H locs hp_111 hw hS => ?_)
      obtain ⟨ex_111, hτ_111⟩ := hp_111
      rw [hτ_111] at hw
      refine g_Vi (n := 1) (As := [.int x_111]) (rest := []) hx hb hml hown hts hE hw hS gX6_zone_X6_leakOf (c_X6_leakOf l G A _ x_111) rfl (by decide +kernel) ⟨Nat.le_of_ble_eq_true rfl, Nat.le_of_ble_eq_true rfl⟩ (Nat.zero_lt_one) rfl rfl rfl rfl hl.1 rfl (Nat.le_of_ble_eq_true rfl) ⟨Nat.le_of_ble_eq_true rfl, Nat.le_of_ble_eq_true rfl⟩ dX6_zone_114 (fun x_114 τ_114 H locs hp_114 hw hS => ?_)
      obtain ⟨ex_114, hτ_114⟩ := hp_114
      rw [hτ_114] at hw
      refine g_iret hx hb hr hlk hE hw hS dX6_zone_117 ?_
      exact ⟨by rw [zoneQ_nI hk, zoneV, if_neg k_10_0, if_neg k_10_1, if_neg k_10_2, if_neg k_10_3, if_neg k_10_4, if_neg k_10_5, if_pos k_10_6, ex_114, ex_111], sameM.rf⟩
    by_cases k_10_7 : w = 7
    · refine lv_tableIn (tgt := 118) hx hb dX6_zone_10 (by rw [k_10_7]; decide) (by rw [k_10_7]; decide) (off := 108) (by rw [k_10_7]; decide +kernel) (by decide) ?_
      refine lv_aload_n hx hb dX6_zone_118 rfl (lv_at hl 0 rfl) ?_
      refine lv_iload_n hx hb dX6_zone_119 rfl (lv_at hl 1 rfl) ?_
      refine lv_iload_n hx hb dX6_zone_120 rfl (lv_at hl 2 rfl) ?_
      refine lv_bipush (v := nI 6) hx hb dX6_zone_121 (by decide) ?_
      refine lv_isub hx hb dX6_zone_123 ?_
      refine lv_topi (fun x_123 ex_123 => ?_)
      refine lv_iconst (v := nI 0) hx hb dX6_zone_124 (by decide) ?_
      refine g_Vi (n := 3) (As := [.int (nI k), .int x_123, .int (nI 0)]) (rest := []) hx hb hml hown hts hE hw hS gX6_zone_X6_over (c_X6_overZ l G A _ k x_123 (by omega) hok.1 hok.2.1) rfl (by decide +kernel) ⟨Nat.le_of_ble_eq_true rfl, Nat.le_of_ble_eq_true rfl⟩ (Nat.zero_lt_one) rfl rfl rfl rfl hl.1 rfl (Nat.le_of_ble_eq_true rfl) ⟨Nat.le_of_ble_eq_true rfl, Nat.le_of_ble_eq_true rfl⟩ dX6_zone_125 (fun x_125 τ_125 H locs hp_125 hw hS => ?_)
      obtain ⟨ex_125, hτ_125⟩ := hp_125
      rw [hτ_125] at hw
      refine g_iret hx hb hr hlk hE hw hS dX6_zone_128 ?_
      first | exact ⟨by rw [zoneQ_nI hk, zoneV, if_neg k_10_0, if_neg k_10_1, if_neg k_10_2, if_neg k_10_3, if_neg k_10_4, if_neg k_10_5, if_neg k_10_6, if_pos k_10_7, ex_125, ex_123, k_10_7, over_7], sameM.rf⟩ | exact ⟨by rw [zoneQ_nI hk, zoneV, if_neg k_10_0, if_neg k_10_1, if_neg k_10_2, if_neg k_10_3, if_neg k_10_4, if_neg k_10_5, if_neg k_10_6, if_neg k_10_7, if_pos k_10_8, ex_125, ex_123, k_10_8, over_8], sameM.rf⟩
    by_cases k_10_8 : w = 8
    · refine lv_tableIn (tgt := 118) hx hb dX6_zone_10 (by rw [k_10_8]; decide) (by rw [k_10_8]; decide) (off := 108) (by rw [k_10_8]; decide +kernel) (by decide) ?_
      refine lv_aload_n hx hb dX6_zone_118 rfl (lv_at hl 0 rfl) ?_
      refine lv_iload_n hx hb dX6_zone_119 rfl (lv_at hl 1 rfl) ?_
      refine lv_iload_n hx hb dX6_zone_120 rfl (lv_at hl 2 rfl) ?_
      refine lv_bipush (v := nI 6) hx hb dX6_zone_121 (by decide) ?_
      refine lv_isub hx hb dX6_zone_123 ?_
      refine lv_topi (fun x_123 ex_123 => ?_)
      refine lv_iconst (v := nI 0) hx hb dX6_zone_124 (by decide) ?_
      refine g_Vi (n := 3) (As := [.int (nI k), .int x_123, .int (nI 0)]) (rest := []) hx hb hml hown hts hE hw hS gX6_zone_X6_over (c_X6_overZ l G A _ k x_123 (by omega) hok.1 hok.2.1) rfl (by decide +kernel) ⟨Nat.le_of_ble_eq_true rfl, Nat.le_of_ble_eq_true rfl⟩ (Nat.zero_lt_one) rfl rfl rfl rfl hl.1 rfl (Nat.le_of_ble_eq_true rfl) ⟨Nat.le_of_ble_eq_true rfl, Nat.le_of_ble_eq_true rfl⟩ dX6_zone_125 (fun x_125 τ_125 H locs hp_125 hw hS => ?_)
      obtain ⟨ex_125, hτ_125⟩ := hp_125
      rw [hτ_125] at hw
      refine g_iret hx hb hr hlk hE hw hS dX6_zone_128 ?_
      first | exact ⟨by rw [zoneQ_nI hk, zoneV, if_neg k_10_0, if_neg k_10_1, if_neg k_10_2, if_neg k_10_3, if_neg k_10_4, if_neg k_10_5, if_neg k_10_6, if_pos k_10_7, ex_125, ex_123, k_10_7, over_7], sameM.rf⟩ | exact ⟨by rw [zoneQ_nI hk, zoneV, if_neg k_10_0, if_neg k_10_1, if_neg k_10_2, if_neg k_10_3, if_neg k_10_4, if_neg k_10_5, if_neg k_10_6, if_neg k_10_7, if_pos k_10_8, ex_125, ex_123, k_10_8, over_8], sameM.rf⟩
    refine lv_tableOut (tgt := 129) hx hb dX6_zone_10 (by have t0 := tw_ne (k := 0) (0) (by decide) k_10_0; have t1 := tw_ne (k := 1) (1) (by decide) k_10_1; have t2 := tw_ne (k := 2) (2) (by decide) k_10_2; have t3 := tw_ne (k := 3) (3) (by decide) k_10_3; have t4 := tw_ne (k := 4) (4) (by decide) k_10_4; have t5 := tw_ne (k := 5) (5) (by decide) k_10_5; have t6 := tw_ne (k := 6) (6) (by decide) k_10_6; have t7 := tw_ne (k := 7) (7) (by decide) k_10_7; have t8 := tw_ne (k := 8) (8) (by decide) k_10_8; omega) (by decide) ?_
    refine lv_bipush (v := (-2)) hx hb dX6_zone_129 (by decide) ?_
    refine g_iret hx hb hr hlk hE hw hS dX6_zone_131 ?_
    exact ⟨by rw [zoneQ_nI hk, zoneV, if_neg k_10_0, if_neg k_10_1, if_neg k_10_2, if_neg k_10_3, if_neg k_10_4, if_neg k_10_5, if_neg k_10_6, if_neg k_10_7, if_neg k_10_8], sameM.rf⟩
  · refine lv_iconst (v := (-1)) hx hb dX6_zone_7 (by decide) ?_
    refine g_iret hx hb hr hlk hE hw hS dX6_zone_8 ?_
    exact ⟨(zoneQ_no (bP_f hb_1 c_4)).symm, sameM.rf⟩
set_option maxHeartbeats 4000000 in
set_option maxRecDepth 100000 in
/-- ZonedLightModel.count(I)I -/
theorem c_X6_count (l : Launch) (G : GG) (A : Nat → Prop) (σ : St) (w : Int32) (n : Nat) (t : Nat) (hok : okA (σ 17 0)) (en : σ 16 0 2 = nI n) (et : σ 16 0 7 = nI t) : MI l yX6_count wsX6_count 7 158 G A σ [.ref (G.1 16 0), .int w] (fun r τ => r = countQ (σ 17 0) n t w ∧ keepM σ τ) := by
  refine MI.on (by decide) rfl (Nat.le_of_ble_eq_true rfl) (fun pP eE sS mM args below meth cC ls hx hb hml hr hown hlk hts hE hw hS hl => ?_)
  have hl : lv_has ls 2 [(0, .ref (G.1 16 0)), (1, .int w)] := hl
  refine lv_iload_n hx hb dX6_count_0 rfl (lv_at hl 1 rfl) ?_
  by_cases k_1_0 : w = 0
  · refine lv_tableIn (tgt := 68) hx hb dX6_count_1 (by rw [k_1_0]; decide) (by rw [k_1_0]; decide) (off := 67) (by rw [k_1_0]; decide +kernel) (by decide) ?_
    refine lv_aload_n hx hb dX6_count_68 rfl (lv_at hl 0 rfl) ?_
    refine gf_X6_all hx hb hE hw (Nat.zero_lt_one) hown (hts (.fieldLink RX6 7 "ZonedLightModel" "all" "[I") (by decide +kernel)) dX6_count_69 ?_
    refine lv_sipush (v := nI 332) hx hb dX6_count_72 (by decide) ?_
    refine g_ald hx hb hE hw (n := 335) (Nat.zero_lt_one) rfl (by decide) (by omega) dX6_count_75 ?_
    refine lv_topi (fun x_75 ex_75 => ?_)
    refine g_iret hx hb hr hlk hE hw hS dX6_count_76 ?_
    exact ⟨by rw [countQ_v (by rw [k_1_0]; decide) (by rw [k_1_0]; decide), countV, if_pos k_1_0, ex_75], sameM.rf⟩
  by_cases k_1_1 : w = 1
  · refine lv_tableIn (tgt := 77) hx hb dX6_count_1 (by rw [k_1_1]; decide) (by rw [k_1_1]; decide) (off := 76) (by rw [k_1_1]; decide +kernel) (by decide) ?_
    refine lv_aload_n hx hb dX6_count_77 rfl (lv_at hl 0 rfl) ?_
    refine lv_iconst (v := nI 0) hx hb dX6_count_78 (by decide) ?_
    refine g_Vi (n := 1) (As := [.int (nI 0)]) (rest := []) hx hb hml hown hts hE hw hS gX6_count_X6_power (c_X6_power l G A _ ) rfl (by decide +kernel) ⟨Nat.le_of_ble_eq_true rfl, Nat.le_of_ble_eq_true rfl⟩ (Nat.zero_lt_one) rfl rfl rfl rfl hl.1 rfl (Nat.le_of_ble_eq_true rfl) ⟨Nat.le_of_ble_eq_true rfl, Nat.le_of_ble_eq_true rfl⟩ dX6_count_79 (fun x_79 τ_79 H locs hp_79 hw hS => ?_)
    obtain ⟨ex_79, hτ_79⟩ := hp_79
    rw [hτ_79] at hw
    refine g_iret hx hb hr hlk hE hw hS dX6_count_82 ?_
    exact ⟨by rw [countQ_v (by rw [k_1_1]; decide) (by rw [k_1_1]; decide), countV, if_neg k_1_0, if_pos k_1_1, ex_79], sameM.rf⟩
  by_cases k_1_2 : w = 2
  · refine lv_tableIn (tgt := 83) hx hb dX6_count_1 (by rw [k_1_2]; decide) (by rw [k_1_2]; decide) (off := 82) (by rw [k_1_2]; decide +kernel) (by decide) ?_
    refine lv_aload_n hx hb dX6_count_83 rfl (lv_at hl 0 rfl) ?_
    refine gf_X6_all hx hb hE hw (Nat.zero_lt_one) hown (hts (.fieldLink RX6 7 "ZonedLightModel" "all" "[I") (by decide +kernel)) dX6_count_84 ?_
    refine lv_sipush (v := nI 333) hx hb dX6_count_87 (by decide) ?_
    refine g_ald hx hb hE hw (n := 335) (Nat.zero_lt_one) rfl (by decide) (by omega) dX6_count_90 ?_
    refine lv_topi (fun x_90 ex_90 => ?_)
    refine g_iret hx hb hr hlk hE hw hS dX6_count_91 ?_
    exact ⟨by rw [countQ_v (by rw [k_1_2]; decide) (by rw [k_1_2]; decide), countV, if_neg k_1_0, if_neg k_1_1, if_pos k_1_2, ex_90], sameM.rf⟩
  by_cases k_1_3 : w = 3
  · refine lv_tableIn (tgt := 92) hx hb dX6_count_1 (by rw [k_1_3]; decide) (by rw [k_1_3]; decide) (off := 91) (by rw [k_1_3]; decide +kernel) (by decide) ?_
    refine lv_aload_n hx hb dX6_count_92 rfl (lv_at hl 0 rfl) ?_
    refine gf_X6_all hx hb hE hw (Nat.zero_lt_one) hown (hts (.fieldLink RX6 7 "ZonedLightModel" "all" "[I") (by decide +kernel)) dX6_count_93 ?_
    refine lv_sipush (v := nI 334) hx hb dX6_count_96 (by decide) ?_
    refine g_ald hx hb hE hw (n := 335) (Nat.zero_lt_one) rfl (by decide) (by omega) dX6_count_99 ?_
    refine lv_topi (fun x_99 ex_99 => ?_)
    refine g_iret hx hb hr hlk hE hw hS dX6_count_100 ?_
    exact ⟨by rw [countQ_v (by rw [k_1_3]; decide) (by rw [k_1_3]; decide), countV, if_neg k_1_0, if_neg k_1_1, if_neg k_1_2, if_pos k_1_3, ex_99], sameM.rf⟩
  by_cases k_1_4 : w = 4
  · refine lv_tableIn (tgt := 101) hx hb dX6_count_1 (by rw [k_1_4]; decide) (by rw [k_1_4]; decide) (off := 100) (by rw [k_1_4]; decide +kernel) (by decide) ?_
    refine lv_aload_n hx hb dX6_count_101 rfl (lv_at hl 0 rfl) ?_
    refine lv_bipush (v := (-5)) hx hb dX6_count_102 (by decide) ?_
    refine lv_iload_n hx hb dX6_count_104 rfl (lv_at hl 1 rfl) ?_
    refine lv_iconst (v := nI 4) hx hb dX6_count_105 (by decide) ?_
    refine lv_isub hx hb dX6_count_106 ?_
    refine lv_topi (fun x_106 ex_106 => ?_)
    refine lv_iconst (v := nI 0) hx hb dX6_count_107 (by decide) ?_
    refine g_Vi (n := 3) (As := [.int (-5), .int x_106, .int (nI 0)]) (rest := []) hx hb hml hown hts hE hw hS gX6_count_X6_over (c_X6_over l G A _ x_106 hok.1 hok.2.1) rfl (by decide +kernel) ⟨Nat.le_of_ble_eq_true rfl, Nat.le_of_ble_eq_true rfl⟩ (Nat.zero_lt_one) rfl rfl rfl rfl hl.1 rfl (Nat.le_of_ble_eq_true rfl) ⟨Nat.le_of_ble_eq_true rfl, Nat.le_of_ble_eq_true rfl⟩ dX6_count_108 (fun x_108 τ_108 H locs hp_108 hw hS => ?_)
    obtain ⟨ex_108, hτ_108⟩ := hp_108
    rw [hτ_108] at hw
    refine g_iret hx hb hr hlk hE hw hS dX6_count_111 ?_
    first | exact ⟨by rw [countQ_v (by rw [k_1_4]; decide) (by rw [k_1_4]; decide), countV, if_neg k_1_0, if_neg k_1_1, if_neg k_1_2, if_neg k_1_3, if_pos (Or.inl k_1_4), ex_108, ex_106, over_tally (Or.inl k_1_4)], sameM.rf⟩ | exact ⟨by rw [countQ_v (by rw [k_1_5]; decide) (by rw [k_1_5]; decide), countV, if_neg k_1_0, if_neg k_1_1, if_neg k_1_2, if_neg k_1_3, if_pos (Or.inr (Or.inl k_1_5)), ex_108, ex_106, over_tally (Or.inr (Or.inl k_1_5))], sameM.rf⟩ | exact ⟨by rw [countQ_v (by rw [k_1_6]; decide) (by rw [k_1_6]; decide), countV, if_neg k_1_0, if_neg k_1_1, if_neg k_1_2, if_neg k_1_3, if_pos (Or.inr (Or.inr (Or.inl k_1_6))), ex_108, ex_106, over_tally (Or.inr (Or.inr (Or.inl k_1_6)))], sameM.rf⟩ | exact ⟨by rw [countQ_v (by rw [k_1_7]; decide) (by rw [k_1_7]; decide), countV, if_neg k_1_0, if_neg k_1_1, if_neg k_1_2, if_neg k_1_3, if_pos (Or.inr (Or.inr (Or.inr (Or.inl k_1_7)))), ex_108, ex_106, over_tally (Or.inr (Or.inr (Or.inr (Or.inl k_1_7))))], sameM.rf⟩ | exact ⟨by rw [countQ_v (by rw [k_1_8]; decide) (by rw [k_1_8]; decide), countV, if_neg k_1_0, if_neg k_1_1, if_neg k_1_2, if_neg k_1_3, if_pos (Or.inr (Or.inr (Or.inr (Or.inr (k_1_8))))), ex_108, ex_106, over_tally (Or.inr (Or.inr (Or.inr (Or.inr (k_1_8)))))], sameM.rf⟩
  by_cases k_1_5 : w = 5
  · refine lv_tableIn (tgt := 101) hx hb dX6_count_1 (by rw [k_1_5]; decide) (by rw [k_1_5]; decide) (off := 100) (by rw [k_1_5]; decide +kernel) (by decide) ?_
    refine lv_aload_n hx hb dX6_count_101 rfl (lv_at hl 0 rfl) ?_
    refine lv_bipush (v := (-5)) hx hb dX6_count_102 (by decide) ?_
    refine lv_iload_n hx hb dX6_count_104 rfl (lv_at hl 1 rfl) ?_
    refine lv_iconst (v := nI 4) hx hb dX6_count_105 (by decide) ?_
    refine lv_isub hx hb dX6_count_106 ?_
    refine lv_topi (fun x_106 ex_106 => ?_)
    refine lv_iconst (v := nI 0) hx hb dX6_count_107 (by decide) ?_
    refine g_Vi (n := 3) (As := [.int (-5), .int x_106, .int (nI 0)]) (rest := []) hx hb hml hown hts hE hw hS gX6_count_X6_over (c_X6_over l G A _ x_106 hok.1 hok.2.1) rfl (by decide +kernel) ⟨Nat.le_of_ble_eq_true rfl, Nat.le_of_ble_eq_true rfl⟩ (Nat.zero_lt_one) rfl rfl rfl rfl hl.1 rfl (Nat.le_of_ble_eq_true rfl) ⟨Nat.le_of_ble_eq_true rfl, Nat.le_of_ble_eq_true rfl⟩ dX6_count_108 (fun x_108 τ_108 H locs hp_108 hw hS => ?_)
    obtain ⟨ex_108, hτ_108⟩ := hp_108
    rw [hτ_108] at hw
    refine g_iret hx hb hr hlk hE hw hS dX6_count_111 ?_
    first | exact ⟨by rw [countQ_v (by rw [k_1_4]; decide) (by rw [k_1_4]; decide), countV, if_neg k_1_0, if_neg k_1_1, if_neg k_1_2, if_neg k_1_3, if_pos (Or.inl k_1_4), ex_108, ex_106, over_tally (Or.inl k_1_4)], sameM.rf⟩ | exact ⟨by rw [countQ_v (by rw [k_1_5]; decide) (by rw [k_1_5]; decide), countV, if_neg k_1_0, if_neg k_1_1, if_neg k_1_2, if_neg k_1_3, if_pos (Or.inr (Or.inl k_1_5)), ex_108, ex_106, over_tally (Or.inr (Or.inl k_1_5))], sameM.rf⟩ | exact ⟨by rw [countQ_v (by rw [k_1_6]; decide) (by rw [k_1_6]; decide), countV, if_neg k_1_0, if_neg k_1_1, if_neg k_1_2, if_neg k_1_3, if_pos (Or.inr (Or.inr (Or.inl k_1_6))), ex_108, ex_106, over_tally (Or.inr (Or.inr (Or.inl k_1_6)))], sameM.rf⟩ | exact ⟨by rw [countQ_v (by rw [k_1_7]; decide) (by rw [k_1_7]; decide), countV, if_neg k_1_0, if_neg k_1_1, if_neg k_1_2, if_neg k_1_3, if_pos (Or.inr (Or.inr (Or.inr (Or.inl k_1_7)))), ex_108, ex_106, over_tally (Or.inr (Or.inr (Or.inr (Or.inl k_1_7))))], sameM.rf⟩ | exact ⟨by rw [countQ_v (by rw [k_1_8]; decide) (by rw [k_1_8]; decide), countV, if_neg k_1_0, if_neg k_1_1, if_neg k_1_2, if_neg k_1_3, if_pos (Or.inr (Or.inr (Or.inr (Or.inr (k_1_8))))), ex_108, ex_106, over_tally (Or.inr (Or.inr (Or.inr (Or.inr (k_1_8)))))], sameM.rf⟩
  by_cases k_1_6 : w = 6
  · refine lv_tableIn (tgt := 101) hx hb dX6_count_1 (by rw [k_1_6]; decide) (by rw [k_1_6]; decide) (off := 100) (by rw [k_1_6]; decide +kernel) (by decide) ?_
    refine lv_aload_n hx hb dX6_count_101 rfl (lv_at hl 0 rfl) ?_
    refine lv_bipush (v := (-5)) hx hb dX6_count_102 (by decide) ?_
    refine lv_iload_n hx hb dX6_count_104 rfl (lv_at hl 1 rfl) ?_
    refine lv_iconst (v := nI 4) hx hb dX6_count_105 (by decide) ?_
    refine lv_isub hx hb dX6_count_106 ?_
    refine lv_topi (fun x_106 ex_106 => ?_)
    refine lv_iconst (v := nI 0) hx hb dX6_count_107 (by decide) ?_
    refine g_Vi (n := 3) (As := [.int (-5), .int x_106, .int (nI 0)]) (rest := []) hx hb hml hown hts hE hw hS gX6_count_X6_over (c_X6_over l G A _ x_106 hok.1 hok.2.1) rfl (by decide +kernel) ⟨Nat.le_of_ble_eq_true rfl, Nat.le_of_ble_eq_true rfl⟩ (Nat.zero_lt_one) rfl rfl rfl rfl hl.1 rfl (Nat.le_of_ble_eq_true rfl) ⟨Nat.le_of_ble_eq_true rfl, Nat.le_of_ble_eq_true rfl⟩ dX6_count_108 (fun x_108 τ_108 H locs hp_108 hw hS => ?_)
    obtain ⟨ex_108, hτ_108⟩ := hp_108
    rw [hτ_108] at hw
    refine g_iret hx hb hr hlk hE hw hS dX6_count_111 ?_
    first | exact ⟨by rw [countQ_v (by rw [k_1_4]; decide) (by rw [k_1_4]; decide), countV, if_neg k_1_0, if_neg k_1_1, if_neg k_1_2, if_neg k_1_3, if_pos (Or.inl k_1_4), ex_108, ex_106, over_tally (Or.inl k_1_4)], sameM.rf⟩ | exact ⟨by rw [countQ_v (by rw [k_1_5]; decide) (by rw [k_1_5]; decide), countV, if_neg k_1_0, if_neg k_1_1, if_neg k_1_2, if_neg k_1_3, if_pos (Or.inr (Or.inl k_1_5)), ex_108, ex_106, over_tally (Or.inr (Or.inl k_1_5))], sameM.rf⟩ | exact ⟨by rw [countQ_v (by rw [k_1_6]; decide) (by rw [k_1_6]; decide), countV, if_neg k_1_0, if_neg k_1_1, if_neg k_1_2, if_neg k_1_3, if_pos (Or.inr (Or.inr (Or.inl k_1_6))), ex_108, ex_106, over_tally (Or.inr (Or.inr (Or.inl k_1_6)))], sameM.rf⟩ | exact ⟨by rw [countQ_v (by rw [k_1_7]; decide) (by rw [k_1_7]; decide), countV, if_neg k_1_0, if_neg k_1_1, if_neg k_1_2, if_neg k_1_3, if_pos (Or.inr (Or.inr (Or.inr (Or.inl k_1_7)))), ex_108, ex_106, over_tally (Or.inr (Or.inr (Or.inr (Or.inl k_1_7))))], sameM.rf⟩ | exact ⟨by rw [countQ_v (by rw [k_1_8]; decide) (by rw [k_1_8]; decide), countV, if_neg k_1_0, if_neg k_1_1, if_neg k_1_2, if_neg k_1_3, if_pos (Or.inr (Or.inr (Or.inr (Or.inr (k_1_8))))), ex_108, ex_106, over_tally (Or.inr (Or.inr (Or.inr (Or.inr (k_1_8)))))], sameM.rf⟩
  by_cases k_1_7 : w = 7
  · refine lv_tableIn (tgt := 101) hx hb dX6_count_1 (by rw [k_1_7]; decide) (by rw [k_1_7]; decide) (off := 100) (by rw [k_1_7]; decide +kernel) (by decide) ?_
    refine lv_aload_n hx hb dX6_count_101 rfl (lv_at hl 0 rfl) ?_
    refine lv_bipush (v := (-5)) hx hb dX6_count_102 (by decide) ?_
    refine lv_iload_n hx hb dX6_count_104 rfl (lv_at hl 1 rfl) ?_
    refine lv_iconst (v := nI 4) hx hb dX6_count_105 (by decide) ?_
    refine lv_isub hx hb dX6_count_106 ?_
    refine lv_topi (fun x_106 ex_106 => ?_)
    refine lv_iconst (v := nI 0) hx hb dX6_count_107 (by decide) ?_
    refine g_Vi (n := 3) (As := [.int (-5), .int x_106, .int (nI 0)]) (rest := []) hx hb hml hown hts hE hw hS gX6_count_X6_over (c_X6_over l G A _ x_106 hok.1 hok.2.1) rfl (by decide +kernel) ⟨Nat.le_of_ble_eq_true rfl, Nat.le_of_ble_eq_true rfl⟩ (Nat.zero_lt_one) rfl rfl rfl rfl hl.1 rfl (Nat.le_of_ble_eq_true rfl) ⟨Nat.le_of_ble_eq_true rfl, Nat.le_of_ble_eq_true rfl⟩ dX6_count_108 (fun x_108 τ_108 H locs hp_108 hw hS => ?_)
    obtain ⟨ex_108, hτ_108⟩ := hp_108
    rw [hτ_108] at hw
    refine g_iret hx hb hr hlk hE hw hS dX6_count_111 ?_
    first | exact ⟨by rw [countQ_v (by rw [k_1_4]; decide) (by rw [k_1_4]; decide), countV, if_neg k_1_0, if_neg k_1_1, if_neg k_1_2, if_neg k_1_3, if_pos (Or.inl k_1_4), ex_108, ex_106, over_tally (Or.inl k_1_4)], sameM.rf⟩ | exact ⟨by rw [countQ_v (by rw [k_1_5]; decide) (by rw [k_1_5]; decide), countV, if_neg k_1_0, if_neg k_1_1, if_neg k_1_2, if_neg k_1_3, if_pos (Or.inr (Or.inl k_1_5)), ex_108, ex_106, over_tally (Or.inr (Or.inl k_1_5))], sameM.rf⟩ | exact ⟨by rw [countQ_v (by rw [k_1_6]; decide) (by rw [k_1_6]; decide), countV, if_neg k_1_0, if_neg k_1_1, if_neg k_1_2, if_neg k_1_3, if_pos (Or.inr (Or.inr (Or.inl k_1_6))), ex_108, ex_106, over_tally (Or.inr (Or.inr (Or.inl k_1_6)))], sameM.rf⟩ | exact ⟨by rw [countQ_v (by rw [k_1_7]; decide) (by rw [k_1_7]; decide), countV, if_neg k_1_0, if_neg k_1_1, if_neg k_1_2, if_neg k_1_3, if_pos (Or.inr (Or.inr (Or.inr (Or.inl k_1_7)))), ex_108, ex_106, over_tally (Or.inr (Or.inr (Or.inr (Or.inl k_1_7))))], sameM.rf⟩ | exact ⟨by rw [countQ_v (by rw [k_1_8]; decide) (by rw [k_1_8]; decide), countV, if_neg k_1_0, if_neg k_1_1, if_neg k_1_2, if_neg k_1_3, if_pos (Or.inr (Or.inr (Or.inr (Or.inr (k_1_8))))), ex_108, ex_106, over_tally (Or.inr (Or.inr (Or.inr (Or.inr (k_1_8)))))], sameM.rf⟩
  by_cases k_1_8 : w = 8
  · refine lv_tableIn (tgt := 101) hx hb dX6_count_1 (by rw [k_1_8]; decide) (by rw [k_1_8]; decide) (off := 100) (by rw [k_1_8]; decide +kernel) (by decide) ?_
    refine lv_aload_n hx hb dX6_count_101 rfl (lv_at hl 0 rfl) ?_
    refine lv_bipush (v := (-5)) hx hb dX6_count_102 (by decide) ?_
    refine lv_iload_n hx hb dX6_count_104 rfl (lv_at hl 1 rfl) ?_
    refine lv_iconst (v := nI 4) hx hb dX6_count_105 (by decide) ?_
    refine lv_isub hx hb dX6_count_106 ?_
    refine lv_topi (fun x_106 ex_106 => ?_)
    refine lv_iconst (v := nI 0) hx hb dX6_count_107 (by decide) ?_
    refine g_Vi (n := 3) (As := [.int (-5), .int x_106, .int (nI 0)]) (rest := []) hx hb hml hown hts hE hw hS gX6_count_X6_over (c_X6_over l G A _ x_106 hok.1 hok.2.1) rfl (by decide +kernel) ⟨Nat.le_of_ble_eq_true rfl, Nat.le_of_ble_eq_true rfl⟩ (Nat.zero_lt_one) rfl rfl rfl rfl hl.1 rfl (Nat.le_of_ble_eq_true rfl) ⟨Nat.le_of_ble_eq_true rfl, Nat.le_of_ble_eq_true rfl⟩ dX6_count_108 (fun x_108 τ_108 H locs hp_108 hw hS => ?_)
    obtain ⟨ex_108, hτ_108⟩ := hp_108
    rw [hτ_108] at hw
    refine g_iret hx hb hr hlk hE hw hS dX6_count_111 ?_
    first | exact ⟨by rw [countQ_v (by rw [k_1_4]; decide) (by rw [k_1_4]; decide), countV, if_neg k_1_0, if_neg k_1_1, if_neg k_1_2, if_neg k_1_3, if_pos (Or.inl k_1_4), ex_108, ex_106, over_tally (Or.inl k_1_4)], sameM.rf⟩ | exact ⟨by rw [countQ_v (by rw [k_1_5]; decide) (by rw [k_1_5]; decide), countV, if_neg k_1_0, if_neg k_1_1, if_neg k_1_2, if_neg k_1_3, if_pos (Or.inr (Or.inl k_1_5)), ex_108, ex_106, over_tally (Or.inr (Or.inl k_1_5))], sameM.rf⟩ | exact ⟨by rw [countQ_v (by rw [k_1_6]; decide) (by rw [k_1_6]; decide), countV, if_neg k_1_0, if_neg k_1_1, if_neg k_1_2, if_neg k_1_3, if_pos (Or.inr (Or.inr (Or.inl k_1_6))), ex_108, ex_106, over_tally (Or.inr (Or.inr (Or.inl k_1_6)))], sameM.rf⟩ | exact ⟨by rw [countQ_v (by rw [k_1_7]; decide) (by rw [k_1_7]; decide), countV, if_neg k_1_0, if_neg k_1_1, if_neg k_1_2, if_neg k_1_3, if_pos (Or.inr (Or.inr (Or.inr (Or.inl k_1_7)))), ex_108, ex_106, over_tally (Or.inr (Or.inr (Or.inr (Or.inl k_1_7))))], sameM.rf⟩ | exact ⟨by rw [countQ_v (by rw [k_1_8]; decide) (by rw [k_1_8]; decide), countV, if_neg k_1_0, if_neg k_1_1, if_neg k_1_2, if_neg k_1_3, if_pos (Or.inr (Or.inr (Or.inr (Or.inr (k_1_8))))), ex_108, ex_106, over_tally (Or.inr (Or.inr (Or.inr (Or.inr (k_1_8)))))], sameM.rf⟩
  by_cases k_1_9 : w = 9
  · refine lv_tableIn (tgt := 112) hx hb dX6_count_1 (by rw [k_1_9]; decide) (by rw [k_1_9]; decide) (off := 111) (by rw [k_1_9]; decide +kernel) (by decide) ?_
    refine lv_aload_n hx hb dX6_count_112 rfl (lv_at hl 0 rfl) ?_
    refine g_Vi (n := 0) (As := []) (rest := []) hx hb hml hown hts hE hw hS gX6_count_X6_deadZones (c_X6_deadZones l G A _ hok.1) rfl (by decide +kernel) ⟨Nat.le_of_ble_eq_true rfl, Nat.le_of_ble_eq_true rfl⟩ (Nat.zero_lt_one) rfl rfl rfl rfl hl.1 rfl (Nat.le_of_ble_eq_true rfl) ⟨Nat.le_of_ble_eq_true rfl, Nat.le_of_ble_eq_true rfl⟩ dX6_count_113 (fun x_113 τ_113 H locs hp_113 hw hS => ?_)
    obtain ⟨ex_113, hτ_113⟩ := hp_113
    rw [hτ_113] at hw
    refine g_iret hx hb hr hlk hE hw hS dX6_count_116 ?_
    have hn48 : ¬ (w = 4 ∨ w = 5 ∨ w = 6 ∨ w = 7 ∨ w = 8) := by
      rintro (q | q | q | q | q)
      · exact k_1_4 q
      · exact k_1_5 q
      · exact k_1_6 q
      · exact k_1_7 q
      · exact k_1_8 q
    exact ⟨by rw [countQ_v (by rw [k_1_9]; decide) (by rw [k_1_9]; decide), countV, if_neg k_1_0, if_neg k_1_1, if_neg k_1_2, if_neg k_1_3, if_neg hn48, if_pos k_1_9, ex_113], sameM.rf⟩
  by_cases k_1_10 : w = 10
  · refine lv_tableIn (tgt := 117) hx hb dX6_count_1 (by rw [k_1_10]; decide) (by rw [k_1_10]; decide) (off := 116) (by rw [k_1_10]; decide +kernel) (by decide) ?_
    refine lv_aload_n hx hb dX6_count_117 rfl (lv_at hl 0 rfl) ?_
    refine g_Vi (n := 0) (As := []) (rest := []) hx hb hml hown hts hE hw hS gX6_count_X6_farthest (c_X6_farthest l G A _ hok.1) rfl (by decide +kernel) ⟨Nat.le_of_ble_eq_true rfl, Nat.le_of_ble_eq_true rfl⟩ (Nat.zero_lt_one) rfl rfl rfl rfl hl.1 rfl (Nat.le_of_ble_eq_true rfl) ⟨Nat.le_of_ble_eq_true rfl, Nat.le_of_ble_eq_true rfl⟩ dX6_count_118 (fun x_118 τ_118 H locs hp_118 hw hS => ?_)
    refine lv_if_ne (tgt := 128) hx hb dX6_count_121 (by decide) (fun c_121 => ?_) (fun c_121 => ?_)
    · refine lv_iconst (v := nI 0) hx hb dX6_count_128 (by decide) ?_
      refine g_iret hx hb hr hlk hE hw hS dX6_count_129 ?_
      have hn48 : ¬ (w = 4 ∨ w = 5 ∨ w = 6 ∨ w = 7 ∨ w = 8) := by
        rintro (q | q | q | q | q)
        · exact k_1_4 q
        · exact k_1_5 q
        · exact k_1_6 q
        · exact k_1_7 q
        · exact k_1_8 q
      first | exact ⟨by rw [countQ_v (by rw [k_1_10]; decide) (by rw [k_1_10]; decide), countV, if_neg k_1_0, if_neg k_1_1, if_neg k_1_2, if_neg k_1_3, if_neg hn48, if_neg k_1_9, if_pos k_1_10, ← hp_118.1, if_pos c_121]; rfl, by rw [hp_118.2]; exact sameM.rf.w1 (Or.inl (Or.inl rfl)) (by decide)⟩ | exact ⟨by rw [countQ_v (by rw [k_1_10]; decide) (by rw [k_1_10]; decide), countV, if_neg k_1_0, if_neg k_1_1, if_neg k_1_2, if_neg k_1_3, if_neg hn48, if_neg k_1_9, if_pos k_1_10, ← hp_118.1, if_neg c_121]; rfl, by rw [hp_118.2]; exact sameM.rf.w1 (Or.inl (Or.inl rfl)) (by decide)⟩
    · refine lv_iconst (v := nI 1) hx hb dX6_count_124 (by decide) ?_
      refine lv_goto (tgt := 129) hx hb dX6_count_125 (by decide) ?_
      refine g_iret hx hb hr hlk hE hw hS dX6_count_129 ?_
      have hn48 : ¬ (w = 4 ∨ w = 5 ∨ w = 6 ∨ w = 7 ∨ w = 8) := by
        rintro (q | q | q | q | q)
        · exact k_1_4 q
        · exact k_1_5 q
        · exact k_1_6 q
        · exact k_1_7 q
        · exact k_1_8 q
      first | exact ⟨by rw [countQ_v (by rw [k_1_10]; decide) (by rw [k_1_10]; decide), countV, if_neg k_1_0, if_neg k_1_1, if_neg k_1_2, if_neg k_1_3, if_neg hn48, if_neg k_1_9, if_pos k_1_10, ← hp_118.1, if_pos c_121]; rfl, by rw [hp_118.2]; exact sameM.rf.w1 (Or.inl (Or.inl rfl)) (by decide)⟩ | exact ⟨by rw [countQ_v (by rw [k_1_10]; decide) (by rw [k_1_10]; decide), countV, if_neg k_1_0, if_neg k_1_1, if_neg k_1_2, if_neg k_1_3, if_neg hn48, if_neg k_1_9, if_pos k_1_10, ← hp_118.1, if_neg c_121]; rfl, by rw [hp_118.2]; exact sameM.rf.w1 (Or.inl (Or.inl rfl)) (by decide)⟩
  by_cases k_1_11 : w = 11
  · refine lv_tableIn (tgt := 130) hx hb dX6_count_1 (by rw [k_1_11]; decide) (by rw [k_1_11]; decide) (off := 129) (by rw [k_1_11]; decide +kernel) (by decide) ?_
    refine lv_aload_n hx hb dX6_count_130 rfl (lv_at hl 0 rfl) ?_
    refine gf_X6_historyLong hx hb hE hw (Nat.zero_lt_one) hown (hts (.fieldLink RX6 28 "ZonedLightModel" "historyLong" "I") (by decide +kernel)) dX6_count_131 ?_
    refine lv_topi (fun x_131 ex_131 => ?_)
    refine g_iret hx hb hr hlk hE hw hS dX6_count_134 ?_
    have hn48 : ¬ (w = 4 ∨ w = 5 ∨ w = 6 ∨ w = 7 ∨ w = 8) := by
      rintro (q | q | q | q | q)
      · exact k_1_4 q
      · exact k_1_5 q
      · exact k_1_6 q
      · exact k_1_7 q
      · exact k_1_8 q
    exact ⟨by rw [countQ_v (by rw [k_1_11]; decide) (by rw [k_1_11]; decide), countV, if_neg k_1_0, if_neg k_1_1, if_neg k_1_2, if_neg k_1_3, if_neg hn48, if_neg k_1_9, if_neg k_1_10, if_pos k_1_11, ex_131, en], sameM.rf⟩
  by_cases k_1_12 : w = 12
  · refine lv_tableIn (tgt := 135) hx hb dX6_count_1 (by rw [k_1_12]; decide) (by rw [k_1_12]; decide) (off := 134) (by rw [k_1_12]; decide +kernel) (by decide) ?_
    refine lv_aload_n hx hb dX6_count_135 rfl (lv_at hl 0 rfl) ?_
    refine gf_X6_textLong hx hb hE hw (Nat.zero_lt_one) hown (hts (.fieldLink RX6 147 "ZonedLightModel" "textLong" "I") (by decide +kernel)) dX6_count_136 ?_
    refine lv_topi (fun x_136 ex_136 => ?_)
    refine g_iret hx hb hr hlk hE hw hS dX6_count_139 ?_
    have hn48 : ¬ (w = 4 ∨ w = 5 ∨ w = 6 ∨ w = 7 ∨ w = 8) := by
      rintro (q | q | q | q | q)
      · exact k_1_4 q
      · exact k_1_5 q
      · exact k_1_6 q
      · exact k_1_7 q
      · exact k_1_8 q
    exact ⟨by rw [countQ_v (by rw [k_1_12]; decide) (by rw [k_1_12]; decide), countV, if_neg k_1_0, if_neg k_1_1, if_neg k_1_2, if_neg k_1_3, if_neg hn48, if_neg k_1_9, if_neg k_1_10, if_neg k_1_11, if_pos k_1_12, ex_136, et], sameM.rf⟩
  refine lv_tableOut (tgt := 140) hx hb dX6_count_1 (by have t0 := tw_ne (k := 0) (0) (by decide) k_1_0; have t1 := tw_ne (k := 1) (1) (by decide) k_1_1; have t2 := tw_ne (k := 2) (2) (by decide) k_1_2; have t3 := tw_ne (k := 3) (3) (by decide) k_1_3; have t4 := tw_ne (k := 4) (4) (by decide) k_1_4; have t5 := tw_ne (k := 5) (5) (by decide) k_1_5; have t6 := tw_ne (k := 6) (6) (by decide) k_1_6; have t7 := tw_ne (k := 7) (7) (by decide) k_1_7; have t8 := tw_ne (k := 8) (8) (by decide) k_1_8; have t9 := tw_ne (k := 9) (9) (by decide) k_1_9; have t10 := tw_ne (k := 10) (10) (by decide) k_1_10; have t11 := tw_ne (k := 11) (11) (by decide) k_1_11; have t12 := tw_ne (k := 12) (12) (by decide) k_1_12; omega) (by decide) ?_
  refine lv_iload_n hx hb dX6_count_140 rfl (lv_at hl 1 rfl) ?_
  refine lv_i2l hx hb dX6_count_141 rfl ?_
  refine lv_ldc2 (v := (nI 13).toInt64) hx hb hown (hts (.constantLong RX6 192 (nI 13).toInt64) (by decide +kernel)) dX6_count_142 ?_
  refine lv_ldc2 (v := (nI 20).toInt64) hx hb hown (hts (.constantLong RX6 142 (nI 20).toInt64) (by decide +kernel)) dX6_count_145 ?_
  refine g_Si (n := 3) (As := [.long (w.toInt64), .long ((nI 13).toInt64), .long ((nI 20).toInt64)]) (rest := []) hx hb hml hown hts hE hw hS gX6_count_X6_in (c_X6_in l G A _ w (nI 13) (nI 20)) rfl (by decide +kernel) ⟨Nat.le_of_ble_eq_true rfl, Nat.le_of_ble_eq_true rfl⟩ rfl hl.1 rfl (Nat.le_of_ble_eq_true rfl) ⟨Nat.le_of_ble_eq_true rfl, Nat.le_of_ble_eq_true rfl⟩ dX6_count_148 (fun x_148 τ_148 H locs hp_148 hw hS => ?_)
  obtain ⟨hb_148, hτ_148⟩ := hp_148
  rw [hτ_148] at hw
  refine lv_if_eq (tgt := 170) hx hb dX6_count_151 (by decide) (fun c_151 => ?_) (fun c_151 => ?_)
  · refine lv_bipush (v := (-2)) hx hb dX6_count_170 (by decide) ?_
    refine g_iret hx hb hr hlk hE hw hS dX6_count_172 ?_
    first | exact ⟨by rw [countQ_s h13 h21, ex_166, show 324 + k - 13 = 324 + (k - 13) by omega], sameM.rf⟩ | exact ⟨(countQ_bad (count_out (by have t0 := tw_ne (k := 0) 0 (by decide) k_1_0; have t1 := tw_ne (k := 1) 1 (by decide) k_1_1; have t2 := tw_ne (k := 2) 2 (by decide) k_1_2; have t3 := tw_ne (k := 3) 3 (by decide) k_1_3; have t4 := tw_ne (k := 4) 4 (by decide) k_1_4; have t5 := tw_ne (k := 5) 5 (by decide) k_1_5; have t6 := tw_ne (k := 6) 6 (by decide) k_1_6; have t7 := tw_ne (k := 7) 7 (by decide) k_1_7; have t8 := tw_ne (k := 8) 8 (by decide) k_1_8; have t9 := tw_ne (k := 9) 9 (by decide) k_1_9; have t10 := tw_ne (k := 10) 10 (by decide) k_1_10; have t11 := tw_ne (k := 11) 11 (by decide) k_1_11; have t12 := tw_ne (k := 12) 12 (by decide) k_1_12; omega) (bP_f hb_148 c_151))).symm, sameM.rf⟩
  · obtain ⟨k, h13, h21, rfl⟩ := set_at (bP_t hb_148 c_151)
    refine lv_aload_n hx hb dX6_count_154 rfl (lv_at hl 0 rfl) ?_
    refine gf_X6_all hx hb hE hw (Nat.zero_lt_one) hown (hts (.fieldLink RX6 7 "ZonedLightModel" "all" "[I") (by decide +kernel)) dX6_count_155 ?_
    refine lv_sipush (v := nI 324) hx hb dX6_count_158 (by decide) ?_
    refine lv_iload_n hx hb dX6_count_161 rfl (lv_at hl 1 rfl) ?_
    refine n_iadd hx hb dX6_count_162 ?_
    refine lv_bipush (v := nI 13) hx hb dX6_count_163 (by decide) ?_
    refine n_isub hx hb dX6_count_165 (by omega) ?_
    refine g_ald hx hb hE hw (n := 335) (Nat.zero_lt_one) rfl (by decide) (by omega) dX6_count_166 ?_
    refine lv_topi (fun x_166 ex_166 => ?_)
    refine lv_goto (tgt := 172) hx hb dX6_count_167 (by decide) ?_
    refine g_iret hx hb hr hlk hE hw hS dX6_count_172 ?_
    first | exact ⟨by rw [countQ_s h13 h21, ex_166, show 324 + k - 13 = 324 + (k - 13) by omega], sameM.rf⟩ | exact ⟨(countQ_bad (count_out (by have t0 := tw_ne (k := 0) 0 (by decide) k_1_0; have t1 := tw_ne (k := 1) 1 (by decide) k_1_1; have t2 := tw_ne (k := 2) 2 (by decide) k_1_2; have t3 := tw_ne (k := 3) 3 (by decide) k_1_3; have t4 := tw_ne (k := 4) 4 (by decide) k_1_4; have t5 := tw_ne (k := 5) 5 (by decide) k_1_5; have t6 := tw_ne (k := 6) 6 (by decide) k_1_6; have t7 := tw_ne (k := 7) 7 (by decide) k_1_7; have t8 := tw_ne (k := 8) 8 (by decide) k_1_8; have t9 := tw_ne (k := 9) 9 (by decide) k_1_9; have t10 := tw_ne (k := 10) 10 (by decide) k_1_10; have t11 := tw_ne (k := 11) 11 (by decide) k_1_11; have t12 := tw_ne (k := 12) 12 (by decide) k_1_12; omega) (bP_f hb_148 c_151))).symm, sameM.rf⟩
set_option maxHeartbeats 4000000 in
set_option maxRecDepth 100000 in
/-- ZonedLightModel.restsIn()I -/
theorem c_X6_restsIn (l : Launch) (G : GG) (A : Nat → Prop) (σ : St)  (hok : okA (σ 17 0)) : MI l yX6_restsIn wsX6_restsIn 7 158 G A σ [.ref (G.1 16 0)] (fun r τ => r = restsQ (σ 17 0) ∧ keepM σ τ) := by
  refine MI.on (by decide) rfl (Nat.le_of_ble_eq_true rfl) (fun pP eE sS mM args below meth cC ls hx hb hml hr hown hlk hts hE hw hS hl => ?_)
  have hl : lv_has ls 1 [(0, .ref (G.1 16 0))] := hl
  have hst := okA_step hok
  refine lv_aload_n hx hb dX6_restsIn_0 rfl (lv_at hl 0 rfl) ?_
  refine g_Vi (n := 0) (As := []) (rest := []) hx hb hml hown hts hE hw hS gX6_restsIn_X6_farthest (c_X6_farthest l G A _ hok.1) rfl (by decide +kernel) ⟨Nat.le_of_ble_eq_true rfl, Nat.le_of_ble_eq_true rfl⟩ (Nat.zero_lt_one) rfl rfl rfl rfl hl.1 rfl (Nat.le_of_ble_eq_true rfl) ⟨Nat.le_of_ble_eq_true rfl, Nat.le_of_ble_eq_true rfl⟩ dX6_restsIn_1 (fun x_1 τ_1 H locs hp_1 hw hS => ?_)
  refine lv_aload_n hx hb dX6_restsIn_4 rfl (lv_at hl 0 rfl) ?_
  refine gf_X6_all hx hb hE hw (Nat.zero_lt_one) hown (hts (.fieldLink RX6 7 "ZonedLightModel" "all" "[I") (by decide +kernel)) dX6_restsIn_5 ?_
  refine lv_sipush (v := nI 331) hx hb dX6_restsIn_8 (by decide) ?_
  refine g_ald hx hb hE hw (n := 335) (Nat.zero_lt_one) rfl (by decide) (by omega) dX6_restsIn_11 ?_
  refine lv_topi (fun x_11 ex_11 => ?_)
  have e11 : x_11 = σ 17 0 331 := by rw [ex_11, hp_1.2, ur_k (by decide)]
  refine lv_iadd hx hb dX6_restsIn_12 ?_
  refine lv_topi (fun x_12 ex_12 => ?_)
  refine lv_iconst (v := nI 1) hx hb dX6_restsIn_13 (by decide) ?_
  refine lv_isub hx hb dX6_restsIn_14 ?_
  refine lv_topi (fun x_14 ex_14 => ?_)
  refine lv_aload_n hx hb dX6_restsIn_15 rfl (lv_at hl 0 rfl) ?_
  refine gf_X6_all hx hb hE hw (Nat.zero_lt_one) hown (hts (.fieldLink RX6 7 "ZonedLightModel" "all" "[I") (by decide +kernel)) dX6_restsIn_16 ?_
  refine lv_sipush (v := nI 331) hx hb dX6_restsIn_19 (by decide) ?_
  refine g_ald hx hb hE hw (n := 335) (Nat.zero_lt_one) rfl (by decide) (by omega) dX6_restsIn_22 ?_
  refine lv_topi (fun x_22 ex_22 => ?_)
  have e22 : x_22 = σ 17 0 331 := by rw [ex_22, hp_1.2, ur_k (by decide)]
  refine lv_idiv hx hb dX6_restsIn_23 (fun g => by rw [← e22, g] at hst; exact absurd hst (by decide)) ?_
  refine lv_topi (fun x_23 ex_23 => ?_)
  refine g_iret hx hb hr hlk hE hw hS dX6_restsIn_24 ?_
  exact ⟨by rw [restsQ, rupF, if_pos hst, ex_23, ex_14, ex_12, e11, e22, hp_1.1]; rfl, by rw [hp_1.2]; exact sameM.rf.w1 (Or.inl (Or.inl rfl)) (by decide)⟩
set_option maxHeartbeats 4000000 in
set_option maxRecDepth 100000 in
/-- ZonedLightModel.leastStep(I)I -/
theorem c_X6_leastStep (l : Launch) (G : GG) (A : Nat → Prop) (σ : St) (f : Int32) (hok : okA (σ 17 0)) : MI l yX6_leastStep wsX6_leastStep 7 158 G A σ [.ref (G.1 16 0), .int f] (fun r τ => r = stepQ (σ 17 0) f ∧ keepM σ τ) := by
  refine MI.on (by decide) rfl (Nat.le_of_ble_eq_true rfl) (fun pP eE sS mM args below meth cC ls hx hb hml hr hown hlk hts hE hw hS hl => ?_)
  have hl : lv_has ls 2 [(0, .ref (G.1 16 0)), (1, .int f)] := hl
  refine lv_iload_n hx hb dX6_leastStep_0 rfl (lv_at hl 1 rfl) ?_
  refine lv_i2l hx hb dX6_leastStep_1 rfl ?_
  refine lv_lconst (v := (nI 1).toInt64) hx hb dX6_leastStep_2 (by decide +kernel) ?_
  refine lv_ldc2 (v := (nI 255).toInt64) hx hb hown (hts (.constantLong RX6 107 (nI 255).toInt64) (by decide +kernel)) dX6_leastStep_3 ?_
  refine g_Si (n := 3) (As := [.long (f.toInt64), .long ((nI 1).toInt64), .long ((nI 255).toInt64)]) (rest := []) hx hb hml hown hts hE hw hS gX6_leastStep_X6_in (c_X6_in l G A _ f (nI 1) (nI 255)) rfl (by decide +kernel) ⟨Nat.le_of_ble_eq_true rfl, Nat.le_of_ble_eq_true rfl⟩ rfl hl.1 rfl (Nat.le_of_ble_eq_true rfl) ⟨Nat.le_of_ble_eq_true rfl, Nat.le_of_ble_eq_true rfl⟩ dX6_leastStep_6 (fun x_6 τ_6 H locs hp_6 hw hS => ?_)
  obtain ⟨hb_6, hτ_6⟩ := hp_6
  rw [hτ_6] at hw
  refine lv_if_ne (tgt := 15) hx hb dX6_leastStep_9 (by decide) (fun c_9 => ?_) (fun c_9 => ?_)
  · have hbt := bP_t hb_6 c_9
    have hst : 0 < f := step_pos hbt.1
    refine lv_aload_n hx hb dX6_leastStep_15 rfl (lv_at hl 0 rfl) ?_
    refine g_Vi (n := 0) (As := []) (rest := []) hx hb hml hown hts hE hw hS gX6_leastStep_X6_farthest (c_X6_farthest l G A _ hok.1) rfl (by decide +kernel) ⟨Nat.le_of_ble_eq_true rfl, Nat.le_of_ble_eq_true rfl⟩ (Nat.zero_lt_one) rfl rfl rfl rfl hl.1 rfl (Nat.le_of_ble_eq_true rfl) ⟨Nat.le_of_ble_eq_true rfl, Nat.le_of_ble_eq_true rfl⟩ dX6_leastStep_16 (fun x_16 τ_16 H locs hp_16 hw hS => ?_)
    refine lv_iload_n hx hb dX6_leastStep_19 rfl (lv_at hl 1 rfl) ?_
    refine lv_iadd hx hb dX6_leastStep_20 ?_
    refine lv_topi (fun x_20 ex_20 => ?_)
    refine lv_iconst (v := nI 1) hx hb dX6_leastStep_21 (by decide) ?_
    refine lv_isub hx hb dX6_leastStep_22 ?_
    refine lv_topi (fun x_22 ex_22 => ?_)
    refine lv_iload_n hx hb dX6_leastStep_23 rfl (lv_at hl 1 rfl) ?_
    refine lv_idiv hx hb dX6_leastStep_24 (fun g => by rw [g] at hst; exact absurd hst (by decide)) ?_
    refine lv_topi (fun x_24 ex_24 => ?_)
    refine g_iret hx hb hr hlk hE hw hS dX6_leastStep_25 ?_
    exact ⟨by rw [stepQ, if_neg (fun g => g.elim hbt.1 hbt.2), rupF, if_pos hst, ex_24, ex_22, ex_20, hp_16.1]; rfl, by rw [hp_16.2]; exact sameM.rf.w1 (Or.inl (Or.inl rfl)) (by decide)⟩
  · refine lv_bipush (v := (-2)) hx hb dX6_leastStep_12 (by decide) ?_
    refine g_iret hx hb hr hlk hE hw hS dX6_leastStep_14 ?_
    exact ⟨(if_pos (Decidable.byContradiction fun g => bP_f hb_6 c_9 ⟨fun z => g (Or.inl z), fun z => g (Or.inr z)⟩)).symm, sameM.rf⟩
set_option maxHeartbeats 4000000 in
set_option maxRecDepth 100000 in
/-- ZonedLightModel.rested(I)I -/
theorem c_X6_rested (l : Launch) (G : GG) (A : Nat → Prop) (σ : St) (v : Int32) (hok : okW (σ 17 0)) (hlw : lowW (σ 20 0)) : MI l yX6_rested wsX6_rested 4 98 G A σ [.ref (G.1 16 0), .int v] (fun r τ => r = (if v = 0 then powK (σ 20 0) 18 else accZ (fS (σ 17 0) (σ 20 0) (if v = 1 then 3 else v - 1)) 0 18) ∧ τ = σ) := by
  refine MI.on (by decide) rfl (Nat.le_of_ble_eq_true rfl) (fun pP eE sS mM args below meth cC ls hx hb hml hr hown hlk hts hE hw hS hl => ?_)
  have hl : lv_has ls 2 [(0, .ref (G.1 16 0)), (1, .int v)] := hl
  refine lv_iload_n hx hb dX6_rested_0 rfl (lv_at hl 1 rfl) ?_
  refine lv_if_ne (tgt := 12) hx hb dX6_rested_1 (by decide) (fun c_1 => ?_) (fun c_1 => ?_)
  · refine lv_aload_n hx hb dX6_rested_12 rfl (lv_at hl 0 rfl) ?_
    refine lv_bipush (v := (-5)) hx hb dX6_rested_13 (by decide) ?_
    refine lv_iload_n hx hb dX6_rested_15 rfl (lv_at hl 1 rfl) ?_
    refine lv_iconst (v := nI 1) hx hb dX6_rested_16 (by decide) ?_
    refine lv_icmp_ne (tgt := 24) hx hb dX6_rested_17 (by decide) (fun c_17 => ?_) (fun c_17 => ?_)
    · refine lv_iload_n hx hb dX6_rested_24 rfl (lv_at hl 1 rfl) ?_
      refine lv_iconst (v := nI 1) hx hb dX6_rested_25 (by decide) ?_
      refine lv_isub hx hb dX6_rested_26 ?_
      refine lv_topi (fun x_26 ex_26 => ?_)
      refine lv_iconst (v := nI 1) hx hb dX6_rested_27 (by decide) ?_
      refine g_Vi (n := 3) (As := [.int (-5), .int x_26, .int (nI 1)]) (rest := []) hx hb hml hown hts hE hw hS gX6_rested_X6_over (c_X6_overW l G A _ x_26 hok hlw) rfl (by decide +kernel) ⟨Nat.le_of_ble_eq_true rfl, Nat.le_of_ble_eq_true rfl⟩ (Nat.zero_lt_one) rfl rfl rfl rfl hl.1 rfl (Nat.le_of_ble_eq_true rfl) ⟨Nat.le_of_ble_eq_true rfl, Nat.le_of_ble_eq_true rfl⟩ dX6_rested_28 (fun x_28 τ_28 H locs hp_28 hw hS => ?_)
      obtain ⟨ex_28, hτ_28⟩ := hp_28
      rw [hτ_28] at hw
      refine g_iret hx hb hr hlk hE hw hS dX6_rested_31 ?_
      first | exact ⟨by rw [if_pos c_1, ex_6], rfl⟩ | exact ⟨by rw [if_neg c_1, ex_28, if_pos (show v = 1 from c_17)]; rfl, rfl⟩ | exact ⟨by rw [if_neg c_1, ex_28, if_neg (show ¬ v = 1 from c_17), ex_26]; rfl, rfl⟩
    · refine lv_iconst (v := nI 3) hx hb dX6_rested_20 (by decide) ?_
      refine lv_goto (tgt := 27) hx hb dX6_rested_21 (by decide) ?_
      refine lv_iconst (v := nI 1) hx hb dX6_rested_27 (by decide) ?_
      refine g_Vi (n := 3) (As := [.int (-5), .int (nI 3), .int (nI 1)]) (rest := []) hx hb hml hown hts hE hw hS gX6_rested_X6_over (c_X6_overW l G A _ (nI 3) hok hlw) rfl (by decide +kernel) ⟨Nat.le_of_ble_eq_true rfl, Nat.le_of_ble_eq_true rfl⟩ (Nat.zero_lt_one) rfl rfl rfl rfl hl.1 rfl (Nat.le_of_ble_eq_true rfl) ⟨Nat.le_of_ble_eq_true rfl, Nat.le_of_ble_eq_true rfl⟩ dX6_rested_28 (fun x_28 τ_28 H locs hp_28 hw hS => ?_)
      obtain ⟨ex_28, hτ_28⟩ := hp_28
      rw [hτ_28] at hw
      refine g_iret hx hb hr hlk hE hw hS dX6_rested_31 ?_
      first | exact ⟨by rw [if_pos c_1, ex_6], rfl⟩ | exact ⟨by rw [if_neg c_1, ex_28, if_pos (show v = 1 from c_17)]; rfl, rfl⟩ | exact ⟨by rw [if_neg c_1, ex_28, if_neg (show ¬ v = 1 from c_17), ex_26]; rfl, rfl⟩
  · refine lv_aload_n hx hb dX6_rested_4 rfl (lv_at hl 0 rfl) ?_
    refine lv_iconst (v := nI 1) hx hb dX6_rested_5 (by decide) ?_
    refine g_Vi (n := 1) (As := [.int (nI 1)]) (rest := []) hx hb hml hown hts hE hw hS gX6_rested_X6_power (c_X6_powerW l G A _ ) rfl (by decide +kernel) ⟨Nat.le_of_ble_eq_true rfl, Nat.le_of_ble_eq_true rfl⟩ (Nat.zero_lt_one) rfl rfl rfl rfl hl.1 rfl (Nat.le_of_ble_eq_true rfl) ⟨Nat.le_of_ble_eq_true rfl, Nat.le_of_ble_eq_true rfl⟩ dX6_rested_6 (fun x_6 τ_6 H locs hp_6 hw hS => ?_)
    obtain ⟨ex_6, hτ_6⟩ := hp_6
    rw [hτ_6] at hw
    refine lv_goto (tgt := 31) hx hb dX6_rested_9 (by decide) ?_
    refine g_iret hx hb hr hlk hE hw hS dX6_rested_31 ?_
    first | exact ⟨by rw [if_pos c_1, ex_6], rfl⟩ | exact ⟨by rw [if_neg c_1, ex_28, if_pos (show v = 1 from c_17)]; rfl, rfl⟩ | exact ⟨by rw [if_neg c_1, ex_28, if_neg (show ¬ v = 1 from c_17), ex_26]; rfl, rfl⟩
set_option maxHeartbeats 4000000 in
set_option maxRecDepth 100000 in
/-- ZonedLightModel.ifRule(II)I -/
theorem c_X6_ifRule (l : Launch) (G : GG) (A : Nat → Prop) (σ : St) (q : Int32) (w : Int32) (hok : okA (σ 17 0)) : MI l yX6_ifRule wsX6_ifRule 6 135 G A σ [.ref (G.1 16 0), .int q, .int w] (fun r τ => r = ruleQ (σ 17 0) q w ∧ keepM σ τ) := by
  refine MI.on (by decide) rfl (Nat.le_of_ble_eq_true rfl) (fun pP eE sS mM args below meth cC ls hx hb hml hr hown hlk hts hE hw hS hl => ?_)
  have hl : lv_has ls 3 [(0, .ref (G.1 16 0)), (1, .int q), (2, .int w)] := hl
  refine lv_iload_n hx hb dX6_ifRule_0 rfl (lv_at hl 1 rfl) ?_
  refine lv_i2l hx hb dX6_ifRule_1 rfl ?_
  refine lv_lconst (v := (nI 0).toInt64) hx hb dX6_ifRule_2 (by decide +kernel) ?_
  refine lv_ldc2 (v := (nI 2).toInt64) hx hb hown (hts (.constantLong RX6 138 (nI 2).toInt64) (by decide +kernel)) dX6_ifRule_3 ?_
  refine g_Si (n := 3) (As := [.long (q.toInt64), .long ((nI 0).toInt64), .long ((nI 2).toInt64)]) (rest := []) hx hb hml hown hts hE hw hS gX6_ifRule_X6_in (c_X6_in l G A _ q (nI 0) (nI 2)) rfl (by decide +kernel) ⟨Nat.le_of_ble_eq_true rfl, Nat.le_of_ble_eq_true rfl⟩ rfl hl.1 rfl (Nat.le_of_ble_eq_true rfl) ⟨Nat.le_of_ble_eq_true rfl, Nat.le_of_ble_eq_true rfl⟩ dX6_ifRule_6 (fun x_6 τ_6 H locs hp_6 hw hS => ?_)
  obtain ⟨hb_6, hτ_6⟩ := hp_6
  rw [hτ_6] at hw
  refine lv_if_eq (tgt := 24) hx hb dX6_ifRule_9 (by decide) (fun c_9 => ?_) (fun c_9 => ?_)
  · refine lv_bipush (v := (-2)) hx hb dX6_ifRule_24 (by decide) ?_
    refine g_iret hx hb hr hlk hE hw hS dX6_ifRule_26 ?_
    first | exact ⟨(if_pos (rule_out (fun g => bP_f hb_6 c_9 g.1))).symm, sameM.rf⟩ | exact ⟨(if_pos (rule_out (fun g => bP_f hb_18 c_21 g.2))).symm, sameM.rf⟩
  · refine lv_iload_n hx hb dX6_ifRule_12 rfl (lv_at hl 2 rfl) ?_
    refine lv_i2l hx hb dX6_ifRule_13 rfl ?_
    refine lv_lconst (v := (nI 0).toInt64) hx hb dX6_ifRule_14 (by decide +kernel) ?_
    refine lv_ldc2 (v := (nI 3).toInt64) hx hb hown (hts (.constantLong RX6 112 (nI 3).toInt64) (by decide +kernel)) dX6_ifRule_15 ?_
    refine g_Si (n := 3) (As := [.long (w.toInt64), .long ((nI 0).toInt64), .long ((nI 3).toInt64)]) (rest := []) hx hb hml hown hts hE hw hS gX6_ifRule_X6_in (c_X6_in l G A _ w (nI 0) (nI 3)) rfl (by decide +kernel) ⟨Nat.le_of_ble_eq_true rfl, Nat.le_of_ble_eq_true rfl⟩ rfl hl.1 rfl (Nat.le_of_ble_eq_true rfl) ⟨Nat.le_of_ble_eq_true rfl, Nat.le_of_ble_eq_true rfl⟩ dX6_ifRule_18 (fun x_18 τ_18 H locs hp_18 hw hS => ?_)
    obtain ⟨hb_18, hτ_18⟩ := hp_18
    rw [hτ_18] at hw
    refine lv_if_ne (tgt := 27) hx hb dX6_ifRule_21 (by decide) (fun c_21 => ?_) (fun c_21 => ?_)
    · have h1 := bP_t hb_6 c_9
      have h2 := bP_t hb_18 c_21
      refine lv_aload_n hx hb dX6_ifRule_27 rfl (lv_at hl 0 rfl) ?_
      refine lv_iload_n hx hb dX6_ifRule_28 rfl (lv_at hl 1 rfl) ?_
      refine g_Vv (n := 1) (As := [.int q]) (rest := []) hx hb hml hown hts hE hw hS gX6_ifRule_X6_wants (c_X6_wants l G A _ q hok.1) rfl (by decide +kernel) ⟨Nat.le_of_ble_eq_true rfl, Nat.le_of_ble_eq_true rfl⟩ (Nat.zero_lt_one) rfl rfl rfl rfl hl.1 rfl (Nat.le_of_ble_eq_true rfl) ⟨Nat.le_of_ble_eq_true rfl, Nat.le_of_ble_eq_true rfl⟩ dX6_ifRule_29 (fun τ_29 H locs hp_29 hw hS => ?_)
      refine lv_aload_n hx hb dX6_ifRule_32 rfl (lv_at hl 0 rfl) ?_
      refine lv_iload_n hx hb dX6_ifRule_33 rfl (lv_at hl 2 rfl) ?_
      refine g_Vi (n := 1) (As := [.int w]) (rest := []) hx hb hml hown hts hE hw hS gX6_ifRule_X6_rested (c_X6_rested l G A _ w (by rw [hp_29, ur_k (by decide)]; exact hok.1) (by rw [hp_29, ur_same]; exact lowW_want hok.1 q)) rfl (by decide +kernel) ⟨Nat.le_of_ble_eq_true rfl, Nat.le_of_ble_eq_true rfl⟩ (Nat.zero_lt_one) rfl rfl rfl rfl hl.1 rfl (Nat.le_of_ble_eq_true rfl) ⟨Nat.le_of_ble_eq_true rfl, Nat.le_of_ble_eq_true rfl⟩ dX6_ifRule_34 (fun x_34 τ_34 H locs hp_34 hw hS => ?_)
      obtain ⟨ex_34, hτ_34⟩ := hp_34
      rw [hτ_34] at hw
      refine g_iret hx hb hr hlk hE hw hS dX6_ifRule_37 ?_
      exact ⟨by rw [ruleQ, if_neg (rule_in h1 h2), ex_34, hp_29, ur_same, ur_k (by decide)]; exact rest_rule (rule_4 h2), by rw [hp_29]; exact sameM.rf.w1 (Or.inl (Or.inl rfl)) (by decide)⟩
    · refine lv_bipush (v := (-2)) hx hb dX6_ifRule_24 (by decide) ?_
      refine g_iret hx hb hr hlk hE hw hS dX6_ifRule_26 ?_
      first | exact ⟨(if_pos (rule_out (fun g => bP_f hb_6 c_9 g.1))).symm, sameM.rf⟩ | exact ⟨(if_pos (rule_out (fun g => bP_f hb_18 c_21 g.2))).symm, sameM.rf⟩
set_option maxHeartbeats 4000000 in
set_option maxRecDepth 100000 in
/-- ZonedLightModel.bestRule()I -/
theorem c_X6_bestRule (l : Launch) (G : GG) (A : Nat → Prop) (σ : St)  (hok : okA (σ 17 0)) : MI l yX6_bestRule wsX6_bestRule 6 135 G A σ [.ref (G.1 16 0)] (fun r τ => r = (bestK (σ 17 0) 3).1 ∧ keepM σ τ) := by
  refine MI.on (by decide) rfl (Nat.le_of_ble_eq_true rfl) (fun pP eE sS mM args below meth cC ls hx hb hml hr hown hlk hts hE hw hS hl => ?_)
  have hl : lv_has ls 8 [(0, .ref (G.1 16 0))] := hl
  refine lv_iconst (v := nI 0) hx hb dX6_bestRule_0 (by decide) ?_
  refine lv_istore_n (lv' := [(1, .int (nI 0)), (0, .ref (G.1 16 0))]) hx hb dX6_bestRule_1 rfl hl (by decide) rfl (fun ls hl => ?_)
  refine lv_iconst (v := nI 0) hx hb dX6_bestRule_2 (by decide) ?_
  refine lv_istore_n (lv' := [(2, .int (nI 0)), (1, .int (nI 0)), (0, .ref (G.1 16 0))]) hx hb dX6_bestRule_3 rfl hl (by decide) rfl (fun ls hl => ?_)
  refine lv_iconst (v := nI 0) hx hb dX6_bestRule_4 (by decide) ?_
  refine lv_istore_n (lv' := [(3, .int (nI 0)), (2, .int (nI 0)), (1, .int (nI 0)), (0, .ref (G.1 16 0))]) hx hb dX6_bestRule_5 rfl hl (by decide) rfl (fun ls hl => ?_)
  refine lv_iconst (v := nI 0) hx hb dX6_bestRule_6 (by decide) ?_
  refine lv_istore (lv' := [(4, .int (nI 0)), (3, .int (nI 0)), (2, .int (nI 0)), (1, .int (nI 0)), (0, .ref (G.1 16 0))]) hx hb dX6_bestRule_7 hl (by decide) rfl (fun ls hl => ?_)
  have K_9 : ∀ (fuel : Nat) (k : Nat) (be : Int32) (lo : Int32) (lp : Int32) (σ2 : St), (k ≤ 3) → (bestK (σ 17 0) k = (be, lo, lp)) → (keepM σ σ2) → (σ2 17 0 = σ 17 0) → 3 - k < fuel → ∀ (H : Heap) (locs : List Loc) (ls : Array Slot), Wcel G σ2 H → va_S A sS.heap H locs → lv_has ls 8 [(0, .ref (G.1 16 0)), (1, .int be), (2, .int lo), (3, .int lp), (4, .int (nI k))] → W pP l eE { frames := 6, cells := 0, slots := 0, locals := 135 } sS mM args below meth cC H locs 0 0 (MQ below (va_Qi (fun r τ => r = (bestK (σ 17 0) 3).1 ∧ keepM σ τ) (fun τ t => gP G A τ t) A) args sS 0 0 A) (F0 mM 9 ls []) := by
    intro fuel
    induction fuel with
    | zero =>
      intro k be lo lp σ2 hk hbe hkk h17 hfu
      exact absurd hfu (Nat.not_lt_zero _)
    | succ fuel K_9 =>
      intro k be lo lp σ2 hk hbe hkk h17 hfu H locs ls hw hS hl
      refine lv_iload hx hb dX6_bestRule_9 (lv_at hl 4 rfl) ?_
      refine lv_iconst (v := nI 3) hx hb dX6_bestRule_11 (by decide) ?_
      refine n_cmp_ge (tgt := 107) hx hb dX6_bestRule_12 (by decide) (by omega) (by omega) (fun c_12 => ?_) (fun c_12 => ?_)
      · refine lv_iload_n hx hb dX6_bestRule_107 rfl (lv_at hl 1 rfl) ?_
        refine g_iret hx hb hr hlk hE hw hS dX6_bestRule_108 ?_
        exact ⟨by rw [← show k = 3 by omega, hbe], hkk⟩
      · refine lv_aload_n hx hb dX6_bestRule_15 rfl (lv_at hl 0 rfl) ?_
        refine lv_iload hx hb dX6_bestRule_16 (lv_at hl 4 rfl) ?_
        refine g_Vv (n := 1) (As := [.int (nI k)]) (rest := []) hx hb hml hown hts hE hw hS gX6_bestRule_X6_wants (c_X6_wants l G A _ (nI k) (by rw [h17]; exact hok.1)) rfl (by decide +kernel) ⟨Nat.le_of_ble_eq_true rfl, Nat.le_of_ble_eq_true rfl⟩ (Nat.zero_lt_one) rfl rfl rfl rfl hl.1 rfl (Nat.le_of_ble_eq_true rfl) ⟨Nat.le_of_ble_eq_true rfl, Nat.le_of_ble_eq_true rfl⟩ dX6_bestRule_18 (fun τ_18 H locs hp_18 hw hS => ?_)
        have e20 : τ_18 20 0 = wantF (σ 17 0) (nI k) := by rw [hp_18, ur_same, h17]
        have e17 : τ_18 17 0 = σ 17 0 := by rw [hp_18, ur_k (by decide), h17]
        have hkp2 : keepM σ τ_18 := by rw [hp_18]; exact hkk.w1 (Or.inl (Or.inl rfl)) (by decide)
        refine lv_aload_n hx hb dX6_bestRule_21 rfl (lv_at hl 0 rfl) ?_
        refine lv_iconst (v := nI 1) hx hb dX6_bestRule_22 (by decide) ?_
        refine g_Vi (n := 1) (As := [.int (nI 1)]) (rest := []) hx hb hml hown hts hE hw hS gX6_bestRule_X6_rested (c_X6_rested l G A _ (nI 1) (by rw [e17]; exact hok.1) (by rw [e20]; exact lowW_want hok.1 _)) rfl (by decide +kernel) ⟨Nat.le_of_ble_eq_true rfl, Nat.le_of_ble_eq_true rfl⟩ (Nat.zero_lt_one) rfl rfl rfl rfl hl.1 rfl (Nat.le_of_ble_eq_true rfl) ⟨Nat.le_of_ble_eq_true rfl, Nat.le_of_ble_eq_true rfl⟩ dX6_bestRule_23 (fun x_23 τ_23 H locs hp_23 hw hS => ?_)
        obtain ⟨ex_23, hτ_23⟩ := hp_23
        rw [hτ_23] at hw
        have eo : offR (σ 17 0) k = x_23 := by rw [ex_23, e20, e17, restd_1]; rfl
        refine lv_istore (lv' := [(5, .int x_23), (0, .ref (G.1 16 0)), (1, .int be), (2, .int lo), (3, .int lp), (4, .int (nI k))]) hx hb dX6_bestRule_26 hl (by decide) rfl (fun ls hl => ?_)
        refine lv_aload_n hx hb dX6_bestRule_28 rfl (lv_at hl 1 rfl) ?_
        refine lv_iconst (v := nI 0) hx hb dX6_bestRule_29 (by decide) ?_
        refine g_Vi (n := 1) (As := [.int (nI 0)]) (rest := []) hx hb hml hown hts hE hw hS gX6_bestRule_X6_rested (c_X6_rested l G A _ (nI 0) (by rw [e17]; exact hok.1) (by rw [e20]; exact lowW_want hok.1 _)) rfl (by decide +kernel) ⟨Nat.le_of_ble_eq_true rfl, Nat.le_of_ble_eq_true rfl⟩ (Nat.zero_lt_one) rfl rfl rfl rfl hl.1 rfl (Nat.le_of_ble_eq_true rfl) ⟨Nat.le_of_ble_eq_true rfl, Nat.le_of_ble_eq_true rfl⟩ dX6_bestRule_30 (fun x_30 τ_30 H locs hp_30 hw hS => ?_)
        obtain ⟨ex_30, hτ_30⟩ := hp_30
        rw [hτ_30] at hw
        have epw : powR (σ 17 0) k = x_30 := by rw [ex_30, e20, restd_0]; rfl
        refine lv_istore (lv' := [(6, .int x_30), (5, .int x_23), (0, .ref (G.1 16 0)), (1, .int be), (2, .int lo), (3, .int lp), (4, .int (nI k))]) hx hb dX6_bestRule_33 hl (by decide) rfl (fun ls hl => ?_)
        have K_65 : ∀ (b : Int32), (bP b (k = 0 ∨ offR (σ 17 0) k < lo ∨ (offR (σ 17 0) k = lo ∧ powR (σ 17 0) k < lp))) → ∀ (H : Heap) (locs : List Loc) (ls : Array Slot), Wcel G τ_18 H → va_S A sS.heap H locs → lv_has ls 8 [(0, .ref (G.1 16 0)), (1, .int be), (2, .int lo), (3, .int lp), (4, .int (nI k)), (5, .int x_23), (6, .int x_30), (7, .int b)] → W pP l eE { frames := 6, cells := 0, slots := 0, locals := 135 } sS mM args below meth cC H locs 0 0 (MQ below (va_Qi (fun r τ => r = (bestK (σ 17 0) 3).1 ∧ keepM σ τ) (fun τ t => gP G A τ t) A) args sS 0 0 A) (F0 mM 65 ls []) := by
          intro b hbb H locs ls hw hS hl
          refine lv_iload hx hb dX6_bestRule_65 (lv_at hl 7 rfl) ?_
          refine lv_if_eq (tgt := 75) hx hb dX6_bestRule_67 (by decide) (fun c_67 => ?_) (fun c_67 => ?_)
          · refine lv_iload_n hx hb dX6_bestRule_75 rfl (lv_at hl 1 rfl) ?_
            refine lv_istore_n (lv' := [(1, .int be), (0, .ref (G.1 16 0)), (2, .int lo), (3, .int lp), (4, .int (nI k)), (5, .int x_23), (6, .int x_30), (7, .int b)]) hx hb dX6_bestRule_76 rfl hl (by decide) rfl (fun ls hl => ?_)
            refine lv_iload hx hb dX6_bestRule_77 (lv_at hl 7 rfl) ?_
            refine lv_if_eq (tgt := 87) hx hb dX6_bestRule_79 (by decide) (fun c_79 => ?_) (fun c_79 => ?_)
            · refine lv_iload_n hx hb dX6_bestRule_87 rfl (lv_at hl 2 rfl) ?_
              refine lv_istore_n (lv' := [(2, .int lo), (1, .int be), (0, .ref (G.1 16 0)), (3, .int lp), (4, .int (nI k)), (5, .int x_23), (6, .int x_30), (7, .int b)]) hx hb dX6_bestRule_88 rfl hl (by decide) rfl (fun ls hl => ?_)
              refine lv_iload hx hb dX6_bestRule_89 (lv_at hl 7 rfl) ?_
              refine lv_if_eq (tgt := 99) hx hb dX6_bestRule_91 (by decide) (fun c_91 => ?_) (fun c_91 => ?_)
              · refine lv_iload_n hx hb dX6_bestRule_99 rfl (lv_at hl 3 rfl) ?_
                refine lv_istore_n (lv' := [(3, .int lp), (2, .int lo), (1, .int be), (0, .ref (G.1 16 0)), (4, .int (nI k)), (5, .int x_23), (6, .int x_30), (7, .int b)]) hx hb dX6_bestRule_100 rfl hl (by decide) rfl (fun ls hl => ?_)
                refine lv_iinc (v := nI (k + 1)) (lv' := [(4, .int (nI (k + 1))), (3, .int lp), (2, .int lo), (1, .int be), (0, .ref (G.1 16 0)), (5, .int x_23), (6, .int x_30), (7, .int b)]) hx hb dX6_bestRule_101 hl (k := 4) rfl (nI_add _ _) (by decide) rfl (fun ls hl => ?_)
                refine lv_goto (tgt := 9) hx hb dX6_bestRule_104 (by decide) ?_
                exact K_9 (k + 1) be lo lp _ (by first | omega | assumption | rfl) (by first | exact absurd c_79 c_67 | exact absurd c_67 c_79 | exact absurd c_91 c_67 | exact absurd c_67 c_91 | exact absurd c_79 c_91 | exact absurd c_91 c_79 | (rw [bestK, if_pos (by have h := bP_t hbb c_67; rw [hbe]; exact h), eo, epw]) | (rw [bestK, if_neg (by have h := bP_f hbb c_67; rw [hbe]; exact h)]; exact hbe)) hkp2 e17 (by omega) _ _ _ hw hS (lv_sub hl [4, 3, 2, 1, 0] rfl)
              · refine lv_iload hx hb dX6_bestRule_94 (lv_at hl 6 rfl) ?_
                refine lv_goto (tgt := 100) hx hb dX6_bestRule_96 (by decide) ?_
                refine lv_istore_n (lv' := [(3, .int x_30), (2, .int lo), (1, .int be), (0, .ref (G.1 16 0)), (4, .int (nI k)), (5, .int x_23), (6, .int x_30), (7, .int b)]) hx hb dX6_bestRule_100 rfl hl (by decide) rfl (fun ls hl => ?_)
                refine lv_iinc (v := nI (k + 1)) (lv' := [(4, .int (nI (k + 1))), (3, .int x_30), (2, .int lo), (1, .int be), (0, .ref (G.1 16 0)), (5, .int x_23), (6, .int x_30), (7, .int b)]) hx hb dX6_bestRule_101 hl (k := 4) rfl (nI_add _ _) (by decide) rfl (fun ls hl => ?_)
                refine lv_goto (tgt := 9) hx hb dX6_bestRule_104 (by decide) ?_
                exact K_9 (k + 1) be lo x_30 _ (by first | omega | assumption | rfl) (by first | exact absurd c_79 c_67 | exact absurd c_67 c_79 | exact absurd c_91 c_67 | exact absurd c_67 c_91 | exact absurd c_79 c_91 | exact absurd c_91 c_79 | (rw [bestK, if_pos (by have h := bP_t hbb c_67; rw [hbe]; exact h), eo, epw]) | (rw [bestK, if_neg (by have h := bP_f hbb c_67; rw [hbe]; exact h)]; exact hbe)) hkp2 e17 (by omega) _ _ _ hw hS (lv_sub hl [4, 3, 2, 1, 0] rfl)
            · refine lv_iload hx hb dX6_bestRule_82 (lv_at hl 5 rfl) ?_
              refine lv_goto (tgt := 88) hx hb dX6_bestRule_84 (by decide) ?_
              refine lv_istore_n (lv' := [(2, .int x_23), (1, .int be), (0, .ref (G.1 16 0)), (3, .int lp), (4, .int (nI k)), (5, .int x_23), (6, .int x_30), (7, .int b)]) hx hb dX6_bestRule_88 rfl hl (by decide) rfl (fun ls hl => ?_)
              refine lv_iload hx hb dX6_bestRule_89 (lv_at hl 7 rfl) ?_
              refine lv_if_eq (tgt := 99) hx hb dX6_bestRule_91 (by decide) (fun c_91 => ?_) (fun c_91 => ?_)
              · refine lv_iload_n hx hb dX6_bestRule_99 rfl (lv_at hl 3 rfl) ?_
                refine lv_istore_n (lv' := [(3, .int lp), (2, .int x_23), (1, .int be), (0, .ref (G.1 16 0)), (4, .int (nI k)), (5, .int x_23), (6, .int x_30), (7, .int b)]) hx hb dX6_bestRule_100 rfl hl (by decide) rfl (fun ls hl => ?_)
                refine lv_iinc (v := nI (k + 1)) (lv' := [(4, .int (nI (k + 1))), (3, .int lp), (2, .int x_23), (1, .int be), (0, .ref (G.1 16 0)), (5, .int x_23), (6, .int x_30), (7, .int b)]) hx hb dX6_bestRule_101 hl (k := 4) rfl (nI_add _ _) (by decide) rfl (fun ls hl => ?_)
                refine lv_goto (tgt := 9) hx hb dX6_bestRule_104 (by decide) ?_
                exact K_9 (k + 1) be x_23 lp _ (by first | omega | assumption | rfl) (by first | exact absurd c_79 c_67 | exact absurd c_67 c_79 | exact absurd c_91 c_67 | exact absurd c_67 c_91 | exact absurd c_79 c_91 | exact absurd c_91 c_79 | (rw [bestK, if_pos (by have h := bP_t hbb c_67; rw [hbe]; exact h), eo, epw]) | (rw [bestK, if_neg (by have h := bP_f hbb c_67; rw [hbe]; exact h)]; exact hbe)) hkp2 e17 (by omega) _ _ _ hw hS (lv_sub hl [4, 3, 2, 1, 0] rfl)
              · refine lv_iload hx hb dX6_bestRule_94 (lv_at hl 6 rfl) ?_
                refine lv_goto (tgt := 100) hx hb dX6_bestRule_96 (by decide) ?_
                refine lv_istore_n (lv' := [(3, .int x_30), (2, .int x_23), (1, .int be), (0, .ref (G.1 16 0)), (4, .int (nI k)), (5, .int x_23), (6, .int x_30), (7, .int b)]) hx hb dX6_bestRule_100 rfl hl (by decide) rfl (fun ls hl => ?_)
                refine lv_iinc (v := nI (k + 1)) (lv' := [(4, .int (nI (k + 1))), (3, .int x_30), (2, .int x_23), (1, .int be), (0, .ref (G.1 16 0)), (5, .int x_23), (6, .int x_30), (7, .int b)]) hx hb dX6_bestRule_101 hl (k := 4) rfl (nI_add _ _) (by decide) rfl (fun ls hl => ?_)
                refine lv_goto (tgt := 9) hx hb dX6_bestRule_104 (by decide) ?_
                exact K_9 (k + 1) be x_23 x_30 _ (by first | omega | assumption | rfl) (by first | exact absurd c_79 c_67 | exact absurd c_67 c_79 | exact absurd c_91 c_67 | exact absurd c_67 c_91 | exact absurd c_79 c_91 | exact absurd c_91 c_79 | (rw [bestK, if_pos (by have h := bP_t hbb c_67; rw [hbe]; exact h), eo, epw]) | (rw [bestK, if_neg (by have h := bP_f hbb c_67; rw [hbe]; exact h)]; exact hbe)) hkp2 e17 (by omega) _ _ _ hw hS (lv_sub hl [4, 3, 2, 1, 0] rfl)
          · refine lv_iload hx hb dX6_bestRule_70 (lv_at hl 4 rfl) ?_
            refine lv_goto (tgt := 76) hx hb dX6_bestRule_72 (by decide) ?_
            refine lv_istore_n (lv' := [(1, .int (nI k)), (0, .ref (G.1 16 0)), (2, .int lo), (3, .int lp), (4, .int (nI k)), (5, .int x_23), (6, .int x_30), (7, .int b)]) hx hb dX6_bestRule_76 rfl hl (by decide) rfl (fun ls hl => ?_)
            refine lv_iload hx hb dX6_bestRule_77 (lv_at hl 7 rfl) ?_
            refine lv_if_eq (tgt := 87) hx hb dX6_bestRule_79 (by decide) (fun c_79 => ?_) (fun c_79 => ?_)
            · refine lv_iload_n hx hb dX6_bestRule_87 rfl (lv_at hl 2 rfl) ?_
              refine lv_istore_n (lv' := [(2, .int lo), (1, .int (nI k)), (0, .ref (G.1 16 0)), (3, .int lp), (4, .int (nI k)), (5, .int x_23), (6, .int x_30), (7, .int b)]) hx hb dX6_bestRule_88 rfl hl (by decide) rfl (fun ls hl => ?_)
              refine lv_iload hx hb dX6_bestRule_89 (lv_at hl 7 rfl) ?_
              refine lv_if_eq (tgt := 99) hx hb dX6_bestRule_91 (by decide) (fun c_91 => ?_) (fun c_91 => ?_)
              · refine lv_iload_n hx hb dX6_bestRule_99 rfl (lv_at hl 3 rfl) ?_
                refine lv_istore_n (lv' := [(3, .int lp), (2, .int lo), (1, .int (nI k)), (0, .ref (G.1 16 0)), (4, .int (nI k)), (5, .int x_23), (6, .int x_30), (7, .int b)]) hx hb dX6_bestRule_100 rfl hl (by decide) rfl (fun ls hl => ?_)
                refine lv_iinc (v := nI (k + 1)) (lv' := [(4, .int (nI (k + 1))), (3, .int lp), (2, .int lo), (1, .int (nI k)), (0, .ref (G.1 16 0)), (5, .int x_23), (6, .int x_30), (7, .int b)]) hx hb dX6_bestRule_101 hl (k := 4) rfl (nI_add _ _) (by decide) rfl (fun ls hl => ?_)
                refine lv_goto (tgt := 9) hx hb dX6_bestRule_104 (by decide) ?_
                exact K_9 (k + 1) (nI k) lo lp _ (by first | omega | assumption | rfl) (by first | exact absurd c_79 c_67 | exact absurd c_67 c_79 | exact absurd c_91 c_67 | exact absurd c_67 c_91 | exact absurd c_79 c_91 | exact absurd c_91 c_79 | (rw [bestK, if_pos (by have h := bP_t hbb c_67; rw [hbe]; exact h), eo, epw]) | (rw [bestK, if_neg (by have h := bP_f hbb c_67; rw [hbe]; exact h)]; exact hbe)) hkp2 e17 (by omega) _ _ _ hw hS (lv_sub hl [4, 3, 2, 1, 0] rfl)
              · refine lv_iload hx hb dX6_bestRule_94 (lv_at hl 6 rfl) ?_
                refine lv_goto (tgt := 100) hx hb dX6_bestRule_96 (by decide) ?_
                refine lv_istore_n (lv' := [(3, .int x_30), (2, .int lo), (1, .int (nI k)), (0, .ref (G.1 16 0)), (4, .int (nI k)), (5, .int x_23), (6, .int x_30), (7, .int b)]) hx hb dX6_bestRule_100 rfl hl (by decide) rfl (fun ls hl => ?_)
                refine lv_iinc (v := nI (k + 1)) (lv' := [(4, .int (nI (k + 1))), (3, .int x_30), (2, .int lo), (1, .int (nI k)), (0, .ref (G.1 16 0)), (5, .int x_23), (6, .int x_30), (7, .int b)]) hx hb dX6_bestRule_101 hl (k := 4) rfl (nI_add _ _) (by decide) rfl (fun ls hl => ?_)
                refine lv_goto (tgt := 9) hx hb dX6_bestRule_104 (by decide) ?_
                exact K_9 (k + 1) (nI k) lo x_30 _ (by first | omega | assumption | rfl) (by first | exact absurd c_79 c_67 | exact absurd c_67 c_79 | exact absurd c_91 c_67 | exact absurd c_67 c_91 | exact absurd c_79 c_91 | exact absurd c_91 c_79 | (rw [bestK, if_pos (by have h := bP_t hbb c_67; rw [hbe]; exact h), eo, epw]) | (rw [bestK, if_neg (by have h := bP_f hbb c_67; rw [hbe]; exact h)]; exact hbe)) hkp2 e17 (by omega) _ _ _ hw hS (lv_sub hl [4, 3, 2, 1, 0] rfl)
            · refine lv_iload hx hb dX6_bestRule_82 (lv_at hl 5 rfl) ?_
              refine lv_goto (tgt := 88) hx hb dX6_bestRule_84 (by decide) ?_
              refine lv_istore_n (lv' := [(2, .int x_23), (1, .int (nI k)), (0, .ref (G.1 16 0)), (3, .int lp), (4, .int (nI k)), (5, .int x_23), (6, .int x_30), (7, .int b)]) hx hb dX6_bestRule_88 rfl hl (by decide) rfl (fun ls hl => ?_)
              refine lv_iload hx hb dX6_bestRule_89 (lv_at hl 7 rfl) ?_
              refine lv_if_eq (tgt := 99) hx hb dX6_bestRule_91 (by decide) (fun c_91 => ?_) (fun c_91 => ?_)
              · refine lv_iload_n hx hb dX6_bestRule_99 rfl (lv_at hl 3 rfl) ?_
                refine lv_istore_n (lv' := [(3, .int lp), (2, .int x_23), (1, .int (nI k)), (0, .ref (G.1 16 0)), (4, .int (nI k)), (5, .int x_23), (6, .int x_30), (7, .int b)]) hx hb dX6_bestRule_100 rfl hl (by decide) rfl (fun ls hl => ?_)
                refine lv_iinc (v := nI (k + 1)) (lv' := [(4, .int (nI (k + 1))), (3, .int lp), (2, .int x_23), (1, .int (nI k)), (0, .ref (G.1 16 0)), (5, .int x_23), (6, .int x_30), (7, .int b)]) hx hb dX6_bestRule_101 hl (k := 4) rfl (nI_add _ _) (by decide) rfl (fun ls hl => ?_)
                refine lv_goto (tgt := 9) hx hb dX6_bestRule_104 (by decide) ?_
                exact K_9 (k + 1) (nI k) x_23 lp _ (by first | omega | assumption | rfl) (by first | exact absurd c_79 c_67 | exact absurd c_67 c_79 | exact absurd c_91 c_67 | exact absurd c_67 c_91 | exact absurd c_79 c_91 | exact absurd c_91 c_79 | (rw [bestK, if_pos (by have h := bP_t hbb c_67; rw [hbe]; exact h), eo, epw]) | (rw [bestK, if_neg (by have h := bP_f hbb c_67; rw [hbe]; exact h)]; exact hbe)) hkp2 e17 (by omega) _ _ _ hw hS (lv_sub hl [4, 3, 2, 1, 0] rfl)
              · refine lv_iload hx hb dX6_bestRule_94 (lv_at hl 6 rfl) ?_
                refine lv_goto (tgt := 100) hx hb dX6_bestRule_96 (by decide) ?_
                refine lv_istore_n (lv' := [(3, .int x_30), (2, .int x_23), (1, .int (nI k)), (0, .ref (G.1 16 0)), (4, .int (nI k)), (5, .int x_23), (6, .int x_30), (7, .int b)]) hx hb dX6_bestRule_100 rfl hl (by decide) rfl (fun ls hl => ?_)
                refine lv_iinc (v := nI (k + 1)) (lv' := [(4, .int (nI (k + 1))), (3, .int x_30), (2, .int x_23), (1, .int (nI k)), (0, .ref (G.1 16 0)), (5, .int x_23), (6, .int x_30), (7, .int b)]) hx hb dX6_bestRule_101 hl (k := 4) rfl (nI_add _ _) (by decide) rfl (fun ls hl => ?_)
                refine lv_goto (tgt := 9) hx hb dX6_bestRule_104 (by decide) ?_
                exact K_9 (k + 1) (nI k) x_23 x_30 _ (by first | omega | assumption | rfl) (by first | exact absurd c_79 c_67 | exact absurd c_67 c_79 | exact absurd c_91 c_67 | exact absurd c_67 c_91 | exact absurd c_79 c_91 | exact absurd c_91 c_79 | (rw [bestK, if_pos (by have h := bP_t hbb c_67; rw [hbe]; exact h), eo, epw]) | (rw [bestK, if_neg (by have h := bP_f hbb c_67; rw [hbe]; exact h)]; exact hbe)) hkp2 e17 (by omega) _ _ _ hw hS (lv_sub hl [4, 3, 2, 1, 0] rfl)
        refine lv_iload hx hb dX6_bestRule_35 (lv_at hl 6 rfl) ?_
        refine n_if_eq (tgt := 58) hx hb dX6_bestRule_37 (by decide) (by omega) (fun c_37 => ?_) (fun c_37 => ?_)
        · refine lv_iconst (v := nI 1) hx hb dX6_bestRule_58 (by decide) ?_
          refine lv_goto (tgt := 63) hx hb dX6_bestRule_59 (by decide) ?_
          refine lv_istore (lv' := [(7, .int (nI 1)), (6, .int x_30), (5, .int x_23), (0, .ref (G.1 16 0)), (1, .int be), (2, .int lo), (3, .int lp), (4, .int (nI k))]) hx hb dX6_bestRule_63 hl (by decide) rfl (fun ls hl => ?_)
          exact K_65 (nI 1) (by first | exact Or.inl ⟨rfl, Or.inl c_37⟩ | exact Or.inl ⟨rfl, Or.inr (Or.inl (by rw [eo]; exact c_43))⟩ | exact Or.inl ⟨rfl, Or.inr (Or.inr ⟨by rw [eo]; exact c_49, by rw [epw]; exact Int32.not_le.mp c_55⟩)⟩ | exact Or.inr ⟨rfl, by rw [eo]; rintro (g | g | g); exact absurd g (by omega); exact c_43 g; exact c_49 g.1⟩ | exact Or.inr ⟨rfl, by rw [eo, epw]; rintro (g | g | g); exact absurd g (by omega); exact c_43 g; exact Int32.not_lt.mpr c_55 g.2⟩) _ _ _ hw hS (lv_sub hl [3, 4, 5, 6, 7, 2, 1, 0] rfl)
        · refine lv_iload hx hb dX6_bestRule_40 (lv_at hl 1 rfl) ?_
          refine lv_iload_n hx hb dX6_bestRule_42 rfl (lv_at hl 4 rfl) ?_
          refine lv_icmp_lt (tgt := 58) hx hb dX6_bestRule_43 (by decide) (fun c_43 => ?_) (fun c_43 => ?_)
          · refine lv_iconst (v := nI 1) hx hb dX6_bestRule_58 (by decide) ?_
            refine lv_goto (tgt := 63) hx hb dX6_bestRule_59 (by decide) ?_
            refine lv_istore (lv' := [(7, .int (nI 1)), (6, .int x_30), (5, .int x_23), (0, .ref (G.1 16 0)), (1, .int be), (2, .int lo), (3, .int lp), (4, .int (nI k))]) hx hb dX6_bestRule_63 hl (by decide) rfl (fun ls hl => ?_)
            exact K_65 (nI 1) (by first | exact Or.inl ⟨rfl, Or.inl c_37⟩ | exact Or.inl ⟨rfl, Or.inr (Or.inl (by rw [eo]; exact c_43))⟩ | exact Or.inl ⟨rfl, Or.inr (Or.inr ⟨by rw [eo]; exact c_49, by rw [epw]; exact Int32.not_le.mp c_55⟩)⟩ | exact Or.inr ⟨rfl, by rw [eo]; rintro (g | g | g); exact absurd g (by omega); exact c_43 g; exact c_49 g.1⟩ | exact Or.inr ⟨rfl, by rw [eo, epw]; rintro (g | g | g); exact absurd g (by omega); exact c_43 g; exact Int32.not_lt.mpr c_55 g.2⟩) _ _ _ hw hS (lv_sub hl [3, 4, 5, 6, 7, 2, 1, 0] rfl)
          · refine lv_iload hx hb dX6_bestRule_46 (lv_at hl 1 rfl) ?_
            refine lv_iload_n hx hb dX6_bestRule_48 rfl (lv_at hl 4 rfl) ?_
            refine lv_icmp_ne (tgt := 62) hx hb dX6_bestRule_49 (by decide) (fun c_49 => ?_) (fun c_49 => ?_)
            · refine lv_iconst (v := nI 0) hx hb dX6_bestRule_62 (by decide) ?_
              refine lv_istore (lv' := [(7, .int (nI 0)), (6, .int x_30), (5, .int x_23), (0, .ref (G.1 16 0)), (1, .int be), (2, .int lo), (3, .int lp), (4, .int (nI k))]) hx hb dX6_bestRule_63 hl (by decide) rfl (fun ls hl => ?_)
              exact K_65 (nI 0) (by first | exact Or.inl ⟨rfl, Or.inl c_37⟩ | exact Or.inl ⟨rfl, Or.inr (Or.inl (by rw [eo]; exact c_43))⟩ | exact Or.inl ⟨rfl, Or.inr (Or.inr ⟨by rw [eo]; exact c_49, by rw [epw]; exact Int32.not_le.mp c_55⟩)⟩ | exact Or.inr ⟨rfl, by rw [eo]; rintro (g | g | g); exact absurd g (by omega); exact c_43 g; exact c_49 g.1⟩ | exact Or.inr ⟨rfl, by rw [eo, epw]; rintro (g | g | g); exact absurd g (by omega); exact c_43 g; exact Int32.not_lt.mpr c_55 g.2⟩) _ _ _ hw hS (lv_sub hl [3, 4, 5, 6, 7, 2, 1, 0] rfl)
            · refine lv_iload hx hb dX6_bestRule_52 (lv_at hl 0 rfl) ?_
              refine lv_iload_n hx hb dX6_bestRule_54 rfl (lv_at hl 5 rfl) ?_
              refine lv_icmp_ge (tgt := 62) hx hb dX6_bestRule_55 (by decide) (fun c_55 => ?_) (fun c_55 => ?_)
              · refine lv_iconst (v := nI 0) hx hb dX6_bestRule_62 (by decide) ?_
                refine lv_istore (lv' := [(7, .int (nI 0)), (6, .int x_30), (5, .int x_23), (0, .ref (G.1 16 0)), (1, .int be), (2, .int lo), (3, .int lp), (4, .int (nI k))]) hx hb dX6_bestRule_63 hl (by decide) rfl (fun ls hl => ?_)
                exact K_65 (nI 0) (by first | exact Or.inl ⟨rfl, Or.inl c_37⟩ | exact Or.inl ⟨rfl, Or.inr (Or.inl (by rw [eo]; exact c_43))⟩ | exact Or.inl ⟨rfl, Or.inr (Or.inr ⟨by rw [eo]; exact c_49, by rw [epw]; exact Int32.not_le.mp c_55⟩)⟩ | exact Or.inr ⟨rfl, by rw [eo]; rintro (g | g | g); exact absurd g (by omega); exact c_43 g; exact c_49 g.1⟩ | exact Or.inr ⟨rfl, by rw [eo, epw]; rintro (g | g | g); exact absurd g (by omega); exact c_43 g; exact Int32.not_lt.mpr c_55 g.2⟩) _ _ _ hw hS (lv_sub hl [3, 4, 5, 6, 7, 2, 1, 0] rfl)
              · refine lv_iconst (v := nI 1) hx hb dX6_bestRule_58 (by decide) ?_
                refine lv_goto (tgt := 63) hx hb dX6_bestRule_59 (by decide) ?_
                refine lv_istore (lv' := [(7, .int (nI 1)), (6, .int x_30), (5, .int x_23), (0, .ref (G.1 16 0)), (1, .int be), (2, .int lo), (3, .int lp), (4, .int (nI k))]) hx hb dX6_bestRule_63 hl (by decide) rfl (fun ls hl => ?_)
                exact K_65 (nI 1) (by first | exact Or.inl ⟨rfl, Or.inl c_37⟩ | exact Or.inl ⟨rfl, Or.inr (Or.inl (by rw [eo]; exact c_43))⟩ | exact Or.inl ⟨rfl, Or.inr (Or.inr ⟨by rw [eo]; exact c_49, by rw [epw]; exact Int32.not_le.mp c_55⟩)⟩ | exact Or.inr ⟨rfl, by rw [eo]; rintro (g | g | g); exact absurd g (by omega); exact c_43 g; exact c_49 g.1⟩ | exact Or.inr ⟨rfl, by rw [eo, epw]; rintro (g | g | g); exact absurd g (by omega); exact c_43 g; exact Int32.not_lt.mpr c_55 g.2⟩) _ _ _ hw hS (lv_sub hl [3, 4, 5, 6, 7, 2, 1, 0] rfl)
  exact K_9 (3 - 0 + 1) 0 0 0 0 _ (by first | omega | assumption | rfl) rfl sameM.rf rfl (Nat.lt_succ_self _) _ _ _ hw hS (lv_sub hl [4, 3, 2, 1, 0] rfl)
set_option maxHeartbeats 4000000 in
set_option maxRecDepth 100000 in
/-- ZonedLightModel.dearest(I)I -/
theorem c_X6_dearest (l : Launch) (G : GG) (A : Nat → Prop) (σ : St) (w : Int32) (hok : okA (σ 17 0)) : MI l yX6_dearest wsX6_dearest 6 135 G A σ [.ref (G.1 16 0), .int w] (fun r τ => r = dearM (σ 17 0) w ∧ keepM σ τ) := by
  refine MI.on (by decide) rfl (Nat.le_of_ble_eq_true rfl) (fun pP eE sS mM args below meth cC ls hx hb hml hr hown hlk hts hE hw hS hl => ?_)
  have hl : lv_has ls 7 [(0, .ref (G.1 16 0)), (1, .int w)] := hl
  refine lv_iload_n hx hb dX6_dearest_0 rfl (lv_at hl 1 rfl) ?_
  refine lv_i2l hx hb dX6_dearest_1 rfl ?_
  refine lv_lconst (v := (nI 0).toInt64) hx hb dX6_dearest_2 (by decide +kernel) ?_
  refine lv_lconst (v := (nI 1).toInt64) hx hb dX6_dearest_3 (by decide +kernel) ?_
  refine g_Si (n := 3) (As := [.long (w.toInt64), .long ((nI 0).toInt64), .long ((nI 1).toInt64)]) (rest := []) hx hb hml hown hts hE hw hS gX6_dearest_X6_in (c_X6_in l G A _ w (nI 0) (nI 1)) rfl (by decide +kernel) ⟨Nat.le_of_ble_eq_true rfl, Nat.le_of_ble_eq_true rfl⟩ rfl hl.1 rfl (Nat.le_of_ble_eq_true rfl) ⟨Nat.le_of_ble_eq_true rfl, Nat.le_of_ble_eq_true rfl⟩ dX6_dearest_4 (fun x_4 τ_4 H locs hp_4 hw hS => ?_)
  obtain ⟨hb_4, hτ_4⟩ := hp_4
  rw [hτ_4] at hw
  refine lv_if_ne (tgt := 13) hx hb dX6_dearest_7 (by decide) (fun c_7 => ?_) (fun c_7 => ?_)
  · have h1 := bP_t hb_4 c_7
    refine lv_bipush (v := (-5)) hx hb dX6_dearest_13 (by decide) ?_
    refine lv_istore_n (lv' := [(2, .int (-5)), (0, .ref (G.1 16 0)), (1, .int w)]) hx hb dX6_dearest_15 rfl hl (by decide) rfl (fun ls hl => ?_)
    refine lv_iconst (v := nI 0) hx hb dX6_dearest_16 (by decide) ?_
    refine lv_istore_n (lv' := [(3, .int (nI 0)), (2, .int (-5)), (0, .ref (G.1 16 0)), (1, .int w)]) hx hb dX6_dearest_17 rfl hl (by decide) rfl (fun ls hl => ?_)
    refine lv_iconst (v := nI 0) hx hb dX6_dearest_18 (by decide) ?_
    refine lv_istore (lv' := [(4, .int (nI 0)), (3, .int (nI 0)), (2, .int (-5)), (0, .ref (G.1 16 0)), (1, .int w)]) hx hb dX6_dearest_19 hl (by decide) rfl (fun ls hl => ?_)
    have K_21 : ∀ (fuel : Nat) (k : Nat) (de : Int32) (mo : Int32) (σ2 : St), (k ≤ 18) → (deaK (σ 17 0) k = (de, mo)) → (keepM σ σ2) → (σ2 17 0 = σ 17 0) → 18 - k < fuel → ∀ (H : Heap) (locs : List Loc) (ls : Array Slot), Wcel G σ2 H → va_S A sS.heap H locs → lv_has ls 7 [(0, .ref (G.1 16 0)), (1, .int w), (2, .int de), (3, .int mo), (4, .int (nI k))] → W pP l eE { frames := 6, cells := 0, slots := 0, locals := 135 } sS mM args below meth cC H locs 0 0 (MQ below (va_Qi (fun r τ => r = dearM (σ 17 0) w ∧ keepM σ τ) (fun τ t => gP G A τ t) A) args sS 0 0 A) (F0 mM 21 ls []) := by
      intro fuel
      induction fuel with
      | zero =>
        intro k de mo σ2 hk hde hkk h17 hfu
        exact absurd hfu (Nat.not_lt_zero _)
      | succ fuel K_21 =>
        intro k de mo σ2 hk hde hkk h17 hfu H locs ls hw hS hl
        refine lv_iload hx hb dX6_dearest_21 (lv_at hl 4 rfl) ?_
        refine lv_bipush (v := nI 18) hx hb dX6_dearest_23 (by decide) ?_
        refine n_cmp_ge (tgt := 134) hx hb dX6_dearest_25 (by decide) (by omega) (by omega) (fun c_25 => ?_) (fun c_25 => ?_)
        · refine lv_iload_n hx hb dX6_dearest_134 rfl (lv_at hl 2 rfl) ?_
          refine lv_bipush (v := (-5)) hx hb dX6_dearest_135 (by decide) ?_
          refine lv_icmp_eq (tgt := 144) hx hb dX6_dearest_137 (by decide) (fun c_137 => ?_) (fun c_137 => ?_)
          · refine lv_iload_n hx hb dX6_dearest_144 rfl (lv_at hl 2 rfl) ?_
            refine lv_goto (tgt := 149) hx hb dX6_dearest_145 (by decide) ?_
            refine g_iret hx hb hr hlk hE hw hS dX6_dearest_149 ?_
            obtain rfl : k = 18 := by omega
            first | exact ⟨by rw [dearM, if_neg (fun g => g.elim h1.1 h1.2), hde, if_pos (Or.inl c_137)], hkk⟩ | exact ⟨by rw [dearM, if_neg (fun g => g.elim h1.1 h1.2), hde, if_pos (Or.inr c_141)], hkk⟩ | exact ⟨by rw [dearM, if_neg (fun g => g.elim h1.1 h1.2), hde, if_neg (fun g => g.elim c_137 c_141)], hkk⟩
          · refine lv_iload_n hx hb dX6_dearest_140 rfl (lv_at hl 1 rfl) ?_
            refine lv_if_ne (tgt := 148) hx hb dX6_dearest_141 (by decide) (fun c_141 => ?_) (fun c_141 => ?_)
            · refine lv_iload_n hx hb dX6_dearest_148 rfl (lv_at hl 3 rfl) ?_
              refine g_iret hx hb hr hlk hE hw hS dX6_dearest_149 ?_
              obtain rfl : k = 18 := by omega
              first | exact ⟨by rw [dearM, if_neg (fun g => g.elim h1.1 h1.2), hde, if_pos (Or.inl c_137)], hkk⟩ | exact ⟨by rw [dearM, if_neg (fun g => g.elim h1.1 h1.2), hde, if_pos (Or.inr c_141)], hkk⟩ | exact ⟨by rw [dearM, if_neg (fun g => g.elim h1.1 h1.2), hde, if_neg (fun g => g.elim c_137 c_141)], hkk⟩
            · refine lv_iload_n hx hb dX6_dearest_144 rfl (lv_at hl 2 rfl) ?_
              refine lv_goto (tgt := 149) hx hb dX6_dearest_145 (by decide) ?_
              refine g_iret hx hb hr hlk hE hw hS dX6_dearest_149 ?_
              obtain rfl : k = 18 := by omega
              first | exact ⟨by rw [dearM, if_neg (fun g => g.elim h1.1 h1.2), hde, if_pos (Or.inl c_137)], hkk⟩ | exact ⟨by rw [dearM, if_neg (fun g => g.elim h1.1 h1.2), hde, if_pos (Or.inr c_141)], hkk⟩ | exact ⟨by rw [dearM, if_neg (fun g => g.elim h1.1 h1.2), hde, if_neg (fun g => g.elim c_137 c_141)], hkk⟩
        · refine lv_aload_n hx hb dX6_dearest_28 rfl (lv_at hl 0 rfl) ?_
          refine gf_X6_all hx hb hE hw (Nat.zero_lt_one) hown (hts (.fieldLink RX6 7 "ZonedLightModel" "all" "[I") (by decide +kernel)) dX6_dearest_29 ?_
          refine lv_sipush (v := nI 306) hx hb dX6_dearest_32 (by decide) ?_
          refine lv_iload hx hb dX6_dearest_35 (lv_at hl 4 rfl) ?_
          refine n_iadd hx hb dX6_dearest_37 ?_
          refine g_ald hx hb hE hw (n := 335) (Nat.zero_lt_one) rfl (by decide) (by omega) dX6_dearest_38 ?_
          refine lv_topi (fun x_38 ex_38 => ?_)
          have e38 : x_38 = σ 17 0 (306 + k) := by rw [ex_38, h17]
          refine lv_if_ne (tgt := 128) hx hb dX6_dearest_39 (by decide) (fun c_39 => ?_) (fun c_39 => ?_)
          · refine lv_iinc (v := nI (k + 1)) (lv' := [(4, .int (nI (k + 1))), (0, .ref (G.1 16 0)), (1, .int w), (2, .int de), (3, .int mo)]) hx hb dX6_dearest_128 hl (k := 4) rfl (nI_add _ _) (by decide) rfl (fun ls hl => ?_)
            refine lv_goto (tgt := 21) hx hb dX6_dearest_131 (by decide) ?_
            first | exact K_21 (k + 1) de mo _ (by first | omega | assumption | rfl) (by rw [deaK, if_neg (fun g => c_39 (by rw [e38]; exact g.1))]; exact hde) (by first | omega | assumption | rfl) (by first | omega | assumption | rfl) (by omega) _ _ _ hw hS (lv_sub hl [1, 2, 3, 4, 0] rfl) | exact K_21 (k + 1) de mo _ (by first | omega | assumption | rfl) (by first | exact absurd c_118 c_106 | exact absurd c_106 c_118) hkp2 e172 (by omega) _ _ _ hw hS (lv_sub hl [1, 2, 3, 4, 0] rfl) | exact K_21 (k + 1) de mo _ (by first | omega | assumption | rfl) (by rw [deaK, if_pos ⟨by rw [← e38]; exact c_39, by rw [hde, eo]; exact bP_t hbb c_106⟩, eo]) hkp2 e172 (by omega) _ _ _ hw hS (lv_sub hl [1, 2, 3, 4, 0] rfl) | exact K_21 (k + 1) de mo _ (by first | omega | assumption | rfl) (by rw [deaK, if_neg (fun g => bP_f hbb c_106 (by have h := g.2; rw [hde, eo] at h; exact h))]; exact hde) hkp2 e172 (by omega) _ _ _ hw hS (lv_sub hl [1, 2, 3, 4, 0] rfl)
          · refine lv_aload_n hx hb dX6_dearest_42 rfl (lv_at hl 0 rfl) ?_
            refine gf_X6_all hx hb hE hw (Nat.zero_lt_one) hown (hts (.fieldLink RX6 7 "ZonedLightModel" "all" "[I") (by decide +kernel)) dX6_dearest_43 ?_
            refine lv_sipush (v := nI 306) hx hb dX6_dearest_46 (by decide) ?_
            refine lv_iload hx hb dX6_dearest_49 (lv_at hl 4 rfl) ?_
            refine n_iadd hx hb dX6_dearest_51 ?_
            refine lv_iconst (v := nI 1) hx hb dX6_dearest_52 (by decide) ?_
            refine g_ast hx hb hE hw hS (n := 335) (Nat.zero_lt_one) (by decide) (fun _ => rfl) rfl (by decide) (by omega) dX6_dearest_53 (fun H locs hw hS => ?_)
            have hb17 : us σ2 17 0 (306 + k) (nI 1) 17 0 = upd (σ 17 0) (306 + k) 1 := by rw [us_same, h17]; rfl
            refine lv_aload_n hx hb dX6_dearest_54 rfl (lv_at hl 0 rfl) ?_
            refine lv_aload_n hx hb dX6_dearest_55 rfl (lv_at hl 0 rfl) ?_
            refine gf_X6_all hx hb hE hw (Nat.zero_lt_one) hown (hts (.fieldLink RX6 7 "ZonedLightModel" "all" "[I") (by decide +kernel)) dX6_dearest_56 ?_
            refine lv_sipush (v := nI 327) hx hb dX6_dearest_59 (by decide) ?_
            refine g_ald hx hb hE hw (n := 335) (Nat.zero_lt_one) rfl (by decide) (by omega) dX6_dearest_62 ?_
            refine lv_topi (fun x_62 ex_62 => ?_)
            have e62 : x_62 = σ 17 0 327 := by rw [ex_62, hb17, pk_un (by omega)]
            refine g_Vv (n := 1) (As := [.int x_62]) (rest := []) hx hb hml hown hts hE hw hS gX6_dearest_X6_wants (c_X6_wants l G A _ x_62 (by rw [hb17]; exact okW_die hok.1 c_25)) rfl (by decide +kernel) ⟨Nat.le_of_ble_eq_true rfl, Nat.le_of_ble_eq_true rfl⟩ (Nat.zero_lt_one) rfl rfl rfl rfl hl.1 rfl (Nat.le_of_ble_eq_true rfl) ⟨Nat.le_of_ble_eq_true rfl, Nat.le_of_ble_eq_true rfl⟩ dX6_dearest_63 (fun τ_63 H locs hp_63 hw hS => ?_)
            have e20 : τ_63 20 0 = wantF (upd (σ 17 0) (306 + k) 1) (σ 17 0 327) := by rw [hp_63, ur_same, hb17, e62]
            have e17 : τ_63 17 0 = upd (σ 17 0) (306 + k) 1 := by rw [hp_63, ur_k (by decide), hb17]
            refine lv_aload_n hx hb dX6_dearest_66 rfl (lv_at hl 0 rfl) ?_
            refine lv_iconst (v := nI 1) hx hb dX6_dearest_67 (by decide) ?_
            refine g_Vi (n := 1) (As := [.int (nI 1)]) (rest := []) hx hb hml hown hts hE hw hS gX6_dearest_X6_rested (c_X6_rested l G A _ (nI 1) (by rw [e17]; exact okW_die hok.1 c_25) (by rw [e20]; exact lowW_want (okW_die hok.1 c_25) _)) rfl (by decide +kernel) ⟨Nat.le_of_ble_eq_true rfl, Nat.le_of_ble_eq_true rfl⟩ (Nat.zero_lt_one) rfl rfl rfl rfl hl.1 rfl (Nat.le_of_ble_eq_true rfl) ⟨Nat.le_of_ble_eq_true rfl, Nat.le_of_ble_eq_true rfl⟩ dX6_dearest_68 (fun x_68 τ_68 H locs hp_68 hw hS => ?_)
            obtain ⟨ex_68, hτ_68⟩ := hp_68
            rw [hτ_68] at hw
            have eo : dieV (σ 17 0) k = x_68 := by rw [ex_68, e20, e17, restd_1]; rfl
            refine lv_istore (lv' := [(5, .int x_68), (0, .ref (G.1 16 0)), (1, .int w), (2, .int de), (3, .int mo), (4, .int (nI k))]) hx hb dX6_dearest_71 hl (by decide) rfl (fun ls hl => ?_)
            refine lv_aload_n hx hb dX6_dearest_73 rfl (lv_at hl 1 rfl) ?_
            refine gf_X6_all hx hb hE hw (Nat.zero_lt_one) hown (hts (.fieldLink RX6 7 "ZonedLightModel" "all" "[I") (by decide +kernel)) dX6_dearest_74 ?_
            refine lv_sipush (v := nI 306) hx hb dX6_dearest_77 (by decide) ?_
            refine lv_iload hx hb dX6_dearest_80 (lv_at hl 5 rfl) ?_
            refine n_iadd hx hb dX6_dearest_82 ?_
            refine lv_iconst (v := nI 0) hx hb dX6_dearest_83 (by decide) ?_
            have e172 : us τ_63 17 0 (306 + k) (nI 0) 17 0 = σ 17 0 := by rw [us_same, e17, upd_upd]; exact upd_self (by rw [← e38]; exact c_39)
            have hkp2 : keepM σ (us τ_63 17 0 (306 + k) (nI 0)) := ⟨fun k1 i1 a b c => by
              by_cases g : k1 = 17
              · by_cases g2 : i1 = 0
                · rw [g, g2, e172]
                · rw [us, ur_other (fun z => g2 z.2), hp_63, ur_k (by rw [g]; decide), us, ur_other (fun z => g2 z.2)]; exact hkk.1 k1 i1 a b c
              · rw [us_k g, hp_63, ur_k (fun z => a (Or.inl z)), us_k g]; exact hkk.1 k1 i1 a b c, fun j a b => by rw [us_k (by decide), hp_63, ur_k (by decide), us_k (by decide)]; exact hkk.2 j a b⟩
            refine g_ast hx hb hE hw hS (n := 335) (Nat.zero_lt_one) (by decide) (fun _ => rfl) rfl (by decide) (by omega) dX6_dearest_84 (fun H locs hw hS => ?_)
            have K_104 : ∀ (b : Int32), (bP b (de = -5 ∨ mo < x_68)) → ∀ (H : Heap) (locs : List Loc) (ls : Array Slot), Wcel G (us τ_63 17 0 (306 + k) (nI 0)) H → va_S A sS.heap H locs → lv_has ls 7 [(0, .ref (G.1 16 0)), (1, .int w), (2, .int de), (3, .int mo), (4, .int (nI k)), (5, .int x_68), (6, .int b)] → W pP l eE { frames := 6, cells := 0, slots := 0, locals := 135 } sS mM args below meth cC H locs 0 0 (MQ below (va_Qi (fun r τ => r = dearM (σ 17 0) w ∧ keepM σ τ) (fun τ t => gP G A τ t) A) args sS 0 0 A) (F0 mM 104 ls []) := by
              intro b hbb H locs ls hw hS hl
              refine lv_iload hx hb dX6_dearest_104 (lv_at hl 6 rfl) ?_
              refine lv_if_eq (tgt := 114) hx hb dX6_dearest_106 (by decide) (fun c_106 => ?_) (fun c_106 => ?_)
              · refine lv_iload_n hx hb dX6_dearest_114 rfl (lv_at hl 2 rfl) ?_
                refine lv_istore_n (lv' := [(2, .int de), (0, .ref (G.1 16 0)), (1, .int w), (3, .int mo), (4, .int (nI k)), (5, .int x_68), (6, .int b)]) hx hb dX6_dearest_115 rfl hl (by decide) rfl (fun ls hl => ?_)
                refine lv_iload hx hb dX6_dearest_116 (lv_at hl 6 rfl) ?_
                refine lv_if_eq (tgt := 126) hx hb dX6_dearest_118 (by decide) (fun c_118 => ?_) (fun c_118 => ?_)
                · refine lv_iload_n hx hb dX6_dearest_126 rfl (lv_at hl 3 rfl) ?_
                  refine lv_istore_n (lv' := [(3, .int mo), (2, .int de), (0, .ref (G.1 16 0)), (1, .int w), (4, .int (nI k)), (5, .int x_68), (6, .int b)]) hx hb dX6_dearest_127 rfl hl (by decide) rfl (fun ls hl => ?_)
                  refine lv_iinc (v := nI (k + 1)) (lv' := [(4, .int (nI (k + 1))), (3, .int mo), (2, .int de), (0, .ref (G.1 16 0)), (1, .int w), (5, .int x_68), (6, .int b)]) hx hb dX6_dearest_128 hl (k := 4) rfl (nI_add _ _) (by decide) rfl (fun ls hl => ?_)
                  refine lv_goto (tgt := 21) hx hb dX6_dearest_131 (by decide) ?_
                  first | exact K_21 (k + 1) de mo _ (by first | omega | assumption | rfl) (by rw [deaK, if_neg (fun g => c_39 (by rw [e38]; exact g.1))]; exact hde) (by first | omega | assumption | rfl) (by first | omega | assumption | rfl) (by omega) _ _ _ hw hS (lv_sub hl [3, 4, 2, 1, 0] rfl) | exact K_21 (k + 1) de mo _ (by first | omega | assumption | rfl) (by first | exact absurd c_118 c_106 | exact absurd c_106 c_118) hkp2 e172 (by omega) _ _ _ hw hS (lv_sub hl [3, 4, 2, 1, 0] rfl) | exact K_21 (k + 1) de mo _ (by first | omega | assumption | rfl) (by rw [deaK, if_pos ⟨by rw [← e38]; exact c_39, by rw [hde, eo]; exact bP_t hbb c_106⟩, eo]) hkp2 e172 (by omega) _ _ _ hw hS (lv_sub hl [3, 4, 2, 1, 0] rfl) | exact K_21 (k + 1) de mo _ (by first | omega | assumption | rfl) (by rw [deaK, if_neg (fun g => bP_f hbb c_106 (by have h := g.2; rw [hde, eo] at h; exact h))]; exact hde) hkp2 e172 (by omega) _ _ _ hw hS (lv_sub hl [3, 4, 2, 1, 0] rfl)
                · refine lv_iload hx hb dX6_dearest_121 (lv_at hl 5 rfl) ?_
                  refine lv_goto (tgt := 127) hx hb dX6_dearest_123 (by decide) ?_
                  refine lv_istore_n (lv' := [(3, .int x_68), (2, .int de), (0, .ref (G.1 16 0)), (1, .int w), (4, .int (nI k)), (5, .int x_68), (6, .int b)]) hx hb dX6_dearest_127 rfl hl (by decide) rfl (fun ls hl => ?_)
                  refine lv_iinc (v := nI (k + 1)) (lv' := [(4, .int (nI (k + 1))), (3, .int x_68), (2, .int de), (0, .ref (G.1 16 0)), (1, .int w), (5, .int x_68), (6, .int b)]) hx hb dX6_dearest_128 hl (k := 4) rfl (nI_add _ _) (by decide) rfl (fun ls hl => ?_)
                  refine lv_goto (tgt := 21) hx hb dX6_dearest_131 (by decide) ?_
                  first | exact K_21 (k + 1) de x_68 _ (by first | omega | assumption | rfl) (by rw [deaK, if_neg (fun g => c_39 (by rw [e38]; exact g.1))]; exact hde) (by first | omega | assumption | rfl) (by first | omega | assumption | rfl) (by omega) _ _ _ hw hS (lv_sub hl [3, 4, 2, 1, 0] rfl) | exact K_21 (k + 1) de x_68 _ (by first | omega | assumption | rfl) (by first | exact absurd c_118 c_106 | exact absurd c_106 c_118) hkp2 e172 (by omega) _ _ _ hw hS (lv_sub hl [3, 4, 2, 1, 0] rfl) | exact K_21 (k + 1) de x_68 _ (by first | omega | assumption | rfl) (by rw [deaK, if_pos ⟨by rw [← e38]; exact c_39, by rw [hde, eo]; exact bP_t hbb c_106⟩, eo]) hkp2 e172 (by omega) _ _ _ hw hS (lv_sub hl [3, 4, 2, 1, 0] rfl) | exact K_21 (k + 1) de x_68 _ (by first | omega | assumption | rfl) (by rw [deaK, if_neg (fun g => bP_f hbb c_106 (by have h := g.2; rw [hde, eo] at h; exact h))]; exact hde) hkp2 e172 (by omega) _ _ _ hw hS (lv_sub hl [3, 4, 2, 1, 0] rfl)
              · refine lv_iload hx hb dX6_dearest_109 (lv_at hl 4 rfl) ?_
                refine lv_goto (tgt := 115) hx hb dX6_dearest_111 (by decide) ?_
                refine lv_istore_n (lv' := [(2, .int (nI k)), (0, .ref (G.1 16 0)), (1, .int w), (3, .int mo), (4, .int (nI k)), (5, .int x_68), (6, .int b)]) hx hb dX6_dearest_115 rfl hl (by decide) rfl (fun ls hl => ?_)
                refine lv_iload hx hb dX6_dearest_116 (lv_at hl 6 rfl) ?_
                refine lv_if_eq (tgt := 126) hx hb dX6_dearest_118 (by decide) (fun c_118 => ?_) (fun c_118 => ?_)
                · refine lv_iload_n hx hb dX6_dearest_126 rfl (lv_at hl 3 rfl) ?_
                  refine lv_istore_n (lv' := [(3, .int mo), (2, .int (nI k)), (0, .ref (G.1 16 0)), (1, .int w), (4, .int (nI k)), (5, .int x_68), (6, .int b)]) hx hb dX6_dearest_127 rfl hl (by decide) rfl (fun ls hl => ?_)
                  refine lv_iinc (v := nI (k + 1)) (lv' := [(4, .int (nI (k + 1))), (3, .int mo), (2, .int (nI k)), (0, .ref (G.1 16 0)), (1, .int w), (5, .int x_68), (6, .int b)]) hx hb dX6_dearest_128 hl (k := 4) rfl (nI_add _ _) (by decide) rfl (fun ls hl => ?_)
                  refine lv_goto (tgt := 21) hx hb dX6_dearest_131 (by decide) ?_
                  first | exact K_21 (k + 1) (nI k) mo _ (by first | omega | assumption | rfl) (by rw [deaK, if_neg (fun g => c_39 (by rw [e38]; exact g.1))]; exact hde) (by first | omega | assumption | rfl) (by first | omega | assumption | rfl) (by omega) _ _ _ hw hS (lv_sub hl [3, 4, 2, 1, 0] rfl) | exact K_21 (k + 1) (nI k) mo _ (by first | omega | assumption | rfl) (by first | exact absurd c_118 c_106 | exact absurd c_106 c_118) hkp2 e172 (by omega) _ _ _ hw hS (lv_sub hl [3, 4, 2, 1, 0] rfl) | exact K_21 (k + 1) (nI k) mo _ (by first | omega | assumption | rfl) (by rw [deaK, if_pos ⟨by rw [← e38]; exact c_39, by rw [hde, eo]; exact bP_t hbb c_106⟩, eo]) hkp2 e172 (by omega) _ _ _ hw hS (lv_sub hl [3, 4, 2, 1, 0] rfl) | exact K_21 (k + 1) (nI k) mo _ (by first | omega | assumption | rfl) (by rw [deaK, if_neg (fun g => bP_f hbb c_106 (by have h := g.2; rw [hde, eo] at h; exact h))]; exact hde) hkp2 e172 (by omega) _ _ _ hw hS (lv_sub hl [3, 4, 2, 1, 0] rfl)
                · refine lv_iload hx hb dX6_dearest_121 (lv_at hl 5 rfl) ?_
                  refine lv_goto (tgt := 127) hx hb dX6_dearest_123 (by decide) ?_
                  refine lv_istore_n (lv' := [(3, .int x_68), (2, .int (nI k)), (0, .ref (G.1 16 0)), (1, .int w), (4, .int (nI k)), (5, .int x_68), (6, .int b)]) hx hb dX6_dearest_127 rfl hl (by decide) rfl (fun ls hl => ?_)
                  refine lv_iinc (v := nI (k + 1)) (lv' := [(4, .int (nI (k + 1))), (3, .int x_68), (2, .int (nI k)), (0, .ref (G.1 16 0)), (1, .int w), (5, .int x_68), (6, .int b)]) hx hb dX6_dearest_128 hl (k := 4) rfl (nI_add _ _) (by decide) rfl (fun ls hl => ?_)
                  refine lv_goto (tgt := 21) hx hb dX6_dearest_131 (by decide) ?_
                  first | exact K_21 (k + 1) (nI k) x_68 _ (by first | omega | assumption | rfl) (by rw [deaK, if_neg (fun g => c_39 (by rw [e38]; exact g.1))]; exact hde) (by first | omega | assumption | rfl) (by first | omega | assumption | rfl) (by omega) _ _ _ hw hS (lv_sub hl [3, 4, 2, 1, 0] rfl) | exact K_21 (k + 1) (nI k) x_68 _ (by first | omega | assumption | rfl) (by first | exact absurd c_118 c_106 | exact absurd c_106 c_118) hkp2 e172 (by omega) _ _ _ hw hS (lv_sub hl [3, 4, 2, 1, 0] rfl) | exact K_21 (k + 1) (nI k) x_68 _ (by first | omega | assumption | rfl) (by rw [deaK, if_pos ⟨by rw [← e38]; exact c_39, by rw [hde, eo]; exact bP_t hbb c_106⟩, eo]) hkp2 e172 (by omega) _ _ _ hw hS (lv_sub hl [3, 4, 2, 1, 0] rfl) | exact K_21 (k + 1) (nI k) x_68 _ (by first | omega | assumption | rfl) (by rw [deaK, if_neg (fun g => bP_f hbb c_106 (by have h := g.2; rw [hde, eo] at h; exact h))]; exact hde) hkp2 e172 (by omega) _ _ _ hw hS (lv_sub hl [3, 4, 2, 1, 0] rfl)
            refine lv_iload_n hx hb dX6_dearest_85 rfl (lv_at hl 3 rfl) ?_
            refine lv_bipush (v := (-5)) hx hb dX6_dearest_86 (by decide) ?_
            refine lv_icmp_eq (tgt := 97) hx hb dX6_dearest_88 (by decide) (fun c_88 => ?_) (fun c_88 => ?_)
            · refine lv_iconst (v := nI 1) hx hb dX6_dearest_97 (by decide) ?_
              refine lv_goto (tgt := 102) hx hb dX6_dearest_98 (by decide) ?_
              refine lv_istore (lv' := [(6, .int (nI 1)), (5, .int x_68), (0, .ref (G.1 16 0)), (1, .int w), (2, .int de), (3, .int mo), (4, .int (nI k))]) hx hb dX6_dearest_102 hl (by decide) rfl (fun ls hl => ?_)
              exact K_104 (nI 1) (by first | exact Or.inl ⟨rfl, Or.inl c_88⟩ | exact Or.inl ⟨rfl, Or.inr (Int32.not_le.mp c_94)⟩ | exact Or.inr ⟨rfl, fun g => g.elim c_88 (Int32.not_lt.mpr c_94)⟩) _ _ _ hw hS (lv_sub hl [2, 3, 4, 5, 6, 1, 0] rfl)
            · refine lv_iload hx hb dX6_dearest_91 (lv_at hl 0 rfl) ?_
              refine lv_iload_n hx hb dX6_dearest_93 rfl (lv_at hl 4 rfl) ?_
              refine lv_icmp_le (tgt := 101) hx hb dX6_dearest_94 (by decide) (fun c_94 => ?_) (fun c_94 => ?_)
              · refine lv_iconst (v := nI 0) hx hb dX6_dearest_101 (by decide) ?_
                refine lv_istore (lv' := [(6, .int (nI 0)), (5, .int x_68), (0, .ref (G.1 16 0)), (1, .int w), (2, .int de), (3, .int mo), (4, .int (nI k))]) hx hb dX6_dearest_102 hl (by decide) rfl (fun ls hl => ?_)
                exact K_104 (nI 0) (by first | exact Or.inl ⟨rfl, Or.inl c_88⟩ | exact Or.inl ⟨rfl, Or.inr (Int32.not_le.mp c_94)⟩ | exact Or.inr ⟨rfl, fun g => g.elim c_88 (Int32.not_lt.mpr c_94)⟩) _ _ _ hw hS (lv_sub hl [2, 3, 4, 5, 6, 1, 0] rfl)
              · refine lv_iconst (v := nI 1) hx hb dX6_dearest_97 (by decide) ?_
                refine lv_goto (tgt := 102) hx hb dX6_dearest_98 (by decide) ?_
                refine lv_istore (lv' := [(6, .int (nI 1)), (5, .int x_68), (0, .ref (G.1 16 0)), (1, .int w), (2, .int de), (3, .int mo), (4, .int (nI k))]) hx hb dX6_dearest_102 hl (by decide) rfl (fun ls hl => ?_)
                exact K_104 (nI 1) (by first | exact Or.inl ⟨rfl, Or.inl c_88⟩ | exact Or.inl ⟨rfl, Or.inr (Int32.not_le.mp c_94)⟩ | exact Or.inr ⟨rfl, fun g => g.elim c_88 (Int32.not_lt.mpr c_94)⟩) _ _ _ hw hS (lv_sub hl [2, 3, 4, 5, 6, 1, 0] rfl)
    exact K_21 (18 - 0 + 1) 0 (-5) 0 _ (by first | omega | assumption | rfl) rfl sameM.rf rfl (Nat.lt_succ_self _) _ _ _ hw hS (lv_sub hl [3, 4, 2, 1, 0] rfl)
  · refine lv_bipush (v := (-2)) hx hb dX6_dearest_10 (by decide) ?_
    refine g_iret hx hb hr hlk hE hw hS dX6_dearest_12 ?_
    exact ⟨(if_pos (Decidable.byContradiction fun g => bP_f hb_4 c_7 ⟨fun z => g (Or.inl z), fun z => g (Or.inr z)⟩)).symm, sameM.rf⟩
