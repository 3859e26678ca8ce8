/-! CONTRACTS, laid by program -/
set_option maxHeartbeats 4000000 in
set_option maxRecDepth 100000 in
/-- ZonedLight.spot(III)I -/
theorem c_X5_spot (l : Launch) (G : GG) (A : Nat → Prop) (σ : St) (x : Int32) (y : Int32) (w : Int32)  : MI l yX5_spot wsX5_spot 4 90 G A σ [.ref (G.1 5 0), .int x, .int y, .int w] (fun r τ => r = spotQ (scr σ 0) x y w ∧ τ = σ) := by
  refine MI.on (by decide) rfl (Nat.le_of_ble_eq_true rfl) (fun pP eE sS mM args below meth cC ls hx hb hml hr hown hlk hts hE hw hS hl => ?_)
  have hl : lv_has ls 6 [(0, .ref (G.1 5 0)), (1, .int x), (2, .int y), (3, .int w)] := hl
  refine lv_iload_n hx hb dX5_spot_0 rfl (lv_at hl 1 rfl) ?_
  refine lv_iload_n hx hb dX5_spot_1 rfl (lv_at hl 2 rfl) ?_
  refine g_Si (n := 2) (As := [.int x, .int y]) (rest := []) hx hb hml hown hts hE hw hS gX5_spot_X5_onScreen (c_X5_onScreen l G A _ x y) rfl (by decide +kernel) ⟨Nat.le_of_ble_eq_true rfl, Nat.le_of_ble_eq_true rfl⟩ rfl hl.1 rfl (Nat.le_of_ble_eq_true rfl) ⟨Nat.le_of_ble_eq_true rfl, Nat.le_of_ble_eq_true rfl⟩ dX5_spot_2 (fun x_2 τ_2 H locs hp_2 hw hS => ?_)
  obtain ⟨hb_2, hτ_2⟩ := hp_2
  rw [hτ_2] at hw
  refine lv_if_ne (tgt := 10) hx hb dX5_spot_5 (by decide) (fun c_5 => ?_) (fun c_5 => ?_)
  · have honp := bP_t hb_2 c_5
    obtain ⟨⟨X, hX, rfl⟩, ⟨Y, hY, rfl⟩⟩ := honp
    refine lv_iload_n hx hb dX5_spot_10 rfl (lv_at hl 3 rfl) ?_
    refine lv_if_lt (tgt := 19) hx hb dX5_spot_11 (by decide) (fun c_11 => ?_) (fun c_11 => ?_)
    · refine lv_bipush (v := (-2)) hx hb dX5_spot_19 (by decide) ?_
      refine g_iret hx hb hr hlk hE hw hS dX5_spot_21 ?_
      first | exact ⟨by rw [spotQ_nI hX hY]; exact (if_pos (Or.inl c_11)).symm, rfl⟩ | exact ⟨by rw [spotQ_nI hX hY]; exact (if_pos (Or.inr (Int32.not_le.mp c_16))).symm, rfl⟩
    · refine lv_iload_n hx hb dX5_spot_14 rfl (lv_at hl 3 rfl) ?_
      refine lv_iconst (v := nI 4) hx hb dX5_spot_15 (by decide) ?_
      refine lv_icmp_le (tgt := 22) hx hb dX5_spot_16 (by decide) (fun c_16 => ?_) (fun c_16 => ?_)
      · have hw4 : ¬ (w < 0 ∨ 4 < w) := fun q => q.elim c_11 (fun z => Int32.not_lt.mpr c_16 z)
        refine lv_aload_n hx hb dX5_spot_22 rfl (lv_at hl 0 rfl) ?_
        refine gf_X5_now hx hb hE hw (Nat.zero_lt_one) hown (hts (.fieldLink RX5 12 "ZonedLight" "now" "LZonedLight$Screen;") (by decide +kernel)) dX5_spot_23 ?_
        refine gf_X3_asked hx hb hE hw (by decide) hown (hts (.fieldLink RX5 66 "ZonedLight$Screen" "asked" "[I") (by decide +kernel)) dX5_spot_26 ?_
        refine lv_iload_n hx hb dX5_spot_29 rfl (lv_at hl 1 rfl) ?_
        refine lv_iload_n hx hb dX5_spot_30 rfl (lv_at hl 2 rfl) ?_
        refine g_Si (n := 2) (As := [.int (nI X), .int (nI Y)]) (rest := [.ref (G.1 1 0)]) hx hb hml hown hts hE hw hS gX5_spot_X5_spotAt (c_X5_spotAt l G A _ X Y) rfl (by decide +kernel) ⟨Nat.le_of_ble_eq_true rfl, Nat.le_of_ble_eq_true rfl⟩ rfl hl.1 rfl (Nat.le_of_ble_eq_true rfl) ⟨Nat.le_of_ble_eq_true rfl, Nat.le_of_ble_eq_true rfl⟩ dX5_spot_31 (fun r_31 τ_31 H locs hp_31 hw hS => ?_)
        obtain ⟨rfl, hτ_31⟩ := hp_31
        rw [hτ_31] at hw
        refine g_ald hx hb hE hw (n := 288) (by decide) rfl (by decide) (by omega) dX5_spot_34 ?_
        refine lv_topi (fun x_34 ex_34 => ?_)
        have e34 : scr σ 0 (Y * 24 + X) = x_34 := by rw [ex_34]; exact scr_asked (by omega)
        refine lv_istore (lv' := [(4, .int x_34), (0, .ref (G.1 5 0)), (1, .int (nI X)), (2, .int (nI Y)), (3, .int w)]) hx hb dX5_spot_35 hl (by decide) rfl (fun ls hl => ?_)
        refine lv_aload_n hx hb dX5_spot_37 rfl (lv_at hl 1 rfl) ?_
        refine gf_X5_now hx hb hE hw (Nat.zero_lt_one) hown (hts (.fieldLink RX5 12 "ZonedLight" "now" "LZonedLight$Screen;") (by decide +kernel)) dX5_spot_38 ?_
        refine lv_bipush (v := nI 6) hx hb dX5_spot_41 (by decide) ?_
        refine lv_iload_n hx hb dX5_spot_43 rfl (lv_at hl 3 rfl) ?_
        refine lv_iconst (v := nI 4) hx hb dX5_spot_44 (by decide) ?_
        refine n_idiv hx hb dX5_spot_45 (by omega) (by omega) (by omega) ?_
        refine n_imul hx hb dX5_spot_46 ?_
        refine lv_iload_n hx hb dX5_spot_47 rfl (lv_at hl 2 rfl) ?_
        refine lv_iconst (v := nI 4) hx hb dX5_spot_48 (by decide) ?_
        refine n_idiv hx hb dX5_spot_49 (by omega) (by omega) (by omega) ?_
        refine n_iadd hx hb dX5_spot_50 ?_
        refine g_Vi (n := 1) (As := [.int (nI ((6 * (Y / 4)) + (X / 4)))]) (rest := []) hx hb hml hown hts hE hw hS gX5_spot_X3_light (c_X3_light l G A _ 0 ((6 * (Y / 4)) + (X / 4)) (by omega) (by omega)) rfl (by decide +kernel) ⟨Nat.le_of_ble_eq_true rfl, Nat.le_of_ble_eq_true rfl⟩ (by decide) rfl rfl rfl rfl hl.1 rfl (Nat.le_of_ble_eq_true rfl) ⟨Nat.le_of_ble_eq_true rfl, Nat.le_of_ble_eq_true rfl⟩ dX5_spot_51 (fun x_51 τ_51 H locs hp_51 hw hS => ?_)
        obtain ⟨ex_51, hτ_51⟩ := hp_51
        rw [hτ_51] at hw
        refine lv_istore (lv' := [(5, .int x_51), (4, .int x_34), (0, .ref (G.1 5 0)), (1, .int (nI X)), (2, .int (nI Y)), (3, .int w)]) hx hb dX5_spot_54 hl (by decide) rfl (fun ls hl => ?_)
        refine lv_iload_n hx hb dX5_spot_56 rfl (lv_at hl 5 rfl) ?_
        by_cases k_57_0 : w = 0
        · refine lv_tableIn (tgt := 88) hx hb dX5_spot_57 (by rw [k_57_0]; decide) (by rw [k_57_0]; decide) (off := 31) (by rw [k_57_0]; decide +kernel) (by decide) ?_
          refine lv_iload hx hb dX5_spot_88 (lv_at hl 1 rfl) ?_
          refine g_iret hx hb hr hlk hE hw hS dX5_spot_90 ?_
          exact ⟨by rw [spotQ_nI hX hY, e34, spotV, if_neg hw4, if_pos k_57_0], rfl⟩
        by_cases k_57_1 : w = 1
        · refine lv_tableIn (tgt := 91) hx hb dX5_spot_57 (by rw [k_57_1]; decide) (by rw [k_57_1]; decide) (off := 34) (by rw [k_57_1]; decide +kernel) (by decide) ?_
          refine lv_iload hx hb dX5_spot_91 (lv_at hl 0 rfl) ?_
          refine g_iret hx hb hr hlk hE hw hS dX5_spot_93 ?_
          exact ⟨by rw [spotQ_nI hX hY, e34, ← ex_51, spotV, if_neg hw4, if_neg k_57_0, if_pos k_57_1], rfl⟩
        by_cases k_57_2 : w = 2
        · refine lv_tableIn (tgt := 94) hx hb dX5_spot_57 (by rw [k_57_2]; decide) (by rw [k_57_2]; decide) (off := 37) (by rw [k_57_2]; decide +kernel) (by decide) ?_
          refine lv_iload hx hb dX5_spot_94 (lv_at hl 1 rfl) ?_
          refine lv_iload hx hb dX5_spot_96 (lv_at hl 0 rfl) ?_
          refine g_Si (n := 2) (As := [.int x_34, .int x_51]) (rest := []) hx hb hml hown hts hE hw hS gX5_spot_X5_glassFor (c_X5_glassFor l G A _ x_34 x_51) rfl (by decide +kernel) ⟨Nat.le_of_ble_eq_true rfl, Nat.le_of_ble_eq_true rfl⟩ rfl hl.1 rfl (Nat.le_of_ble_eq_true rfl) ⟨Nat.le_of_ble_eq_true rfl, Nat.le_of_ble_eq_true rfl⟩ dX5_spot_98 (fun x_98 τ_98 H locs hp_98 hw hS => ?_)
          obtain ⟨ex_98, hτ_98⟩ := hp_98
          rw [hτ_98] at hw
          refine g_iret hx hb hr hlk hE hw hS dX5_spot_101 ?_
          exact ⟨by rw [spotQ_nI hX hY, e34, ← ex_51, spotV, if_neg hw4, if_neg k_57_0, if_neg k_57_1, if_pos k_57_2, ex_98], rfl⟩
        by_cases k_57_3 : w = 3
        · refine lv_tableIn (tgt := 102) hx hb dX5_spot_57 (by rw [k_57_3]; decide) (by rw [k_57_3]; decide) (off := 45) (by rw [k_57_3]; decide +kernel) (by decide) ?_
          refine lv_aload_n hx hb dX5_spot_102 rfl (lv_at hl 2 rfl) ?_
          refine gf_X5_now hx hb hE hw (Nat.zero_lt_one) hown (hts (.fieldLink RX5 12 "ZonedLight" "now" "LZonedLight$Screen;") (by decide +kernel)) dX5_spot_103 ?_
          refine lv_iload hx hb dX5_spot_106 (lv_at hl 1 rfl) ?_
          refine lv_iload hx hb dX5_spot_108 (lv_at hl 0 rfl) ?_
          refine g_Vi (n := 2) (As := [.int x_34, .int x_51]) (rest := []) hx hb hml hown hts hE hw hS gX5_spot_X3_shown (c_X3_shown l G A _ 0 x_34 x_51 (by omega)) rfl (by decide +kernel) ⟨Nat.le_of_ble_eq_true rfl, Nat.le_of_ble_eq_true rfl⟩ (by decide) rfl rfl rfl rfl hl.1 rfl (Nat.le_of_ble_eq_true rfl) ⟨Nat.le_of_ble_eq_true rfl, Nat.le_of_ble_eq_true rfl⟩ dX5_spot_110 (fun x_110 τ_110 H locs hp_110 hw hS => ?_)
          obtain ⟨ex_110, hτ_110⟩ := hp_110
          rw [hτ_110] at hw
          refine g_iret hx hb hr hlk hE hw hS dX5_spot_113 ?_
          exact ⟨by rw [spotQ_nI hX hY, e34, ← ex_51, spotV, if_neg hw4, if_neg k_57_0, if_neg k_57_1, if_neg k_57_2, if_pos k_57_3, ex_110], rfl⟩
        refine lv_tableOut (tgt := 114) hx hb dX5_spot_57 (by have t0 := tw_ne (k := 0) 0 (by decide) k_57_0; have t1 := tw_ne (k := 1) 1 (by decide) k_57_1; have t2 := tw_ne (k := 2) 2 (by decide) k_57_2; have t3 := tw_ne (k := 3) 3 (by decide) k_57_3; omega) (by decide) ?_
        refine lv_iload hx hb dX5_spot_114 (lv_at hl 1 rfl) ?_
        refine lv_aload_n hx hb dX5_spot_116 rfl (lv_at hl 2 rfl) ?_
        refine gf_X5_now hx hb hE hw (Nat.zero_lt_one) hown (hts (.fieldLink RX5 12 "ZonedLight" "now" "LZonedLight$Screen;") (by decide +kernel)) dX5_spot_117 ?_
        refine lv_iload hx hb dX5_spot_120 (lv_at hl 1 rfl) ?_
        refine lv_iload hx hb dX5_spot_122 (lv_at hl 0 rfl) ?_
        refine g_Vi (n := 2) (As := [.int x_34, .int x_51]) (rest := [.int x_34]) hx hb hml hown hts hE hw hS gX5_spot_X3_shown (c_X3_shown l G A _ 0 x_34 x_51 (by omega)) rfl (by decide +kernel) ⟨Nat.le_of_ble_eq_true rfl, Nat.le_of_ble_eq_true rfl⟩ (by decide) rfl rfl rfl rfl hl.1 rfl (Nat.le_of_ble_eq_true rfl) ⟨Nat.le_of_ble_eq_true rfl, Nat.le_of_ble_eq_true rfl⟩ dX5_spot_124 (fun x_124 τ_124 H locs hp_124 hw hS => ?_)
        obtain ⟨ex_124, hτ_124⟩ := hp_124
        rw [hτ_124] at hw
        refine g_Si (n := 2) (As := [.int x_34, .int x_124]) (rest := []) hx hb hml hown hts hE hw hS gX5_spot_X5_verdict (c_X5_verdict l G A _ x_34 x_124) rfl (by decide +kernel) ⟨Nat.le_of_ble_eq_true rfl, Nat.le_of_ble_eq_true rfl⟩ rfl hl.1 rfl (Nat.le_of_ble_eq_true rfl) ⟨Nat.le_of_ble_eq_true rfl, Nat.le_of_ble_eq_true rfl⟩ dX5_spot_127 (fun x_127 τ_127 H locs hp_127 hw hS => ?_)
        obtain ⟨ex_127, hτ_127⟩ := hp_127
        rw [hτ_127] at hw
        refine g_iret hx hb hr hlk hE hw hS dX5_spot_130 ?_
        exact ⟨by rw [spotQ_nI hX hY, e34, ← ex_51, spotV, if_neg hw4, if_neg k_57_0, if_neg k_57_1, if_neg k_57_2, if_neg k_57_3, ex_127, ex_124], rfl⟩
      · refine lv_bipush (v := (-2)) hx hb dX5_spot_19 (by decide) ?_
        refine g_iret hx hb hr hlk hE hw hS dX5_spot_21 ?_
        first | exact ⟨by rw [spotQ_nI hX hY]; exact (if_pos (Or.inl c_11)).symm, rfl⟩ | exact ⟨by rw [spotQ_nI hX hY]; exact (if_pos (Or.inr (Int32.not_le.mp c_16))).symm, rfl⟩
  · refine lv_iconst (v := (-1)) hx hb dX5_spot_8 (by decide) ?_
    refine g_iret hx hb hr hlk hE hw hS dX5_spot_9 ?_
    exact ⟨(spotQ_off (bP_f hb_2 c_5)).symm, rfl⟩
set_option maxHeartbeats 4000000 in
set_option maxRecDepth 100000 in
/-- ZonedLight.zone(II)I -/
theorem c_X5_zone (l : Launch) (G : GG) (A : Nat → Prop) (σ : St) (z : Int32) (w : Int32) (hok : okW (scr σ 0)) : MI l yX5_zone wsX5_zone 6 137 G A σ [.ref (G.1 5 0), .int z, .int w] (fun r τ => r = zoneQ (scr σ 0) z w ∧ keepC σ τ) := by
  refine MI.on (by decide) rfl (Nat.le_of_ble_eq_true rfl) (fun pP eE sS mM args below meth cC ls hx hb hml hr hown hlk hts hE hw hS hl => ?_)
  have hl : lv_has ls 3 [(0, .ref (G.1 5 0)), (1, .int z), (2, .int w)] := hl
  refine lv_iload_n hx hb dX5_zone_0 rfl (lv_at hl 1 rfl) ?_
  refine g_Si (n := 1) (As := [.int z]) (rest := []) hx hb hml hown hts hE hw hS gX5_zone_X5_isZone (c_X5_isZone l G A _ z) rfl (by decide +kernel) ⟨Nat.le_of_ble_eq_true rfl, Nat.le_of_ble_eq_true rfl⟩ rfl hl.1 rfl (Nat.le_of_ble_eq_true rfl) ⟨Nat.le_of_ble_eq_true rfl, Nat.le_of_ble_eq_true rfl⟩ dX5_zone_1 (fun x_1 τ_1 H locs hp_1 hw hS => ?_)
  obtain ⟨hb_1, hτ_1⟩ := hp_1
  rw [hτ_1] at hw
  refine lv_if_ne (tgt := 9) hx hb dX5_zone_4 (by decide) (fun c_4 => ?_) (fun c_4 => ?_)
  · obtain ⟨k, hk, rfl⟩ := bP_t hb_1 c_4
    refine lv_iload_n hx hb dX5_zone_9 rfl (lv_at hl 2 rfl) ?_
    by_cases k_10_0 : w = 0
    · refine lv_tableIn (tgt := 60) hx hb dX5_zone_10 (by rw [k_10_0]; decide) (by rw [k_10_0]; decide) (off := 50) (by rw [k_10_0]; decide +kernel) (by decide) ?_
      refine lv_aload_n hx hb dX5_zone_60 rfl (lv_at hl 0 rfl) ?_
      refine gf_X5_now hx hb hE hw (Nat.zero_lt_one) hown (hts (.fieldLink RX5 12 "ZonedLight" "now" "LZonedLight$Screen;") (by decide +kernel)) dX5_zone_61 ?_
      refine gf_X3_level hx hb hE hw (by decide) hown (hts (.fieldLink RX5 111 "ZonedLight$Screen" "level" "[I") (by decide +kernel)) dX5_zone_64 ?_
      refine lv_iload_n hx hb dX5_zone_67 rfl (lv_at hl 1 rfl) ?_
      refine g_ald hx hb hE hw (n := 18) (by decide) rfl (by decide) (by omega) dX5_zone_68 ?_
      refine lv_topi (fun x_68 ex_68 => ?_)
      refine g_iret hx hb hr hlk hE hw hS dX5_zone_69 ?_
      exact ⟨by rw [zoneQ_nI hk, zoneV, if_pos k_10_0, scr_level hk, ex_68], sameC.rf⟩
    by_cases k_10_1 : w = 1
    · refine lv_tableIn (tgt := 70) hx hb dX5_zone_10 (by rw [k_10_1]; decide) (by rw [k_10_1]; decide) (off := 60) (by rw [k_10_1]; decide +kernel) (by decide) ?_
      refine lv_aload_n hx hb dX5_zone_70 rfl (lv_at hl 0 rfl) ?_
      refine gf_X5_plan hx hb hE hw (Nat.zero_lt_one) hown (hts (.fieldLink RX5 43 "ZonedLight" "plan" "LZonedLight$Plan;") (by decide +kernel)) dX5_zone_71 ?_
      refine lv_aload_n hx hb dX5_zone_74 rfl (lv_at hl 0 rfl) ?_
      refine gf_X5_now hx hb hE hw (Nat.zero_lt_one) hown (hts (.fieldLink RX5 12 "ZonedLight" "now" "LZonedLight$Screen;") (by decide +kernel)) dX5_zone_75 ?_
      refine g_Vv (n := 1) (As := [.ref (G.1 0 0)]) (rest := []) hx hb hml hown hts hE hw hS gX5_zone_X2_make (c_X2_make l G A _ 0 (by omega) (by omega)) rfl (by decide +kernel) ⟨Nat.le_of_ble_eq_true rfl, Nat.le_of_ble_eq_true rfl⟩ (Nat.zero_lt_one) rfl rfl rfl rfl hl.1 rfl (Nat.le_of_ble_eq_true rfl) ⟨Nat.le_of_ble_eq_true rfl, Nat.le_of_ble_eq_true rfl⟩ dX5_zone_78 (fun τ_78 H locs hp_78 hw hS => ?_)
      refine lv_aload_n hx hb dX5_zone_81 rfl (lv_at hl 0 rfl) ?_
      refine gf_X5_plan hx hb hE hw (Nat.zero_lt_one) hown (hts (.fieldLink RX5 43 "ZonedLight" "plan" "LZonedLight$Plan;") (by decide +kernel)) dX5_zone_82 ?_
      refine gf_X2_level hx hb hE hw (Nat.zero_lt_one) hown (hts (.fieldLink RX5 117 "ZonedLight$Plan" "level" "[I") (by decide +kernel)) dX5_zone_85 ?_
      refine lv_iload_n hx hb dX5_zone_88 rfl (lv_at hl 1 rfl) ?_
      refine g_ald hx hb hE hw (n := 18) (Nat.zero_lt_one) rfl (by decide) (by omega) dX5_zone_89 ?_
      refine lv_topi (fun x_89 ex_89 => ?_)
      refine g_iret hx hb hr hlk hE hw hS dX5_zone_90 ?_
      obtain ⟨r13, hm⟩ := hp_78
      exact ⟨by rw [zoneQ_nI hk, zoneV, if_neg k_10_0, if_pos k_10_1, ex_89, hm, ur_same], make_keep hm⟩
    by_cases k_10_2 : w = 2
    · refine lv_tableIn (tgt := 91) hx hb dX5_zone_10 (by rw [k_10_2]; decide) (by rw [k_10_2]; decide) (off := 81) (by rw [k_10_2]; decide +kernel) (by decide) ?_
      refine lv_aload_n hx hb dX5_zone_91 rfl (lv_at hl 0 rfl) ?_
      refine gf_X5_now hx hb hE hw (Nat.zero_lt_one) hown (hts (.fieldLink RX5 12 "ZonedLight" "now" "LZonedLight$Screen;") (by decide +kernel)) dX5_zone_92 ?_
      refine lv_iload_n hx hb dX5_zone_95 rfl (lv_at hl 1 rfl) ?_
      refine g_Vi (n := 1) (As := [.int (nI k)]) (rest := []) hx hb hml hown hts hE hw hS gX5_zone_X3_light (c_X3_light l G A _ 0 k (by omega) (by omega)) rfl (by decide +kernel) ⟨Nat.le_of_ble_eq_true rfl, Nat.le_of_ble_eq_true rfl⟩ (by decide) rfl rfl rfl rfl hl.1 rfl (Nat.le_of_ble_eq_true rfl) ⟨Nat.le_of_ble_eq_true rfl, Nat.le_of_ble_eq_true rfl⟩ dX5_zone_96 (fun x_96 τ_96 H locs hp_96 hw hS => ?_)
      obtain ⟨ex_96, hτ_96⟩ := hp_96
      rw [hτ_96] at hw
      refine g_iret hx hb hr hlk hE hw hS dX5_zone_99 ?_
      exact ⟨by rw [zoneQ_nI hk, zoneV, if_neg k_10_0, if_neg k_10_1, if_pos k_10_2, ex_96], sameC.rf⟩
    by_cases k_10_3 : w = 3
    · refine lv_tableIn (tgt := 100) hx hb dX5_zone_10 (by rw [k_10_3]; decide) (by rw [k_10_3]; decide) (off := 90) (by rw [k_10_3]; decide +kernel) (by decide) ?_
      refine lv_aload_n hx hb dX5_zone_100 rfl (lv_at hl 0 rfl) ?_
      refine gf_X5_now hx hb hE hw (Nat.zero_lt_one) hown (hts (.fieldLink RX5 12 "ZonedLight" "now" "LZonedLight$Screen;") (by decide +kernel)) dX5_zone_101 ?_
      refine gf_X3_dead hx hb hE hw (by decide) hown (hts (.fieldLink RX5 107 "ZonedLight$Screen" "dead" "[Z") (by decide +kernel)) dX5_zone_104 ?_
      refine lv_iload_n hx hb dX5_zone_107 rfl (lv_at hl 1 rfl) ?_
      refine g_zald hx hb hE hw (n := 18) (by decide) rfl (by decide) (by omega) dX5_zone_108 ?_
      refine lv_topi (fun x_108 ex_108 => ?_)
      have hcd := hw.2.2 0 k
      rw [← ex_108] at hcd
      have h3 : zoneQ (scr σ 0) (nI k) w = x_108 := by rw [zoneQ_nI hk, zoneV, if_neg k_10_0, if_neg k_10_1, if_neg k_10_2, if_pos k_10_3, scr_dead hk, ← ex_108]
      refine lv_if_eq (tgt := 116) hx hb dX5_zone_109 (by decide) (fun c_109 => ?_) (fun c_109 => ?_)
      · refine lv_iconst (v := nI 0) hx hb dX5_zone_116 (by decide) ?_
        refine g_iret hx hb hr hlk hE hw hS dX5_zone_117 ?_
        first | exact ⟨by rw [h3, c_109]; rfl, sameC.rf⟩ | exact ⟨by rw [h3, hcd.resolve_left c_109]; rfl, sameC.rf⟩
      · refine lv_iconst (v := nI 1) hx hb dX5_zone_112 (by decide) ?_
        refine lv_goto (tgt := 117) hx hb dX5_zone_113 (by decide) ?_
        refine g_iret hx hb hr hlk hE hw hS dX5_zone_117 ?_
        first | exact ⟨by rw [h3, c_109]; rfl, sameC.rf⟩ | exact ⟨by rw [h3, hcd.resolve_left c_109]; rfl, sameC.rf⟩
    by_cases k_10_4 : w = 4
    · refine lv_tableIn (tgt := 118) hx hb dX5_zone_10 (by rw [k_10_4]; decide) (by rw [k_10_4]; decide) (off := 108) (by rw [k_10_4]; decide +kernel) (by decide) ?_
      refine lv_aload_n hx hb dX5_zone_118 rfl (lv_at hl 0 rfl) ?_
      refine gf_X5_now hx hb hE hw (Nat.zero_lt_one) hown (hts (.fieldLink RX5 12 "ZonedLight" "now" "LZonedLight$Screen;") (by decide +kernel)) dX5_zone_119 ?_
      refine lv_iload_n hx hb dX5_zone_122 rfl (lv_at hl 1 rfl) ?_
      refine g_Vi (n := 1) (As := [.int (nI k)]) (rest := []) hx hb hml hown hts hE hw hS gX5_zone_X3_peak (c_X3_peak l G A _ 0 k (by omega) (by omega)) rfl (by decide +kernel) ⟨Nat.le_of_ble_eq_true rfl, Nat.le_of_ble_eq_true rfl⟩ (by decide) rfl rfl rfl rfl hl.1 rfl (Nat.le_of_ble_eq_true rfl) ⟨Nat.le_of_ble_eq_true rfl, Nat.le_of_ble_eq_true rfl⟩ dX5_zone_123 (fun x_123 τ_123 H locs hp_123 hw hS => ?_)
      obtain ⟨ex_123, hτ_123⟩ := hp_123
      rw [hτ_123] at hw
      refine g_iret hx hb hr hlk hE hw hS dX5_zone_126 ?_
      exact ⟨by rw [zoneQ_nI hk, zoneV, if_neg k_10_0, if_neg k_10_1, if_neg k_10_2, if_neg k_10_3, if_pos k_10_4, ex_123], sameC.rf⟩
    by_cases k_10_5 : w = 5
    · refine lv_tableIn (tgt := 127) hx hb dX5_zone_10 (by rw [k_10_5]; decide) (by rw [k_10_5]; decide) (off := 117) (by rw [k_10_5]; decide +kernel) (by decide) ?_
      refine lv_aload_n hx hb dX5_zone_127 rfl (lv_at hl 0 rfl) ?_
      refine gf_X5_now hx hb hE hw (Nat.zero_lt_one) hown (hts (.fieldLink RX5 12 "ZonedLight" "now" "LZonedLight$Screen;") (by decide +kernel)) dX5_zone_128 ?_
      refine lv_iload_n hx hb dX5_zone_131 rfl (lv_at hl 1 rfl) ?_
      refine g_Vi (n := 1) (As := [.int (nI k)]) (rest := []) hx hb hml hown hts hE hw hS gX5_zone_X3_mean (c_X3_mean l G A _ 0 k (by omega) (by omega)) rfl (by decide +kernel) ⟨Nat.le_of_ble_eq_true rfl, Nat.le_of_ble_eq_true rfl⟩ (by decide) rfl rfl rfl rfl hl.1 rfl (Nat.le_of_ble_eq_true rfl) ⟨Nat.le_of_ble_eq_true rfl, Nat.le_of_ble_eq_true rfl⟩ dX5_zone_132 (fun x_132 τ_132 H locs hp_132 hw hS => ?_)
      obtain ⟨ex_132, hτ_132⟩ := hp_132
      rw [hτ_132] at hw
      refine g_iret hx hb hr hlk hE hw hS dX5_zone_135 ?_
      exact ⟨by rw [zoneQ_nI hk, zoneV, if_neg k_10_0, if_neg k_10_1, if_neg k_10_2, if_neg k_10_3, if_neg k_10_4, if_pos k_10_5, ex_132], sameC.rf⟩
    by_cases k_10_6 : w = 6
    · refine lv_tableIn (tgt := 136) hx hb dX5_zone_10 (by rw [k_10_6]; decide) (by rw [k_10_6]; decide) (off := 126) (by rw [k_10_6]; decide +kernel) (by decide) ?_
      refine lv_aload_n hx hb dX5_zone_136 rfl (lv_at hl 0 rfl) ?_
      refine gf_X5_now hx hb hE hw (Nat.zero_lt_one) hown (hts (.fieldLink RX5 12 "ZonedLight" "now" "LZonedLight$Screen;") (by decide +kernel)) dX5_zone_137 ?_
      refine lv_aload_n hx hb dX5_zone_140 rfl (lv_at hl 0 rfl) ?_
      refine gf_X5_now hx hb hE hw (Nat.zero_lt_one) hown (hts (.fieldLink RX5 12 "ZonedLight" "now" "LZonedLight$Screen;") (by decide +kernel)) dX5_zone_141 ?_
      refine lv_iload_n hx hb dX5_zone_144 rfl (lv_at hl 1 rfl) ?_
      refine g_Vi (n := 1) (As := [.int (nI k)]) (rest := [.ref (G.1 0 0)]) hx hb hml hown hts hE hw hS gX5_zone_X3_light (c_X3_light l G A _ 0 k (by omega) (by omega)) rfl (by decide +kernel) ⟨Nat.le_of_ble_eq_true rfl, Nat.le_of_ble_eq_true rfl⟩ (by decide) rfl rfl rfl rfl hl.1 rfl (Nat.le_of_ble_eq_true rfl) ⟨Nat.le_of_ble_eq_true rfl, Nat.le_of_ble_eq_true rfl⟩ dX5_zone_145 (fun x_145 τ_145 H locs hp_145 hw hS => ?_)
      obtain ⟨ex_145, hτ_145⟩ := hp_145
      rw [hτ_145] at hw
      refine g_Vi (n := 1) (As := [.int x_145]) (rest := []) hx hb hml hown hts hE hw hS gX5_zone_X3_leakOf (c_X3_leakOf l G A _ 0 x_145 (by omega)) rfl (by decide +kernel) ⟨Nat.le_of_ble_eq_true rfl, Nat.le_of_ble_eq_true rfl⟩ (by decide) rfl rfl rfl rfl hl.1 rfl (Nat.le_of_ble_eq_true rfl) ⟨Nat.le_of_ble_eq_true rfl, Nat.le_of_ble_eq_true rfl⟩ dX5_zone_148 (fun x_148 τ_148 H locs hp_148 hw hS => ?_)
      obtain ⟨ex_148, hτ_148⟩ := hp_148
      rw [hτ_148] at hw
      refine g_iret hx hb hr hlk hE hw hS dX5_zone_151 ?_
      exact ⟨by rw [zoneQ_nI hk, zoneV, if_neg k_10_0, if_neg k_10_1, if_neg k_10_2, if_neg k_10_3, if_neg k_10_4, if_neg k_10_5, if_pos k_10_6, ex_148, ex_145], sameC.rf⟩
    by_cases k_10_7 : w = 7
    · refine lv_tableIn (tgt := 152) hx hb dX5_zone_10 (by rw [k_10_7]; decide) (by rw [k_10_7]; decide) (off := 142) (by rw [k_10_7]; decide +kernel) (by decide) ?_
      refine lv_aload_n hx hb dX5_zone_152 rfl (lv_at hl 0 rfl) ?_
      refine gf_X5_tally hx hb hE hw (Nat.zero_lt_one) hown (hts (.fieldLink RX5 50 "ZonedLight" "tally" "LZonedLight$Tally;") (by decide +kernel)) dX5_zone_153 ?_
      refine lv_aload_n hx hb dX5_zone_156 rfl (lv_at hl 0 rfl) ?_
      refine gf_X5_now hx hb hE hw (Nat.zero_lt_one) hown (hts (.fieldLink RX5 12 "ZonedLight" "now" "LZonedLight$Screen;") (by decide +kernel)) dX5_zone_157 ?_
      refine lv_iload_n hx hb dX5_zone_160 rfl (lv_at hl 1 rfl) ?_
      refine g_Vv (n := 2) (As := [.ref (G.1 0 0), .int (nI k)]) (rest := []) hx hb hml hown hts hE hw hS gX5_zone_X4_takeZone (c_X4_takeZone l G A _ 0 k (by omega) (by omega)) rfl (by decide +kernel) ⟨Nat.le_of_ble_eq_true rfl, Nat.le_of_ble_eq_true rfl⟩ (Nat.zero_lt_one) rfl rfl rfl rfl hl.1 rfl (Nat.le_of_ble_eq_true rfl) ⟨Nat.le_of_ble_eq_true rfl, Nat.le_of_ble_eq_true rfl⟩ dX5_zone_161 (fun τ_161 H locs hp_161 hw hS => ?_)
      refine lv_aload_n hx hb dX5_zone_164 rfl (lv_at hl 0 rfl) ?_
      refine gf_X5_tally hx hb hE hw (Nat.zero_lt_one) hown (hts (.fieldLink RX5 50 "ZonedLight" "tally" "LZonedLight$Tally;") (by decide +kernel)) dX5_zone_165 ?_
      refine gf_X4_tooDark hx hb hE hw (Nat.zero_lt_one) hown (hts (.fieldLink RX5 181 "ZonedLight$Tally" "tooDark" "I") (by decide +kernel)) dX5_zone_168 ?_
      refine lv_topi (fun x_168 ex_168 => ?_)
      refine g_iret hx hb hr hlk hE hw hS dX5_zone_171 ?_
      exact ⟨by rw [zoneQ_nI hk, zoneV, if_neg k_10_0, if_neg k_10_1, if_neg k_10_2, if_neg k_10_3, if_neg k_10_4, if_neg k_10_5, if_neg k_10_6, if_pos k_10_7, ex_168, hp_161, ur_same], tal_keep hp_161⟩
    by_cases k_10_8 : w = 8
    · refine lv_tableIn (tgt := 172) hx hb dX5_zone_10 (by rw [k_10_8]; decide) (by rw [k_10_8]; decide) (off := 162) (by rw [k_10_8]; decide +kernel) (by decide) ?_
      refine lv_aload_n hx hb dX5_zone_172 rfl (lv_at hl 0 rfl) ?_
      refine gf_X5_tally hx hb hE hw (Nat.zero_lt_one) hown (hts (.fieldLink RX5 50 "ZonedLight" "tally" "LZonedLight$Tally;") (by decide +kernel)) dX5_zone_173 ?_
      refine lv_aload_n hx hb dX5_zone_176 rfl (lv_at hl 0 rfl) ?_
      refine gf_X5_now hx hb hE hw (Nat.zero_lt_one) hown (hts (.fieldLink RX5 12 "ZonedLight" "now" "LZonedLight$Screen;") (by decide +kernel)) dX5_zone_177 ?_
      refine lv_iload_n hx hb dX5_zone_180 rfl (lv_at hl 1 rfl) ?_
      refine g_Vv (n := 2) (As := [.ref (G.1 0 0), .int (nI k)]) (rest := []) hx hb hml hown hts hE hw hS gX5_zone_X4_takeZone (c_X4_takeZone l G A _ 0 k (by omega) (by omega)) rfl (by decide +kernel) ⟨Nat.le_of_ble_eq_true rfl, Nat.le_of_ble_eq_true rfl⟩ (Nat.zero_lt_one) rfl rfl rfl rfl hl.1 rfl (Nat.le_of_ble_eq_true rfl) ⟨Nat.le_of_ble_eq_true rfl, Nat.le_of_ble_eq_true rfl⟩ dX5_zone_181 (fun τ_181 H locs hp_181 hw hS => ?_)
      refine lv_aload_n hx hb dX5_zone_184 rfl (lv_at hl 0 rfl) ?_
      refine gf_X5_tally hx hb hE hw (Nat.zero_lt_one) hown (hts (.fieldLink RX5 50 "ZonedLight" "tally" "LZonedLight$Tally;") (by decide +kernel)) dX5_zone_185 ?_
      refine gf_X4_tooBright hx hb hE hw (Nat.zero_lt_one) hown (hts (.fieldLink RX5 184 "ZonedLight$Tally" "tooBright" "I") (by decide +kernel)) dX5_zone_188 ?_
      refine lv_topi (fun x_188 ex_188 => ?_)
      refine g_iret hx hb hr hlk hE hw hS dX5_zone_191 ?_
      exact ⟨by rw [zoneQ_nI hk, zoneV, if_neg k_10_0, if_neg k_10_1, if_neg k_10_2, if_neg k_10_3, if_neg k_10_4, if_neg k_10_5, if_neg k_10_6, if_neg k_10_7, if_pos k_10_8, ex_188, hp_181, ur_same], tal_keep hp_181⟩
    refine lv_tableOut (tgt := 192) hx hb dX5_zone_10 (by have t0 := tw_ne (k := 0) (0) (by decide) k_10_0; have t1 := tw_ne (k := 1) (1) (by decide) k_10_1; have t2 := tw_ne (k := 2) (2) (by decide) k_10_2; have t3 := tw_ne (k := 3) (3) (by decide) k_10_3; have t4 := tw_ne (k := 4) (4) (by decide) k_10_4; have t5 := tw_ne (k := 5) (5) (by decide) k_10_5; have t6 := tw_ne (k := 6) (6) (by decide) k_10_6; have t7 := tw_ne (k := 7) (7) (by decide) k_10_7; have t8 := tw_ne (k := 8) (8) (by decide) k_10_8; omega) (by decide) ?_
    refine lv_bipush (v := (-2)) hx hb dX5_zone_192 (by decide) ?_
    refine g_iret hx hb hr hlk hE hw hS dX5_zone_194 ?_
    exact ⟨by rw [zoneQ_nI hk, zoneV, if_neg k_10_0, if_neg k_10_1, if_neg k_10_2, if_neg k_10_3, if_neg k_10_4, if_neg k_10_5, if_neg k_10_6, if_neg k_10_7, if_neg k_10_8], sameC.rf⟩
  · refine lv_iconst (v := (-1)) hx hb dX5_zone_7 (by decide) ?_
    refine g_iret hx hb hr hlk hE hw hS dX5_zone_8 ?_
    exact ⟨(zoneQ_no (bP_f hb_1 c_4)).symm, sameC.rf⟩
set_option maxHeartbeats 4000000 in
set_option maxRecDepth 100000 in
/-- ZonedLight.countSpots(I)I -/
theorem c_X5_countSpots (l : Launch) (G : GG) (A : Nat → Prop) (σ : St) (w : Int32)  : MI l yX5_countSpots wsX5_countSpots 6 137 G A σ [.ref (G.1 5 0), .int w] (fun r τ => r = tallyV (scr σ 0) w ∧ keepC σ τ) := by
  refine MI.on (by decide) rfl (Nat.le_of_ble_eq_true rfl) (fun pP eE sS mM args below meth cC ls hx hb hml hr hown hlk hts hE hw hS hl => ?_)
  have hl : lv_has ls 2 [(0, .ref (G.1 5 0)), (1, .int w)] := hl
  refine lv_aload_n hx hb dX5_countSpots_0 rfl (lv_at hl 0 rfl) ?_
  refine gf_X5_tally hx hb hE hw (Nat.zero_lt_one) hown (hts (.fieldLink RX5 50 "ZonedLight" "tally" "LZonedLight$Tally;") (by decide +kernel)) dX5_countSpots_1 ?_
  refine lv_aload_n hx hb dX5_countSpots_4 rfl (lv_at hl 0 rfl) ?_
  refine gf_X5_now hx hb hE hw (Nat.zero_lt_one) hown (hts (.fieldLink RX5 12 "ZonedLight" "now" "LZonedLight$Screen;") (by decide +kernel)) dX5_countSpots_5 ?_
  refine g_Vv (n := 1) (As := [.ref (G.1 0 0)]) (rest := []) hx hb hml hown hts hE hw hS gX5_countSpots_X4_takeAll (c_X4_takeAll l G A _ 0 (by omega)) rfl (by decide +kernel) ⟨Nat.le_of_ble_eq_true rfl, Nat.le_of_ble_eq_true rfl⟩ (Nat.zero_lt_one) rfl rfl rfl rfl hl.1 rfl (Nat.le_of_ble_eq_true rfl) ⟨Nat.le_of_ble_eq_true rfl, Nat.le_of_ble_eq_true rfl⟩ dX5_countSpots_8 (fun τ_8 H locs hp_8 hw hS => ?_)
  refine lv_iload_n hx hb dX5_countSpots_11 rfl (lv_at hl 1 rfl) ?_
  by_cases k_12_4 : w = 4
  · refine lv_tableIn (tgt := 44) hx hb dX5_countSpots_12 (by rw [k_12_4]; decide) (by rw [k_12_4]; decide) (off := 32) (by rw [k_12_4]; decide +kernel) (by decide) ?_
    refine lv_sipush (v := nI 288) hx hb dX5_countSpots_44 (by decide) ?_
    refine lv_aload_n hx hb dX5_countSpots_47 rfl (lv_at hl 0 rfl) ?_
    refine gf_X5_tally hx hb hE hw (Nat.zero_lt_one) hown (hts (.fieldLink RX5 50 "ZonedLight" "tally" "LZonedLight$Tally;") (by decide +kernel)) dX5_countSpots_48 ?_
    refine gf_X4_tooDark hx hb hE hw (Nat.zero_lt_one) hown (hts (.fieldLink RX5 181 "ZonedLight$Tally" "tooDark" "I") (by decide +kernel)) dX5_countSpots_51 ?_
    refine lv_topi (fun x_51 ex_51 => ?_)
    refine lv_isub hx hb dX5_countSpots_54 ?_
    refine lv_topi (fun x_54 ex_54 => ?_)
    refine lv_aload_n hx hb dX5_countSpots_55 rfl (lv_at hl 0 rfl) ?_
    refine gf_X5_tally hx hb hE hw (Nat.zero_lt_one) hown (hts (.fieldLink RX5 50 "ZonedLight" "tally" "LZonedLight$Tally;") (by decide +kernel)) dX5_countSpots_56 ?_
    refine gf_X4_tooBright hx hb hE hw (Nat.zero_lt_one) hown (hts (.fieldLink RX5 184 "ZonedLight$Tally" "tooBright" "I") (by decide +kernel)) dX5_countSpots_59 ?_
    refine lv_topi (fun x_59 ex_59 => ?_)
    refine lv_isub hx hb dX5_countSpots_62 ?_
    refine lv_topi (fun x_62 ex_62 => ?_)
    refine g_iret hx hb hr hlk hE hw hS dX5_countSpots_63 ?_
    exact ⟨by rw [tallyV, if_pos k_12_4, ex_62, ex_54, ex_51, ex_59, hp_8, ur_same], tal_keep hp_8⟩
  by_cases k_12_5 : w = 5
  · refine lv_tableIn (tgt := 64) hx hb dX5_countSpots_12 (by rw [k_12_5]; decide) (by rw [k_12_5]; decide) (off := 52) (by rw [k_12_5]; decide +kernel) (by decide) ?_
    refine lv_aload_n hx hb dX5_countSpots_64 rfl (lv_at hl 0 rfl) ?_
    refine gf_X5_tally hx hb hE hw (Nat.zero_lt_one) hown (hts (.fieldLink RX5 50 "ZonedLight" "tally" "LZonedLight$Tally;") (by decide +kernel)) dX5_countSpots_65 ?_
    refine gf_X4_tooDark hx hb hE hw (Nat.zero_lt_one) hown (hts (.fieldLink RX5 181 "ZonedLight$Tally" "tooDark" "I") (by decide +kernel)) dX5_countSpots_68 ?_
    refine lv_topi (fun x_68 ex_68 => ?_)
    refine g_iret hx hb hr hlk hE hw hS dX5_countSpots_71 ?_
    exact ⟨by rw [tallyV, if_neg k_12_4, if_pos k_12_5, ex_68, hp_8, ur_same], tal_keep hp_8⟩
  by_cases k_12_6 : w = 6
  · refine lv_tableIn (tgt := 72) hx hb dX5_countSpots_12 (by rw [k_12_6]; decide) (by rw [k_12_6]; decide) (off := 60) (by rw [k_12_6]; decide +kernel) (by decide) ?_
    refine lv_aload_n hx hb dX5_countSpots_72 rfl (lv_at hl 0 rfl) ?_
    refine gf_X5_tally hx hb hE hw (Nat.zero_lt_one) hown (hts (.fieldLink RX5 50 "ZonedLight" "tally" "LZonedLight$Tally;") (by decide +kernel)) dX5_countSpots_73 ?_
    refine gf_X4_tooBright hx hb hE hw (Nat.zero_lt_one) hown (hts (.fieldLink RX5 184 "ZonedLight$Tally" "tooBright" "I") (by decide +kernel)) dX5_countSpots_76 ?_
    refine lv_topi (fun x_76 ex_76 => ?_)
    refine g_iret hx hb hr hlk hE hw hS dX5_countSpots_79 ?_
    exact ⟨by rw [tallyV, if_neg k_12_4, if_neg k_12_5, if_pos k_12_6, ex_76, hp_8, ur_same], tal_keep hp_8⟩
  by_cases k_12_7 : w = 7
  · refine lv_tableIn (tgt := 80) hx hb dX5_countSpots_12 (by rw [k_12_7]; decide) (by rw [k_12_7]; decide) (off := 68) (by rw [k_12_7]; decide +kernel) (by decide) ?_
    refine lv_aload_n hx hb dX5_countSpots_80 rfl (lv_at hl 0 rfl) ?_
    refine gf_X5_tally hx hb hE hw (Nat.zero_lt_one) hown (hts (.fieldLink RX5 50 "ZonedLight" "tally" "LZonedLight$Tally;") (by decide +kernel)) dX5_countSpots_81 ?_
    refine gf_X4_off hx hb hE hw (Nat.zero_lt_one) hown (hts (.fieldLink RX5 215 "ZonedLight$Tally" "off" "I") (by decide +kernel)) dX5_countSpots_84 ?_
    refine lv_topi (fun x_84 ex_84 => ?_)
    refine g_iret hx hb hr hlk hE hw hS dX5_countSpots_87 ?_
    exact ⟨by rw [tallyV, if_neg k_12_4, if_neg k_12_5, if_neg k_12_6, if_pos k_12_7, ex_84, hp_8, ur_same], tal_keep hp_8⟩
  refine lv_tableOut (tgt := 88) hx hb dX5_countSpots_12 (by have t4 := tw_ne (k := 4) (4) (by decide) k_12_4; have t5 := tw_ne (k := 5) (5) (by decide) k_12_5; have t6 := tw_ne (k := 6) (6) (by decide) k_12_6; have t7 := tw_ne (k := 7) (7) (by decide) k_12_7; omega) (by decide) ?_
  refine lv_aload_n hx hb dX5_countSpots_88 rfl (lv_at hl 0 rfl) ?_
  refine gf_X5_tally hx hb hE hw (Nat.zero_lt_one) hown (hts (.fieldLink RX5 50 "ZonedLight" "tally" "LZonedLight$Tally;") (by decide +kernel)) dX5_countSpots_89 ?_
  refine gf_X4_greatestOff hx hb hE hw (Nat.zero_lt_one) hown (hts (.fieldLink RX5 224 "ZonedLight$Tally" "greatestOff" "I") (by decide +kernel)) dX5_countSpots_92 ?_
  refine lv_topi (fun x_92 ex_92 => ?_)
  refine g_iret hx hb hr hlk hE hw hS dX5_countSpots_95 ?_
  exact ⟨by rw [tallyV, if_neg k_12_4, if_neg k_12_5, if_neg k_12_6, if_neg k_12_7, ex_92, hp_8, ur_same], tal_keep hp_8⟩
set_option maxHeartbeats 4000000 in
set_option maxRecDepth 100000 in
/-- ZonedLight.greatestGap()I -/
theorem c_X5_greatestGap (l : Launch) (G : GG) (A : Nat → Prop) (σ : St)  (hok : okW (scr σ 0)) : MI l yX5_greatestGap wsX5_greatestGap 6 137 G A σ [.ref (G.1 5 0)] (fun r τ => r = gapF (scr σ 0) ∧ keepC σ τ) := by
  refine MI.on (by decide) rfl (Nat.le_of_ble_eq_true rfl) (fun pP eE sS mM args below meth cC ls hx hb hml hr hown hlk hts hE hw hS hl => ?_)
  have hl : lv_has ls 3 [(0, .ref (G.1 5 0))] := hl
  refine lv_aload_n hx hb dX5_greatestGap_0 rfl (lv_at hl 0 rfl) ?_
  refine gf_X5_plan hx hb hE hw (Nat.zero_lt_one) hown (hts (.fieldLink RX5 43 "ZonedLight" "plan" "LZonedLight$Plan;") (by decide +kernel)) dX5_greatestGap_1 ?_
  refine lv_aload_n hx hb dX5_greatestGap_4 rfl (lv_at hl 0 rfl) ?_
  refine gf_X5_now hx hb hE hw (Nat.zero_lt_one) hown (hts (.fieldLink RX5 12 "ZonedLight" "now" "LZonedLight$Screen;") (by decide +kernel)) dX5_greatestGap_5 ?_
  refine g_Vv (n := 1) (As := [.ref (G.1 0 0)]) (rest := []) hx hb hml hown hts hE hw hS gX5_greatestGap_X2_make (c_X2_make l G A _ 0 (by omega) (by omega)) rfl (by decide +kernel) ⟨Nat.le_of_ble_eq_true rfl, Nat.le_of_ble_eq_true rfl⟩ (Nat.zero_lt_one) rfl rfl rfl rfl hl.1 rfl (Nat.le_of_ble_eq_true rfl) ⟨Nat.le_of_ble_eq_true rfl, Nat.le_of_ble_eq_true rfl⟩ dX5_greatestGap_8 (fun τ_8 H locs hp_8 hw hS => ?_)
  obtain ⟨r13, hm⟩ := hp_8
  have e12 : τ_8 12 0 = wantF (scr σ 0) (scr σ 0 327) := by rw [hm, ur_same]
  have es : scr τ_8 0 = scr σ 0 := by rw [hm, scr_ur (by decide), scr_ur (by decide)]
  refine lv_iconst (v := nI 0) hx hb dX5_greatestGap_11 (by decide) ?_
  refine lv_istore_n (lv' := [(1, .int (nI 0)), (0, .ref (G.1 5 0))]) hx hb dX5_greatestGap_12 rfl hl (by decide) rfl (fun ls hl => ?_)
  refine lv_iconst (v := nI 0) hx hb dX5_greatestGap_13 (by decide) ?_
  refine lv_istore_n (lv' := [(2, .int (nI 0)), (1, .int (nI 0)), (0, .ref (G.1 5 0))]) hx hb dX5_greatestGap_14 rfl hl (by decide) rfl (fun ls hl => ?_)
  have K_15 : ∀ (fuel : Nat) (k : Nat) (acc : Int32), (k ≤ 18) → (acc = gapK (scr σ 0) (wantF (scr σ 0) (scr σ 0 327)) k) → 18 - k < fuel → ∀ (H : Heap) (locs : List Loc) (ls : Array Slot), Wcel G τ_8 H → va_S A sS.heap H locs → lv_has ls 3 [(0, .ref (G.1 5 0)), (1, .int acc), (2, .int (nI k))] → W pP l eE { frames := 6, cells := 0, slots := 0, locals := 137 } sS mM args below meth cC H locs 0 0 (MQ below (va_Qi (fun r τ => r = gapF (scr σ 0) ∧ keepC σ τ) (fun τ t => gP G A τ t) A) args sS 0 0 A) (F0 mM 15 ls []) := by
    intro fuel
    induction fuel with
    | zero =>
      intro k acc hk ha hfu
      exact absurd hfu (Nat.not_lt_zero _)
    | succ fuel K_15 =>
      intro k acc hk ha hfu H locs ls hw hS hl
      refine lv_iload_n hx hb dX5_greatestGap_15 rfl (lv_at hl 2 rfl) ?_
      refine lv_bipush (v := nI 18) hx hb dX5_greatestGap_16 (by decide) ?_
      refine n_cmp_ge (tgt := 54) hx hb dX5_greatestGap_18 (by decide) (by omega) (by omega) (fun c_18 => ?_) (fun c_18 => ?_)
      · refine lv_iload_n hx hb dX5_greatestGap_54 rfl (lv_at hl 1 rfl) ?_
        refine g_iret hx hb hr hlk hE hw hS dX5_greatestGap_55 ?_
        exact ⟨by rw [ha, show k = 18 by omega]; rfl, make_keep hm⟩
      · refine lv_iload_n hx hb dX5_greatestGap_21 rfl (lv_at hl 1 rfl) ?_
        refine lv_aload_n hx hb dX5_greatestGap_22 rfl (lv_at hl 0 rfl) ?_
        refine gf_X5_plan hx hb hE hw (Nat.zero_lt_one) hown (hts (.fieldLink RX5 43 "ZonedLight" "plan" "LZonedLight$Plan;") (by decide +kernel)) dX5_greatestGap_23 ?_
        refine gf_X2_level hx hb hE hw (Nat.zero_lt_one) hown (hts (.fieldLink RX5 117 "ZonedLight$Plan" "level" "[I") (by decide +kernel)) dX5_greatestGap_26 ?_
        refine lv_iload_n hx hb dX5_greatestGap_29 rfl (lv_at hl 2 rfl) ?_
        refine g_ald hx hb hE hw (n := 18) (Nat.zero_lt_one) rfl (by decide) (by omega) dX5_greatestGap_30 ?_
        refine lv_topi (fun x_30 ex_30 => ?_)
        refine lv_aload_n hx hb dX5_greatestGap_31 rfl (lv_at hl 0 rfl) ?_
        refine gf_X5_now hx hb hE hw (Nat.zero_lt_one) hown (hts (.fieldLink RX5 12 "ZonedLight" "now" "LZonedLight$Screen;") (by decide +kernel)) dX5_greatestGap_32 ?_
        refine gf_X3_level hx hb hE hw (by decide) hown (hts (.fieldLink RX5 111 "ZonedLight$Screen" "level" "[I") (by decide +kernel)) dX5_greatestGap_35 ?_
        refine lv_iload_n hx hb dX5_greatestGap_38 rfl (lv_at hl 2 rfl) ?_
        refine g_ald hx hb hE hw (n := 18) (by decide) rfl (by decide) (by omega) dX5_greatestGap_39 ?_
        refine lv_topi (fun x_39 ex_39 => ?_)
        refine lv_isub hx hb dX5_greatestGap_40 ?_
        refine lv_topi (fun x_40 ex_40 => ?_)
        refine g_abs hx hb (hml.trans hl.1.symm) hE hown (hts (.methodLink RX5 227 Lib.Math.abs.name) (by decide +kernel)) ⟨Nat.le_of_ble_eq_true rfl, Nat.le_of_ble_eq_true rfl⟩ ⟨Nat.le_of_ble_eq_true rfl, Nat.le_of_ble_eq_true rfl⟩ dX5_greatestGap_41 ?_
        refine lv_topi (fun x_41 ex_41 => ?_)
        refine g_max hx hb (hml.trans hl.1.symm) hE hown (hts (.methodLink RX5 232 Lib.Math.max.name) (by decide +kernel)) ⟨Nat.le_of_ble_eq_true rfl, Nat.le_of_ble_eq_true rfl⟩ ⟨Nat.le_of_ble_eq_true rfl, Nat.le_of_ble_eq_true rfl⟩ dX5_greatestGap_44 ?_
        refine lv_topi (fun x_44 ex_44 => ?_)
        refine lv_istore_n (lv' := [(1, .int x_44), (0, .ref (G.1 5 0)), (2, .int (nI k))]) hx hb dX5_greatestGap_47 rfl hl (by decide) rfl (fun ls hl => ?_)
        refine lv_iinc (v := nI (k + 1)) (lv' := [(2, .int (nI (k + 1))), (1, .int x_44), (0, .ref (G.1 5 0))]) hx hb dX5_greatestGap_48 hl (k := 2) rfl (nI_add _ _) (by decide) rfl (fun ls hl => ?_)
        refine lv_goto (tgt := 15) hx hb dX5_greatestGap_51 (by decide) ?_
        exact K_15 (k + 1) x_44 (by first | omega | assumption | rfl) (by rw [gapK, ex_44, ex_41, ex_40, ex_30, ex_39, ha, e12, ← es, scr_level c_18]; rfl) (by omega) _ _ _ hw hS (lv_sub hl [2, 1, 0] rfl)
  exact K_15 (18 - 0 + 1) 0 (nI 0) (by first | omega | assumption | rfl) (by first | omega | assumption | rfl) (Nat.lt_succ_self _) _ _ _ hw hS (lv_sub hl [2, 1, 0] rfl)
set_option maxHeartbeats 4000000 in
set_option maxRecDepth 100000 in
/-- ZonedLight.restsIn()I -/
theorem c_X5_restsIn (l : Launch) (G : GG) (A : Nat → Prop) (σ : St)  (hok : okW (scr σ 0)) : MI l yX5_restsIn wsX5_restsIn 7 159 G A σ [.ref (G.1 5 0)] (fun r τ => r = restsQ (scr σ 0) ∧ keepC σ τ) := by
  refine MI.on (by decide) rfl (Nat.le_of_ble_eq_true rfl) (fun pP eE sS mM args below meth cC ls hx hb hml hr hown hlk hts hE hw hS hl => ?_)
  have hl : lv_has ls 1 [(0, .ref (G.1 5 0))] := hl
  refine lv_aload_n hx hb dX5_restsIn_0 rfl (lv_at hl 0 rfl) ?_
  refine g_Vi (n := 0) (As := []) (rest := []) hx hb hml hown hts hE hw hS gX5_restsIn_X5_greatestGap (c_X5_greatestGap l G A _ (by omega)) rfl (by decide +kernel) ⟨Nat.le_of_ble_eq_true rfl, Nat.le_of_ble_eq_true rfl⟩ (Nat.zero_lt_one) rfl rfl rfl rfl hl.1 rfl (Nat.le_of_ble_eq_true rfl) ⟨Nat.le_of_ble_eq_true rfl, Nat.le_of_ble_eq_true rfl⟩ dX5_restsIn_1 (fun x_1 τ_1 H locs hp_1 hw hS => ?_)
  refine lv_aload_n hx hb dX5_restsIn_4 rfl (lv_at hl 0 rfl) ?_
  refine gf_X5_now hx hb hE hw (Nat.zero_lt_one) hown (hts (.fieldLink RX5 12 "ZonedLight" "now" "LZonedLight$Screen;") (by decide +kernel)) dX5_restsIn_5 ?_
  refine gf_X3_setting hx hb hE hw (by decide) hown (hts (.fieldLink RX5 131 "ZonedLight$Screen" "setting" "[I") (by decide +kernel)) dX5_restsIn_8 ?_
  refine lv_bipush (v := nI 7) hx hb dX5_restsIn_11 (by decide) ?_
  refine g_ald hx hb hE hw (n := 8) (by decide) rfl (by decide) (by omega) dX5_restsIn_13 ?_
  refine lv_topi (fun x_13 ex_13 => ?_)
  refine g_Si (n := 2) (As := [.int x_1, .int x_13]) (rest := []) hx hb hml hown hts hE hw hS gX5_restsIn_X5_roundedUp (c_X5_roundedUp l G A _ x_1 x_13) rfl (by decide +kernel) ⟨Nat.le_of_ble_eq_true rfl, Nat.le_of_ble_eq_true rfl⟩ rfl hl.1 rfl (Nat.le_of_ble_eq_true rfl) ⟨Nat.le_of_ble_eq_true rfl, Nat.le_of_ble_eq_true rfl⟩ dX5_restsIn_14 (fun x_14 τ_14 H locs hp_14 hw hS => ?_)
  obtain ⟨ex_14, hτ_14⟩ := hp_14
  rw [hτ_14] at hw
  refine g_iret hx hb hr hlk hE hw hS dX5_restsIn_17 ?_
  exact ⟨by rw [restsQ, ex_14, ex_13, hp_1.1, keepC_row hp_1.2 (by unfold scrC; decide), ← scr_set (σ := σ) (s := 0) (k := 7) (by decide)], hp_1.2⟩
set_option maxHeartbeats 4000000 in
set_option maxRecDepth 100000 in
/-- ZonedLight.leastStep(I)I -/
theorem c_X5_leastStep (l : Launch) (G : GG) (A : Nat → Prop) (σ : St) (f : Int32) (hok : okW (scr σ 0)) : MI l yX5_leastStep wsX5_leastStep 7 159 G A σ [.ref (G.1 5 0), .int f] (fun r τ => r = stepQ (scr σ 0) f ∧ keepC σ τ) := by
  refine MI.on (by decide) rfl (Nat.le_of_ble_eq_true rfl) (fun pP eE sS mM args below meth cC ls hx hb hml hr hown hlk hts hE hw hS hl => ?_)
  have hl : lv_has ls 2 [(0, .ref (G.1 5 0)), (1, .int f)] := hl
  refine lv_iload_n hx hb dX5_leastStep_0 rfl (lv_at hl 1 rfl) ?_
  refine lv_iconst (v := nI 1) hx hb dX5_leastStep_1 (by decide) ?_
  refine lv_icmp_lt (tgt := 12) hx hb dX5_leastStep_2 (by decide) (fun c_2 => ?_) (fun c_2 => ?_)
  · refine lv_bipush (v := (-2)) hx hb dX5_leastStep_12 (by decide) ?_
    refine g_iret hx hb hr hlk hE hw hS dX5_leastStep_14 ?_
    first | exact ⟨(if_pos (Or.inl c_2)).symm, sameC.rf⟩ | exact ⟨(if_pos (Or.inr (Int32.not_le.mp c_9))).symm, sameC.rf⟩
  · refine lv_iload_n hx hb dX5_leastStep_5 rfl (lv_at hl 1 rfl) ?_
    refine lv_sipush (v := nI 255) hx hb dX5_leastStep_6 (by decide) ?_
    refine lv_icmp_le (tgt := 15) hx hb dX5_leastStep_9 (by decide) (fun c_9 => ?_) (fun c_9 => ?_)
    · refine lv_aload_n hx hb dX5_leastStep_15 rfl (lv_at hl 0 rfl) ?_
      refine g_Vi (n := 0) (As := []) (rest := []) hx hb hml hown hts hE hw hS gX5_leastStep_X5_greatestGap (c_X5_greatestGap l G A _ (by omega)) rfl (by decide +kernel) ⟨Nat.le_of_ble_eq_true rfl, Nat.le_of_ble_eq_true rfl⟩ (Nat.zero_lt_one) rfl rfl rfl rfl hl.1 rfl (Nat.le_of_ble_eq_true rfl) ⟨Nat.le_of_ble_eq_true rfl, Nat.le_of_ble_eq_true rfl⟩ dX5_leastStep_16 (fun x_16 τ_16 H locs hp_16 hw hS => ?_)
      refine lv_iload_n hx hb dX5_leastStep_19 rfl (lv_at hl 1 rfl) ?_
      refine g_Si (n := 2) (As := [.int x_16, .int f]) (rest := []) hx hb hml hown hts hE hw hS gX5_leastStep_X5_roundedUp (c_X5_roundedUp l G A _ x_16 f) rfl (by decide +kernel) ⟨Nat.le_of_ble_eq_true rfl, Nat.le_of_ble_eq_true rfl⟩ rfl hl.1 rfl (Nat.le_of_ble_eq_true rfl) ⟨Nat.le_of_ble_eq_true rfl, Nat.le_of_ble_eq_true rfl⟩ dX5_leastStep_20 (fun x_20 τ_20 H locs hp_20 hw hS => ?_)
      obtain ⟨ex_20, hτ_20⟩ := hp_20
      rw [hτ_20] at hw
      refine g_iret hx hb hr hlk hE hw hS dX5_leastStep_23 ?_
      exact ⟨by rw [stepQ, if_neg (fun q => q.elim c_2 (fun z => Int32.not_lt.mpr c_9 z)), ex_20, hp_16.1], hp_16.2⟩
    · refine lv_bipush (v := (-2)) hx hb dX5_leastStep_12 (by decide) ?_
      refine g_iret hx hb hr hlk hE hw hS dX5_leastStep_14 ?_
      first | exact ⟨(if_pos (Or.inl c_2)).symm, sameC.rf⟩ | exact ⟨(if_pos (Or.inr (Int32.not_le.mp c_9))).symm, sameC.rf⟩
set_option maxHeartbeats 4000000 in
set_option maxRecDepth 100000 in
/-- ZonedLight.settleTrial()V -/
theorem c_X5_settleTrial (l : Launch) (G : GG) (A : Nat → Prop) (σ : St)  (hok : okW (scr σ 2)) : MV l yX5_settleTrial wsX5_settleTrial 6 137 G A σ [.ref (G.1 5 0)] (fun τ => setP σ τ) := by
  refine MV.on (by decide) rfl (Nat.le_of_ble_eq_true rfl) (fun pP eE sS mM args below meth cC ls hx hb hml hr hown hlk hts hE hw hS hl => ?_)
  have hl : lv_has ls 1 [(0, .ref (G.1 5 0))] := hl
  refine lv_aload_n hx hb dX5_settleTrial_0 rfl (lv_at hl 0 rfl) ?_
  refine gf_X5_plan hx hb hE hw (Nat.zero_lt_one) hown (hts (.fieldLink RX5 43 "ZonedLight" "plan" "LZonedLight$Plan;") (by decide +kernel)) dX5_settleTrial_1 ?_
  refine lv_aload_n hx hb dX5_settleTrial_4 rfl (lv_at hl 0 rfl) ?_
  refine gf_X5_trial hx hb hE hw (Nat.zero_lt_one) hown (hts (.fieldLink RX5 37 "ZonedLight" "trial" "LZonedLight$Screen;") (by decide +kernel)) dX5_settleTrial_5 ?_
  refine g_Vv (n := 1) (As := [.ref (G.1 0 2)]) (rest := []) hx hb hml hown hts hE hw hS gX5_settleTrial_X2_make (c_X2_make l G A _ 2 (by omega) (by omega)) rfl (by decide +kernel) ⟨Nat.le_of_ble_eq_true rfl, Nat.le_of_ble_eq_true rfl⟩ (Nat.zero_lt_one) rfl rfl rfl rfl hl.1 rfl (Nat.le_of_ble_eq_true rfl) ⟨Nat.le_of_ble_eq_true rfl, Nat.le_of_ble_eq_true rfl⟩ dX5_settleTrial_8 (fun τ_8 H locs hp_8 hw hS => ?_)
  refine lv_aload_n hx hb dX5_settleTrial_11 rfl (lv_at hl 0 rfl) ?_
  refine gf_X5_plan hx hb hE hw (Nat.zero_lt_one) hown (hts (.fieldLink RX5 43 "ZonedLight" "plan" "LZonedLight$Plan;") (by decide +kernel)) dX5_settleTrial_12 ?_
  refine gf_X2_level hx hb hE hw (Nat.zero_lt_one) hown (hts (.fieldLink RX5 117 "ZonedLight$Plan" "level" "[I") (by decide +kernel)) dX5_settleTrial_15 ?_
  refine lv_iconst (v := nI 0) hx hb dX5_settleTrial_18 (by decide) ?_
  refine lv_aload_n hx hb dX5_settleTrial_19 rfl (lv_at hl 0 rfl) ?_
  refine gf_X5_trial hx hb hE hw (Nat.zero_lt_one) hown (hts (.fieldLink RX5 37 "ZonedLight" "trial" "LZonedLight$Screen;") (by decide +kernel)) dX5_settleTrial_20 ?_
  refine gf_X3_level hx hb hE hw (by decide) hown (hts (.fieldLink RX5 111 "ZonedLight$Screen" "level" "[I") (by decide +kernel)) dX5_settleTrial_23 ?_
  refine lv_iconst (v := nI 0) hx hb dX5_settleTrial_26 (by decide) ?_
  refine lv_bipush (v := nI 18) hx hb dX5_settleTrial_27 (by decide) ?_
  refine g_copy hx hb (hml.trans hl.1.symm) hE hw hS hown (hts (.methodLink RX5 218 arraycopyName) (by decide +kernel)) (n := 18) (n0 := 18) (n1 := 18) (Nat.zero_lt_one) (by decide) rfl (fun _ => rfl) (by decide) rfl rfl (by decide) (by decide) (by decide) (Nat.le_of_ble_eq_true rfl) (Nat.le_of_ble_eq_true rfl) dX5_settleTrial_29 (fun H locs hw hS => ?_)
  refine lv_aload_n hx hb dX5_settleTrial_32 rfl (lv_at hl 0 rfl) ?_
  refine gf_X5_tally hx hb hE hw (Nat.zero_lt_one) hown (hts (.fieldLink RX5 50 "ZonedLight" "tally" "LZonedLight$Tally;") (by decide +kernel)) dX5_settleTrial_33 ?_
  refine lv_aload_n hx hb dX5_settleTrial_36 rfl (lv_at hl 0 rfl) ?_
  refine gf_X5_trial hx hb hE hw (Nat.zero_lt_one) hown (hts (.fieldLink RX5 37 "ZonedLight" "trial" "LZonedLight$Screen;") (by decide +kernel)) dX5_settleTrial_37 ?_
  refine g_Vv (n := 1) (As := [.ref (G.1 0 2)]) (rest := []) hx hb hml hown hts hE hw hS gX5_settleTrial_X4_takeAll (c_X4_takeAll l G A _ 2 (by omega)) rfl (by decide +kernel) ⟨Nat.le_of_ble_eq_true rfl, Nat.le_of_ble_eq_true rfl⟩ (Nat.zero_lt_one) rfl rfl rfl rfl hl.1 rfl (Nat.le_of_ble_eq_true rfl) ⟨Nat.le_of_ble_eq_true rfl, Nat.le_of_ble_eq_true rfl⟩ dX5_settleTrial_40 (fun τ_40 H locs hp_40 hw hS => ?_)
  refine g_vret hx hb hr hlk hE hw hS dX5_settleTrial_43 ?_
  exact set_end hp_8 hp_40
set_option maxHeartbeats 4000000 in
set_option maxRecDepth 100000 in
/-- ZonedLight.count(I)I -/
theorem c_X5_count (l : Launch) (G : GG) (A : Nat → Prop) (σ : St) (w : Int32) (n : Nat) (t : Nat) (hok : okW (scr σ 0)) (en : σ 6 0 2 = nI n) (et : σ 8 0 1 = nI t) : MI l yX5_count wsX5_count 7 159 G A σ [.ref (G.1 5 0), .int w] (fun r τ => r = countQ (scr σ 0) n t w ∧ keepC σ τ) := by
  refine MI.on (by decide) rfl (Nat.le_of_ble_eq_true rfl) (fun pP eE sS mM args below meth cC ls hx hb hml hr hown hlk hts hE hw hS hl => ?_)
  have hl : lv_has ls 2 [(0, .ref (G.1 5 0)), (1, .int w)] := hl
  refine lv_iload_n hx hb dX5_count_0 rfl (lv_at hl 1 rfl) ?_
  refine lv_if_lt (tgt := 10) hx hb dX5_count_1 (by decide) (fun c_1 => ?_) (fun c_1 => ?_)
  · refine lv_bipush (v := (-2)) hx hb dX5_count_10 (by decide) ?_
    refine g_iret hx hb hr hlk hE hw hS dX5_count_12 ?_
    first | exact ⟨(countQ_bad (Or.inl c_1)).symm, sameC.rf⟩ | exact ⟨(countQ_bad (Or.inr (Int32.not_lt.mp c_7))).symm, sameC.rf⟩
  · refine lv_iload_n hx hb dX5_count_4 rfl (lv_at hl 1 rfl) ?_
    refine lv_bipush (v := nI 21) hx hb dX5_count_5 (by decide) ?_
    refine lv_icmp_lt (tgt := 13) hx hb dX5_count_7 (by decide) (fun c_7 => ?_) (fun c_7 => ?_)
    · refine lv_iload_n hx hb dX5_count_13 rfl (lv_at hl 1 rfl) ?_
      refine lv_bipush (v := nI 13) hx hb dX5_count_14 (by decide) ?_
      refine lv_icmp_lt (tgt := 32) hx hb dX5_count_16 (by decide) (fun c_16 => ?_) (fun c_16 => ?_)
      · refine lv_iload_n hx hb dX5_count_32 rfl (lv_at hl 1 rfl) ?_
        by_cases k_33_0 : w = 0
        · refine lv_tableIn (tgt := 100) hx hb dX5_count_33 (by rw [k_33_0]; decide) (by rw [k_33_0]; decide) (off := 67) (by rw [k_33_0]; decide +kernel) (by decide) ?_
          refine lv_aload_n hx hb dX5_count_100 rfl (lv_at hl 0 rfl) ?_
          refine gf_X5_now hx hb hE hw (Nat.zero_lt_one) hown (hts (.fieldLink RX5 12 "ZonedLight" "now" "LZonedLight$Screen;") (by decide +kernel)) dX5_count_101 ?_
          refine gf_X3_frames hx hb hE hw (by decide) hown (hts (.fieldLink RX5 152 "ZonedLight$Screen" "frames" "I") (by decide +kernel)) dX5_count_104 ?_
          refine lv_topi (fun x_104 ex_104 => ?_)
          refine g_iret hx hb hr hlk hE hw hS dX5_count_107 ?_
          exact ⟨by rw [countQ_v c_1 c_16, countV, if_pos k_33_0, ex_104]; exact (scr_fld (k := 4) (by decide) (by decide)).symm, sameC.rf⟩
        by_cases k_33_1 : w = 1
        · refine lv_tableIn (tgt := 108) hx hb dX5_count_33 (by rw [k_33_1]; decide) (by rw [k_33_1]; decide) (off := 75) (by rw [k_33_1]; decide +kernel) (by decide) ?_
          refine lv_aload_n hx hb dX5_count_108 rfl (lv_at hl 0 rfl) ?_
          refine gf_X5_now hx hb hE hw (Nat.zero_lt_one) hown (hts (.fieldLink RX5 12 "ZonedLight" "now" "LZonedLight$Screen;") (by decide +kernel)) dX5_count_109 ?_
          refine g_Vi (n := 0) (As := []) (rest := []) hx hb hml hown hts hE hw hS gX5_count_X3_power (c_X3_power l G A _ 0 (by omega)) rfl (by decide +kernel) ⟨Nat.le_of_ble_eq_true rfl, Nat.le_of_ble_eq_true rfl⟩ (by decide) rfl rfl rfl rfl hl.1 rfl (Nat.le_of_ble_eq_true rfl) ⟨Nat.le_of_ble_eq_true rfl, Nat.le_of_ble_eq_true rfl⟩ dX5_count_112 (fun x_112 τ_112 H locs hp_112 hw hS => ?_)
          obtain ⟨ex_112, hτ_112⟩ := hp_112
          rw [hτ_112] at hw
          refine g_iret hx hb hr hlk hE hw hS dX5_count_115 ?_
          exact ⟨by rw [countQ_v c_1 c_16, countV, if_neg k_33_0, if_pos k_33_1, ex_112], sameC.rf⟩
        by_cases k_33_2 : w = 2
        · refine lv_tableIn (tgt := 116) hx hb dX5_count_33 (by rw [k_33_2]; decide) (by rw [k_33_2]; decide) (off := 83) (by rw [k_33_2]; decide +kernel) (by decide) ?_
          refine lv_aload_n hx hb dX5_count_116 rfl (lv_at hl 0 rfl) ?_
          refine gf_X5_now hx hb hE hw (Nat.zero_lt_one) hown (hts (.fieldLink RX5 12 "ZonedLight" "now" "LZonedLight$Screen;") (by decide +kernel)) dX5_count_117 ?_
          refine gf_X3_flicker hx hb hE hw (by decide) hown (hts (.fieldLink RX5 187 "ZonedLight$Screen" "flicker" "I") (by decide +kernel)) dX5_count_120 ?_
          refine lv_topi (fun x_120 ex_120 => ?_)
          refine g_iret hx hb hr hlk hE hw hS dX5_count_123 ?_
          exact ⟨by rw [countQ_v c_1 c_16, countV, if_neg k_33_0, if_neg k_33_1, if_pos k_33_2, ex_120]; exact (scr_fld (k := 5) (by decide) (by decide)).symm, sameC.rf⟩
        by_cases k_33_3 : w = 3
        · refine lv_tableIn (tgt := 124) hx hb dX5_count_33 (by rw [k_33_3]; decide) (by rw [k_33_3]; decide) (off := 91) (by rw [k_33_3]; decide +kernel) (by decide) ?_
          refine lv_aload_n hx hb dX5_count_124 rfl (lv_at hl 0 rfl) ?_
          refine gf_X5_now hx hb hE hw (Nat.zero_lt_one) hown (hts (.fieldLink RX5 12 "ZonedLight" "now" "LZonedLight$Screen;") (by decide +kernel)) dX5_count_125 ?_
          refine gf_X3_powerSoFar hx hb hE hw (by decide) hown (hts (.fieldLink RX5 190 "ZonedLight$Screen" "powerSoFar" "I") (by decide +kernel)) dX5_count_128 ?_
          refine lv_topi (fun x_128 ex_128 => ?_)
          refine g_iret hx hb hr hlk hE hw hS dX5_count_131 ?_
          exact ⟨by rw [countQ_v c_1 c_16, countV, if_neg k_33_0, if_neg k_33_1, if_neg k_33_2, if_pos k_33_3, ex_128]; exact (scr_fld (k := 6) (by decide) (by decide)).symm, sameC.rf⟩
        by_cases k_33_4 : w = 4
        · refine lv_tableIn (tgt := 169) hx hb dX5_count_33 (by rw [k_33_4]; decide) (by rw [k_33_4]; decide) (off := 136) (by rw [k_33_4]; decide +kernel) (by decide) ?_
          refine lv_aload_n hx hb dX5_count_169 rfl (lv_at hl 0 rfl) ?_
          refine lv_iload_n hx hb dX5_count_170 rfl (lv_at hl 1 rfl) ?_
          refine g_Vi (n := 1) (As := [.int w]) (rest := []) hx hb hml hown hts hE hw hS gX5_count_X5_countSpots (c_X5_countSpots l G A _ w) rfl (by decide +kernel) ⟨Nat.le_of_ble_eq_true rfl, Nat.le_of_ble_eq_true rfl⟩ (Nat.zero_lt_one) rfl rfl rfl rfl hl.1 rfl (Nat.le_of_ble_eq_true rfl) ⟨Nat.le_of_ble_eq_true rfl, Nat.le_of_ble_eq_true rfl⟩ dX5_count_171 (fun x_171 τ_171 H locs hp_171 hw hS => ?_)
          refine g_iret hx hb hr hlk hE hw hS dX5_count_174 ?_
          first | exact ⟨by rw [countQ_v c_1 c_16, countV, if_neg k_33_0, if_neg k_33_1, if_neg k_33_2, if_neg k_33_3, if_pos (by first | exact Or.inl k_33_4 | exact Or.inr (Or.inl k_33_5) | exact Or.inr (Or.inr (Or.inl k_33_6)) | exact Or.inr (Or.inr (Or.inr (Or.inl k_33_7))) | exact Or.inr (Or.inr (Or.inr (Or.inr k_33_8)))), hp_171.1], hp_171.2⟩ | exact ⟨by rw [countQ_v c_1 c_16, countV, if_neg k_33_0, if_neg k_33_1, if_neg k_33_2, if_neg k_33_3, if_neg (by rintro (q | q | q | q | q); exact k_33_4 q; exact k_33_5 q; exact k_33_6 q; exact k_33_7 q; exact k_33_8 q), if_neg k_33_9, if_neg k_33_10, if_neg k_33_11, if_neg k_33_12, hp_171.1], hp_171.2⟩
        by_cases k_33_5 : w = 5
        · refine lv_tableIn (tgt := 169) hx hb dX5_count_33 (by rw [k_33_5]; decide) (by rw [k_33_5]; decide) (off := 136) (by rw [k_33_5]; decide +kernel) (by decide) ?_
          refine lv_aload_n hx hb dX5_count_169 rfl (lv_at hl 0 rfl) ?_
          refine lv_iload_n hx hb dX5_count_170 rfl (lv_at hl 1 rfl) ?_
          refine g_Vi (n := 1) (As := [.int w]) (rest := []) hx hb hml hown hts hE hw hS gX5_count_X5_countSpots (c_X5_countSpots l G A _ w) rfl (by decide +kernel) ⟨Nat.le_of_ble_eq_true rfl, Nat.le_of_ble_eq_true rfl⟩ (Nat.zero_lt_one) rfl rfl rfl rfl hl.1 rfl (Nat.le_of_ble_eq_true rfl) ⟨Nat.le_of_ble_eq_true rfl, Nat.le_of_ble_eq_true rfl⟩ dX5_count_171 (fun x_171 τ_171 H locs hp_171 hw hS => ?_)
          refine g_iret hx hb hr hlk hE hw hS dX5_count_174 ?_
          first | exact ⟨by rw [countQ_v c_1 c_16, countV, if_neg k_33_0, if_neg k_33_1, if_neg k_33_2, if_neg k_33_3, if_pos (by first | exact Or.inl k_33_4 | exact Or.inr (Or.inl k_33_5) | exact Or.inr (Or.inr (Or.inl k_33_6)) | exact Or.inr (Or.inr (Or.inr (Or.inl k_33_7))) | exact Or.inr (Or.inr (Or.inr (Or.inr k_33_8)))), hp_171.1], hp_171.2⟩ | exact ⟨by rw [countQ_v c_1 c_16, countV, if_neg k_33_0, if_neg k_33_1, if_neg k_33_2, if_neg k_33_3, if_neg (by rintro (q | q | q | q | q); exact k_33_4 q; exact k_33_5 q; exact k_33_6 q; exact k_33_7 q; exact k_33_8 q), if_neg k_33_9, if_neg k_33_10, if_neg k_33_11, if_neg k_33_12, hp_171.1], hp_171.2⟩
        by_cases k_33_6 : w = 6
        · refine lv_tableIn (tgt := 169) hx hb dX5_count_33 (by rw [k_33_6]; decide) (by rw [k_33_6]; decide) (off := 136) (by rw [k_33_6]; decide +kernel) (by decide) ?_
          refine lv_aload_n hx hb dX5_count_169 rfl (lv_at hl 0 rfl) ?_
          refine lv_iload_n hx hb dX5_count_170 rfl (lv_at hl 1 rfl) ?_
          refine g_Vi (n := 1) (As := [.int w]) (rest := []) hx hb hml hown hts hE hw hS gX5_count_X5_countSpots (c_X5_countSpots l G A _ w) rfl (by decide +kernel) ⟨Nat.le_of_ble_eq_true rfl, Nat.le_of_ble_eq_true rfl⟩ (Nat.zero_lt_one) rfl rfl rfl rfl hl.1 rfl (Nat.le_of_ble_eq_true rfl) ⟨Nat.le_of_ble_eq_true rfl, Nat.le_of_ble_eq_true rfl⟩ dX5_count_171 (fun x_171 τ_171 H locs hp_171 hw hS => ?_)
          refine g_iret hx hb hr hlk hE hw hS dX5_count_174 ?_
          first | exact ⟨by rw [countQ_v c_1 c_16, countV, if_neg k_33_0, if_neg k_33_1, if_neg k_33_2, if_neg k_33_3, if_pos (by first | exact Or.inl k_33_4 | exact Or.inr (Or.inl k_33_5) | exact Or.inr (Or.inr (Or.inl k_33_6)) | exact Or.inr (Or.inr (Or.inr (Or.inl k_33_7))) | exact Or.inr (Or.inr (Or.inr (Or.inr k_33_8)))), hp_171.1], hp_171.2⟩ | exact ⟨by rw [countQ_v c_1 c_16, countV, if_neg k_33_0, if_neg k_33_1, if_neg k_33_2, if_neg k_33_3, if_neg (by rintro (q | q | q | q | q); exact k_33_4 q; exact k_33_5 q; exact k_33_6 q; exact k_33_7 q; exact k_33_8 q), if_neg k_33_9, if_neg k_33_10, if_neg k_33_11, if_neg k_33_12, hp_171.1], hp_171.2⟩
        by_cases k_33_7 : w = 7
        · refine lv_tableIn (tgt := 169) hx hb dX5_count_33 (by rw [k_33_7]; decide) (by rw [k_33_7]; decide) (off := 136) (by rw [k_33_7]; decide +kernel) (by decide) ?_
          refine lv_aload_n hx hb dX5_count_169 rfl (lv_at hl 0 rfl) ?_
          refine lv_iload_n hx hb dX5_count_170 rfl (lv_at hl 1 rfl) ?_
          refine g_Vi (n := 1) (As := [.int w]) (rest := []) hx hb hml hown hts hE hw hS gX5_count_X5_countSpots (c_X5_countSpots l G A _ w) rfl (by decide +kernel) ⟨Nat.le_of_ble_eq_true rfl, Nat.le_of_ble_eq_true rfl⟩ (Nat.zero_lt_one) rfl rfl rfl rfl hl.1 rfl (Nat.le_of_ble_eq_true rfl) ⟨Nat.le_of_ble_eq_true rfl, Nat.le_of_ble_eq_true rfl⟩ dX5_count_171 (fun x_171 τ_171 H locs hp_171 hw hS => ?_)
          refine g_iret hx hb hr hlk hE hw hS dX5_count_174 ?_
          first | exact ⟨by rw [countQ_v c_1 c_16, countV, if_neg k_33_0, if_neg k_33_1, if_neg k_33_2, if_neg k_33_3, if_pos (by first | exact Or.inl k_33_4 | exact Or.inr (Or.inl k_33_5) | exact Or.inr (Or.inr (Or.inl k_33_6)) | exact Or.inr (Or.inr (Or.inr (Or.inl k_33_7))) | exact Or.inr (Or.inr (Or.inr (Or.inr k_33_8)))), hp_171.1], hp_171.2⟩ | exact ⟨by rw [countQ_v c_1 c_16, countV, if_neg k_33_0, if_neg k_33_1, if_neg k_33_2, if_neg k_33_3, if_neg (by rintro (q | q | q | q | q); exact k_33_4 q; exact k_33_5 q; exact k_33_6 q; exact k_33_7 q; exact k_33_8 q), if_neg k_33_9, if_neg k_33_10, if_neg k_33_11, if_neg k_33_12, hp_171.1], hp_171.2⟩
        by_cases k_33_8 : w = 8
        · refine lv_tableIn (tgt := 169) hx hb dX5_count_33 (by rw [k_33_8]; decide) (by rw [k_33_8]; decide) (off := 136) (by rw [k_33_8]; decide +kernel) (by decide) ?_
          refine lv_aload_n hx hb dX5_count_169 rfl (lv_at hl 0 rfl) ?_
          refine lv_iload_n hx hb dX5_count_170 rfl (lv_at hl 1 rfl) ?_
          refine g_Vi (n := 1) (As := [.int w]) (rest := []) hx hb hml hown hts hE hw hS gX5_count_X5_countSpots (c_X5_countSpots l G A _ w) rfl (by decide +kernel) ⟨Nat.le_of_ble_eq_true rfl, Nat.le_of_ble_eq_true rfl⟩ (Nat.zero_lt_one) rfl rfl rfl rfl hl.1 rfl (Nat.le_of_ble_eq_true rfl) ⟨Nat.le_of_ble_eq_true rfl, Nat.le_of_ble_eq_true rfl⟩ dX5_count_171 (fun x_171 τ_171 H locs hp_171 hw hS => ?_)
          refine g_iret hx hb hr hlk hE hw hS dX5_count_174 ?_
          first | exact ⟨by rw [countQ_v c_1 c_16, countV, if_neg k_33_0, if_neg k_33_1, if_neg k_33_2, if_neg k_33_3, if_pos (by first | exact Or.inl k_33_4 | exact Or.inr (Or.inl k_33_5) | exact Or.inr (Or.inr (Or.inl k_33_6)) | exact Or.inr (Or.inr (Or.inr (Or.inl k_33_7))) | exact Or.inr (Or.inr (Or.inr (Or.inr k_33_8)))), hp_171.1], hp_171.2⟩ | exact ⟨by rw [countQ_v c_1 c_16, countV, if_neg k_33_0, if_neg k_33_1, if_neg k_33_2, if_neg k_33_3, if_neg (by rintro (q | q | q | q | q); exact k_33_4 q; exact k_33_5 q; exact k_33_6 q; exact k_33_7 q; exact k_33_8 q), if_neg k_33_9, if_neg k_33_10, if_neg k_33_11, if_neg k_33_12, hp_171.1], hp_171.2⟩
        by_cases k_33_9 : w = 9
        · refine lv_tableIn (tgt := 132) hx hb dX5_count_33 (by rw [k_33_9]; decide) (by rw [k_33_9]; decide) (off := 99) (by rw [k_33_9]; decide +kernel) (by decide) ?_
          refine lv_aload_n hx hb dX5_count_132 rfl (lv_at hl 0 rfl) ?_
          refine gf_X5_now hx hb hE hw (Nat.zero_lt_one) hown (hts (.fieldLink RX5 12 "ZonedLight" "now" "LZonedLight$Screen;") (by decide +kernel)) dX5_count_133 ?_
          refine g_Vi (n := 0) (As := []) (rest := []) hx hb hml hown hts hE hw hS gX5_count_X3_deadZones (c_X3_deadZones l G A _ 0 (by omega)) rfl (by decide +kernel) ⟨Nat.le_of_ble_eq_true rfl, Nat.le_of_ble_eq_true rfl⟩ (by decide) rfl rfl rfl rfl hl.1 rfl (Nat.le_of_ble_eq_true rfl) ⟨Nat.le_of_ble_eq_true rfl, Nat.le_of_ble_eq_true rfl⟩ dX5_count_136 (fun x_136 τ_136 H locs hp_136 hw hS => ?_)
          obtain ⟨ex_136, hτ_136⟩ := hp_136
          rw [hτ_136] at hw
          refine g_iret hx hb hr hlk hE hw hS dX5_count_139 ?_
          have hn48 : ¬ (w = 4 ∨ w = 5 ∨ w = 6 ∨ w = 7 ∨ w = 8) := by
            rintro (q | q | q | q | q)
            · exact k_33_4 q
            · exact k_33_5 q
            · exact k_33_6 q
            · exact k_33_7 q
            · exact k_33_8 q
          exact ⟨by rw [countQ_v c_1 c_16, countV, if_neg k_33_0, if_neg k_33_1, if_neg k_33_2, if_neg k_33_3, if_neg hn48, if_pos k_33_9, ex_136], sameC.rf⟩
        by_cases k_33_10 : w = 10
        · refine lv_tableIn (tgt := 140) hx hb dX5_count_33 (by rw [k_33_10]; decide) (by rw [k_33_10]; decide) (off := 107) (by rw [k_33_10]; decide +kernel) (by decide) ?_
          refine lv_aload_n hx hb dX5_count_140 rfl (lv_at hl 0 rfl) ?_
          refine g_Vi (n := 0) (As := []) (rest := []) hx hb hml hown hts hE hw hS gX5_count_X5_greatestGap (c_X5_greatestGap l G A _ (by omega)) rfl (by decide +kernel) ⟨Nat.le_of_ble_eq_true rfl, Nat.le_of_ble_eq_true rfl⟩ (Nat.zero_lt_one) rfl rfl rfl rfl hl.1 rfl (Nat.le_of_ble_eq_true rfl) ⟨Nat.le_of_ble_eq_true rfl, Nat.le_of_ble_eq_true rfl⟩ dX5_count_141 (fun x_141 τ_141 H locs hp_141 hw hS => ?_)
          refine lv_if_ne (tgt := 151) hx hb dX5_count_144 (by decide) (fun c_144 => ?_) (fun c_144 => ?_)
          · refine lv_iconst (v := nI 0) hx hb dX5_count_151 (by decide) ?_
            refine g_iret hx hb hr hlk hE hw hS dX5_count_152 ?_
            have hn48 : ¬ (w = 4 ∨ w = 5 ∨ w = 6 ∨ w = 7 ∨ w = 8) := by
              rintro (q | q | q | q | q)
              · exact k_33_4 q
              · exact k_33_5 q
              · exact k_33_6 q
              · exact k_33_7 q
              · exact k_33_8 q
            first | exact ⟨by rw [countQ_v c_1 c_16, countV, if_neg k_33_0, if_neg k_33_1, if_neg k_33_2, if_neg k_33_3, if_neg hn48, if_neg k_33_9, if_pos k_33_10, ← hp_141.1, if_pos c_144]; rfl, hp_141.2⟩ | exact ⟨by rw [countQ_v c_1 c_16, countV, if_neg k_33_0, if_neg k_33_1, if_neg k_33_2, if_neg k_33_3, if_neg hn48, if_neg k_33_9, if_pos k_33_10, ← hp_141.1, if_neg c_144]; rfl, hp_141.2⟩
          · refine lv_iconst (v := nI 1) hx hb dX5_count_147 (by decide) ?_
            refine lv_goto (tgt := 152) hx hb dX5_count_148 (by decide) ?_
            refine g_iret hx hb hr hlk hE hw hS dX5_count_152 ?_
            have hn48 : ¬ (w = 4 ∨ w = 5 ∨ w = 6 ∨ w = 7 ∨ w = 8) := by
              rintro (q | q | q | q | q)
              · exact k_33_4 q
              · exact k_33_5 q
              · exact k_33_6 q
              · exact k_33_7 q
              · exact k_33_8 q
            first | exact ⟨by rw [countQ_v c_1 c_16, countV, if_neg k_33_0, if_neg k_33_1, if_neg k_33_2, if_neg k_33_3, if_neg hn48, if_neg k_33_9, if_pos k_33_10, ← hp_141.1, if_pos c_144]; rfl, hp_141.2⟩ | exact ⟨by rw [countQ_v c_1 c_16, countV, if_neg k_33_0, if_neg k_33_1, if_neg k_33_2, if_neg k_33_3, if_neg hn48, if_neg k_33_9, if_pos k_33_10, ← hp_141.1, if_neg c_144]; rfl, hp_141.2⟩
        by_cases k_33_11 : w = 11
        · refine lv_tableIn (tgt := 153) hx hb dX5_count_33 (by rw [k_33_11]; decide) (by rw [k_33_11]; decide) (off := 120) (by rw [k_33_11]; decide +kernel) (by decide) ?_
          refine lv_aload_n hx hb dX5_count_153 rfl (lv_at hl 0 rfl) ?_
          refine gf_X5_history hx hb hE hw (Nat.zero_lt_one) hown (hts (.fieldLink RX5 26 "ZonedLight" "history" "LZonedLight$History;") (by decide +kernel)) dX5_count_154 ?_
          refine gf_X0_size hx hb hE hw (Nat.zero_lt_one) hown (hts (.fieldLink RX5 146 "ZonedLight$History" "size" "I") (by decide +kernel)) dX5_count_157 ?_
          refine lv_topi (fun x_157 ex_157 => ?_)
          refine g_iret hx hb hr hlk hE hw hS dX5_count_160 ?_
          have hn48 : ¬ (w = 4 ∨ w = 5 ∨ w = 6 ∨ w = 7 ∨ w = 8) := by
            rintro (q | q | q | q | q)
            · exact k_33_4 q
            · exact k_33_5 q
            · exact k_33_6 q
            · exact k_33_7 q
            · exact k_33_8 q
          exact ⟨by rw [countQ_v c_1 c_16, countV, if_neg k_33_0, if_neg k_33_1, if_neg k_33_2, if_neg k_33_3, if_neg hn48, if_neg k_33_9, if_neg k_33_10, if_pos k_33_11, ex_157, en], sameC.rf⟩
        by_cases k_33_12 : w = 12
        · refine lv_tableIn (tgt := 161) hx hb dX5_count_33 (by rw [k_33_12]; decide) (by rw [k_33_12]; decide) (off := 128) (by rw [k_33_12]; decide +kernel) (by decide) ?_
          refine lv_aload_n hx hb dX5_count_161 rfl (lv_at hl 0 rfl) ?_
          refine gf_X5_text hx hb hE hw (Nat.zero_lt_one) hown (hts (.fieldLink RX5 33 "ZonedLight" "text" "LZonedLight$PictureText;") (by decide +kernel)) dX5_count_162 ?_
          refine gf_X1_length hx hb hE hw (Nat.zero_lt_one) hown (hts (.fieldLink RX5 138 "ZonedLight$PictureText" "length" "I") (by decide +kernel)) dX5_count_165 ?_
          refine lv_topi (fun x_165 ex_165 => ?_)
          refine g_iret hx hb hr hlk hE hw hS dX5_count_168 ?_
          have hn48 : ¬ (w = 4 ∨ w = 5 ∨ w = 6 ∨ w = 7 ∨ w = 8) := by
            rintro (q | q | q | q | q)
            · exact k_33_4 q
            · exact k_33_5 q
            · exact k_33_6 q
            · exact k_33_7 q
            · exact k_33_8 q
          exact ⟨by rw [countQ_v c_1 c_16, countV, if_neg k_33_0, if_neg k_33_1, if_neg k_33_2, if_neg k_33_3, if_neg hn48, if_neg k_33_9, if_neg k_33_10, if_neg k_33_11, if_pos k_33_12, ex_165, et], sameC.rf⟩
        refine lv_tableOut (tgt := 169) hx hb dX5_count_33 (by have t0 := tw_ne (k := 0) (0) (by decide) k_33_0; have t1 := tw_ne (k := 1) (1) (by decide) k_33_1; have t2 := tw_ne (k := 2) (2) (by decide) k_33_2; have t3 := tw_ne (k := 3) (3) (by decide) k_33_3; have t4 := tw_ne (k := 4) (4) (by decide) k_33_4; have t5 := tw_ne (k := 5) (5) (by decide) k_33_5; have t6 := tw_ne (k := 6) (6) (by decide) k_33_6; have t7 := tw_ne (k := 7) (7) (by decide) k_33_7; have t8 := tw_ne (k := 8) (8) (by decide) k_33_8; have t9 := tw_ne (k := 9) (9) (by decide) k_33_9; have t10 := tw_ne (k := 10) (10) (by decide) k_33_10; have t11 := tw_ne (k := 11) (11) (by decide) k_33_11; have t12 := tw_ne (k := 12) (12) (by decide) k_33_12; omega) (by decide) ?_
        refine lv_aload_n hx hb dX5_count_169 rfl (lv_at hl 0 rfl) ?_
        refine lv_iload_n hx hb dX5_count_170 rfl (lv_at hl 1 rfl) ?_
        refine g_Vi (n := 1) (As := [.int w]) (rest := []) hx hb hml hown hts hE hw hS gX5_count_X5_countSpots (c_X5_countSpots l G A _ w) rfl (by decide +kernel) ⟨Nat.le_of_ble_eq_true rfl, Nat.le_of_ble_eq_true rfl⟩ (Nat.zero_lt_one) rfl rfl rfl rfl hl.1 rfl (Nat.le_of_ble_eq_true rfl) ⟨Nat.le_of_ble_eq_true rfl, Nat.le_of_ble_eq_true rfl⟩ dX5_count_171 (fun x_171 τ_171 H locs hp_171 hw hS => ?_)
        refine g_iret hx hb hr hlk hE hw hS dX5_count_174 ?_
        first | exact ⟨by rw [countQ_v c_1 c_16, countV, if_neg k_33_0, if_neg k_33_1, if_neg k_33_2, if_neg k_33_3, if_pos (by first | exact Or.inl k_33_4 | exact Or.inr (Or.inl k_33_5) | exact Or.inr (Or.inr (Or.inl k_33_6)) | exact Or.inr (Or.inr (Or.inr (Or.inl k_33_7))) | exact Or.inr (Or.inr (Or.inr (Or.inr k_33_8)))), hp_171.1], hp_171.2⟩ | exact ⟨by rw [countQ_v c_1 c_16, countV, if_neg k_33_0, if_neg k_33_1, if_neg k_33_2, if_neg k_33_3, if_neg (by rintro (q | q | q | q | q); exact k_33_4 q; exact k_33_5 q; exact k_33_6 q; exact k_33_7 q; exact k_33_8 q), if_neg k_33_9, if_neg k_33_10, if_neg k_33_11, if_neg k_33_12, hp_171.1], hp_171.2⟩
      · obtain ⟨k, hk, rfl⟩ := (inN_iff (n := 21) (by decide)).mpr ⟨c_1, Int32.not_le.mpr c_7⟩
        have h13 : 13 ≤ k := Nat.le_of_not_lt (fun q => c_16 (nI_lt q (by decide)))
        refine lv_aload_n hx hb dX5_count_19 rfl (lv_at hl 0 rfl) ?_
        refine gf_X5_now hx hb hE hw (Nat.zero_lt_one) hown (hts (.fieldLink RX5 12 "ZonedLight" "now" "LZonedLight$Screen;") (by decide +kernel)) dX5_count_20 ?_
        refine gf_X3_setting hx hb hE hw (by decide) hown (hts (.fieldLink RX5 131 "ZonedLight$Screen" "setting" "[I") (by decide +kernel)) dX5_count_23 ?_
        refine lv_iload_n hx hb dX5_count_26 rfl (lv_at hl 1 rfl) ?_
        refine lv_bipush (v := nI 13) hx hb dX5_count_27 (by decide) ?_
        refine n_isub hx hb dX5_count_29 (by omega) ?_
        refine g_ald hx hb hE hw (n := 8) (by decide) rfl (by decide) (by omega) dX5_count_30 ?_
        refine lv_topi (fun x_30 ex_30 => ?_)
        refine g_iret hx hb hr hlk hE hw hS dX5_count_31 ?_
        exact ⟨by rw [countQ_s h13 hk, ex_30, scr_set (by omega)], sameC.rf⟩
    · refine lv_bipush (v := (-2)) hx hb dX5_count_10 (by decide) ?_
      refine g_iret hx hb hr hlk hE hw hS dX5_count_12 ?_
      first | exact ⟨(countQ_bad (Or.inl c_1)).symm, sameC.rf⟩ | exact ⟨(countQ_bad (Or.inr (Int32.not_lt.mp c_7))).symm, sameC.rf⟩
set_option maxHeartbeats 4000000 in
set_option maxRecDepth 100000 in
/-- ZonedLight.bestRule()I -/
theorem c_X5_bestRule (l : Launch) (G : GG) (A : Nat → Prop) (σ : St)  (hok : okW (scr σ 0)) : MI l yX5_bestRule wsX5_bestRule 7 157 G A σ [.ref (G.1 5 0)] (fun r τ => r = (bestK (scr σ 0) 3).1 ∧ keepC σ τ) := by
  refine MI.on (by decide) rfl (Nat.le_of_ble_eq_true rfl) (fun pP eE sS mM args below meth cC ls hx hb hml hr hown hlk hts hE hw hS hl => ?_)
  have hl : lv_has ls 7 [(0, .ref (G.1 5 0))] := hl
  refine lv_iconst (v := nI 0) hx hb dX5_bestRule_0 (by decide) ?_
  refine lv_istore_n (lv' := [(1, .int (nI 0)), (0, .ref (G.1 5 0))]) hx hb dX5_bestRule_1 rfl hl (by decide) rfl (fun ls hl => ?_)
  refine lv_iconst (v := nI 0) hx hb dX5_bestRule_2 (by decide) ?_
  refine lv_istore_n (lv' := [(2, .int (nI 0)), (1, .int (nI 0)), (0, .ref (G.1 5 0))]) hx hb dX5_bestRule_3 rfl hl (by decide) rfl (fun ls hl => ?_)
  refine lv_iconst (v := nI 0) hx hb dX5_bestRule_4 (by decide) ?_
  refine lv_istore_n (lv' := [(3, .int (nI 0)), (2, .int (nI 0)), (1, .int (nI 0)), (0, .ref (G.1 5 0))]) hx hb dX5_bestRule_5 rfl hl (by decide) rfl (fun ls hl => ?_)
  refine lv_iconst (v := nI 0) hx hb dX5_bestRule_6 (by decide) ?_
  refine lv_istore (lv' := [(4, .int (nI 0)), (3, .int (nI 0)), (2, .int (nI 0)), (1, .int (nI 0)), (0, .ref (G.1 5 0))]) hx hb dX5_bestRule_7 hl (by decide) rfl (fun ls hl => ?_)
  have K_9 : ∀ (fuel : Nat) (k : Nat) (be : Int32) (lo : Int32) (lp : Int32) (σ2 : St), (k ≤ 3) → (bestK (scr σ 0) k = (be, lo, lp)) → (keepC σ σ2) → 3 - k < fuel → ∀ (H : Heap) (locs : List Loc) (ls : Array Slot), Wcel G σ2 H → va_S A sS.heap H locs → lv_has ls 7 [(0, .ref (G.1 5 0)), (1, .int be), (2, .int lo), (3, .int lp), (4, .int (nI k))] → W pP l eE { frames := 7, cells := 0, slots := 0, locals := 157 } sS mM args below meth cC H locs 0 0 (MQ below (va_Qi (fun r τ => r = (bestK (scr σ 0) 3).1 ∧ keepC σ τ) (fun τ t => gP G A τ t) A) args sS 0 0 A) (F0 mM 9 ls []) := by
    intro fuel
    induction fuel with
    | zero =>
      intro k be lo lp σ2 hk hbe hkk hfu
      exact absurd hfu (Nat.not_lt_zero _)
    | succ fuel K_9 =>
      intro k be lo lp σ2 hk hbe hkk hfu H locs ls hw hS hl
      refine lv_iload hx hb dX5_bestRule_9 (lv_at hl 4 rfl) ?_
      refine lv_iconst (v := nI 3) hx hb dX5_bestRule_11 (by decide) ?_
      refine n_cmp_ge (tgt := 115) hx hb dX5_bestRule_12 (by decide) (by omega) (by omega) (fun c_12 => ?_) (fun c_12 => ?_)
      · refine lv_iload_n hx hb dX5_bestRule_115 rfl (lv_at hl 1 rfl) ?_
        refine g_iret hx hb hr hlk hE hw hS dX5_bestRule_116 ?_
        exact ⟨by rw [← show k = 3 by omega, hbe], hkk⟩
      · refine lv_aload_n hx hb dX5_bestRule_15 rfl (lv_at hl 0 rfl) ?_
        refine gf_X5_trial hx hb hE hw (Nat.zero_lt_one) hown (hts (.fieldLink RX5 37 "ZonedLight" "trial" "LZonedLight$Screen;") (by decide +kernel)) dX5_bestRule_16 ?_
        refine lv_aload_n hx hb dX5_bestRule_19 rfl (lv_at hl 0 rfl) ?_
        refine gf_X5_now hx hb hE hw (Nat.zero_lt_one) hown (hts (.fieldLink RX5 12 "ZonedLight" "now" "LZonedLight$Screen;") (by decide +kernel)) dX5_bestRule_20 ?_
        refine g_Vv (n := 1) (As := [.ref (G.1 0 0)]) (rest := []) hx hb hml hown hts hE hw hS gX5_bestRule_X3_copyFrom (c_X3_copyFrom l G A _ 2 0 (by omega) (by omega) (by omega)) rfl (by decide +kernel) ⟨Nat.le_of_ble_eq_true rfl, Nat.le_of_ble_eq_true rfl⟩ (by decide) rfl rfl rfl rfl hl.1 rfl (Nat.le_of_ble_eq_true rfl) ⟨Nat.le_of_ble_eq_true rfl, Nat.le_of_ble_eq_true rfl⟩ dX5_bestRule_23 (fun τ_23 H locs hp_23 hw hS => ?_)
        refine lv_aload_n hx hb dX5_bestRule_26 rfl (lv_at hl 0 rfl) ?_
        refine gf_X5_trial hx hb hE hw (Nat.zero_lt_one) hown (hts (.fieldLink RX5 37 "ZonedLight" "trial" "LZonedLight$Screen;") (by decide +kernel)) dX5_bestRule_27 ?_
        refine gf_X3_setting hx hb hE hw (by decide) hown (hts (.fieldLink RX5 131 "ZonedLight$Screen" "setting" "[I") (by decide +kernel)) dX5_bestRule_30 ?_
        refine lv_iconst (v := nI 3) hx hb dX5_bestRule_33 (by decide) ?_
        refine lv_iload hx hb dX5_bestRule_34 (lv_at hl 4 rfl) ?_
        refine g_ast hx hb hE hw hS (n := 8) (by decide) (by decide) (fun _ => rfl) rfl (by decide) (by omega) dX5_bestRule_36 (fun H locs hw hS => ?_)
        have hb2 : scr (us τ_23 4 2 3 (nI k)) 2 = upd (scr σ 0) 327 (nI k) := by rw [scr_put4 (by decide), hp_23.1, keepC_now hkk]
        have hkp : keepC σ (us τ_23 4 2 3 (nI k)) := (hkk.eqX hp_23.2 (fun k g => Or.inl (scrC_2 g))).us (Or.inl (scrC_2 (by decide))) (by decide)
        obtain ⟨ew, et⟩ := rule_w hb2
        refine lv_aload_n hx hb dX5_bestRule_37 rfl (lv_at hl 0 rfl) ?_
        refine g_Vv (n := 0) (As := []) (rest := []) hx hb hml hown hts hE hw hS gX5_bestRule_X5_settleTrial (c_X5_settleTrial l G A _ (by rw [hb2]; exact okW_rule hok (by omega))) rfl (by decide +kernel) ⟨Nat.le_of_ble_eq_true rfl, Nat.le_of_ble_eq_true rfl⟩ (Nat.zero_lt_one) rfl rfl rfl rfl hl.1 rfl (Nat.le_of_ble_eq_true rfl) ⟨Nat.le_of_ble_eq_true rfl, Nat.le_of_ble_eq_true rfl⟩ dX5_bestRule_38 (fun τ_38 H locs hp_38 hw hS => ?_)
        obtain ⟨g1, g2, g3⟩ := hp_38
        rw [et] at g1
        rw [ew] at g2
        have hkp2 := hkp.tr g3
        have eo : τ_38 14 0 2 = offR (scr σ 0) k := by rw [g1]; rfl
        refine lv_aload_n hx hb dX5_bestRule_41 rfl (lv_at hl 0 rfl) ?_
        refine gf_X5_trial hx hb hE hw (Nat.zero_lt_one) hown (hts (.fieldLink RX5 37 "ZonedLight" "trial" "LZonedLight$Screen;") (by decide +kernel)) dX5_bestRule_42 ?_
        refine g_Vi (n := 0) (As := []) (rest := []) hx hb hml hown hts hE hw hS gX5_bestRule_X3_power (c_X3_power l G A _ 2 (by omega)) rfl (by decide +kernel) ⟨Nat.le_of_ble_eq_true rfl, Nat.le_of_ble_eq_true rfl⟩ (by decide) rfl rfl rfl rfl hl.1 rfl (Nat.le_of_ble_eq_true rfl) ⟨Nat.le_of_ble_eq_true rfl, Nat.le_of_ble_eq_true rfl⟩ dX5_bestRule_45 (fun x_45 τ_45 H locs hp_45 hw hS => ?_)
        obtain ⟨ex_45, hτ_45⟩ := hp_45
        rw [hτ_45] at hw
        have epw : x_45 = powR (scr σ 0) k := by rw [ex_45, g2]; rfl
        refine lv_istore (lv' := [(5, .int x_45), (0, .ref (G.1 5 0)), (1, .int be), (2, .int lo), (3, .int lp), (4, .int (nI k))]) hx hb dX5_bestRule_48 hl (by decide) rfl (fun ls hl => ?_)
        have K_85 : ∀ (b : Int32), (bP b (offR (scr σ 0) k < lo ∨ (offR (scr σ 0) k = lo ∧ powR (scr σ 0) k < lp))) → ∀ (H : Heap) (locs : List Loc) (ls : Array Slot), Wcel G τ_38 H → va_S A sS.heap H locs → lv_has ls 7 [(0, .ref (G.1 5 0)), (1, .int be), (2, .int lo), (3, .int lp), (4, .int (nI k)), (5, .int x_45), (6, .int b)] → W pP l eE { frames := 7, cells := 0, slots := 0, locals := 157 } sS mM args below meth cC H locs 0 0 (MQ below (va_Qi (fun r τ => r = (bestK (scr σ 0) 3).1 ∧ keepC σ τ) (fun τ t => gP G A τ t) A) args sS 0 0 A) (F0 mM 85 ls []) := by
          intro b hbb H locs ls hw hS hl
          refine lv_iload hx hb dX5_bestRule_85 (lv_at hl 4 rfl) ?_
          refine n_if_eq (tgt := 95) hx hb dX5_bestRule_87 (by decide) (by omega) (fun c_87 => ?_) (fun c_87 => ?_)
          · refine lv_iload hx hb dX5_bestRule_95 (lv_at hl 4 rfl) ?_
            refine lv_istore_n (lv' := [(1, .int (nI k)), (0, .ref (G.1 5 0)), (2, .int lo), (3, .int lp), (4, .int (nI k)), (5, .int x_45), (6, .int b)]) hx hb dX5_bestRule_97 rfl hl (by decide) rfl (fun ls hl => ?_)
            refine lv_aload_n hx hb dX5_bestRule_98 rfl (lv_at hl 1 rfl) ?_
            refine gf_X5_tally hx hb hE hw (Nat.zero_lt_one) hown (hts (.fieldLink RX5 50 "ZonedLight" "tally" "LZonedLight$Tally;") (by decide +kernel)) dX5_bestRule_99 ?_
            refine gf_X4_off hx hb hE hw (Nat.zero_lt_one) hown (hts (.fieldLink RX5 215 "ZonedLight$Tally" "off" "I") (by decide +kernel)) dX5_bestRule_102 ?_
            refine lv_topi (fun x_102 ex_102 => ?_)
            have eo2 : offR (scr σ 0) k = x_102 := by rw [ex_102, eo]
            refine lv_istore_n (lv' := [(2, .int x_102), (1, .int (nI k)), (0, .ref (G.1 5 0)), (3, .int lp), (4, .int (nI k)), (5, .int x_45), (6, .int b)]) hx hb dX5_bestRule_105 rfl hl (by decide) rfl (fun ls hl => ?_)
            refine lv_iload hx hb dX5_bestRule_106 (lv_at hl 5 rfl) ?_
            refine lv_istore_n (lv' := [(3, .int x_45), (2, .int x_102), (1, .int (nI k)), (0, .ref (G.1 5 0)), (4, .int (nI k)), (5, .int x_45), (6, .int b)]) hx hb dX5_bestRule_108 rfl hl (by decide) rfl (fun ls hl => ?_)
            refine lv_iinc (v := nI (k + 1)) (lv' := [(4, .int (nI (k + 1))), (3, .int x_45), (2, .int x_102), (1, .int (nI k)), (0, .ref (G.1 5 0)), (5, .int x_45), (6, .int b)]) hx hb dX5_bestRule_109 hl (k := 4) rfl (nI_add _ _) (by decide) rfl (fun ls hl => ?_)
            refine lv_goto (tgt := 9) hx hb dX5_bestRule_112 (by decide) ?_
            exact K_9 (k + 1) (nI k) x_102 x_45 _ (by first | omega | assumption | rfl) (by first | (rw [bestK, if_pos (by first | exact Or.inl c_87 | exact Or.inr (by have h := bP_t hbb c_92; rw [hbe]; exact h)), eo2, epw]) | (rw [bestK, if_neg (by rintro (g | g); exact absurd g (by omega); rw [hbe] at g; exact bP_f hbb c_92 g)]; exact hbe)) hkp2 (by omega) _ _ _ hw hS (lv_sub hl [4, 3, 2, 1, 0] rfl)
          · refine lv_iload hx hb dX5_bestRule_90 (lv_at hl 6 rfl) ?_
            refine lv_if_eq (tgt := 109) hx hb dX5_bestRule_92 (by decide) (fun c_92 => ?_) (fun c_92 => ?_)
            · refine lv_iinc (v := nI (k + 1)) (lv' := [(4, .int (nI (k + 1))), (0, .ref (G.1 5 0)), (1, .int be), (2, .int lo), (3, .int lp), (5, .int x_45), (6, .int b)]) hx hb dX5_bestRule_109 hl (k := 4) rfl (nI_add _ _) (by decide) rfl (fun ls hl => ?_)
              refine lv_goto (tgt := 9) hx hb dX5_bestRule_112 (by decide) ?_
              exact K_9 (k + 1) be lo lp _ (by first | omega | assumption | rfl) (by first | (rw [bestK, if_pos (by first | exact Or.inl c_87 | exact Or.inr (by have h := bP_t hbb c_92; rw [hbe]; exact h)), eo2, epw]) | (rw [bestK, if_neg (by rintro (g | g); exact absurd g (by omega); rw [hbe] at g; exact bP_f hbb c_92 g)]; exact hbe)) hkp2 (by omega) _ _ _ hw hS (lv_sub hl [1, 2, 3, 4, 0] rfl)
            · refine lv_iload hx hb dX5_bestRule_95 (lv_at hl 4 rfl) ?_
              refine lv_istore_n (lv' := [(1, .int (nI k)), (0, .ref (G.1 5 0)), (2, .int lo), (3, .int lp), (4, .int (nI k)), (5, .int x_45), (6, .int b)]) hx hb dX5_bestRule_97 rfl hl (by decide) rfl (fun ls hl => ?_)
              refine lv_aload_n hx hb dX5_bestRule_98 rfl (lv_at hl 1 rfl) ?_
              refine gf_X5_tally hx hb hE hw (Nat.zero_lt_one) hown (hts (.fieldLink RX5 50 "ZonedLight" "tally" "LZonedLight$Tally;") (by decide +kernel)) dX5_bestRule_99 ?_
              refine gf_X4_off hx hb hE hw (Nat.zero_lt_one) hown (hts (.fieldLink RX5 215 "ZonedLight$Tally" "off" "I") (by decide +kernel)) dX5_bestRule_102 ?_
              refine lv_topi (fun x_102 ex_102 => ?_)
              have eo2 : offR (scr σ 0) k = x_102 := by rw [ex_102, eo]
              refine lv_istore_n (lv' := [(2, .int x_102), (1, .int (nI k)), (0, .ref (G.1 5 0)), (3, .int lp), (4, .int (nI k)), (5, .int x_45), (6, .int b)]) hx hb dX5_bestRule_105 rfl hl (by decide) rfl (fun ls hl => ?_)
              refine lv_iload hx hb dX5_bestRule_106 (lv_at hl 5 rfl) ?_
              refine lv_istore_n (lv' := [(3, .int x_45), (2, .int x_102), (1, .int (nI k)), (0, .ref (G.1 5 0)), (4, .int (nI k)), (5, .int x_45), (6, .int b)]) hx hb dX5_bestRule_108 rfl hl (by decide) rfl (fun ls hl => ?_)
              refine lv_iinc (v := nI (k + 1)) (lv' := [(4, .int (nI (k + 1))), (3, .int x_45), (2, .int x_102), (1, .int (nI k)), (0, .ref (G.1 5 0)), (5, .int x_45), (6, .int b)]) hx hb dX5_bestRule_109 hl (k := 4) rfl (nI_add _ _) (by decide) rfl (fun ls hl => ?_)
              refine lv_goto (tgt := 9) hx hb dX5_bestRule_112 (by decide) ?_
              exact K_9 (k + 1) (nI k) x_102 x_45 _ (by first | omega | assumption | rfl) (by first | (rw [bestK, if_pos (by first | exact Or.inl c_87 | exact Or.inr (by have h := bP_t hbb c_92; rw [hbe]; exact h)), eo2, epw]) | (rw [bestK, if_neg (by rintro (g | g); exact absurd g (by omega); rw [hbe] at g; exact bP_f hbb c_92 g)]; exact hbe)) hkp2 (by omega) _ _ _ hw hS (lv_sub hl [4, 3, 2, 1, 0] rfl)
        refine lv_aload_n hx hb dX5_bestRule_50 rfl (lv_at hl 1 rfl) ?_
        refine gf_X5_tally hx hb hE hw (Nat.zero_lt_one) hown (hts (.fieldLink RX5 50 "ZonedLight" "tally" "LZonedLight$Tally;") (by decide +kernel)) dX5_bestRule_51 ?_
        refine gf_X4_off hx hb hE hw (Nat.zero_lt_one) hown (hts (.fieldLink RX5 215 "ZonedLight$Tally" "off" "I") (by decide +kernel)) dX5_bestRule_54 ?_
        refine lv_topi (fun x_54 ex_54 => ?_)
        refine lv_iload_n hx hb dX5_bestRule_57 rfl (lv_at hl 3 rfl) ?_
        refine lv_icmp_lt (tgt := 78) hx hb dX5_bestRule_58 (by decide) (fun c_58 => ?_) (fun c_58 => ?_)
        · refine lv_iconst (v := nI 1) hx hb dX5_bestRule_78 (by decide) ?_
          refine lv_goto (tgt := 83) hx hb dX5_bestRule_79 (by decide) ?_
          refine lv_istore (lv' := [(6, .int (nI 1)), (5, .int x_45), (0, .ref (G.1 5 0)), (1, .int be), (2, .int lo), (3, .int lp), (4, .int (nI k))]) hx hb dX5_bestRule_83 hl (by decide) rfl (fun ls hl => ?_)
          exact K_85 (nI 1) (by first | exact Or.inl ⟨rfl, Or.inl (by rw [← eo, ← ex_54]; exact c_58)⟩ | exact Or.inl ⟨rfl, Or.inr ⟨by rw [← eo, ← ex_65]; exact c_69, by rw [← epw]; exact Int32.not_le.mp c_75⟩⟩ | exact Or.inr ⟨rfl, by rintro (g | g); exact c_58 (by rw [ex_54, eo]; exact g); exact c_69 (by rw [ex_65, eo]; exact g.1)⟩ | exact Or.inr ⟨rfl, by rintro (g | g); exact c_58 (by rw [ex_54, eo]; exact g); exact Int32.not_lt.mpr c_75 (by rw [epw]; exact g.2)⟩) _ _ _ hw hS (lv_sub hl [2, 3, 4, 5, 6, 1, 0] rfl)
        · refine lv_aload_n hx hb dX5_bestRule_61 rfl (lv_at hl 1 rfl) ?_
          refine gf_X5_tally hx hb hE hw (Nat.zero_lt_one) hown (hts (.fieldLink RX5 50 "ZonedLight" "tally" "LZonedLight$Tally;") (by decide +kernel)) dX5_bestRule_62 ?_
          refine gf_X4_off hx hb hE hw (Nat.zero_lt_one) hown (hts (.fieldLink RX5 215 "ZonedLight$Tally" "off" "I") (by decide +kernel)) dX5_bestRule_65 ?_
          refine lv_topi (fun x_65 ex_65 => ?_)
          refine lv_iload_n hx hb dX5_bestRule_68 rfl (lv_at hl 3 rfl) ?_
          refine lv_icmp_ne (tgt := 82) hx hb dX5_bestRule_69 (by decide) (fun c_69 => ?_) (fun c_69 => ?_)
          · refine lv_iconst (v := nI 0) hx hb dX5_bestRule_82 (by decide) ?_
            refine lv_istore (lv' := [(6, .int (nI 0)), (5, .int x_45), (0, .ref (G.1 5 0)), (1, .int be), (2, .int lo), (3, .int lp), (4, .int (nI k))]) hx hb dX5_bestRule_83 hl (by decide) rfl (fun ls hl => ?_)
            exact K_85 (nI 0) (by first | exact Or.inl ⟨rfl, Or.inl (by rw [← eo, ← ex_54]; exact c_58)⟩ | exact Or.inl ⟨rfl, Or.inr ⟨by rw [← eo, ← ex_65]; exact c_69, by rw [← epw]; exact Int32.not_le.mp c_75⟩⟩ | exact Or.inr ⟨rfl, by rintro (g | g); exact c_58 (by rw [ex_54, eo]; exact g); exact c_69 (by rw [ex_65, eo]; exact g.1)⟩ | exact Or.inr ⟨rfl, by rintro (g | g); exact c_58 (by rw [ex_54, eo]; exact g); exact Int32.not_lt.mpr c_75 (by rw [epw]; exact g.2)⟩) _ _ _ hw hS (lv_sub hl [2, 3, 4, 5, 6, 1, 0] rfl)
          · refine lv_iload hx hb dX5_bestRule_72 (lv_at hl 0 rfl) ?_
            refine lv_iload_n hx hb dX5_bestRule_74 rfl (lv_at hl 4 rfl) ?_
            refine lv_icmp_ge (tgt := 82) hx hb dX5_bestRule_75 (by decide) (fun c_75 => ?_) (fun c_75 => ?_)
            · refine lv_iconst (v := nI 0) hx hb dX5_bestRule_82 (by decide) ?_
              refine lv_istore (lv' := [(6, .int (nI 0)), (5, .int x_45), (0, .ref (G.1 5 0)), (1, .int be), (2, .int lo), (3, .int lp), (4, .int (nI k))]) hx hb dX5_bestRule_83 hl (by decide) rfl (fun ls hl => ?_)
              exact K_85 (nI 0) (by first | exact Or.inl ⟨rfl, Or.inl (by rw [← eo, ← ex_54]; exact c_58)⟩ | exact Or.inl ⟨rfl, Or.inr ⟨by rw [← eo, ← ex_65]; exact c_69, by rw [← epw]; exact Int32.not_le.mp c_75⟩⟩ | exact Or.inr ⟨rfl, by rintro (g | g); exact c_58 (by rw [ex_54, eo]; exact g); exact c_69 (by rw [ex_65, eo]; exact g.1)⟩ | exact Or.inr ⟨rfl, by rintro (g | g); exact c_58 (by rw [ex_54, eo]; exact g); exact Int32.not_lt.mpr c_75 (by rw [epw]; exact g.2)⟩) _ _ _ hw hS (lv_sub hl [2, 3, 4, 5, 6, 1, 0] rfl)
            · refine lv_iconst (v := nI 1) hx hb dX5_bestRule_78 (by decide) ?_
              refine lv_goto (tgt := 83) hx hb dX5_bestRule_79 (by decide) ?_
              refine lv_istore (lv' := [(6, .int (nI 1)), (5, .int x_45), (0, .ref (G.1 5 0)), (1, .int be), (2, .int lo), (3, .int lp), (4, .int (nI k))]) hx hb dX5_bestRule_83 hl (by decide) rfl (fun ls hl => ?_)
              exact K_85 (nI 1) (by first | exact Or.inl ⟨rfl, Or.inl (by rw [← eo, ← ex_54]; exact c_58)⟩ | exact Or.inl ⟨rfl, Or.inr ⟨by rw [← eo, ← ex_65]; exact c_69, by rw [← epw]; exact Int32.not_le.mp c_75⟩⟩ | exact Or.inr ⟨rfl, by rintro (g | g); exact c_58 (by rw [ex_54, eo]; exact g); exact c_69 (by rw [ex_65, eo]; exact g.1)⟩ | exact Or.inr ⟨rfl, by rintro (g | g); exact c_58 (by rw [ex_54, eo]; exact g); exact Int32.not_lt.mpr c_75 (by rw [epw]; exact g.2)⟩) _ _ _ hw hS (lv_sub hl [2, 3, 4, 5, 6, 1, 0] rfl)
  exact K_9 (3 - 0 + 1) 0 0 0 0 _ (by first | omega | assumption | rfl) rfl sameC.rf (Nat.lt_succ_self _) _ _ _ hw hS (lv_sub hl [4, 3, 2, 1, 0] rfl)
