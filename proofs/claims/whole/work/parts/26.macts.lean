/-! CONTRACTS, laid by program -/
set_option maxHeartbeats 4000000 in
set_option maxRecDepth 100000 in
/-- ZonedLightModel.ask(III)I -/
theorem c_X6_ask (l : Launch) (G : GG) (A : Nat → Prop) (σ : St) (x : Int32) (y : Int32) (b : Int32) (m : Nat) (hm : m ≤ 4) (em : σ 16 0 2 = nI m) : MI l yX6_ask wsX6_ask 2 46 G A σ [.ref (G.1 16 0), .int x, .int y, .int b] (fun r τ => actM σ τ r (askF (σ 17 0) x y b) m) := by
  refine MI.on (by decide) rfl (Nat.le_of_ble_eq_true rfl) (fun pP eE sS mM args below meth cC ls hx hb hml hr hown hlk hts hE hw hS hl => ?_)
  have hl : lv_has ls 5 [(0, .ref (G.1 16 0)), (1, .int x), (2, .int y), (3, .int b)] := hl
  refine lv_iload_n hx hb dX6_ask_0 rfl (lv_at hl 1 rfl) ?_
  refine lv_iload_n hx hb dX6_ask_1 rfl (lv_at hl 2 rfl) ?_
  refine g_Si (n := 2) (As := [.int x, .int y]) (rest := []) hx hb hml hown hts hE hw hS gX6_ask_X6_isSpot (c_X6_isSpot l G A _ x y) rfl (by decide +kernel) ⟨Nat.le_of_ble_eq_true rfl, Nat.le_of_ble_eq_true rfl⟩ rfl hl.1 rfl (Nat.le_of_ble_eq_true rfl) ⟨Nat.le_of_ble_eq_true rfl, Nat.le_of_ble_eq_true rfl⟩ dX6_ask_2 (fun x_2 τ_2 H locs hp_2 hw hS => ?_)
  obtain ⟨hb_2, hτ_2⟩ := hp_2
  rw [hτ_2] at hw
  refine lv_if_ne (tgt := 10) hx hb dX6_ask_5 (by decide) (fun c_5 => ?_) (fun c_5 => ?_)
  · have honp := bP_t hb_2 c_5
    obtain ⟨⟨X, hX, rfl⟩, ⟨Y, hY, rfl⟩⟩ := honp
    refine lv_iload_n hx hb dX6_ask_10 rfl (lv_at hl 3 rfl) ?_
    refine lv_i2l hx hb dX6_ask_11 rfl ?_
    refine lv_lconst (v := (nI 0).toInt64) hx hb dX6_ask_12 (by decide +kernel) ?_
    refine lv_ldc2 (v := (nI 255).toInt64) hx hb hown (hts (.constantLong RX6 107 (nI 255).toInt64) (by decide +kernel)) dX6_ask_13 ?_
    refine g_Si (n := 3) (As := [.long (b.toInt64), .long ((nI 0).toInt64), .long ((nI 255).toInt64)]) (rest := []) hx hb hml hown hts hE hw hS gX6_ask_X6_in (c_X6_in l G A _ b (nI 0) (nI 255)) rfl (by decide +kernel) ⟨Nat.le_of_ble_eq_true rfl, Nat.le_of_ble_eq_true rfl⟩ rfl hl.1 rfl (Nat.le_of_ble_eq_true rfl) ⟨Nat.le_of_ble_eq_true rfl, Nat.le_of_ble_eq_true rfl⟩ dX6_ask_16 (fun x_16 τ_16 H locs hp_16 hw hS => ?_)
    obtain ⟨hb_16, hτ_16⟩ := hp_16
    rw [hτ_16] at hw
    refine lv_if_ne (tgt := 25) hx hb dX6_ask_19 (by decide) (fun c_19 => ?_) (fun c_19 => ?_)
    · have hb0 : ¬ (b < 0 ∨ 255 < b) := fun g => g.elim (bP_t hb_16 c_19).1 (bP_t hb_16 c_19).2
      refine lv_aload_n hx hb dX6_ask_25 rfl (lv_at hl 0 rfl) ?_
      refine gf_X6_all hx hb hE hw (Nat.zero_lt_one) hown (hts (.fieldLink RX6 7 "ZonedLightModel" "all" "[I") (by decide +kernel)) dX6_ask_26 ?_
      refine lv_bipush (v := nI 24) hx hb dX6_ask_29 (by decide) ?_
      refine lv_iload_n hx hb dX6_ask_31 rfl (lv_at hl 2 rfl) ?_
      refine n_imul hx hb dX6_ask_32 ?_
      refine lv_iload_n hx hb dX6_ask_33 rfl (lv_at hl 1 rfl) ?_
      refine n_iadd hx hb dX6_ask_34 ?_
      refine g_ald hx hb hE hw (n := 335) (Nat.zero_lt_one) rfl (by decide) (by omega) dX6_ask_35 ?_
      refine lv_topi (fun x_35 ex_35 => ?_)
      have e35 : σ 17 0 (Y * 24 + X) = x_35 := by rw [ex_35, show 24 * Y + X = Y * 24 + X by omega]
      refine lv_istore (lv' := [(4, .int x_35), (0, .ref (G.1 16 0)), (1, .int (nI X)), (2, .int (nI Y)), (3, .int b)]) hx hb dX6_ask_36 hl (by decide) rfl (fun ls hl => ?_)
      refine lv_iload hx hb dX6_ask_38 (lv_at hl 0 rfl) ?_
      refine lv_iload_n hx hb dX6_ask_40 rfl (lv_at hl 4 rfl) ?_
      refine lv_icmp_ne (tgt := 47) hx hb dX6_ask_41 (by decide) (fun c_41 => ?_) (fun c_41 => ?_)
      · refine lv_aload_n hx hb dX6_ask_47 rfl (lv_at hl 1 rfl) ?_
        refine g_Vv (n := 0) (As := []) (rest := []) hx hb hml hown hts hE hw hS gX6_ask_X6_acts (c_X6_acts l G A _ _ hm em) rfl (by decide +kernel) ⟨Nat.le_of_ble_eq_true rfl, Nat.le_of_ble_eq_true rfl⟩ (Nat.zero_lt_one) rfl rfl rfl rfl hl.1 rfl (Nat.le_of_ble_eq_true rfl) ⟨Nat.le_of_ble_eq_true rfl, Nat.le_of_ble_eq_true rfl⟩ dX6_ask_48 (fun τ_48 H locs hp_48 hw hS => ?_)
        refine lv_aload_n hx hb dX6_ask_51 rfl (lv_at hl 1 rfl) ?_
        refine gf_X6_all hx hb hE hw (Nat.zero_lt_one) hown (hts (.fieldLink RX6 7 "ZonedLightModel" "all" "[I") (by decide +kernel)) dX6_ask_52 ?_
        refine lv_bipush (v := nI 24) hx hb dX6_ask_55 (by decide) ?_
        refine lv_iload_n hx hb dX6_ask_57 rfl (lv_at hl 3 rfl) ?_
        refine n_imul hx hb dX6_ask_58 ?_
        refine lv_iload_n hx hb dX6_ask_59 rfl (lv_at hl 2 rfl) ?_
        refine n_iadd hx hb dX6_ask_60 ?_
        refine lv_iload_n hx hb dX6_ask_61 rfl (lv_at hl 4 rfl) ?_
        refine g_ast hx hb hE hw hS (n := 335) (Nat.zero_lt_one) (by decide) (fun _ => rfl) rfl (by decide) (by omega) dX6_ask_62 (fun H locs hw hS => ?_)
        refine lv_iload hx hb dX6_ask_63 (lv_at hl 0 rfl) ?_
        refine g_iret hx hb hr hlk hE hw hS dX6_ask_65 ?_
        refine actM_go (by rw [askF_go hX hY hb0 (by rw [e35]; exact c_41), e35]) ?_ ?_
        · rw [hp_48, us_same, pushP_k (by decide) (by decide), show 24 * Y + X = Y * 24 + X by omega]
        · rw [hp_48]; exact sameM.rf.w2 (Or.inr rfl) (by decide)
      · refine lv_bipush (v := (-5)) hx hb dX6_ask_44 (by decide) ?_
        refine g_iret hx hb hr hlk hE hw hS dX6_ask_46 ?_
        exact actM_no (askF_none hX hY hb0 (e35.trans c_41))
    · refine lv_bipush (v := (-2)) hx hb dX6_ask_22 (by decide) ?_
      refine g_iret hx hb hr hlk hE hw hS dX6_ask_24 ?_
      exact actM_no (askF_bad (onP_nI hX hY) (Decidable.byContradiction fun g => bP_f hb_16 c_19 ⟨fun z => g (Or.inl z), fun z => g (Or.inr z)⟩))
  · refine lv_iconst (v := (-1)) hx hb dX6_ask_8 (by decide) ?_
    refine g_iret hx hb hr hlk hE hw hS dX6_ask_9 ?_
    exact actM_no (askF_off (bP_f hb_2 c_5))
set_option maxHeartbeats 4000000 in
set_option maxRecDepth 100000 in
/-- ZonedLightModel.move(I)I -/
theorem c_X6_move (l : Launch) (G : GG) (A : Nat → Prop) (σ : St) (q : Int32) (m : Nat) (hm : m ≤ 4) (em : σ 16 0 2 = nI m) : MI l yX6_move wsX6_move 2 46 G A σ [.ref (G.1 16 0), .int q] (fun r τ => actM σ τ r (movF (σ 17 0) q) m) := by
  refine MI.on (by decide) rfl (Nat.le_of_ble_eq_true rfl) (fun pP eE sS mM args below meth cC ls hx hb hml hr hown hlk hts hE hw hS hl => ?_)
  have hl : lv_has ls 6 [(0, .ref (G.1 16 0)), (1, .int q)] := hl
  refine lv_iload_n hx hb dX6_move_0 rfl (lv_at hl 1 rfl) ?_
  refine lv_i2l hx hb dX6_move_1 rfl ?_
  refine lv_lconst (v := (nI 0).toInt64) hx hb dX6_move_2 (by decide +kernel) ?_
  refine lv_ldc2 (v := (nI 3).toInt64) hx hb hown (hts (.constantLong RX6 112 (nI 3).toInt64) (by decide +kernel)) dX6_move_3 ?_
  refine g_Si (n := 3) (As := [.long (q.toInt64), .long ((nI 0).toInt64), .long ((nI 3).toInt64)]) (rest := []) hx hb hml hown hts hE hw hS gX6_move_X6_in (c_X6_in l G A _ q (nI 0) (nI 3)) rfl (by decide +kernel) ⟨Nat.le_of_ble_eq_true rfl, Nat.le_of_ble_eq_true rfl⟩ rfl hl.1 rfl (Nat.le_of_ble_eq_true rfl) ⟨Nat.le_of_ble_eq_true rfl, Nat.le_of_ble_eq_true rfl⟩ dX6_move_6 (fun x_6 τ_6 H locs hp_6 hw hS => ?_)
  obtain ⟨hb_6, hτ_6⟩ := hp_6
  rw [hτ_6] at hw
  refine lv_if_ne (tgt := 15) hx hb dX6_move_9 (by decide) (fun c_9 => ?_) (fun c_9 => ?_)
  · obtain ⟨w, hw4, eq_⟩ := (btw_in (n := 3) (by decide)).mp (bP_t hb_6 c_9)
    rw [eq_] at hl
    refine lv_aload_n hx hb dX6_move_15 rfl (lv_at hl 0 rfl) ?_
    refine g_Vv (n := 0) (As := []) (rest := []) hx hb hml hown hts hE hw hS gX6_move_X6_acts (c_X6_acts l G A _ _ hm em) rfl (by decide +kernel) ⟨Nat.le_of_ble_eq_true rfl, Nat.le_of_ble_eq_true rfl⟩ (Nat.zero_lt_one) rfl rfl rfl rfl hl.1 rfl (Nat.le_of_ble_eq_true rfl) ⟨Nat.le_of_ble_eq_true rfl, Nat.le_of_ble_eq_true rfl⟩ dX6_move_16 (fun τ_16 H locs hp_16 hw hS => ?_)
    subst hp_16
    refine lv_sipush (v := nI 335) hx hb dX6_move_19 (by decide) ?_
    refine lv_aload_n hx hb dX6_move_22 rfl (lv_at hl 0 rfl) ?_
    refine gf_X6_historyLong hx hb hE hw (Nat.zero_lt_one) hown (hts (.fieldLink RX6 28 "ZonedLightModel" "historyLong" "I") (by decide +kernel)) dX6_move_23 ?_
    refine lv_topi (fun x_23 ex_23 => ?_)
    obtain rfl : x_23 = nI (sizeH m) := by rw [ex_23, pushP_2]
    have hs1 := sizeH_p m
    have hs4 := sizeH_le hm
    refine lv_iconst (v := nI 1) hx hb dX6_move_26 (by decide) ?_
    refine n_isub hx hb dX6_move_27 (by omega) ?_
    refine n_imul hx hb dX6_move_28 ?_
    refine lv_istore_n (lv' := [(2, .int (nI (335 * ((sizeH m) - 1)))), (0, .ref (G.1 16 0)), (1, .int (nI w))]) hx hb dX6_move_29 rfl hl (by decide) rfl (fun ls hl => ?_)
    refine lv_iconst (v := nI 0) hx hb dX6_move_30 (by decide) ?_
    refine lv_istore_n (lv' := [(3, .int (nI 0)), (2, .int (nI (335 * ((sizeH m) - 1)))), (0, .ref (G.1 16 0)), (1, .int (nI w))]) hx hb dX6_move_31 rfl hl (by decide) rfl (fun ls hl => ?_)
    have K_32 : ∀ (fuel : Nat) (k : Nat) (σ2 : St), (k ≤ 288) → (σ2 = ur (pushP σ m) 17 0 (cpK (movA (σ 17 0) (nI w)) (σ 17 0) k)) → 288 - k < fuel → ∀ (H : Heap) (locs : List Loc) (ls : Array Slot), Wcel G σ2 H → va_S A sS.heap H locs → lv_has ls 6 [(0, .ref (G.1 16 0)), (1, .int (nI w)), (2, .int (nI (335 * (sizeH m - 1)))), (3, .int (nI k))] → W pP l eE { frames := 2, cells := 0, slots := 0, locals := 46 } sS mM args below meth cC H locs 0 0 (MQ below (va_Qi (fun r τ => actM σ τ r (movF (σ 17 0) q) m) (fun τ t => gP G A τ t) A) args sS 0 0 A) (F0 mM 32 ls []) := by
      intro fuel
      induction fuel with
      | zero =>
        intro k σ2 hk h2 hfu
        exact absurd hfu (Nat.not_lt_zero _)
      | succ fuel K_32 =>
        intro k σ2 hk h2 hfu H locs ls hw hS hl
        subst h2
        refine lv_iload_n hx hb dX6_move_32 rfl (lv_at hl 3 rfl) ?_
        refine lv_sipush (v := nI 288) hx hb dX6_move_33 (by decide) ?_
        refine n_cmp_ge (tgt := 131) hx hb dX6_move_36 (by decide) (by omega) (by omega) (fun c_36 => ?_) (fun c_36 => ?_)
        · refine lv_aload_n hx hb dX6_move_131 rfl (lv_at hl 0 rfl) ?_
          refine g_Vi (n := 0) (As := []) (rest := []) hx hb hml hown hts hE hw hS gX6_move_X6_otherSpots (c_X6_otherSpots l G A _ (sizeH m) hs1 hs4 (by rw [ur_k (by decide), pushP_2])) rfl (by decide +kernel) ⟨Nat.le_of_ble_eq_true rfl, Nat.le_of_ble_eq_true rfl⟩ (Nat.zero_lt_one) rfl rfl rfl rfl hl.1 rfl (Nat.le_of_ble_eq_true rfl) ⟨Nat.le_of_ble_eq_true rfl, Nat.le_of_ble_eq_true rfl⟩ dX6_move_132 (fun r_132 τ_132 H locs hp_132 hw hS => ?_)
          obtain ⟨rfl, hτ_132⟩ := hp_132
          rw [hτ_132] at hw
          refine g_iret hx hb hr hlk hE hw hS dX6_move_135 ?_
          obtain rfl : k = 288 := by omega
          rw [ur_same, ur_k (by decide), pushP_18]
          refine actM_go (a1 := movA (σ 17 0) q) ?_ ?_ (sameM.rf.w1 (Or.inr rfl) (by decide))
          · have hd : difK (cpK (movA (σ 17 0) (nI w)) (σ 17 0) 288) (fun j => pushH (σ 18 0) (σ 17 0) m (335 * (sizeH m - 1) + j)) 288 = difK (movA (σ 17 0) (nI w)) (σ 17 0) 288 := difK_congr 288 (fun j g => if_pos g) (fun j g => pushH_last (by omega))
            rw [eq_, hd, movF, if_neg (fun g => g.elim (nI_pos (by omega)) (nI_ge (b := 4) hw4 (by decide)))]
          · rw [ur_same, eq_]
            exact movA_all
        · have K_61 : ∀ (fxx : Int32), (fxx = fxV (nI w)) → ∀ (H : Heap) (locs : List Loc) (ls : Array Slot), Wcel G (ur (pushP σ m) 17 0 (cpK (movA (σ 17 0) (nI w)) (σ 17 0) k)) H → va_S A sS.heap H locs → lv_has ls 6 [(0, .ref (G.1 16 0)), (1, .int (nI w)), (2, .int (nI (335 * (sizeH m - 1)))), (3, .int (nI k))] → W pP l eE { frames := 2, cells := 0, slots := 0, locals := 46 } sS mM args below meth cC H locs 0 0 (MQ below (va_Qi (fun r τ => actM σ τ r (movF (σ 17 0) q) m) (fun τ t => gP G A τ t) A) args sS 0 0 A) (F0 mM 61 ls [.int fxx, .int (nI (k % 24))]) := by
            intro fxx hfx H locs ls hw hS hl
            subst hfx
            refine lv_iadd hx hb dX6_move_61 ?_
            refine lv_topi (fun x_61 ex_61 => ?_)
            rw [ex_61]
            have K_87 : ∀ (fyy : Int32), (fyy = fyV (nI w)) → ∀ (H : Heap) (locs : List Loc) (ls : Array Slot), Wcel G (ur (pushP σ m) 17 0 (cpK (movA (σ 17 0) (nI w)) (σ 17 0) k)) H → va_S A sS.heap H locs → lv_has ls 6 [(0, .ref (G.1 16 0)), (1, .int (nI w)), (2, .int (nI (335 * (sizeH m - 1)))), (3, .int (nI k)), (4, .int (nI (k % 24) + fxV (nI w)))] → W pP l eE { frames := 2, cells := 0, slots := 0, locals := 46 } sS mM args below meth cC H locs 0 0 (MQ below (va_Qi (fun r τ => actM σ τ r (movF (σ 17 0) q) m) (fun τ t => gP G A τ t) A) args sS 0 0 A) (F0 mM 87 ls [.int fyy, .int (nI (k / 24))]) := by
              intro fyy hfy H locs ls hw hS hl
              subst hfy
              refine lv_iadd hx hb dX6_move_87 ?_
              refine lv_topi (fun x_87 ex_87 => ?_)
              rw [ex_87]
              refine lv_istore (lv' := [(5, .int (nI (k / 24) + fyV (nI w))), (0, .ref (G.1 16 0)), (1, .int (nI w)), (2, .int (nI (335 * (sizeH m - 1)))), (3, .int (nI k)), (4, .int (nI (k % 24) + fxV (nI w)))]) hx hb dX6_move_88 hl (by decide) rfl (fun ls hl => ?_)
              refine lv_aload_n hx hb dX6_move_90 rfl (lv_at hl 1 rfl) ?_
              refine gf_X6_all hx hb hE hw (Nat.zero_lt_one) hown (hts (.fieldLink RX6 7 "ZonedLightModel" "all" "[I") (by decide +kernel)) dX6_move_91 ?_
              refine lv_iload_n hx hb dX6_move_94 rfl (lv_at hl 4 rfl) ?_
              refine lv_iload hx hb dX6_move_95 (lv_at hl 5 rfl) ?_
              refine lv_iload hx hb dX6_move_97 (lv_at hl 0 rfl) ?_
              refine g_Si (n := 2) (As := [.int (nI (k % 24) + fxV (nI w)), .int (nI (k / 24) + fyV (nI w))]) (rest := [.int (nI k), .ref (G.1 17 0)]) hx hb hml hown hts hE hw hS gX6_move_X6_isSpot (c_X6_isSpot l G A _ (nI (k % 24) + fxV (nI w)) (nI (k / 24) + fyV (nI w))) rfl (by decide +kernel) ⟨Nat.le_of_ble_eq_true rfl, Nat.le_of_ble_eq_true rfl⟩ rfl hl.1 rfl (Nat.le_of_ble_eq_true rfl) ⟨Nat.le_of_ble_eq_true rfl, Nat.le_of_ble_eq_true rfl⟩ dX6_move_99 (fun x_99 τ_99 H locs hp_99 hw hS => ?_)
              obtain ⟨hb_99, hτ_99⟩ := hp_99
              rw [hτ_99] at hw
              refine lv_if_eq (tgt := 123) hx hb dX6_move_102 (by decide) (fun c_102 => ?_) (fun c_102 => ?_)
              · have hnon : ¬ onP (nI (k % 24) + fxV (nI w)) (nI (k / 24) + fyV (nI w)) := bP_f hb_99 c_102
                refine lv_iconst (v := nI 0) hx hb dX6_move_123 (by decide) ?_
                refine g_ast hx hb hE hw hS (n := 335) (Nat.zero_lt_one) (by decide) (fun _ => rfl) rfl (by decide) (by omega) dX6_move_124 (fun H locs hw hS => ?_)
                refine lv_iinc (v := nI (k + 1)) (lv' := [(3, .int (nI (k + 1))), (5, .int (nI (k / 24) + fyV (nI w))), (0, .ref (G.1 16 0)), (1, .int (nI w)), (2, .int (nI (335 * (sizeH m - 1)))), (4, .int (nI (k % 24) + fxV (nI w)))]) hx hb dX6_move_125 hl (k := 4) rfl (nI_add _ _) (by decide) rfl (fun ls hl => ?_)
                refine lv_goto (tgt := 32) hx hb dX6_move_128 (by decide) ?_
                first | exact K_32 (k + 1) _ (by first | omega | assumption | rfl) (by rw [us_ur, cpK_put (by rw [movA_at c_36, shV, if_pos (onB_iff.mpr honp), eX, eY, nI_clamp (by omega), nI_clamp (by omega), ex_119, ur_k (by decide), pushP_18, Nat.add_assoc, pushH_last (by omega), show 24 * Y + X = Y * 24 + X by omega])]) (by omega) _ _ _ hw hS (lv_sub hl [2, 3, 4, 0] rfl) | exact K_32 (k + 1) _ (by first | omega | assumption | rfl) (by rw [us_ur, cpK_put (by rw [movA_at c_36, shV, if_neg (fun g => hnon (onB_iff.mp g))]; rfl)]) (by omega) _ _ _ hw hS (lv_sub hl [2, 3, 4, 0] rfl)
              · have honp : onP (nI (k % 24) + fxV (nI w)) (nI (k / 24) + fyV (nI w)) := bP_t hb_99 c_102
                have honp2 := honp
                obtain ⟨⟨X, hX, eX⟩, ⟨Y, hY, eY⟩⟩ := honp2
                rw [eX, eY] at hl
                refine lv_aload_n hx hb dX6_move_105 rfl (lv_at hl 1 rfl) ?_
                refine gf_X6_history hx hb hE hw (Nat.zero_lt_one) hown (hts (.fieldLink RX6 13 "ZonedLightModel" "history" "[I") (by decide +kernel)) dX6_move_106 ?_
                refine lv_iload_n hx hb dX6_move_109 rfl (lv_at hl 3 rfl) ?_
                refine lv_bipush (v := nI 24) hx hb dX6_move_110 (by decide) ?_
                refine lv_iload hx hb dX6_move_112 (lv_at hl 0 rfl) ?_
                refine n_imul hx hb dX6_move_114 ?_
                refine n_iadd hx hb dX6_move_115 ?_
                refine lv_iload hx hb dX6_move_116 (lv_at hl 5 rfl) ?_
                refine n_iadd hx hb dX6_move_118 ?_
                refine g_ald hx hb hE hw (n := 1340) (Nat.zero_lt_one) rfl (by decide) (by omega) dX6_move_119 ?_
                refine lv_topi (fun x_119 ex_119 => ?_)
                refine lv_goto (tgt := 124) hx hb dX6_move_120 (by decide) ?_
                refine g_ast hx hb hE hw hS (n := 335) (Nat.zero_lt_one) (by decide) (fun _ => rfl) rfl (by decide) (by omega) dX6_move_124 (fun H locs hw hS => ?_)
                refine lv_iinc (v := nI (k + 1)) (lv' := [(3, .int (nI (k + 1))), (5, .int (nI Y)), (0, .ref (G.1 16 0)), (1, .int (nI w)), (2, .int (nI (335 * (sizeH m - 1)))), (4, .int (nI X))]) hx hb dX6_move_125 hl (k := 4) rfl (nI_add _ _) (by decide) rfl (fun ls hl => ?_)
                refine lv_goto (tgt := 32) hx hb dX6_move_128 (by decide) ?_
                first | exact K_32 (k + 1) _ (by first | omega | assumption | rfl) (by rw [us_ur, cpK_put (by rw [movA_at c_36, shV, if_pos (onB_iff.mpr honp), eX, eY, nI_clamp (by omega), nI_clamp (by omega), ex_119, ur_k (by decide), pushP_18, Nat.add_assoc, pushH_last (by omega), show 24 * Y + X = Y * 24 + X by omega])]) (by omega) _ _ _ hw hS (lv_sub hl [2, 3, 4, 0] rfl) | exact K_32 (k + 1) _ (by first | omega | assumption | rfl) (by rw [us_ur, cpK_put (by rw [movA_at c_36, shV, if_neg (fun g => hnon (onB_iff.mp g))]; rfl)]) (by omega) _ _ _ hw hS (lv_sub hl [2, 3, 4, 0] rfl)
            refine lv_istore (lv' := [(4, .int (nI (k % 24) + fxV (nI w))), (0, .ref (G.1 16 0)), (1, .int (nI w)), (2, .int (nI (335 * (sizeH m - 1)))), (3, .int (nI k))]) hx hb dX6_move_62 hl (by decide) rfl (fun ls hl => ?_)
            refine lv_iload_n hx hb dX6_move_64 rfl (lv_at hl 4 rfl) ?_
            refine lv_bipush (v := nI 24) hx hb dX6_move_65 (by decide) ?_
            refine n_idiv hx hb dX6_move_67 (by omega) (by omega) (by omega) ?_
            refine lv_iload_n hx hb dX6_move_68 rfl (lv_at hl 2 rfl) ?_
            refine lv_iconst (v := nI 2) hx hb dX6_move_69 (by decide) ?_
            refine n_cmp_ne (tgt := 77) hx hb dX6_move_70 (by decide) (by omega) (by omega) (fun c_70 => ?_) (fun c_70 => ?_)
            · refine lv_iload_n hx hb dX6_move_77 rfl (lv_at hl 2 rfl) ?_
              refine lv_iconst (v := nI 3) hx hb dX6_move_78 (by decide) ?_
              refine n_cmp_ne (tgt := 86) hx hb dX6_move_79 (by decide) (by omega) (by omega) (fun c_79 => ?_) (fun c_79 => ?_)
              · refine lv_iconst (v := nI 0) hx hb dX6_move_86 (by decide) ?_
                exact K_87 (nI 0) (by first | (rw [c_70]; decide) | (rw [c_79]; decide) | exact fy_o hw4 c_70 c_79) _ _ _ hw hS (lv_sub hl [1, 2, 3, 4, 0] rfl)
              · refine lv_iconst (v := (-1)) hx hb dX6_move_82 (by decide) ?_
                refine lv_goto (tgt := 87) hx hb dX6_move_83 (by decide) ?_
                exact K_87 (-1) (by first | (rw [c_70]; decide) | (rw [c_79]; decide) | exact fy_o hw4 c_70 c_79) _ _ _ hw hS (lv_sub hl [1, 2, 3, 4, 0] rfl)
            · refine lv_iconst (v := nI 1) hx hb dX6_move_73 (by decide) ?_
              refine lv_goto (tgt := 87) hx hb dX6_move_74 (by decide) ?_
              exact K_87 (nI 1) (by first | (rw [c_70]; decide) | (rw [c_79]; decide) | exact fy_o hw4 c_70 c_79) _ _ _ hw hS (lv_sub hl [1, 2, 3, 4, 0] rfl)
          refine lv_iload_n hx hb dX6_move_39 rfl (lv_at hl 3 rfl) ?_
          refine lv_bipush (v := nI 24) hx hb dX6_move_40 (by decide) ?_
          refine n_irem hx hb dX6_move_42 (by omega) (by omega) (by omega) ?_
          refine lv_iload_n hx hb dX6_move_43 rfl (lv_at hl 1 rfl) ?_
          refine n_if_ne (tgt := 51) hx hb dX6_move_44 (by decide) (by omega) (fun c_44 => ?_) (fun c_44 => ?_)
          · refine lv_iload_n hx hb dX6_move_51 rfl (lv_at hl 1 rfl) ?_
            refine lv_iconst (v := nI 1) hx hb dX6_move_52 (by decide) ?_
            refine n_cmp_ne (tgt := 60) hx hb dX6_move_53 (by decide) (by omega) (by omega) (fun c_53 => ?_) (fun c_53 => ?_)
            · refine lv_iconst (v := nI 0) hx hb dX6_move_60 (by decide) ?_
              exact K_61 (nI 0) (by first | (rw [c_44]; decide) | (rw [c_53]; decide) | exact fx_o hw4 (by omega) c_53) _ _ _ hw hS (lv_sub hl [0, 1, 2, 3] rfl)
            · refine lv_iconst (v := (-1)) hx hb dX6_move_56 (by decide) ?_
              refine lv_goto (tgt := 61) hx hb dX6_move_57 (by decide) ?_
              exact K_61 (-1) (by first | (rw [c_44]; decide) | (rw [c_53]; decide) | exact fx_o hw4 (by omega) c_53) _ _ _ hw hS (lv_sub hl [0, 1, 2, 3] rfl)
          · refine lv_iconst (v := nI 1) hx hb dX6_move_47 (by decide) ?_
            refine lv_goto (tgt := 61) hx hb dX6_move_48 (by decide) ?_
            exact K_61 (nI 1) (by first | (rw [c_44]; decide) | (rw [c_53]; decide) | exact fx_o hw4 (by omega) c_53) _ _ _ hw hS (lv_sub hl [0, 1, 2, 3] rfl)
    exact K_32 (288 - 0 + 1) 0 _ (by first | omega | assumption | rfl) (by rw [cpK_0, ur_self (pushP_k (by decide) (by decide))]) (Nat.lt_succ_self _) _ _ _ hw hS (lv_sub hl [2, 3, 1, 0] rfl)
  · refine lv_bipush (v := (-2)) hx hb dX6_move_12 (by decide) ?_
    refine g_iret hx hb hr hlk hE hw hS dX6_move_14 ?_
    exact actM_no (if_pos (btw_out (n := 3) (by decide) (bP_f hb_6 c_9)))
set_option maxHeartbeats 4000000 in
set_option maxRecDepth 100000 in
/-- ZonedLightModel.kill(IZ)I -/
theorem c_X6_kill (l : Launch) (G : GG) (A : Nat → Prop) (σ : St) (z : Int32) (d : Int32) (m : Nat) (hd : d = 0 ∨ d = 1) (hm : m ≤ 4) (em : σ 16 0 2 = nI m) : MI l yX6_kill wsX6_kill 2 45 G A σ [.ref (G.1 16 0), .int z, .int d] (fun r τ => actM σ τ r (killF (σ 17 0) z d) m) := by
  refine MI.on (by decide) rfl (Nat.le_of_ble_eq_true rfl) (fun pP eE sS mM args below meth cC ls hx hb hml hr hown hlk hts hE hw hS hl => ?_)
  have hl : lv_has ls 5 [(0, .ref (G.1 16 0)), (1, .int z), (2, .int d)] := hl
  refine lv_iload_n hx hb dX6_kill_0 rfl (lv_at hl 1 rfl) ?_
  refine g_Si (n := 1) (As := [.int z]) (rest := []) hx hb hml hown hts hE hw hS gX6_kill_X6_isZone (c_X6_isZone l G A _ z) rfl (by decide +kernel) ⟨Nat.le_of_ble_eq_true rfl, Nat.le_of_ble_eq_true rfl⟩ rfl hl.1 rfl (Nat.le_of_ble_eq_true rfl) ⟨Nat.le_of_ble_eq_true rfl, Nat.le_of_ble_eq_true rfl⟩ dX6_kill_1 (fun x_1 τ_1 H locs hp_1 hw hS => ?_)
  obtain ⟨hb_1, hτ_1⟩ := hp_1
  rw [hτ_1] at hw
  refine lv_if_ne (tgt := 9) hx hb dX6_kill_4 (by decide) (fun c_4 => ?_) (fun c_4 => ?_)
  · obtain ⟨k, hk, eq_⟩ := bP_t hb_1 c_4
    rw [eq_] at hl
    have K_18 : ∀ (to : Int32), (to = d) → ∀ (H : Heap) (locs : List Loc) (ls : Array Slot), Wcel G σ H → va_S A sS.heap H locs → lv_has ls 5 [(0, .ref (G.1 16 0)), (1, .int (nI k)), (2, .int d)] → W pP l eE { frames := 2, cells := 0, slots := 0, locals := 45 } sS mM args below meth cC H locs 0 0 (MQ below (va_Qi (fun r τ => actM σ τ r (killF (σ 17 0) z d) m) (fun τ t => gP G A τ t) A) args sS 0 0 A) (F0 mM 18 ls [.int to]) := by
      intro to hto H locs ls hw hS hl
      refine lv_istore_n (lv' := [(3, .int to), (0, .ref (G.1 16 0)), (1, .int (nI k)), (2, .int d)]) hx hb dX6_kill_18 rfl hl (by decide) rfl (fun ls hl => ?_)
      refine lv_aload_n hx hb dX6_kill_19 rfl (lv_at hl 1 rfl) ?_
      refine gf_X6_all hx hb hE hw (Nat.zero_lt_one) hown (hts (.fieldLink RX6 7 "ZonedLightModel" "all" "[I") (by decide +kernel)) dX6_kill_20 ?_
      refine lv_sipush (v := nI 306) hx hb dX6_kill_23 (by decide) ?_
      refine lv_iload_n hx hb dX6_kill_26 rfl (lv_at hl 2 rfl) ?_
      refine n_iadd hx hb dX6_kill_27 ?_
      refine g_ald hx hb hE hw (n := 335) (Nat.zero_lt_one) rfl (by decide) (by omega) dX6_kill_28 ?_
      refine lv_topi (fun x_28 ex_28 => ?_)
      have e28 : σ 17 0 (306 + k) = x_28 := ex_28.symm
      refine lv_iload_n hx hb dX6_kill_29 rfl (lv_at hl 0 rfl) ?_
      refine lv_icmp_ne (tgt := 36) hx hb dX6_kill_30 (by decide) (fun c_30 => ?_) (fun c_30 => ?_)
      · refine lv_aload_n hx hb dX6_kill_36 rfl (lv_at hl 1 rfl) ?_
        refine g_Vv (n := 0) (As := []) (rest := []) hx hb hml hown hts hE hw hS gX6_kill_X6_acts (c_X6_acts l G A _ _ hm em) rfl (by decide +kernel) ⟨Nat.le_of_ble_eq_true rfl, Nat.le_of_ble_eq_true rfl⟩ (Nat.zero_lt_one) rfl rfl rfl rfl hl.1 rfl (Nat.le_of_ble_eq_true rfl) ⟨Nat.le_of_ble_eq_true rfl, Nat.le_of_ble_eq_true rfl⟩ dX6_kill_37 (fun τ_37 H locs hp_37 hw hS => ?_)
        subst hp_37
        refine lv_aload_n hx hb dX6_kill_40 rfl (lv_at hl 1 rfl) ?_
        refine gf_X6_all hx hb hE hw (Nat.zero_lt_one) hown (hts (.fieldLink RX6 7 "ZonedLightModel" "all" "[I") (by decide +kernel)) dX6_kill_41 ?_
        refine lv_sipush (v := nI 288) hx hb dX6_kill_44 (by decide) ?_
        refine lv_iload_n hx hb dX6_kill_47 rfl (lv_at hl 2 rfl) ?_
        refine n_iadd hx hb dX6_kill_48 ?_
        refine g_ald hx hb hE hw (n := 335) (Nat.zero_lt_one) rfl (by decide) (by omega) dX6_kill_49 ?_
        refine lv_topi (fun x_49 ex_49 => ?_)
        have e49 : x_49 = σ 17 0 (288 + k) := by rw [ex_49, pushP_k (by decide) (by decide)]
        refine lv_istore (lv' := [(4, .int x_49), (3, .int to), (0, .ref (G.1 16 0)), (1, .int (nI k)), (2, .int d)]) hx hb dX6_kill_50 hl (by decide) rfl (fun ls hl => ?_)
        refine lv_aload_n hx hb dX6_kill_52 rfl (lv_at hl 2 rfl) ?_
        refine gf_X6_all hx hb hE hw (Nat.zero_lt_one) hown (hts (.fieldLink RX6 7 "ZonedLightModel" "all" "[I") (by decide +kernel)) dX6_kill_53 ?_
        refine lv_sipush (v := nI 306) hx hb dX6_kill_56 (by decide) ?_
        refine lv_iload_n hx hb dX6_kill_59 rfl (lv_at hl 3 rfl) ?_
        refine n_iadd hx hb dX6_kill_60 ?_
        refine lv_iload_n hx hb dX6_kill_61 rfl (lv_at hl 1 rfl) ?_
        refine g_ast hx hb hE hw hS (n := 335) (Nat.zero_lt_one) (by decide) (fun _ => rfl) rfl (by decide) (by omega) dX6_kill_62 (fun H locs hw hS => ?_)
        refine lv_aload_n hx hb dX6_kill_63 rfl (lv_at hl 2 rfl) ?_
        refine gf_X6_all hx hb hE hw (Nat.zero_lt_one) hown (hts (.fieldLink RX6 7 "ZonedLightModel" "all" "[I") (by decide +kernel)) dX6_kill_64 ?_
        refine lv_sipush (v := nI 288) hx hb dX6_kill_67 (by decide) ?_
        refine lv_iload_n hx hb dX6_kill_70 rfl (lv_at hl 3 rfl) ?_
        refine n_iadd hx hb dX6_kill_71 ?_
        refine lv_iconst (v := nI 0) hx hb dX6_kill_72 (by decide) ?_
        refine g_ast hx hb hE hw hS (n := 335) (Nat.zero_lt_one) (by decide) (fun _ => rfl) rfl (by decide) (by omega) dX6_kill_73 (fun H locs hw hS => ?_)
        refine lv_iload hx hb dX6_kill_74 (lv_at hl 0 rfl) ?_
        refine g_iret hx hb hr hlk hE hw hS dX6_kill_76 ?_
        refine actM_go (by rw [eq_, killF_go hk (by rw [e28, ← hto]; exact c_30), e49]) ?_ (((sameM.rf (P := fun k => k = 17) (N := no1)).w2 (k := 17) (Or.inr rfl) (by decide)).w2 (k := 17) (Or.inr rfl) (by decide))
        rw [us_same, us_same, pushP_k (by decide) (by decide), hto]; rfl
      · refine lv_bipush (v := (-5)) hx hb dX6_kill_33 (by decide) ?_
        refine g_iret hx hb hr hlk hE hw hS dX6_kill_35 ?_
        exact actM_no (by rw [eq_]; exact killF_none hk (e28.trans (c_30.trans hto)))
    refine lv_iload_n hx hb dX6_kill_9 rfl (lv_at hl 2 rfl) ?_
    refine lv_if_eq (tgt := 17) hx hb dX6_kill_10 (by decide) (fun c_10 => ?_) (fun c_10 => ?_)
    · refine lv_iconst (v := nI 0) hx hb dX6_kill_17 (by decide) ?_
      exact K_18 (nI 0) (by first | (rw [c_10]; rfl) | exact (hd.resolve_left c_10).symm) _ _ _ hw hS (lv_sub hl [0, 1, 2] rfl)
    · refine lv_iconst (v := nI 1) hx hb dX6_kill_13 (by decide) ?_
      refine lv_goto (tgt := 18) hx hb dX6_kill_14 (by decide) ?_
      exact K_18 (nI 1) (by first | (rw [c_10]; rfl) | exact (hd.resolve_left c_10).symm) _ _ _ hw hS (lv_sub hl [0, 1, 2] rfl)
  · refine lv_iconst (v := (-1)) hx hb dX6_kill_7 (by decide) ?_
    refine g_iret hx hb hr hlk hE hw hS dX6_kill_8 ?_
    exact actM_no (killF_no (bP_f hb_1 c_4))
set_option maxHeartbeats 4000000 in
set_option maxRecDepth 100000 in
/-- ZonedLightModel.frame()V -/
theorem c_X6_frame (l : Launch) (G : GG) (A : Nat → Prop) (σ : St)  (hok : okA (σ 17 0)) (hwk : wOK (σ 17 0) (σ 20 0)) : MV l yX6_frame wsX6_frame 1 23 G A σ [.ref (G.1 16 0)] (fun τ => τ = ur σ 17 0 (frameF (σ 17 0) (σ 20 0))) := by
  refine MV.on (by decide) rfl (Nat.le_of_ble_eq_true rfl) (fun pP eE sS mM args below meth cC ls hx hb hml hr hown hlk hts hE hw hS hl => ?_)
  have hl : lv_has ls 4 [(0, .ref (G.1 16 0))] := hl
  refine lv_iconst (v := nI 0) hx hb dX6_frame_0 (by decide) ?_
  refine lv_istore_n (lv' := [(1, .int (nI 0)), (0, .ref (G.1 16 0))]) hx hb dX6_frame_1 rfl hl (by decide) rfl (fun ls hl => ?_)
  have K_2 : ∀ (fuel : Nat) (z : Nat) (σ2 : St), (z ≤ 18) → (σ2 = ur σ 17 0 (frK (σ 17 0) (σ 20 0) z)) → 18 - z < fuel → ∀ (H : Heap) (locs : List Loc) (ls : Array Slot), Wcel G σ2 H → va_S A sS.heap H locs → lv_has ls 4 [(0, .ref (G.1 16 0)), (1, .int (nI z))] → W pP l eE { frames := 1, cells := 0, slots := 0, locals := 23 } sS mM args below meth cC H locs 0 0 (MQ below (va_Qv (fun τ => τ = ur σ 17 0 (frameF (σ 17 0) (σ 20 0))) (fun τ t => gP G A τ t) A) args sS 0 0 A) (F0 mM 2 ls []) := by
    intro fuel
    induction fuel with
    | zero =>
      intro z σ2 hz h2 hfu
      exact absurd hfu (Nat.not_lt_zero _)
    | succ fuel K_2 =>
      intro z σ2 hz h2 hfu H locs ls hw hS hl
      subst h2
      refine lv_iload_n hx hb dX6_frame_2 rfl (lv_at hl 1 rfl) ?_
      refine lv_bipush (v := nI 18) hx hb dX6_frame_3 (by decide) ?_
      refine n_cmp_ge (tgt := 111) hx hb dX6_frame_5 (by decide) (by omega) (by omega) (fun c_5 => ?_) (fun c_5 => ?_)
      · refine lv_aload_n hx hb dX6_frame_111 rfl (lv_at hl 0 rfl) ?_
        refine gf_X6_all hx hb hE hw (Nat.zero_lt_one) hown (hts (.fieldLink RX6 7 "ZonedLightModel" "all" "[I") (by decide +kernel)) dX6_frame_112 ?_
        refine lv_sipush (v := nI 332) hx hb dX6_frame_115 (by decide) ?_
        refine lv_dup2_11 hx hb dX6_frame_118 rfl rfl ?_
        refine g_ald hx hb hE hw (n := 335) (Nat.zero_lt_one) rfl (by decide) (by omega) dX6_frame_119 ?_
        refine lv_topi (fun x_119 ex_119 => ?_)
        refine lv_iconst (v := nI 1) hx hb dX6_frame_120 (by decide) ?_
        refine lv_iadd hx hb dX6_frame_121 ?_
        refine lv_topi (fun x_121 ex_121 => ?_)
        refine g_ast hx hb hE hw hS (n := 335) (Nat.zero_lt_one) (by decide) (fun _ => rfl) rfl (by decide) (by omega) dX6_frame_122 (fun H locs hw hS => ?_)
        refine lv_aload_n hx hb dX6_frame_123 rfl (lv_at hl 0 rfl) ?_
        refine gf_X6_all hx hb hE hw (Nat.zero_lt_one) hown (hts (.fieldLink RX6 7 "ZonedLightModel" "all" "[I") (by decide +kernel)) dX6_frame_124 ?_
        refine lv_sipush (v := nI 334) hx hb dX6_frame_127 (by decide) ?_
        refine lv_dup2_11 hx hb dX6_frame_130 rfl rfl ?_
        refine g_ald hx hb hE hw (n := 335) (Nat.zero_lt_one) rfl (by decide) (by omega) dX6_frame_131 ?_
        refine lv_topi (fun x_131 ex_131 => ?_)
        refine lv_aload_n hx hb dX6_frame_132 rfl (lv_at hl 0 rfl) ?_
        refine lv_iconst (v := nI 0) hx hb dX6_frame_133 (by decide) ?_
        refine g_Vi (n := 1) (As := [.int (nI 0)]) (rest := [.int x_131, .int (nI 334), .ref (G.1 17 0)]) hx hb hml hown hts hE hw hS gX6_frame_X6_power (c_X6_power l G A _ ) rfl (by decide +kernel) ⟨Nat.le_of_ble_eq_true rfl, Nat.le_of_ble_eq_true rfl⟩ (Nat.zero_lt_one) rfl rfl rfl rfl hl.1 rfl (Nat.le_of_ble_eq_true rfl) ⟨Nat.le_of_ble_eq_true rfl, Nat.le_of_ble_eq_true rfl⟩ dX6_frame_134 (fun x_134 τ_134 H locs hp_134 hw hS => ?_)
        obtain ⟨ex_134, hτ_134⟩ := hp_134
        rw [hτ_134] at hw
        refine lv_iadd hx hb dX6_frame_137 ?_
        refine lv_topi (fun x_137 ex_137 => ?_)
        refine g_ast hx hb hE hw hS (n := 335) (Nat.zero_lt_one) (by decide) (fun _ => rfl) rfl (by decide) (by omega) dX6_frame_138 (fun H locs hw hS => ?_)
        refine g_vret hx hb hr hlk hE hw hS dX6_frame_139 ?_
        rw [us_ur, us_ur, show z = 18 by omega, frK_end (by rw [ex_121, ex_119, ur_same, show z = 18 by omega]; rfl) (by rw [ex_137, ex_131, us_same, ur_same, ex_134, us_same, ur_same, show z = 18 by omega])]
      · refine lv_aload_n hx hb dX6_frame_8 rfl (lv_at hl 0 rfl) ?_
        refine gf_X6_wanted hx hb hE hw (Nat.zero_lt_one) hown (hts (.fieldLink RX6 19 "ZonedLightModel" "wanted" "[I") (by decide +kernel)) dX6_frame_9 ?_
        refine lv_iload_n hx hb dX6_frame_12 rfl (lv_at hl 1 rfl) ?_
        refine g_ald hx hb hE hw (n := 18) (Nat.zero_lt_one) rfl (by decide) (by omega) dX6_frame_13 ?_
        refine lv_topi (fun x_13 ex_13 => ?_)
        refine lv_aload_n hx hb dX6_frame_14 rfl (lv_at hl 0 rfl) ?_
        refine gf_X6_all hx hb hE hw (Nat.zero_lt_one) hown (hts (.fieldLink RX6 7 "ZonedLightModel" "all" "[I") (by decide +kernel)) dX6_frame_15 ?_
        refine lv_sipush (v := nI 288) hx hb dX6_frame_18 (by decide) ?_
        refine lv_iload_n hx hb dX6_frame_21 rfl (lv_at hl 1 rfl) ?_
        refine n_iadd hx hb dX6_frame_22 ?_
        refine g_ald hx hb hE hw (n := 335) (Nat.zero_lt_one) rfl (by decide) (by omega) dX6_frame_23 ?_
        refine lv_topi (fun x_23 ex_23 => ?_)
        refine lv_isub hx hb dX6_frame_24 ?_
        refine lv_topi (fun x_24 ex_24 => ?_)
        have e331 : ∀ x, x = ur σ 17 0 (frK (σ 17 0) (σ 20 0) z) 17 0 331 → x = σ 17 0 331 := fun x e => by rw [e, ur_same, frK_keep (by omega) (by decide)]
        have eby : x_24 = σ 20 0 z - σ 17 0 (288 + z) := by rw [ex_24, ex_13, ex_23, ur_k (by decide), ur_same, frK_keep (by omega) (by omega)]
        refine lv_istore_n (lv' := [(2, .int x_24), (0, .ref (G.1 16 0)), (1, .int (nI z))]) hx hb dX6_frame_25 rfl hl (by decide) rfl (fun ls hl => ?_)
        have K_75 : ∀ (mv : Int32), (mv = chgF (σ 17 0) (σ 20 0) z) → ∀ (H : Heap) (locs : List Loc) (ls : Array Slot), Wcel G (ur σ 17 0 (frK (σ 17 0) (σ 20 0) z)) H → va_S A sS.heap H locs → lv_has ls 4 [(0, .ref (G.1 16 0)), (1, .int (nI z))] → W pP l eE { frames := 1, cells := 0, slots := 0, locals := 23 } sS mM args below meth cC H locs 0 0 (MQ below (va_Qv (fun τ => τ = ur σ 17 0 (frameF (σ 17 0) (σ 20 0))) (fun τ t => gP G A τ t) A) args sS 0 0 A) (F0 mM 75 ls [.int mv]) := by
          intro mv hmv H locs ls hw hS hl
          refine lv_istore_n (lv' := [(3, .int mv), (0, .ref (G.1 16 0)), (1, .int (nI z))]) hx hb dX6_frame_75 rfl hl (by decide) rfl (fun ls hl => ?_)
          refine lv_aload_n hx hb dX6_frame_76 rfl (lv_at hl 1 rfl) ?_
          refine gf_X6_all hx hb hE hw (Nat.zero_lt_one) hown (hts (.fieldLink RX6 7 "ZonedLightModel" "all" "[I") (by decide +kernel)) dX6_frame_77 ?_
          refine lv_sipush (v := nI 288) hx hb dX6_frame_80 (by decide) ?_
          refine lv_iload_n hx hb dX6_frame_83 rfl (lv_at hl 2 rfl) ?_
          refine n_iadd hx hb dX6_frame_84 ?_
          refine lv_dup2_11 hx hb dX6_frame_85 rfl rfl ?_
          refine g_ald hx hb hE hw (n := 335) (Nat.zero_lt_one) rfl (by decide) (by omega) dX6_frame_86 ?_
          refine lv_topi (fun x_86 ex_86 => ?_)
          refine lv_iload_n hx hb dX6_frame_87 rfl (lv_at hl 0 rfl) ?_
          refine lv_iadd hx hb dX6_frame_88 ?_
          refine lv_topi (fun x_88 ex_88 => ?_)
          refine g_ast hx hb hE hw hS (n := 335) (Nat.zero_lt_one) (by decide) (fun _ => rfl) rfl (by decide) (by omega) dX6_frame_89 (fun H locs hw hS => ?_)
          refine lv_aload_n hx hb dX6_frame_90 rfl (lv_at hl 1 rfl) ?_
          refine gf_X6_all hx hb hE hw (Nat.zero_lt_one) hown (hts (.fieldLink RX6 7 "ZonedLightModel" "all" "[I") (by decide +kernel)) dX6_frame_91 ?_
          refine lv_sipush (v := nI 333) hx hb dX6_frame_94 (by decide) ?_
          refine lv_dup2_11 hx hb dX6_frame_97 rfl rfl ?_
          refine g_ald hx hb hE hw (n := 335) (Nat.zero_lt_one) rfl (by decide) (by omega) dX6_frame_98 ?_
          refine lv_topi (fun x_98 ex_98 => ?_)
          refine lv_iload_n hx hb dX6_frame_99 rfl (lv_at hl 0 rfl) ?_
          refine g_Si (n := 1) (As := [.int mv]) (rest := [.int x_98, .int (nI 333), .ref (G.1 17 0)]) hx hb hml hown hts hE hw hS gX6_frame_X6_off (c_X6_off l G A _ mv) rfl (by decide +kernel) ⟨Nat.le_of_ble_eq_true rfl, Nat.le_of_ble_eq_true rfl⟩ rfl hl.1 rfl (Nat.le_of_ble_eq_true rfl) ⟨Nat.le_of_ble_eq_true rfl, Nat.le_of_ble_eq_true rfl⟩ dX6_frame_100 (fun x_100 τ_100 H locs hp_100 hw hS => ?_)
          obtain ⟨ex_100, hτ_100⟩ := hp_100
          rw [hτ_100] at hw
          refine lv_iadd hx hb dX6_frame_103 ?_
          refine lv_topi (fun x_103 ex_103 => ?_)
          refine g_ast hx hb hE hw hS (n := 335) (Nat.zero_lt_one) (by decide) (fun _ => rfl) rfl (by decide) (by omega) dX6_frame_104 (fun H locs hw hS => ?_)
          refine lv_iinc (v := nI (z + 1)) (lv' := [(1, .int (nI (z + 1))), (3, .int mv), (0, .ref (G.1 16 0))]) hx hb dX6_frame_105 hl (k := 2) rfl (nI_add _ _) (by decide) rfl (fun ls hl => ?_)
          refine lv_goto (tgt := 2) hx hb dX6_frame_108 (by decide) ?_
          exact K_2 (z + 1) _ (by first | omega | assumption | rfl) (by rw [us_ur, us_ur, frK_put c_5 hmv (by rw [ex_88, ex_86, ur_same]) (by rw [ex_103, ex_98, us_same, ur_same, ex_100])]) (by omega) _ _ _ hw hS (lv_sub hl [2, 0] rfl)
        refine lv_iload_n hx hb dX6_frame_26 rfl (lv_at hl 0 rfl) ?_
        refine lv_aload_n hx hb dX6_frame_27 rfl (lv_at hl 1 rfl) ?_
        refine gf_X6_all hx hb hE hw (Nat.zero_lt_one) hown (hts (.fieldLink RX6 7 "ZonedLightModel" "all" "[I") (by decide +kernel)) dX6_frame_28 ?_
        refine lv_sipush (v := nI 331) hx hb dX6_frame_31 (by decide) ?_
        refine g_ald hx hb hE hw (n := 335) (Nat.zero_lt_one) rfl (by decide) (by omega) dX6_frame_34 ?_
        refine lv_topi (fun x_34 ex_34 => ?_)
        refine lv_icmp_le (tgt := 49) hx hb dX6_frame_35 (by decide) (fun c_35 => ?_) (fun c_35 => ?_)
        · refine lv_iload_n hx hb dX6_frame_49 rfl (lv_at hl 0 rfl) ?_
          refine lv_aload_n hx hb dX6_frame_50 rfl (lv_at hl 1 rfl) ?_
          refine gf_X6_all hx hb hE hw (Nat.zero_lt_one) hown (hts (.fieldLink RX6 7 "ZonedLightModel" "all" "[I") (by decide +kernel)) dX6_frame_51 ?_
          refine lv_sipush (v := nI 331) hx hb dX6_frame_54 (by decide) ?_
          refine g_ald hx hb hE hw (n := 335) (Nat.zero_lt_one) rfl (by decide) (by omega) dX6_frame_57 ?_
          refine lv_topi (fun x_57 ex_57 => ?_)
          refine lv_ineg hx hb dX6_frame_58 ?_
          refine lv_topi (fun x_58 ex_58 => ?_)
          refine lv_icmp_ge (tgt := 74) hx hb dX6_frame_59 (by decide) (fun c_59 => ?_) (fun c_59 => ?_)
          · refine lv_iload_n hx hb dX6_frame_74 rfl (lv_at hl 0 rfl) ?_
            exact K_75 x_24 (by rw [← mov_chg hok hwk c_5, ← eby, movV]; first | (have a1 := e331 _ ex_34; have a2 := e331 _ ex_45; rw [← a1, if_pos (Int32.not_le.mp c_35), a1, a2]; done) | (have a1 := e331 _ ex_34; have a2 := e331 _ ex_57; have a3 := e331 _ ex_69; rw [if_neg (by rw [← a1]; exact Int32.not_lt.mpr c_35), if_pos (by rw [← a2, ← ex_58]; exact Int32.not_le.mp c_59), ex_70, a3]; done) | (have a1 := e331 _ ex_34; have a2 := e331 _ ex_57; rw [if_neg (by rw [← a1]; exact Int32.not_lt.mpr c_35), if_neg (by rw [← a2, ← ex_58]; exact Int32.not_lt.mpr c_59)]; done)) _ _ _ hw hS (lv_sub hl [1, 2] rfl)
          · refine lv_aload_n hx hb dX6_frame_62 rfl (lv_at hl 1 rfl) ?_
            refine gf_X6_all hx hb hE hw (Nat.zero_lt_one) hown (hts (.fieldLink RX6 7 "ZonedLightModel" "all" "[I") (by decide +kernel)) dX6_frame_63 ?_
            refine lv_sipush (v := nI 331) hx hb dX6_frame_66 (by decide) ?_
            refine g_ald hx hb hE hw (n := 335) (Nat.zero_lt_one) rfl (by decide) (by omega) dX6_frame_69 ?_
            refine lv_topi (fun x_69 ex_69 => ?_)
            refine lv_ineg hx hb dX6_frame_70 ?_
            refine lv_topi (fun x_70 ex_70 => ?_)
            refine lv_goto (tgt := 75) hx hb dX6_frame_71 (by decide) ?_
            exact K_75 x_70 (by rw [← mov_chg hok hwk c_5, ← eby, movV]; first | (have a1 := e331 _ ex_34; have a2 := e331 _ ex_45; rw [← a1, if_pos (Int32.not_le.mp c_35), a1, a2]; done) | (have a1 := e331 _ ex_34; have a2 := e331 _ ex_57; have a3 := e331 _ ex_69; rw [if_neg (by rw [← a1]; exact Int32.not_lt.mpr c_35), if_pos (by rw [← a2, ← ex_58]; exact Int32.not_le.mp c_59), ex_70, a3]; done) | (have a1 := e331 _ ex_34; have a2 := e331 _ ex_57; rw [if_neg (by rw [← a1]; exact Int32.not_lt.mpr c_35), if_neg (by rw [← a2, ← ex_58]; exact Int32.not_lt.mpr c_59)]; done)) _ _ _ hw hS (lv_sub hl [1, 2] rfl)
        · refine lv_aload_n hx hb dX6_frame_38 rfl (lv_at hl 1 rfl) ?_
          refine gf_X6_all hx hb hE hw (Nat.zero_lt_one) hown (hts (.fieldLink RX6 7 "ZonedLightModel" "all" "[I") (by decide +kernel)) dX6_frame_39 ?_
          refine lv_sipush (v := nI 331) hx hb dX6_frame_42 (by decide) ?_
          refine g_ald hx hb hE hw (n := 335) (Nat.zero_lt_one) rfl (by decide) (by omega) dX6_frame_45 ?_
          refine lv_topi (fun x_45 ex_45 => ?_)
          refine lv_goto (tgt := 75) hx hb dX6_frame_46 (by decide) ?_
          exact K_75 x_45 (by rw [← mov_chg hok hwk c_5, ← eby, movV]; first | (have a1 := e331 _ ex_34; have a2 := e331 _ ex_45; rw [← a1, if_pos (Int32.not_le.mp c_35), a1, a2]; done) | (have a1 := e331 _ ex_34; have a2 := e331 _ ex_57; have a3 := e331 _ ex_69; rw [if_neg (by rw [← a1]; exact Int32.not_lt.mpr c_35), if_pos (by rw [← a2, ← ex_58]; exact Int32.not_le.mp c_59), ex_70, a3]; done) | (have a1 := e331 _ ex_34; have a2 := e331 _ ex_57; rw [if_neg (by rw [← a1]; exact Int32.not_lt.mpr c_35), if_neg (by rw [← a2, ← ex_58]; exact Int32.not_lt.mpr c_59)]; done)) _ _ _ hw hS (lv_sub hl [1, 2] rfl)
  exact K_2 (18 - 0 + 1) 0 _ (by first | omega | assumption | rfl) (by rw [frK_0, ur_self rfl]) (Nat.lt_succ_self _) _ _ _ hw hS (lv_sub hl [1, 0] rfl)
set_option maxHeartbeats 4000000 in
set_option maxRecDepth 100000 in
/-- ZonedLightModel.pass(I)I -/
theorem c_X6_pass (l : Launch) (G : GG) (A : Nat → Prop) (σ : St) (f : Int32) (m : Nat) (hok : okA (σ 17 0)) (hm : m ≤ 4) (em : σ 16 0 2 = nI m) : MI l yX6_pass wsX6_pass 6 135 G A σ [.ref (G.1 16 0), .int f] (fun r τ => actM σ τ r (pasF (σ 17 0) f) m) := by
  refine MI.on (by decide) rfl (Nat.le_of_ble_eq_true rfl) (fun pP eE sS mM args below meth cC ls hx hb hml hr hown hlk hts hE hw hS hl => ?_)
  have hl : lv_has ls 3 [(0, .ref (G.1 16 0)), (1, .int f)] := hl
  refine lv_iload_n hx hb dX6_pass_0 rfl (lv_at hl 1 rfl) ?_
  refine lv_i2l hx hb dX6_pass_1 rfl ?_
  refine lv_lconst (v := (nI 1).toInt64) hx hb dX6_pass_2 (by decide +kernel) ?_
  refine lv_ldc2 (v := (nI 99).toInt64) hx hb hown (hts (.constantLong RX6 125 (nI 99).toInt64) (by decide +kernel)) dX6_pass_3 ?_
  refine g_Si (n := 3) (As := [.long (f.toInt64), .long ((nI 1).toInt64), .long ((nI 99).toInt64)]) (rest := []) hx hb hml hown hts hE hw hS gX6_pass_X6_in (c_X6_in l G A _ f (nI 1) (nI 99)) rfl (by decide +kernel) ⟨Nat.le_of_ble_eq_true rfl, Nat.le_of_ble_eq_true rfl⟩ rfl hl.1 rfl (Nat.le_of_ble_eq_true rfl) ⟨Nat.le_of_ble_eq_true rfl, Nat.le_of_ble_eq_true rfl⟩ dX6_pass_6 (fun x_6 τ_6 H locs hp_6 hw hS => ?_)
  obtain ⟨hb_6, hτ_6⟩ := hp_6
  rw [hτ_6] at hw
  refine lv_if_ne (tgt := 15) hx hb dX6_pass_9 (by decide) (fun c_9 => ?_) (fun c_9 => ?_)
  · have hbt := bP_t hb_6 c_9
    obtain ⟨F, hF1, hF, ef⟩ := fr_nat hbt.1 (Int32.not_lt.mp hbt.2)
    rw [ef] at hl
    refine lv_aload_n hx hb dX6_pass_15 rfl (lv_at hl 0 rfl) ?_
    refine g_Vv (n := 0) (As := []) (rest := []) hx hb hml hown hts hE hw hS gX6_pass_X6_acts (c_X6_acts l G A _ _ hm em) rfl (by decide +kernel) ⟨Nat.le_of_ble_eq_true rfl, Nat.le_of_ble_eq_true rfl⟩ (Nat.zero_lt_one) rfl rfl rfl rfl hl.1 rfl (Nat.le_of_ble_eq_true rfl) ⟨Nat.le_of_ble_eq_true rfl, Nat.le_of_ble_eq_true rfl⟩ dX6_pass_16 (fun τ_16 H locs hp_16 hw hS => ?_)
    subst hp_16
    refine lv_aload_n hx hb dX6_pass_19 rfl (lv_at hl 0 rfl) ?_
    refine lv_aload_n hx hb dX6_pass_20 rfl (lv_at hl 0 rfl) ?_
    refine gf_X6_all hx hb hE hw (Nat.zero_lt_one) hown (hts (.fieldLink RX6 7 "ZonedLightModel" "all" "[I") (by decide +kernel)) dX6_pass_21 ?_
    refine lv_sipush (v := nI 327) hx hb dX6_pass_24 (by decide) ?_
    refine g_ald hx hb hE hw (n := 335) (Nat.zero_lt_one) rfl (by decide) (by omega) dX6_pass_27 ?_
    refine lv_topi (fun x_27 ex_27 => ?_)
    have e27 : x_27 = σ 17 0 327 := by rw [ex_27, pushP_k (by decide) (by decide)]
    refine g_Vv (n := 1) (As := [.int x_27]) (rest := []) hx hb hml hown hts hE hw hS gX6_pass_X6_wants (c_X6_wants l G A _ x_27 (by rw [pushP_k (by decide) (by decide)]; exact hok.1)) rfl (by decide +kernel) ⟨Nat.le_of_ble_eq_true rfl, Nat.le_of_ble_eq_true rfl⟩ (Nat.zero_lt_one) rfl rfl rfl rfl hl.1 rfl (Nat.le_of_ble_eq_true rfl) ⟨Nat.le_of_ble_eq_true rfl, Nat.le_of_ble_eq_true rfl⟩ dX6_pass_28 (fun τ_28 H locs hp_28 hw hS => ?_)
    have hm28 : τ_28 = ur (pushP σ m) 20 0 (wantF (σ 17 0) (σ 17 0 327)) := by rw [hp_28, e27, pushP_k (by decide) (by decide)]
    refine lv_iconst (v := nI 0) hx hb dX6_pass_31 (by decide) ?_
    refine lv_istore_n (lv' := [(2, .int (nI 0)), (0, .ref (G.1 16 0)), (1, .int (nI F))]) hx hb dX6_pass_32 rfl hl (by decide) rfl (fun ls hl => ?_)
    have K_33 : ∀ (fuel : Nat) (k : Nat) (σ2 : St), (k ≤ F) → (σ2 20 0 = wantF (σ 17 0) (σ 17 0 327)) → (σ2 17 0 = framesK (σ 17 0) (wantF (σ 17 0) (σ 17 0 327)) k) → (sameM (pushP σ m) σ2 (fun k => k = 17) no1) → F - k < fuel → ∀ (H : Heap) (locs : List Loc) (ls : Array Slot), Wcel G σ2 H → va_S A sS.heap H locs → lv_has ls 3 [(0, .ref (G.1 16 0)), (1, .int (nI F)), (2, .int (nI k))] → W pP l eE { frames := 6, cells := 0, slots := 0, locals := 135 } sS mM args below meth cC H locs 0 0 (MQ below (va_Qi (fun r τ => actM σ τ r (pasF (σ 17 0) f) m) (fun τ t => gP G A τ t) A) args sS 0 0 A) (F0 mM 33 ls []) := by
      intro fuel
      induction fuel with
      | zero =>
        intro k σ2 hk h2 h3 h4 hfu
        exact absurd hfu (Nat.not_lt_zero _)
      | succ fuel K_33 =>
        intro k σ2 hk h2 h3 h4 hfu H locs ls hw hS hl
        refine lv_iload_n hx hb dX6_pass_33 rfl (lv_at hl 2 rfl) ?_
        refine lv_iload_n hx hb dX6_pass_34 rfl (lv_at hl 1 rfl) ?_
        refine n_cmp_ge (tgt := 48) hx hb dX6_pass_35 (by decide) (by omega) (by omega) (fun c_35 => ?_) (fun c_35 => ?_)
        · refine lv_aload_n hx hb dX6_pass_48 rfl (lv_at hl 0 rfl) ?_
          refine lv_iconst (v := nI 0) hx hb dX6_pass_49 (by decide) ?_
          refine g_Vi (n := 1) (As := [.int (nI 0)]) (rest := []) hx hb hml hown hts hE hw hS gX6_pass_X6_power (c_X6_power l G A _ ) rfl (by decide +kernel) ⟨Nat.le_of_ble_eq_true rfl, Nat.le_of_ble_eq_true rfl⟩ (Nat.zero_lt_one) rfl rfl rfl rfl hl.1 rfl (Nat.le_of_ble_eq_true rfl) ⟨Nat.le_of_ble_eq_true rfl, Nat.le_of_ble_eq_true rfl⟩ dX6_pass_50 (fun x_50 τ_50 H locs hp_50 hw hS => ?_)
          obtain ⟨ex_50, hτ_50⟩ := hp_50
          rw [hτ_50] at hw
          refine g_iret hx hb hr hlk hE hw hS dX6_pass_53 ?_
          obtain rfl : k = F := by omega
          exact actM_go (by rw [pasF, if_neg (fun g => g.elim hbt.1 hbt.2), ef, nI_clamp (by omega), ex_50, h3]) h3 h4
        · refine lv_aload_n hx hb dX6_pass_38 rfl (lv_at hl 0 rfl) ?_
          refine g_Vv (n := 0) (As := []) (rest := []) hx hb hml hown hts hE hw hS gX6_pass_X6_frame (c_X6_frame l G A _ (by rw [h3]; exact (ok_frames hok (wOK_want hok.1 _) k).1) (by rw [h3, h2]; exact (ok_frames hok (wOK_want hok.1 _) k).2)) rfl (by decide +kernel) ⟨Nat.le_of_ble_eq_true rfl, Nat.le_of_ble_eq_true rfl⟩ (Nat.zero_lt_one) rfl rfl rfl rfl hl.1 rfl (Nat.le_of_ble_eq_true rfl) ⟨Nat.le_of_ble_eq_true rfl, Nat.le_of_ble_eq_true rfl⟩ dX6_pass_39 (fun τ_39 H locs hp_39 hw hS => ?_)
          refine lv_iinc (v := nI (k + 1)) (lv' := [(2, .int (nI (k + 1))), (0, .ref (G.1 16 0)), (1, .int (nI F))]) hx hb dX6_pass_42 hl (k := 2) rfl (nI_add _ _) (by decide) rfl (fun ls hl => ?_)
          refine lv_goto (tgt := 33) hx hb dX6_pass_45 (by decide) ?_
          exact K_33 (k + 1) _ (by first | omega | assumption | rfl) (by rw [hp_39, ur_k (by decide), h2]) (by rw [hp_39, ur_same, h2, h3]; rfl) (by rw [hp_39]; exact h4.w1 (Or.inr rfl) (by decide)) (by omega) _ _ _ hw hS (lv_sub hl [1, 2, 0] rfl)
    exact K_33 (F - 0 + 1) 0 _ (by first | omega | assumption | rfl) (by rw [hm28, ur_same]) (by rw [hm28, ur_k (by decide), pushP_k (by decide) (by decide)]; rfl) (by rw [hm28]; exact sameM.rf.w1 (Or.inl (Or.inl rfl)) (by decide)) (Nat.lt_succ_self _) _ _ _ hw hS (lv_sub hl [1, 2, 0] rfl)
  · refine lv_bipush (v := (-2)) hx hb dX6_pass_12 (by decide) ?_
    refine g_iret hx hb hr hlk hE hw hS dX6_pass_14 ?_
    exact actM_no (if_pos (Decidable.byContradiction fun g => bP_f hb_6 c_9 ⟨fun z => g (Or.inl z), fun z => g (Or.inr z)⟩))
set_option maxHeartbeats 4000000 in
set_option maxRecDepth 100000 in
/-- ZonedLightModel.isSetting(II)Z -/
theorem c_X6_isSetting (l : Launch) (G : GG) (A : Nat → Prop) (σ : St) (w : Int32) (v : Int32)  : MI l yX6_isSetting wsX6_isSetting 1 25 G A σ [.int w, .int v] (fun r τ => bP r (setOK w v) ∧ τ = σ) := by
  refine MI.on (by decide) rfl (Nat.le_of_ble_eq_true rfl) (fun pP eE sS mM args below meth cC ls hx hb hml hr hown hlk hts hE hw hS hl => ?_)
  have hl : lv_has ls 2 [(0, .int w), (1, .int v)] := hl
  refine lv_iload_n hx hb dX6_isSetting_0 rfl (lv_at hl 0 rfl) ?_
  by_cases k_1_0 : w = 0
  · refine lv_tableIn (tgt := 48) hx hb dX6_isSetting_1 (by rw [k_1_0]; decide) (by rw [k_1_0]; decide) (off := 47) (by rw [k_1_0]; decide +kernel) (by decide) ?_
    refine lv_iload_n hx hb dX6_isSetting_48 rfl (lv_at hl 1 rfl) ?_
    refine lv_i2l hx hb dX6_isSetting_49 rfl ?_
    refine lv_ldc2 (v := (nI 100).toInt64) hx hb hown (hts (.constantLong RX6 130 (nI 100).toInt64) (by decide +kernel)) dX6_isSetting_50 ?_
    refine lv_ldc2 (v := (nI 256).toInt64) hx hb hown (hts (.constantLong RX6 132 (nI 256).toInt64) (by decide +kernel)) dX6_isSetting_53 ?_
    refine g_Si (n := 3) (As := [.long (v.toInt64), .long ((nI 100).toInt64), .long ((nI 256).toInt64)]) (rest := []) hx hb hml hown hts hE hw hS gX6_isSetting_X6_in (c_X6_in l G A _ v (nI 100) (nI 256)) rfl (by decide +kernel) ⟨Nat.le_of_ble_eq_true rfl, Nat.le_of_ble_eq_true rfl⟩ rfl hl.1 rfl (Nat.le_of_ble_eq_true rfl) ⟨Nat.le_of_ble_eq_true rfl, Nat.le_of_ble_eq_true rfl⟩ dX6_isSetting_56 (fun x_56 τ_56 H locs hp_56 hw hS => ?_)
    obtain ⟨hb_56, hτ_56⟩ := hp_56
    rw [hτ_56] at hw
    refine g_zret hx hb hr hlk hE hw hS (bP_n hb_56) dX6_isSetting_59 ?_
    exact ⟨by rw [k_1_0]; exact setOK_at (k := 0) (by decide) (by decide) hb_56, rfl⟩
  by_cases k_1_1 : w = 1
  · refine lv_tableIn (tgt := 60) hx hb dX6_isSetting_1 (by rw [k_1_1]; decide) (by rw [k_1_1]; decide) (off := 59) (by rw [k_1_1]; decide +kernel) (by decide) ?_
    refine lv_iload_n hx hb dX6_isSetting_60 rfl (lv_at hl 1 rfl) ?_
    refine lv_i2l hx hb dX6_isSetting_61 rfl ?_
    refine lv_lconst (v := (nI 0).toInt64) hx hb dX6_isSetting_62 (by decide +kernel) ?_
    refine lv_ldc2 (v := (nI 30).toInt64) hx hb hown (hts (.constantLong RX6 134 (nI 30).toInt64) (by decide +kernel)) dX6_isSetting_63 ?_
    refine g_Si (n := 3) (As := [.long (v.toInt64), .long ((nI 0).toInt64), .long ((nI 30).toInt64)]) (rest := []) hx hb hml hown hts hE hw hS gX6_isSetting_X6_in (c_X6_in l G A _ v (nI 0) (nI 30)) rfl (by decide +kernel) ⟨Nat.le_of_ble_eq_true rfl, Nat.le_of_ble_eq_true rfl⟩ rfl hl.1 rfl (Nat.le_of_ble_eq_true rfl) ⟨Nat.le_of_ble_eq_true rfl, Nat.le_of_ble_eq_true rfl⟩ dX6_isSetting_66 (fun x_66 τ_66 H locs hp_66 hw hS => ?_)
    obtain ⟨hb_66, hτ_66⟩ := hp_66
    rw [hτ_66] at hw
    refine g_zret hx hb hr hlk hE hw hS (bP_n hb_66) dX6_isSetting_69 ?_
    exact ⟨by rw [k_1_1]; exact setOK_at (k := 1) (by decide) (by decide) hb_66, rfl⟩
  by_cases k_1_2 : w = 2
  · refine lv_tableIn (tgt := 70) hx hb dX6_isSetting_1 (by rw [k_1_2]; decide) (by rw [k_1_2]; decide) (off := 69) (by rw [k_1_2]; decide +kernel) (by decide) ?_
    refine lv_iload_n hx hb dX6_isSetting_70 rfl (lv_at hl 1 rfl) ?_
    refine lv_i2l hx hb dX6_isSetting_71 rfl ?_
    refine lv_lconst (v := (nI 0).toInt64) hx hb dX6_isSetting_72 (by decide +kernel) ?_
    refine lv_ldc2 (v := (nI 9).toInt64) hx hb hown (hts (.constantLong RX6 136 (nI 9).toInt64) (by decide +kernel)) dX6_isSetting_73 ?_
    refine g_Si (n := 3) (As := [.long (v.toInt64), .long ((nI 0).toInt64), .long ((nI 9).toInt64)]) (rest := []) hx hb hml hown hts hE hw hS gX6_isSetting_X6_in (c_X6_in l G A _ v (nI 0) (nI 9)) rfl (by decide +kernel) ⟨Nat.le_of_ble_eq_true rfl, Nat.le_of_ble_eq_true rfl⟩ rfl hl.1 rfl (Nat.le_of_ble_eq_true rfl) ⟨Nat.le_of_ble_eq_true rfl, Nat.le_of_ble_eq_true rfl⟩ dX6_isSetting_76 (fun x_76 τ_76 H locs hp_76 hw hS => ?_)
    obtain ⟨hb_76, hτ_76⟩ := hp_76
    rw [hτ_76] at hw
    refine g_zret hx hb hr hlk hE hw hS (bP_n hb_76) dX6_isSetting_79 ?_
    first | exact ⟨by rw [k_1_2]; exact setOK_at (k := 2) (by decide) (by decide) hb_76, rfl⟩ | exact ⟨by rw [k_1_4]; exact setOK_at (k := 4) (by decide) (by decide) hb_76, rfl⟩
  by_cases k_1_3 : w = 3
  · refine lv_tableIn (tgt := 80) hx hb dX6_isSetting_1 (by rw [k_1_3]; decide) (by rw [k_1_3]; decide) (off := 79) (by rw [k_1_3]; decide +kernel) (by decide) ?_
    refine lv_iload_n hx hb dX6_isSetting_80 rfl (lv_at hl 1 rfl) ?_
    refine lv_i2l hx hb dX6_isSetting_81 rfl ?_
    refine lv_lconst (v := (nI 0).toInt64) hx hb dX6_isSetting_82 (by decide +kernel) ?_
    refine lv_ldc2 (v := (nI 2).toInt64) hx hb hown (hts (.constantLong RX6 138 (nI 2).toInt64) (by decide +kernel)) dX6_isSetting_83 ?_
    refine g_Si (n := 3) (As := [.long (v.toInt64), .long ((nI 0).toInt64), .long ((nI 2).toInt64)]) (rest := []) hx hb hml hown hts hE hw hS gX6_isSetting_X6_in (c_X6_in l G A _ v (nI 0) (nI 2)) rfl (by decide +kernel) ⟨Nat.le_of_ble_eq_true rfl, Nat.le_of_ble_eq_true rfl⟩ rfl hl.1 rfl (Nat.le_of_ble_eq_true rfl) ⟨Nat.le_of_ble_eq_true rfl, Nat.le_of_ble_eq_true rfl⟩ dX6_isSetting_86 (fun x_86 τ_86 H locs hp_86 hw hS => ?_)
    obtain ⟨hb_86, hτ_86⟩ := hp_86
    rw [hτ_86] at hw
    refine g_zret hx hb hr hlk hE hw hS (bP_n hb_86) dX6_isSetting_89 ?_
    exact ⟨by rw [k_1_3]; exact setOK_at (k := 3) (by decide) (by decide) hb_86, rfl⟩
  by_cases k_1_4 : w = 4
  · refine lv_tableIn (tgt := 70) hx hb dX6_isSetting_1 (by rw [k_1_4]; decide) (by rw [k_1_4]; decide) (off := 69) (by rw [k_1_4]; decide +kernel) (by decide) ?_
    refine lv_iload_n hx hb dX6_isSetting_70 rfl (lv_at hl 1 rfl) ?_
    refine lv_i2l hx hb dX6_isSetting_71 rfl ?_
    refine lv_lconst (v := (nI 0).toInt64) hx hb dX6_isSetting_72 (by decide +kernel) ?_
    refine lv_ldc2 (v := (nI 9).toInt64) hx hb hown (hts (.constantLong RX6 136 (nI 9).toInt64) (by decide +kernel)) dX6_isSetting_73 ?_
    refine g_Si (n := 3) (As := [.long (v.toInt64), .long ((nI 0).toInt64), .long ((nI 9).toInt64)]) (rest := []) hx hb hml hown hts hE hw hS gX6_isSetting_X6_in (c_X6_in l G A _ v (nI 0) (nI 9)) rfl (by decide +kernel) ⟨Nat.le_of_ble_eq_true rfl, Nat.le_of_ble_eq_true rfl⟩ rfl hl.1 rfl (Nat.le_of_ble_eq_true rfl) ⟨Nat.le_of_ble_eq_true rfl, Nat.le_of_ble_eq_true rfl⟩ dX6_isSetting_76 (fun x_76 τ_76 H locs hp_76 hw hS => ?_)
    obtain ⟨hb_76, hτ_76⟩ := hp_76
    rw [hτ_76] at hw
    refine g_zret hx hb hr hlk hE hw hS (bP_n hb_76) dX6_isSetting_79 ?_
    first | exact ⟨by rw [k_1_2]; exact setOK_at (k := 2) (by decide) (by decide) hb_76, rfl⟩ | exact ⟨by rw [k_1_4]; exact setOK_at (k := 4) (by decide) (by decide) hb_76, rfl⟩
  by_cases k_1_5 : w = 5
  · refine lv_tableIn (tgt := 90) hx hb dX6_isSetting_1 (by rw [k_1_5]; decide) (by rw [k_1_5]; decide) (off := 89) (by rw [k_1_5]; decide +kernel) (by decide) ?_
    refine lv_iload_n hx hb dX6_isSetting_90 rfl (lv_at hl 1 rfl) ?_
    refine lv_i2l hx hb dX6_isSetting_91 rfl ?_
    refine lv_lconst (v := (nI 0).toInt64) hx hb dX6_isSetting_92 (by decide +kernel) ?_
    refine lv_ldc2 (v := (nI 50).toInt64) hx hb hown (hts (.constantLong RX6 140 (nI 50).toInt64) (by decide +kernel)) dX6_isSetting_93 ?_
    refine g_Si (n := 3) (As := [.long (v.toInt64), .long ((nI 0).toInt64), .long ((nI 50).toInt64)]) (rest := []) hx hb hml hown hts hE hw hS gX6_isSetting_X6_in (c_X6_in l G A _ v (nI 0) (nI 50)) rfl (by decide +kernel) ⟨Nat.le_of_ble_eq_true rfl, Nat.le_of_ble_eq_true rfl⟩ rfl hl.1 rfl (Nat.le_of_ble_eq_true rfl) ⟨Nat.le_of_ble_eq_true rfl, Nat.le_of_ble_eq_true rfl⟩ dX6_isSetting_96 (fun x_96 τ_96 H locs hp_96 hw hS => ?_)
    obtain ⟨hb_96, hτ_96⟩ := hp_96
    rw [hτ_96] at hw
    refine g_zret hx hb hr hlk hE hw hS (bP_n hb_96) dX6_isSetting_99 ?_
    exact ⟨by rw [k_1_5]; exact setOK_at (k := 5) (by decide) (by decide) hb_96, rfl⟩
  by_cases k_1_6 : w = 6
  · refine lv_tableIn (tgt := 100) hx hb dX6_isSetting_1 (by rw [k_1_6]; decide) (by rw [k_1_6]; decide) (off := 99) (by rw [k_1_6]; decide +kernel) (by decide) ?_
    refine lv_iload_n hx hb dX6_isSetting_100 rfl (lv_at hl 1 rfl) ?_
    refine lv_i2l hx hb dX6_isSetting_101 rfl ?_
    refine lv_lconst (v := (nI 0).toInt64) hx hb dX6_isSetting_102 (by decide +kernel) ?_
    refine lv_ldc2 (v := (nI 20).toInt64) hx hb hown (hts (.constantLong RX6 142 (nI 20).toInt64) (by decide +kernel)) dX6_isSetting_103 ?_
    refine g_Si (n := 3) (As := [.long (v.toInt64), .long ((nI 0).toInt64), .long ((nI 20).toInt64)]) (rest := []) hx hb hml hown hts hE hw hS gX6_isSetting_X6_in (c_X6_in l G A _ v (nI 0) (nI 20)) rfl (by decide +kernel) ⟨Nat.le_of_ble_eq_true rfl, Nat.le_of_ble_eq_true rfl⟩ rfl hl.1 rfl (Nat.le_of_ble_eq_true rfl) ⟨Nat.le_of_ble_eq_true rfl, Nat.le_of_ble_eq_true rfl⟩ dX6_isSetting_106 (fun x_106 τ_106 H locs hp_106 hw hS => ?_)
    obtain ⟨hb_106, hτ_106⟩ := hp_106
    rw [hτ_106] at hw
    refine g_zret hx hb hr hlk hE hw hS (bP_n hb_106) dX6_isSetting_109 ?_
    exact ⟨by rw [k_1_6]; exact setOK_at (k := 6) (by decide) (by decide) hb_106, rfl⟩
  by_cases k_1_7 : w = 7
  · refine lv_tableIn (tgt := 110) hx hb dX6_isSetting_1 (by rw [k_1_7]; decide) (by rw [k_1_7]; decide) (off := 109) (by rw [k_1_7]; decide +kernel) (by decide) ?_
    refine lv_iload_n hx hb dX6_isSetting_110 rfl (lv_at hl 1 rfl) ?_
    refine lv_i2l hx hb dX6_isSetting_111 rfl ?_
    refine lv_lconst (v := (nI 1).toInt64) hx hb dX6_isSetting_112 (by decide +kernel) ?_
    refine lv_ldc2 (v := (nI 255).toInt64) hx hb hown (hts (.constantLong RX6 107 (nI 255).toInt64) (by decide +kernel)) dX6_isSetting_113 ?_
    refine g_Si (n := 3) (As := [.long (v.toInt64), .long ((nI 1).toInt64), .long ((nI 255).toInt64)]) (rest := []) hx hb hml hown hts hE hw hS gX6_isSetting_X6_in (c_X6_in l G A _ v (nI 1) (nI 255)) rfl (by decide +kernel) ⟨Nat.le_of_ble_eq_true rfl, Nat.le_of_ble_eq_true rfl⟩ rfl hl.1 rfl (Nat.le_of_ble_eq_true rfl) ⟨Nat.le_of_ble_eq_true rfl, Nat.le_of_ble_eq_true rfl⟩ dX6_isSetting_116 (fun x_116 τ_116 H locs hp_116 hw hS => ?_)
    obtain ⟨hb_116, hτ_116⟩ := hp_116
    rw [hτ_116] at hw
    refine g_zret hx hb hr hlk hE hw hS (bP_n hb_116) dX6_isSetting_119 ?_
    exact ⟨by rw [k_1_7]; exact setOK_at (k := 7) (by decide) (by decide) hb_116, rfl⟩
  refine lv_tableOut (tgt := 120) hx hb dX6_isSetting_1 (by have t0 := tw_ne (k := 0) (0) (by decide) k_1_0; have t1 := tw_ne (k := 1) (1) (by decide) k_1_1; have t2 := tw_ne (k := 2) (2) (by decide) k_1_2; have t3 := tw_ne (k := 3) (3) (by decide) k_1_3; have t4 := tw_ne (k := 4) (4) (by decide) k_1_4; have t5 := tw_ne (k := 5) (5) (by decide) k_1_5; have t6 := tw_ne (k := 6) (6) (by decide) k_1_6; have t7 := tw_ne (k := 7) (7) (by decide) k_1_7; omega) (by decide) ?_
  refine lv_iconst (v := nI 0) hx hb dX6_isSetting_120 (by decide) ?_
  refine g_zret hx hb hr hlk hE hw hS rfl dX6_isSetting_121 ?_
  exact ⟨Or.inr ⟨rfl, setOK_out (by have t0 := tw_ne (k := 0) 0 (by decide) k_1_0; have t1 := tw_ne (k := 1) 1 (by decide) k_1_1; have t2 := tw_ne (k := 2) 2 (by decide) k_1_2; have t3 := tw_ne (k := 3) 3 (by decide) k_1_3; have t4 := tw_ne (k := 4) 4 (by decide) k_1_4; have t5 := tw_ne (k := 5) 5 (by decide) k_1_5; have t6 := tw_ne (k := 6) 6 (by decide) k_1_6; have t7 := tw_ne (k := 7) 7 (by decide) k_1_7; omega)⟩, rfl⟩
set_option maxHeartbeats 4000000 in
set_option maxRecDepth 100000 in
/-- ZonedLightModel.set(II)I -/
theorem c_X6_set (l : Launch) (G : GG) (A : Nat → Prop) (σ : St) (w : Int32) (v : Int32) (m : Nat) (hm : m ≤ 4) (em : σ 16 0 2 = nI m) : MI l yX6_set wsX6_set 2 46 G A σ [.ref (G.1 16 0), .int w, .int v] (fun r τ => actM σ τ r (setF (σ 17 0) w v) m) := by
  refine MI.on (by decide) rfl (Nat.le_of_ble_eq_true rfl) (fun pP eE sS mM args below meth cC ls hx hb hml hr hown hlk hts hE hw hS hl => ?_)
  have hl : lv_has ls 4 [(0, .ref (G.1 16 0)), (1, .int w), (2, .int v)] := hl
  refine lv_iload_n hx hb dX6_set_0 rfl (lv_at hl 1 rfl) ?_
  refine lv_iload_n hx hb dX6_set_1 rfl (lv_at hl 2 rfl) ?_
  refine g_Si (n := 2) (As := [.int w, .int v]) (rest := []) hx hb hml hown hts hE hw hS gX6_set_X6_isSetting (c_X6_isSetting l G A _ w v) rfl (by decide +kernel) ⟨Nat.le_of_ble_eq_true rfl, Nat.le_of_ble_eq_true rfl⟩ rfl hl.1 rfl (Nat.le_of_ble_eq_true rfl) ⟨Nat.le_of_ble_eq_true rfl, Nat.le_of_ble_eq_true rfl⟩ dX6_set_2 (fun x_2 τ_2 H locs hp_2 hw hS => ?_)
  obtain ⟨hb_2, hτ_2⟩ := hp_2
  rw [hτ_2] at hw
  refine lv_if_ne (tgt := 11) hx hb dX6_set_5 (by decide) (fun c_5 => ?_) (fun c_5 => ?_)
  · obtain ⟨k, hk, rfl, hF⟩ := setF_ok (a := σ 17 0) (bP_t hb_2 c_5)
    refine lv_aload_n hx hb dX6_set_11 rfl (lv_at hl 0 rfl) ?_
    refine gf_X6_all hx hb hE hw (Nat.zero_lt_one) hown (hts (.fieldLink RX6 7 "ZonedLightModel" "all" "[I") (by decide +kernel)) dX6_set_12 ?_
    refine lv_sipush (v := nI 324) hx hb dX6_set_15 (by decide) ?_
    refine lv_iload_n hx hb dX6_set_18 rfl (lv_at hl 1 rfl) ?_
    refine n_iadd hx hb dX6_set_19 ?_
    refine g_ald hx hb hE hw (n := 335) (Nat.zero_lt_one) rfl (by decide) (by omega) dX6_set_20 ?_
    refine lv_topi (fun x_20 ex_20 => ?_)
    have e20 : σ 17 0 (324 + k) = x_20 := ex_20.symm
    refine lv_istore_n (lv' := [(3, .int x_20), (0, .ref (G.1 16 0)), (1, .int (nI k)), (2, .int v)]) hx hb dX6_set_21 rfl hl (by decide) rfl (fun ls hl => ?_)
    refine lv_iload_n hx hb dX6_set_22 rfl (lv_at hl 0 rfl) ?_
    refine lv_iload_n hx hb dX6_set_23 rfl (lv_at hl 3 rfl) ?_
    refine lv_icmp_ne (tgt := 30) hx hb dX6_set_24 (by decide) (fun c_24 => ?_) (fun c_24 => ?_)
    · refine lv_aload_n hx hb dX6_set_30 rfl (lv_at hl 1 rfl) ?_
      refine g_Vv (n := 0) (As := []) (rest := []) hx hb hml hown hts hE hw hS gX6_set_X6_acts (c_X6_acts l G A _ _ hm em) rfl (by decide +kernel) ⟨Nat.le_of_ble_eq_true rfl, Nat.le_of_ble_eq_true rfl⟩ (Nat.zero_lt_one) rfl rfl rfl rfl hl.1 rfl (Nat.le_of_ble_eq_true rfl) ⟨Nat.le_of_ble_eq_true rfl, Nat.le_of_ble_eq_true rfl⟩ dX6_set_31 (fun τ_31 H locs hp_31 hw hS => ?_)
      subst hp_31
      refine lv_aload_n hx hb dX6_set_34 rfl (lv_at hl 1 rfl) ?_
      refine gf_X6_all hx hb hE hw (Nat.zero_lt_one) hown (hts (.fieldLink RX6 7 "ZonedLightModel" "all" "[I") (by decide +kernel)) dX6_set_35 ?_
      refine lv_sipush (v := nI 324) hx hb dX6_set_38 (by decide) ?_
      refine lv_iload_n hx hb dX6_set_41 rfl (lv_at hl 2 rfl) ?_
      refine n_iadd hx hb dX6_set_42 ?_
      refine lv_iload_n hx hb dX6_set_43 rfl (lv_at hl 3 rfl) ?_
      refine g_ast hx hb hE hw hS (n := 335) (Nat.zero_lt_one) (by decide) (fun _ => rfl) rfl (by decide) (by omega) dX6_set_44 (fun H locs hw hS => ?_)
      refine lv_iload_n hx hb dX6_set_45 rfl (lv_at hl 0 rfl) ?_
      refine g_iret hx hb hr hlk hE hw hS dX6_set_46 ?_
      refine actM_go (by rw [hF, if_neg (by rw [e20]; exact c_24), e20]) ?_ (sameM.rf.w2 (Or.inr rfl) (by decide))
      rw [us_same, pushP_k (by decide) (by decide)]
    · refine lv_bipush (v := (-5)) hx hb dX6_set_27 (by decide) ?_
      refine g_iret hx hb hr hlk hE hw hS dX6_set_29 ?_
      exact actM_no (hF.trans (if_pos (e20.trans c_24)))
  · refine lv_bipush (v := (-2)) hx hb dX6_set_8 (by decide) ?_
    refine g_iret hx hb hr hlk hE hw hS dX6_set_10 ?_
    exact actM_no (setF_bad (bP_f hb_2 c_5))
set_option maxHeartbeats 4000000 in
set_option maxRecDepth 100000 in
/-- ZonedLightModel.type(C)I -/
theorem c_X6_type (l : Launch) (G : GG) (A : Nat → Prop) (σ : St) (t : Nat) (c : Int32) (ht : t ≤ 60) (et : σ 16 0 7 = nI t) : MI l yX6_type wsX6_type 0 0 G A σ [.ref (G.1 16 0), .int c] (fun r τ => (t = 60 ∧ r = -3 ∧ τ = σ) ∨ (t < 60 ∧ r = nI (t + 1) ∧ τ = us (us σ 21 0 t c) 16 0 7 (nI (t + 1)))) := by
  refine MI.on (by decide) rfl (Nat.le_of_ble_eq_true rfl) (fun pP eE sS mM args below meth cC ls hx hb hml hr hown hlk hts hE hw hS hl => ?_)
  have hl : lv_has ls 2 [(0, .ref (G.1 16 0)), (1, .int c)] := hl
  refine lv_aload_n hx hb dX6_type_0 rfl (lv_at hl 0 rfl) ?_
  refine gf_X6_textLong hx hb hE hw (Nat.zero_lt_one) hown (hts (.fieldLink RX6 147 "ZonedLightModel" "textLong" "I") (by decide +kernel)) dX6_type_1 ?_
  refine lv_topi (fun x_1 ex_1 => ?_)
  obtain rfl : x_1 = nI t := by rw [ex_1, et]
  refine lv_bipush (v := nI 60) hx hb dX6_type_4 (by decide) ?_
  refine n_cmp_ne (tgt := 12) hx hb dX6_type_6 (by decide) (by omega) (by omega) (fun c_6 => ?_) (fun c_6 => ?_)
  · refine lv_aload_n hx hb dX6_type_12 rfl (lv_at hl 0 rfl) ?_
    refine gf_X6_text hx hb hE hw (Nat.zero_lt_one) hown (hts (.fieldLink RX6 22 "ZonedLightModel" "text" "[I") (by decide +kernel)) dX6_type_13 ?_
    refine lv_aload_n hx hb dX6_type_16 rfl (lv_at hl 0 rfl) ?_
    refine gf_X6_textLong hx hb hE hw (Nat.zero_lt_one) hown (hts (.fieldLink RX6 147 "ZonedLightModel" "textLong" "I") (by decide +kernel)) dX6_type_17 ?_
    refine lv_topi (fun x_17 ex_17 => ?_)
    obtain rfl : x_17 = nI t := by rw [ex_17, et]
    refine lv_iload_n hx hb dX6_type_20 rfl (lv_at hl 1 rfl) ?_
    refine g_ast hx hb hE hw hS (n := 60) (Nat.zero_lt_one) (by decide) (fun _ => rfl) rfl (by decide) (by omega) dX6_type_21 (fun H locs hw hS => ?_)
    refine lv_aload_n hx hb dX6_type_22 rfl (lv_at hl 0 rfl) ?_
    refine lv_dup hx hb dX6_type_23 rfl ?_
    refine gf_X6_textLong hx hb hE hw (Nat.zero_lt_one) hown (hts (.fieldLink RX6 147 "ZonedLightModel" "textLong" "I") (by decide +kernel)) dX6_type_24 ?_
    refine lv_topi (fun x_24 ex_24 => ?_)
    obtain rfl : x_24 = nI t := by rw [ex_24, us_k (by decide), et]
    refine lv_iconst (v := nI 1) hx hb dX6_type_27 (by decide) ?_
    refine n_iadd hx hb dX6_type_28 ?_
    refine gp_X6_textLong hx hb hE hw hS (Nat.zero_lt_one) hown (hts (.fieldLink RX6 147 "ZonedLightModel" "textLong" "I") (by decide +kernel)) dX6_type_29 (fun H locs hw hS => ?_)
    refine lv_aload_n hx hb dX6_type_32 rfl (lv_at hl 0 rfl) ?_
    refine gf_X6_textLong hx hb hE hw (Nat.zero_lt_one) hown (hts (.fieldLink RX6 147 "ZonedLightModel" "textLong" "I") (by decide +kernel)) dX6_type_33 ?_
    refine lv_topi (fun x_33 ex_33 => ?_)
    obtain rfl : x_33 = nI (t + 1) := by rw [ex_33, us_at]
    refine g_iret hx hb hr hlk hE hw hS dX6_type_36 ?_
    exact Or.inr ⟨by omega, rfl, rfl⟩
  · refine lv_bipush (v := (-3)) hx hb dX6_type_9 (by decide) ?_
    refine g_iret hx hb hr hlk hE hw hS dX6_type_11 ?_
    exact Or.inl ⟨c_6, rfl, rfl⟩
set_option maxHeartbeats 4000000 in
set_option maxRecDepth 100000 in
/-- ZonedLightModel.clearText()I -/
theorem c_X6_clearText (l : Launch) (G : GG) (A : Nat → Prop) (σ : St)   : MI l yX6_clearText wsX6_clearText 0 0 G A σ [.ref (G.1 16 0)] (fun r τ => r = σ 16 0 7 ∧ τ = us σ 16 0 7 0) := by
  refine MI.on (by decide) rfl (Nat.le_of_ble_eq_true rfl) (fun pP eE sS mM args below meth cC ls hx hb hml hr hown hlk hts hE hw hS hl => ?_)
  have hl : lv_has ls 2 [(0, .ref (G.1 16 0))] := hl
  refine lv_aload_n hx hb dX6_clearText_0 rfl (lv_at hl 0 rfl) ?_
  refine gf_X6_textLong hx hb hE hw (Nat.zero_lt_one) hown (hts (.fieldLink RX6 147 "ZonedLightModel" "textLong" "I") (by decide +kernel)) dX6_clearText_1 ?_
  refine lv_topi (fun x_1 ex_1 => ?_)
  refine lv_istore_n (lv' := [(1, .int x_1), (0, .ref (G.1 16 0))]) hx hb dX6_clearText_4 rfl hl (by decide) rfl (fun ls hl => ?_)
  refine lv_aload_n hx hb dX6_clearText_5 rfl (lv_at hl 1 rfl) ?_
  refine lv_iconst (v := nI 0) hx hb dX6_clearText_6 (by decide) ?_
  refine gp_X6_textLong hx hb hE hw hS (Nat.zero_lt_one) hown (hts (.fieldLink RX6 147 "ZonedLightModel" "textLong" "I") (by decide +kernel)) dX6_clearText_7 (fun H locs hw hS => ?_)
  refine lv_iload_n hx hb dX6_clearText_10 rfl (lv_at hl 0 rfl) ?_
  refine g_iret hx hb hr hlk hE hw hS dX6_clearText_11 ?_
  exact ⟨ex_1, rfl⟩
set_option maxHeartbeats 4000000 in
set_option maxRecDepth 100000 in
/-- ZonedLightModel.undo()I -/
theorem c_X6_undo (l : Launch) (G : GG) (A : Nat → Prop) (σ : St) (m : Nat) (hm : m ≤ 4) (em : σ 16 0 2 = nI m) : MI l yX6_undo wsX6_undo 0 0 G A σ [.ref (G.1 16 0)] (fun r τ => (m = 0 ∧ r = -5 ∧ τ = σ) ∨ ∃ n, m = n + 1 ∧ r = nI n ∧ τ = us (ur σ 17 0 (rowH (σ 18 0) n)) 16 0 2 (nI n)) := by
  refine MI.on (by decide) rfl (Nat.le_of_ble_eq_true rfl) (fun pP eE sS mM args below meth cC ls hx hb hml hr hown hlk hts hE hw hS hl => ?_)
  have hl : lv_has ls 2 [(0, .ref (G.1 16 0))] := hl
  have hcan : ∀ j, 335 ≤ j → σ 17 0 j = 0 := hw.2.1 17 0
  refine lv_aload_n hx hb dX6_undo_0 rfl (lv_at hl 0 rfl) ?_
  refine gf_X6_historyLong hx hb hE hw (Nat.zero_lt_one) hown (hts (.fieldLink RX6 28 "ZonedLightModel" "historyLong" "I") (by decide +kernel)) dX6_undo_1 ?_
  refine lv_topi (fun x_1 ex_1 => ?_)
  refine lv_if_ne (tgt := 10) hx hb dX6_undo_4 (by decide) (fun c_4 => ?_) (fun c_4 => ?_)
  · obtain ⟨n, hmn⟩ : ∃ n, m = n + 1 := by
      rcases Nat.eq_zero_or_pos m with g | g
      · exact absurd (show x_1 = 0 by rw [ex_1, em, g]; rfl) c_4
      · exact ⟨m - 1, by omega⟩
    refine lv_aload_n hx hb dX6_undo_10 rfl (lv_at hl 0 rfl) ?_
    refine lv_dup hx hb dX6_undo_11 rfl ?_
    refine gf_X6_historyLong hx hb hE hw (Nat.zero_lt_one) hown (hts (.fieldLink RX6 28 "ZonedLightModel" "historyLong" "I") (by decide +kernel)) dX6_undo_12 ?_
    refine lv_topi (fun x_12 ex_12 => ?_)
    obtain rfl : x_12 = nI (n + 1) := by rw [ex_12, em, hmn]
    refine lv_iconst (v := nI 1) hx hb dX6_undo_15 (by decide) ?_
    refine n_isub hx hb dX6_undo_16 (by omega) ?_
    refine gp_X6_historyLong hx hb hE hw hS (Nat.zero_lt_one) hown (hts (.fieldLink RX6 28 "ZonedLightModel" "historyLong" "I") (by decide +kernel)) dX6_undo_17 (fun H locs hw hS => ?_)
    refine lv_iconst (v := nI 0) hx hb dX6_undo_20 (by decide) ?_
    refine lv_istore_n (lv' := [(1, .int (nI 0)), (0, .ref (G.1 16 0))]) hx hb dX6_undo_21 rfl hl (by decide) rfl (fun ls hl => ?_)
    have K_22 : ∀ (fuel : Nat) (k : Nat) (σ2 : St), (k ≤ 335) → (σ2 = us (ur σ 17 0 (cpK (rowH (σ 18 0) n) (σ 17 0) k)) 16 0 2 (nI n)) → 335 - k < fuel → ∀ (H : Heap) (locs : List Loc) (ls : Array Slot), Wcel G σ2 H → va_S A sS.heap H locs → lv_has ls 2 [(0, .ref (G.1 16 0)), (1, .int (nI k))] → W pP l eE { frames := 0, cells := 0, slots := 0, locals := 0 } sS mM args below meth cC H locs 0 0 (MQ below (va_Qi (fun r τ => (m = 0 ∧ r = -5 ∧ τ = σ) ∨ ∃ n, m = n + 1 ∧ r = nI n ∧ τ = us (ur σ 17 0 (rowH (σ 18 0) n)) 16 0 2 (nI n)) (fun τ t => gP G A τ t) A) args sS 0 0 A) (F0 mM 22 ls []) := by
      intro fuel
      induction fuel with
      | zero =>
        intro k σ2 hk h2 hfu
        exact absurd hfu (Nat.not_lt_zero _)
      | succ fuel K_22 =>
        intro k σ2 hk h2 hfu H locs ls hw hS hl
        subst h2
        refine lv_iload_n hx hb dX6_undo_22 rfl (lv_at hl 1 rfl) ?_
        refine lv_sipush (v := nI 335) hx hb dX6_undo_23 (by decide) ?_
        refine n_cmp_ge (tgt := 56) hx hb dX6_undo_26 (by decide) (by omega) (by omega) (fun c_26 => ?_) (fun c_26 => ?_)
        · refine lv_aload_n hx hb dX6_undo_56 rfl (lv_at hl 0 rfl) ?_
          refine gf_X6_historyLong hx hb hE hw (Nat.zero_lt_one) hown (hts (.fieldLink RX6 28 "ZonedLightModel" "historyLong" "I") (by decide +kernel)) dX6_undo_57 ?_
          refine lv_topi (fun x_57 ex_57 => ?_)
          obtain rfl : x_57 = nI n := by rw [ex_57, us_at]
          refine g_iret hx hb hr hlk hE hw hS dX6_undo_60 ?_
          exact Or.inr ⟨n, hmn, rfl, by rw [show k = 335 by omega, cpK_all (f := rowH (σ 18 0) n) (n := 335) (fun j g => if_neg (by omega)) hcan]⟩
        · refine lv_aload_n hx hb dX6_undo_29 rfl (lv_at hl 0 rfl) ?_
          refine gf_X6_all hx hb hE hw (Nat.zero_lt_one) hown (hts (.fieldLink RX6 7 "ZonedLightModel" "all" "[I") (by decide +kernel)) dX6_undo_30 ?_
          refine lv_iload_n hx hb dX6_undo_33 rfl (lv_at hl 1 rfl) ?_
          refine lv_aload_n hx hb dX6_undo_34 rfl (lv_at hl 0 rfl) ?_
          refine gf_X6_history hx hb hE hw (Nat.zero_lt_one) hown (hts (.fieldLink RX6 13 "ZonedLightModel" "history" "[I") (by decide +kernel)) dX6_undo_35 ?_
          refine lv_sipush (v := nI 335) hx hb dX6_undo_38 (by decide) ?_
          refine lv_aload_n hx hb dX6_undo_41 rfl (lv_at hl 0 rfl) ?_
          refine gf_X6_historyLong hx hb hE hw (Nat.zero_lt_one) hown (hts (.fieldLink RX6 28 "ZonedLightModel" "historyLong" "I") (by decide +kernel)) dX6_undo_42 ?_
          refine lv_topi (fun x_42 ex_42 => ?_)
          obtain rfl : x_42 = nI n := by rw [ex_42, us_at]
          refine n_imul hx hb dX6_undo_45 ?_
          refine lv_iload_n hx hb dX6_undo_46 rfl (lv_at hl 1 rfl) ?_
          refine n_iadd hx hb dX6_undo_47 ?_
          refine g_ald hx hb hE hw (n := 1340) (Nat.zero_lt_one) rfl (by decide) (by omega) dX6_undo_48 ?_
          refine lv_topi (fun x_48 ex_48 => ?_)
          refine g_ast hx hb hE hw hS (n := 335) (Nat.zero_lt_one) (by decide) (fun _ => rfl) rfl (by decide) (by omega) dX6_undo_49 (fun H locs hw hS => ?_)
          refine lv_iinc (v := nI (k + 1)) (lv' := [(1, .int (nI (k + 1))), (0, .ref (G.1 16 0))]) hx hb dX6_undo_50 hl (k := 1) rfl (nI_add _ _) (by decide) rfl (fun ls hl => ?_)
          refine lv_goto (tgt := 22) hx hb dX6_undo_53 (by decide) ?_
          exact K_22 (k + 1) _ (by first | omega | assumption | rfl) (by rw [undo_step, cpK_put (by rw [ex_48, us_k (by decide), ur_k (by decide), rowH, if_pos c_26])]) (by omega) _ _ _ hw hS (lv_sub hl [1, 0] rfl)
    exact K_22 (335 - 0 + 1) 0 _ (by first | omega | assumption | rfl) (by rw [cpK_0, ur_self (σ := σ) (k := 17) rfl]; rfl) (Nat.lt_succ_self _) _ _ _ hw hS (lv_sub hl [1, 0] rfl)
  · have hm0 : m = 0 := by rw [ex_1, em] at c_4; exact Nat.eq_zero_of_not_pos (fun g => nI_ne0 g (by omega) c_4)
    refine lv_bipush (v := (-5)) hx hb dX6_undo_7 (by decide) ?_
    refine g_iret hx hb hr hlk hE hw hS dX6_undo_9 ?_
    exact Or.inl ⟨hm0, rfl, rfl⟩
set_option maxHeartbeats 4000000 in
set_option maxRecDepth 100000 in
/-- ZonedLightModel.keep()I -/
theorem c_X6_keep (l : Launch) (G : GG) (A : Nat → Prop) (σ : St)   : MI l yX6_keep wsX6_keep 0 0 G A σ [.ref (G.1 16 0)] (fun r τ => r = σ 17 0 332 ∧ τ = us (ur σ 19 0 (σ 17 0)) 16 0 4 1) := by
  refine MI.on (by decide) rfl (Nat.le_of_ble_eq_true rfl) (fun pP eE sS mM args below meth cC ls hx hb hml hr hown hlk hts hE hw hS hl => ?_)
  have hl : lv_has ls 2 [(0, .ref (G.1 16 0))] := hl
  have hcan : ∀ j, 335 ≤ j → σ 17 0 j = 0 := hw.2.1 17 0
  have hcan2 : ∀ j, 335 ≤ j → σ 19 0 j = 0 := hw.2.1 19 0
  refine lv_iconst (v := nI 0) hx hb dX6_keep_0 (by decide) ?_
  refine lv_istore_n (lv' := [(1, .int (nI 0)), (0, .ref (G.1 16 0))]) hx hb dX6_keep_1 rfl hl (by decide) rfl (fun ls hl => ?_)
  have K_2 : ∀ (fuel : Nat) (k : Nat) (σ2 : St), (k ≤ 335) → (σ2 = ur σ 19 0 (cpK (σ 17 0) (σ 19 0) k)) → 335 - k < fuel → ∀ (H : Heap) (locs : List Loc) (ls : Array Slot), Wcel G σ2 H → va_S A sS.heap H locs → lv_has ls 2 [(0, .ref (G.1 16 0)), (1, .int (nI k))] → W pP l eE { frames := 0, cells := 0, slots := 0, locals := 0 } sS mM args below meth cC H locs 0 0 (MQ below (va_Qi (fun r τ => r = σ 17 0 332 ∧ τ = us (ur σ 19 0 (σ 17 0)) 16 0 4 1) (fun τ t => gP G A τ t) A) args sS 0 0 A) (F0 mM 2 ls []) := by
    intro fuel
    induction fuel with
    | zero =>
      intro k σ2 hk h2 hfu
      exact absurd hfu (Nat.not_lt_zero _)
    | succ fuel K_2 =>
      intro k σ2 hk h2 hfu H locs ls hw hS hl
      subst h2
      refine lv_iload_n hx hb dX6_keep_2 rfl (lv_at hl 1 rfl) ?_
      refine lv_sipush (v := nI 335) hx hb dX6_keep_3 (by decide) ?_
      refine n_cmp_ge (tgt := 27) hx hb dX6_keep_6 (by decide) (by omega) (by omega) (fun c_6 => ?_) (fun c_6 => ?_)
      · refine lv_aload_n hx hb dX6_keep_27 rfl (lv_at hl 0 rfl) ?_
        refine lv_iconst (v := nI 1) hx hb dX6_keep_28 (by decide) ?_
        refine gp_X6_isKept hx hb hE hw hS (Nat.zero_lt_one) hown (hts (.fieldLink RX6 173 "ZonedLightModel" "isKept" "I") (by decide +kernel)) dX6_keep_29 (fun H locs hw hS => ?_)
        refine lv_aload_n hx hb dX6_keep_32 rfl (lv_at hl 0 rfl) ?_
        refine gf_X6_all hx hb hE hw (Nat.zero_lt_one) hown (hts (.fieldLink RX6 7 "ZonedLightModel" "all" "[I") (by decide +kernel)) dX6_keep_33 ?_
        refine lv_sipush (v := nI 332) hx hb dX6_keep_36 (by decide) ?_
        refine g_ald hx hb hE hw (n := 335) (Nat.zero_lt_one) rfl (by decide) (by omega) dX6_keep_39 ?_
        refine lv_topi (fun x_39 ex_39 => ?_)
        refine g_iret hx hb hr hlk hE hw hS dX6_keep_40 ?_
        exact ⟨by rw [ex_39, us_k (by decide), ur_k (by decide)], by rw [show k = 335 by omega, cpK_all hcan hcan2]; rfl⟩
      · refine lv_aload_n hx hb dX6_keep_9 rfl (lv_at hl 0 rfl) ?_
        refine gf_X6_snapshot hx hb hE hw (Nat.zero_lt_one) hown (hts (.fieldLink RX6 16 "ZonedLightModel" "snapshot" "[I") (by decide +kernel)) dX6_keep_10 ?_
        refine lv_iload_n hx hb dX6_keep_13 rfl (lv_at hl 1 rfl) ?_
        refine lv_aload_n hx hb dX6_keep_14 rfl (lv_at hl 0 rfl) ?_
        refine gf_X6_all hx hb hE hw (Nat.zero_lt_one) hown (hts (.fieldLink RX6 7 "ZonedLightModel" "all" "[I") (by decide +kernel)) dX6_keep_15 ?_
        refine lv_iload_n hx hb dX6_keep_18 rfl (lv_at hl 1 rfl) ?_
        refine g_ald hx hb hE hw (n := 335) (Nat.zero_lt_one) rfl (by decide) (by omega) dX6_keep_19 ?_
        refine lv_topi (fun x_19 ex_19 => ?_)
        refine g_ast hx hb hE hw hS (n := 335) (Nat.zero_lt_one) (by decide) (fun _ => rfl) rfl (by decide) (by omega) dX6_keep_20 (fun H locs hw hS => ?_)
        refine lv_iinc (v := nI (k + 1)) (lv' := [(1, .int (nI (k + 1))), (0, .ref (G.1 16 0))]) hx hb dX6_keep_21 hl (k := 1) rfl (nI_add _ _) (by decide) rfl (fun ls hl => ?_)
        refine lv_goto (tgt := 2) hx hb dX6_keep_24 (by decide) ?_
        exact K_2 (k + 1) _ (by first | omega | assumption | rfl) (by rw [us_ur, cpK_put (by rw [ex_19, ur_k (by decide)])]) (by omega) _ _ _ hw hS (lv_sub hl [1, 0] rfl)
  exact K_2 (335 - 0 + 1) 0 _ (by first | omega | assumption | rfl) (by rw [cpK_0, ur_self rfl]) (Nat.lt_succ_self _) _ _ _ hw hS (lv_sub hl [1, 0] rfl)
set_option maxHeartbeats 4000000 in
set_option maxRecDepth 100000 in
/-- ZonedLightModel.restore()I -/
theorem c_X6_restore (l : Launch) (G : GG) (A : Nat → Prop) (σ : St) (m : Nat) (hm : m ≤ 4) (em : σ 16 0 2 = nI m) : MI l yX6_restore wsX6_restore 1 21 G A σ [.ref (G.1 16 0)] (fun r τ => actM σ τ r (restF (σ 16 0 4) (σ 19 0)) m) := by
  refine MI.on (by decide) rfl (Nat.le_of_ble_eq_true rfl) (fun pP eE sS mM args below meth cC ls hx hb hml hr hown hlk hts hE hw hS hl => ?_)
  have hl : lv_has ls 2 [(0, .ref (G.1 16 0))] := hl
  have hcan : ∀ j, 335 ≤ j → σ 17 0 j = 0 := hw.2.1 17 0
  have hcan2 : ∀ j, 335 ≤ j → σ 19 0 j = 0 := hw.2.1 19 0
  refine lv_aload_n hx hb dX6_restore_0 rfl (lv_at hl 0 rfl) ?_
  refine gf_X6_isKept hx hb hE hw (Nat.zero_lt_one) hown (hts (.fieldLink RX6 173 "ZonedLightModel" "isKept" "I") (by decide +kernel)) dX6_restore_1 ?_
  refine lv_topi (fun x_1 ex_1 => ?_)
  refine lv_if_ne (tgt := 10) hx hb dX6_restore_4 (by decide) (fun c_4 => ?_) (fun c_4 => ?_)
  · refine lv_aload_n hx hb dX6_restore_10 rfl (lv_at hl 0 rfl) ?_
    refine g_Vv (n := 0) (As := []) (rest := []) hx hb hml hown hts hE hw hS gX6_restore_X6_acts (c_X6_acts l G A _ _ hm em) rfl (by decide +kernel) ⟨Nat.le_of_ble_eq_true rfl, Nat.le_of_ble_eq_true rfl⟩ (Nat.zero_lt_one) rfl rfl rfl rfl hl.1 rfl (Nat.le_of_ble_eq_true rfl) ⟨Nat.le_of_ble_eq_true rfl, Nat.le_of_ble_eq_true rfl⟩ dX6_restore_11 (fun τ_11 H locs hp_11 hw hS => ?_)
    subst hp_11
    refine lv_iconst (v := nI 0) hx hb dX6_restore_14 (by decide) ?_
    refine lv_istore_n (lv' := [(1, .int (nI 0)), (0, .ref (G.1 16 0))]) hx hb dX6_restore_15 rfl hl (by decide) rfl (fun ls hl => ?_)
    have K_16 : ∀ (fuel : Nat) (k : Nat) (σ2 : St), (k ≤ 335) → (σ2 = ur (pushP σ m) 17 0 (cpK (σ 19 0) (σ 17 0) k)) → 335 - k < fuel → ∀ (H : Heap) (locs : List Loc) (ls : Array Slot), Wcel G σ2 H → va_S A sS.heap H locs → lv_has ls 2 [(0, .ref (G.1 16 0)), (1, .int (nI k))] → W pP l eE { frames := 1, cells := 0, slots := 0, locals := 21 } sS mM args below meth cC H locs 0 0 (MQ below (va_Qi (fun r τ => actM σ τ r (restF (σ 16 0 4) (σ 19 0)) m) (fun τ t => gP G A τ t) A) args sS 0 0 A) (F0 mM 16 ls []) := by
      intro fuel
      induction fuel with
      | zero =>
        intro k σ2 hk h2 hfu
        exact absurd hfu (Nat.not_lt_zero _)
      | succ fuel K_16 =>
        intro k σ2 hk h2 hfu H locs ls hw hS hl
        subst h2
        refine lv_iload_n hx hb dX6_restore_16 rfl (lv_at hl 1 rfl) ?_
        refine lv_sipush (v := nI 335) hx hb dX6_restore_17 (by decide) ?_
        refine n_cmp_ge (tgt := 41) hx hb dX6_restore_20 (by decide) (by omega) (by omega) (fun c_20 => ?_) (fun c_20 => ?_)
        · refine lv_aload_n hx hb dX6_restore_41 rfl (lv_at hl 0 rfl) ?_
          refine gf_X6_all hx hb hE hw (Nat.zero_lt_one) hown (hts (.fieldLink RX6 7 "ZonedLightModel" "all" "[I") (by decide +kernel)) dX6_restore_42 ?_
          refine lv_sipush (v := nI 332) hx hb dX6_restore_45 (by decide) ?_
          refine g_ald hx hb hE hw (n := 335) (Nat.zero_lt_one) rfl (by decide) (by omega) dX6_restore_48 ?_
          refine lv_topi (fun x_48 ex_48 => ?_)
          refine g_iret hx hb hr hlk hE hw hS dX6_restore_49 ?_
          obtain rfl : k = 335 := by omega
          rw [cpK_all hcan2 hcan] at *
          exact actM_go (by rw [restF, if_neg (by rw [← ex_1]; exact c_4), ex_48, ur_same]) (by rw [ur_same]) (sameM.rf.w1 (Or.inr rfl) (by decide))
        · refine lv_aload_n hx hb dX6_restore_23 rfl (lv_at hl 0 rfl) ?_
          refine gf_X6_all hx hb hE hw (Nat.zero_lt_one) hown (hts (.fieldLink RX6 7 "ZonedLightModel" "all" "[I") (by decide +kernel)) dX6_restore_24 ?_
          refine lv_iload_n hx hb dX6_restore_27 rfl (lv_at hl 1 rfl) ?_
          refine lv_aload_n hx hb dX6_restore_28 rfl (lv_at hl 0 rfl) ?_
          refine gf_X6_snapshot hx hb hE hw (Nat.zero_lt_one) hown (hts (.fieldLink RX6 16 "ZonedLightModel" "snapshot" "[I") (by decide +kernel)) dX6_restore_29 ?_
          refine lv_iload_n hx hb dX6_restore_32 rfl (lv_at hl 1 rfl) ?_
          refine g_ald hx hb hE hw (n := 335) (Nat.zero_lt_one) rfl (by decide) (by omega) dX6_restore_33 ?_
          refine lv_topi (fun x_33 ex_33 => ?_)
          refine g_ast hx hb hE hw hS (n := 335) (Nat.zero_lt_one) (by decide) (fun _ => rfl) rfl (by decide) (by omega) dX6_restore_34 (fun H locs hw hS => ?_)
          refine lv_iinc (v := nI (k + 1)) (lv' := [(1, .int (nI (k + 1))), (0, .ref (G.1 16 0))]) hx hb dX6_restore_35 hl (k := 1) rfl (nI_add _ _) (by decide) rfl (fun ls hl => ?_)
          refine lv_goto (tgt := 16) hx hb dX6_restore_38 (by decide) ?_
          exact K_16 (k + 1) _ (by first | omega | assumption | rfl) (by rw [us_ur, cpK_put (by rw [ex_33, ur_k (by decide), pushP_k (by decide) (by decide)])]) (by omega) _ _ _ hw hS (lv_sub hl [1, 0] rfl)
    exact K_16 (335 - 0 + 1) 0 _ (by first | omega | assumption | rfl) (by rw [cpK_0, ur_self (pushP_k (by decide) (by decide))]) (Nat.lt_succ_self _) _ _ _ hw hS (lv_sub hl [1, 0] rfl)
  · refine lv_bipush (v := (-5)) hx hb dX6_restore_7 (by decide) ?_
    refine g_iret hx hb hr hlk hE hw hS dX6_restore_9 ?_
    exact actM_no (if_pos (by rw [← ex_1]; exact c_4))
