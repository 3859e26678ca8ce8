/-! CONTRACTS, laid by program -/
set_option maxHeartbeats 4000000 in
set_option maxRecDepth 100000 in
/-- ZonedLight.rememberPicture()V -/
theorem c_X5_rememberPicture (l : Launch) (G : GG) (A : Nat → Prop) (σ : St)   : MV l yX5_rememberPicture wsX5_rememberPicture 1 26 G A σ [.ref (G.1 5 0)] (fun τ => τ = ur σ 15 0 (σ 1 0)) := by
  refine MV.on (by decide) rfl (Nat.le_of_ble_eq_true rfl) (fun pP eE sS mM args below meth cC ls hx hb hml hr hown hlk hts hE hw hS hl => ?_)
  have hl : lv_has ls 1 [(0, .ref (G.1 5 0))] := hl
  refine lv_aload_n hx hb dX5_rememberPicture_0 rfl (lv_at hl 0 rfl) ?_
  refine gf_X5_now hx hb hE hw (Nat.zero_lt_one) hown (hts (.fieldLink RX5 12 "ZonedLight" "now" "LZonedLight$Screen;") (by decide +kernel)) dX5_rememberPicture_1 ?_
  refine gf_X3_asked hx hb hE hw (by decide) hown (hts (.fieldLink RX5 66 "ZonedLight$Screen" "asked" "[I") (by decide +kernel)) dX5_rememberPicture_4 ?_
  refine lv_iconst (v := nI 0) hx hb dX5_rememberPicture_7 (by decide) ?_
  refine lv_aload_n hx hb dX5_rememberPicture_8 rfl (lv_at hl 0 rfl) ?_
  refine gf_X5_pictureBefore hx hb hE hw (Nat.zero_lt_one) hown (hts (.fieldLink RX5 54 "ZonedLight" "pictureBefore" "[I") (by decide +kernel)) dX5_rememberPicture_9 ?_
  refine lv_iconst (v := nI 0) hx hb dX5_rememberPicture_12 (by decide) ?_
  refine lv_sipush (v := nI 288) hx hb dX5_rememberPicture_13 (by decide) ?_
  refine g_copy hx hb (hml.trans hl.1.symm) hE hw hS hown (hts (.methodLink RX5 218 arraycopyName) (by decide +kernel)) (n := 288) (n0 := 288) (n1 := 288) (by decide) (Nat.zero_lt_one) rfl (fun _ => rfl) (by decide) rfl rfl (by decide) (by decide) (by decide) (Nat.le_of_ble_eq_true rfl) (Nat.le_of_ble_eq_true rfl) dX5_rememberPicture_16 (fun H locs hw hS => ?_)
  refine g_vret hx hb hr hlk hE hw hS dX5_rememberPicture_19 ?_
  exact rfl
set_option maxHeartbeats 4000000 in
set_option maxRecDepth 100000 in
/-- ZonedLight.changedSpots()I -/
theorem c_X5_changedSpots (l : Launch) (G : GG) (A : Nat → Prop) (σ : St)   : MI l yX5_changedSpots wsX5_changedSpots 0 0 G A σ [.ref (G.1 5 0)] (fun r τ => r = nI (difK (σ 1 0) (σ 15 0) 288) ∧ τ = σ) := by
  refine MI.on (by decide) rfl (Nat.le_of_ble_eq_true rfl) (fun pP eE sS mM args below meth cC ls hx hb hml hr hown hlk hts hE hw hS hl => ?_)
  have hl : lv_has ls 3 [(0, .ref (G.1 5 0))] := hl
  refine lv_iconst (v := nI 0) hx hb dX5_changedSpots_0 (by decide) ?_
  refine lv_istore_n (lv' := [(1, .int (nI 0)), (0, .ref (G.1 5 0))]) hx hb dX5_changedSpots_1 rfl hl (by decide) rfl (fun ls hl => ?_)
  refine lv_iconst (v := nI 0) hx hb dX5_changedSpots_2 (by decide) ?_
  refine lv_istore_n (lv' := [(2, .int (nI 0)), (1, .int (nI 0)), (0, .ref (G.1 5 0))]) hx hb dX5_changedSpots_3 rfl hl (by decide) rfl (fun ls hl => ?_)
  have K_4 : ∀ (fuel : Nat) (k : Nat) (c : Nat), (k ≤ 288) → (c = difK (σ 1 0) (σ 15 0) k) → 288 - k < fuel → ∀ (H : Heap) (locs : List Loc) (ls : Array Slot), Wcel G σ H → va_S A sS.heap H locs → lv_has ls 3 [(0, .ref (G.1 5 0)), (1, .int (nI c)), (2, .int (nI k))] → W pP l eE { frames := 0, cells := 0, slots := 0, locals := 0 } sS mM args below meth cC H locs 0 0 (MQ below (va_Qi (fun r τ => r = nI (difK (σ 1 0) (σ 15 0) 288) ∧ τ = σ) (fun τ t => gP G A τ t) A) args sS 0 0 A) (F0 mM 4 ls []) := by
    intro fuel
    induction fuel with
    | zero =>
      intro k c hk hc hfu
      exact absurd hfu (Nat.not_lt_zero _)
    | succ fuel K_4 =>
      intro k c hk hc hfu H locs ls hw hS hl
      refine lv_iload_n hx hb dX5_changedSpots_4 rfl (lv_at hl 2 rfl) ?_
      refine lv_sipush (v := nI 288) hx hb dX5_changedSpots_5 (by decide) ?_
      refine n_cmp_ge (tgt := 38) hx hb dX5_changedSpots_8 (by decide) (by omega) (by omega) (fun c_8 => ?_) (fun c_8 => ?_)
      · refine lv_iload_n hx hb dX5_changedSpots_38 rfl (lv_at hl 1 rfl) ?_
        refine g_iret hx hb hr hlk hE hw hS dX5_changedSpots_39 ?_
        exact ⟨by rw [hc, show k = 288 by omega], rfl⟩
      · refine lv_aload_n hx hb dX5_changedSpots_11 rfl (lv_at hl 0 rfl) ?_
        refine gf_X5_now hx hb hE hw (Nat.zero_lt_one) hown (hts (.fieldLink RX5 12 "ZonedLight" "now" "LZonedLight$Screen;") (by decide +kernel)) dX5_changedSpots_12 ?_
        refine gf_X3_asked hx hb hE hw (by decide) hown (hts (.fieldLink RX5 66 "ZonedLight$Screen" "asked" "[I") (by decide +kernel)) dX5_changedSpots_15 ?_
        refine lv_iload_n hx hb dX5_changedSpots_18 rfl (lv_at hl 2 rfl) ?_
        refine g_ald hx hb hE hw (n := 288) (by decide) rfl (by decide) (by omega) dX5_changedSpots_19 ?_
        refine lv_topi (fun x_19 ex_19 => ?_)
        refine lv_aload_n hx hb dX5_changedSpots_20 rfl (lv_at hl 0 rfl) ?_
        refine gf_X5_pictureBefore hx hb hE hw (Nat.zero_lt_one) hown (hts (.fieldLink RX5 54 "ZonedLight" "pictureBefore" "[I") (by decide +kernel)) dX5_changedSpots_21 ?_
        refine lv_iload_n hx hb dX5_changedSpots_24 rfl (lv_at hl 2 rfl) ?_
        refine g_ald hx hb hE hw (n := 288) (Nat.zero_lt_one) rfl (by decide) (by omega) dX5_changedSpots_25 ?_
        refine lv_topi (fun x_25 ex_25 => ?_)
        refine lv_icmp_eq (tgt := 32) hx hb dX5_changedSpots_26 (by decide) (fun c_26 => ?_) (fun c_26 => ?_)
        · refine lv_iinc (v := nI (k + 1)) (lv' := [(2, .int (nI (k + 1))), (0, .ref (G.1 5 0)), (1, .int (nI c))]) hx hb dX5_changedSpots_32 hl (k := 2) rfl (nI_add _ _) (by decide) rfl (fun ls hl => ?_)
          refine lv_goto (tgt := 4) hx hb dX5_changedSpots_35 (by decide) ?_
          exact K_4 (k + 1) c (by first | omega | assumption | rfl) (by first | (rw [difK, if_pos (by rw [← ex_19, ← ex_25]; exact c_26)]; exact hc) | (rw [difK, if_neg (by rw [← ex_19, ← ex_25]; exact c_26), hc])) (by omega) _ _ _ hw hS (lv_sub hl [1, 2, 0] rfl)
        · refine lv_iinc (v := nI (c + 1)) (lv' := [(1, .int (nI (c + 1))), (0, .ref (G.1 5 0)), (2, .int (nI k))]) hx hb dX5_changedSpots_29 hl (k := 1) rfl (nI_add _ _) (by decide) rfl (fun ls hl => ?_)
          refine lv_iinc (v := nI (k + 1)) (lv' := [(2, .int (nI (k + 1))), (1, .int (nI (c + 1))), (0, .ref (G.1 5 0))]) hx hb dX5_changedSpots_32 hl (k := 2) rfl (nI_add _ _) (by decide) rfl (fun ls hl => ?_)
          refine lv_goto (tgt := 4) hx hb dX5_changedSpots_35 (by decide) ?_
          exact K_4 (k + 1) (c + 1) (by first | omega | assumption | rfl) (by first | (rw [difK, if_pos (by rw [← ex_19, ← ex_25]; exact c_26)]; exact hc) | (rw [difK, if_neg (by rw [← ex_19, ← ex_25]; exact c_26), hc])) (by omega) _ _ _ hw hS (lv_sub hl [2, 1, 0] rfl)
  exact K_4 (288 - 0 + 1) 0 0 (by first | omega | assumption | rfl) (by first | omega | assumption | rfl) (Nat.lt_succ_self _) _ _ _ hw hS (lv_sub hl [2, 1, 0] rfl)
set_option maxHeartbeats 4000000 in
set_option maxRecDepth 100000 in
/-- ZonedLight.ask(III)I -/
theorem c_X5_ask (l : Launch) (G : GG) (A : Nat → Prop) (σ : St) (x : Int32) (y : Int32) (b : Int32) (o : Nat) (n : Nat) (ho : o < 4) (hn : n ≤ 4) (eo : σ 6 0 1 = nI o) (en : σ 6 0 2 = nI n) : MI l yX5_ask wsX5_ask 3 69 G A σ [.ref (G.1 5 0), .int x, .int y, .int b] (fun r τ => actC σ τ r (askF (scr σ 0) x y b) o n) := by
  refine MI.on (by decide) rfl (Nat.le_of_ble_eq_true rfl) (fun pP eE sS mM args below meth cC ls hx hb hml hr hown hlk hts hE hw hS hl => ?_)
  have hl : lv_has ls 6 [(0, .ref (G.1 5 0)), (1, .int x), (2, .int y), (3, .int b)] := hl
  refine lv_iload_n hx hb dX5_ask_0 rfl (lv_at hl 1 rfl) ?_
  refine lv_iload_n hx hb dX5_ask_1 rfl (lv_at hl 2 rfl) ?_
  refine g_Si (n := 2) (As := [.int x, .int y]) (rest := []) hx hb hml hown hts hE hw hS gX5_ask_X5_onScreen (c_X5_onScreen l G A _ x y) rfl (by decide +kernel) ⟨Nat.le_of_ble_eq_true rfl, Nat.le_of_ble_eq_true rfl⟩ rfl hl.1 rfl (Nat.le_of_ble_eq_true rfl) ⟨Nat.le_of_ble_eq_true rfl, Nat.le_of_ble_eq_true rfl⟩ dX5_ask_2 (fun x_2 τ_2 H locs hp_2 hw hS => ?_)
  obtain ⟨hb_2, hτ_2⟩ := hp_2
  rw [hτ_2] at hw
  refine lv_if_ne (tgt := 10) hx hb dX5_ask_5 (by decide) (fun c_5 => ?_) (fun c_5 => ?_)
  · have honp := bP_t hb_2 c_5
    obtain ⟨⟨X, hX, rfl⟩, ⟨Y, hY, rfl⟩⟩ := honp
    refine lv_iload_n hx hb dX5_ask_10 rfl (lv_at hl 3 rfl) ?_
    refine lv_if_lt (tgt := 21) hx hb dX5_ask_11 (by decide) (fun c_11 => ?_) (fun c_11 => ?_)
    · refine lv_bipush (v := (-2)) hx hb dX5_ask_21 (by decide) ?_
      refine g_iret hx hb hr hlk hE hw hS dX5_ask_23 ?_
      first | exact act_no (askF_bad (onP_nI hX hY) (Or.inl c_11)) | exact act_no (askF_bad (onP_nI hX hY) (Or.inr (Int32.not_le.mp c_18)))
    · refine lv_iload_n hx hb dX5_ask_14 rfl (lv_at hl 3 rfl) ?_
      refine lv_sipush (v := nI 255) hx hb dX5_ask_15 (by decide) ?_
      refine lv_icmp_le (tgt := 24) hx hb dX5_ask_18 (by decide) (fun c_18 => ?_) (fun c_18 => ?_)
      · refine lv_iload_n hx hb dX5_ask_24 rfl (lv_at hl 1 rfl) ?_
        refine lv_iload_n hx hb dX5_ask_25 rfl (lv_at hl 2 rfl) ?_
        refine g_Si (n := 2) (As := [.int (nI X), .int (nI Y)]) (rest := []) hx hb hml hown hts hE hw hS gX5_ask_X5_spotAt (c_X5_spotAt l G A _ X Y) rfl (by decide +kernel) ⟨Nat.le_of_ble_eq_true rfl, Nat.le_of_ble_eq_true rfl⟩ rfl hl.1 rfl (Nat.le_of_ble_eq_true rfl) ⟨Nat.le_of_ble_eq_true rfl, Nat.le_of_ble_eq_true rfl⟩ dX5_ask_26 (fun r_26 τ_26 H locs hp_26 hw hS => ?_)
        obtain ⟨rfl, hτ_26⟩ := hp_26
        rw [hτ_26] at hw
        refine lv_istore (lv' := [(4, .int (nI (Y * 24 + X))), (0, .ref (G.1 5 0)), (1, .int (nI X)), (2, .int (nI Y)), (3, .int b)]) hx hb dX5_ask_29 hl (by decide) rfl (fun ls hl => ?_)
        refine lv_aload_n hx hb dX5_ask_31 rfl (lv_at hl 1 rfl) ?_
        refine gf_X5_now hx hb hE hw (Nat.zero_lt_one) hown (hts (.fieldLink RX5 12 "ZonedLight" "now" "LZonedLight$Screen;") (by decide +kernel)) dX5_ask_32 ?_
        refine gf_X3_asked hx hb hE hw (by decide) hown (hts (.fieldLink RX5 66 "ZonedLight$Screen" "asked" "[I") (by decide +kernel)) dX5_ask_35 ?_
        refine lv_iload hx hb dX5_ask_38 (lv_at hl 0 rfl) ?_
        refine g_ald hx hb hE hw (n := 288) (by decide) rfl (by decide) (by omega) dX5_ask_40 ?_
        refine lv_topi (fun x_40 ex_40 => ?_)
        have e40 : scr σ 0 (Y * 24 + X) = x_40 := by rw [ex_40]; exact scr_asked (by omega)
        refine lv_istore (lv' := [(5, .int x_40), (4, .int (nI (Y * 24 + X))), (0, .ref (G.1 5 0)), (1, .int (nI X)), (2, .int (nI Y)), (3, .int b)]) hx hb dX5_ask_41 hl (by decide) rfl (fun ls hl => ?_)
        refine lv_iload hx hb dX5_ask_43 (lv_at hl 0 rfl) ?_
        refine lv_iload_n hx hb dX5_ask_45 rfl (lv_at hl 5 rfl) ?_
        refine lv_icmp_ne (tgt := 52) hx hb dX5_ask_46 (by decide) (fun c_46 => ?_) (fun c_46 => ?_)
        · refine lv_aload_n hx hb dX5_ask_52 rfl (lv_at hl 2 rfl) ?_
          refine gf_X5_history hx hb hE hw (Nat.zero_lt_one) hown (hts (.fieldLink RX5 26 "ZonedLight" "history" "LZonedLight$History;") (by decide +kernel)) dX5_ask_53 ?_
          refine lv_aload_n hx hb dX5_ask_56 rfl (lv_at hl 2 rfl) ?_
          refine gf_X5_now hx hb hE hw (Nat.zero_lt_one) hown (hts (.fieldLink RX5 12 "ZonedLight" "now" "LZonedLight$Screen;") (by decide +kernel)) dX5_ask_57 ?_
          refine g_Vv (n := 1) (As := [.ref (G.1 0 0)]) (rest := []) hx hb hml hown hts hE hw hS gX5_ask_X0_record (c_X0_record l G A _ _ _ ho hn eo en) rfl (by decide +kernel) ⟨Nat.le_of_ble_eq_true rfl, Nat.le_of_ble_eq_true rfl⟩ (Nat.zero_lt_one) rfl rfl rfl rfl hl.1 rfl (Nat.le_of_ble_eq_true rfl) ⟨Nat.le_of_ble_eq_true rfl, Nat.le_of_ble_eq_true rfl⟩ dX5_ask_60 (fun τ_60 H locs hp_60 hw hS => ?_)
          have hr60 := hp_60
          refine lv_aload_n hx hb dX5_ask_63 rfl (lv_at hl 2 rfl) ?_
          refine gf_X5_now hx hb hE hw (Nat.zero_lt_one) hown (hts (.fieldLink RX5 12 "ZonedLight" "now" "LZonedLight$Screen;") (by decide +kernel)) dX5_ask_64 ?_
          refine gf_X3_asked hx hb hE hw (by decide) hown (hts (.fieldLink RX5 66 "ZonedLight$Screen" "asked" "[I") (by decide +kernel)) dX5_ask_67 ?_
          refine lv_iload hx hb dX5_ask_70 (lv_at hl 1 rfl) ?_
          refine lv_iload_n hx hb dX5_ask_72 rfl (lv_at hl 5 rfl) ?_
          refine g_ast hx hb hE hw hS (n := 288) (by decide) (by decide) (fun _ => rfl) rfl (by decide) (by omega) dX5_ask_73 (fun H locs hw hS => ?_)
          refine lv_iload hx hb dX5_ask_74 (lv_at hl 0 rfl) ?_
          refine g_iret hx hb hr hlk hE hw hS dX5_ask_76 ?_
          refine act_go (by rw [askF_go hX hY (fun q => q.elim c_11 (fun z => Int32.not_lt.mpr c_18 z)) (by rw [e40]; exact c_46), e40]) hr60 (sameC.rf.us (Or.inr ⟨by decide, rfl⟩) (by omega)) ?_
          rw [scr_put1 (by omega), rec_now hr60]
        · refine lv_bipush (v := (-5)) hx hb dX5_ask_49 (by decide) ?_
          refine g_iret hx hb hr hlk hE hw hS dX5_ask_51 ?_
          exact act_no (askF_none hX hY (fun q => q.elim c_11 (fun z => Int32.not_lt.mpr c_18 z)) (e40.trans c_46))
      · refine lv_bipush (v := (-2)) hx hb dX5_ask_21 (by decide) ?_
        refine g_iret hx hb hr hlk hE hw hS dX5_ask_23 ?_
        first | exact act_no (askF_bad (onP_nI hX hY) (Or.inl c_11)) | exact act_no (askF_bad (onP_nI hX hY) (Or.inr (Int32.not_le.mp c_18)))
  · refine lv_iconst (v := (-1)) hx hb dX5_ask_8 (by decide) ?_
    refine g_iret hx hb hr hlk hE hw hS dX5_ask_9 ?_
    exact act_no (askF_off (bP_f hb_2 c_5))
set_option maxHeartbeats 4000000 in
set_option maxRecDepth 100000 in
/-- ZonedLight.move(I)I -/
theorem c_X5_move (l : Launch) (G : GG) (A : Nat → Prop) (σ : St) (w : Int32) (o : Nat) (n : Nat) (ho : o < 4) (hn : n ≤ 4) (eo : σ 6 0 1 = nI o) (en : σ 6 0 2 = nI n) : MI l yX5_move wsX5_move 3 69 G A σ [.ref (G.1 5 0), .int w] (fun r τ => actC σ τ r (movF (scr σ 0) w) o n) := by
  refine MI.on (by decide) rfl (Nat.le_of_ble_eq_true rfl) (fun pP eE sS mM args below meth cC ls hx hb hml hr hown hlk hts hE hw hS hl => ?_)
  have hl : lv_has ls 2 [(0, .ref (G.1 5 0)), (1, .int w)] := hl
  refine lv_iload_n hx hb dX5_move_0 rfl (lv_at hl 1 rfl) ?_
  refine lv_if_lt (tgt := 9) hx hb dX5_move_1 (by decide) (fun c_1 => ?_) (fun c_1 => ?_)
  · refine lv_bipush (v := (-2)) hx hb dX5_move_9 (by decide) ?_
    refine g_iret hx hb hr hlk hE hw hS dX5_move_11 ?_
    first | exact act_no (if_pos (Or.inl c_1)) | exact act_no (if_pos (Or.inr (Int32.not_lt.mp c_6)))
  · refine lv_iload_n hx hb dX5_move_4 rfl (lv_at hl 1 rfl) ?_
    refine lv_iconst (v := nI 4) hx hb dX5_move_5 (by decide) ?_
    refine lv_icmp_lt (tgt := 12) hx hb dX5_move_6 (by decide) (fun c_6 => ?_) (fun c_6 => ?_)
    · obtain ⟨k, hk, rfl⟩ := (inN_iff (n := 4) (by decide)).mpr ⟨c_1, Int32.not_le.mpr c_6⟩
      refine lv_aload_n hx hb dX5_move_12 rfl (lv_at hl 0 rfl) ?_
      refine gf_X5_history hx hb hE hw (Nat.zero_lt_one) hown (hts (.fieldLink RX5 26 "ZonedLight" "history" "LZonedLight$History;") (by decide +kernel)) dX5_move_13 ?_
      refine lv_aload_n hx hb dX5_move_16 rfl (lv_at hl 0 rfl) ?_
      refine gf_X5_now hx hb hE hw (Nat.zero_lt_one) hown (hts (.fieldLink RX5 12 "ZonedLight" "now" "LZonedLight$Screen;") (by decide +kernel)) dX5_move_17 ?_
      refine g_Vv (n := 1) (As := [.ref (G.1 0 0)]) (rest := []) hx hb hml hown hts hE hw hS gX5_move_X0_record (c_X0_record l G A _ _ _ ho hn eo en) rfl (by decide +kernel) ⟨Nat.le_of_ble_eq_true rfl, Nat.le_of_ble_eq_true rfl⟩ (Nat.zero_lt_one) rfl rfl rfl rfl hl.1 rfl (Nat.le_of_ble_eq_true rfl) ⟨Nat.le_of_ble_eq_true rfl, Nat.le_of_ble_eq_true rfl⟩ dX5_move_20 (fun τ_20 H locs hp_20 hw hS => ?_)
      refine lv_aload_n hx hb dX5_move_23 rfl (lv_at hl 0 rfl) ?_
      refine g_Vv (n := 0) (As := []) (rest := []) hx hb hml hown hts hE hw hS gX5_move_X5_rememberPicture (c_X5_rememberPicture l G A _ ) rfl (by decide +kernel) ⟨Nat.le_of_ble_eq_true rfl, Nat.le_of_ble_eq_true rfl⟩ (Nat.zero_lt_one) rfl rfl rfl rfl hl.1 rfl (Nat.le_of_ble_eq_true rfl) ⟨Nat.le_of_ble_eq_true rfl, Nat.le_of_ble_eq_true rfl⟩ dX5_move_24 (fun τ_24 H locs hp_24 hw hS => ?_)
      refine lv_aload_n hx hb dX5_move_27 rfl (lv_at hl 0 rfl) ?_
      refine gf_X5_now hx hb hE hw (Nat.zero_lt_one) hown (hts (.fieldLink RX5 12 "ZonedLight" "now" "LZonedLight$Screen;") (by decide +kernel)) dX5_move_28 ?_
      refine lv_aload_n hx hb dX5_move_31 rfl (lv_at hl 0 rfl) ?_
      refine gf_X5_pictureBefore hx hb hE hw (Nat.zero_lt_one) hown (hts (.fieldLink RX5 54 "ZonedLight" "pictureBefore" "[I") (by decide +kernel)) dX5_move_32 ?_
      refine g_gets hx hb hS hE.2.2.2.2.2.2.1 hown (hts (.fieldLink RX5 93 "ZonedLight" "FROM_X" "[I") (by decide +kernel)) dX5_move_35 (fun t_35 ht_35 => ?_)
      refine lv_iload_n hx hb dX5_move_38 rfl (lv_at hl 1 rfl) ?_
      refine g_tld hx hb hS ht_35 (by decide) (by omega) dX5_move_39 ?_
      refine lv_topi (fun x_39 ex_39 => ?_)
      refine g_gets hx hb hS hE.2.2.2.2.2.2.2.1 hown (hts (.fieldLink RX5 96 "ZonedLight" "FROM_Y" "[I") (by decide +kernel)) dX5_move_40 (fun t_40 ht_40 => ?_)
      refine lv_iload_n hx hb dX5_move_43 rfl (lv_at hl 1 rfl) ?_
      refine g_tld hx hb hS ht_40 (by decide) (by omega) dX5_move_44 ?_
      refine lv_topi (fun x_44 ex_44 => ?_)
      refine g_Vv (n := 3) (As := [.ref (G.1 15 0), .int x_39, .int x_44]) (rest := []) hx hb hml hown hts hE hw hS gX5_move_X3_takeShifted (c_X3_takeShifted l G A _ 0 x_39 x_44 (by omega)) rfl (by decide +kernel) ⟨Nat.le_of_ble_eq_true rfl, Nat.le_of_ble_eq_true rfl⟩ (by decide) rfl rfl rfl rfl hl.1 rfl (Nat.le_of_ble_eq_true rfl) ⟨Nat.le_of_ble_eq_true rfl, Nat.le_of_ble_eq_true rfl⟩ dX5_move_45 (fun τ_45 H locs hp_45 hw hS => ?_)
      refine lv_aload_n hx hb dX5_move_48 rfl (lv_at hl 0 rfl) ?_
      refine g_Vi (n := 0) (As := []) (rest := []) hx hb hml hown hts hE hw hS gX5_move_X5_changedSpots (c_X5_changedSpots l G A _ ) rfl (by decide +kernel) ⟨Nat.le_of_ble_eq_true rfl, Nat.le_of_ble_eq_true rfl⟩ (Nat.zero_lt_one) rfl rfl rfl rfl hl.1 rfl (Nat.le_of_ble_eq_true rfl) ⟨Nat.le_of_ble_eq_true rfl, Nat.le_of_ble_eq_true rfl⟩ dX5_move_49 (fun r_49 τ_49 H locs hp_49 hw hS => ?_)
      obtain ⟨rfl, hτ_49⟩ := hp_49
      rw [hτ_49] at hw
      refine g_iret hx hb hr hlk hE hw hS dX5_move_52 ?_
      have e0 : scr τ_20 0 = scr σ 0 := rec_now hp_20
      exact mov_end hk hp_20 hp_24 (by rw [hp_45, ex_39, ex_44])
    · refine lv_bipush (v := (-2)) hx hb dX5_move_9 (by decide) ?_
      refine g_iret hx hb hr hlk hE hw hS dX5_move_11 ?_
      first | exact act_no (if_pos (Or.inl c_1)) | exact act_no (if_pos (Or.inr (Int32.not_lt.mp c_6)))
set_option maxHeartbeats 4000000 in
set_option maxRecDepth 100000 in
/-- ZonedLight.kill(IZ)I -/
theorem c_X5_kill (l : Launch) (G : GG) (A : Nat → Prop) (σ : St) (z : Int32) (d : Int32) (o : Nat) (n : Nat) (hd : d = 0 ∨ d = 1) (ho : o < 4) (hn : n ≤ 4) (eo : σ 6 0 1 = nI o) (en : σ 6 0 2 = nI n) : MI l yX5_kill wsX5_kill 3 69 G A σ [.ref (G.1 5 0), .int z, .int d] (fun r τ => actC σ τ r (killF (scr σ 0) z d) o n) := by
  refine MI.on (by decide) rfl (Nat.le_of_ble_eq_true rfl) (fun pP eE sS mM args below meth cC ls hx hb hml hr hown hlk hts hE hw hS hl => ?_)
  have hl : lv_has ls 4 [(0, .ref (G.1 5 0)), (1, .int z), (2, .int d)] := hl
  refine lv_iload_n hx hb dX5_kill_0 rfl (lv_at hl 1 rfl) ?_
  refine g_Si (n := 1) (As := [.int z]) (rest := []) hx hb hml hown hts hE hw hS gX5_kill_X5_isZone (c_X5_isZone l G A _ z) rfl (by decide +kernel) ⟨Nat.le_of_ble_eq_true rfl, Nat.le_of_ble_eq_true rfl⟩ rfl hl.1 rfl (Nat.le_of_ble_eq_true rfl) ⟨Nat.le_of_ble_eq_true rfl, Nat.le_of_ble_eq_true rfl⟩ dX5_kill_1 (fun x_1 τ_1 H locs hp_1 hw hS => ?_)
  obtain ⟨hb_1, hτ_1⟩ := hp_1
  rw [hτ_1] at hw
  refine lv_if_ne (tgt := 9) hx hb dX5_kill_4 (by decide) (fun c_4 => ?_) (fun c_4 => ?_)
  · obtain ⟨k, hk, rfl⟩ := bP_t hb_1 c_4
    refine lv_aload_n hx hb dX5_kill_9 rfl (lv_at hl 0 rfl) ?_
    refine gf_X5_now hx hb hE hw (Nat.zero_lt_one) hown (hts (.fieldLink RX5 12 "ZonedLight" "now" "LZonedLight$Screen;") (by decide +kernel)) dX5_kill_10 ?_
    refine gf_X3_dead hx hb hE hw (by decide) hown (hts (.fieldLink RX5 107 "ZonedLight$Screen" "dead" "[Z") (by decide +kernel)) dX5_kill_13 ?_
    refine lv_iload_n hx hb dX5_kill_16 rfl (lv_at hl 1 rfl) ?_
    refine g_zald hx hb hE hw (n := 18) (by decide) rfl (by decide) (by omega) dX5_kill_17 ?_
    refine lv_topi (fun x_17 ex_17 => ?_)
    have e17 : scr σ 0 (306 + k) = x_17 := by rw [ex_17]; exact scr_dead hk
    refine lv_iload_n hx hb dX5_kill_18 rfl (lv_at hl 2 rfl) ?_
    refine lv_icmp_ne (tgt := 25) hx hb dX5_kill_19 (by decide) (fun c_19 => ?_) (fun c_19 => ?_)
    · refine lv_aload_n hx hb dX5_kill_25 rfl (lv_at hl 0 rfl) ?_
      refine gf_X5_history hx hb hE hw (Nat.zero_lt_one) hown (hts (.fieldLink RX5 26 "ZonedLight" "history" "LZonedLight$History;") (by decide +kernel)) dX5_kill_26 ?_
      refine lv_aload_n hx hb dX5_kill_29 rfl (lv_at hl 0 rfl) ?_
      refine gf_X5_now hx hb hE hw (Nat.zero_lt_one) hown (hts (.fieldLink RX5 12 "ZonedLight" "now" "LZonedLight$Screen;") (by decide +kernel)) dX5_kill_30 ?_
      refine g_Vv (n := 1) (As := [.ref (G.1 0 0)]) (rest := []) hx hb hml hown hts hE hw hS gX5_kill_X0_record (c_X0_record l G A _ _ _ ho hn eo en) rfl (by decide +kernel) ⟨Nat.le_of_ble_eq_true rfl, Nat.le_of_ble_eq_true rfl⟩ (Nat.zero_lt_one) rfl rfl rfl rfl hl.1 rfl (Nat.le_of_ble_eq_true rfl) ⟨Nat.le_of_ble_eq_true rfl, Nat.le_of_ble_eq_true rfl⟩ dX5_kill_33 (fun τ_33 H locs hp_33 hw hS => ?_)
      refine lv_aload_n hx hb dX5_kill_36 rfl (lv_at hl 0 rfl) ?_
      refine gf_X5_now hx hb hE hw (Nat.zero_lt_one) hown (hts (.fieldLink RX5 12 "ZonedLight" "now" "LZonedLight$Screen;") (by decide +kernel)) dX5_kill_37 ?_
      refine gf_X3_level hx hb hE hw (by decide) hown (hts (.fieldLink RX5 111 "ZonedLight$Screen" "level" "[I") (by decide +kernel)) dX5_kill_40 ?_
      refine lv_iload_n hx hb dX5_kill_43 rfl (lv_at hl 1 rfl) ?_
      refine g_ald hx hb hE hw (n := 18) (by decide) rfl (by decide) (by omega) dX5_kill_44 ?_
      refine lv_topi (fun x_44 ex_44 => ?_)
      have e44 : x_44 = scr σ 0 (288 + k) := by rw [ex_44, ← rec_now hp_33]; exact (scr_level hk).symm
      refine lv_istore_n (lv' := [(3, .int x_44), (0, .ref (G.1 5 0)), (1, .int (nI k)), (2, .int d)]) hx hb dX5_kill_45 rfl hl (by decide) rfl (fun ls hl => ?_)
      refine lv_aload_n hx hb dX5_kill_46 rfl (lv_at hl 1 rfl) ?_
      refine gf_X5_now hx hb hE hw (Nat.zero_lt_one) hown (hts (.fieldLink RX5 12 "ZonedLight" "now" "LZonedLight$Screen;") (by decide +kernel)) dX5_kill_47 ?_
      refine gf_X3_dead hx hb hE hw (by decide) hown (hts (.fieldLink RX5 107 "ZonedLight$Screen" "dead" "[Z") (by decide +kernel)) dX5_kill_50 ?_
      refine lv_iload_n hx hb dX5_kill_53 rfl (lv_at hl 2 rfl) ?_
      refine lv_iload_n hx hb dX5_kill_54 rfl (lv_at hl 3 rfl) ?_
      refine g_zast hx hb hE hw hS (n := 18) (by decide) (fun _ => rfl) rfl (by decide) (by omega) hd dX5_kill_55 (fun H locs hw hS => ?_)
      refine lv_aload_n hx hb dX5_kill_56 rfl (lv_at hl 1 rfl) ?_
      refine gf_X5_now hx hb hE hw (Nat.zero_lt_one) hown (hts (.fieldLink RX5 12 "ZonedLight" "now" "LZonedLight$Screen;") (by decide +kernel)) dX5_kill_57 ?_
      refine gf_X3_level hx hb hE hw (by decide) hown (hts (.fieldLink RX5 111 "ZonedLight$Screen" "level" "[I") (by decide +kernel)) dX5_kill_60 ?_
      refine lv_iload_n hx hb dX5_kill_63 rfl (lv_at hl 2 rfl) ?_
      refine lv_iconst (v := nI 0) hx hb dX5_kill_64 (by decide) ?_
      refine g_ast hx hb hE hw hS (n := 18) (by decide) (by decide) (fun _ => rfl) rfl (by decide) (by omega) dX5_kill_65 (fun H locs hw hS => ?_)
      refine lv_iload_n hx hb dX5_kill_66 rfl (lv_at hl 0 rfl) ?_
      refine g_iret hx hb hr hlk hE hw hS dX5_kill_67 ?_
      refine act_go (by rw [killF_go hk (by rw [e17]; exact c_19), e44]) hp_33 ((sameC.rf.us (Or.inr ⟨by decide, rfl⟩) (by omega)).us (Or.inr ⟨by decide, rfl⟩) (by omega)) ?_
      rw [scr_put2 hk, scr_put3 hk, rec_now hp_33]
      rfl
    · refine lv_bipush (v := (-5)) hx hb dX5_kill_22 (by decide) ?_
      refine g_iret hx hb hr hlk hE hw hS dX5_kill_24 ?_
      exact act_no (killF_none hk (e17.trans c_19))
  · refine lv_iconst (v := (-1)) hx hb dX5_kill_7 (by decide) ?_
    refine g_iret hx hb hr hlk hE hw hS dX5_kill_8 ?_
    exact act_no (killF_no (bP_f hb_1 c_4))
set_option maxHeartbeats 4000000 in
set_option maxRecDepth 100000 in
/-- ZonedLight.pass(I)I -/
theorem c_X5_pass (l : Launch) (G : GG) (A : Nat → Prop) (σ : St) (f : Int32) (o : Nat) (n : Nat) (hok : okW (scr σ 0)) (ho : o < 4) (hn : n ≤ 4) (eo : σ 6 0 1 = nI o) (en : σ 6 0 2 = nI n) : MI l yX5_pass wsX5_pass 6 137 G A σ [.ref (G.1 5 0), .int f] (fun r τ => actC σ τ r (pasF (scr σ 0) f) o n) := by
  refine MI.on (by decide) rfl (Nat.le_of_ble_eq_true rfl) (fun pP eE sS mM args below meth cC ls hx hb hml hr hown hlk hts hE hw hS hl => ?_)
  have hl : lv_has ls 3 [(0, .ref (G.1 5 0)), (1, .int f)] := hl
  refine lv_iload_n hx hb dX5_pass_0 rfl (lv_at hl 1 rfl) ?_
  refine lv_iconst (v := nI 1) hx hb dX5_pass_1 (by decide) ?_
  refine lv_icmp_lt (tgt := 11) hx hb dX5_pass_2 (by decide) (fun c_2 => ?_) (fun c_2 => ?_)
  · refine lv_bipush (v := (-2)) hx hb dX5_pass_11 (by decide) ?_
    refine g_iret hx hb hr hlk hE hw hS dX5_pass_13 ?_
    first | exact act_no (if_pos (Or.inl c_2)) | exact act_no (if_pos (Or.inr (Int32.not_le.mp c_8)))
  · refine lv_iload_n hx hb dX5_pass_5 rfl (lv_at hl 1 rfl) ?_
    refine lv_bipush (v := nI 99) hx hb dX5_pass_6 (by decide) ?_
    refine lv_icmp_le (tgt := 14) hx hb dX5_pass_8 (by decide) (fun c_8 => ?_) (fun c_8 => ?_)
    · obtain ⟨F, hF1, hF, ef⟩ := fr_nat c_2 c_8
      rw [ef] at hl
      refine lv_aload_n hx hb dX5_pass_14 rfl (lv_at hl 0 rfl) ?_
      refine gf_X5_history hx hb hE hw (Nat.zero_lt_one) hown (hts (.fieldLink RX5 26 "ZonedLight" "history" "LZonedLight$History;") (by decide +kernel)) dX5_pass_15 ?_
      refine lv_aload_n hx hb dX5_pass_18 rfl (lv_at hl 0 rfl) ?_
      refine gf_X5_now hx hb hE hw (Nat.zero_lt_one) hown (hts (.fieldLink RX5 12 "ZonedLight" "now" "LZonedLight$Screen;") (by decide +kernel)) dX5_pass_19 ?_
      refine g_Vv (n := 1) (As := [.ref (G.1 0 0)]) (rest := []) hx hb hml hown hts hE hw hS gX5_pass_X0_record (c_X0_record l G A _ _ _ ho hn eo en) rfl (by decide +kernel) ⟨Nat.le_of_ble_eq_true rfl, Nat.le_of_ble_eq_true rfl⟩ (Nat.zero_lt_one) rfl rfl rfl rfl hl.1 rfl (Nat.le_of_ble_eq_true rfl) ⟨Nat.le_of_ble_eq_true rfl, Nat.le_of_ble_eq_true rfl⟩ dX5_pass_22 (fun τ_22 H locs hp_22 hw hS => ?_)
      refine lv_aload_n hx hb dX5_pass_25 rfl (lv_at hl 0 rfl) ?_
      refine gf_X5_plan hx hb hE hw (Nat.zero_lt_one) hown (hts (.fieldLink RX5 43 "ZonedLight" "plan" "LZonedLight$Plan;") (by decide +kernel)) dX5_pass_26 ?_
      refine lv_aload_n hx hb dX5_pass_29 rfl (lv_at hl 0 rfl) ?_
      refine gf_X5_now hx hb hE hw (Nat.zero_lt_one) hown (hts (.fieldLink RX5 12 "ZonedLight" "now" "LZonedLight$Screen;") (by decide +kernel)) dX5_pass_30 ?_
      refine g_Vv (n := 1) (As := [.ref (G.1 0 0)]) (rest := []) hx hb hml hown hts hE hw hS gX5_pass_X2_make (c_X2_make l G A _ 0 (by omega) (by rw [rec_now hp_22]; exact hok)) rfl (by decide +kernel) ⟨Nat.le_of_ble_eq_true rfl, Nat.le_of_ble_eq_true rfl⟩ (Nat.zero_lt_one) rfl rfl rfl rfl hl.1 rfl (Nat.le_of_ble_eq_true rfl) ⟨Nat.le_of_ble_eq_true rfl, Nat.le_of_ble_eq_true rfl⟩ dX5_pass_33 (fun τ_33 H locs hp_33 hw hS => ?_)
      obtain ⟨r13, hmk⟩ := hp_33
      have hnow := rec_now hp_22
      refine lv_iconst (v := nI 0) hx hb dX5_pass_36 (by decide) ?_
      refine lv_istore_n (lv' := [(2, .int (nI 0)), (0, .ref (G.1 5 0)), (1, .int (nI F))]) hx hb dX5_pass_37 rfl hl (by decide) rfl (fun ls hl => ?_)
      have K_38 : ∀ (fuel : Nat) (k : Nat) (σ2 : St), (k ≤ F) → (scr σ2 0 = framesK (scr σ 0) (wantF (scr σ 0) (scr σ 0 327)) k) → (σ2 12 0 = wantF (scr σ 0) (scr σ 0 327)) → (sameC τ_22 σ2 atNow) → F - k < fuel → ∀ (H : Heap) (locs : List Loc) (ls : Array Slot), Wcel G σ2 H → va_S A sS.heap H locs → lv_has ls 3 [(0, .ref (G.1 5 0)), (1, .int (nI F)), (2, .int (nI k))] → W pP l eE { frames := 6, cells := 0, slots := 0, locals := 137 } sS mM args below meth cC H locs 0 0 (MQ below (va_Qi (fun r τ => actC σ τ r (pasF (scr σ 0) f) o n) (fun τ t => gP G A τ t) A) args sS 0 0 A) (F0 mM 38 ls []) := by
        intro fuel
        induction fuel with
        | zero =>
          intro k σ2 hk h2 h3 h4 hfu
          exact absurd hfu (Nat.not_lt_zero _)
        | succ fuel K_38 =>
          intro k σ2 hk h2 h3 h4 hfu H locs ls hw hS hl
          refine lv_iload_n hx hb dX5_pass_38 rfl (lv_at hl 2 rfl) ?_
          refine lv_iload_n hx hb dX5_pass_39 rfl (lv_at hl 1 rfl) ?_
          refine n_cmp_ge (tgt := 63) hx hb dX5_pass_40 (by decide) (by omega) (by omega) (fun c_40 => ?_) (fun c_40 => ?_)
          · refine lv_aload_n hx hb dX5_pass_63 rfl (lv_at hl 0 rfl) ?_
            refine gf_X5_now hx hb hE hw (Nat.zero_lt_one) hown (hts (.fieldLink RX5 12 "ZonedLight" "now" "LZonedLight$Screen;") (by decide +kernel)) dX5_pass_64 ?_
            refine g_Vi (n := 0) (As := []) (rest := []) hx hb hml hown hts hE hw hS gX5_pass_X3_power (c_X3_power l G A _ 0 (by omega)) rfl (by decide +kernel) ⟨Nat.le_of_ble_eq_true rfl, Nat.le_of_ble_eq_true rfl⟩ (by decide) rfl rfl rfl rfl hl.1 rfl (Nat.le_of_ble_eq_true rfl) ⟨Nat.le_of_ble_eq_true rfl, Nat.le_of_ble_eq_true rfl⟩ dX5_pass_67 (fun x_67 τ_67 H locs hp_67 hw hS => ?_)
            obtain ⟨ex_67, hτ_67⟩ := hp_67
            rw [hτ_67] at hw
            refine g_iret hx hb hr hlk hE hw hS dX5_pass_70 ?_
            obtain rfl : k = F := by omega
            exact act_go (by rw [pasF, if_neg (fun q => q.elim c_2 (fun z => Int32.not_lt.mpr c_8 z)), ef, nI_clamp (by omega), ex_67, h2]) hp_22 h4 h2
          · refine lv_aload_n hx hb dX5_pass_43 rfl (lv_at hl 0 rfl) ?_
            refine gf_X5_now hx hb hE hw (Nat.zero_lt_one) hown (hts (.fieldLink RX5 12 "ZonedLight" "now" "LZonedLight$Screen;") (by decide +kernel)) dX5_pass_44 ?_
            refine lv_aload_n hx hb dX5_pass_47 rfl (lv_at hl 0 rfl) ?_
            refine gf_X5_plan hx hb hE hw (Nat.zero_lt_one) hown (hts (.fieldLink RX5 43 "ZonedLight" "plan" "LZonedLight$Plan;") (by decide +kernel)) dX5_pass_48 ?_
            refine gf_X2_level hx hb hE hw (Nat.zero_lt_one) hown (hts (.fieldLink RX5 117 "ZonedLight$Plan" "level" "[I") (by decide +kernel)) dX5_pass_51 ?_
            refine g_Vv (n := 1) (As := [.ref (G.1 12 0)]) (rest := []) hx hb hml hown hts hE hw hS gX5_pass_X3_passFrame (c_X3_passFrame l G A _ 0 (by omega)) rfl (by decide +kernel) ⟨Nat.le_of_ble_eq_true rfl, Nat.le_of_ble_eq_true rfl⟩ (by decide) rfl rfl rfl rfl hl.1 rfl (Nat.le_of_ble_eq_true rfl) ⟨Nat.le_of_ble_eq_true rfl, Nat.le_of_ble_eq_true rfl⟩ dX5_pass_54 (fun τ_54 H locs hp_54 hw hS => ?_)
            refine lv_iinc (v := nI (k + 1)) (lv' := [(2, .int (nI (k + 1))), (0, .ref (G.1 5 0)), (1, .int (nI F))]) hx hb dX5_pass_57 hl (k := 2) rfl (nI_add _ _) (by decide) rfl (fun ls hl => ?_)
            refine lv_goto (tgt := 38) hx hb dX5_pass_60 (by decide) ?_
            exact K_38 (k + 1) _ (by first | omega | assumption | rfl) (by rw [hp_54.1, h2, h3]; rfl) (by rw [hp_54.2 12 0 (by decide), h3]) (h4.eqX hp_54.2 (fun k q => Or.inr ⟨q, rfl⟩)) (by omega) _ _ _ hw hS (lv_sub hl [1, 2, 0] rfl)
      exact K_38 (F - 0 + 1) 0 _ (by first | omega | assumption | rfl) (by rw [hmk, scr_ur (by decide), scr_ur (by decide), hnow]; rfl) (by rw [hmk, ur_same, hnow]) (by rw [hmk]; exact (sameC.rf.ur (Or.inl (by unfold scrC; decide)) (by decide)).ur (Or.inl (by unfold scrC; decide)) (by decide)) (Nat.lt_succ_self _) _ _ _ hw hS (lv_sub hl [1, 2, 0] rfl)
    · refine lv_bipush (v := (-2)) hx hb dX5_pass_11 (by decide) ?_
      refine g_iret hx hb hr hlk hE hw hS dX5_pass_13 ?_
      first | exact act_no (if_pos (Or.inl c_2)) | exact act_no (if_pos (Or.inr (Int32.not_le.mp c_8)))
set_option maxHeartbeats 4000000 in
set_option maxRecDepth 100000 in
/-- ZonedLight.set(II)I -/
theorem c_X5_set (l : Launch) (G : GG) (A : Nat → Prop) (σ : St) (w : Int32) (v : Int32) (o : Nat) (n : Nat) (ho : o < 4) (hn : n ≤ 4) (eo : σ 6 0 1 = nI o) (en : σ 6 0 2 = nI n) : MI l yX5_set wsX5_set 3 69 G A σ [.ref (G.1 5 0), .int w, .int v] (fun r τ => actC σ τ r (setF (scr σ 0) w v) o n) := by
  refine MI.on (by decide) rfl (Nat.le_of_ble_eq_true rfl) (fun pP eE sS mM args below meth cC ls hx hb hml hr hown hlk hts hE hw hS hl => ?_)
  have hl : lv_has ls 4 [(0, .ref (G.1 5 0)), (1, .int w), (2, .int v)] := hl
  refine lv_iload_n hx hb dX5_set_0 rfl (lv_at hl 1 rfl) ?_
  refine lv_if_lt (tgt := 10) hx hb dX5_set_1 (by decide) (fun c_1 => ?_) (fun c_1 => ?_)
  · refine lv_bipush (v := (-2)) hx hb dX5_set_10 (by decide) ?_
    refine g_iret hx hb hr hlk hE hw hS dX5_set_12 ?_
    first | exact act_no (if_pos (Or.inl c_1)) | exact act_no (if_pos (Or.inr (Int32.not_lt.mp c_7)))
  · refine lv_iload_n hx hb dX5_set_4 rfl (lv_at hl 1 rfl) ?_
    refine lv_bipush (v := nI 8) hx hb dX5_set_5 (by decide) ?_
    refine lv_icmp_lt (tgt := 13) hx hb dX5_set_7 (by decide) (fun c_7 => ?_) (fun c_7 => ?_)
    · obtain ⟨k, hk, rfl⟩ := (inN_iff (n := 8) (by decide)).mpr ⟨c_1, Int32.not_le.mpr c_7⟩
      have ecl : (nI k).toNatClampNeg = k := nI_clamp (by omega)
      have hc0 : ¬ (nI k < 0 ∨ 8 ≤ nI k) := fun q => q.elim c_1 (fun z => Int32.not_lt.mpr z c_7)
      refine lv_iload_n hx hb dX5_set_13 rfl (lv_at hl 2 rfl) ?_
      refine g_gets hx hb hS hE.2.2.2.2.1 hown (hts (.fieldLink RX5 125 "ZonedLight" "LEAST_SETTING" "[I") (by decide +kernel)) dX5_set_14 (fun t_14 ht_14 => ?_)
      refine lv_iload_n hx hb dX5_set_17 rfl (lv_at hl 1 rfl) ?_
      refine g_tld hx hb hS ht_14 (by decide) (by omega) dX5_set_18 ?_
      refine lv_topi (fun x_18 ex_18 => ?_)
      refine lv_icmp_lt (tgt := 31) hx hb dX5_set_19 (by decide) (fun c_19 => ?_) (fun c_19 => ?_)
      · refine lv_bipush (v := (-2)) hx hb dX5_set_31 (by decide) ?_
        refine g_iret hx hb hr hlk hE hw hS dX5_set_33 ?_
        first | exact act_no (by rw [setF, if_neg hc0, ecl, if_pos (Or.inl (by rw [← ex_18]; exact c_19))]) | exact act_no (by rw [setF, if_neg hc0, ecl, if_pos (Or.inr (by rw [← ex_27]; exact Int32.not_le.mp c_28))])
      · refine lv_iload_n hx hb dX5_set_22 rfl (lv_at hl 2 rfl) ?_
        refine g_gets hx hb hS hE.2.2.2.2.2.1 hown (hts (.fieldLink RX5 128 "ZonedLight" "GREATEST_SETTING" "[I") (by decide +kernel)) dX5_set_23 (fun t_23 ht_23 => ?_)
        refine lv_iload_n hx hb dX5_set_26 rfl (lv_at hl 1 rfl) ?_
        refine g_tld hx hb hS ht_23 (by decide) (by omega) dX5_set_27 ?_
        refine lv_topi (fun x_27 ex_27 => ?_)
        refine lv_icmp_le (tgt := 34) hx hb dX5_set_28 (by decide) (fun c_28 => ?_) (fun c_28 => ?_)
        · refine lv_aload_n hx hb dX5_set_34 rfl (lv_at hl 0 rfl) ?_
          refine gf_X5_now hx hb hE hw (Nat.zero_lt_one) hown (hts (.fieldLink RX5 12 "ZonedLight" "now" "LZonedLight$Screen;") (by decide +kernel)) dX5_set_35 ?_
          refine gf_X3_setting hx hb hE hw (by decide) hown (hts (.fieldLink RX5 131 "ZonedLight$Screen" "setting" "[I") (by decide +kernel)) dX5_set_38 ?_
          refine lv_iload_n hx hb dX5_set_41 rfl (lv_at hl 1 rfl) ?_
          refine g_ald hx hb hE hw (n := 8) (by decide) rfl (by decide) (by omega) dX5_set_42 ?_
          refine lv_topi (fun x_42 ex_42 => ?_)
          have e42 : scr σ 0 (324 + k) = x_42 := by rw [ex_42]; exact scr_set hk
          refine lv_istore_n (lv' := [(3, .int x_42), (0, .ref (G.1 5 0)), (1, .int (nI k)), (2, .int v)]) hx hb dX5_set_43 rfl hl (by decide) rfl (fun ls hl => ?_)
          refine lv_iload_n hx hb dX5_set_44 rfl (lv_at hl 0 rfl) ?_
          refine lv_iload_n hx hb dX5_set_45 rfl (lv_at hl 3 rfl) ?_
          refine lv_icmp_ne (tgt := 52) hx hb dX5_set_46 (by decide) (fun c_46 => ?_) (fun c_46 => ?_)
          · refine lv_aload_n hx hb dX5_set_52 rfl (lv_at hl 1 rfl) ?_
            refine gf_X5_history hx hb hE hw (Nat.zero_lt_one) hown (hts (.fieldLink RX5 26 "ZonedLight" "history" "LZonedLight$History;") (by decide +kernel)) dX5_set_53 ?_
            refine lv_aload_n hx hb dX5_set_56 rfl (lv_at hl 1 rfl) ?_
            refine gf_X5_now hx hb hE hw (Nat.zero_lt_one) hown (hts (.fieldLink RX5 12 "ZonedLight" "now" "LZonedLight$Screen;") (by decide +kernel)) dX5_set_57 ?_
            refine g_Vv (n := 1) (As := [.ref (G.1 0 0)]) (rest := []) hx hb hml hown hts hE hw hS gX5_set_X0_record (c_X0_record l G A _ _ _ ho hn eo en) rfl (by decide +kernel) ⟨Nat.le_of_ble_eq_true rfl, Nat.le_of_ble_eq_true rfl⟩ (Nat.zero_lt_one) rfl rfl rfl rfl hl.1 rfl (Nat.le_of_ble_eq_true rfl) ⟨Nat.le_of_ble_eq_true rfl, Nat.le_of_ble_eq_true rfl⟩ dX5_set_60 (fun τ_60 H locs hp_60 hw hS => ?_)
            refine lv_aload_n hx hb dX5_set_63 rfl (lv_at hl 1 rfl) ?_
            refine gf_X5_now hx hb hE hw (Nat.zero_lt_one) hown (hts (.fieldLink RX5 12 "ZonedLight" "now" "LZonedLight$Screen;") (by decide +kernel)) dX5_set_64 ?_
            refine gf_X3_setting hx hb hE hw (by decide) hown (hts (.fieldLink RX5 131 "ZonedLight$Screen" "setting" "[I") (by decide +kernel)) dX5_set_67 ?_
            refine lv_iload_n hx hb dX5_set_70 rfl (lv_at hl 2 rfl) ?_
            refine lv_iload_n hx hb dX5_set_71 rfl (lv_at hl 3 rfl) ?_
            refine g_ast hx hb hE hw hS (n := 8) (by decide) (by decide) (fun _ => rfl) rfl (by decide) (by omega) dX5_set_72 (fun H locs hw hS => ?_)
            refine lv_iload_n hx hb dX5_set_73 rfl (lv_at hl 0 rfl) ?_
            refine g_iret hx hb hr hlk hE hw hS dX5_set_74 ?_
            refine act_go (by rw [setF, if_neg hc0, ecl, if_neg (fun q => q.elim (fun z => c_19 (by rw [ex_18]; exact z)) (fun z => Int32.not_lt.mpr c_28 (by rw [ex_27]; exact z))), if_neg (by rw [e42]; exact c_46), e42]) hp_60 (sameC.rf.us (Or.inr ⟨by decide, rfl⟩) (by omega)) ?_
            rw [scr_put4 hk, rec_now hp_60]
          · refine lv_bipush (v := (-5)) hx hb dX5_set_49 (by decide) ?_
            refine g_iret hx hb hr hlk hE hw hS dX5_set_51 ?_
            exact act_no (by rw [setF, if_neg hc0, ecl, if_neg (fun q => q.elim (fun z => c_19 (by rw [ex_18]; exact z)) (fun z => Int32.not_lt.mpr c_28 (by rw [ex_27]; exact z))), if_pos (e42.trans c_46)])
        · refine lv_bipush (v := (-2)) hx hb dX5_set_31 (by decide) ?_
          refine g_iret hx hb hr hlk hE hw hS dX5_set_33 ?_
          first | exact act_no (by rw [setF, if_neg hc0, ecl, if_pos (Or.inl (by rw [← ex_18]; exact c_19))]) | exact act_no (by rw [setF, if_neg hc0, ecl, if_pos (Or.inr (by rw [← ex_27]; exact Int32.not_le.mp c_28))])
    · refine lv_bipush (v := (-2)) hx hb dX5_set_10 (by decide) ?_
      refine g_iret hx hb hr hlk hE hw hS dX5_set_12 ?_
      first | exact act_no (if_pos (Or.inl c_1)) | exact act_no (if_pos (Or.inr (Int32.not_lt.mp c_7)))
set_option maxHeartbeats 4000000 in
set_option maxRecDepth 100000 in
/-- ZonedLight.type(C)I -/
theorem c_X5_type (l : Launch) (G : GG) (A : Nat → Prop) (σ : St) (t : Nat) (c : Int32) (ht : t ≤ 60) (et : σ 8 0 1 = nI t) (hc : vp_nar .char c = c) : MI l yX5_type wsX5_type 1 21 G A σ [.ref (G.1 5 0), .int c] (fun r τ => (t = 60 ∧ r = -3 ∧ τ = σ) ∨ (t < 60 ∧ r = nI (t + 1) ∧ τ = us (us σ 9 0 t c) 8 0 1 (nI (t + 1)))) := by
  refine MI.on (by decide) rfl (Nat.le_of_ble_eq_true rfl) (fun pP eE sS mM args below meth cC ls hx hb hml hr hown hlk hts hE hw hS hl => ?_)
  have hl : lv_has ls 2 [(0, .ref (G.1 5 0)), (1, .int c)] := hl
  refine lv_aload_n hx hb dX5_type_0 rfl (lv_at hl 0 rfl) ?_
  refine gf_X5_text hx hb hE hw (Nat.zero_lt_one) hown (hts (.fieldLink RX5 33 "ZonedLight" "text" "LZonedLight$PictureText;") (by decide +kernel)) dX5_type_1 ?_
  refine lv_iload_n hx hb dX5_type_4 rfl (lv_at hl 1 rfl) ?_
  refine g_Vi (n := 1) (As := [.int c]) (rest := []) hx hb hml hown hts hE hw hS gX5_type_X1_append (c_X1_append l G A _ t c (by omega) (by omega) hc) rfl (by decide +kernel) ⟨Nat.le_of_ble_eq_true rfl, Nat.le_of_ble_eq_true rfl⟩ (Nat.zero_lt_one) rfl rfl rfl rfl hl.1 rfl (Nat.le_of_ble_eq_true rfl) ⟨Nat.le_of_ble_eq_true rfl, Nat.le_of_ble_eq_true rfl⟩ dX5_type_5 (fun x_5 τ_5 H locs hp_5 hw hS => ?_)
  refine lv_if_eq (tgt := 21) hx hb dX5_type_8 (by decide) (fun c_8 => ?_) (fun c_8 => ?_)
  · refine lv_bipush (v := (-3)) hx hb dX5_type_21 (by decide) ?_
    refine g_iret hx hb hr hlk hE hw hS dX5_type_23 ?_
    rcases hp_5 with ⟨g1, g2, g3⟩ | ⟨g1, g2, g3⟩
    · first | exact absurd (g2 ▸ c_8 : ¬ nI 0 = 0) (fun q => q rfl) | exact Or.inl ⟨g1, rfl, g3⟩ | exact absurd g2 c_8
    · first | exact absurd (g2 ▸ c_8 : nI 1 = 0) (by decide) | exact Or.inr ⟨g1, by rw [ex_15, g3, us_at], g3⟩
  · refine lv_aload_n hx hb dX5_type_11 rfl (lv_at hl 0 rfl) ?_
    refine gf_X5_text hx hb hE hw (Nat.zero_lt_one) hown (hts (.fieldLink RX5 33 "ZonedLight" "text" "LZonedLight$PictureText;") (by decide +kernel)) dX5_type_12 ?_
    refine gf_X1_length hx hb hE hw (Nat.zero_lt_one) hown (hts (.fieldLink RX5 138 "ZonedLight$PictureText" "length" "I") (by decide +kernel)) dX5_type_15 ?_
    refine lv_topi (fun x_15 ex_15 => ?_)
    refine lv_goto (tgt := 23) hx hb dX5_type_18 (by decide) ?_
    refine g_iret hx hb hr hlk hE hw hS dX5_type_23 ?_
    rcases hp_5 with ⟨g1, g2, g3⟩ | ⟨g1, g2, g3⟩
    · first | exact absurd (g2 ▸ c_8 : ¬ nI 0 = 0) (fun q => q rfl) | exact Or.inl ⟨g1, rfl, g3⟩ | exact absurd g2 c_8
    · first | exact absurd (g2 ▸ c_8 : nI 1 = 0) (by decide) | exact Or.inr ⟨g1, by rw [ex_15, g3, us_at], g3⟩
set_option maxHeartbeats 4000000 in
set_option maxRecDepth 100000 in
/-- ZonedLight.clearText()I -/
theorem c_X5_clearText (l : Launch) (G : GG) (A : Nat → Prop) (σ : St)   : MI l yX5_clearText wsX5_clearText 0 0 G A σ [.ref (G.1 5 0)] (fun r τ => r = σ 8 0 1 ∧ τ = us σ 8 0 1 0) := by
  refine MI.on (by decide) rfl (Nat.le_of_ble_eq_true rfl) (fun pP eE sS mM args below meth cC ls hx hb hml hr hown hlk hts hE hw hS hl => ?_)
  have hl : lv_has ls 2 [(0, .ref (G.1 5 0))] := hl
  refine lv_aload_n hx hb dX5_clearText_0 rfl (lv_at hl 0 rfl) ?_
  refine gf_X5_text hx hb hE hw (Nat.zero_lt_one) hown (hts (.fieldLink RX5 33 "ZonedLight" "text" "LZonedLight$PictureText;") (by decide +kernel)) dX5_clearText_1 ?_
  refine gf_X1_length hx hb hE hw (Nat.zero_lt_one) hown (hts (.fieldLink RX5 138 "ZonedLight$PictureText" "length" "I") (by decide +kernel)) dX5_clearText_4 ?_
  refine lv_topi (fun x_4 ex_4 => ?_)
  refine lv_istore_n (lv' := [(1, .int x_4), (0, .ref (G.1 5 0))]) hx hb dX5_clearText_7 rfl hl (by decide) rfl (fun ls hl => ?_)
  refine lv_aload_n hx hb dX5_clearText_8 rfl (lv_at hl 1 rfl) ?_
  refine gf_X5_text hx hb hE hw (Nat.zero_lt_one) hown (hts (.fieldLink RX5 33 "ZonedLight" "text" "LZonedLight$PictureText;") (by decide +kernel)) dX5_clearText_9 ?_
  refine lv_iconst (v := nI 0) hx hb dX5_clearText_12 (by decide) ?_
  refine gp_X1_length hx hb hE hw hS (Nat.zero_lt_one) hown (hts (.fieldLink RX5 138 "ZonedLight$PictureText" "length" "I") (by decide +kernel)) dX5_clearText_13 (fun H locs hw hS => ?_)
  refine lv_iload_n hx hb dX5_clearText_16 rfl (lv_at hl 0 rfl) ?_
  refine g_iret hx hb hr hlk hE hw hS dX5_clearText_17 ?_
  exact ⟨ex_4, rfl⟩
set_option maxHeartbeats 4000000 in
set_option maxRecDepth 100000 in
/-- ZonedLight.fault()I -/
theorem c_X5_fault (l : Launch) (G : GG) (A : Nat → Prop) (σ : St) (t : Nat) (ht : t ≤ 60) (et : σ 8 0 1 = nI t) : MI l yX5_fault wsX5_fault 2 49 G A σ [.ref (G.1 5 0)] (fun r τ => r = (rdF (σ 9 0) t).1 ∧ keepC σ τ) := by
  refine MI.on (by decide) rfl (Nat.le_of_ble_eq_true rfl) (fun pP eE sS mM args below meth cC ls hx hb hml hr hown hlk hts hE hw hS hl => ?_)
  have hl : lv_has ls 1 [(0, .ref (G.1 5 0))] := hl
  refine lv_aload_n hx hb dX5_fault_0 rfl (lv_at hl 0 rfl) ?_
  refine gf_X5_text hx hb hE hw (Nat.zero_lt_one) hown (hts (.fieldLink RX5 33 "ZonedLight" "text" "LZonedLight$PictureText;") (by decide +kernel)) dX5_fault_1 ?_
  refine g_Vi (n := 0) (As := []) (rest := []) hx hb hml hown hts hE hw hS gX5_fault_X1_read (c_X1_read l G A _ _ (by omega) (by omega)) rfl (by decide +kernel) ⟨Nat.le_of_ble_eq_true rfl, Nat.le_of_ble_eq_true rfl⟩ (Nat.zero_lt_one) rfl rfl rfl rfl hl.1 rfl (Nat.le_of_ble_eq_true rfl) ⟨Nat.le_of_ble_eq_true rfl, Nat.le_of_ble_eq_true rfl⟩ dX5_fault_4 (fun x_4 τ_4 H locs hp_4 hw hS => ?_)
  refine g_iret hx hb hr hlk hE hw hS dX5_fault_7 ?_
  exact ⟨hp_4.choose_spec.choose_spec.2.1, readP_keep hp_4⟩
set_option maxHeartbeats 4000000 in
set_option maxRecDepth 100000 in
/-- ZonedLight.keep()I -/
theorem c_X5_keep (l : Launch) (G : GG) (A : Nat → Prop) (σ : St)   : MI l yX5_keep wsX5_keep 2 48 G A σ [.ref (G.1 5 0)] (fun r τ => r = scr σ 0 332 ∧ scr τ 1 = scr σ 0 ∧ τ 5 0 2 = 1 ∧ sameC σ τ (fun k i => (k < 5 ∧ i = 1) ∨ k = 5)) := by
  refine MI.on (by decide) rfl (Nat.le_of_ble_eq_true rfl) (fun pP eE sS mM args below meth cC ls hx hb hml hr hown hlk hts hE hw hS hl => ?_)
  have hl : lv_has ls 1 [(0, .ref (G.1 5 0))] := hl
  refine lv_aload_n hx hb dX5_keep_0 rfl (lv_at hl 0 rfl) ?_
  refine gf_X5_snapshot hx hb hE hw (Nat.zero_lt_one) hown (hts (.fieldLink RX5 16 "ZonedLight" "snapshot" "LZonedLight$Screen;") (by decide +kernel)) dX5_keep_1 ?_
  refine lv_aload_n hx hb dX5_keep_4 rfl (lv_at hl 0 rfl) ?_
  refine gf_X5_now hx hb hE hw (Nat.zero_lt_one) hown (hts (.fieldLink RX5 12 "ZonedLight" "now" "LZonedLight$Screen;") (by decide +kernel)) dX5_keep_5 ?_
  refine g_Vv (n := 1) (As := [.ref (G.1 0 0)]) (rest := []) hx hb hml hown hts hE hw hS gX5_keep_X3_copyFrom (c_X3_copyFrom l G A _ 1 0 (by omega) (by omega) (by omega)) rfl (by decide +kernel) ⟨Nat.le_of_ble_eq_true rfl, Nat.le_of_ble_eq_true rfl⟩ (by decide) rfl rfl rfl rfl hl.1 rfl (Nat.le_of_ble_eq_true rfl) ⟨Nat.le_of_ble_eq_true rfl, Nat.le_of_ble_eq_true rfl⟩ dX5_keep_8 (fun τ_8 H locs hp_8 hw hS => ?_)
  refine lv_aload_n hx hb dX5_keep_11 rfl (lv_at hl 0 rfl) ?_
  refine lv_iconst (v := nI 1) hx hb dX5_keep_12 (by decide) ?_
  refine gp_X5_hasSnapshot hx hb hE hw hS (Nat.zero_lt_one) hown (hts (.fieldLink RX5 19 "ZonedLight" "hasSnapshot" "Z") (by decide +kernel)) dX5_keep_13 rfl rfl (fun H locs hw hS => ?_)
  refine lv_aload_n hx hb dX5_keep_16 rfl (lv_at hl 0 rfl) ?_
  refine gf_X5_now hx hb hE hw (Nat.zero_lt_one) hown (hts (.fieldLink RX5 12 "ZonedLight" "now" "LZonedLight$Screen;") (by decide +kernel)) dX5_keep_17 ?_
  refine gf_X3_frames hx hb hE hw (by decide) hown (hts (.fieldLink RX5 152 "ZonedLight$Screen" "frames" "I") (by decide +kernel)) dX5_keep_20 ?_
  refine lv_topi (fun x_20 ex_20 => ?_)
  refine g_iret hx hb hr hlk hE hw hS dX5_keep_23 ?_
  exact keep_end hp_8.1 hp_8.2 (by rw [ex_20])
set_option maxHeartbeats 4000000 in
set_option maxRecDepth 100000 in
/-- ZonedLight.restore()I -/
theorem c_X5_restore (l : Launch) (G : GG) (A : Nat → Prop) (σ : St) (o : Nat) (n : Nat) (ho : o < 4) (hn : n ≤ 4) (eo : σ 6 0 1 = nI o) (en : σ 6 0 2 = nI n) : MI l yX5_restore wsX5_restore 3 69 G A σ [.ref (G.1 5 0)] (fun r τ => actC σ τ r (restF (σ 5 0 2) (scr σ 1)) o n) := by
  refine MI.on (by decide) rfl (Nat.le_of_ble_eq_true rfl) (fun pP eE sS mM args below meth cC ls hx hb hml hr hown hlk hts hE hw hS hl => ?_)
  have hl : lv_has ls 1 [(0, .ref (G.1 5 0))] := hl
  refine lv_aload_n hx hb dX5_restore_0 rfl (lv_at hl 0 rfl) ?_
  refine gf_X5_hasSnapshot hx hb hE hw (Nat.zero_lt_one) hown (hts (.fieldLink RX5 19 "ZonedLight" "hasSnapshot" "Z") (by decide +kernel)) dX5_restore_1 ?_
  refine lv_topi (fun x_1 ex_1 => ?_)
  refine lv_if_ne (tgt := 10) hx hb dX5_restore_4 (by decide) (fun c_4 => ?_) (fun c_4 => ?_)
  · refine lv_aload_n hx hb dX5_restore_10 rfl (lv_at hl 0 rfl) ?_
    refine gf_X5_history hx hb hE hw (Nat.zero_lt_one) hown (hts (.fieldLink RX5 26 "ZonedLight" "history" "LZonedLight$History;") (by decide +kernel)) dX5_restore_11 ?_
    refine lv_aload_n hx hb dX5_restore_14 rfl (lv_at hl 0 rfl) ?_
    refine gf_X5_now hx hb hE hw (Nat.zero_lt_one) hown (hts (.fieldLink RX5 12 "ZonedLight" "now" "LZonedLight$Screen;") (by decide +kernel)) dX5_restore_15 ?_
    refine g_Vv (n := 1) (As := [.ref (G.1 0 0)]) (rest := []) hx hb hml hown hts hE hw hS gX5_restore_X0_record (c_X0_record l G A _ _ _ ho hn eo en) rfl (by decide +kernel) ⟨Nat.le_of_ble_eq_true rfl, Nat.le_of_ble_eq_true rfl⟩ (Nat.zero_lt_one) rfl rfl rfl rfl hl.1 rfl (Nat.le_of_ble_eq_true rfl) ⟨Nat.le_of_ble_eq_true rfl, Nat.le_of_ble_eq_true rfl⟩ dX5_restore_18 (fun τ_18 H locs hp_18 hw hS => ?_)
    refine lv_aload_n hx hb dX5_restore_21 rfl (lv_at hl 0 rfl) ?_
    refine gf_X5_now hx hb hE hw (Nat.zero_lt_one) hown (hts (.fieldLink RX5 12 "ZonedLight" "now" "LZonedLight$Screen;") (by decide +kernel)) dX5_restore_22 ?_
    refine lv_aload_n hx hb dX5_restore_25 rfl (lv_at hl 0 rfl) ?_
    refine gf_X5_snapshot hx hb hE hw (Nat.zero_lt_one) hown (hts (.fieldLink RX5 16 "ZonedLight" "snapshot" "LZonedLight$Screen;") (by decide +kernel)) dX5_restore_26 ?_
    refine g_Vv (n := 1) (As := [.ref (G.1 0 1)]) (rest := []) hx hb hml hown hts hE hw hS gX5_restore_X3_copyFrom (c_X3_copyFrom l G A _ 0 1 (by omega) (by omega) (by omega)) rfl (by decide +kernel) ⟨Nat.le_of_ble_eq_true rfl, Nat.le_of_ble_eq_true rfl⟩ (by decide) rfl rfl rfl rfl hl.1 rfl (Nat.le_of_ble_eq_true rfl) ⟨Nat.le_of_ble_eq_true rfl, Nat.le_of_ble_eq_true rfl⟩ dX5_restore_29 (fun τ_29 H locs hp_29 hw hS => ?_)
    refine lv_aload_n hx hb dX5_restore_32 rfl (lv_at hl 0 rfl) ?_
    refine gf_X5_now hx hb hE hw (Nat.zero_lt_one) hown (hts (.fieldLink RX5 12 "ZonedLight" "now" "LZonedLight$Screen;") (by decide +kernel)) dX5_restore_33 ?_
    refine gf_X3_frames hx hb hE hw (by decide) hown (hts (.fieldLink RX5 152 "ZonedLight$Screen" "frames" "I") (by decide +kernel)) dX5_restore_36 ?_
    refine lv_topi (fun x_36 ex_36 => ?_)
    refine g_iret hx hb hr hlk hE hw hS dX5_restore_39 ?_
    have e1 : scr τ_18 1 = scr σ 1 := scr_congr fun k q => rec_k hp_18 (by omega) (by omega)
    have h := act_go (F := restF (σ 5 0 2) (scr σ 1)) (e := scr σ 1 332) (a1 := scr σ 1) (by rw [restF, if_neg (by rw [← ex_1]; exact c_4)]) hp_18 (sameC.rf.eqX hp_29.2 (fun k q => Or.inr ⟨q, rfl⟩)) (hp_29.1.trans e1)
    have e2 : x_36 = scr σ 1 332 := by rw [ex_36, ← e1, ← hp_29.1]; exact (scr_fld (k := 4) (by decide) (by decide)).symm
    rw [e2]; exact h
  · refine lv_bipush (v := (-5)) hx hb dX5_restore_7 (by decide) ?_
    refine g_iret hx hb hr hlk hE hw hS dX5_restore_9 ?_
    exact act_no (if_pos (by rw [← ex_1]; exact c_4))
