/-! CONTRACTS, laid by program -/
set_option maxHeartbeats 4000000 in
set_option maxRecDepth 100000 in
/-- ZonedLight.askAll()I -/
theorem c_X5_askAll (l : Launch) (G : GG) (A : Nat → Prop) (σ : St) (t : Nat) (o : Nat) (n : Nat) (ht : t ≤ 60) (et : σ 8 0 1 = nI t) (ho : o < 4) (hn : n ≤ 4) (eo : σ 6 0 1 = nI o) (en : σ 6 0 2 = nI n) : MI l yX5_askAll wsX5_askAll 3 69 G A σ [.ref (G.1 5 0)] (fun r τ => actC σ τ r (allF (scr σ 0) (σ 9 0) t) o n) := by
  refine MI.on (by decide) rfl (Nat.le_of_ble_eq_true rfl) (fun pP eE sS mM args below meth cC ls hx hb hml hr hown hlk hts hE hw hS hl => ?_)
  have hl : lv_has ls 3 [(0, .ref (G.1 5 0))] := hl
  refine lv_aload_n hx hb dX5_askAll_0 rfl (lv_at hl 0 rfl) ?_
  refine gf_X5_text hx hb hE hw (Nat.zero_lt_one) hown (hts (.fieldLink RX5 33 "ZonedLight" "text" "LZonedLight$PictureText;") (by decide +kernel)) dX5_askAll_1 ?_
  refine g_Vi (n := 0) (As := []) (rest := []) hx hb hml hown hts hE hw hS gX5_askAll_X1_read (c_X1_read l G A _ _ (by omega) (by omega)) rfl (by decide +kernel) ⟨Nat.le_of_ble_eq_true rfl, Nat.le_of_ble_eq_true rfl⟩ (Nat.zero_lt_one) rfl rfl rfl rfl hl.1 rfl (Nat.le_of_ble_eq_true rfl) ⟨Nat.le_of_ble_eq_true rfl, Nat.le_of_ble_eq_true rfl⟩ dX5_askAll_4 (fun x_4 τ_4 H locs hp_4 hw hS => ?_)
  have hkp := readP_keep hp_4
  obtain ⟨row, cnt, hrd, hr1, hcnt, hr2⟩ := hp_4
  refine lv_istore_n (lv' := [(1, .int x_4), (0, .ref (G.1 5 0))]) hx hb dX5_askAll_7 rfl hl (by decide) rfl (fun ls hl => ?_)
  refine lv_iload_n hx hb dX5_askAll_8 rfl (lv_at hl 0 rfl) ?_
  refine lv_bipush (v := (-5)) hx hb dX5_askAll_9 (by decide) ?_
  refine lv_icmp_eq (tgt := 19) hx hb dX5_askAll_11 (by decide) (fun c_11 => ?_) (fun c_11 => ?_)
  · have hc8 : (rdF (σ 9 0) t).1 = -5 := by rw [← hr1]; exact c_11
    obtain ⟨hc1, hc2⟩ := hr2 c_11
    refine lv_aload_n hx hb dX5_askAll_19 rfl (lv_at hl 1 rfl) ?_
    refine gf_X5_history hx hb hE hw (Nat.zero_lt_one) hown (hts (.fieldLink RX5 26 "ZonedLight" "history" "LZonedLight$History;") (by decide +kernel)) dX5_askAll_20 ?_
    refine lv_aload_n hx hb dX5_askAll_23 rfl (lv_at hl 1 rfl) ?_
    refine gf_X5_now hx hb hE hw (Nat.zero_lt_one) hown (hts (.fieldLink RX5 12 "ZonedLight" "now" "LZonedLight$Screen;") (by decide +kernel)) dX5_askAll_24 ?_
    refine g_Vv (n := 1) (As := [.ref (G.1 0 0)]) (rest := []) hx hb hml hown hts hE hw hS gX5_askAll_X0_record (c_X0_record l G A _ _ _ ho hn (by rw [keepC_row hkp (by unfold scrC; omega)]; exact eo) (by rw [keepC_row hkp (by unfold scrC; omega)]; exact en)) rfl (by decide +kernel) ⟨Nat.le_of_ble_eq_true rfl, Nat.le_of_ble_eq_true rfl⟩ (Nat.zero_lt_one) rfl rfl rfl rfl hl.1 rfl (Nat.le_of_ble_eq_true rfl) ⟨Nat.le_of_ble_eq_true rfl, Nat.le_of_ble_eq_true rfl⟩ dX5_askAll_27 (fun τ_27 H locs hp_27 hw hS => ?_)
    have k10 : τ_27 10 0 = row := by rw [rec_k hp_27 (by decide) (by omega), hrd, us_k (by decide), ur_same]
    have k8 : τ_27 8 0 3 = nI cnt := by rw [rec_k hp_27 (by decide) (by omega), hrd, us_at]
    have know : scr τ_27 0 = scr σ 0 := (rec_now hp_27).trans (keepC_now hkp)
    refine lv_aload_n hx hb dX5_askAll_30 rfl (lv_at hl 1 rfl) ?_
    refine g_Vv (n := 0) (As := []) (rest := []) hx hb hml hown hts hE hw hS gX5_askAll_X5_rememberPicture (c_X5_rememberPicture l G A _ ) rfl (by decide +kernel) ⟨Nat.le_of_ble_eq_true rfl, Nat.le_of_ble_eq_true rfl⟩ (Nat.zero_lt_one) rfl rfl rfl rfl hl.1 rfl (Nat.le_of_ble_eq_true rfl) ⟨Nat.le_of_ble_eq_true rfl, Nat.le_of_ble_eq_true rfl⟩ dX5_askAll_31 (fun τ_31 H locs hp_31 hw hS => ?_)
    refine lv_iconst (v := nI 0) hx hb dX5_askAll_34 (by decide) ?_
    refine lv_istore_n (lv' := [(2, .int (nI 0)), (1, .int x_4), (0, .ref (G.1 5 0))]) hx hb dX5_askAll_35 rfl hl (by decide) rfl (fun ls hl => ?_)
    have K_36 : ∀ (fuel : Nat) (p : Nat) (σ2 : St), (p ≤ cnt / 5) → (sameC τ_27 σ2 atNow) → (scr σ2 0 = putA (scr σ 0) (partsK (rdF (σ 9 0) t).2 (scr σ 0) p)) → (σ2 10 0 = row) → (σ2 8 0 3 = nI cnt) → (σ2 15 0 = τ_27 1 0) → cnt / 5 - p < fuel → ∀ (H : Heap) (locs : List Loc) (ls : Array Slot), Wcel G σ2 H → va_S A sS.heap H locs → lv_has ls 3 [(0, .ref (G.1 5 0)), (2, .int (nI p))] → W pP l eE { frames := 3, cells := 0, slots := 0, locals := 69 } sS mM args below meth cC H locs 0 0 (MQ below (va_Qi (fun r τ => actC σ τ r (allF (scr σ 0) (σ 9 0) t) o n) (fun τ t => gP G A τ t) A) args sS 0 0 A) (F0 mM 36 ls []) := by
      intro fuel
      induction fuel with
      | zero =>
        intro p σ2 hpp h1 h2 h3 h4 h5 hfu
        exact absurd hfu (Nat.not_lt_zero _)
      | succ fuel K_36 =>
        intro p σ2 hpp h1 h2 h3 h4 h5 hfu H locs ls hw hS hl
        refine lv_iload_n hx hb dX5_askAll_36 rfl (lv_at hl 1 rfl) ?_
        refine lv_aload_n hx hb dX5_askAll_37 rfl (lv_at hl 0 rfl) ?_
        refine gf_X5_text hx hb hE hw (Nat.zero_lt_one) hown (hts (.fieldLink RX5 33 "ZonedLight" "text" "LZonedLight$PictureText;") (by decide +kernel)) dX5_askAll_38 ?_
        refine g_Vi (n := 0) (As := []) (rest := [.int (nI p)]) hx hb hml hown hts hE hw hS gX5_askAll_X1_parts (c_X1_parts l G A _ cnt hcnt h4) rfl (by decide +kernel) ⟨Nat.le_of_ble_eq_true rfl, Nat.le_of_ble_eq_true rfl⟩ (Nat.zero_lt_one) rfl rfl rfl rfl hl.1 rfl (Nat.le_of_ble_eq_true rfl) ⟨Nat.le_of_ble_eq_true rfl, Nat.le_of_ble_eq_true rfl⟩ dX5_askAll_41 (fun r_41 τ_41 H locs hp_41 hw hS => ?_)
        obtain ⟨rfl, hτ_41⟩ := hp_41
        rw [hτ_41] at hw
        refine n_cmp_ge (tgt := 105) hx hb dX5_askAll_44 (by decide) (by omega) (by omega) (fun c_44 => ?_) (fun c_44 => ?_)
        · refine lv_aload_n hx hb dX5_askAll_105 rfl (lv_at hl 0 rfl) ?_
          refine g_Vi (n := 0) (As := []) (rest := []) hx hb hml hown hts hE hw hS gX5_askAll_X5_changedSpots (c_X5_changedSpots l G A _ ) rfl (by decide +kernel) ⟨Nat.le_of_ble_eq_true rfl, Nat.le_of_ble_eq_true rfl⟩ (Nat.zero_lt_one) rfl rfl rfl rfl hl.1 rfl (Nat.le_of_ble_eq_true rfl) ⟨Nat.le_of_ble_eq_true rfl, Nat.le_of_ble_eq_true rfl⟩ dX5_askAll_106 (fun r_106 τ_106 H locs hp_106 hw hS => ?_)
          obtain ⟨rfl, hτ_106⟩ := hp_106
          rw [hτ_106] at hw
          refine g_iret hx hb hr hlk hE hw hS dX5_askAll_109 ?_
          obtain rfl : p = cnt / 5 := by omega
          have es : scr σ2 0 = textA (scr σ 0) (rdF (σ 9 0) t).2 := by rw [h2, textA, hc1]
          have hd : difK (σ2 1 0) (σ2 15 0) 288 = difK (textA (scr σ 0) (rdF (σ 9 0) t).2) (scr σ 0) 288 := difK_congr 288 (fun j g => by rw [← es]; exact (scr_asked g).symm) (fun j g => by rw [h5, ← know]; exact (scr_asked g).symm)
          exact act_go2 (a1 := textA (scr σ 0) (rdF (σ 9 0) t).2) (by rw [allF, if_pos hc8, hd]) hkp hp_27 h1 es
        · refine lv_aload_n hx hb dX5_askAll_47 rfl (lv_at hl 0 rfl) ?_
          refine gf_X5_now hx hb hE hw (Nat.zero_lt_one) hown (hts (.fieldLink RX5 12 "ZonedLight" "now" "LZonedLight$Screen;") (by decide +kernel)) dX5_askAll_48 ?_
          refine lv_aload_n hx hb dX5_askAll_51 rfl (lv_at hl 0 rfl) ?_
          refine gf_X5_text hx hb hE hw (Nat.zero_lt_one) hown (hts (.fieldLink RX5 33 "ZonedLight" "text" "LZonedLight$PictureText;") (by decide +kernel)) dX5_askAll_52 ?_
          refine lv_iload_n hx hb dX5_askAll_55 rfl (lv_at hl 1 rfl) ?_
          refine lv_iconst (v := nI 0) hx hb dX5_askAll_56 (by decide) ?_
          refine g_Vi (n := 2) (As := [.int (nI p), .int (nI 0)]) (rest := [.ref (G.1 0 0)]) hx hb hml hown hts hE hw hS gX5_askAll_X1_number (c_X1_number l G A _ p 0 (by omega) (by omega)) rfl (by decide +kernel) ⟨Nat.le_of_ble_eq_true rfl, Nat.le_of_ble_eq_true rfl⟩ (Nat.zero_lt_one) rfl rfl rfl rfl hl.1 rfl (Nat.le_of_ble_eq_true rfl) ⟨Nat.le_of_ble_eq_true rfl, Nat.le_of_ble_eq_true rfl⟩ dX5_askAll_57 (fun x_57 τ_57 H locs hp_57 hw hS => ?_)
          obtain ⟨ex_57, hτ_57⟩ := hp_57
          rw [hτ_57] at hw
          have g_57 := cls_num (j := 0) ht hc1 hc2 c_44 (by decide)
          obtain rfl : x_57 = nI (num (rdF (σ 9 0) t).2 (p * 5)) := by rw [ex_57, h3]; exact g_57.1
          refine lv_aload_n hx hb dX5_askAll_60 rfl (lv_at hl 0 rfl) ?_
          refine gf_X5_text hx hb hE hw (Nat.zero_lt_one) hown (hts (.fieldLink RX5 33 "ZonedLight" "text" "LZonedLight$PictureText;") (by decide +kernel)) dX5_askAll_61 ?_
          refine lv_iload_n hx hb dX5_askAll_64 rfl (lv_at hl 1 rfl) ?_
          refine lv_iconst (v := nI 1) hx hb dX5_askAll_65 (by decide) ?_
          refine g_Vi (n := 2) (As := [.int (nI p), .int (nI 1)]) (rest := [.int (nI (num (rdF (σ 9 0) t).2 (p * 5))), .ref (G.1 0 0)]) hx hb hml hown hts hE hw hS gX5_askAll_X1_number (c_X1_number l G A _ p 1 (by omega) (by omega)) rfl (by decide +kernel) ⟨Nat.le_of_ble_eq_true rfl, Nat.le_of_ble_eq_true rfl⟩ (Nat.zero_lt_one) rfl rfl rfl rfl hl.1 rfl (Nat.le_of_ble_eq_true rfl) ⟨Nat.le_of_ble_eq_true rfl, Nat.le_of_ble_eq_true rfl⟩ dX5_askAll_66 (fun x_66 τ_66 H locs hp_66 hw hS => ?_)
          obtain ⟨ex_66, hτ_66⟩ := hp_66
          rw [hτ_66] at hw
          have g_66 := cls_num (j := 1) ht hc1 hc2 c_44 (by decide)
          obtain rfl : x_66 = nI (num (rdF (σ 9 0) t).2 (p * 5 + 1)) := by rw [ex_66, h3]; exact g_66.1
          refine lv_aload_n hx hb dX5_askAll_69 rfl (lv_at hl 0 rfl) ?_
          refine gf_X5_text hx hb hE hw (Nat.zero_lt_one) hown (hts (.fieldLink RX5 33 "ZonedLight" "text" "LZonedLight$PictureText;") (by decide +kernel)) dX5_askAll_70 ?_
          refine lv_iload_n hx hb dX5_askAll_73 rfl (lv_at hl 1 rfl) ?_
          refine lv_iconst (v := nI 2) hx hb dX5_askAll_74 (by decide) ?_
          refine g_Vi (n := 2) (As := [.int (nI p), .int (nI 2)]) (rest := [.int (nI (num (rdF (σ 9 0) t).2 (p * 5 + 1))), .int (nI (num (rdF (σ 9 0) t).2 (p * 5))), .ref (G.1 0 0)]) hx hb hml hown hts hE hw hS gX5_askAll_X1_number (c_X1_number l G A _ p 2 (by omega) (by omega)) rfl (by decide +kernel) ⟨Nat.le_of_ble_eq_true rfl, Nat.le_of_ble_eq_true rfl⟩ (Nat.zero_lt_one) rfl rfl rfl rfl hl.1 rfl (Nat.le_of_ble_eq_true rfl) ⟨Nat.le_of_ble_eq_true rfl, Nat.le_of_ble_eq_true rfl⟩ dX5_askAll_75 (fun x_75 τ_75 H locs hp_75 hw hS => ?_)
          obtain ⟨ex_75, hτ_75⟩ := hp_75
          rw [hτ_75] at hw
          have g_75 := cls_num (j := 2) ht hc1 hc2 c_44 (by decide)
          obtain rfl : x_75 = nI (num (rdF (σ 9 0) t).2 (p * 5 + 2)) := by rw [ex_75, h3]; exact g_75.1
          refine lv_aload_n hx hb dX5_askAll_78 rfl (lv_at hl 0 rfl) ?_
          refine gf_X5_text hx hb hE hw (Nat.zero_lt_one) hown (hts (.fieldLink RX5 33 "ZonedLight" "text" "LZonedLight$PictureText;") (by decide +kernel)) dX5_askAll_79 ?_
          refine lv_iload_n hx hb dX5_askAll_82 rfl (lv_at hl 1 rfl) ?_
          refine lv_iconst (v := nI 3) hx hb dX5_askAll_83 (by decide) ?_
          refine g_Vi (n := 2) (As := [.int (nI p), .int (nI 3)]) (rest := [.int (nI (num (rdF (σ 9 0) t).2 (p * 5 + 2))), .int (nI (num (rdF (σ 9 0) t).2 (p * 5 + 1))), .int (nI (num (rdF (σ 9 0) t).2 (p * 5))), .ref (G.1 0 0)]) hx hb hml hown hts hE hw hS gX5_askAll_X1_number (c_X1_number l G A _ p 3 (by omega) (by omega)) rfl (by decide +kernel) ⟨Nat.le_of_ble_eq_true rfl, Nat.le_of_ble_eq_true rfl⟩ (Nat.zero_lt_one) rfl rfl rfl rfl hl.1 rfl (Nat.le_of_ble_eq_true rfl) ⟨Nat.le_of_ble_eq_true rfl, Nat.le_of_ble_eq_true rfl⟩ dX5_askAll_84 (fun x_84 τ_84 H locs hp_84 hw hS => ?_)
          obtain ⟨ex_84, hτ_84⟩ := hp_84
          rw [hτ_84] at hw
          have g_84 := cls_num (j := 3) ht hc1 hc2 c_44 (by decide)
          obtain rfl : x_84 = nI (num (rdF (σ 9 0) t).2 (p * 5 + 3)) := by rw [ex_84, h3]; exact g_84.1
          refine lv_aload_n hx hb dX5_askAll_87 rfl (lv_at hl 0 rfl) ?_
          refine gf_X5_text hx hb hE hw (Nat.zero_lt_one) hown (hts (.fieldLink RX5 33 "ZonedLight" "text" "LZonedLight$PictureText;") (by decide +kernel)) dX5_askAll_88 ?_
          refine lv_iload_n hx hb dX5_askAll_91 rfl (lv_at hl 1 rfl) ?_
          refine lv_iconst (v := nI 4) hx hb dX5_askAll_92 (by decide) ?_
          refine g_Vi (n := 2) (As := [.int (nI p), .int (nI 4)]) (rest := [.int (nI (num (rdF (σ 9 0) t).2 (p * 5 + 3))), .int (nI (num (rdF (σ 9 0) t).2 (p * 5 + 2))), .int (nI (num (rdF (σ 9 0) t).2 (p * 5 + 1))), .int (nI (num (rdF (σ 9 0) t).2 (p * 5))), .ref (G.1 0 0)]) hx hb hml hown hts hE hw hS gX5_askAll_X1_number (c_X1_number l G A _ p 4 (by omega) (by omega)) rfl (by decide +kernel) ⟨Nat.le_of_ble_eq_true rfl, Nat.le_of_ble_eq_true rfl⟩ (Nat.zero_lt_one) rfl rfl rfl rfl hl.1 rfl (Nat.le_of_ble_eq_true rfl) ⟨Nat.le_of_ble_eq_true rfl, Nat.le_of_ble_eq_true rfl⟩ dX5_askAll_93 (fun x_93 τ_93 H locs hp_93 hw hS => ?_)
          obtain ⟨ex_93, hτ_93⟩ := hp_93
          rw [hτ_93] at hw
          have g_93 := cls_num (j := 4) ht hc1 hc2 c_44 (by decide)
          have e_93 : x_93 = (rdF (σ 9 0) t).2.getD (p * 5 + 4) 0 := by rw [ex_93, h3]; exact hc2 _ (by omega)
          refine g_Vv (n := 5) (As := [.int (nI (num (rdF (σ 9 0) t).2 (p * 5))), .int (nI (num (rdF (σ 9 0) t).2 (p * 5 + 1))), .int (nI (num (rdF (σ 9 0) t).2 (p * 5 + 2))), .int (nI (num (rdF (σ 9 0) t).2 (p * 5 + 3))), .int x_93]) (rest := []) hx hb hml hown hts hE hw hS gX5_askAll_X3_paint (c_X3_paint l G A _ 0 (num (rdF (σ 9 0) t).2 (p * 5)) (num (rdF (σ 9 0) t).2 (p * 5 + 1)) (num (rdF (σ 9 0) t).2 (p * 5 + 2)) (num (rdF (σ 9 0) t).2 (p * 5 + 3)) x_93 (by omega) (Nat.lt_succ_of_le g_57.2) (Nat.lt_succ_of_le g_66.2) g_75.2 g_84.2) rfl (by decide +kernel) ⟨Nat.le_of_ble_eq_true rfl, Nat.le_of_ble_eq_true rfl⟩ (by decide) rfl rfl rfl rfl hl.1 rfl (Nat.le_of_ble_eq_true rfl) ⟨Nat.le_of_ble_eq_true rfl, Nat.le_of_ble_eq_true rfl⟩ dX5_askAll_96 (fun τ_96 H locs hp_96 hw hS => ?_)
          refine lv_iinc (v := nI (p + 1)) (lv' := [(2, .int (nI (p + 1))), (0, .ref (G.1 5 0))]) hx hb dX5_askAll_99 hl (k := 1) rfl (nI_add _ _) (by decide) rfl (fun ls hl => ?_)
          refine lv_goto (tgt := 36) hx hb dX5_askAll_102 (by decide) ?_
          exact K_36 (p + 1) _ (by first | omega | assumption | rfl) (by rw [hp_96]; exact h1.ur (Or.inr ⟨by decide, rfl⟩) (by decide)) (by rw [hp_96, scr_pic, h2, e_93]; exact cls_paint h2) (by rw [hp_96, ur_k (by decide), h3]) (by rw [hp_96, ur_k (by decide), h4]) (by rw [hp_96, ur_k (by decide), h5]) (by omega) _ _ _ hw hS (lv_sub hl [1, 0] rfl)
    exact K_36 (cnt / 5 - 0 + 1) 0 _ (by first | omega | assumption | rfl) (by rw [hp_31]; exact sameC.rf.ur (Or.inl (by unfold scrC; decide)) (by decide)) (by rw [hp_31, scr_ur (by decide), know]; exact putA_self.symm) (by rw [hp_31, ur_k (by decide), k10]) (by rw [hp_31, ur_k (by decide), k8]) (by rw [hp_31, ur_same]) (Nat.lt_succ_self _) _ _ _ hw hS (lv_sub hl [2, 0] rfl)
  · have hc8 : ¬ (rdF (σ 9 0) t).1 = -5 := by rw [← hr1]; exact c_11
    refine lv_bipush (v := (-100)) hx hb dX5_askAll_14 (by decide) ?_
    refine lv_iload_n hx hb dX5_askAll_16 rfl (lv_at hl 0 rfl) ?_
    refine lv_isub hx hb dX5_askAll_17 ?_
    refine lv_topi (fun x_17 ex_17 => ?_)
    refine g_iret hx hb hr hlk hE hw hS dX5_askAll_18 ?_
    exact Or.inl ⟨_, if_neg hc8, by rw [ex_17, hr1], hkp⟩
