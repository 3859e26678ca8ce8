/-! CONTRACTS, laid by program -/
set_option maxHeartbeats 4000000 in
set_option maxRecDepth 100000 in
/-- ZonedLightLaw.up(II)I -/
theorem c_L_up (l : Launch) (G : GG) (A : Nat → Prop) (σ : St) (v : Int32) (n : Nat) (hn : 0 < n) (hn2 : n < 2 ^ 31) : MI l yL_up wsL_up 0 0 G A σ [.int v, .int (nI n)] (fun r τ => (∃ k, k < n ∧ r = nI k) ∧ τ = σ) := by
  refine MI.on (by decide) rfl (Nat.le_of_ble_eq_true rfl) (fun pP eE sS mM args below meth cC ls hx hb hml hr hown hlk hts hE hw hS hl => ?_)
  have hl : lv_has ls 2 [(0, .int v), (1, .int (nI n))] := hl
  refine lv_iload_n hx hb dL_up_0 rfl (lv_at hl 0 rfl) ?_
  refine lv_ldc (v := 2147483647) hx hb hown (hts (.constant RL 8 (2147483647)) (by decide +kernel)) dL_up_1 ?_
  refine lv_iand hx hb dL_up_3 ?_
  refine lv_topi (fun x_3 ex_3 => ?_)
  refine lv_iload_n hx hb dL_up_4 rfl (lv_at hl 1 rfl) ?_
  refine lv_irem hx hb dL_up_5 (nI_ne0 hn hn2) ?_
  refine lv_topi (fun x_5 ex_5 => ?_)
  refine g_iret hx hb hr hlk hE hw hS dL_up_6 ?_
  obtain ⟨k, hk, ek⟩ := up_lt hn hn2 ex_3
  exact ⟨⟨k, hk, ex_5.trans ek⟩, rfl⟩
set_option maxHeartbeats 4000000 in
set_option maxRecDepth 100000 in
/-- ZonedLightLaw.number(LZonedLight;I)Z -/
theorem c_L_number (l : Launch) (G : GG) (A : Nat → Prop) (σ : St) (v : Nat) (a : Nat → Int32) (b : Nat → Int32) (sn : Int32) (t : Nat) (tx : Nat → Int32) (hV : Vw σ a b sn t tx) (hv : v < 1000) (ht : t + 3 ≤ 60) : MI l yL_number wsL_number 2 42 G A σ [.ref (G.1 5 0), .int (nI v)] (fun r τ => r = nI 1 ∧ Vw τ a b sn (t + (digs v).length) (putL tx t (digs v))) := by
  refine MI.on (by decide) rfl (Nat.le_of_ble_eq_true rfl) (fun pP eE sS mM args below meth cC ls hx hb hml hr hown hlk hts hE hw hS hl => ?_)
  have hl : lv_has ls 2 [(0, .ref (G.1 5 0)), (1, .int (nI v))] := hl
  refine lv_iload_n hx hb dL_number_0 rfl (lv_at hl 1 rfl) ?_
  refine lv_bipush (v := nI 100) hx hb dL_number_1 (by decide) ?_
  refine n_cmp_lt (tgt := 21) hx hb dL_number_3 (by decide) (by omega) (by omega) (fun c_3 => ?_) (fun c_3 => ?_)
  · refine lv_iload_n hx hb dL_number_21 rfl (lv_at hl 1 rfl) ?_
    refine lv_bipush (v := nI 10) hx hb dL_number_22 (by decide) ?_
    refine n_cmp_lt (tgt := 45) hx hb dL_number_24 (by decide) (by omega) (by omega) (fun c_24 => ?_) (fun c_24 => ?_)
    · refine lv_aload_n hx hb dL_number_45 rfl (lv_at hl 0 rfl) ?_
      refine lv_bipush (v := nI 48) hx hb dL_number_46 (by decide) ?_
      refine lv_iload_n hx hb dL_number_48 rfl (lv_at hl 1 rfl) ?_
      refine lv_bipush (v := nI 10) hx hb dL_number_49 (by decide) ?_
      refine n_irem hx hb dL_number_51 (by omega) (by omega) (by omega) ?_
      refine n_iadd hx hb dL_number_52 ?_
      refine lv_i2c hx hb dL_number_53 rfl ?_
      rw [i2c_nI (show 48 + v % 10 < 65536 by omega)]
      refine g_Vi (n := 1) (As := [.int (nI (48 + v % 10))]) (rest := []) hx hb hml hown hts hE hw hS gL_number_X5_type (c_X5_typeV l G A _ (nI (48 + v % 10)) hV (by omega) (nar_nI (show 48 + v % 10 < 65536 by omega))) rfl (by decide +kernel) ⟨Nat.le_of_ble_eq_true rfl, Nat.le_of_ble_eq_true rfl⟩ (Nat.zero_lt_one) rfl rfl rfl rfl hl.1 rfl (Nat.le_of_ble_eq_true rfl) ⟨Nat.le_of_ble_eq_true rfl, Nat.le_of_ble_eq_true rfl⟩ dL_number_54 (fun x_54 τ_54 H locs hp_54 hw hS => ?_)
      obtain ⟨ex_54, hV⟩ := hp_54
      refine lv_if_le (tgt := 64) hx hb dL_number_57 (by decide) (fun c_57 => ?_) (fun c_57 => ?_)
      · exact absurd c_57 (ty_pos ex_54 (by omega))
      · refine lv_iconst (v := nI 1) hx hb dL_number_60 (by decide) ?_
        refine lv_goto (tgt := 65) hx hb dL_number_61 (by decide) ?_
        refine g_zret hx hb hr hlk hE hw hS rfl dL_number_65 ?_
        first | (rw [digs_3 (by omega)]; exact ⟨rfl, hV⟩) | (rw [digs_2 (by omega) (by omega)]; exact ⟨rfl, hV⟩) | (rw [digs_1 (by omega)]; exact ⟨rfl, hV⟩) | (exfalso; omega)
    · refine lv_aload_n hx hb dL_number_27 rfl (lv_at hl 0 rfl) ?_
      refine lv_bipush (v := nI 48) hx hb dL_number_28 (by decide) ?_
      refine lv_iload_n hx hb dL_number_30 rfl (lv_at hl 1 rfl) ?_
      refine lv_bipush (v := nI 10) hx hb dL_number_31 (by decide) ?_
      refine n_idiv hx hb dL_number_33 (by omega) (by omega) (by omega) ?_
      refine lv_bipush (v := nI 10) hx hb dL_number_34 (by decide) ?_
      refine n_irem hx hb dL_number_36 (by omega) (by omega) (by omega) ?_
      refine n_iadd hx hb dL_number_37 ?_
      refine lv_i2c hx hb dL_number_38 rfl ?_
      rw [i2c_nI (show 48 + v / 10 % 10 < 65536 by omega)]
      refine g_Vi (n := 1) (As := [.int (nI (48 + v / 10 % 10))]) (rest := []) hx hb hml hown hts hE hw hS gL_number_X5_type (c_X5_typeV l G A _ (nI (48 + v / 10 % 10)) hV (by omega) (nar_nI (show 48 + v / 10 % 10 < 65536 by omega))) rfl (by decide +kernel) ⟨Nat.le_of_ble_eq_true rfl, Nat.le_of_ble_eq_true rfl⟩ (Nat.zero_lt_one) rfl rfl rfl rfl hl.1 rfl (Nat.le_of_ble_eq_true rfl) ⟨Nat.le_of_ble_eq_true rfl, Nat.le_of_ble_eq_true rfl⟩ dL_number_39 (fun x_39 τ_39 H locs hp_39 hw hS => ?_)
      obtain ⟨ex_39, hV⟩ := hp_39
      refine lv_if_le (tgt := 64) hx hb dL_number_42 (by decide) (fun c_42 => ?_) (fun c_42 => ?_)
      · exact absurd c_42 (ty_pos ex_39 (by omega))
      · refine lv_aload_n hx hb dL_number_45 rfl (lv_at hl 0 rfl) ?_
        refine lv_bipush (v := nI 48) hx hb dL_number_46 (by decide) ?_
        refine lv_iload_n hx hb dL_number_48 rfl (lv_at hl 1 rfl) ?_
        refine lv_bipush (v := nI 10) hx hb dL_number_49 (by decide) ?_
        refine n_irem hx hb dL_number_51 (by omega) (by omega) (by omega) ?_
        refine n_iadd hx hb dL_number_52 ?_
        refine lv_i2c hx hb dL_number_53 rfl ?_
        rw [i2c_nI (show 48 + v % 10 < 65536 by omega)]
        refine g_Vi (n := 1) (As := [.int (nI (48 + v % 10))]) (rest := []) hx hb hml hown hts hE hw hS gL_number_X5_type (c_X5_typeV l G A _ (nI (48 + v % 10)) hV (by omega) (nar_nI (show 48 + v % 10 < 65536 by omega))) rfl (by decide +kernel) ⟨Nat.le_of_ble_eq_true rfl, Nat.le_of_ble_eq_true rfl⟩ (Nat.zero_lt_one) rfl rfl rfl rfl hl.1 rfl (Nat.le_of_ble_eq_true rfl) ⟨Nat.le_of_ble_eq_true rfl, Nat.le_of_ble_eq_true rfl⟩ dL_number_54 (fun x_54 τ_54 H locs hp_54 hw hS => ?_)
        obtain ⟨ex_54, hV⟩ := hp_54
        refine lv_if_le (tgt := 64) hx hb dL_number_57 (by decide) (fun c_57 => ?_) (fun c_57 => ?_)
        · exact absurd c_57 (ty_pos ex_54 (by omega))
        · refine lv_iconst (v := nI 1) hx hb dL_number_60 (by decide) ?_
          refine lv_goto (tgt := 65) hx hb dL_number_61 (by decide) ?_
          refine g_zret hx hb hr hlk hE hw hS rfl dL_number_65 ?_
          first | (rw [digs_3 (by omega)]; exact ⟨rfl, hV⟩) | (rw [digs_2 (by omega) (by omega)]; exact ⟨rfl, hV⟩) | (rw [digs_1 (by omega)]; exact ⟨rfl, hV⟩) | (exfalso; omega)
  · refine lv_aload_n hx hb dL_number_6 rfl (lv_at hl 0 rfl) ?_
    refine lv_bipush (v := nI 48) hx hb dL_number_7 (by decide) ?_
    refine lv_iload_n hx hb dL_number_9 rfl (lv_at hl 1 rfl) ?_
    refine lv_bipush (v := nI 100) hx hb dL_number_10 (by decide) ?_
    refine n_idiv hx hb dL_number_12 (by omega) (by omega) (by omega) ?_
    refine n_iadd hx hb dL_number_13 ?_
    refine lv_i2c hx hb dL_number_14 rfl ?_
    rw [i2c_nI (show 48 + v / 100 < 65536 by omega)]
    refine g_Vi (n := 1) (As := [.int (nI (48 + v / 100))]) (rest := []) hx hb hml hown hts hE hw hS gL_number_X5_type (c_X5_typeV l G A _ (nI (48 + v / 100)) hV (by omega) (nar_nI (show 48 + v / 100 < 65536 by omega))) rfl (by decide +kernel) ⟨Nat.le_of_ble_eq_true rfl, Nat.le_of_ble_eq_true rfl⟩ (Nat.zero_lt_one) rfl rfl rfl rfl hl.1 rfl (Nat.le_of_ble_eq_true rfl) ⟨Nat.le_of_ble_eq_true rfl, Nat.le_of_ble_eq_true rfl⟩ dL_number_15 (fun x_15 τ_15 H locs hp_15 hw hS => ?_)
    obtain ⟨ex_15, hV⟩ := hp_15
    refine lv_if_le (tgt := 64) hx hb dL_number_18 (by decide) (fun c_18 => ?_) (fun c_18 => ?_)
    · exact absurd c_18 (ty_pos ex_15 (by omega))
    · refine lv_iload_n hx hb dL_number_21 rfl (lv_at hl 1 rfl) ?_
      refine lv_bipush (v := nI 10) hx hb dL_number_22 (by decide) ?_
      refine n_cmp_lt (tgt := 45) hx hb dL_number_24 (by decide) (by omega) (by omega) (fun c_24 => ?_) (fun c_24 => ?_)
      · refine lv_aload_n hx hb dL_number_45 rfl (lv_at hl 0 rfl) ?_
        refine lv_bipush (v := nI 48) hx hb dL_number_46 (by decide) ?_
        refine lv_iload_n hx hb dL_number_48 rfl (lv_at hl 1 rfl) ?_
        refine lv_bipush (v := nI 10) hx hb dL_number_49 (by decide) ?_
        refine n_irem hx hb dL_number_51 (by omega) (by omega) (by omega) ?_
        refine n_iadd hx hb dL_number_52 ?_
        refine lv_i2c hx hb dL_number_53 rfl ?_
        rw [i2c_nI (show 48 + v % 10 < 65536 by omega)]
        refine g_Vi (n := 1) (As := [.int (nI (48 + v % 10))]) (rest := []) hx hb hml hown hts hE hw hS gL_number_X5_type (c_X5_typeV l G A _ (nI (48 + v % 10)) hV (by omega) (nar_nI (show 48 + v % 10 < 65536 by omega))) rfl (by decide +kernel) ⟨Nat.le_of_ble_eq_true rfl, Nat.le_of_ble_eq_true rfl⟩ (Nat.zero_lt_one) rfl rfl rfl rfl hl.1 rfl (Nat.le_of_ble_eq_true rfl) ⟨Nat.le_of_ble_eq_true rfl, Nat.le_of_ble_eq_true rfl⟩ dL_number_54 (fun x_54 τ_54 H locs hp_54 hw hS => ?_)
        obtain ⟨ex_54, hV⟩ := hp_54
        refine lv_if_le (tgt := 64) hx hb dL_number_57 (by decide) (fun c_57 => ?_) (fun c_57 => ?_)
        · exact absurd c_57 (ty_pos ex_54 (by omega))
        · refine lv_iconst (v := nI 1) hx hb dL_number_60 (by decide) ?_
          refine lv_goto (tgt := 65) hx hb dL_number_61 (by decide) ?_
          refine g_zret hx hb hr hlk hE hw hS rfl dL_number_65 ?_
          first | (rw [digs_3 (by omega)]; exact ⟨rfl, hV⟩) | (rw [digs_2 (by omega) (by omega)]; exact ⟨rfl, hV⟩) | (rw [digs_1 (by omega)]; exact ⟨rfl, hV⟩) | (exfalso; omega)
      · refine lv_aload_n hx hb dL_number_27 rfl (lv_at hl 0 rfl) ?_
        refine lv_bipush (v := nI 48) hx hb dL_number_28 (by decide) ?_
        refine lv_iload_n hx hb dL_number_30 rfl (lv_at hl 1 rfl) ?_
        refine lv_bipush (v := nI 10) hx hb dL_number_31 (by decide) ?_
        refine n_idiv hx hb dL_number_33 (by omega) (by omega) (by omega) ?_
        refine lv_bipush (v := nI 10) hx hb dL_number_34 (by decide) ?_
        refine n_irem hx hb dL_number_36 (by omega) (by omega) (by omega) ?_
        refine n_iadd hx hb dL_number_37 ?_
        refine lv_i2c hx hb dL_number_38 rfl ?_
        rw [i2c_nI (show 48 + v / 10 % 10 < 65536 by omega)]
        refine g_Vi (n := 1) (As := [.int (nI (48 + v / 10 % 10))]) (rest := []) hx hb hml hown hts hE hw hS gL_number_X5_type (c_X5_typeV l G A _ (nI (48 + v / 10 % 10)) hV (by omega) (nar_nI (show 48 + v / 10 % 10 < 65536 by omega))) rfl (by decide +kernel) ⟨Nat.le_of_ble_eq_true rfl, Nat.le_of_ble_eq_true rfl⟩ (Nat.zero_lt_one) rfl rfl rfl rfl hl.1 rfl (Nat.le_of_ble_eq_true rfl) ⟨Nat.le_of_ble_eq_true rfl, Nat.le_of_ble_eq_true rfl⟩ dL_number_39 (fun x_39 τ_39 H locs hp_39 hw hS => ?_)
        obtain ⟨ex_39, hV⟩ := hp_39
        refine lv_if_le (tgt := 64) hx hb dL_number_42 (by decide) (fun c_42 => ?_) (fun c_42 => ?_)
        · exact absurd c_42 (ty_pos ex_39 (by omega))
        · refine lv_aload_n hx hb dL_number_45 rfl (lv_at hl 0 rfl) ?_
          refine lv_bipush (v := nI 48) hx hb dL_number_46 (by decide) ?_
          refine lv_iload_n hx hb dL_number_48 rfl (lv_at hl 1 rfl) ?_
          refine lv_bipush (v := nI 10) hx hb dL_number_49 (by decide) ?_
          refine n_irem hx hb dL_number_51 (by omega) (by omega) (by omega) ?_
          refine n_iadd hx hb dL_number_52 ?_
          refine lv_i2c hx hb dL_number_53 rfl ?_
          rw [i2c_nI (show 48 + v % 10 < 65536 by omega)]
          refine g_Vi (n := 1) (As := [.int (nI (48 + v % 10))]) (rest := []) hx hb hml hown hts hE hw hS gL_number_X5_type (c_X5_typeV l G A _ (nI (48 + v % 10)) hV (by omega) (nar_nI (show 48 + v % 10 < 65536 by omega))) rfl (by decide +kernel) ⟨Nat.le_of_ble_eq_true rfl, Nat.le_of_ble_eq_true rfl⟩ (Nat.zero_lt_one) rfl rfl rfl rfl hl.1 rfl (Nat.le_of_ble_eq_true rfl) ⟨Nat.le_of_ble_eq_true rfl, Nat.le_of_ble_eq_true rfl⟩ dL_number_54 (fun x_54 τ_54 H locs hp_54 hw hS => ?_)
          obtain ⟨ex_54, hV⟩ := hp_54
          refine lv_if_le (tgt := 64) hx hb dL_number_57 (by decide) (fun c_57 => ?_) (fun c_57 => ?_)
          · exact absurd c_57 (ty_pos ex_54 (by omega))
          · refine lv_iconst (v := nI 1) hx hb dL_number_60 (by decide) ?_
            refine lv_goto (tgt := 65) hx hb dL_number_61 (by decide) ?_
            refine g_zret hx hb hr hlk hE hw hS rfl dL_number_65 ?_
            first | (rw [digs_3 (by omega)]; exact ⟨rfl, hV⟩) | (rw [digs_2 (by omega) (by omega)]; exact ⟨rfl, hV⟩) | (rw [digs_1 (by omega)]; exact ⟨rfl, hV⟩) | (exfalso; omega)
set_option maxHeartbeats 4000000 in
set_option maxRecDepth 100000 in
/-- ZonedLightLaw.isAskedByText(LZonedLight;IIIIII)Z -/
theorem c_L_isAskedByText (l : Launch) (G : GG) (A : Nat → Prop) (σ : St) (x : Nat) (y : Nat) (w : Nat) (h : Nat) (v : Nat) (q : Nat) (a : Nat → Int32) (b : Nat → Int32) (sn : Int32) (t : Nat) (tx : Nat → Int32) (hV : Vw σ a b sn t tx) (kx : x < 24) (ky : y < 12) (kw : 1 ≤ w ∧ w < 4) (kh : 1 ≤ h ∧ h < 4) (kv : v < 256) (kq : q = difK (rectA a x y w h (nI v)) a 288) : MI l yL_isAskedByText wsL_isAskedByText 4 91 G A σ [.ref (G.1 5 0), .int (nI x), .int (nI y), .int (nI w), .int (nI h), .int (nI v), .int (nI q)] (fun r τ => r = nI 1 ∧ ∃ t1 tx1, Vw τ (rectA a x y w h (nI v)) b sn t1 tx1) := by
  refine MI.on (by decide) rfl (Nat.le_of_ble_eq_true rfl) (fun pP eE sS mM args below meth cC ls hx hb hml hr hown hlk hts hE hw hS hl => ?_)
  have hl : lv_has ls 7 [(0, .ref (G.1 5 0)), (1, .int (nI x)), (2, .int (nI y)), (3, .int (nI w)), (4, .int (nI h)), (5, .int (nI v)), (6, .int (nI q))] := hl
  have d1 := digs_le x
  have d2 := digs_le y
  have d3 := digs_le w
  have d4 := digs_le h
  have d5 := digs_le v
  have hV0 := hV
  refine lv_aload_n hx hb dL_isAskedByText_0 rfl (lv_at hl 0 rfl) ?_
  refine g_Vi (n := 0) (As := []) (rest := []) hx hb hml hown hts hE hw hS gL_isAskedByText_X5_clearText (c_X5_clearTextV l G A _ hV) rfl (by decide +kernel) ⟨Nat.le_of_ble_eq_true rfl, Nat.le_of_ble_eq_true rfl⟩ (Nat.zero_lt_one) rfl rfl rfl rfl hl.1 rfl (Nat.le_of_ble_eq_true rfl) ⟨Nat.le_of_ble_eq_true rfl, Nat.le_of_ble_eq_true rfl⟩ dL_isAskedByText_1 (fun x_1 τ_1 H locs hp_1 hw hS => ?_)
  obtain ⟨ex_1, hV⟩ := hp_1
  refine lv_if_lt (tgt := 107) hx hb dL_isAskedByText_4 (by decide) (fun c_4 => ?_) (fun c_4 => ?_)
  · exact absurd c_4 (by rw [ex_1]; exact nI_pos (by have := hV0.2.1; omega))
  · refine lv_aload_n hx hb dL_isAskedByText_7 rfl (lv_at hl 0 rfl) ?_
    refine lv_iload_n hx hb dL_isAskedByText_8 rfl (lv_at hl 1 rfl) ?_
    refine g_Si (n := 2) (As := [.ref (G.1 5 0), .int (nI x)]) (rest := []) hx hb hml hown hts hE hw hS gL_isAskedByText_L_number (c_L_number l G A _ x _ _ _ _ _ hV (by omega) (by omega)) rfl (by decide +kernel) ⟨Nat.le_of_ble_eq_true rfl, Nat.le_of_ble_eq_true rfl⟩ rfl hl.1 rfl (Nat.le_of_ble_eq_true rfl) ⟨Nat.le_of_ble_eq_true rfl, Nat.le_of_ble_eq_true rfl⟩ dL_isAskedByText_9 (fun x_9 τ_9 H locs hp_9 hw hS => ?_)
    obtain ⟨ex_9, hV⟩ := hp_9
    refine lv_if_eq (tgt := 107) hx hb dL_isAskedByText_12 (by decide) (fun c_12 => ?_) (fun c_12 => ?_)
    · exact absurd (ex_9.symm.trans c_12) (by decide)
    · refine lv_aload_n hx hb dL_isAskedByText_15 rfl (lv_at hl 0 rfl) ?_
      refine lv_bipush (v := nI 44) hx hb dL_isAskedByText_16 (by decide) ?_
      refine g_Vi (n := 1) (As := [.int (nI 44)]) (rest := []) hx hb hml hown hts hE hw hS gL_isAskedByText_X5_type (c_X5_typeV l G A _ (nI 44) hV (by omega) (nar_nI (show 44 < 65536 by omega))) rfl (by decide +kernel) ⟨Nat.le_of_ble_eq_true rfl, Nat.le_of_ble_eq_true rfl⟩ (Nat.zero_lt_one) rfl rfl rfl rfl hl.1 rfl (Nat.le_of_ble_eq_true rfl) ⟨Nat.le_of_ble_eq_true rfl, Nat.le_of_ble_eq_true rfl⟩ dL_isAskedByText_18 (fun x_18 τ_18 H locs hp_18 hw hS => ?_)
      obtain ⟨ex_18, hV⟩ := hp_18
      refine lv_if_le (tgt := 107) hx hb dL_isAskedByText_21 (by decide) (fun c_21 => ?_) (fun c_21 => ?_)
      · exact absurd c_21 (ty_pos ex_18 (by omega))
      · refine lv_aload_n hx hb dL_isAskedByText_24 rfl (lv_at hl 0 rfl) ?_
        refine lv_iload_n hx hb dL_isAskedByText_25 rfl (lv_at hl 2 rfl) ?_
        refine g_Si (n := 2) (As := [.ref (G.1 5 0), .int (nI y)]) (rest := []) hx hb hml hown hts hE hw hS gL_isAskedByText_L_number (c_L_number l G A _ y _ _ _ _ _ hV (by omega) (by omega)) rfl (by decide +kernel) ⟨Nat.le_of_ble_eq_true rfl, Nat.le_of_ble_eq_true rfl⟩ rfl hl.1 rfl (Nat.le_of_ble_eq_true rfl) ⟨Nat.le_of_ble_eq_true rfl, Nat.le_of_ble_eq_true rfl⟩ dL_isAskedByText_26 (fun x_26 τ_26 H locs hp_26 hw hS => ?_)
        obtain ⟨ex_26, hV⟩ := hp_26
        refine lv_if_eq (tgt := 107) hx hb dL_isAskedByText_29 (by decide) (fun c_29 => ?_) (fun c_29 => ?_)
        · exact absurd (ex_26.symm.trans c_29) (by decide)
        · refine lv_aload_n hx hb dL_isAskedByText_32 rfl (lv_at hl 0 rfl) ?_
          refine lv_bipush (v := nI 43) hx hb dL_isAskedByText_33 (by decide) ?_
          refine g_Vi (n := 1) (As := [.int (nI 43)]) (rest := []) hx hb hml hown hts hE hw hS gL_isAskedByText_X5_type (c_X5_typeV l G A _ (nI 43) hV (by omega) (nar_nI (show 43 < 65536 by omega))) rfl (by decide +kernel) ⟨Nat.le_of_ble_eq_true rfl, Nat.le_of_ble_eq_true rfl⟩ (Nat.zero_lt_one) rfl rfl rfl rfl hl.1 rfl (Nat.le_of_ble_eq_true rfl) ⟨Nat.le_of_ble_eq_true rfl, Nat.le_of_ble_eq_true rfl⟩ dL_isAskedByText_35 (fun x_35 τ_35 H locs hp_35 hw hS => ?_)
          obtain ⟨ex_35, hV⟩ := hp_35
          refine lv_if_le (tgt := 107) hx hb dL_isAskedByText_38 (by decide) (fun c_38 => ?_) (fun c_38 => ?_)
          · exact absurd c_38 (ty_pos ex_35 (by omega))
          · refine lv_aload_n hx hb dL_isAskedByText_41 rfl (lv_at hl 0 rfl) ?_
            refine lv_iload_n hx hb dL_isAskedByText_42 rfl (lv_at hl 3 rfl) ?_
            refine g_Si (n := 2) (As := [.ref (G.1 5 0), .int (nI w)]) (rest := []) hx hb hml hown hts hE hw hS gL_isAskedByText_L_number (c_L_number l G A _ w _ _ _ _ _ hV (by omega) (by omega)) rfl (by decide +kernel) ⟨Nat.le_of_ble_eq_true rfl, Nat.le_of_ble_eq_true rfl⟩ rfl hl.1 rfl (Nat.le_of_ble_eq_true rfl) ⟨Nat.le_of_ble_eq_true rfl, Nat.le_of_ble_eq_true rfl⟩ dL_isAskedByText_43 (fun x_43 τ_43 H locs hp_43 hw hS => ?_)
            obtain ⟨ex_43, hV⟩ := hp_43
            refine lv_if_eq (tgt := 107) hx hb dL_isAskedByText_46 (by decide) (fun c_46 => ?_) (fun c_46 => ?_)
            · exact absurd (ex_43.symm.trans c_46) (by decide)
            · refine lv_aload_n hx hb dL_isAskedByText_49 rfl (lv_at hl 0 rfl) ?_
              refine lv_bipush (v := nI 120) hx hb dL_isAskedByText_50 (by decide) ?_
              refine g_Vi (n := 1) (As := [.int (nI 120)]) (rest := []) hx hb hml hown hts hE hw hS gL_isAskedByText_X5_type (c_X5_typeV l G A _ (nI 120) hV (by omega) (nar_nI (show 120 < 65536 by omega))) rfl (by decide +kernel) ⟨Nat.le_of_ble_eq_true rfl, Nat.le_of_ble_eq_true rfl⟩ (Nat.zero_lt_one) rfl rfl rfl rfl hl.1 rfl (Nat.le_of_ble_eq_true rfl) ⟨Nat.le_of_ble_eq_true rfl, Nat.le_of_ble_eq_true rfl⟩ dL_isAskedByText_52 (fun x_52 τ_52 H locs hp_52 hw hS => ?_)
              obtain ⟨ex_52, hV⟩ := hp_52
              refine lv_if_le (tgt := 107) hx hb dL_isAskedByText_55 (by decide) (fun c_55 => ?_) (fun c_55 => ?_)
              · exact absurd c_55 (ty_pos ex_52 (by omega))
              · refine lv_aload_n hx hb dL_isAskedByText_58 rfl (lv_at hl 0 rfl) ?_
                refine lv_iload hx hb dL_isAskedByText_59 (lv_at hl 4 rfl) ?_
                refine g_Si (n := 2) (As := [.ref (G.1 5 0), .int (nI h)]) (rest := []) hx hb hml hown hts hE hw hS gL_isAskedByText_L_number (c_L_number l G A _ h _ _ _ _ _ hV (by omega) (by omega)) rfl (by decide +kernel) ⟨Nat.le_of_ble_eq_true rfl, Nat.le_of_ble_eq_true rfl⟩ rfl hl.1 rfl (Nat.le_of_ble_eq_true rfl) ⟨Nat.le_of_ble_eq_true rfl, Nat.le_of_ble_eq_true rfl⟩ dL_isAskedByText_61 (fun x_61 τ_61 H locs hp_61 hw hS => ?_)
                obtain ⟨ex_61, hV⟩ := hp_61
                refine lv_if_eq (tgt := 107) hx hb dL_isAskedByText_64 (by decide) (fun c_64 => ?_) (fun c_64 => ?_)
                · exact absurd (ex_61.symm.trans c_64) (by decide)
                · refine lv_aload_n hx hb dL_isAskedByText_67 rfl (lv_at hl 0 rfl) ?_
                  refine lv_bipush (v := nI 61) hx hb dL_isAskedByText_68 (by decide) ?_
                  refine g_Vi (n := 1) (As := [.int (nI 61)]) (rest := []) hx hb hml hown hts hE hw hS gL_isAskedByText_X5_type (c_X5_typeV l G A _ (nI 61) hV (by omega) (nar_nI (show 61 < 65536 by omega))) rfl (by decide +kernel) ⟨Nat.le_of_ble_eq_true rfl, Nat.le_of_ble_eq_true rfl⟩ (Nat.zero_lt_one) rfl rfl rfl rfl hl.1 rfl (Nat.le_of_ble_eq_true rfl) ⟨Nat.le_of_ble_eq_true rfl, Nat.le_of_ble_eq_true rfl⟩ dL_isAskedByText_70 (fun x_70 τ_70 H locs hp_70 hw hS => ?_)
                  obtain ⟨ex_70, hV⟩ := hp_70
                  refine lv_if_le (tgt := 107) hx hb dL_isAskedByText_73 (by decide) (fun c_73 => ?_) (fun c_73 => ?_)
                  · exact absurd c_73 (ty_pos ex_70 (by omega))
                  · refine lv_aload_n hx hb dL_isAskedByText_76 rfl (lv_at hl 0 rfl) ?_
                    refine lv_iload hx hb dL_isAskedByText_77 (lv_at hl 5 rfl) ?_
                    refine g_Si (n := 2) (As := [.ref (G.1 5 0), .int (nI v)]) (rest := []) hx hb hml hown hts hE hw hS gL_isAskedByText_L_number (c_L_number l G A _ v _ _ _ _ _ hV (by omega) (by omega)) rfl (by decide +kernel) ⟨Nat.le_of_ble_eq_true rfl, Nat.le_of_ble_eq_true rfl⟩ rfl hl.1 rfl (Nat.le_of_ble_eq_true rfl) ⟨Nat.le_of_ble_eq_true rfl, Nat.le_of_ble_eq_true rfl⟩ dL_isAskedByText_79 (fun x_79 τ_79 H locs hp_79 hw hS => ?_)
                    obtain ⟨ex_79, hV⟩ := hp_79
                    refine lv_if_eq (tgt := 107) hx hb dL_isAskedByText_82 (by decide) (fun c_82 => ?_) (fun c_82 => ?_)
                    · exact absurd (ex_79.symm.trans c_82) (by decide)
                    · refine lv_aload_n hx hb dL_isAskedByText_85 rfl (lv_at hl 0 rfl) ?_
                      refine g_Vi (n := 0) (As := []) (rest := []) hx hb hml hown hts hE hw hS gL_isAskedByText_X5_fault (c_X5_faultV l G A _ hV) rfl (by decide +kernel) ⟨Nat.le_of_ble_eq_true rfl, Nat.le_of_ble_eq_true rfl⟩ (Nat.zero_lt_one) rfl rfl rfl rfl hl.1 rfl (Nat.le_of_ble_eq_true rfl) ⟨Nat.le_of_ble_eq_true rfl, Nat.le_of_ble_eq_true rfl⟩ dL_isAskedByText_86 (fun x_86 τ_86 H locs hp_86 hw hS => ?_)
                      obtain ⟨ex_86, hV⟩ := hp_86
                      refine lv_bipush (v := (-5)) hx hb dL_isAskedByText_89 (by decide) ?_
                      refine lv_icmp_ne (tgt := 107) hx hb dL_isAskedByText_91 (by decide) (fun c_91 => ?_) (fun c_91 => ?_)
                      · exact absurd (ex_86.trans (by rw [txt_put]; exact txt_R kx ky kw kh kv txt_len.symm)) c_91
                      · refine lv_aload_n hx hb dL_isAskedByText_94 rfl (lv_at hl 0 rfl) ?_
                        refine g_Vi (n := 0) (As := []) (rest := []) hx hb hml hown hts hE hw hS gL_isAskedByText_X5_askAll (c_X5_askAllV l G A _ hV) rfl (by decide +kernel) ⟨Nat.le_of_ble_eq_true rfl, Nat.le_of_ble_eq_true rfl⟩ (Nat.zero_lt_one) rfl rfl rfl rfl hl.1 rfl (Nat.le_of_ble_eq_true rfl) ⟨Nat.le_of_ble_eq_true rfl, Nat.le_of_ble_eq_true rfl⟩ dL_isAskedByText_95 (fun x_95 τ_95 H locs hp_95 hw hS => ?_)
                        obtain ⟨ex_95, hV⟩ := hp_95
                        refine lv_iload hx hb dL_isAskedByText_98 (lv_at hl 6 rfl) ?_
                        refine lv_icmp_ne (tgt := 107) hx hb dL_isAskedByText_100 (by decide) (fun c_100 => ?_) (fun c_100 => ?_)
                        · exact absurd (by rw [ex_95, txt_put, txt_F kx ky kw kh kv txt_len.symm, kq] <;> rfl) c_100
                        · refine lv_iconst (v := nI 1) hx hb dL_isAskedByText_103 (by decide) ?_
                          refine lv_goto (tgt := 108) hx hb dL_isAskedByText_104 (by decide) ?_
                          refine g_zret hx hb hr hlk hE hw hS rfl dL_isAskedByText_108 ?_
                          rw [txt_put, txt_F kx ky kw kh kv txt_len.symm] at hV
                          exact ⟨rfl, _, _, hV⟩
