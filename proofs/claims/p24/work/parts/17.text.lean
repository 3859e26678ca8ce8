/-! CONTRACTS, laid by program -/
set_option maxHeartbeats 4000000 in
set_option maxRecDepth 100000 in
/-- ZonedLight$PictureText.parts()I -/
theorem c_X1_parts (l : Launch) (G : GG) (A : Nat → Prop) (σ : St) (n : Nat) (hn : n ≤ 30) (en : σ 8 0 3 = nI n) : MI l yX1_parts wsX1_parts 0 0 G A σ [.ref (G.1 8 0)] (fun r τ => r = nI (n / 5) ∧ τ = σ) := by
  refine MI.on (by decide) rfl (Nat.le_of_ble_eq_true rfl) (fun pP eE sS mM args below meth cC ls hx hb hml hr hown hlk hts hE hw hS hl => ?_)
  have hl : lv_has ls 1 [(0, .ref (G.1 8 0))] := hl
  refine lv_aload_n hx hb dX1_parts_0 rfl (lv_at hl 0 rfl) ?_
  refine gf_X1_numbersRead hx hb hE hw (Nat.zero_lt_one) hown (hts (.fieldLink RX1 23 "ZonedLight$PictureText" "numbersRead" "I") (by decide +kernel)) dX1_parts_1 ?_
  refine lv_topi (fun x_1 ex_1 => ?_)
  obtain rfl : x_1 = nI n := by rw [ex_1, en]
  refine lv_iconst (v := nI 5) hx hb dX1_parts_4 (by decide) ?_
  refine n_idiv hx hb dX1_parts_5 (by omega) (by omega) (by omega) ?_
  refine g_iret hx hb hr hlk hE hw hS dX1_parts_6 ?_
  exact ⟨rfl, rfl⟩
set_option maxHeartbeats 4000000 in
set_option maxRecDepth 100000 in
/-- ZonedLight$PictureText.number(II)I -/
theorem c_X1_number (l : Launch) (G : GG) (A : Nat → Prop) (σ : St) (p : Nat) (f : Nat) (hp : p < 6) (hf : f < 5) : MI l yX1_number wsX1_number 0 0 G A σ [.ref (G.1 8 0), .int (nI p), .int (nI f)] (fun r τ => r = σ 10 0 (p * 5 + f) ∧ τ = σ) := by
  refine MI.on (by decide) rfl (Nat.le_of_ble_eq_true rfl) (fun pP eE sS mM args below meth cC ls hx hb hml hr hown hlk hts hE hw hS hl => ?_)
  have hl : lv_has ls 3 [(0, .ref (G.1 8 0)), (1, .int (nI p)), (2, .int (nI f))] := hl
  refine lv_aload_n hx hb dX1_number_0 rfl (lv_at hl 0 rfl) ?_
  refine gf_X1_numbers hx hb hE hw (Nat.zero_lt_one) hown (hts (.fieldLink RX1 19 "ZonedLight$PictureText" "numbers" "[I") (by decide +kernel)) dX1_number_1 ?_
  refine lv_iload_n hx hb dX1_number_4 rfl (lv_at hl 1 rfl) ?_
  refine lv_iconst (v := nI 5) hx hb dX1_number_5 (by decide) ?_
  refine n_imul hx hb dX1_number_6 ?_
  refine lv_iload_n hx hb dX1_number_7 rfl (lv_at hl 2 rfl) ?_
  refine n_iadd hx hb dX1_number_8 ?_
  refine g_ald hx hb hE hw (n := 30) (Nat.zero_lt_one) rfl (by decide) (by omega) dX1_number_9 ?_
  refine lv_topi (fun x_9 ex_9 => ?_)
  refine g_iret hx hb hr hlk hE hw hS dX1_number_10 ?_
  exact ⟨ex_9, rfl⟩
set_option maxHeartbeats 4000000 in
set_option maxRecDepth 100000 in
/-- ZonedLight$PictureText.addNumber(I)V -/
theorem c_X1_addNumber (l : Launch) (G : GG) (A : Nat → Prop) (σ : St) (n : Nat) (v : Int32) (hn : n < 30) (en : σ 8 0 3 = nI n) : MV l yX1_addNumber wsX1_addNumber 0 0 G A σ [.ref (G.1 8 0), .int v] (fun τ => τ = us (us σ 10 0 n v) 8 0 3 (nI (n + 1))) := by
  refine MV.on (by decide) rfl (Nat.le_of_ble_eq_true rfl) (fun pP eE sS mM args below meth cC ls hx hb hml hr hown hlk hts hE hw hS hl => ?_)
  have hl : lv_has ls 2 [(0, .ref (G.1 8 0)), (1, .int v)] := hl
  refine lv_aload_n hx hb dX1_addNumber_0 rfl (lv_at hl 0 rfl) ?_
  refine gf_X1_numbersRead hx hb hE hw (Nat.zero_lt_one) hown (hts (.fieldLink RX1 23 "ZonedLight$PictureText" "numbersRead" "I") (by decide +kernel)) dX1_addNumber_1 ?_
  refine lv_topi (fun x_1 ex_1 => ?_)
  obtain rfl : x_1 = nI n := by rw [ex_1, en]
  refine lv_aload_n hx hb dX1_addNumber_4 rfl (lv_at hl 0 rfl) ?_
  refine gf_X1_numbers hx hb hE hw (Nat.zero_lt_one) hown (hts (.fieldLink RX1 19 "ZonedLight$PictureText" "numbers" "[I") (by decide +kernel)) dX1_addNumber_5 ?_
  refine g_len hx hb hE hw (n := 30) (Nat.zero_lt_one) rfl dX1_addNumber_8 ?_
  refine n_cmp_ge (tgt := 32) hx hb dX1_addNumber_9 (by decide) (by omega) (by omega) (fun c_9 => ?_) (fun c_9 => ?_)
  · exact absurd c_9 (by omega)
  · refine lv_aload_n hx hb dX1_addNumber_12 rfl (lv_at hl 0 rfl) ?_
    refine gf_X1_numbers hx hb hE hw (Nat.zero_lt_one) hown (hts (.fieldLink RX1 19 "ZonedLight$PictureText" "numbers" "[I") (by decide +kernel)) dX1_addNumber_13 ?_
    refine lv_aload_n hx hb dX1_addNumber_16 rfl (lv_at hl 0 rfl) ?_
    refine gf_X1_numbersRead hx hb hE hw (Nat.zero_lt_one) hown (hts (.fieldLink RX1 23 "ZonedLight$PictureText" "numbersRead" "I") (by decide +kernel)) dX1_addNumber_17 ?_
    refine lv_topi (fun x_17 ex_17 => ?_)
    obtain rfl : x_17 = nI n := by rw [ex_17, en]
    refine lv_iload_n hx hb dX1_addNumber_20 rfl (lv_at hl 1 rfl) ?_
    refine g_ast hx hb hE hw hS (n := 30) (Nat.zero_lt_one) (by decide) (fun _ => rfl) rfl (by decide) (by omega) dX1_addNumber_21 (fun H locs hw hS => ?_)
    refine lv_aload_n hx hb dX1_addNumber_22 rfl (lv_at hl 0 rfl) ?_
    refine lv_dup hx hb dX1_addNumber_23 rfl ?_
    refine gf_X1_numbersRead hx hb hE hw (Nat.zero_lt_one) hown (hts (.fieldLink RX1 23 "ZonedLight$PictureText" "numbersRead" "I") (by decide +kernel)) dX1_addNumber_24 ?_
    refine lv_topi (fun x_24 ex_24 => ?_)
    obtain rfl : x_24 = nI n := by rw [ex_24, us_k (by decide), en]
    refine lv_iconst (v := nI 1) hx hb dX1_addNumber_27 (by decide) ?_
    refine n_iadd hx hb dX1_addNumber_28 ?_
    refine gp_X1_numbersRead hx hb hE hw hS (Nat.zero_lt_one) hown (hts (.fieldLink RX1 23 "ZonedLight$PictureText" "numbersRead" "I") (by decide +kernel)) dX1_addNumber_29 (fun H locs hw hS => ?_)
    refine g_vret hx hb hr hlk hE hw hS dX1_addNumber_32 ?_
    exact rfl
set_option maxHeartbeats 4000000 in
set_option maxRecDepth 100000 in
/-- ZonedLight$PictureText.append(C)Z -/
theorem c_X1_append (l : Launch) (G : GG) (A : Nat → Prop) (σ : St) (n : Nat) (c : Int32) (hn : n ≤ 60) (en : σ 8 0 1 = nI n) (hc : vp_nar .char c = c) : MI l yX1_append wsX1_append 0 0 G A σ [.ref (G.1 8 0), .int c] (fun r τ => (n = 60 ∧ r = nI 0 ∧ τ = σ) ∨ (n < 60 ∧ r = nI 1 ∧ τ = us (us σ 9 0 n c) 8 0 1 (nI (n + 1)))) := by
  refine MI.on (by decide) rfl (Nat.le_of_ble_eq_true rfl) (fun pP eE sS mM args below meth cC ls hx hb hml hr hown hlk hts hE hw hS hl => ?_)
  have hl : lv_has ls 2 [(0, .ref (G.1 8 0)), (1, .int c)] := hl
  refine lv_aload_n hx hb dX1_append_0 rfl (lv_at hl 0 rfl) ?_
  refine gf_X1_length hx hb hE hw (Nat.zero_lt_one) hown (hts (.fieldLink RX1 15 "ZonedLight$PictureText" "length" "I") (by decide +kernel)) dX1_append_1 ?_
  refine lv_topi (fun x_1 ex_1 => ?_)
  obtain rfl : x_1 = nI n := by rw [ex_1, en]
  refine lv_bipush (v := nI 60) hx hb dX1_append_4 (by decide) ?_
  refine n_cmp_lt (tgt := 11) hx hb dX1_append_6 (by decide) (by omega) (by omega) (fun c_6 => ?_) (fun c_6 => ?_)
  · refine lv_aload_n hx hb dX1_append_11 rfl (lv_at hl 0 rfl) ?_
    refine gf_X1_characters hx hb hE hw (Nat.zero_lt_one) hown (hts (.fieldLink RX1 11 "ZonedLight$PictureText" "characters" "[C") (by decide +kernel)) dX1_append_12 ?_
    refine lv_aload_n hx hb dX1_append_15 rfl (lv_at hl 0 rfl) ?_
    refine gf_X1_length hx hb hE hw (Nat.zero_lt_one) hown (hts (.fieldLink RX1 15 "ZonedLight$PictureText" "length" "I") (by decide +kernel)) dX1_append_16 ?_
    refine lv_topi (fun x_16 ex_16 => ?_)
    obtain rfl : x_16 = nI n := by rw [ex_16, en]
    refine lv_iload_n hx hb dX1_append_19 rfl (lv_at hl 1 rfl) ?_
    refine g_cast hx hb hE hw hS (n := 60) (Nat.zero_lt_one) (by decide) (fun _ => rfl) rfl (by decide) (by omega) hc dX1_append_20 (fun H locs hw hS => ?_)
    refine lv_aload_n hx hb dX1_append_21 rfl (lv_at hl 0 rfl) ?_
    refine lv_dup hx hb dX1_append_22 rfl ?_
    refine gf_X1_length hx hb hE hw (Nat.zero_lt_one) hown (hts (.fieldLink RX1 15 "ZonedLight$PictureText" "length" "I") (by decide +kernel)) dX1_append_23 ?_
    refine lv_topi (fun x_23 ex_23 => ?_)
    obtain rfl : x_23 = nI n := by rw [ex_23, us_k (by decide), en]
    refine lv_iconst (v := nI 1) hx hb dX1_append_26 (by decide) ?_
    refine n_iadd hx hb dX1_append_27 ?_
    refine gp_X1_length hx hb hE hw hS (Nat.zero_lt_one) hown (hts (.fieldLink RX1 15 "ZonedLight$PictureText" "length" "I") (by decide +kernel)) dX1_append_28 (fun H locs hw hS => ?_)
    refine lv_iconst (v := nI 1) hx hb dX1_append_31 (by decide) ?_
    refine g_zret hx hb hr hlk hE hw hS rfl dX1_append_32 ?_
    exact Or.inr ⟨c_6, rfl, rfl⟩
  · refine lv_iconst (v := nI 0) hx hb dX1_append_9 (by decide) ?_
    refine g_zret hx hb hr hlk hE hw hS rfl dX1_append_10 ?_
    exact Or.inl ⟨by omega, rfl, rfl⟩
set_option maxHeartbeats 4000000 in
set_option maxRecDepth 100000 in
/-- ZonedLight$PictureText.withDigit(ICI)I -/
theorem c_X1_withDigit (l : Launch) (G : GG) (A : Nat → Prop) (σ : St) (n : Int32) (c : Int32) (f : Nat) (hf : f < 5) : MI l yX1_withDigit wsX1_withDigit 0 0 G A σ [.int n, .int c, .int (nI f)] (fun r τ => r = wdF n c f ∧ τ = σ) := by
  refine MI.on (by decide) rfl (Nat.le_of_ble_eq_true rfl) (fun pP eE sS mM args below meth cC ls hx hb hml hr hown hlk hts hE hw hS hl => ?_)
  have hl : lv_has ls 6 [(0, .int n), (1, .int c), (2, .int (nI f))] := hl
  have K_18 : ∀ (b : Int32), (bP b (¬ c < 48 ∧ ¬ 57 < c)) → ∀ (H : Heap) (locs : List Loc) (ls : Array Slot), Wcel G σ H → va_S A sS.heap H locs → lv_has ls 6 [(0, .int n), (1, .int c), (2, .int (nI f)), (3, .int b)] → W pP l eE { frames := 0, cells := 0, slots := 0, locals := 0 } sS mM args below meth cC H locs 0 0 (MQ below (va_Qi (fun r τ => r = wdF n c f ∧ τ = σ) (fun τ t => gP G A τ t) A) args sS 0 0 A) (F0 mM 18 ls []) := by
    intro b hbd H locs ls hw hS hl
    refine lv_iload_n hx hb dX1_withDigit_18 rfl (lv_at hl 3 rfl) ?_
    refine lv_if_eq (tgt := 26) hx hb dX1_withDigit_19 (by decide) (fun c_19 => ?_) (fun c_19 => ?_)
    · refine lv_iconst (v := (-1)) hx hb dX1_withDigit_26 (by decide) ?_
      refine g_iret hx hb hr hlk hE hw hS dX1_withDigit_27 ?_
      first | exact ⟨by unfold wdF; rw [if_neg (fun q => bP_f hbd c_19 ⟨q.1, q.2.1⟩)] <;> rfl, rfl⟩ | exact ⟨by unfold wdF; rw [if_neg (fun q => q.2.2 c_23)] <;> rfl, rfl⟩
    · refine lv_iload_n hx hb dX1_withDigit_22 rfl (lv_at hl 0 rfl) ?_
      refine lv_if_ne (tgt := 28) hx hb dX1_withDigit_23 (by decide) (fun c_23 => ?_) (fun c_23 => ?_)
      · have K_53 : ∀ (m : Int32), (¬ c < 48 ∧ ¬ 57 < c) → (¬ n = 0) → (m = if n = -1 then c - 48 else 10 * n + (c - 48)) → ∀ (H : Heap) (locs : List Loc) (ls : Array Slot), Wcel G σ H → va_S A sS.heap H locs → lv_has ls 6 [(0, .int n), (1, .int c), (2, .int (nI f)), (5, .int m)] → W pP l eE { frames := 0, cells := 0, slots := 0, locals := 0 } sS mM args below meth cC H locs 0 0 (MQ below (va_Qi (fun r τ => r = wdF n c f ∧ τ = σ) (fun τ t => gP G A τ t) A) args sS 0 0 A) (F0 mM 53 ls []) := by
          intro m hbd hn0 hm H locs ls hw hS hl
          refine lv_iload hx hb dX1_withDigit_53 (lv_at hl 3 rfl) ?_
          refine g_gets hx hb hS hE.2.2.2.2.2.2.2.2.1 hown (hts (.fieldLink RX1 37 "ZonedLight$PictureText" "LEAST" "[I") (by decide +kernel)) dX1_withDigit_55 (fun t_55 ht_55 => ?_)
          refine lv_iload_n hx hb dX1_withDigit_58 rfl (lv_at hl 2 rfl) ?_
          refine g_tld hx hb hS ht_55 (by decide) (by omega) dX1_withDigit_59 ?_
          refine lv_topi (fun x_59 ex_59 => ?_)
          refine lv_icmp_lt (tgt := 73) hx hb dX1_withDigit_60 (by decide) (fun c_60 => ?_) (fun c_60 => ?_)
          · refine lv_iconst (v := (-1)) hx hb dX1_withDigit_73 (by decide) ?_
            refine lv_goto (tgt := 79) hx hb dX1_withDigit_74 (by decide) ?_
            refine g_iret hx hb hr hlk hE hw hS dX1_withDigit_79 ?_
            first | exact ⟨by unfold wdF; rw [if_pos ⟨hbd.1, hbd.2, hn0⟩, ← hm, if_pos (Or.inl (by rw [← ex_59]; exact c_60))] <;> rfl, rfl⟩ | exact ⟨by unfold wdF; rw [if_pos ⟨hbd.1, hbd.2, hn0⟩, ← hm, if_neg (fun q => q.elim (fun z => c_60 (by rw [ex_59]; exact z)) (fun z => Int32.not_lt.mpr (by rw [← ex_69]; exact c_70) z))] <;> rfl, rfl⟩ | exact ⟨by unfold wdF; rw [if_pos ⟨hbd.1, hbd.2, hn0⟩, ← hm, if_pos (Or.inr (by rw [← ex_69]; exact Int32.not_le.mp c_70))] <;> rfl, rfl⟩
          · refine lv_iload hx hb dX1_withDigit_63 (lv_at hl 3 rfl) ?_
            refine g_gets hx hb hS hE.2.2.2.2.2.2.2.2.2.1 hown (hts (.fieldLink RX1 40 "ZonedLight$PictureText" "GREATEST" "[I") (by decide +kernel)) dX1_withDigit_65 (fun t_65 ht_65 => ?_)
            refine lv_iload_n hx hb dX1_withDigit_68 rfl (lv_at hl 2 rfl) ?_
            refine g_tld hx hb hS ht_65 (by decide) (by omega) dX1_withDigit_69 ?_
            refine lv_topi (fun x_69 ex_69 => ?_)
            refine lv_icmp_le (tgt := 77) hx hb dX1_withDigit_70 (by decide) (fun c_70 => ?_) (fun c_70 => ?_)
            · refine lv_iload hx hb dX1_withDigit_77 (lv_at hl 3 rfl) ?_
              refine g_iret hx hb hr hlk hE hw hS dX1_withDigit_79 ?_
              first | exact ⟨by unfold wdF; rw [if_pos ⟨hbd.1, hbd.2, hn0⟩, ← hm, if_pos (Or.inl (by rw [← ex_59]; exact c_60))] <;> rfl, rfl⟩ | exact ⟨by unfold wdF; rw [if_pos ⟨hbd.1, hbd.2, hn0⟩, ← hm, if_neg (fun q => q.elim (fun z => c_60 (by rw [ex_59]; exact z)) (fun z => Int32.not_lt.mpr (by rw [← ex_69]; exact c_70) z))] <;> rfl, rfl⟩ | exact ⟨by unfold wdF; rw [if_pos ⟨hbd.1, hbd.2, hn0⟩, ← hm, if_pos (Or.inr (by rw [← ex_69]; exact Int32.not_le.mp c_70))] <;> rfl, rfl⟩
            · refine lv_iconst (v := (-1)) hx hb dX1_withDigit_73 (by decide) ?_
              refine lv_goto (tgt := 79) hx hb dX1_withDigit_74 (by decide) ?_
              refine g_iret hx hb hr hlk hE hw hS dX1_withDigit_79 ?_
              first | exact ⟨by unfold wdF; rw [if_pos ⟨hbd.1, hbd.2, hn0⟩, ← hm, if_pos (Or.inl (by rw [← ex_59]; exact c_60))] <;> rfl, rfl⟩ | exact ⟨by unfold wdF; rw [if_pos ⟨hbd.1, hbd.2, hn0⟩, ← hm, if_neg (fun q => q.elim (fun z => c_60 (by rw [ex_59]; exact z)) (fun z => Int32.not_lt.mpr (by rw [← ex_69]; exact c_70) z))] <;> rfl, rfl⟩ | exact ⟨by unfold wdF; rw [if_pos ⟨hbd.1, hbd.2, hn0⟩, ← hm, if_pos (Or.inr (by rw [← ex_69]; exact Int32.not_le.mp c_70))] <;> rfl, rfl⟩
        refine lv_iload_n hx hb dX1_withDigit_28 rfl (lv_at hl 1 rfl) ?_
        refine lv_bipush (v := nI 48) hx hb dX1_withDigit_29 (by decide) ?_
        refine lv_isub hx hb dX1_withDigit_31 ?_
        refine lv_topi (fun x_31 ex_31 => ?_)
        refine lv_istore (lv' := [(4, .int x_31), (0, .int n), (1, .int c), (2, .int (nI f)), (3, .int b)]) hx hb dX1_withDigit_32 hl (by decide) rfl (fun ls hl => ?_)
        refine lv_iload_n hx hb dX1_withDigit_34 rfl (lv_at hl 1 rfl) ?_
        refine lv_iconst (v := (-1)) hx hb dX1_withDigit_35 (by decide) ?_
        refine lv_icmp_ne (tgt := 44) hx hb dX1_withDigit_36 (by decide) (fun c_36 => ?_) (fun c_36 => ?_)
        · refine lv_bipush (v := nI 10) hx hb dX1_withDigit_44 (by decide) ?_
          refine lv_iload_n hx hb dX1_withDigit_46 rfl (lv_at hl 1 rfl) ?_
          refine lv_imul hx hb dX1_withDigit_47 ?_
          refine lv_topi (fun x_47 ex_47 => ?_)
          refine lv_iload hx hb dX1_withDigit_48 (lv_at hl 0 rfl) ?_
          refine lv_iadd hx hb dX1_withDigit_50 ?_
          refine lv_topi (fun x_50 ex_50 => ?_)
          refine lv_istore (lv' := [(5, .int x_50), (4, .int x_31), (0, .int n), (1, .int c), (2, .int (nI f)), (3, .int b)]) hx hb dX1_withDigit_51 hl (by decide) rfl (fun ls hl => ?_)
          exact K_53 x_50 (bP_t hbd c_19) c_23 (by first | (rw [if_pos c_36, ex_31]; rfl) | (rw [if_neg c_36, ex_50, ex_47, ex_31]; rfl)) _ _ _ hw hS (lv_sub hl [2, 3, 4, 0] rfl)
        · refine lv_iload hx hb dX1_withDigit_39 (lv_at hl 0 rfl) ?_
          refine lv_goto (tgt := 51) hx hb dX1_withDigit_41 (by decide) ?_
          refine lv_istore (lv' := [(5, .int x_31), (4, .int x_31), (0, .int n), (1, .int c), (2, .int (nI f)), (3, .int b)]) hx hb dX1_withDigit_51 hl (by decide) rfl (fun ls hl => ?_)
          exact K_53 x_31 (bP_t hbd c_19) c_23 (by first | (rw [if_pos c_36, ex_31]; rfl) | (rw [if_neg c_36, ex_50, ex_47, ex_31]; rfl)) _ _ _ hw hS (lv_sub hl [2, 3, 4, 0] rfl)
      · refine lv_iconst (v := (-1)) hx hb dX1_withDigit_26 (by decide) ?_
        refine g_iret hx hb hr hlk hE hw hS dX1_withDigit_27 ?_
        first | exact ⟨by unfold wdF; rw [if_neg (fun q => bP_f hbd c_19 ⟨q.1, q.2.1⟩)] <;> rfl, rfl⟩ | exact ⟨by unfold wdF; rw [if_neg (fun q => q.2.2 c_23)] <;> rfl, rfl⟩
  refine lv_iload_n hx hb dX1_withDigit_0 rfl (lv_at hl 1 rfl) ?_
  refine lv_bipush (v := nI 48) hx hb dX1_withDigit_1 (by decide) ?_
  refine lv_icmp_lt (tgt := 16) hx hb dX1_withDigit_3 (by decide) (fun c_3 => ?_) (fun c_3 => ?_)
  · refine lv_iconst (v := nI 0) hx hb dX1_withDigit_16 (by decide) ?_
    refine lv_istore_n (lv' := [(3, .int (nI 0)), (0, .int n), (1, .int c), (2, .int (nI f))]) hx hb dX1_withDigit_17 rfl hl (by decide) rfl (fun ls hl => ?_)
    exact K_18 (nI 0) (by first | exact Or.inl ⟨rfl, c_3, c_9⟩ | exact Or.inr ⟨rfl, fun q => q.1 c_3⟩ | exact Or.inr ⟨rfl, fun q => q.2 c_9⟩) _ _ _ hw hS (lv_sub hl [1, 2, 3, 0] rfl)
  · refine lv_iload_n hx hb dX1_withDigit_6 rfl (lv_at hl 1 rfl) ?_
    refine lv_bipush (v := nI 57) hx hb dX1_withDigit_7 (by decide) ?_
    refine lv_icmp_gt (tgt := 16) hx hb dX1_withDigit_9 (by decide) (fun c_9 => ?_) (fun c_9 => ?_)
    · refine lv_iconst (v := nI 0) hx hb dX1_withDigit_16 (by decide) ?_
      refine lv_istore_n (lv' := [(3, .int (nI 0)), (0, .int n), (1, .int c), (2, .int (nI f))]) hx hb dX1_withDigit_17 rfl hl (by decide) rfl (fun ls hl => ?_)
      exact K_18 (nI 0) (by first | exact Or.inl ⟨rfl, c_3, c_9⟩ | exact Or.inr ⟨rfl, fun q => q.1 c_3⟩ | exact Or.inr ⟨rfl, fun q => q.2 c_9⟩) _ _ _ hw hS (lv_sub hl [1, 2, 3, 0] rfl)
    · refine lv_iconst (v := nI 1) hx hb dX1_withDigit_12 (by decide) ?_
      refine lv_goto (tgt := 17) hx hb dX1_withDigit_13 (by decide) ?_
      refine lv_istore_n (lv' := [(3, .int (nI 1)), (0, .int n), (1, .int c), (2, .int (nI f))]) hx hb dX1_withDigit_17 rfl hl (by decide) rfl (fun ls hl => ?_)
      exact K_18 (nI 1) (by first | exact Or.inl ⟨rfl, c_3, c_9⟩ | exact Or.inr ⟨rfl, fun q => q.1 c_3⟩ | exact Or.inr ⟨rfl, fun q => q.2 c_9⟩) _ _ _ hw hS (lv_sub hl [1, 2, 3, 0] rfl)
set_option maxHeartbeats 4000000 in
set_option maxRecDepth 100000 in
/-- ZonedLight$PictureText.read()I -/
theorem c_X1_read (l : Launch) (G : GG) (A : Nat → Prop) (σ : St) (t : Nat) (ht : t ≤ 60) (et : σ 8 0 1 = nI t) : MI l yX1_read wsX1_read 1 25 G A σ [.ref (G.1 8 0)] (fun r τ => readP σ τ t r) := by
  refine MI.on (by decide) rfl (Nat.le_of_ble_eq_true rfl) (fun pP eE sS mM args below meth cC ls hx hb hml hr hown hlk hts hE hw hS hl => ?_)
  have hl : lv_has ls 5 [(0, .ref (G.1 8 0))] := hl
  refine lv_aload_n hx hb dX1_read_0 rfl (lv_at hl 0 rfl) ?_
  refine lv_iconst (v := nI 0) hx hb dX1_read_1 (by decide) ?_
  refine gp_X1_numbersRead hx hb hE hw hS (Nat.zero_lt_one) hown (hts (.fieldLink RX1 23 "ZonedLight$PictureText" "numbersRead" "I") (by decide +kernel)) dX1_read_2 (fun H locs hw hS => ?_)
  refine lv_iconst (v := nI 0) hx hb dX1_read_5 (by decide) ?_
  refine lv_istore_n (lv' := [(1, .int (nI 0)), (0, .ref (G.1 8 0))]) hx hb dX1_read_6 rfl hl (by decide) rfl (fun ls hl => ?_)
  refine lv_iconst (v := (-1)) hx hb dX1_read_7 (by decide) ?_
  refine lv_istore_n (lv' := [(2, .int (-1)), (1, .int (nI 0)), (0, .ref (G.1 8 0))]) hx hb dX1_read_8 rfl hl (by decide) rfl (fun ls hl => ?_)
  refine lv_iconst (v := nI 0) hx hb dX1_read_9 (by decide) ?_
  refine lv_istore_n (lv' := [(3, .int (nI 0)), (2, .int (-1)), (1, .int (nI 0)), (0, .ref (G.1 8 0))]) hx hb dX1_read_10 rfl hl (by decide) rfl (fun ls hl => ?_)
  have K_11 : ∀ (fuel : Nat) (i : Nat) (f : Nat) (v : Int32) (row : Nat → Int32) (cnt : Nat) (P : List Int32) (σ2 : St), (i ≤ t) → (f < 5) → (σ2 = us (ur σ 10 0 row) 8 0 3 (nI cnt)) → (rdI (σ 9 0) t i f v row cnt P) → t - i < fuel → ∀ (H : Heap) (locs : List Loc) (ls : Array Slot), Wcel G σ2 H → va_S A sS.heap H locs → lv_has ls 5 [(0, .ref (G.1 8 0)), (1, .int (nI f)), (2, .int v), (3, .int (nI i))] → W pP l eE { frames := 1, cells := 0, slots := 0, locals := 25 } sS mM args below meth cC H locs 0 0 (MQ below (va_Qi (fun r τ => readP σ τ t r) (fun τ t => gP G A τ t) A) args sS 0 0 A) (F0 mM 11 ls []) := by
    intro fuel
    induction fuel with
    | zero =>
      intro i f v row cnt P σ2 hi hf h2 hI hfu
      exact absurd hfu (Nat.not_lt_zero _)
    | succ fuel K_11 =>
      intro i f v row cnt P σ2 hi hf h2 hI hfu H locs ls hw hS hl
      subst h2
      refine lv_iload_n hx hb dX1_read_11 rfl (lv_at hl 3 rfl) ?_
      refine lv_aload_n hx hb dX1_read_12 rfl (lv_at hl 0 rfl) ?_
      refine gf_X1_length hx hb hE hw (Nat.zero_lt_one) hown (hts (.fieldLink RX1 15 "ZonedLight$PictureText" "length" "I") (by decide +kernel)) dX1_read_13 ?_
      refine lv_topi (fun x_13 ex_13 => ?_)
      obtain rfl : x_13 = nI t := by rw [ex_13, us_not (by decide), ur_k (by decide), et]
      refine n_cmp_ge (tgt := 79) hx hb dX1_read_16 (by decide) (by omega) (by omega) (fun c_16 => ?_) (fun c_16 => ?_)
      · refine lv_iload_n hx hb dX1_read_79 rfl (lv_at hl 1 rfl) ?_
        refine lv_iconst (v := nI 4) hx hb dX1_read_80 (by decide) ?_
        refine n_cmp_ne (tgt := 89) hx hb dX1_read_81 (by decide) (by omega) (by omega) (fun c_81 => ?_) (fun c_81 => ?_)
        · refine lv_aload_n hx hb dX1_read_89 rfl (lv_at hl 0 rfl) ?_
          refine gf_X1_length hx hb hE hw (Nat.zero_lt_one) hown (hts (.fieldLink RX1 15 "ZonedLight$PictureText" "length" "I") (by decide +kernel)) dX1_read_90 ?_
          refine lv_topi (fun x_90 ex_90 => ?_)
          obtain rfl : x_90 = nI t := by rw [ex_90, us_not (by decide), ur_k (by decide), et]
          obtain rfl : i = t := by omega
          refine g_iret hx hb hr hlk hE hw hS dX1_read_93 ?_
          first | exact readP_bad (by have := hI.2.2.2.1; omega) (by omega) (rdI_end hI (fun q => c_81 q.1)) | exact readP_bad (by have := hI.2.2.2.1; omega) (by omega) (rdI_end hI (fun q => q.2 c_86))
        · refine lv_iload_n hx hb dX1_read_84 rfl (lv_at hl 2 rfl) ?_
          refine lv_iconst (v := (-1)) hx hb dX1_read_85 (by decide) ?_
          refine lv_icmp_ne (tgt := 94) hx hb dX1_read_86 (by decide) (fun c_86 => ?_) (fun c_86 => ?_)
          · obtain rfl : i = t := by omega
            have hcnt : cnt < 30 := by have := hI.2.2.2.2 c_86; omega
            refine lv_aload_n hx hb dX1_read_94 rfl (lv_at hl 0 rfl) ?_
            refine lv_iload_n hx hb dX1_read_95 rfl (lv_at hl 2 rfl) ?_
            refine g_Vv (n := 1) (As := [.int v]) (rest := []) hx hb hml hown hts hE hw hS gX1_read_X1_addNumber (c_X1_addNumber l G A _ cnt v hcnt us_at) rfl (by decide +kernel) ⟨Nat.le_of_ble_eq_true rfl, Nat.le_of_ble_eq_true rfl⟩ (Nat.zero_lt_one) rfl rfl rfl rfl hl.1 rfl (Nat.le_of_ble_eq_true rfl) ⟨Nat.le_of_ble_eq_true rfl, Nat.le_of_ble_eq_true rfl⟩ dX1_read_96 (fun τ_96 H locs hp_96 hw hS => ?_)
            refine lv_bipush (v := (-5)) hx hb dX1_read_99 (by decide) ?_
            refine g_iret hx hb hr hlk hE hw hS dX1_read_101 ?_
            rw [hp_96, rd_step]; exact readP_ok hcnt hI ⟨by omega, c_86⟩
          · refine lv_aload_n hx hb dX1_read_89 rfl (lv_at hl 0 rfl) ?_
            refine gf_X1_length hx hb hE hw (Nat.zero_lt_one) hown (hts (.fieldLink RX1 15 "ZonedLight$PictureText" "length" "I") (by decide +kernel)) dX1_read_90 ?_
            refine lv_topi (fun x_90 ex_90 => ?_)
            obtain rfl : x_90 = nI t := by rw [ex_90, us_not (by decide), ur_k (by decide), et]
            obtain rfl : i = t := by omega
            refine g_iret hx hb hr hlk hE hw hS dX1_read_93 ?_
            first | exact readP_bad (by have := hI.2.2.2.1; omega) (by omega) (rdI_end hI (fun q => c_81 q.1)) | exact readP_bad (by have := hI.2.2.2.1; omega) (by omega) (rdI_end hI (fun q => q.2 c_86))
      · refine lv_aload_n hx hb dX1_read_19 rfl (lv_at hl 0 rfl) ?_
        refine gf_X1_characters hx hb hE hw (Nat.zero_lt_one) hown (hts (.fieldLink RX1 11 "ZonedLight$PictureText" "characters" "[C") (by decide +kernel)) dX1_read_20 ?_
        refine lv_iload_n hx hb dX1_read_23 rfl (lv_at hl 3 rfl) ?_
        refine g_cald hx hb hE hw (n := 60) (Nat.zero_lt_one) rfl (by decide) (by omega) dX1_read_24 ?_
        refine lv_topi (fun x_24 ex_24 => ?_)
        have e24 : x_24 = σ 9 0 i := by rw [ex_24, us_k (by decide), ur_k (by decide)]
        refine lv_istore (lv' := [(4, .int x_24), (0, .ref (G.1 8 0)), (1, .int (nI f)), (2, .int v), (3, .int (nI i))]) hx hb dX1_read_25 hl (by decide) rfl (fun ls hl => ?_)
        refine lv_iload_n hx hb dX1_read_27 rfl (lv_at hl 3 rfl) ?_
        refine lv_iconst (v := (-1)) hx hb dX1_read_28 (by decide) ?_
        refine lv_icmp_eq (tgt := 58) hx hb dX1_read_29 (by decide) (fun c_29 => ?_) (fun c_29 => ?_)
        · have hnsep : ¬ (¬ v = -1 ∧ σ 9 0 i = tab_END.getD f 0) := fun q => q.1 c_29
          refine lv_iload_n hx hb dX1_read_58 rfl (lv_at hl 3 rfl) ?_
          refine lv_iload hx hb dX1_read_59 (lv_at hl 0 rfl) ?_
          refine lv_iload_n hx hb dX1_read_61 rfl (lv_at hl 2 rfl) ?_
          refine g_Si (n := 3) (As := [.int v, .int x_24, .int (nI f)]) (rest := []) hx hb hml hown hts hE hw hS gX1_read_X1_withDigit (c_X1_withDigit l G A _ v x_24 f (by omega)) rfl (by decide +kernel) ⟨Nat.le_of_ble_eq_true rfl, Nat.le_of_ble_eq_true rfl⟩ rfl hl.1 rfl (Nat.le_of_ble_eq_true rfl) ⟨Nat.le_of_ble_eq_true rfl, Nat.le_of_ble_eq_true rfl⟩ dX1_read_62 (fun x_62 τ_62 H locs hp_62 hw hS => ?_)
          obtain ⟨ex_62, hτ_62⟩ := hp_62
          rw [hτ_62] at hw
          have ex_62w : x_62 = wdF v (σ 9 0 i) f := by rw [ex_62, e24]
          refine lv_istore_n (lv' := [(2, .int x_62), (4, .int x_24), (0, .ref (G.1 8 0)), (1, .int (nI f)), (3, .int (nI i))]) hx hb dX1_read_65 rfl hl (by decide) rfl (fun ls hl => ?_)
          refine lv_iload_n hx hb dX1_read_66 rfl (lv_at hl 0 rfl) ?_
          refine lv_iconst (v := (-1)) hx hb dX1_read_67 (by decide) ?_
          refine lv_icmp_ne (tgt := 73) hx hb dX1_read_68 (by decide) (fun c_68 => ?_) (fun c_68 => ?_)
          · have hnw : ¬ wdF v (σ 9 0 i) f = -1 := by rw [← ex_62w]; exact c_68
            refine lv_iinc (v := nI (i + 1)) (lv' := [(3, .int (nI (i + 1))), (2, .int x_62), (4, .int x_24), (0, .ref (G.1 8 0)), (1, .int (nI f))]) hx hb dX1_read_73 hl (k := 4) rfl (nI_add _ _) (by decide) rfl (fun ls hl => ?_)
            refine lv_goto (tgt := 11) hx hb dX1_read_76 (by decide) ?_
            first | exact K_11 (i + 1) f x_62 (upd row cnt v) (cnt + 1) (P ++ [v]) _ (by first | omega | assumption | rfl) (Nat.mod_lt _ (by decide)) (by rw [hp_44, rd_step]) (rdI_sep hI c_16 c_29 hc39) (by omega) _ _ _ hw hS (lv_sub hl [3, 4, 1, 0] rfl) | exact K_11 (i + 1) f x_62 row cnt P _ (by first | omega | assumption | rfl) (by first | omega | assumption | rfl) rfl (by rw [ex_62w]; exact rdI_dig hI c_16 hnsep hnw) (by omega) _ _ _ hw hS (lv_sub hl [3, 4, 1, 0] rfl)
          · have hbad := rdI_bad hI c_16 hnsep (by rw [← ex_62w]; exact c_68)
            refine lv_iload_n hx hb dX1_read_71 rfl (lv_at hl 4 rfl) ?_
            refine g_iret hx hb hr hlk hE hw hS dX1_read_72 ?_
            exact readP_bad (by have := hI.2.2.2.1; omega) (by omega) hbad
        · refine lv_iload hx hb dX1_read_32 (lv_at hl 0 rfl) ?_
          refine g_gets hx hb hS hE.2.2.2.2.2.2.2.2.2.2 hown (hts (.fieldLink RX1 26 "ZonedLight$PictureText" "END" "[C") (by decide +kernel)) dX1_read_34 (fun t_34 ht_34 => ?_)
          refine lv_iload_n hx hb dX1_read_37 rfl (lv_at hl 2 rfl) ?_
          refine g_tcd hx hb hS ht_34 (by decide) (by omega) dX1_read_38 ?_
          refine lv_topi (fun x_38 ex_38 => ?_)
          refine lv_icmp_ne (tgt := 58) hx hb dX1_read_39 (by decide) (fun c_39 => ?_) (fun c_39 => ?_)
          · have hnsep : ¬ (¬ v = -1 ∧ σ 9 0 i = tab_END.getD f 0) := fun q => c_39 (by rw [e24, ex_38]; exact q.2)
            refine lv_iload_n hx hb dX1_read_58 rfl (lv_at hl 3 rfl) ?_
            refine lv_iload hx hb dX1_read_59 (lv_at hl 0 rfl) ?_
            refine lv_iload_n hx hb dX1_read_61 rfl (lv_at hl 2 rfl) ?_
            refine g_Si (n := 3) (As := [.int v, .int x_24, .int (nI f)]) (rest := []) hx hb hml hown hts hE hw hS gX1_read_X1_withDigit (c_X1_withDigit l G A _ v x_24 f (by omega)) rfl (by decide +kernel) ⟨Nat.le_of_ble_eq_true rfl, Nat.le_of_ble_eq_true rfl⟩ rfl hl.1 rfl (Nat.le_of_ble_eq_true rfl) ⟨Nat.le_of_ble_eq_true rfl, Nat.le_of_ble_eq_true rfl⟩ dX1_read_62 (fun x_62 τ_62 H locs hp_62 hw hS => ?_)
            obtain ⟨ex_62, hτ_62⟩ := hp_62
            rw [hτ_62] at hw
            have ex_62w : x_62 = wdF v (σ 9 0 i) f := by rw [ex_62, e24]
            refine lv_istore_n (lv' := [(2, .int x_62), (4, .int x_24), (0, .ref (G.1 8 0)), (1, .int (nI f)), (3, .int (nI i))]) hx hb dX1_read_65 rfl hl (by decide) rfl (fun ls hl => ?_)
            refine lv_iload_n hx hb dX1_read_66 rfl (lv_at hl 0 rfl) ?_
            refine lv_iconst (v := (-1)) hx hb dX1_read_67 (by decide) ?_
            refine lv_icmp_ne (tgt := 73) hx hb dX1_read_68 (by decide) (fun c_68 => ?_) (fun c_68 => ?_)
            · have hnw : ¬ wdF v (σ 9 0 i) f = -1 := by rw [← ex_62w]; exact c_68
              refine lv_iinc (v := nI (i + 1)) (lv' := [(3, .int (nI (i + 1))), (2, .int x_62), (4, .int x_24), (0, .ref (G.1 8 0)), (1, .int (nI f))]) hx hb dX1_read_73 hl (k := 4) rfl (nI_add _ _) (by decide) rfl (fun ls hl => ?_)
              refine lv_goto (tgt := 11) hx hb dX1_read_76 (by decide) ?_
              first | exact K_11 (i + 1) f x_62 (upd row cnt v) (cnt + 1) (P ++ [v]) _ (by first | omega | assumption | rfl) (Nat.mod_lt _ (by decide)) (by rw [hp_44, rd_step]) (rdI_sep hI c_16 c_29 hc39) (by omega) _ _ _ hw hS (lv_sub hl [3, 4, 1, 0] rfl) | exact K_11 (i + 1) f x_62 row cnt P _ (by first | omega | assumption | rfl) (by first | omega | assumption | rfl) rfl (by rw [ex_62w]; exact rdI_dig hI c_16 hnsep hnw) (by omega) _ _ _ hw hS (lv_sub hl [3, 4, 1, 0] rfl)
            · have hbad := rdI_bad hI c_16 hnsep (by rw [← ex_62w]; exact c_68)
              refine lv_iload_n hx hb dX1_read_71 rfl (lv_at hl 4 rfl) ?_
              refine g_iret hx hb hr hlk hE hw hS dX1_read_72 ?_
              exact readP_bad (by have := hI.2.2.2.1; omega) (by omega) hbad
          · have hc39 : σ 9 0 i = tab_END.getD f 0 := by rw [← e24, ← ex_38]; exact c_39
            have hcnt : cnt < 30 := by have := hI.2.2.2.2 c_29; omega
            refine lv_aload_n hx hb dX1_read_42 rfl (lv_at hl 1 rfl) ?_
            refine lv_iload_n hx hb dX1_read_43 rfl (lv_at hl 3 rfl) ?_
            refine g_Vv (n := 1) (As := [.int v]) (rest := []) hx hb hml hown hts hE hw hS gX1_read_X1_addNumber (c_X1_addNumber l G A _ cnt v hcnt us_at) rfl (by decide +kernel) ⟨Nat.le_of_ble_eq_true rfl, Nat.le_of_ble_eq_true rfl⟩ (Nat.zero_lt_one) rfl rfl rfl rfl hl.1 rfl (Nat.le_of_ble_eq_true rfl) ⟨Nat.le_of_ble_eq_true rfl, Nat.le_of_ble_eq_true rfl⟩ dX1_read_44 (fun τ_44 H locs hp_44 hw hS => ?_)
            refine lv_iload_n hx hb dX1_read_47 rfl (lv_at hl 2 rfl) ?_
            refine lv_iconst (v := nI 1) hx hb dX1_read_48 (by decide) ?_
            refine n_iadd hx hb dX1_read_49 ?_
            refine lv_iconst (v := nI 5) hx hb dX1_read_50 (by decide) ?_
            refine n_irem hx hb dX1_read_51 (by omega) (by omega) (by omega) ?_
            refine lv_istore_n (lv' := [(1, .int (nI ((f + 1) % 5))), (4, .int x_24), (0, .ref (G.1 8 0)), (2, .int v), (3, .int (nI i))]) hx hb dX1_read_52 rfl hl (by decide) rfl (fun ls hl => ?_)
            refine lv_iconst (v := (-1)) hx hb dX1_read_53 (by decide) ?_
            refine lv_istore_n (lv' := [(2, .int (-1)), (1, .int (nI ((f + 1) % 5))), (4, .int x_24), (0, .ref (G.1 8 0)), (3, .int (nI i))]) hx hb dX1_read_54 rfl hl (by decide) rfl (fun ls hl => ?_)
            refine lv_goto (tgt := 73) hx hb dX1_read_55 (by decide) ?_
            refine lv_iinc (v := nI (i + 1)) (lv' := [(3, .int (nI (i + 1))), (2, .int (-1)), (1, .int (nI ((f + 1) % 5))), (4, .int x_24), (0, .ref (G.1 8 0))]) hx hb dX1_read_73 hl (k := 4) rfl (nI_add _ _) (by decide) rfl (fun ls hl => ?_)
            refine lv_goto (tgt := 11) hx hb dX1_read_76 (by decide) ?_
            first | exact K_11 (i + 1) ((f + 1) % 5) (-1) (upd row cnt v) (cnt + 1) (P ++ [v]) _ (by first | omega | assumption | rfl) (Nat.mod_lt _ (by decide)) (by rw [hp_44, rd_step]) (rdI_sep hI c_16 c_29 hc39) (by omega) _ _ _ hw hS (lv_sub hl [4, 2, 1, 0] rfl) | exact K_11 (i + 1) ((f + 1) % 5) (-1) row cnt P _ (by first | omega | assumption | rfl) (by first | omega | assumption | rfl) rfl (by rw [ex_62w]; exact rdI_dig hI c_16 hnsep hnw) (by omega) _ _ _ hw hS (lv_sub hl [4, 2, 1, 0] rfl)
  exact K_11 (t - 0 + 1) 0 0 (-1) (σ 10 0) 0 ([]) _ (by first | omega | assumption | rfl) (by first | omega | assumption | rfl) (by rw [ur_self (σ := σ) rfl]) (rdI_0 (σ 9 0) t (σ 10 0)) (Nat.lt_succ_self _) _ _ _ hw hS (lv_sub hl [3, 2, 1, 0] rfl)
