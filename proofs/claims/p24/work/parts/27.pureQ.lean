/-! PURE: the reference's questions -/
theorem zone_of {x y : Nat} (hx : x < 24) (hy : y < 12) : 6 * (y / 4) + x / 4 = (24 * y + x) / 24 / 4 * 6 + (24 * y + x) % 24 / 4 := by
  rw [show (24 * y + x) / 24 = y by omega, show (24 * y + x) % 24 = x by omega]
  omega
theorem spot_out {w : Int32} (h0 : ¬ w = 0) (h1 : ¬ w = 1) (h2 : ¬ w = 2) (h3 : ¬ w = 3) (h4 : ¬ w = 4) : w < 0 ∨ 4 < w := by
  have t0 := tw_ne (k := 0) 0 (by decide) h0
  have t1 := tw_ne (k := 1) 1 (by decide) h1
  have t2 := tw_ne (k := 2) 2 (by decide) h2
  have t3 := tw_ne (k := 3) 3 (by decide) h3
  have t4 := tw_ne (k := 4) 4 (by decide) h4
  have e0 : (0 : Int32).toInt = 0 := by decide
  have e4 : (4 : Int32).toInt = 4 := by decide
  rw [Int32.lt_iff_toInt_lt, Int32.lt_iff_toInt_lt, e0, e4]
  omega
theorem set_at {w : Int32} (h : btw w (nI 13) (nI 20)) : ∃ k, 13 ≤ k ∧ k < 21 ∧ w = nI k := by
  have e1 : (nI 13).toInt = 13 := by decide
  have e2 : (nI 20).toInt = 20 := by decide
  have g1 := Int32.not_lt.mp h.1
  have g2 := Int32.not_lt.mp h.2
  rw [Int32.le_iff_toInt_le, e1] at g1
  rw [Int32.le_iff_toInt_le, e2] at g2
  obtain ⟨k, hk, e⟩ := nI_of (x := w) (fun q => by
    have := Int32.lt_iff_toInt_lt.mp q
    have e0 : (0 : Int32).toInt = 0 := by decide
    omega)
  rw [e, nI_toInt hk] at g1 g2
  exact ⟨k, by omega, by omega, e⟩
theorem count_out {w : Int32} (h : w.toInt < 0 ∨ 12 < w.toInt) (hb : ¬ btw w (nI 13) (nI 20)) : w < 0 ∨ 21 ≤ w := by
  have e1 : (nI 13).toInt = 13 := by decide
  have e2 : (nI 20).toInt = 20 := by decide
  have e0 : (0 : Int32).toInt = 0 := by decide
  have e3 : (21 : Int32).toInt = 21 := by decide
  rw [Int32.lt_iff_toInt_lt, Int32.le_iff_toInt_le, e0, e3]
  rcases h with h | h
  · exact Or.inl h
  · right
    refine Int.not_lt.mp fun q => hb ⟨fun z => ?_, fun z => ?_⟩
    · rw [Int32.lt_iff_toInt_lt, e1] at z
      omega
    · rw [Int32.lt_iff_toInt_lt, e2] at z
      omega
theorem okA_step {a : Nat → Int32} (h : okA a) : 0 < a 331 := by
  obtain ⟨n, h1, h2, e⟩ := h.1.2.2.2.2.2.2.2.2.2
  rw [e]
  exact nI_lt (a := 0) (by omega) (by omega)
theorem step_pos {f : Int32} (h : ¬ f < nI 1) : 0 < f := by
  have e1 : (nI 1).toInt = 1 := by decide
  have e0 : (0 : Int32).toInt = 0 := by decide
  have g := Int32.not_lt.mp h
  rw [Int32.le_iff_toInt_le, e1] at g
  rw [Int32.lt_iff_toInt_lt, e0]
  omega
theorem rule_in {q w : Int32} (h1 : btw q (nI 0) (nI 2)) (h2 : btw w (nI 0) (nI 3)) : ¬ (q < 0 ∨ 3 ≤ q ∨ w < 0 ∨ 3 < w) := by
  rintro (g | g | g | g)
  · exact h1.1 g
  · exact ((inN_iff (by decide)).mp ((btw_in (n := 2) (by decide)).mp h1)).2 g
  · exact h2.1 g
  · exact h2.2 g
theorem rule_out {q w : Int32} (h : ¬ (btw q (nI 0) (nI 2) ∧ btw w (nI 0) (nI 3))) : q < 0 ∨ 3 ≤ q ∨ w < 0 ∨ 3 < w := by
  refine Decidable.byContradiction fun g => h ⟨(btw_in (by decide)).mpr ((inN_iff (by decide)).mpr ⟨fun z => g (Or.inl z), fun z => g (Or.inr (Or.inl z))⟩), fun z => g (Or.inr (Or.inr (Or.inl z))), fun z => g (Or.inr (Or.inr (Or.inr z)))⟩
theorem rule_4 {w : Int32} (h : btw w (nI 0) (nI 3)) : w = 0 ∨ w = 1 ∨ w = 2 ∨ w = 3 := by
  obtain ⟨k, hk, e⟩ := (btw_in (n := 3) (by decide)).mp h
  rw [e]
  rcases (show k = 0 ∨ k = 1 ∨ k = 2 ∨ k = 3 by omega) with rfl | rfl | rfl | rfl
  · exact Or.inl rfl
  · exact Or.inr (Or.inl rfl)
  · exact Or.inr (Or.inr (Or.inl rfl))
  · exact Or.inr (Or.inr (Or.inr rfl))
theorem rest_gen {a w : Nat → Int32} {v u : Int32} (h0 : ¬ v = 0) (hu : (if v = 1 then 3 else v - 1) = u) : (if v = 0 then powK w 18 else accZ (fS a w (if v = 1 then 3 else v - 1)) 0 18) = accZ (fS a w u) 0 18 := by
  rw [if_neg h0, hu]
theorem ruleR_0 {a : Nat → Int32} {q : Int32} : ruleR a q 0 = powK (wantF a q) 18 := if_pos rfl
theorem ruleR_1 {a : Nat → Int32} {q : Int32} : ruleR a q 1 = tAll a (wantF a q) 18 2 := by
  rw [ruleR, if_neg (by decide), if_pos rfl]
theorem ruleR_2 {a : Nat → Int32} {q : Int32} : ruleR a q 2 = tAll a (wantF a q) 18 0 := by
  rw [ruleR, if_neg (by decide), if_neg (by decide), if_pos rfl]
theorem ruleR_3 {a : Nat → Int32} {q : Int32} : ruleR a q 3 = tAll a (wantF a q) 18 1 := by
  rw [ruleR, if_neg (by decide), if_neg (by decide), if_neg (by decide)]
theorem tAll_2 {a w : Nat → Int32} : accZ (fS a w 3) 0 18 = tAll a w 18 2 := (tAll_fS 18).2.2.1.symm
theorem tAll_0 {a w : Nat → Int32} : accZ (fS a w 1) 0 18 = tAll a w 18 0 := (tAll_fS 18).1.symm
theorem tAll_1 {a w : Nat → Int32} : accZ (fS a w 2) 0 18 = tAll a w 18 1 := (tAll_fS 18).2.1.symm
theorem rest_rule {a : Nat → Int32} {q w : Int32} (h : w = 0 ∨ w = 1 ∨ w = 2 ∨ w = 3) : (if w = 0 then powK (wantF a q) 18 else accZ (fS a (wantF a q) (if w = 1 then 3 else w - 1)) 0 18) = ruleR a q w := by
  rcases h with h | h | h | h
  · rw [h, if_pos rfl, ruleR_0]
  · rw [h, rest_gen (u := 3) (by decide) (by decide), tAll_2, ruleR_1]
  · rw [h, rest_gen (u := 1) (by decide) (by decide), tAll_0, ruleR_2]
  · rw [h, rest_gen (u := 2) (by decide) (by decide), tAll_1, ruleR_3]
/-- the dearest zone, as the reference finds it -/
def deaK (a : Nat → Int32) : Nat → Int32 × Int32
  | 0 => (-5, 0)
  | z + 1 => if a (306 + z) = 0 ∧ ((deaK a z).1 = -5 ∨ (deaK a z).2 < dieV a z) then (nI z, dieV a z) else deaK a z
def dearM (a : Nat → Int32) (w : Int32) : Int32 := if w < 0 ∨ 1 < w then -2 else if (deaK a 18).1 = -5 ∨ w = 0 then (deaK a 18).1 else (deaK a 18).2
theorem restd_1 {a w : Nat → Int32} : (if nI 1 = 0 then powK w 18 else accZ (fS a w (if nI 1 = 1 then 3 else nI 1 - 1)) 0 18) = tAll a w 18 2 := by
  rw [rest_gen (u := 3) (by decide) (by decide), tAll_2]
theorem restd_0 {a w : Nat → Int32} : (if nI 0 = 0 then powK w 18 else accZ (fS a w (if nI 0 = 1 then 3 else nI 0 - 1)) 0 18) = powK w 18 := if_pos (by decide)
theorem over_tally {a : Nat → Int32} {w : Int32} (h : w = 4 ∨ w = 5 ∨ w = 6 ∨ w = 7 ∨ w = 8) : accZ (fS a (levO a) (w - nI 4)) 0 18 = tallyV a w := by
  unfold tallyV
  rcases h with rfl | rfl | rfl | rfl | rfl
  · rw [if_pos rfl, show (4 : Int32) - nI 4 = 0 from by decide]
    exact acc_asked
  · rw [if_neg (by decide), if_pos rfl, show (5 : Int32) - nI 4 = 1 from by decide]
    exact (tAll_fS 18).1.symm
  · rw [if_neg (by decide), if_neg (by decide), if_pos rfl, show (6 : Int32) - nI 4 = 2 from by decide]
    exact (tAll_fS 18).2.1.symm
  · rw [if_neg (by decide), if_neg (by decide), if_neg (by decide), if_pos rfl, show (7 : Int32) - nI 4 = 3 from by decide]
    exact (tAll_fS 18).2.2.1.symm
  · rw [if_neg (by decide), if_neg (by decide), if_neg (by decide), if_neg (by decide), show (8 : Int32) - nI 4 = 4 from by decide]
    exact (tAll_fS 18).2.2.2.1.symm
theorem over_7 {a : Nat → Int32} {z : Nat} : accK (fS a (levO a) (7 - nI 6)) z 0 16 = tZ a (levO a) z (fun _ => 0) 16 0 := by
  rw [show (7 : Int32) - nI 6 = 1 from by decide]
  exact (tZ_fS (r := fun _ => 0) 16).1.symm
theorem over_8 {a : Nat → Int32} {z : Nat} : accK (fS a (levO a) (8 - nI 6)) z 0 16 = tZ a (levO a) z (fun _ => 0) 16 1 := by
  rw [show (8 : Int32) - nI 6 = 2 from by decide]
  exact (tZ_fS (r := fun _ => 0) 16).2.1.symm
