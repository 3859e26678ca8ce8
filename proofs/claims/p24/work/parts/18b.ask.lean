/-! PURE: the questions' answers, case by case -/
def spotV (a : Nat → Int32) (s lt w : Int32) : Int32 := if w < 0 ∨ 4 < w then -2 else if w = 0 then s else if w = 1 then lt else if w = 2 then glassF s lt else if w = 3 then shownF a s lt else verdF s (shownF a s lt)
def spotQ (a : Nat → Int32) (x y w : Int32) : Int32 := if onB x y = true then spotV a (a (sxy x y)) (lightF a (levO a) (y.toNatClampNeg / 4 * 6 + x.toNatClampNeg / 4)) w else -1
theorem spotQ_off {a : Nat → Int32} {x y w : Int32} (h : ¬ onP x y) : spotQ a x y w = -1 := if_neg (fun q => h (onB_iff.mp q))
theorem spotQ_nI {a : Nat → Int32} {x y : Nat} {w : Int32} (hx : x < 24) (hy : y < 12) : spotQ a (nI x) (nI y) w = spotV a (a (y * 24 + x)) (lightF a (levO a) (6 * (y / 4) + x / 4)) w := by
  unfold spotQ
  rw [if_pos (onB_iff.mpr (onP_nI hx hy)), sxy_nI hx hy, nI_clamp (by omega), nI_clamp (by omega), show y / 4 * 6 + x / 4 = 6 * (y / 4) + x / 4 by omega]
def zoneV (a : Nat → Int32) (z : Nat) (w : Int32) : Int32 := if w = 0 then a (288 + z) else if w = 1 then wantF a (a 327) z else if w = 2 then lightF a (levO a) z else if w = 3 then a (306 + z) else if w = 4 then peakF a z else if w = 5 then meanF a z
    else if w = 6 then leakF a (lightF a (levO a) z) else if w = 7 then tZ a (levO a) z (fun _ => 0) 16 0 else if w = 8 then tZ a (levO a) z (fun _ => 0) 16 1 else -2
def zoneQ (a : Nat → Int32) (z w : Int32) : Int32 := if zB z = true then zoneV a z.toNatClampNeg w else -1
theorem zoneQ_no {a : Nat → Int32} {z w : Int32} (h : ¬ inN z 18) : zoneQ a z w = -1 := if_neg (fun q => h (zB_iff.mp q))
theorem zoneQ_nI {a : Nat → Int32} {z : Nat} {w : Int32} (hz : z < 18) : zoneQ a (nI z) w = zoneV a z w := by
  unfold zoneQ
  rw [if_pos (zB_iff.mpr ⟨z, hz, rfl⟩), nI_clamp (by omega)]
def tallyV (a : Nat → Int32) (w : Int32) : Int32 := if w = 4 then nI 288 - tAll a (levO a) 18 0 - tAll a (levO a) 18 1 else if w = 5 then tAll a (levO a) 18 0 else if w = 6 then tAll a (levO a) 18 1 else if w = 7 then tAll a (levO a) 18 2 else tAll a (levO a) 18 3
def countV (a : Nat → Int32) (n t : Nat) (w : Int32) : Int32 := if w = 0 then a 332 else if w = 1 then powK (levO a) 18 else if w = 2 then a 333 else if w = 3 then a 334 else if w = 4 ∨ w = 5 ∨ w = 6 ∨ w = 7 ∨ w = 8 then tallyV a w
    else if w = 9 then deadK a 18 else if w = 10 then (if gapF a = 0 then 1 else 0) else if w = 11 then nI n else if w = 12 then nI t else tallyV a w
def countQ (a : Nat → Int32) (n t : Nat) (w : Int32) : Int32 := if w < 0 ∨ 21 ≤ w then -2 else if w < 13 then countV a n t w else a (324 + (w - 13).toNatClampNeg)
theorem countQ_bad {a : Nat → Int32} {n t : Nat} {w : Int32} (h : w < 0 ∨ 21 ≤ w) : countQ a n t w = -2 := if_pos h
theorem countQ_v {a : Nat → Int32} {n t : Nat} {w : Int32} (h0 : ¬ w < 0) (h : w < 13) : countQ a n t w = countV a n t w := by
  unfold countQ
  rw [if_neg, if_pos h]
  rintro (q | q)
  · exact h0 q
  · have e1 := Int32.le_iff_toInt_le.mp q
    have e2 := Int32.lt_iff_toInt_lt.mp h
    have e3 : (21 : Int32).toInt = 21 := by decide
    have e4 : (13 : Int32).toInt = 13 := by decide
    omega
theorem countQ_s {a : Nat → Int32} {n t k : Nat} (h1 : 13 ≤ k) (h2 : k < 21) : countQ a n t (nI k) = a (324 + (k - 13)) := by
  unfold countQ
  rw [if_neg, if_neg (show ¬ nI k < 13 from nI_nlt (b := 13) h1 (by omega)), show nI k - 13 = nI (k - 13) from pk_sub (b := 13) h1, nI_clamp (by omega)]
  rintro (q | q)
  · exact nI_pos (by omega) q
  · exact nI_ge (b := 21) h2 (by decide) q
def restsQ (a : Nat → Int32) : Int32 := rupF (gapF a) (a 331)
def stepQ (a : Nat → Int32) (fr : Int32) : Int32 := if fr < 1 ∨ 255 < fr then -2 else rupF (gapF a) fr
def ruleR (a : Nat → Int32) (r w : Int32) : Int32 := if w = 0 then powK (wantF a r) 18 else if w = 1 then tAll a (wantF a r) 18 2 else if w = 2 then tAll a (wantF a r) 18 0 else tAll a (wantF a r) 18 1
def ruleQ (a : Nat → Int32) (r w : Int32) : Int32 := if r < 0 ∨ 3 ≤ r ∨ w < 0 ∨ 3 < w then -2 else ruleR a r w
def offR (a : Nat → Int32) (k : Nat) : Int32 := tAll a (wantF a (nI k)) 18 2
def powR (a : Nat → Int32) (k : Nat) : Int32 := powK (wantF a (nI k)) 18
def bestK (a : Nat → Int32) : Nat → Int32 × Int32 × Int32
  | 0 => (0, 0, 0)
  | k + 1 => if k = 0 ∨ offR a k < (bestK a k).2.1 ∨ (offR a k = (bestK a k).2.1 ∧ powR a k < (bestK a k).2.2) then (nI k, offR a k, powR a k) else bestK a k
def dieV (a : Nat → Int32) (z : Nat) : Int32 := tAll (upd a (306 + z) 1) (wantF (upd a (306 + z) 1) (a 327)) 18 2
def dearK (a : Nat → Int32) : Nat → Int32 × Int32
  | 0 => (-5, -5)
  | z + 1 => if a (306 + z) = 0 ∧ (dearK a z).2 < dieV a z then (nI z, dieV a z) else dearK a z
def dearQ (a : Nat → Int32) (w : Int32) : Int32 := if w < 0 ∨ 1 < w then -2 else if w = 0 then (dearK a 18).1 else (dearK a 18).2
theorem make_keep {σ τ : St} {r q : Nat → Int32} (h : τ = ur (ur σ 13 0 r) 12 0 q) : keepC σ τ := by
  rw [h]
  exact (sameC.rf.ur (Or.inl (by unfold scrC; decide)) (by decide)).ur (Or.inl (by unfold scrC; decide)) (by decide)
theorem tal_keep {σ τ : St} {q : Nat → Int32} (h : τ = ur σ 14 0 q) : keepC σ τ := by
  rw [h]
  exact sameC.rf.ur (Or.inl (by unfold scrC; decide)) (by decide)
theorem keepC_row {σ τ : St} (h : keepC σ τ) {k i : Nat} (hc : ¬ scrC k i) : τ k i = σ k i := h.1 k i hc (fun q => q)
theorem keepC_now {σ τ : St} (h : keepC σ τ) : scr τ 0 = scr σ 0 := sameC_row h (by decide) (fun _ _ q => q)
theorem eqD_lev {σ : St} {s : Nat} {r : Nat → Int32} : eqD (scr (ur σ 2 s r) s) (scr σ s) := by
  have e : ∀ k, k < 8 → scr (ur σ 2 s r) s (324 + k) = scr σ s (324 + k) := fun k q => by rw [scr_set q, scr_set q, ur_k (by decide)]
  exact ⟨fun j q => by rw [scr_asked q, scr_asked q, ur_k (by decide)], fun k q => by rw [scr_dead q, scr_dead q, ur_k (by decide)], e 0 (by decide), e 1 (by decide), e 2 (by decide), e 4 (by decide), e 5 (by decide), e 6 (by decide)⟩
/-- the trial's screen has settled -/
def setP (σ τ : St) : Prop := τ 14 0 = tAll (scr σ 2) (wantF (scr σ 2) (scr σ 2 327)) 18 ∧ powK (levO (scr τ 2)) 18 = powK (wantF (scr σ 2) (scr σ 2 327)) 18 ∧ keepC σ τ
theorem set_end {σ τ ρ : St} (hm : ∃ r13, τ = ur (ur σ 13 0 r13) 12 0 (wantF (scr σ 2) (scr σ 2 327))) (ht : ρ = ur (ur τ 2 2 (τ 12 0)) 14 0 (tAll (scr (ur τ 2 2 (τ 12 0)) 2) (levO (scr (ur τ 2 2 (τ 12 0)) 2)) 18)) : setP σ ρ := by
  obtain ⟨r13, hm⟩ := hm
  have e12 : τ 12 0 = wantF (scr σ 2) (scr σ 2 327) := by rw [hm, ur_same]
  have es : scr τ 2 = scr σ 2 := by rw [hm, scr_ur (by decide), scr_ur (by decide)]
  have el : ∀ k, k < 18 → levO (scr (ur τ 2 2 (τ 12 0)) 2) k = wantF (scr σ 2) (scr σ 2 327) k := fun k q => by
    show scr (ur τ 2 2 (τ 12 0)) 2 (288 + k) = _
    rw [scr_level q, ur_same, e12]
  refine ⟨?_, ?_, ?_⟩
  · rw [ht, ur_same, cg_tAll eqD_lev el 18 (Nat.le_refl _), es]
  · rw [ht, scr_ur (by decide)]
    exact powK_congr el 18 (Nat.le_refl _)
  · rw [ht]
    exact ((make_keep hm).ur (Or.inl (scrC_2 (by decide))) (by decide)).ur (Or.inl (by unfold scrC; decide)) (by decide)
theorem rule_w {a b : Nat → Int32} {x : Int32} (h : b = upd a 327 x) : wantF b (b 327) = wantF a x ∧ tAll b (wantF b (b 327)) 18 = tAll a (wantF a x) 18 := by
  have e : wantF b (b 327) = wantF a x := by
    rw [h, pk_us]
    exact cg_want eqD_rule.symm x
  refine ⟨e, ?_⟩
  rw [e, h]
  exact cg_tAll eqD_rule.symm (fun _ _ => rfl) 18 (Nat.le_refl _)
