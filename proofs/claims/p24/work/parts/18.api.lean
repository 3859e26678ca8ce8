/-! PURE: the answers, from a state's row -/
abbrev AR : Type := Int32 ⊕ (Int32 × (Nat → Int32))
def scrC (k i : Nat) : Prop := k = 8 ∨ k = 10 ∨ k = 12 ∨ k = 13 ∨ k = 14 ∨ k = 15 ∨ (k < 5 ∧ i = 2)
/-- all that counts is the same, but for what P names -/
def sameC (σ τ : St) (P : Nat → Nat → Prop) : Prop := (∀ k i, ¬ scrC k i → ¬ P k i → τ k i = σ k i) ∧ τ 8 0 1 = σ 8 0 1
def keepC (σ τ : St) : Prop := sameC σ τ (fun _ _ => False)
theorem sameC.rf {σ : St} {P : Nat → Nat → Prop} : sameC σ σ P := ⟨fun _ _ _ _ => rfl, rfl⟩
theorem sameC.tr {σ τ ρ : St} {P : Nat → Nat → Prop} (h1 : sameC σ τ P) (h2 : sameC τ ρ P) : sameC σ ρ P := ⟨fun k i a b => (h2.1 k i a b).trans (h1.1 k i a b), h2.2.trans h1.2⟩
theorem sameC.mono {σ τ : St} {P Q : Nat → Nat → Prop} (h : sameC σ τ P) (hq : ∀ k i, P k i → Q k i) : sameC σ τ Q := ⟨fun k i a b => h.1 k i a (fun z => b (hq k i z)), h.2⟩
theorem sameC.us {σ τ : St} {P : Nat → Nat → Prop} {k i j : Nat} {v : Int32} (h : sameC σ τ P) (hc : scrC k i ∨ P k i) (h8 : ¬ (k = 8 ∧ j = 1)) : sameC σ (us τ k i j v) P := by
  refine ⟨fun k1 i1 a b => ?_, ?_⟩
  · by_cases q : k1 = k ∧ i1 = i
    · rw [q.1, q.2] at a b
      exact absurd hc (fun z => z.elim a b)
    · exact (ur_other q).trans (h.1 k1 i1 a b)
  · rw [us_ap, if_neg (fun q => h8 ⟨q.1.symm, q.2.2.symm⟩)]
    exact h.2
theorem sameC.ur {σ τ : St} {P : Nat → Nat → Prop} {k i : Nat} {r : Nat → Int32} (h : sameC σ τ P) (hc : scrC k i ∨ P k i) (h8 : ¬ k = 8) : sameC σ (ur τ k i r) P := by
  refine ⟨fun k1 i1 a b => ?_, ?_⟩
  · by_cases q : k1 = k ∧ i1 = i
    · rw [q.1, q.2] at a b
      exact absurd hc (fun z => z.elim a b)
    · exact (ur_other q).trans (h.1 k1 i1 a b)
  · rw [ur_k (fun q => h8 q.symm)]
    exact h.2
theorem sameC.eqX {σ τ ρ : St} {P : Nat → Nat → Prop} {s : Nat} (h : sameC σ τ P) (hx : eqX τ ρ s) (hc : ∀ k, k < 5 → scrC k s ∨ P k s) : sameC σ ρ P := by
  refine ⟨fun k i a b => ?_, ?_⟩
  · by_cases q : k < 5 ∧ i = s
    · exact absurd (hc k q.1) (fun z => by rw [q.2] at a b; exact z.elim a b)
    · exact (hx k i q).trans (h.1 k i a b)
  · rw [hx 8 0 (by omega)]
    exact h.2
theorem scrC_2 {k : Nat} (h : k < 5) : scrC k 2 := Or.inr (Or.inr (Or.inr (Or.inr (Or.inr (Or.inr ⟨h, rfl⟩)))))
abbrev atNow : Nat → Nat → Prop := fun k i => k < 5 ∧ i = 0
theorem sameC_row {σ τ : St} {P : Nat → Nat → Prop} (h : sameC σ τ P) {s : Nat} (hs : ¬ s = 2) (hp : ∀ k, k < 5 → ¬ P k s) : scr τ s = scr σ s := scr_congr fun k q => h.1 k s (by unfold scrC; omega) (hp k q)
/-- the history with the state now put behind it; the screen now may have changed since -/
def histC (σ τ : St) (o n : Nat) : Prop := ∃ o' n', o' < 4 ∧ n' < 4 ∧ ((n < 4 ∧ o' = o ∧ n' = n) ∨ (n = 4 ∧ o' = (o + 1) % 4 ∧ n' = 3)) ∧ τ 6 0 1 = nI o' ∧ τ 6 0 2 = nI (n' + 1) ∧ scr τ (3 + (o' + n') % 4) = scr σ 0 ∧ sameC σ τ (fun k i => (k < 5 ∧ i = 3 + (o' + n') % 4) ∨ k = 6 ∨ (k < 5 ∧ i = 0))
theorem histC_of {σ τ ρ : St} {o n : Nat} (h : recP σ τ o n) (h2 : sameC τ ρ atNow) : histC σ ρ o n := by
  obtain ⟨o1, n1, g1, g2, g3, g4, g5, g6, g7⟩ := h
  refine ⟨o1, n1, g1, g2, g3, ?_, ?_, ?_, fun k i a b => ?_, ?_⟩
  · rw [h2.1 6 0 (by unfold scrC; omega) (by omega)]; exact g4
  · rw [h2.1 6 0 (by unfold scrC; omega) (by omega)]; exact g5
  · rw [sameC_row h2 (by omega) (fun k q => by omega)]; exact g6
  · rw [h2.1 k i a (fun q => b (Or.inr (Or.inr q)))]
    exact g7 k i (fun q => b (Or.inl q)) (fun q => b (Or.inr (Or.inl q)))
  · rw [h2.2, g7 8 0 (by omega) (by decide)]
theorem rec_now {σ τ : St} {o n : Nat} (h : recP σ τ o n) : scr τ 0 = scr σ 0 := by
  obtain ⟨o1, n1, g1, g2, g3, g4, g5, g6, g7⟩ := h
  exact scr_congr fun k q => g7 k 0 (by omega) (by omega)
theorem rec_k {σ τ : St} {o n k i : Nat} (h : recP σ τ o n) (hk : ¬ k = 6) (hi : ¬ (k < 5 ∧ 3 ≤ i)) : τ k i = σ k i := by
  obtain ⟨o1, n1, g1, g2, g3, g4, g5, g6, g7⟩ := h
  exact g7 k i (by omega) hk
/-- an act's answer and state -/
def actC (σ τ : St) (r : Int32) (F : AR) (o n : Nat) : Prop := (∃ e, F = .inl e ∧ r = e ∧ keepC σ τ) ∨ ∃ e a1, F = .inr (e, a1) ∧ r = e ∧ scr τ 0 = a1 ∧ histC σ τ o n
theorem act_no {σ : St} {F : AR} {e : Int32} {o n : Nat} (h : F = .inl e) : actC σ σ e F o n := Or.inl ⟨e, h, rfl, sameC.rf⟩
theorem act_go {σ τ ρ : St} {F : AR} {e : Int32} {a1 : Nat → Int32} {o n : Nat} (h : F = .inr (e, a1)) (hr : recP σ τ o n) (h2 : sameC τ ρ atNow) (hs : scr ρ 0 = a1) : actC σ ρ e F o n := Or.inr ⟨e, a1, h, rfl, hs, histC_of hr h2⟩
theorem scr_put1 {σ : St} {s j : Nat} {v : Int32} (h : j < 288) : scr (us σ 1 s j v) s = upd (scr σ s) (j) v := by
  refine scr_is (fun q hq => ?_) (fun q hq => ?_) (fun q hq => ?_) (fun q hq => ?_) ?_ ?_ ?_ (fun q hq => ?_)
  · by_cases e : q = j
    · subst e
      rw [us_at, pk_us]
    · rw [us_not e, pk_un (by omega)]
      exact (scr_asked hq).symm
  · rw [us_k (by decide), pk_un (by omega)]
    exact (scr_level hq).symm
  · rw [us_k (by decide), pk_un (by omega)]
    exact (scr_dead hq).symm
  · rw [us_k (by decide), pk_un (by omega)]
    exact (scr_set hq).symm
  · rw [us_k (by decide), pk_un (by omega)]
    exact (scr_fld (k := 4) (by decide) (by decide)).symm
  · rw [us_k (by decide), pk_un (by omega)]
    exact (scr_fld (k := 5) (by decide) (by decide)).symm
  · rw [us_k (by decide), pk_un (by omega)]
    exact (scr_fld (k := 6) (by decide) (by decide)).symm
  · rw [pk_un (by omega)]
    exact scr_out hq
theorem scr_put2 {σ : St} {s j : Nat} {v : Int32} (h : j < 18) : scr (us σ 2 s j v) s = upd (scr σ s) (288 + j) v := by
  refine scr_is (fun q hq => ?_) (fun q hq => ?_) (fun q hq => ?_) (fun q hq => ?_) ?_ ?_ ?_ (fun q hq => ?_)
  · rw [us_k (by decide), pk_un (by omega)]
    exact (scr_asked hq).symm
  · by_cases e : q = j
    · subst e
      rw [us_at, pk_us]
    · rw [us_not e, pk_un (by omega)]
      exact (scr_level hq).symm
  · rw [us_k (by decide), pk_un (by omega)]
    exact (scr_dead hq).symm
  · rw [us_k (by decide), pk_un (by omega)]
    exact (scr_set hq).symm
  · rw [us_k (by decide), pk_un (by omega)]
    exact (scr_fld (k := 4) (by decide) (by decide)).symm
  · rw [us_k (by decide), pk_un (by omega)]
    exact (scr_fld (k := 5) (by decide) (by decide)).symm
  · rw [us_k (by decide), pk_un (by omega)]
    exact (scr_fld (k := 6) (by decide) (by decide)).symm
  · rw [pk_un (by omega)]
    exact scr_out hq
theorem scr_put3 {σ : St} {s j : Nat} {v : Int32} (h : j < 18) : scr (us σ 3 s j v) s = upd (scr σ s) (306 + j) v := by
  refine scr_is (fun q hq => ?_) (fun q hq => ?_) (fun q hq => ?_) (fun q hq => ?_) ?_ ?_ ?_ (fun q hq => ?_)
  · rw [us_k (by decide), pk_un (by omega)]
    exact (scr_asked hq).symm
  · rw [us_k (by decide), pk_un (by omega)]
    exact (scr_level hq).symm
  · by_cases e : q = j
    · subst e
      rw [us_at, pk_us]
    · rw [us_not e, pk_un (by omega)]
      exact (scr_dead hq).symm
  · rw [us_k (by decide), pk_un (by omega)]
    exact (scr_set hq).symm
  · rw [us_k (by decide), pk_un (by omega)]
    exact (scr_fld (k := 4) (by decide) (by decide)).symm
  · rw [us_k (by decide), pk_un (by omega)]
    exact (scr_fld (k := 5) (by decide) (by decide)).symm
  · rw [us_k (by decide), pk_un (by omega)]
    exact (scr_fld (k := 6) (by decide) (by decide)).symm
  · rw [pk_un (by omega)]
    exact scr_out hq
theorem scr_put4 {σ : St} {s j : Nat} {v : Int32} (h : j < 8) : scr (us σ 4 s j v) s = upd (scr σ s) (324 + j) v := by
  refine scr_is (fun q hq => ?_) (fun q hq => ?_) (fun q hq => ?_) (fun q hq => ?_) ?_ ?_ ?_ (fun q hq => ?_)
  · rw [us_k (by decide), pk_un (by omega)]
    exact (scr_asked hq).symm
  · rw [us_k (by decide), pk_un (by omega)]
    exact (scr_level hq).symm
  · rw [us_k (by decide), pk_un (by omega)]
    exact (scr_dead hq).symm
  · by_cases e : q = j
    · subst e
      rw [us_at, pk_us]
    · rw [us_not e, pk_un (by omega)]
      exact (scr_set hq).symm
  · rw [us_k (by decide), pk_un (by omega)]
    exact (scr_fld (k := 4) (by decide) (by decide)).symm
  · rw [us_k (by decide), pk_un (by omega)]
    exact (scr_fld (k := 5) (by decide) (by decide)).symm
  · rw [us_k (by decide), pk_un (by omega)]
    exact (scr_fld (k := 6) (by decide) (by decide)).symm
  · rw [pk_un (by omega)]
    exact scr_out hq
def putA (a r : Nat → Int32) : Nat → Int32 := fun j => if j < 288 then r j else a j
theorem scr_pic {σ : St} {s : Nat} {r : Nat → Int32} : scr (ur σ 1 s r) s = putA (scr σ s) r := by
  refine scr_is (fun q hq => ?_) (fun q hq => ?_) (fun q hq => ?_) (fun q hq => ?_) ?_ ?_ ?_ (fun q hq => ?_)
  · rw [ur_same]; exact (if_pos hq).symm
  · rw [ur_k (by decide)]; exact ((if_neg (by omega)).trans (scr_level hq)).symm
  · rw [ur_k (by decide)]; exact ((if_neg (by omega)).trans (scr_dead hq)).symm
  · rw [ur_k (by decide)]; exact ((if_neg (by omega)).trans (scr_set hq)).symm
  · rw [ur_k (by decide)]; exact (scr_fld (k := 4) (by decide) (by decide)).symm
  · rw [ur_k (by decide)]; exact (scr_fld (k := 5) (by decide) (by decide)).symm
  · rw [ur_k (by decide)]; exact (scr_fld (k := 6) (by decide) (by decide)).symm
  · exact (if_neg (by omega)).trans (scr_out hq)
theorem putA_congr {a r q : Nat → Int32} (h : ∀ j, j < 288 → r j = q j) : putA a r = putA a q := by
  funext j
  unfold putA
  by_cases e : j < 288
  · rw [if_pos e, if_pos e, h j e]
  · rw [if_neg e, if_neg e]
/-- how many of n spots differ -/
def difK (a p : Nat → Int32) : Nat → Nat
  | 0 => 0
  | k + 1 => if a k = p k then difK a p k else difK a p k + 1
theorem difK_le (a p : Nat → Int32) : ∀ k, difK a p k ≤ k
  | 0 => Nat.le_refl _
  | k + 1 => by
    unfold difK
    have := difK_le a p k
    split <;> omega
theorem difK_congr {a p b q : Nat → Int32} : ∀ k, (∀ j, j < k → a j = b j) → (∀ j, j < k → p j = q j) → difK a p k = difK b q k
  | 0, _, _ => rfl
  | k + 1, h1, h2 => by rw [difK, difK, difK_congr k (fun j h => h1 j (by omega)) (fun j h => h2 j (by omega)), h1 k (by omega), h2 k (by omega)]
def sxy (x y : Int32) : Nat := y.toNatClampNeg * 24 + x.toNatClampNeg
theorem sxy_nI {x y : Nat} (hx : x < 24) (hy : y < 12) : sxy (nI x) (nI y) = y * 24 + x := by
  unfold sxy
  rw [nI_clamp (by omega), nI_clamp (by omega)]
def askF (a : Nat → Int32) (x y b : Int32) : AR := if onB x y = true then (if b < 0 ∨ 255 < b then .inl (-2) else if a (sxy x y) = b then .inl (-5) else .inr (a (sxy x y), upd a (sxy x y) b)) else .inl (-1)
theorem askF_off {a : Nat → Int32} {x y b : Int32} (h : ¬ onP x y) : askF a x y b = .inl (-1) := if_neg (fun q => h (onB_iff.mp q))
theorem askF_bad {a : Nat → Int32} {x y b : Int32} (h : onP x y) (hb : b < 0 ∨ 255 < b) : askF a x y b = .inl (-2) := (if_pos (onB_iff.mpr h)).trans (if_pos hb)
theorem onP_nI {x y : Nat} (hx : x < 24) (hy : y < 12) : onP (nI x) (nI y) := ⟨⟨x, hx, rfl⟩, y, hy, rfl⟩
theorem askF_none {a : Nat → Int32} {x y : Nat} {b : Int32} (hx : x < 24) (hy : y < 12) (hb : ¬ (b < 0 ∨ 255 < b)) (he : a (y * 24 + x) = b) : askF a (nI x) (nI y) b = .inl (-5) := by
  unfold askF
  rw [if_pos (onB_iff.mpr (onP_nI hx hy)), if_neg hb, sxy_nI hx hy, if_pos he]
theorem askF_go {a : Nat → Int32} {x y : Nat} {b : Int32} (hx : x < 24) (hy : y < 12) (hb : ¬ (b < 0 ∨ 255 < b)) (he : ¬ a (y * 24 + x) = b) : askF a (nI x) (nI y) b = .inr (a (y * 24 + x), upd a (y * 24 + x) b) := by
  unfold askF
  rw [if_pos (onB_iff.mpr (onP_nI hx hy)), if_neg hb, sxy_nI hx hy, if_neg he]
def fxV (way : Int32) : Int32 := if way = 0 then 1 else if way = 1 then -1 else 0
def fyV (way : Int32) : Int32 := if way = 2 then 1 else if way = 3 then -1 else 0
def movA (a : Nat → Int32) (way : Int32) : Nat → Int32 := putA a (shV a (fxV way) (fyV way))
def movF (a : Nat → Int32) (way : Int32) : AR := if way < 0 ∨ 4 ≤ way then .inl (-2) else .inr (nI (difK (movA a way) a 288), movA a way)
theorem shV_congr {r q : Nat → Int32} {fx fy : Int32} (h : ∀ j, j < 288 → r j = q j) (j : Nat) : shV r fx fy j = shV q fx fy j := by
  unfold shV
  by_cases e : onB (nI (j % 24) + fx) (nI (j / 24) + fy) = true
  · rw [if_pos e, if_pos e]
    obtain ⟨⟨X, hX, eX⟩, ⟨Y, hY, eY⟩⟩ := onB_iff.mp e
    rw [eX, eY, nI_clamp (by omega), nI_clamp (by omega)]
    exact h _ (by omega)
  · rw [if_neg e, if_neg e]
theorem fx_tab {k : Nat} (h : k < 4) : tab_FROM_X.getD k 0 = fxV (nI k) ∧ tab_FROM_Y.getD k 0 = fyV (nI k) := by
  rcases (show k = 0 ∨ k = 1 ∨ k = 2 ∨ k = 3 by omega) with rfl | rfl | rfl | rfl <;> decide
def zB (z : Int32) : Bool := decide (¬ z < 0) && decide (¬ nI 18 ≤ z)
theorem zB_iff {z : Int32} : zB z = true ↔ inN z 18 := by
  rw [inN_iff (by decide)]
  unfold zB
  simp only [Bool.and_eq_true, decide_eq_true_iff]
def killF (a : Nat → Int32) (z d : Int32) : AR := if zB z = true then (if a (306 + z.toNatClampNeg) = d then .inl (-5) else .inr (a (288 + z.toNatClampNeg), upd (upd a (306 + z.toNatClampNeg) d) (288 + z.toNatClampNeg) 0)) else .inl (-1)
theorem killF_no {a : Nat → Int32} {z d : Int32} (h : ¬ inN z 18) : killF a z d = .inl (-1) := if_neg (fun q => h (zB_iff.mp q))
theorem killF_none {a : Nat → Int32} {z : Nat} {d : Int32} (hz : z < 18) (h : a (306 + z) = d) : killF a (nI z) d = .inl (-5) := by
  unfold killF
  rw [if_pos (zB_iff.mpr ⟨z, hz, rfl⟩), nI_clamp (by omega), if_pos h]
theorem killF_go {a : Nat → Int32} {z : Nat} {d : Int32} (hz : z < 18) (h : ¬ a (306 + z) = d) : killF a (nI z) d = .inr (a (288 + z), upd (upd a (306 + z) d) (288 + z) 0) := by
  unfold killF
  rw [if_pos (zB_iff.mpr ⟨z, hz, rfl⟩), nI_clamp (by omega), if_neg h]
def pasF (a : Nat → Int32) (fr : Int32) : AR := if fr < 1 ∨ 99 < fr then .inl (-2) else .inr (powK (levO (framesK a (wantF a (a 327)) fr.toNatClampNeg)) 18, framesK a (wantF a (a 327)) fr.toNatClampNeg)
theorem fr_nat {fr : Int32} (h1 : ¬ fr < 1) (h2 : fr ≤ 99) : ∃ k, 1 ≤ k ∧ k ≤ 99 ∧ fr = nI k := by
  obtain ⟨k, hk, e⟩ := (inN_iff (x := fr) (n := 100) (by decide)).mpr ⟨fun q => h1 (Int32.lt_iff_toInt_lt.mpr (by have e1 := Int32.lt_iff_toInt_lt.mp q; have e2 : (0 : Int32).toInt = 0 := rfl; have e3 : (1 : Int32).toInt = 1 := rfl; omega)), fun q => by
    have e1 := Int32.le_iff_toInt_le.mp q
    have e2 := Int32.le_iff_toInt_le.mp h2
    have e3 : (nI 100).toInt = 100 := by decide
    have e4 : (99 : Int32).toInt = 99 := by decide
    omega⟩
  refine ⟨k, ?_, by omega, e⟩
  rcases Nat.eq_zero_or_pos k with q | q
  · rw [e, q] at h1
    exact absurd (show nI 0 < 1 by decide) h1
  · exact q
theorem fr_nat255 {fr : Int32} (h1 : ¬ fr < 1) (h2 : fr ≤ 255) : ∃ k, 1 ≤ k ∧ k ≤ 255 ∧ fr = nI k := by
  obtain ⟨k, hk, e⟩ := (inN_iff (x := fr) (n := 256) (by decide)).mpr ⟨fun q => h1 (Int32.lt_iff_toInt_lt.mpr (by have e1 := Int32.lt_iff_toInt_lt.mp q; have e2 : (0 : Int32).toInt = 0 := rfl; have e3 : (1 : Int32).toInt = 1 := rfl; omega)), fun q => by
    have e1 := Int32.le_iff_toInt_le.mp q
    have e2 := Int32.le_iff_toInt_le.mp h2
    have e3 : (nI 256).toInt = 256 := by decide
    have e4 : (255 : Int32).toInt = 255 := by decide
    omega⟩
  refine ⟨k, ?_, by omega, e⟩
  rcases Nat.eq_zero_or_pos k with q | q
  · rw [e, q] at h1
    exact absurd (show nI 0 < 1 by decide) h1
  · exact q
def setF (a : Nat → Int32) (which v : Int32) : AR := if which < 0 ∨ 8 ≤ which then .inl (-2) else if v < tab_LEAST_SETTING.getD which.toNatClampNeg 0 ∨ tab_GREATEST_SETTING.getD which.toNatClampNeg 0 < v then .inl (-2) else if a (324 + which.toNatClampNeg) = v then .inl (-5) else .inr (a (324 + which.toNatClampNeg), upd a (324 + which.toNatClampNeg) v)
def restF (kept : Int32) (a : Nat → Int32) : AR := if kept = 0 then .inl (-5) else .inr (a 332, a)
/-- pictures of texts -/
def num (L : List Int32) (q : Nat) : Nat := (L.getD q 0).toNatClampNeg
def partsK (L : List Int32) (r : Nat → Int32) : Nat → Nat → Int32
  | 0 => r
  | p + 1 => paintK (partsK L r p) (num L (p * 5)) (num L (p * 5 + 1)) (num L (p * 5 + 2)) (num L (p * 5 + 3)) (L.getD (p * 5 + 4) 0) 288
def textA (a : Nat → Int32) (L : List Int32) : Nat → Int32 := putA a (partsK L a (L.length / 5))
def allF (a tx : Nat → Int32) (t : Nat) : AR := if (rdF tx t).1 = -5 then .inr (nI (difK (textA a (rdF tx t).2) a 288), textA a (rdF tx t).2) else .inl (-100 - (rdF tx t).1)
theorem partsK_congr {L : List Int32} {r q : Nat → Int32} (h : ∀ j, j < 288 → r j = q j) : ∀ p j, j < 288 → partsK L r p j = partsK L q p j
  | 0, j, hj => h j hj
  | p + 1, j, hj => by
    unfold partsK paintK
    rw [partsK_congr h p j hj]
theorem mov_end {σ τ ρ κ : St} {k o n : Nat} (hk : k < 4) (hr : recP σ τ o n) (hp : ρ = ur τ 15 0 (τ 1 0)) (hs : κ = ur ρ 1 0 (shK (ρ 1 0) (ρ 15 0) (tab_FROM_X.getD k 0) (tab_FROM_Y.getD k 0) 288)) : actC σ κ (nI (difK (κ 1 0) (κ 15 0) 288)) (movF (scr σ 0) (nI k)) o n := by
  have e0 : scr τ 0 = scr σ 0 := rec_now hr
  have ea : ∀ j, j < 288 → τ 1 0 j = scr σ 0 j := fun j q => by rw [← e0]; exact (scr_asked q).symm
  have e15 : ρ 15 0 = τ 1 0 := by rw [hp, ur_same]
  have e1 : ρ 1 0 = τ 1 0 := by rw [hp, ur_k (by decide)]
  have es : scr κ 0 = movA (scr σ 0) (nI k) := by
    rw [hs, scr_pic, hp, scr_ur (by decide), e0]
    refine putA_congr fun j q => ?_
    rw [(fx_tab hk).1, (fx_tab hk).2]
    show shK _ _ _ _ 288 j = _
    unfold shK
    rw [if_pos q, ur_same]
    exact shV_congr ea j
  have ek : ∀ j, j < 288 → κ 1 0 j = movA (scr σ 0) (nI k) j := fun j q => by rw [← es]; exact (scr_asked q).symm
  have e15k : κ 15 0 = τ 1 0 := by rw [hs, ur_k (by decide), e15]
  rw [e15k, difK_congr 288 ek ea]
  refine act_go (if_neg ?_) hr ?_ es
  · intro q
    rcases q with q | q
    · exact nI_pos (by omega) q
    · exact nI_ge hk (by decide) q
  · rw [hs, hp]
    exact (sameC.rf.ur (Or.inl (by unfold scrC; decide)) (by decide)).ur (Or.inr ⟨by decide, rfl⟩) (by decide)
theorem readP_keep {σ τ : St} {t : Nat} {r : Int32} (h : readP σ τ t r) : keepC σ τ := by
  obtain ⟨row, cnt, rfl, -, -⟩ := h
  exact (sameC.rf.ur (Or.inl (by unfold scrC; decide)) (by decide)).us (Or.inl (by unfold scrC; decide)) (by decide)
theorem takeP_0 {σ τ : St} {o n : Nat} {r : Int32} (h : takeP σ τ o n r) (hr : r = 0) : n = 0 ∧ τ = σ := by
  rcases h with ⟨g1, g2, g3⟩ | ⟨m, g1, g2, g3⟩
  · exact ⟨g1, g3⟩
  · rw [g2] at hr
    exact absurd hr (by decide)
theorem takeP_1 {σ τ : St} {o n : Nat} {r : Int32} (h : takeP σ τ o n r) (hr : ¬ r = 0) : ∃ m, n = m + 1 ∧ r = nI 1 ∧ takeP σ τ o n (nI 1) ∧ τ 6 0 2 = nI m := by
  rcases h with ⟨g1, g2, g3⟩ | ⟨m, g1, g2, g3⟩
  · exact absurd g2 hr
  · refine ⟨m, g1, g2, Or.inr ⟨m, g1, rfl, g3⟩, g3.2.1⟩
theorem keep_end {σ τ : St} {x : Int32} (h1 : scr τ 1 = scr σ 0) (h2 : eqX σ τ 1) (hx : x = us τ 5 0 2 (nI 1) 0 0 4) : x = scr σ 0 332 ∧ scr (us τ 5 0 2 (nI 1)) 1 = scr σ 0 ∧ us τ 5 0 2 (nI 1) 5 0 2 = 1 ∧ sameC σ (us τ 5 0 2 (nI 1)) (fun k i => (k < 5 ∧ i = 1) ∨ k = 5) := by
  refine ⟨?_, by rw [scr_us (by decide), h1], us_at, (sameC.rf.eqX h2 (fun k q => Or.inr (Or.inl ⟨q, rfl⟩))).us (Or.inr (Or.inr rfl)) (by decide)⟩
  rw [hx, us_k (by decide), h2 0 0 (by decide)]
  exact (scr_fld (k := 4) (by decide) (by decide)).symm
theorem tw_ne {x : Int32} {k : Int} (y : Int32) (hy : y.toInt = k) (h : ¬ x = y) : x.toInt ≠ k := fun q => h (Int32.toInt_inj.mp (q.trans hy.symm))
