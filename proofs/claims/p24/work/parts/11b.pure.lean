/-! PURE: rows of screens, one frame, tallies -/
theorem if_cong {α : Type} {p q : Prop} [Decidable p] [Decidable q] {x y : α} (h : p ↔ q) : (if p then x else y) = if q then x else y := by
  by_cases hp : p
  · rw [if_pos hp, if_pos (h.mp hp)]
  · rw [if_neg hp, if_neg (fun z => hp (h.mpr z))]
theorem scr_is {σ : St} {s : Nat} {f : Nat → Int32} (h1 : ∀ j, j < 288 → σ 1 s j = f j) (h2 : ∀ k, k < 18 → σ 2 s k = f (288 + k)) (h3 : ∀ k, k < 18 → σ 3 s k = f (306 + k)) (h4 : ∀ k, k < 8 → σ 4 s k = f (324 + k)) (h5 : σ 0 s 4 = f 332) (h6 : σ 0 s 5 = f 333) (h7 : σ 0 s 6 = f 334) (h8 : ∀ j, 335 ≤ j → f j = 0) : scr σ s = f := by
  funext j
  rcases Nat.lt_or_ge j 288 with q | q
  · rw [scr_asked q, h1 j q]
  · rcases Nat.lt_or_ge j 306 with q2 | q2
    · have e : j = 288 + (j - 288) := by omega
      rw [e, scr_level (by omega), h2 _ (by omega)]
    · rcases Nat.lt_or_ge j 324 with q3 | q3
      · have e : j = 306 + (j - 306) := by omega
        rw [e, scr_dead (by omega), h3 _ (by omega)]
      · rcases Nat.lt_or_ge j 332 with q4 | q4
        · have e : j = 324 + (j - 324) := by omega
          rw [e, scr_set (by omega), h4 _ (by omega)]
        · rcases Nat.lt_or_ge j 335 with q5 | q5
          · rcases (show j = 332 ∨ j = 333 ∨ j = 334 by omega) with rfl | rfl | rfl
            · exact (scr_fld (k := 4) (by decide) (by decide)).trans h5
            · exact (scr_fld (k := 5) (by decide) (by decide)).trans h6
            · exact (scr_fld (k := 6) (by decide) (by decide)).trans h7
          · rw [scr_out q5, h8 j q5]
theorem scr_as {σ τ : St} {s t : Nat} (h1 : ∀ j, j < 288 → σ 1 s j = τ 1 t j) (h2 : ∀ k, k < 18 → σ 2 s k = τ 2 t k) (h3 : ∀ k, k < 18 → σ 3 s k = τ 3 t k) (h4 : ∀ k, k < 8 → σ 4 s k = τ 4 t k) (h5 : ∀ k, 4 ≤ k → k < 7 → σ 0 s k = τ 0 t k) : scr σ s = scr τ t :=
  scr_is (fun j q => by rw [h1 j q, scr_asked q]) (fun k q => by rw [h2 k q, scr_level q]) (fun k q => by rw [h3 k q, scr_dead q]) (fun k q => by rw [h4 k q, scr_set q]) (by rw [h5 4 (by decide) (by decide)]; exact (scr_fld (k := 4) (by decide) (by decide)).symm) (by rw [h5 5 (by decide) (by decide)]; exact (scr_fld (k := 5) (by decide) (by decide)).symm) (by rw [h5 6 (by decide) (by decide)]; exact (scr_fld (k := 6) (by decide) (by decide)).symm) (fun _ q => scr_out q)
/-- a screen's copy, with k of the dead zones done -/
def copyP (σ σ2 : St) (s t k : Nat) : Prop := ∀ k1 i1 j1, σ2 k1 i1 j1 = if i1 = s ∧ (k1 = 1 ∨ k1 = 2 ∨ k1 = 4 ∨ (k1 = 3 ∧ j1 < k)) then σ k1 t j1 else σ k1 i1 j1
theorem copyP_0 {σ : St} {s t : Nat} (hst : ¬ s = t) : copyP σ (ur (ur (ur σ 1 s (σ 1 t)) 2 s (ur σ 1 s (σ 1 t) 2 t)) 4 s (ur (ur σ 1 s (σ 1 t)) 2 s (ur σ 1 s (σ 1 t) 2 t) 4 t)) s t 0 := by
  intro k1 i1 j1
  simp only [ur_ap]
  by_cases q : i1 = s
  · subst q
    by_cases q1 : k1 = 1
    · subst q1; simp
    · by_cases q2 : k1 = 2
      · subst q2; simp
      · by_cases q4 : k1 = 4
        · subst q4; simp
        · simp [q1, q2, q4]
  · simp [q]
theorem copyP_1 {σ σ2 : St} {s t k : Nat} {v : Int32} (hst : ¬ s = t) (h : copyP σ σ2 s t k) (hv : v = σ2 3 t k) : copyP σ (us σ2 3 s k v) s t (k + 1) := by
  intro k1 i1 j1
  rw [us_ap]
  by_cases q : k1 = 3 ∧ i1 = s ∧ j1 = k
  · obtain ⟨rfl, rfl, rfl⟩ := q
    rw [if_pos ⟨rfl, rfl, rfl⟩, hv, h, if_neg (fun z => hst z.1.symm), if_pos ⟨rfl, Or.inr (Or.inr (Or.inr ⟨rfl, by omega⟩))⟩]
  · rw [if_neg q, h]
    exact if_cong (by omega)
theorem copyP_2 {σ σ2 : St} {s t : Nat} {x y z : Int32} (hst : ¬ s = t) (h : copyP σ σ2 s t 18) (hx : x = σ2 0 t 4) (hy : y = us σ2 0 s 4 x 0 t 5) (hz : z = us (us σ2 0 s 4 x) 0 s 5 y 0 t 6) : scr (us (us (us σ2 0 s 4 x) 0 s 5 y) 0 s 6 z) s = scr σ t ∧ eqX σ (us (us (us σ2 0 s 4 x) 0 s 5 y) 0 s 6 z) s := by
  have h0 : ∀ j, σ2 0 t j = σ 0 t j := fun j => by rw [h, if_neg (by omega)]
  refine ⟨scr_as (fun j q => ?_) (fun j q => ?_) (fun j q => ?_) (fun j q => ?_) (fun j q1 q2 => ?_), fun k1 i1 q => ?_⟩
  · rw [us_k (by decide), us_k (by decide), us_k (by decide), h, if_pos (by omega)]
  · rw [us_k (by decide), us_k (by decide), us_k (by decide), h, if_pos (by omega)]
  · rw [us_k (by decide), us_k (by decide), us_k (by decide), h, if_pos (by omega)]
  · rw [us_k (by decide), us_k (by decide), us_k (by decide), h, if_pos (by omega)]
  · simp only [us_ap] at hy hz ⊢
    rcases (show j = 4 ∨ j = 5 ∨ j = 6 by omega) with rfl | rfl | rfl
    · simp [hx, h0]
    · rw [if_neg (by omega)] at hy
      simp [hy, h0]
    · rw [if_neg (by omega), if_neg (by omega)] at hz
      simp [hz, h0]
  · funext j
    simp only [us_ap]
    rw [if_neg (by omega), if_neg (by omega), if_neg (by omega), h, if_neg (by omega)]
/-- a frame, with k zones done -/
def passP (σ σ2 : St) (s k : Nat) : Prop := ∀ k1 i1 j1, σ2 k1 i1 j1 = if k1 = 2 ∧ i1 = s ∧ j1 < k then σ 2 s j1 + chgF (scr σ s) (σ 12 0) j1 else if k1 = 0 ∧ i1 = s ∧ j1 = 5 then flickK (scr σ s) (σ 12 0) k else σ k1 i1 j1
theorem passP_0 {σ : St} {s : Nat} : passP σ σ s 0 := by
  intro k1 i1 j1
  rw [if_neg (by omega)]
  split
  · rename_i q
    obtain ⟨rfl, rfl, rfl⟩ := q
    exact (scr_fld (k := 5) (by decide) (by decide)).symm
  · rfl
theorem passP_dead {σ σ2 : St} {s k : Nat} (h : passP σ σ2 s k) (hd : ¬ scr σ s (306 + k) = 0) : passP σ σ2 s (k + 1) := by
  have hc : chgF (scr σ s) (σ 12 0) k = 0 := by rw [chgF, if_neg hd]
  have hf : flickK (scr σ s) (σ 12 0) (k + 1) = flickK (scr σ s) (σ 12 0) k := by
    rw [flickK, hc]
    show _ + (0 : Int32) = _
    exact Int32.add_zero _
  intro k1 i1 j1
  rw [h, hf]
  by_cases q : k1 = 2 ∧ i1 = s ∧ j1 = k
  · obtain ⟨rfl, rfl, rfl⟩ := q
    rw [if_neg (by omega), if_neg (by omega), if_pos ⟨rfl, rfl, by omega⟩, hc, Int32.add_zero]
  · exact if_cong (by omega)
theorem passP_live {σ σ2 : St} {s k : Nat} {v f : Int32} (h : passP σ σ2 s k) (hv : v = σ2 2 s k + chgF (scr σ s) (σ 12 0) k) (hf : f = us σ2 2 s k v 0 s 5 + iabs (chgF (scr σ s) (σ 12 0) k)) : passP σ (us (us σ2 2 s k v) 0 s 5 f) s (k + 1) := by
  have h5 : σ2 0 s 5 = flickK (scr σ s) (σ 12 0) k := by rw [h, if_neg (by omega), if_pos ⟨rfl, rfl, rfl⟩]
  have hk : σ2 2 s k = σ 2 s k := by rw [h, if_neg (by omega), if_neg (by omega)]
  rw [us_k (by decide), h5] at hf
  rw [hk] at hv
  intro k1 i1 j1
  rw [us_ap, us_ap]
  by_cases q : k1 = 0 ∧ i1 = s ∧ j1 = 5
  · rw [if_pos q, if_neg (by omega), if_pos q, hf]
    rfl
  · rw [if_neg q]
    by_cases q2 : k1 = 2 ∧ i1 = s ∧ j1 = k
    · rw [if_pos q2, if_pos (by omega), hv, q2.2.2]
    · rw [if_neg q2, h, if_neg q, if_neg q]
      exact if_cong (by omega)
theorem passP_end {σ σ2 : St} {s : Nat} {x y : Int32} (h : passP σ σ2 s 18) (hx : x = σ2 0 s 4 + 1) (hy : y = us σ2 0 s 4 x 0 s 6 + powK (levO (scr (us σ2 0 s 4 x) s)) 18) : scr (us (us σ2 0 s 4 x) 0 s 6 y) s = frameF (scr σ s) (σ 12 0) ∧ eqX σ (us (us σ2 0 s 4 x) 0 s 6 y) s := by
  have e2 : ∀ j, j < 18 → σ2 2 s j = scr σ s (288 + j) + chgF (scr σ s) (σ 12 0) j := fun j q => by rw [h, if_pos ⟨rfl, rfl, q⟩, scr_level q]
  have ep : powK (levO (scr (us σ2 0 s 4 x) s)) 18 = powK (fun k => scr σ s (288 + k) + chgF (scr σ s) (σ 12 0) k) 18 := powK_congr (fun k q => by
    show scr (us σ2 0 s 4 x) s (288 + k) = _
    rw [scr_level q, us_k (by decide), e2 k q]) 18 (Nat.le_refl _)
  rw [ep] at hy
  simp only [us_ap] at hy
  rw [if_neg (by omega), h, if_neg (by omega), if_neg (by omega)] at hy
  rw [h, if_neg (by omega), if_neg (by omega)] at hx
  have f4 : scr σ s 332 = σ 0 s 4 := scr_fld (k := 4) (by decide) (by decide)
  have f6 : scr σ s 334 = σ 0 s 6 := scr_fld (k := 6) (by decide) (by decide)
  refine ⟨scr_is (fun j q => ?_) (fun j q => ?_) (fun j q => ?_) (fun j q => ?_) ?_ ?_ ?_ (fun j q => ?_), fun k1 i1 q => ?_⟩
  · rw [us_k (by decide), us_k (by decide), h, if_neg (by omega), if_neg (by omega)]
    unfold frameF
    rw [if_neg (by omega), if_neg (by omega), if_neg (by omega), if_neg (by omega), scr_asked q]
  · rw [us_k (by decide), us_k (by decide), e2 j q]
    unfold frameF
    rw [if_pos (by omega), show 288 + j - 288 = j by omega]
  · rw [us_k (by decide), us_k (by decide), h, if_neg (by omega), if_neg (by omega)]
    unfold frameF
    rw [if_neg (by omega), if_neg (by omega), if_neg (by omega), if_neg (by omega), scr_dead q]
  · rw [us_k (by decide), us_k (by decide), h, if_neg (by omega), if_neg (by omega)]
    unfold frameF
    rw [if_neg (by omega), if_neg (by omega), if_neg (by omega), if_neg (by omega), scr_set q]
  · rw [us_not (by decide), us_at, hx, ← f4]
    rfl
  · rw [us_not (by decide), us_not (by decide), h, if_neg (by omega), if_pos ⟨rfl, rfl, rfl⟩]
    rfl
  · rw [us_at, hy, ← f6]
    rfl
  · unfold frameF
    rw [if_neg (by omega), if_neg (by omega), if_neg (by omega), if_neg (by omega), scr_out q]
  · funext j
    rw [us_ap, us_ap, if_neg (by omega), if_neg (by omega), h, if_neg (by omega), if_neg (by omega)]
theorem tAdd_us {σ : St} {x y b c d : Int32} {a1 a2 : Int32} (h1 : a1 = if verdF x y = 1 then σ 14 0 0 + 1 else σ 14 0 0) (h2 : a2 = if verdF x y = 2 then σ 14 0 1 + 1 else σ 14 0 1) (hb : b = σ 14 0 2 + iabs (y - x)) (hc : c = imax (σ 14 0 3) (iabs (y - x))) (hd : d = σ 14 0 4 + y) : us (us (us (us (us σ 14 0 0 a1) 14 0 1 a2) 14 0 2 b) 14 0 3 c) 14 0 4 d = ur σ 14 0 (tAdd (σ 14 0) x y) := by
  apply St_ext
  intro k1 i1 j1
  simp only [us_ap, ur_ap]
  by_cases q : k1 = 14 ∧ i1 = 0
  · obtain ⟨rfl, rfl⟩ := q
    unfold tAdd
    rcases (show j1 = 0 ∨ j1 = 1 ∨ j1 = 2 ∨ j1 = 3 ∨ j1 = 4 ∨ 5 ≤ j1 by omega) with rfl | rfl | rfl | rfl | rfl | g
    · simp [h1]
    · simp [h2]
    · simp [hb]
    · simp [hc]
    · simp [hd]
    · simp only [true_and, if_true]
      rw [if_neg (by omega), if_neg (by omega), if_neg (by omega), if_neg (by omega), if_neg (by omega), if_neg (by omega), if_neg (by omega), if_neg (by omega), if_neg (by omega), if_neg (by omega)]
  · rw [if_neg (by omega), if_neg (by omega), if_neg (by omega), if_neg (by omega), if_neg (by omega), if_neg q]
theorem tZero_us {σ : St} (h : ∀ j, 5 ≤ j → σ 14 0 j = 0) : us (us (us (us (us σ 14 0 0 0) 14 0 1 0) 14 0 2 0) 14 0 3 0) 14 0 4 0 = ur σ 14 0 (fun _ => 0) := by
  apply St_ext
  intro k1 i1 j1
  simp only [us_ap, ur_ap]
  by_cases q : k1 = 14 ∧ i1 = 0
  · obtain ⟨rfl, rfl⟩ := q
    rcases (show j1 = 0 ∨ j1 = 1 ∨ j1 = 2 ∨ j1 = 3 ∨ j1 = 4 ∨ 5 ≤ j1 by omega) with rfl | rfl | rfl | rfl | rfl | g
    · simp
    · simp
    · simp
    · simp
    · simp
    · rw [if_neg (by omega), if_neg (by omega), if_neg (by omega), if_neg (by omega), if_neg (by omega), if_pos ⟨rfl, rfl⟩, h _ g]
  · rw [if_neg (by omega), if_neg (by omega), if_neg (by omega), if_neg (by omega), if_neg (by omega), if_neg q]
