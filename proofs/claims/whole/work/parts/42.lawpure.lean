/-! PURE: for the law's walk -/
theorem act_m {σ τ : St} {r : Int32} {F : AR} {o n : Nat} (h : actC σ τ r F o n) {k i : Nat} (hk : 16 ≤ k) : τ k i = σ k i := by
  rcases h with ⟨e, f1, f2, f3⟩ | ⟨e, a1, f1, f2, f3, o', n', k1, k2, k3, k4, k5, k6, k7⟩
  · exact keepC_m f3 hk
  · exact k7.1 k i (by unfold scrC; omega) (by omega)
theorem undo_m {σ τ : St} {r : Int32} {o n : Nat} (h : (n = 0 ∧ r = -5 ∧ τ = σ) ∨ ∃ m, n = m + 1 ∧ r = nI m ∧ takeP σ τ o n (nI 1)) {k i : Nat} (hk : 16 ≤ k) : τ k i = σ k i := by
  rcases h with ⟨f1, f2, f3⟩ | ⟨m, f1, f2, ⟨g1, g2, g3⟩ | ⟨m2, g1, g2, g3, g4, g5, g6⟩⟩
  · rw [f3]
  · rw [g3]
  · exact g6 k i (by omega) (by omega)
theorem allF_congr {a tx ty : Nat → Int32} {t : Nat} (h : ∀ j, j < t → tx j = ty j) : allF a tx t = allF a ty t := by
  unfold allF
  rw [rdF_congr h]
theorem rest_eq {σ : St} {o n t : Nat} (h : InvP σ o n t) : restF (σ 5 0 2) (scr σ 1) = restF (σ 16 0 4) (σ 19 0) := by
  obtain ⟨-, -, -, -, -, h5, -⟩ := h
  rcases h5 with ⟨e1, e2⟩ | ⟨e1, e2, e3, -⟩
  · rw [restF, restF, if_pos e1, if_pos e2]
  · rw [e1, e2, e3]
theorem rest_ok {σ : St} {o n t : Nat} (h : InvP σ o n t) : ¬ σ 5 0 2 = 0 → okA (scr σ 1) := by
  obtain ⟨-, -, -, -, -, h5, -⟩ := h
  intro q
  rcases h5 with ⟨e1, e2⟩ | ⟨e1, e2, e3, e4⟩
  · exact absurd e1 q
  · rw [e3]
    exact e4
theorem char_nar {x : Int32} : vp_nar .char (x.toUInt32 % 65536).toInt32 = (x.toUInt32 % 65536).toInt32 := by
  unfold vp_nar
  rw [pk_nc]
theorem law_in {L i : Nat} (hL : L < 2 ^ 30) (hi : i < 2 ^ 30) (h : ¬ nI L - nI 4 < nI i) : i + 4 ≤ L := by
  have g := Int32.not_lt.mp h
  rw [Int32.le_iff_toInt_le, pk_sub_toInt (by omega) (by decide), nI_toInt (by omega)] at g
  omega
