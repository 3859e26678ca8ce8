/-! PURE: a whole text asked, by the reference -/
/-- before a part: the state behind acts(), painted so far; mo: whether a part follows; q: where -/
def allI (σ σ2 : St) (m t : Nat) (mo : Int32) (q : Nat) : Prop := ∃ (row : Nat → Int32) (P : List Int32) (n : Nat), q ≤ t ∧ sameM (pushP σ m) σ2 (fun k => k = 17) no1 ∧ σ2 16 0 8 = nI q ∧ σ2 22 0 = row ∧ P.length = 5 * n ∧
  σ2 17 0 = putA (σ 17 0) (partsK (rdF (σ 21 0) t).2 (σ 17 0) n) ∧
  ((¬ mo = 0 ∧ rdF (σ 21 0) t = ((rdK (σ 21 0) (t - q) q 0 (-1)).1, P ++ (rdK (σ 21 0) (t - q) q 0 (-1)).2)) ∨ (mo = 0 ∧ rdF (σ 21 0) t = (-5, P)))
theorem all_21 {σ σ2 : St} {m t : Nat} {mo : Int32} {q : Nat} (h : allI σ σ2 m t mo q) : σ2 21 0 = σ 21 0 := by
  obtain ⟨row, P, n, h1, h2, -⟩ := h
  rw [h2.1 21 0 (by unfold scrM; decide) (by decide) (by decide), pushP_k (by decide) (by decide)]
theorem all_q {σ σ2 : St} {m t : Nat} {mo : Int32} {q : Nat} (h : allI σ σ2 m t mo q) : q ≤ t := by
  obtain ⟨row, P, n, h1, -⟩ := h
  exact h1
theorem all_sp {σ σ2 : St} {m t : Nat} {mo : Int32} {q : Nat} (h : allI σ σ2 m t mo q) : σ2 16 0 8 = nI q := by
  obtain ⟨row, P, n, h1, h2, h3, -⟩ := h
  exact h3
theorem all_tx {σ σ2 : St} {m t : Nat} {mo : Int32} {q : Nat} (h : allI σ σ2 m t mo q) (et : σ 16 0 7 = nI t) : σ2 16 0 7 = nI t := by
  obtain ⟨row, P, n, h1, h2, h3, -⟩ := h
  rw [h2.2 7 (by decide) (fun q => q), pushP, us_not (by decide), ur_k (by decide), et]
/-- the state behind fault(): but for the spot and the part it's the one before -/
theorem fst_k {σ τ : St} (h : ∃ row q, τ = us (ur σ 22 0 row) 16 0 8 (nI q)) {k i : Nat} (h1 : ¬ k = 22) (h2 : ¬ k = 16) : τ k i = σ k i := by
  obtain ⟨row, q, rfl⟩ := h
  rw [us_k h2, ur_k h1]
theorem fst_n {σ τ : St} (h : ∃ row q, τ = us (ur σ 22 0 row) 16 0 8 (nI q)) {j : Nat} (h1 : ¬ j = 8) : τ 16 0 j = σ 16 0 j := by
  obtain ⟨row, q, rfl⟩ := h
  rw [us_not h1, ur_k (by decide)]
/-- the beginning: acts() behind fault(), the spot 0 -/
theorem all_0 {σ τ : St} {m t : Nat} (h : ∃ row q, τ = us (ur σ 22 0 row) 16 0 8 (nI q)) : allI σ (us (pushP τ m) 16 0 8 (nI 0)) m t (nI 1) 0 := by
  have e18 : τ 18 0 = σ 18 0 := fst_k h (by decide) (by decide)
  have e17 : τ 17 0 = σ 17 0 := fst_k h (by decide) (by decide)
  refine ⟨us (pushP τ m) 16 0 8 (nI 0) 22 0, [], 0, Nat.zero_le _, ⟨fun k i a b c => ?_, fun j a b => ?_⟩, us_at, rfl, rfl, ?_, Or.inl ⟨by decide, rfl⟩⟩
  · rw [us_k c]
    by_cases q : k = 18
    · subst q
      by_cases q2 : i = 0
      · subst q2
        rw [pushP_18, pushP_18, e18, e17]
      · rw [pushP, pushP, us_k (by decide), us_k (by decide), ur_other (fun z => q2 z.2), ur_other (fun z => q2 z.2)]
        exact fst_k h (by decide) (by decide)
    · rw [pushP_k q c, pushP_k q c]
      exact fst_k h (fun z => a (Or.inr z)) c
  · rw [us_not a]
    by_cases q : j = 2
    · subst q
      rw [pushP_2, pushP_2]
    · rw [pushP, pushP, us_not q, us_not q, ur_k (by decide), ur_k (by decide)]
      exact fst_n h a
  · rw [us_k (by decide), pushP_k (by decide) (by decide), e17]
    exact putA_self.symm
/-- a part that follows is sound -/
theorem all_part {σ σ2 τ : St} {m t : Nat} {mo : Int32} {q : Nat} {r : Int32} (ht : t ≤ 60) (hc : (rdF (σ 21 0) t).1 = -5) (h : allI σ σ2 m t mo q) (hmo : ¬ mo = 0) (hp : partQ σ2 τ q t r) : ∃ q1 row1 L1 v1, prN σ2 τ q t 4 q1 row1 L1 v1 := by
  have e21 := all_21 h
  obtain ⟨row, P, n, h1, h2, h3, h4, h5, h6, h7⟩ := h
  rcases hp with ⟨g, q1, row1, b1, b2, b3⟩ | ⟨q1, row1, L1, v1, g, hN⟩
  · exfalso
    have e := (h7.resolve_right (fun z => hmo z.1)).2
    rw [e21] at b3
    rw [e, b3] at hc
    exact rd_ne (i := q1) (by omega) hc
  · exact ⟨q1, row1, L1, v1, hN⟩
/-- its numbers -/
theorem all_list {σ σ2 τ : St} {m t : Nat} {mo : Int32} {q q1 v1 : Nat} {row1 : Nat → Int32} {L1 : List Int32} {P : List Int32} (e21 : σ2 21 0 = σ 21 0) (e : rdF (σ 21 0) t = ((rdK (σ 21 0) (t - q) q 0 (-1)).1, P ++ (rdK (σ 21 0) (t - q) q 0 (-1)).2)) (hN : prN σ2 τ q t 4 q1 row1 L1 v1) : ∃ Z, (rdK (σ 21 0) (t - q1) q1 4 (nI v1)).2 = nI v1 :: Z ∧ (rdF (σ 21 0) t).2 = P ++ (L1 ++ nI v1 :: Z) ∨ (rdF (σ 21 0) t).1 = nI q1 := by
  obtain ⟨h0, h1, h2, h3, h4, h5, h6, h7, h8⟩ := hN
  rw [e21] at h7 h8
  by_cases hs : q1 < t ∧ σ 21 0 q1 = tab_END.getD 4 0
  · have e2 := rd_sep (f := 4) (v := v1) (by omega) hs.1 hs.2
    exact ⟨_, Or.inl ⟨by rw [e2], by rw [e, h7, e2]⟩⟩
  · have e2 := rd_last (by omega) h2 hs h8
    by_cases hq : q1 = t
    · rw [if_pos hq] at e2
      exact ⟨[], Or.inl ⟨by rw [e2], by rw [e, h7, e2]⟩⟩
    · rw [if_neg hq] at e2
      exact ⟨[], Or.inr (by rw [e, h7, e2])⟩
theorem getD_mid {P L : List Int32} {v : Int32} {Z : List Int32} {j : Nat} (hL : L.length = 4) (hj : j < 5) : (P ++ (L ++ v :: Z)).getD (P.length + j) 0 = if j < 4 then L.getD j 0 else v := by
  rw [List.getD_eq_getElem?_getD, List.getElem?_append_right (by omega), Nat.add_sub_cancel_left]
  by_cases q : j < 4
  · rw [if_pos q, List.getElem?_append_left (by omega), List.getD_eq_getElem?_getD]
  · rw [if_neg q, List.getElem?_append_right (by omega), hL, show j - 4 = 0 by omega]
    rfl
/-- what asksPart finds in the part's row -/
theorem all_nums {σ σ2 τ : St} {m t : Nat} {mo : Int32} {q q1 v1 : Nat} {row1 : Nat → Int32} {L1 : List Int32} (ht : t ≤ 60) (hc : (rdF (σ 21 0) t).1 = -5) (h : allI σ σ2 m t mo q) (hmo : ¬ mo = 0) (hN : prN σ2 τ q t 4 q1 row1 L1 v1) :
    ∃ (P : List Int32) (n : Nat), P.length = 5 * n ∧ σ2 17 0 = putA (σ 17 0) (partsK (rdF (σ 21 0) t).2 (σ 17 0) n) ∧ rdF (σ 21 0) t = ((rdK (σ 21 0) (t - q1) q1 4 (nI v1)).1, (P ++ L1) ++ (rdK (σ 21 0) (t - q1) q1 4 (nI v1)).2) ∧
    (num (rdF (σ 21 0) t).2 (n * 5) < 24 ∧ num (rdF (σ 21 0) t).2 (n * 5 + 1) < 12 ∧ num (rdF (σ 21 0) t).2 (n * 5 + 2) ≤ 24 ∧ num (rdF (σ 21 0) t).2 (n * 5 + 3) ≤ 12) ∧
    (row1 0 = nI (num (rdF (σ 21 0) t).2 (n * 5)) ∧ row1 1 = nI (num (rdF (σ 21 0) t).2 (n * 5 + 1)) ∧ row1 2 = nI (num (rdF (σ 21 0) t).2 (n * 5 + 2)) ∧ row1 3 = nI (num (rdF (σ 21 0) t).2 (n * 5 + 3)) ∧ row1 4 = (rdF (σ 21 0) t).2.getD (n * 5 + 4) 0) := by
  have e21 := all_21 h
  obtain ⟨row, P, n, h1, h2, h3, h4, h5, h6, h7⟩ := h
  have e := (h7.resolve_right (fun z => hmo z.1)).2
  obtain ⟨Z, hZ⟩ := all_list (m := m) (mo := mo) e21 e hN
  obtain ⟨g0, g1, g2, g3, g4, g5, g6, g7, g8⟩ := hN
  rw [e21] at g7
  have hZ := hZ.resolve_right (fun z => rd_ne (i := q1) (by omega) (z.symm.trans hc))
  have eL := hZ.2
  have key : ∀ j, j < 5 → row1 j = (rdF (σ 21 0) t).2.getD (n * 5 + j) 0 ∧ n * 5 + j < (rdF (σ 21 0) t).2.length := fun j hj => by
    rw [eL, show n * 5 + j = P.length + j by omega, getD_mid g3 hj]
    refine ⟨?_, by rw [List.length_append, List.length_append, g3, List.length_cons]; omega⟩
    by_cases q : j < 4
    · rw [if_pos q, g4 j q]
    · rw [if_neg q, show j = 4 by omega, g5]
  have nk : ∀ j, j < 5 → num (rdF (σ 21 0) t).2 (n * 5 + j) ≤ gN j ∧ row1 j = nI (num (rdF (σ 21 0) t).2 (n * 5 + j)) := fun j hj => by
    obtain ⟨k1, k2⟩ := key j hj
    obtain ⟨k3, k4⟩ := num_ok ht k2
    rw [show (n * 5 + j) % 5 = j by omega] at k3
    exact ⟨k3, k1.trans k4⟩
  refine ⟨P, n, h5, h6, by rw [e, g7, List.append_assoc], ⟨?_, ?_, ?_, ?_⟩, (nk 0 (by decide)).2, (nk 1 (by decide)).2, (nk 2 (by decide)).2, (nk 3 (by decide)).2, (key 4 (by decide)).1⟩
  · exact Nat.lt_succ_of_le (nk 0 (by decide)).1
  · exact Nat.lt_succ_of_le (nk 1 (by decide)).1
  · exact (nk 2 (by decide)).1
  · exact (nk 3 (by decide)).1
/-- a part painted, then the next one or the end -/
theorem all_step {σ σ2 τ ρ κ : St} {m t : Nat} {mo : Int32} {q q1 v1 n : Nat} {row1 : Nat → Int32} {L1 P : List Int32} {c r : Int32} (ht : t ≤ 60) (hc : (rdF (σ 21 0) t).1 = -5) (h : allI σ σ2 m t mo q) (hN : prN σ2 τ q t 4 q1 row1 L1 v1) (hP : P.length = 5 * n) (h17 : σ2 17 0 = putA (σ 17 0) (partsK (rdF (σ 21 0) t).2 (σ 17 0) n)) (he : rdF (σ 21 0) t = ((rdK (σ 21 0) (t - q1) q1 4 (nI v1)).1, (P ++ L1) ++ (rdK (σ 21 0) (t - q1) q1 4 (nI v1)).2))
    (hr : ρ = ur τ 17 0 (paintK (τ 17 0) (num (rdF (σ 21 0) t).2 (n * 5)) (num (rdF (σ 21 0) t).2 (n * 5 + 1)) (num (rdF (σ 21 0) t).2 (n * 5 + 2)) (num (rdF (σ 21 0) t).2 (n * 5 + 3)) ((rdF (σ 21 0) t).2.getD (n * 5 + 4) 0) 288)) (hcc : c = 59) (hk : takeQ ρ κ q1 t c r) : ∃ q2, q < q2 ∧ allI σ κ m t r q2 := by
  have e21 := all_21 h
  obtain ⟨row0, P0, n0, i1, i2, -⟩ := h
  obtain ⟨g0, g1, g2, g3, g4, g5, g6, g7, g8⟩ := hN
  rw [e21] at g8
  have t17 : τ 17 0 = σ2 17 0 := by rw [g0, us_k (by decide), ur_k (by decide)]
  have r21 : ρ 21 0 = σ 21 0 := by rw [hr, ur_k (by decide), g0, st_21, e21]
  have hsame : sameM (pushP σ m) ρ (fun k => k = 17) no1 := by
    rw [hr, g0]
    exact ((i2.w1 (Or.inl (Or.inr rfl)) (by decide)).w3 (Or.inl rfl)).w1 (Or.inr rfl) (by decide)
  have r17 : ρ 17 0 = putA (σ 17 0) (partsK (rdF (σ 21 0) t).2 (σ 17 0) (n + 1)) := by
    rw [hr, ur_same, t17]
    exact paint_row h17
  have hl : (P ++ L1 ++ [nI v1]).length = 5 * (n + 1) := by
    rw [List.length_append, List.length_append, hP, g3, List.length_singleton]
    omega
  rcases hk with ⟨k1, k2, k3, k4⟩ | ⟨k1, k2, k3⟩
  · rw [r21, hcc] at k3
    have e2 := rd_sep (f := 4) (v := v1) (by omega) k2 k3
    refine ⟨q1 + 1, by omega, _, P ++ L1 ++ [nI v1], n + 1, by omega, by rw [k4]; exact hsame.w3 (Or.inl rfl), by rw [k4, us_at], rfl, hl, by rw [k4, us_k (by decide), r17], Or.inl ⟨by rw [k1]; decide, ?_⟩⟩
    rw [he, e2, List.append_assoc (P ++ L1)]
    rfl
  · rw [r21, hcc] at k2
    have e2 := rd_last (by omega) g2 k2 g8
    have hq : q1 = t := Decidable.byContradiction fun z => by
      rw [if_neg z] at e2
      rw [he, e2] at hc
      exact rd_ne (i := q1) (by omega) hc
    rw [if_pos hq] at e2
    refine ⟨q1, by omega, _, P ++ L1 ++ [nI v1], n + 1, by omega, by rw [k3]; exact hsame, by rw [k3, hr, ur_k (by decide), g0, us_at], rfl, hl, by rw [k3, r17], Or.inr ⟨k1, ?_⟩⟩
    rw [he, e2]
theorem all_m2 {σ σ2 : St} {m t : Nat} {mo : Int32} {q : Nat} (h : allI σ σ2 m t mo q) : σ2 16 0 2 = nI (sizeH m) := by
  obtain ⟨row, P, n, h1, h2, -⟩ := h
  rw [h2.2 2 (by decide) (fun z => z)]
  exact pushP_2
/-! a whole text asked, by the class -/
theorem act_go2 {σ τ4 τ ρ : St} {F : AR} {e : Int32} {a1 : Nat → Int32} {o n : Nat} (h : F = .inr (e, a1)) (hk : keepC σ τ4) (hr : recP τ4 τ o n) (h2 : sameC τ ρ atNow) (hs : scr ρ 0 = a1) : actC σ ρ e F o n := by
  obtain ⟨o1, n1, g1, g2, g3, g4, g5, g6, g7⟩ := histC_of hr h2
  exact Or.inr ⟨e, a1, h, rfl, hs, o1, n1, g1, g2, g3, g4, g5, g6.trans (keepC_now hk), (hk.mono (fun k i q => q.elim)).tr g7⟩
theorem cls_num {tx row : Nat → Int32} {t cnt p j : Nat} (ht : t ≤ 60) (hc : cnt = (rdF tx t).2.length) (hrow : ∀ q, q < cnt → row q = (rdF tx t).2.getD q 0) (hp : p < cnt / 5) (hj : j < 5) : row (p * 5 + j) = nI (num (rdF tx t).2 (p * 5 + j)) ∧ num (rdF tx t).2 (p * 5 + j) ≤ gN j := by
  have hq : p * 5 + j < cnt := by omega
  obtain ⟨h1, h2⟩ := num_ok (tx := tx) (q := p * 5 + j) ht (by omega)
  rw [show (p * 5 + j) % 5 = j by omega] at h1
  exact ⟨(hrow _ hq).trans h2, h1⟩
theorem cls_paint {σ : St} {a : Nat → Int32} {L : List Int32} {p : Nat} (h : scr σ 0 = putA a (partsK L a p)) : putA (putA a (partsK L a p)) (paintK (σ 1 0) (num L (p * 5)) (num L (p * 5 + 1)) (num L (p * 5 + 2)) (num L (p * 5 + 3)) (L.getD (p * 5 + 4) 0) 288) = putA a (partsK L a (p + 1)) := by
  rw [putA_put]
  refine putA_congr fun j hj => ?_
  refine paint_congr (fun i hi => ?_) j hj
  rw [← scr_asked (σ := σ) (s := 0) hi, h, putA_at hi]
