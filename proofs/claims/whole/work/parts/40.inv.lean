/-! PURE: what both objects share between two calls -/
def InvP (σ : St) (o n t : Nat) : Prop := (o < 4 ∧ n ≤ 4 ∧ t ≤ 60) ∧ (σ 6 0 1 = nI o ∧ σ 6 0 2 = nI n ∧ σ 16 0 2 = nI n ∧ σ 8 0 1 = nI t ∧ σ 16 0 7 = nI t) ∧ scr σ 0 = σ 17 0 ∧ okA (σ 17 0) ∧
  (∀ k, k < n → okA (scr σ (3 + (o + k) % 4)) ∧ ∀ j, j < 335 → scr σ (3 + (o + k) % 4) j = σ 18 0 (335 * k + j)) ∧
  ((σ 5 0 2 = 0 ∧ σ 16 0 4 = 0) ∨ (σ 5 0 2 = 1 ∧ σ 16 0 4 = 1 ∧ scr σ 1 = σ 19 0 ∧ okA (σ 19 0))) ∧ ∀ j, j < t → σ 9 0 j = σ 21 0 j
def Inv (σ : St) : Prop := ∃ o n t, InvP σ o n t
theorem keepC_m {σ τ : St} (h : keepC σ τ) {k i : Nat} (hk : 16 ≤ k) : τ k i = σ k i := h.1 k i (by unfold scrC; omega) (fun q => q)
/-- a question asked of both -/
theorem inv_ask {σ τ ρ : St} {o n t : Nat} (h : InvP σ o n t) (hc : keepC σ τ) (hm : keepM τ ρ) : InvP ρ o n t := by
  obtain ⟨h1, ⟨a1, a2, a3, a4, a5⟩, h2, h3, h4, h5, h6⟩ := h
  have e : ∀ k i, ¬ scrC k i → ¬ k = 20 → ¬ k = 22 → ¬ k = 16 → ρ k i = σ k i := fun k i g1 g2 g3 g4 => (hm.1 k i (by unfold scrM; omega) (fun q => q) g4).trans (hc.1 k i g1 (fun q => q))
  have e16 : ∀ j, ¬ j = 8 → ρ 16 0 j = σ 16 0 j := fun j g => (hm.2 j g (fun q => q)).trans (by rw [keepC_m hc (by decide)])
  have es : ∀ s, ¬ s = 2 → scr ρ s = scr σ s := fun s g => scr_congr fun k q => e k s (by unfold scrC; omega) (by omega) (by omega) (by omega)
  have e6 : ρ 6 0 = σ 6 0 := e 6 0 (by unfold scrC; omega) (by decide) (by decide) (by decide)
  have e17 : ρ 17 0 = σ 17 0 := e 17 0 (by unfold scrC; omega) (by decide) (by decide) (by decide)
  have e18 : ρ 18 0 = σ 18 0 := e 18 0 (by unfold scrC; omega) (by decide) (by decide) (by decide)
  have e19 : ρ 19 0 = σ 19 0 := e 19 0 (by unfold scrC; omega) (by decide) (by decide) (by decide)
  have e21 : ρ 21 0 = σ 21 0 := e 21 0 (by unfold scrC; omega) (by decide) (by decide) (by decide)
  have e9 : ρ 9 0 = σ 9 0 := e 9 0 (by unfold scrC; omega) (by decide) (by decide) (by decide)
  have e5 : ρ 5 0 = σ 5 0 := e 5 0 (by unfold scrC; omega) (by decide) (by decide) (by decide)
  have e8 : ρ 8 0 1 = σ 8 0 1 := by rw [hm.1 8 0 (by unfold scrM; omega) (fun q => q) (by decide)]; exact hc.2
  refine ⟨h1, ⟨by rw [e6]; exact a1, by rw [e6]; exact a2, by rw [e16 2 (by decide)]; exact a3, by rw [e8]; exact a4, by rw [e16 7 (by decide)]; exact a5⟩, by rw [es 0 (by decide), e17]; exact h2, by rw [e17]; exact h3, fun k hk => ?_, ?_, fun j hj => by rw [e9, e21]; exact h6 j hj⟩
  · rw [es _ (by omega), e18]
    exact h4 k hk
  · rw [e5, e16 4 (by decide), es 1 (by decide), e19]
    exact h5
/-- the class's ring and the reference's row, with one more -/
theorem pushH_old {h a : Nat → Int32} {n k j : Nat} (hn : n ≤ 4) (hk : k + 1 < sizeH n) (hj : j < 335) : pushH h a n (335 * k + j) = h (335 * (if n = 4 then k + 1 else k) + j) := by
  unfold sizeH at hk
  unfold pushH layH
  by_cases q : n = 4
  · rw [if_pos q, if_neg (by rw [if_pos q] at hk; omega), if_pos q]
    unfold shiftH
    rw [if_pos (by rw [if_pos q] at hk; omega), show 335 * k + j + 335 = 335 * (k + 1) + j by omega]
  · rw [if_neg q, if_neg (by rw [if_neg q] at hk; omega), if_neg q]
/-- an act done by both -/
theorem inv_act {σ τ ρ : St} {o n t : Nat} {r1 r2 : Int32} {F : AR} (h : InvP σ o n t) (hc : actC σ τ r1 F o n) (hm : actM τ ρ r2 F n) (hok : ∀ e a1, F = .inr (e, a1) → okA a1) : r1 = r2 ∧ Inv ρ := by
  rcases hc with ⟨e, f1, f2, f3⟩ | ⟨e, a1, f1, f2, f3, f4⟩
  · rcases hm with ⟨e', g1, g2, g3⟩ | ⟨e', a1', g1, g2, g3⟩
    · rw [f1] at g1
      exact ⟨by rw [f2, g2, Sum.inl.inj g1], o, n, t, inv_ask h f3 g3⟩
    · rw [f1] at g1
      exact absurd g1 (fun q => by cases q)
  · rcases hm with ⟨e', g1, g2, g3⟩ | ⟨e', a1', g1, g2, g3, g4, g5, g6⟩
    · rw [f1] at g1
      exact absurd g1 (fun q => by cases q)
    · rw [f1] at g1
      have ep := Sum.inr.inj g1
      have ee : e = e' := congrArg Prod.fst ep
      have ea : a1 = a1' := congrArg Prod.snd ep
      have hoka := hok e a1 f1
      refine ⟨by rw [f2, g2, ee], ?_⟩
      obtain ⟨⟨i1, i2, i3⟩, ⟨b1, b2, b3, b4, b5⟩, h2, h3, h4, h5, h6⟩ := h
      obtain ⟨o', n', k1, k2, k3, k4, k5, k6, k7⟩ := f4
      have hsz : n' + 1 = sizeH n := by
        unfold sizeH
        rcases k3 with ⟨q1, q2, q3⟩ | ⟨q1, q2, q3⟩
        · rw [if_neg (by omega), q3]
        · rw [if_pos q1, q3]
      have em : ∀ k i, ¬ scrM k → ¬ pH k → ¬ k = 16 → ρ k i = τ k i := g6.1
      have c16 : ∀ k i, 16 ≤ k → τ k i = σ k i := fun k i g => k7.1 k i (by unfold scrC; omega) (by omega)
      have es : ∀ s, scr ρ s = scr τ s := fun s => scr_congr fun k q => em k s (by unfold scrM; omega) (by unfold pH; omega) (by omega)
      refine ⟨o', n' + 1, t, ⟨k1, by omega, i3⟩, ⟨?_, ?_, by rw [g5, hsz], ?_, ?_⟩, ?_, by rw [g3, ← ea]; exact hoka, fun k hk => ?_, ?_, fun j hj => ?_⟩
      · rw [em 6 0 (by unfold scrM; omega) (by unfold pH; omega) (by decide)]; exact k4
      · rw [em 6 0 (by unfold scrM; omega) (by unfold pH; omega) (by decide)]; exact k5
      · rw [em 8 0 (by unfold scrM; omega) (by unfold pH; omega) (by decide), k7.2]; exact b4
      · rw [g6.2 7 (by decide) (by unfold nH; decide), c16 16 0 (by decide)]; exact b5
      · rw [es 0, f3, g3, ea]
      · rw [es, g4, c16 18 0 (by decide), c16 17 0 (by decide)]
        by_cases q : k = n'
        · subst q
          rw [k6, h2]
          refine ⟨h3, fun j hj => ?_⟩
          rw [show k = sizeH n - 1 by omega, pushH_last hj]
        · have hkn : k + 1 < sizeH n := by omega
          have hidx : 3 + (o' + k) % 4 = 3 + (o + (if n = 4 then k + 1 else k)) % 4 := by
            rcases k3 with ⟨q1, q2, q3⟩ | ⟨q1, q2, q3⟩
            · rw [if_neg (by omega), q2]
            · rw [if_pos q1, q2]
              omega
          have hlt : (if n = 4 then k + 1 else k) < n := by
            unfold sizeH at hkn
            by_cases q4 : n = 4
            · rw [if_pos q4] at hkn ⊢
              omega
            · rw [if_neg q4] at hkn ⊢
              omega
          have hne : ¬ (3 + (o' + k) % 4 = 3 + (o' + n') % 4) := by omega
          have e2 : scr τ (3 + (o' + k) % 4) = scr σ (3 + (o' + k) % 4) := sameC_row k7 (by omega) (fun kk qq z => by omega)
          rw [e2, hidx]
          refine ⟨(h4 _ hlt).1, fun j hj => ?_⟩
          rw [(h4 _ hlt).2 j hj, pushH_old i2 hkn hj]
      · rw [em 5 0 (by unfold scrM; omega) (by unfold pH; omega) (by decide), g6.2 4 (by decide) (by unfold nH; decide), es 1, em 19 0 (by unfold scrM; omega) (by unfold pH; omega) (by decide), k7.1 5 0 (by unfold scrC; omega) (by omega), c16 16 0 (by decide), c16 19 0 (by decide), sameC_row k7 (by decide) (fun kk qq z => by omega)]
        exact h5
      · rw [em 9 0 (by unfold scrM; omega) (by unfold pH; omega) (by decide), em 21 0 (by unfold scrM; omega) (by unfold pH; omega) (by decide), k7.1 9 0 (by unfold scrC; omega) (by omega), c16 21 0 (by decide)]
        exact h6 j hj
theorem rowH_eq {σ : St} {s k : Nat} {h : Nat → Int32} (e : ∀ j, j < 335 → scr σ s j = h (335 * k + j)) : scr σ s = rowH h k := by
  funext j
  unfold rowH
  by_cases q : j < 335
  · rw [if_pos q, e j q]
  · rw [if_neg q, scr_out (by omega)]
/-- undo by both -/
theorem inv_undo {σ τ ρ : St} {o n t : Nat} {r1 r2 : Int32} (h : InvP σ o n t) (hc : (n = 0 ∧ r1 = -5 ∧ τ = σ) ∨ ∃ m, n = m + 1 ∧ r1 = nI m ∧ takeP σ τ o n (nI 1)) (hm : (n = 0 ∧ r2 = -5 ∧ ρ = τ) ∨ ∃ m, n = m + 1 ∧ r2 = nI m ∧ ρ = us (ur τ 17 0 (rowH (τ 18 0) m)) 16 0 2 (nI m)) : r1 = r2 ∧ Inv ρ := by
  rcases hc with ⟨f1, f2, f3⟩ | ⟨m, f1, f2, f3⟩
  · rcases hm with ⟨g1, g2, g3⟩ | ⟨m, g1, g2, g3⟩
    · exact ⟨by rw [f2, g2], o, n, t, by rw [g3, f3]; exact h⟩
    · omega
  · rcases hm with ⟨g1, g2, g3⟩ | ⟨m', g1, g2, g3⟩
    · omega
    · have emm : m' = m := by omega
      subst emm
      refine ⟨by rw [f2, g2], ?_⟩
      rcases f3 with ⟨k1, -⟩ | ⟨m2, k1, k2, k3, k4, k5, k6⟩
      · omega
      · have em2 : m2 = m' := by omega
        subst em2
        obtain ⟨⟨i1, i2, i3⟩, ⟨b1, b2, b3, b4, b5⟩, h2, h3, h4, h5, h6⟩ := h
        have ek : ∀ k i, ¬ k = 17 → ¬ k = 16 → ρ k i = τ k i := fun k i a b => by rw [g3, us_k b, ur_k a]
        have e16 : ∀ j, ¬ j = 2 → ρ 16 0 j = σ 16 0 j := fun j a => by rw [g3, us_not a, ur_k (by decide), k6 16 0 (by omega) (by decide)]
        have es : ∀ s, ¬ s = 0 → scr ρ s = scr σ s := fun s a => scr_congr fun k q => by rw [ek k s (by omega) (by omega), k6 k s (by omega) (by omega)]
        have e0 : scr ρ 0 = scr τ 0 := scr_congr fun k q => ek k 0 (by omega) (by omega)
        obtain ⟨l1, l2⟩ := h4 m2 (by omega)
        have e17 : ρ 17 0 = scr σ (3 + (o + m2) % 4) := by rw [g3, us_k (by decide), ur_same, k6 18 0 (by omega) (by decide), rowH_eq l2]
        refine ⟨o, m2, t, ⟨i1, by omega, i3⟩, ⟨?_, ?_, by rw [g3, us_at], ?_, by rw [e16 7 (by decide)]; exact b5⟩, by rw [e0, k5, e17], by rw [e17]; exact l1, fun k hk => ?_, ?_, fun j hj => ?_⟩
        · rw [ek 6 0 (by decide) (by decide), k3]; exact b1
        · rw [ek 6 0 (by decide) (by decide)]; exact k4
        · rw [ek 8 0 (by decide) (by decide), k6 8 0 (by omega) (by decide)]; exact b4
        · rw [es _ (by omega), ek 18 0 (by decide) (by decide), k6 18 0 (by omega) (by decide)]
          exact h4 k (by omega)
        · rw [ek 5 0 (by decide) (by decide), k6 5 0 (by omega) (by decide), e16 4 (by decide), es 1 (by decide), ek 19 0 (by decide) (by decide), k6 19 0 (by omega) (by decide)]
          exact h5
        · rw [ek 9 0 (by decide) (by decide), ek 21 0 (by decide) (by decide), k6 9 0 (by omega) (by decide), k6 21 0 (by omega) (by decide)]
          exact h6 j hj
/-- keep by both -/
theorem inv_keep {σ τ ρ : St} {o n t : Nat} {r1 r2 : Int32} (h : InvP σ o n t) (hc : r1 = scr σ 0 332 ∧ scr τ 1 = scr σ 0 ∧ τ 5 0 2 = 1 ∧ sameC σ τ (fun k i => (k < 5 ∧ i = 1) ∨ k = 5)) (hm : r2 = τ 17 0 332 ∧ ρ = us (ur τ 19 0 (τ 17 0)) 16 0 4 1) : r1 = r2 ∧ Inv ρ := by
  obtain ⟨c1, c2, c3, c4⟩ := hc
  obtain ⟨m1, m2⟩ := hm
  obtain ⟨⟨i1, i2, i3⟩, ⟨b1, b2, b3, b4, b5⟩, h2, h3, h4, h5, h6⟩ := h
  have c16 : ∀ k i, 16 ≤ k → τ k i = σ k i := fun k i g => c4.1 k i (by unfold scrC; omega) (by omega)
  have ek : ∀ k i, ¬ k = 19 → ¬ k = 16 → ρ k i = τ k i := fun k i a b => by rw [m2, us_k b, ur_k a]
  have e16 : ∀ j, ¬ j = 4 → ρ 16 0 j = σ 16 0 j := fun j a => by rw [m2, us_not a, ur_k (by decide), c16 16 0 (by decide)]
  have es : ∀ s, scr ρ s = scr τ s := fun s => scr_congr fun k q => ek k s (by omega) (by omega)
  have es2 : ∀ s, ¬ s = 1 → ¬ s = 2 → scr ρ s = scr σ s := fun s a b => (es s).trans (sameC_row c4 b (fun k q z => by omega))
  refine ⟨by rw [c1, m1, h2, c16 17 0 (by decide)], o, n, t, ⟨i1, i2, i3⟩, ⟨?_, ?_, by rw [e16 2 (by decide)]; exact b3, ?_, by rw [e16 7 (by decide)]; exact b5⟩, ?_, ?_, fun k hk => ?_, Or.inr ⟨?_, by rw [m2, us_at], ?_, ?_⟩, fun j hj => ?_⟩
  · rw [ek 6 0 (by decide) (by decide), c4.1 6 0 (by unfold scrC; omega) (by omega)]; exact b1
  · rw [ek 6 0 (by decide) (by decide), c4.1 6 0 (by unfold scrC; omega) (by omega)]; exact b2
  · rw [ek 8 0 (by decide) (by decide), c4.2]; exact b4
  · rw [es2 0 (by decide) (by decide), ek 17 0 (by decide) (by decide), c16 17 0 (by decide)]; exact h2
  · rw [ek 17 0 (by decide) (by decide), c16 17 0 (by decide)]; exact h3
  · rw [es2 _ (by omega) (by omega), ek 18 0 (by decide) (by decide), c16 18 0 (by decide)]; exact h4 k hk
  · rw [ek 5 0 (by decide) (by decide)]; exact c3
  · rw [es 1, c2, m2, us_k (by decide), ur_same, c16 17 0 (by decide)]; exact h2
  · rw [m2, us_k (by decide), ur_same, c16 17 0 (by decide)]; exact h3
  · rw [ek 9 0 (by decide) (by decide), ek 21 0 (by decide) (by decide), c4.1 9 0 (by unfold scrC; omega) (by omega), c16 21 0 (by decide)]; exact h6 j hj
/-- type by both -/
theorem inv_type {σ τ ρ : St} {o n t : Nat} {r1 r2 c : Int32} (h : InvP σ o n t) (hc : (t = 60 ∧ r1 = -3 ∧ τ = σ) ∨ (t < 60 ∧ r1 = nI (t + 1) ∧ τ = us (us σ 9 0 t c) 8 0 1 (nI (t + 1)))) (hm : (t = 60 ∧ r2 = -3 ∧ ρ = τ) ∨ (t < 60 ∧ r2 = nI (t + 1) ∧ ρ = us (us τ 21 0 t c) 16 0 7 (nI (t + 1)))) : r1 = r2 ∧ Inv ρ := by
  rcases hc with ⟨f1, f2, f3⟩ | ⟨f1, f2, f3⟩
  · rcases hm with ⟨g1, g2, g3⟩ | ⟨g1, g2, g3⟩
    · exact ⟨by rw [f2, g2], o, n, t, by rw [g3, f3]; exact h⟩
    · omega
  · rcases hm with ⟨g1, g2, g3⟩ | ⟨g1, g2, g3⟩
    · omega
    · refine ⟨by rw [f2, g2], ?_⟩
      obtain ⟨⟨i1, i2, i3⟩, ⟨b1, b2, b3, b4, b5⟩, h2, h3, h4, h5, h6⟩ := h
      have ek : ∀ k i, ¬ k = 9 → ¬ k = 8 → ¬ k = 21 → ¬ k = 16 → ρ k i = σ k i := fun k i a b c d => by rw [g3, us_k d, us_k c, f3, us_k b, us_k a]
      have e16 : ∀ j, ¬ j = 7 → ρ 16 0 j = σ 16 0 j := fun j a => by rw [g3, us_not a, us_k (by decide), f3, us_k (by decide), us_k (by decide)]
      have es : ∀ s, scr ρ s = scr σ s := fun s => scr_congr fun k q => ek k s (by omega) (by omega) (by omega) (by omega)
      have e6 := ek 6 0 (by decide) (by decide) (by decide) (by decide)
      have e5 := ek 5 0 (by decide) (by decide) (by decide) (by decide)
      have e17 := ek 17 0 (by decide) (by decide) (by decide) (by decide)
      have e18 := ek 18 0 (by decide) (by decide) (by decide) (by decide)
      have e19 := ek 19 0 (by decide) (by decide) (by decide) (by decide)
      refine ⟨o, n, t + 1, ⟨i1, i2, by omega⟩, ⟨by rw [e6]; exact b1, by rw [e6]; exact b2, by rw [e16 2 (by decide)]; exact b3, by rw [g3, us_k (by decide), us_k (by decide), f3, us_at], by rw [g3, us_at]⟩, by rw [es, e17]; exact h2, by rw [e17]; exact h3, fun k hk => by rw [es, e18]; exact h4 k hk, by rw [e5, e16 4 (by decide), es 1, e19]; exact h5, fun j hj => ?_⟩
      rw [g3, us_k (by decide), us_k (by decide), us_k (by decide), f3, us_k (by decide)]
      by_cases q : j = t
      · subst q
        rw [us_at, us_at]
      · rw [us_not q, us_not q, us_k (by decide), us_k (by decide)]
        exact h6 j (by omega)
/-- clearText by both -/
theorem inv_clear {σ τ ρ : St} {o n t : Nat} {r1 r2 : Int32} (h : InvP σ o n t) (hc : r1 = σ 8 0 1 ∧ τ = us σ 8 0 1 0) (hm : r2 = τ 16 0 7 ∧ ρ = us τ 16 0 7 0) : r1 = r2 ∧ Inv ρ := by
  obtain ⟨⟨i1, i2, i3⟩, ⟨b1, b2, b3, b4, b5⟩, h2, h3, h4, h5, h6⟩ := h
  obtain ⟨c1, c2⟩ := hc
  obtain ⟨m1, m2⟩ := hm
  have ek : ∀ k i, ¬ k = 8 → ¬ k = 16 → ρ k i = σ k i := fun k i a b => by rw [m2, us_k b, c2, us_k a]
  have e16 : ∀ j, ¬ j = 7 → ρ 16 0 j = σ 16 0 j := fun j a => by rw [m2, us_not a, c2, us_k (by decide)]
  have es : ∀ s, scr ρ s = scr σ s := fun s => scr_congr fun k q => ek k s (by omega) (by omega)
  have e6 := ek 6 0 (by decide) (by decide)
  have e5 := ek 5 0 (by decide) (by decide)
  have e17 := ek 17 0 (by decide) (by decide)
  have e18 := ek 18 0 (by decide) (by decide)
  have e19 := ek 19 0 (by decide) (by decide)
  refine ⟨by rw [c1, m1, c2, us_k (by decide), b4, b5], o, n, 0, ⟨i1, i2, by omega⟩, ⟨by rw [e6]; exact b1, by rw [e6]; exact b2, by rw [e16 2 (by decide)]; exact b3, by rw [m2, us_k (by decide), c2, us_at]; rfl, by rw [m2, us_at]; rfl⟩, by rw [es, e17]; exact h2, by rw [e17]; exact h3, fun k hk => by rw [es, e18]; exact h4 k hk, by rw [e5, e16 4 (by decide), es 1, e19]; exact h5, fun j hj => absurd hj (Nat.not_lt_zero _)⟩
