/-! THE START: the world behind a constructor -/
def adr (q0 : Nat) (u : Nat → Nat) : Nat → Nat → Nat := fun k i =>
  if k = 0 then (if i = 0 then u 0 else if i = 1 then u 5 else if i = 2 then u 35 else if i = 3 then u 12 else if i = 4 then u 17 else if i = 5 then u 22 else u 27)
  else if k = 1 then (if i = 0 then u 1 else if i = 1 then u 6 else if i = 2 then u 36 else if i = 3 then u 13 else if i = 4 then u 18 else if i = 5 then u 23 else u 28)
  else if k = 2 then (if i = 0 then u 2 else if i = 1 then u 7 else if i = 2 then u 37 else if i = 3 then u 14 else if i = 4 then u 19 else if i = 5 then u 24 else u 29)
  else if k = 3 then (if i = 0 then u 3 else if i = 1 then u 8 else if i = 2 then u 38 else if i = 3 then u 15 else if i = 4 then u 20 else if i = 5 then u 25 else u 30)
  else if k = 4 then (if i = 0 then u 4 else if i = 1 then u 9 else if i = 2 then u 39 else if i = 3 then u 16 else if i = 4 then u 21 else if i = 5 then u 26 else u 31)
  else if k = 5 then q0
  else if k = 6 then u 10
  else if k = 7 then u 11
  else if k = 8 then u 32
  else if k = 9 then u 33
  else if k = 10 then u 34
  else if k = 11 then u 40
  else if k = 12 then u 41
  else if k = 13 then u 42
  else if k = 14 then u 43
  else u 44
def a0C : Nat → Int32 := (upd (upd (upd (upd (upd (upd (upd (fun _ => 0) 324 (nI 180)) 325 (nI 9)) 326 (nI 1)) 328 (nI 3)) 329 (nI 4)) 330 (nI 2)) 331 (nI 255))
def s0 : St := fun k _ => if k = 4 then fstF else fun _ => 0
theorem a0C_eq : a0C = fun j => if 324 ≤ j ∧ j < 332 then tab_FIRST.getD (j - 324) 0 else 0 := by
  funext j
  unfold a0C
  by_cases h : 324 ≤ j ∧ j < 332
  · rw [if_pos h]
    rcases (show j = 324 ∨ j = 325 ∨ j = 326 ∨ j = 327 ∨ j = 328 ∨ j = 329 ∨ j = 330 ∨ j = 331 by omega) with rfl | rfl | rfl | rfl | rfl | rfl | rfl | rfl <;> decide +kernel
  · rw [if_neg h, pk_un (by omega), pk_un (by omega), pk_un (by omega), pk_un (by omega), pk_un (by omega), pk_un (by omega), pk_un (by omega)]
theorem s0_at {k : Nat} (h4 : ¬ k = 4) (i j : Nat) : s0 k i j = 0 := by
  unfold s0
  rw [if_neg h4]
theorem s0_4 (i : Nat) : s0 4 i = fstF := if_pos rfl
theorem can_s0 : can s0 := by
  refine ⟨fun k i j h => ?_, fun i j => Or.inl (s0_at (by decide) i j)⟩
  by_cases h4 : k = 4
  · subst h4
    rw [s0_4]
    exact if_neg (Nat.not_lt.mpr h)
  · exact s0_at h4 i j
theorem scr_s0 (s : Nat) : scr s0 s = a0C := by
  refine scr_is (fun j q => ?_) (fun j q => ?_) (fun j q => ?_) (fun j q => ?_) ?_ ?_ ?_ (fun j q => ?_)
  · rw [s0_at (by decide), a0C_eq]; exact (if_neg (by omega)).symm
  · rw [s0_at (by decide), a0C_eq]; exact (if_neg (by omega)).symm
  · rw [s0_at (by decide), a0C_eq]; exact (if_neg (by omega)).symm
  · rw [s0_4, a0C_eq]
    show fstF j = if 324 ≤ 324 + j ∧ 324 + j < 332 then tab_FIRST.getD (324 + j - 324) 0 else 0
    rw [if_pos (by omega), show 324 + j - 324 = j by omega]
    exact if_pos q
  · rw [s0_at (by decide), a0C_eq]; rfl
  · rw [s0_at (by decide), a0C_eq]; rfl
  · rw [s0_at (by decide), a0C_eq]; rfl
  · rw [a0C_eq]; exact if_neg (by omega)
theorem okA_s0 : okA a0C := by
  have e : ∀ j, ¬ (324 ≤ j ∧ j < 332) → a0C j = 0 := fun j h => by rw [a0C_eq]; exact if_neg h
  refine ⟨⟨fun j q => ⟨0, by decide, e j (by omega)⟩, fun k q => Or.inl (e _ (by omega)), ⟨180, by decide, by decide, by rw [a0C_eq]; decide +kernel⟩, ⟨9, by decide, by rw [a0C_eq]; decide +kernel⟩, ⟨1, by decide, by rw [a0C_eq]; decide +kernel⟩, ⟨0, by decide, by rw [a0C_eq]; decide +kernel⟩, ⟨3, by decide, by rw [a0C_eq]; decide +kernel⟩, ⟨4, by decide, by rw [a0C_eq]; decide +kernel⟩, ⟨2, by decide, by rw [a0C_eq]; decide +kernel⟩, ⟨255, by decide, by decide, by rw [a0C_eq]; decide +kernel⟩⟩, fun k q => ⟨0, by decide, e _ (by omega)⟩, fun k q => Or.inl (e _ (by omega)), fun j q => e _ (by omega)⟩
theorem vw_s0 : Vw s0 a0C a0C 0 0 (fun _ => 0) := ⟨⟨0, 0, by decide, by decide, s0_at (by decide) _ _, s0_at (by decide) _ _⟩, by decide, s0_at (by decide) _ _, scr_s0 0, scr_s0 1, s0_at (by decide) _ _, funext fun j => s0_at (by decide) _ j⟩
theorem inv_s0 : Iv 0 s0 s0 := ⟨a0C, a0C, 0, 0, 0, _, _, vw_s0, vw_s0, okA_s0, okA_s0, Or.inl rfl, ⟨0, Nat.le_refl _, by rw [a0C_eq]; decide +kernel⟩, ⟨0, Nat.le_refl _, by rw [a0C_eq]; decide +kernel⟩⟩
theorem arrV_congr {cA : ClassId} {n : Nat} {f g : Nat → Value} (h : ∀ j, j < n → f j = g j) : arrV cA n f = arrV cA n g := by
  unfold arrV
  rw [show (fun j : Fin n => f j.val) = fun j => g j.val from funext fun j => h j.val j.isLt]
theorem va_P_cell {D : va_G} {cl : List vw_C} {ws : va_W} {H : Heap} {k t : Nat} {cA : ClassId} {x y : vp_A} (h : va_P D cl ws H) (hk : ws[k]? = some (t, .inl (cA, x))) (hxy : vp_cell cA x = vp_cell cA y) : va_P D cl (ws.set k (t, .inl (cA, y))) H := by
  intro j q hq
  by_cases e : j = k
  · subst e
    rw [List.getElem?_set_self (List.getElem?_eq_some_iff.mp hk).1] at hq
    cases hq
    have g : H[t]? = some (vp_cell cA x) := h j _ hk
    show H[t]? = some (vp_cell cA y)
    rw [g, hxy]
  · rw [List.getElem?_set_ne (Ne.symm e)] at hq
    exact h j q hq
theorem va_D_cell {A : Nat → Prop} {ws : va_W} {k t : Nat} {e1 e2 : va_E} (h : va_D A ws) (hk : ws[k]? = some (t, e1)) : va_D A (ws.set k (t, e2)) := by
  have key : ∀ (j : Nat) (q : Nat × va_E), (ws.set k (t, e2))[j]? = some q → ∃ q0, ws[j]? = some q0 ∧ q0.1 = q.1 := by
    intro j q hq
    by_cases e : j = k
    · subst e
      rw [List.getElem?_set_self (List.getElem?_eq_some_iff.mp hk).1] at hq
      cases hq
      exact ⟨_, hk, rfl⟩
    · rw [List.getElem?_set_ne (Ne.symm e)] at hq
      exact ⟨q, hq, rfl⟩
  refine ⟨fun i j x y hi hj hxy => ?_, fun j q hq => ?_⟩
  · obtain ⟨x0, h1, h2⟩ := key i x hi
    obtain ⟨y0, h3, h4⟩ := key j y hj
    exact h.1 i j x0 y0 h1 h3 (by rw [h2, h4]; exact hxy)
  · obtain ⟨q0, h1, h2⟩ := key j q hq
    rw [← h2]
    exact h.2 j q0 h1
set_option maxRecDepth 100000 in
set_option maxHeartbeats 4000000 in
/-- the world, put in order -/
theorem start_world {D : va_G} {Y : T3} {H : Heap} {A : Nat → Prop} {q0 : Nat} {u : (Nat → Nat) × ClassId} (hP : va_P D vwCl (fX5 Y q0 u) H) (hD : va_D A (fX5 Y q0 u)) : va_P D vwCl (wl (adr q0 u.1, D, Y.1, Y.2.1, Y.2.2, u.2) s0) H ∧ va_D A (wl (adr q0 u.1, D, Y.1, Y.2.1, Y.2.2, u.2) s0) := by
  have hP2 := va_P_cell (k := 12) (y := (4, .inr (.inr (.inr (.inr (fun j => some (adr q0 u.1 0 (3 + j)))))))) hP rfl (by
    rw [vp_cell_q, vp_cell_q]
    exact arrV_congr (n := 4) fun j hj => by
      rcases (show j = 0 ∨ j = 1 ∨ j = 2 ∨ j = 3 by omega) with rfl | rfl | rfl | rfl <;> rfl)
  have hD2 := va_D_cell (k := 12) (e2 := .inl (u.2, (4, .inr (.inr (.inr (.inr (fun j => some (adr q0 u.1 0 (3 + j))))))))) hD rfl
  exact ⟨hP2.sub [1, 6, 36, 13, 18, 23, 28, 2, 7, 37, 14, 19, 24, 29, 3, 8, 38, 15, 20, 25, 30, 4, 9, 39, 16, 21, 26, 31, 5, 10, 40, 17, 22, 27, 32, 0, 11, 12, 33, 34, 35, 41, 42, 43, 44, 45] rfl, hD2.sub [1, 6, 36, 13, 18, 23, 28, 2, 7, 37, 14, 19, 24, 29, 3, 8, 38, 15, 20, 25, 30, 4, 9, 39, 16, 21, 26, 31, 5, 10, 40, 17, 22, 27, 32, 0, 11, 12, 33, 34, 35, 41, 42, 43, 44, 45] (by decide +kernel) rfl⟩
/-- the addresses of a list of cells -/
def inW (ws : va_W) : Nat → Prop := fun q => ∃ (k : Nat) (e : va_E), ws[k]? = some (q, e)
theorem inW_D {A : Nat → Prop} {ws : va_W} (h : va_D A ws) : va_D (inW ws) ws := ⟨h.1, fun k q hk => ⟨k, q.2, hk⟩⟩
theorem inW_A {A : Nat → Prop} {ws : va_W} (h : va_D A ws) {q : Nat} (g : inW ws q) : A q := by
  obtain ⟨k, e, hk⟩ := g
  exact h.2 k (q, e) hk
theorem inW_apart {A : Nat → Prop} {w1 w2 : va_W} (h : va_D A (w1 ++ w2)) {q : Nat} (g1 : inW w1 q) (g2 : inW w2 q) : False := by
  obtain ⟨k, e, hk⟩ := g1
  obtain ⟨j, f, hj⟩ := g2
  have hk1 : k < w1.length := (List.getElem?_eq_some_iff.mp hk).1
  have a1 : (w1 ++ w2)[k]? = some (q, e) := by rw [List.getElem?_append_left hk1]; exact hk
  have a2 : (w1 ++ w2)[w1.length + j]? = some (q, f) := by rw [List.getElem?_append_right (Nat.le_add_right _ _), Nat.add_sub_cancel_left]; exact hj
  have := h.1 k (w1.length + j) _ _ a1 a2 rfl
  omega
