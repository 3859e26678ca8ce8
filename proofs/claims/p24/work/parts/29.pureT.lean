/-! PURE: texts, as the reference reads them -/
/-- 'takes': the character c at the place p -/
def takeQ (σ τ : St) (p t : Nat) (c r : Int32) : Prop := (r = nI 1 ∧ p < t ∧ σ 21 0 p = c ∧ τ = us σ 16 0 8 (nI (p + 1))) ∨ (r = nI 0 ∧ ¬ (p < t ∧ σ 21 0 p = c) ∧ τ = σ)
theorem btw_same {x c : Int32} : btw x c c ↔ x = c := by
  refine ⟨fun h => Int32.le_antisymm (Int32.not_lt.mp h.2) (Int32.not_lt.mp h.1), fun h => ?_⟩
  rw [h]
  exact ⟨Int32.lt_irrefl, Int32.lt_irrefl⟩
theorem bP_1 {r : Int32} {P : Prop} (h : bP r P) (c : ¬ r = 0) : r = nI 1 := by
  rcases h with h | h
  · exact h.1
  · exact absurd h.1 c
theorem takeQ_1 {σ : St} {p t : Nat} {c x : Int32} (h : p < t ∧ btw (σ 21 0 p) c c) (hx : x = nI 1) : takeQ σ (us σ 16 0 8 (nI (p + 1))) p t c x := Or.inl ⟨hx, h.1, btw_same.mp h.2, rfl⟩
theorem takeQ_0 {σ : St} {p t : Nat} {c x : Int32} (h : ¬ (p < t ∧ btw (σ 21 0 p) c c)) (hx : x = 0) (ep : σ 16 0 8 = nI p) : takeQ σ (us σ 16 0 8 (nI (p + 0))) p t c x := Or.inr ⟨hx, fun g => h ⟨g.1, btw_same.mpr g.2⟩, us_self ep⟩
/-- 'readsNumber' in the field f from the place p on -/
def numQ (σ τ : St) (p t f hi : Nat) (r : Int32) : Prop := (r = nI 0 ∧ τ = σ ∧ rdK (σ 21 0) (t - p) p f (-1) = (nI p, [])) ∨
  ∃ i v, r = nI 1 ∧ p < i ∧ i ≤ t ∧ v ≤ hi ∧ τ = us (us σ 16 0 8 (nI i)) 22 0 f (nI v) ∧ rdK (σ 21 0) (t - p) p f (-1) = rdK (σ 21 0) (t - i) i f (nI v) ∧ (i < t → wdF (nI v) (σ 21 0 i) f = -1)
theorem m1_nI {v : Nat} (h : v < 2 ^ 31) : ¬ nI v = -1 := fun q => nI_pos h (by rw [q]; decide)
/-- no digit ends a number -/
theorem dig_sep {c : Int32} {f : Nat} (hf : f < 5) (h1 : ¬ c < 48) (h2 : ¬ 57 < c) : ¬ c = tab_END.getD f 0 := by
  intro q
  rw [q] at h1 h2
  rcases (show f = 0 ∨ f = 1 ∨ f = 2 ∨ f = 3 ∨ f = 4 by omega) with rfl | rfl | rfl | rfl | rfl
  · exact h1 (by decide)
  · exact h1 (by decide)
  · exact h2 (by decide)
  · exact h2 (by decide)
  · exact h2 (by decide)
theorem dig_nat {c : Int32} (h1 : ¬ c < 48) (h2 : ¬ 57 < c) : ∃ d, d < 10 ∧ c - 48 = nI d ∧ c = nI (48 + d) := by
  obtain ⟨k, hk, e⟩ := nI_of (x := c) (fun q => h1 (Int32.lt_iff_toInt_lt.mpr (by
    have := Int32.lt_iff_toInt_lt.mp q
    have e0 : (0 : Int32).toInt = 0 := by decide
    have e1 : (48 : Int32).toInt = 48 := by decide
    omega)))
  have g1 : 48 ≤ k := Nat.le_of_not_lt fun q => h1 (by rw [e]; exact nI_lt (b := 48) q (by decide))
  have g2 : k ≤ 57 := Nat.le_of_not_lt fun q => h2 (by rw [e]; exact nI_lt (a := 57) q hk)
  refine ⟨k - 48, by omega, ?_, by rw [e]; congr 1; omega⟩
  rw [e]
  exact pk_sub (b := 48) g1
theorem rd_more {tx : Nat → Int32} {t p f : Nat} {v : Int32} (hp : p < t) (hs : ¬ (¬ v = -1 ∧ tx p = tab_END.getD f 0)) (hw : ¬ wdF v (tx p) f = -1) : rdK tx (t - p) p f v = rdK tx (t - (p + 1)) (p + 1) f (wdF v (tx p) f) := by
  rw [show t - p = (t - (p + 1)) + 1 by omega, rdK, if_neg hs, if_neg hw]
theorem rd_stop {tx : Nat → Int32} {t p f : Nat} {v : Int32} (hp : p < t) (hs : ¬ (¬ v = -1 ∧ tx p = tab_END.getD f 0)) (hw : wdF v (tx p) f = -1) : rdK tx (t - p) p f v = (nI p, []) := by
  rw [show t - p = (t - (p + 1)) + 1 by omega, rdK, if_neg hs, if_pos hw]
/-- one digit more, in numbers -/
theorem wd_first {c : Int32} {f lo hi d : Nat} (elo : tab_LEAST.getD f 0 = nI lo) (ehi : tab_GREATEST.getD f 0 = nI hi) (hlo : lo ≤ 1) (hhi : 9 ≤ hi) (hhi2 : hi ≤ 255) (h1 : ¬ c < 48) (h2 : ¬ 57 < c) (hd : d < 10) (ed : c - 48 = nI d) : wdF (-1) c f = if lo ≤ d then nI d else -1 := by
  unfold wdF
  rw [if_pos ⟨h1, h2, by decide⟩, if_pos rfl, ed, elo, ehi]
  by_cases q : lo ≤ d
  · rw [if_pos q, if_neg]
    rintro (g | g)
    · exact nI_nlt q (by omega) g
    · exact nI_nlt (show d ≤ hi by omega) (by omega) g
  · rw [if_neg q, if_pos (Or.inl (nI_lt (by omega) (by omega)))]
theorem wd_next {c : Int32} {f lo hi d v : Nat} (elo : tab_LEAST.getD f 0 = nI lo) (ehi : tab_GREATEST.getD f 0 = nI hi) (hlo : lo ≤ 1) (hhi2 : hi ≤ 255) (hv0 : 0 < v) (hv : v ≤ hi) (h1 : ¬ c < 48) (h2 : ¬ 57 < c) (hd : d < 10) (ed : c - 48 = nI d) : wdF (nI v) c f = if 10 * v + d ≤ hi then nI (10 * v + d) else -1 := by
  have e : 10 * nI v + (c - 48) = nI (10 * v + d) := by
    rw [ed, show (10 : Int32) * nI v = nI (10 * v) from pk_mul 10 v, nI_add]
  unfold wdF
  rw [if_pos ⟨h1, h2, nI_ne0 hv0 (by omega)⟩, if_neg (m1_nI (by omega)), e, elo, ehi]
  by_cases q : 10 * v + d ≤ hi
  · rw [if_pos q, if_neg]
    rintro (g | g)
    · exact nI_nlt (show lo ≤ 10 * v + d by omega) (by omega) g
    · exact nI_nlt q (by omega) g
  · rw [if_neg q, if_pos (Or.inr (nI_lt (by omega) (by omega)))]
theorem wd_none {n c : Int32} {f : Nat} (h : ¬ (¬ c < 48 ∧ ¬ 57 < c)) : wdF n c f = -1 := if_neg (fun q => h ⟨q.1, q.2.1⟩)
theorem wd_zero {c : Int32} {f : Nat} : wdF (nI 0) c f = -1 := if_neg (fun q => q.2.2 rfl)
theorem btw_dig {c : Int32} {lo : Nat} (hlo : lo ≤ 1) : btw c (nI (48 + lo)) (nI 57) ↔ (¬ c < 48 ∧ ¬ 57 < c) ∧ (lo = 1 → ¬ c = 48) := by
  unfold btw
  rcases (show lo = 0 ∨ lo = 1 by omega) with rfl | rfl
  · exact ⟨fun h => ⟨h, fun q => absurd q (by decide)⟩, fun h => h.1⟩
  · refine ⟨fun h => ⟨⟨fun q => h.1 (Int32.lt_trans q (by decide)), h.2⟩, fun _ q => h.1 (by rw [q]; decide)⟩, fun h => ⟨fun q => ?_, h.1.2⟩⟩
    have g := h.2 rfl
    refine g (Int32.le_antisymm ?_ (Int32.not_lt.mp h.1.1))
    have e1 := Int32.lt_iff_toInt_lt.mp q
    have e2 : (nI (48 + 1)).toInt = 49 := by decide
    have e3 : (48 : Int32).toInt = 48 := by decide
    rw [Int32.le_iff_toInt_le]
    omega
theorem num_first {tx : Nat → Int32} {p t f lo hi : Nat} (hf : f < 5) (elo : tab_LEAST.getD f 0 = nI lo) (ehi : tab_GREATEST.getD f 0 = nI hi) (hlo : lo ≤ 1) (hhi : 9 ≤ hi) (hhi2 : hi ≤ 255) (hp : p < t) (hb : btw (tx p) (nI (48 + lo)) (nI 57)) : ∃ v, v < 10 ∧ v ≤ hi ∧ tx p - 48 = nI v ∧ rdK tx (t - p) p f (-1) = rdK tx (t - (p + 1)) (p + 1) f (nI v) := by
  obtain ⟨⟨h1, h2⟩, h3⟩ := (btw_dig hlo).mp hb
  obtain ⟨d, hd, ed, ec⟩ := dig_nat h1 h2
  have hl : lo ≤ d := by
    rcases (show lo = 0 ∨ lo = 1 by omega) with q | q
    · omega
    · refine Nat.le_of_not_lt fun g => h3 q ?_
      rw [ec, show d = 0 by omega]
      rfl
  have ew : wdF (-1) (tx p) f = nI d := by rw [wd_first elo ehi hlo hhi hhi2 h1 h2 hd ed, if_pos hl]
  refine ⟨d, hd, by omega, ed, ?_⟩
  rw [rd_more hp (fun q => q.1 rfl) (by rw [ew]; exact m1_nI (by omega)), ew]
theorem num_none {tx : Nat → Int32} {p t f lo hi : Nat} (elo : tab_LEAST.getD f 0 = nI lo) (ehi : tab_GREATEST.getD f 0 = nI hi) (hlo : lo ≤ 1) (hhi : 9 ≤ hi) (hhi2 : hi ≤ 255) (hpt : p ≤ t) (h : ¬ (p < t ∧ btw (tx p) (nI (48 + lo)) (nI 57))) : rdK tx (t - p) p f (-1) = (nI p, []) := by
  by_cases hp : p < t
  · refine rd_stop hp (fun q => q.1 rfl) ?_
    by_cases hd : ¬ tx p < 48 ∧ ¬ 57 < tx p
    · obtain ⟨d, h10, ed, ec⟩ := dig_nat hd.1 hd.2
      rw [wd_first elo ehi hlo hhi hhi2 hd.1 hd.2 h10 ed, if_neg]
      intro g
      refine h ⟨hp, (btw_dig hlo).mpr ⟨hd, fun e q => ?_⟩⟩
      rw [ec] at q
      have := (nI_eq (b := 48) (show 48 + d < 2 ^ 31 by omega) (by decide)).mp q
      omega
    · exact wd_none hd
  · rw [show t - p = 0 by omega, rdK, if_neg (fun q => q.2 rfl)]
theorem num_sub {x y : Int32} : x + y - 48 = x + (y - 48) := by
  rw [Int32.sub_eq_add_neg, Int32.sub_eq_add_neg, Int32.add_assoc]
theorem num_next {tx : Nat → Int32} {i t f lo hi v : Nat} (hf : f < 5) (elo : tab_LEAST.getD f 0 = nI lo) (ehi : tab_GREATEST.getD f 0 = nI hi) (hlo : lo ≤ 1) (hhi2 : hi ≤ 255) (hv0 : 0 < v) (hv : v ≤ hi) (hi_ : i < t) (hb : btw (tx i) (nI 48) (nI 57)) (hle : nI (10 * v) + (tx i - 48) ≤ nI hi) : ∃ u, u ≤ hi ∧ nI (10 * v) + (tx i - 48) = nI u ∧ rdK tx (t - i) i f (nI v) = rdK tx (t - (i + 1)) (i + 1) f (nI u) := by
  obtain ⟨d, hd, ed, ec⟩ := dig_nat hb.1 hb.2
  have e : nI (10 * v) + (tx i - 48) = nI (10 * v + d) := by
    rw [ed, nI_add]
  have hu : 10 * v + d ≤ hi := by
    rw [e] at hle
    exact (nI_leI (by omega) (by omega)).mp hle
  have ew : wdF (nI v) (tx i) f = nI (10 * v + d) := by rw [wd_next elo ehi hlo hhi2 hv0 hv hb.1 hb.2 hd ed, if_pos hu]
  refine ⟨10 * v + d, hu, e, ?_⟩
  rw [rd_more hi_ (fun q => dig_sep hf hb.1 hb.2 q.2) (by rw [ew]; exact m1_nI (by omega)), ew]
theorem num_stop1 {tx : Nat → Int32} {i t f v : Nat} (h : ¬ (i < t ∧ btw (tx i) (nI 48) (nI 57))) : i < t → wdF (nI v) (tx i) f = -1 := fun q => wd_none fun g => h ⟨q, g⟩
theorem num_stop2 {tx : Nat → Int32} {i t f lo hi v : Nat} (elo : tab_LEAST.getD f 0 = nI lo) (ehi : tab_GREATEST.getD f 0 = nI hi) (hlo : lo ≤ 1) (hhi2 : hi ≤ 255) (hv0 : 0 < v) (hv : v ≤ hi) (hb : btw (tx i) (nI 48) (nI 57)) (hle : ¬ nI (10 * v) + (tx i - 48) ≤ nI hi) : i < t → wdF (nI v) (tx i) f = -1 := fun _ => by
  obtain ⟨d, hd, ed, ec⟩ := dig_nat hb.1 hb.2
  rw [wd_next elo ehi hlo hhi2 hv0 hv hb.1 hb.2 hd ed, if_neg]
  intro g
  rw [ed, nI_add] at hle
  exact hle (nI_le g (by omega))
theorem num_stop0 {tx : Nat → Int32} {i t f : Nat} {v : Nat} (h : v = 0) : i < t → wdF (nI v) (tx i) f = -1 := fun _ => by
  rw [h]
  exact wd_zero
theorem numQ_1 {σ : St} {p t f hi i v : Nat} (h1 : p < i) (h2 : i ≤ t) (h3 : v ≤ hi) (hs : i < t → wdF (nI v) (σ 21 0 i) f = -1) (hI : rdK (σ 21 0) (t - p) p f (-1) = rdK (σ 21 0) (t - i) i f (nI v)) : numQ σ (us (us σ 16 0 8 (nI i)) 22 0 f (nI v)) p t f hi (nI 1) := Or.inr ⟨i, v, rfl, h1, h2, h3, rfl, hI, hs⟩
/-- behind a number: its end, or the fault -/
theorem rd_sep {tx : Nat → Int32} {t p f v : Nat} (hv : v < 2 ^ 31) (hp : p < t) (hc : tx p = tab_END.getD f 0) : rdK tx (t - p) p f (nI v) = ((rdK tx (t - (p + 1)) (p + 1) ((f + 1) % 5) (-1)).1, nI v :: (rdK tx (t - (p + 1)) (p + 1) ((f + 1) % 5) (-1)).2) := by
  rw [show t - p = (t - (p + 1)) + 1 by omega, rdK, if_pos ⟨m1_nI hv, hc⟩]
theorem rd_nosep {tx : Nat → Int32} {t p f v : Nat} (hv : v < 2 ^ 31) (hpt : p ≤ t) (hf : ¬ f = 4) (hc : ¬ (p < t ∧ tx p = tab_END.getD f 0)) (hs : p < t → wdF (nI v) (tx p) f = -1) : rdK tx (t - p) p f (nI v) = (nI p, []) := by
  by_cases hp : p < t
  · exact rd_stop hp (fun q => hc ⟨hp, q.2⟩) (hs hp)
  · rw [show t - p = 0 by omega, rdK, if_neg (fun q => hf q.1), show p = p from rfl]
theorem rd_last {tx : Nat → Int32} {t p v : Nat} (hv : v < 2 ^ 31) (hpt : p ≤ t) (hc : ¬ (p < t ∧ tx p = tab_END.getD 4 0)) (hs : p < t → wdF (nI v) (tx p) 4 = -1) : rdK tx (t - p) p 4 (nI v) = if p = t then (-5, [nI v]) else (nI p, []) := by
  by_cases hp : p < t
  · rw [if_neg (by omega)]
    exact rd_stop hp (fun q => hc ⟨hp, q.2⟩) (hs hp)
  · rw [if_pos (by omega), show t - p = 0 by omega, rdK, if_pos ⟨rfl, m1_nI hv⟩]
/-- the reference has read up to q, the first f numbers of a part that begins at p -/
def prQ (σ τ : St) (p t f q : Nat) (row : Nat → Int32) (L : List Int32) : Prop := τ = us (ur σ 22 0 row) 16 0 8 (nI q) ∧ p ≤ q ∧ q ≤ t ∧ L.length = f ∧ (∀ j, j < f → row j = L.getD j 0) ∧
  rdK (σ 21 0) (t - p) p 0 (-1) = ((rdK (σ 21 0) (t - q) q f (-1)).1, L ++ (rdK (σ 21 0) (t - q) q f (-1)).2)
/-- and one number more, v -/
def prN (σ τ : St) (p t f q : Nat) (row : Nat → Int32) (L : List Int32) (v : Nat) : Prop := τ = us (ur σ 22 0 row) 16 0 8 (nI q) ∧ p < q ∧ q ≤ t ∧ L.length = f ∧ (∀ j, j < f → row j = L.getD j 0) ∧ row f = nI v ∧ v ≤ 255 ∧
  rdK (σ 21 0) (t - p) p 0 (-1) = ((rdK (σ 21 0) (t - q) q f (nI v)).1, L ++ (rdK (σ 21 0) (t - q) q f (nI v)).2) ∧ (q < t → wdF (nI v) (σ 21 0 q) f = -1)
/-- a fault in the part -/
def badQ (σ τ : St) (p t : Nat) : Prop := ∃ q row, q ≤ t ∧ τ = us (ur σ 22 0 row) 16 0 8 (nI q) ∧ (rdK (σ 21 0) (t - p) p 0 (-1)).1 = nI q
theorem prQ_0 {σ : St} {p t : Nat} (hp : p ≤ t) (ep : σ 16 0 8 = nI p) : prQ σ σ p t 0 p (σ 22 0) [] := ⟨by rw [ur_self (σ := σ) rfl, us_self ep], Nat.le_refl _, hp, rfl, fun j h => absurd h (Nat.not_lt_zero _), rfl⟩
theorem st_8 {σ : St} {row : Nat → Int32} {q : Nat} : us (ur σ 22 0 row) 16 0 8 (nI q) 16 0 8 = nI q := us_at
theorem st_7 {σ : St} {row : Nat → Int32} {q : Nat} : us (ur σ 22 0 row) 16 0 8 (nI q) 16 0 7 = σ 16 0 7 := by rw [us_not (by decide), ur_k (by decide)]
theorem st_21 {σ : St} {row : Nat → Int32} {q : Nat} : us (ur σ 22 0 row) 16 0 8 (nI q) 21 0 = σ 21 0 := by rw [us_k (by decide), ur_k (by decide)]
theorem st_num {σ : St} {row : Nat → Int32} {q i f : Nat} {v : Int32} : us (us (us (ur σ 22 0 row) 16 0 8 (nI q)) 16 0 8 (nI i)) 22 0 f v = us (ur σ 22 0 (upd row f v)) 16 0 8 (nI i) := by
  rw [us_us, us, us_k (by decide), ur_same, us, us, ur_k (by decide), ur_k (by decide), ur_swap (by decide), ur_ur]
theorem pr_num0 {σ τ ρ : St} {p t f q hi : Nat} {row : Nat → Int32} {L : List Int32} {r : Int32} (h : prQ σ τ p t f q row L) (hn : numQ τ ρ q t f hi r) (hr : r = 0) : badQ σ ρ p t := by
  obtain ⟨rfl, h1, h2, h3, h4, h5⟩ := h
  rcases hn with ⟨g1, g2, g3⟩ | ⟨i, v, g1, -⟩
  · rw [st_21] at g3
    exact ⟨q, row, h2, g2, by rw [h5, g3]⟩
  · rw [g1] at hr
    exact absurd hr (by decide)
theorem pr_num1 {σ τ ρ : St} {p t f q hi : Nat} {row : Nat → Int32} {L : List Int32} {r : Int32} (h : prQ σ τ p t f q row L) (hn : numQ τ ρ q t f hi r) (hhi : hi ≤ 255) (hr : ¬ r = 0) : ∃ q1 row1 v, prN σ ρ p t f q1 row1 L v := by
  obtain ⟨rfl, h1, h2, h3, h4, h5⟩ := h
  rcases hn with ⟨g1, g2, g3⟩ | ⟨i, v, g1, g2, g3, g4, g5, g6, g7⟩
  · exact absurd g1 hr
  · rw [st_21] at g6 g7
    refine ⟨i, upd row f (nI v), v, by rw [g5, st_num], by omega, g3, h3, fun j hj => by rw [pk_un (by omega)]; exact h4 j hj, pk_us, by omega, by rw [h5, g6], g7⟩
theorem pr_take0 {σ τ ρ : St} {p t f q v : Nat} {row : Nat → Int32} {L : List Int32} {c r : Int32} (hf : ¬ f = 4) (hc : c = tab_END.getD f 0) (h : prN σ τ p t f q row L v) (hn : takeQ τ ρ q t c r) (hr : r = 0) : badQ σ ρ p t := by
  obtain ⟨rfl, h1, h2, h3, h4, h5, h6, h7, h8⟩ := h
  rcases hn with ⟨g1, -⟩ | ⟨g1, g2, g3⟩
  · rw [g1] at hr
    exact absurd hr (by decide)
  · rw [st_21, hc] at g2
    exact ⟨q, row, h2, g3, by rw [h7, rd_nosep (by omega) h2 hf g2 h8]⟩
theorem pr_take1 {σ τ ρ : St} {p t f q v : Nat} {row : Nat → Int32} {L : List Int32} {c r : Int32} (hf : f < 4) (hc : c = tab_END.getD f 0) (h : prN σ τ p t f q row L v) (hn : takeQ τ ρ q t c r) (hr : ¬ r = 0) : prQ σ ρ p t (f + 1) (q + 1) row (L ++ [nI v]) := by
  obtain ⟨rfl, h1, h2, h3, h4, h5, h6, h7, h8⟩ := h
  rcases hn with ⟨g1, g2, g3, g4⟩ | ⟨g1, -⟩
  · rw [st_21, hc] at g3
    refine ⟨by rw [g4, us_us], by omega, by omega, by rw [List.length_append, h3]; rfl, fun j hj => ?_, ?_⟩
    · by_cases e : j = f
      · subst e
        rw [h5, List.getD_eq_getElem?_getD, List.getElem?_append_right (by omega), h3, Nat.sub_self]
        rfl
      · rw [h4 j (by omega), List.getD_eq_getElem?_getD, List.getD_eq_getElem?_getD, List.getElem?_append_left (by omega)]
    · rw [h7, rd_sep (by omega) g2 g3, show (f + 1) % 5 = f + 1 by omega, List.append_assoc]
      rfl
  · exact absurd g1 hr
/-- a part read -/
def partQ (σ τ : St) (p t : Nat) (r : Int32) : Prop := (r = nI 0 ∧ badQ σ τ p t) ∨ ∃ q row L v, r = nI 1 ∧ prN σ τ p t 4 q row L v
/-! whole texts -/
def gN (f : Nat) : Nat := if f = 0 then 23 else if f = 1 then 11 else if f = 2 then 24 else if f = 3 then 12 else 255
theorem gN_tab {f : Nat} (hf : f < 5) : tab_GREATEST.getD f 0 = nI (gN f) ∧ ¬ tab_LEAST.getD f 0 < 0 ∧ gN f ≤ 255 := by
  rcases (show f = 0 ∨ f = 1 ∨ f = 2 ∨ f = 3 ∨ f = 4 by omega) with rfl | rfl | rfl | rfl | rfl <;> decide
theorem wdF_ok {v c : Int32} {f : Nat} (hf : f < 5) (h : ¬ wdF v c f = -1) : ∃ m, m ≤ gN f ∧ wdF v c f = nI m := by
  obtain ⟨g1, g2, g3⟩ := gN_tab hf
  have key : ∀ x : Int32, ¬ (x < tab_LEAST.getD f 0 ∨ tab_GREATEST.getD f 0 < x) → ∃ m, m ≤ gN f ∧ x = nI m := fun x hx => by
    have h1 := Int32.not_lt.mp (fun q => hx (Or.inl q))
    have h2 := Int32.not_lt.mp (fun q => hx (Or.inr q))
    have h0 : ¬ x < 0 := fun q => g2 (Int32.lt_of_le_of_lt h1 q)
    obtain ⟨m, hm, e⟩ := nI_of h0
    rw [g1, e] at h2
    exact ⟨m, (nI_leI hm (by omega)).mp h2, e⟩
  unfold wdF at h ⊢
  by_cases q : ¬ c < 48 ∧ ¬ 57 < c ∧ ¬ v = 0
  · rw [if_pos q] at h ⊢
    by_cases q2 : (if v = -1 then c - 48 else 10 * v + (c - 48)) < tab_LEAST.getD f 0 ∨ tab_GREATEST.getD f 0 < (if v = -1 then c - 48 else 10 * v + (c - 48))
    · rw [if_pos q2] at h
      exact absurd rfl h
    · rw [if_neg q2] at h ⊢
      exact key _ q2
  · rw [if_neg q] at h
    exact absurd rfl h
def vOK (f : Nat) (v : Int32) : Prop := v = -1 ∨ ∃ m, m ≤ gN f ∧ v = nI m
theorem rdK_ok {tx : Nat → Int32} : ∀ n i f v, f < 5 → i + n < 1000 → vOK f v → (∀ q, q < (rdK tx n i f v).2.length → ∃ m, m ≤ gN ((f + q) % 5) ∧ (rdK tx n i f v).2.getD q 0 = nI m) ∧ ((rdK tx n i f v).1 = -5 → (f + (rdK tx n i f v).2.length) % 5 = 0)
  | 0, i, f, v, hf, hi, hv => by
    unfold rdK
    by_cases q : f = 4 ∧ ¬ v = -1
    · rw [if_pos q]
      refine ⟨fun j hj => ?_, fun _ => by
        show (f + 1) % 5 = 0
        omega⟩
      have hj1 : j < 1 := hj
      have hj0 : j = 0 := by omega
      subst hj0
      obtain ⟨m, hm, e⟩ := hv.resolve_left q.2
      exact ⟨m, by rw [show (f + 0) % 5 = f by omega]; exact hm, e⟩
    · rw [if_neg q]
      exact ⟨fun j hj => absurd hj (Nat.not_lt_zero _), fun e => absurd e (by
        intro e
        have g := nI_pos (n := i) (by omega)
        rw [show nI i = -5 from e] at g
        exact g (by decide))⟩
  | n + 1, i, f, v, hf, hi, hv => by
    unfold rdK
    by_cases q : ¬ v = -1 ∧ tx i = tab_END.getD f 0
    · rw [if_pos q]
      obtain ⟨h1, h2⟩ := rdK_ok (tx := tx) n (i + 1) ((f + 1) % 5) (-1) (Nat.mod_lt _ (by decide)) (by omega) (Or.inl rfl)
      refine ⟨fun j hj => ?_, fun e => ?_⟩
      · cases j with
        | zero =>
          obtain ⟨m, hm, e⟩ := hv.resolve_left q.1
          exact ⟨m, by rw [show (f + 0) % 5 = f by omega]; exact hm, e⟩
        | succ j =>
          obtain ⟨m, hm, e⟩ := h1 j (by have g : j + 1 < (rdK tx n (i + 1) ((f + 1) % 5) (-1)).2.length + 1 := hj; omega)
          exact ⟨m, by rw [show (f + (j + 1)) % 5 = ((f + 1) % 5 + j) % 5 by omega]; exact hm, e⟩
      · have g := h2 e
        show (f + ((rdK tx n (i + 1) ((f + 1) % 5) (-1)).2.length + 1)) % 5 = 0
        omega
    · rw [if_neg q]
      by_cases q2 : wdF v (tx i) f = -1
      · rw [if_pos q2]
        exact ⟨fun j hj => absurd hj (Nat.not_lt_zero _), fun e => absurd e (by
          intro e
          have g := nI_pos (n := i) (by omega)
          rw [show nI i = -5 from e] at g
          exact g (by decide))⟩
      · rw [if_neg q2]
        exact rdK_ok n (i + 1) f (wdF v (tx i) f) hf (by omega) (Or.inr (wdF_ok hf q2))
theorem rdF_ok {tx : Nat → Int32} {t : Nat} (ht : t ≤ 60) : (∀ q, q < (rdF tx t).2.length → ∃ m, m ≤ gN (q % 5) ∧ (rdF tx t).2.getD q 0 = nI m) ∧ ((rdF tx t).1 = -5 → (rdF tx t).2.length % 5 = 0) := by
  obtain ⟨h1, h2⟩ := rdK_ok (tx := tx) t 0 0 (-1) (by decide) (by omega) (Or.inl rfl)
  refine ⟨fun q hq => ?_, fun e => ?_⟩
  · have := h1 q hq
    rw [Nat.zero_add] at this
    exact this
  · have := h2 e
    rw [Nat.zero_add] at this
    exact this
theorem num_ok {tx : Nat → Int32} {t q : Nat} (ht : t ≤ 60) (hq : q < (rdF tx t).2.length) : num (rdF tx t).2 q ≤ gN (q % 5) ∧ (rdF tx t).2.getD q 0 = nI (num (rdF tx t).2 q) := by
  obtain ⟨m, hm, e⟩ := (rdF_ok ht).1 q hq
  have hg : gN (q % 5) ≤ 255 := (gN_tab (Nat.mod_lt _ (by decide))).2.2
  unfold num
  rw [e, nI_clamp (by omega)]
  exact ⟨hm, rfl⟩
theorem rdF_congr {tx ty : Nat → Int32} {t : Nat} (h : ∀ j, j < t → tx j = ty j) : rdF tx t = rdF ty t := by
  have key : ∀ n i f v, i + n ≤ t → rdK tx n i f v = rdK ty n i f v := by
    intro n
    induction n with
    | zero => intro i f v _; rfl
    | succ n ih =>
      intro i f v hi
      unfold rdK
      rw [h i (by omega), ih (i + 1) _ _ (by omega), ih (i + 1) _ _ (by omega)]
  exact key t 0 0 (-1) (by omega)
theorem putA_put {a r q : Nat → Int32} : putA (putA a r) q = putA a q := by
  funext j
  unfold putA
  by_cases e : j < 288
  · rw [if_pos e, if_pos e]
  · rw [if_neg e, if_neg e, if_neg e]
theorem paint_congr {r q : Nat → Int32} {l t w h : Nat} {b : Int32} (e : ∀ j, j < 288 → r j = q j) : ∀ j, j < 288 → paintK r l t w h b 288 j = paintK q l t w h b 288 j := fun j hj => by
  unfold paintK
  rw [e j hj]
theorem putA_at {a r : Nat → Int32} {j : Nat} (h : j < 288) : putA a r j = r j := if_pos h
theorem putA_self {a : Nat → Int32} : putA a a = a := by
  funext j
  unfold putA
  split <;> rfl
/-- one part more, painted on a whole row -/
theorem paint_row {a R A : Nat → Int32} {l t w h : Nat} {b : Int32} (e : A = putA a R) : paintK A l t w h b 288 = putA a (paintK R l t w h b 288) := by
  funext j
  rw [e]
  unfold paintK putA
  by_cases q : j < 288
  · rw [if_pos q, if_pos q]
  · rw [if_neg q, if_neg q, if_neg (fun z => q z.1)]
theorem part_0 {σ τ : St} {p t : Nat} {r : Int32} (h : partQ σ τ p t r) (hr : r = 0) : badQ σ τ p t := by
  rcases h with ⟨_, h⟩ | ⟨q, row, L, v, g, -⟩
  · exact h
  · rw [g] at hr
    exact absurd hr (by decide)
theorem part_1 {σ τ : St} {p t : Nat} {r : Int32} (h : partQ σ τ p t r) (hr : ¬ r = 0) : ∃ q row L v, prN σ τ p t 4 q row L v := by
  rcases h with ⟨g, _⟩ | ⟨q, row, L, v, _, h⟩
  · exact absurd g hr
  · exact ⟨q, row, L, v, h⟩
theorem st_st {σ : St} {row row2 : Nat → Int32} {q q2 : Nat} : us (ur (us (ur σ 22 0 row) 16 0 8 (nI q)) 22 0 row2) 16 0 8 (nI q2) = us (ur σ 22 0 row2) 16 0 8 (nI q2) := by
  apply St_ext
  intro k1 i1 j1
  simp only [us_ap, ur_ap]
  by_cases a : k1 = 16 ∧ i1 = 0 ∧ j1 = 8
  · rw [if_pos a, if_pos a]
  · rw [if_neg a, if_neg a, if_neg a]
    by_cases b : k1 = 22 ∧ i1 = 0
    · rw [if_pos b, if_pos b]
    · rw [if_neg b, if_neg b, if_neg b]
/-- behind a part: the next one, or the end -/
theorem flt_step {σ τ ρ : St} {t q q1 v1 : Nat} {row row1 : Nat → Int32} {L1 : List Int32} {c r : Int32} (hN : prN (us (ur σ 22 0 row) 16 0 8 (nI q)) τ q t 4 q1 row1 L1 v1) (hc : c = 59) (hk : takeQ τ ρ q1 t c r) (hrd : (rdF (σ 21 0) t).1 = (rdK (σ 21 0) (t - q) q 0 (-1)).1) : ∃ q2 r2, q2 ≤ t ∧ q < q2 ∧ ρ = us (ur σ 22 0 r2) 16 0 8 (nI q2) ∧
    ((¬ r = 0 ∧ (rdF (σ 21 0) t).1 = (rdK (σ 21 0) (t - q2) q2 0 (-1)).1) ∨ (r = 0 ∧ (rdF (σ 21 0) t).1 = if q2 = t then -5 else nI q2)) := by
  obtain ⟨h0, h1, h2, h3, h4, h5, h6, h7, h8⟩ := hN
  rw [st_21] at h7 h8
  have e21 : τ 21 0 = σ 21 0 := by rw [h0, st_21, st_21]
  rcases hk with ⟨g1, g2, g3, g4⟩ | ⟨g1, g2, g3⟩
  · rw [e21, hc] at g3
    refine ⟨q1 + 1, row1, by omega, by omega, by rw [g4, h0, us_us, st_st], Or.inl ⟨by rw [g1]; decide, ?_⟩⟩
    rw [hrd, h7, rd_sep (by omega) g2 g3]
  · rw [e21, hc] at g2
    refine ⟨q1, row1, h2, h1, by rw [g3, h0, st_st], Or.inr ⟨g1, ?_⟩⟩
    rw [hrd, h7, rd_last (by omega) h2 g2 h8]
    split <;> rfl
theorem minN_ge {k a b : Nat} (h : a ≤ k ∨ b ≤ k) : minN a b ≤ k := by
  unfold minN
  split <;> omega
