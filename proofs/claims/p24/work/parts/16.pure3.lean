/-! PURE: what would be depends on few numbers; texts; the answers -/
/-- the same picture, dead zones and settings, but for the rule and the step -/
def eqD (a b : Nat → Int32) : Prop := (∀ j, j < 288 → a j = b j) ∧ (∀ k, k < 18 → a (306 + k) = b (306 + k)) ∧ a 324 = b 324 ∧ a 325 = b 325 ∧ a 326 = b 326 ∧ a 328 = b 328 ∧ a 329 = b 329 ∧ a 330 = b 330
theorem cg_peakK {a b : Nat → Int32} (h : eqD a b) {z : Nat} (hz : z < 18) : ∀ k, k ≤ 16 → peakK a z k = peakK b z k
  | 0, _ => rfl
  | k + 1, hk => by rw [peakK, peakK, cg_peakK h hz k (by omega), h.1 _ (spotN_lt hz (by omega))]
theorem cg_peak {a b : Nat → Int32} (h : eqD a b) {z : Nat} (hz : z < 18) : peakF a z = peakF b z := cg_peakK h hz 16 (Nat.le_refl _)
theorem cg_sumK {a b : Nat → Int32} (h : eqD a b) {z : Nat} (hz : z < 18) : ∀ k, k ≤ 16 → sumK a z k = sumK b z k
  | 0, _ => rfl
  | k + 1, hk => by rw [sumK, sumK, cg_sumK h hz k (by omega), h.1 _ (spotN_lt hz (by omega))]
theorem cg_mean {a b : Nat → Int32} (h : eqD a b) {z : Nat} (hz : z < 18) : meanF a z = meanF b z := by rw [meanF, meanF, cg_sumK h hz 16 (Nat.le_refl _)]
theorem cg_blackK {a b : Nat → Int32} (h : eqD a b) {z : Nat} (hz : z < 18) : ∀ k, k ≤ 16 → blackK a z k = blackK b z k
  | 0, _ => rfl
  | k + 1, hk => by rw [blackK, blackK, cg_blackK h hz k (by omega), h.1 _ (spotN_lt hz (by omega))]
theorem cg_black {a b : Nat → Int32} (h : eqD a b) {z : Nat} (hz : z < 18) : blackF a z = blackF b z := cg_blackK h hz 16 (Nat.le_refl _)
theorem cg_share {a b : Nat → Int32} (h : eqD a b) {k : Nat} (hk : k < 3) : a (324 + k) = b (324 + k) := by
  rcases (show k = 0 ∨ k = 1 ∨ k = 2 by omega) with rfl | rfl | rfl
  · exact h.2.2.1
  · exact h.2.2.2.1
  · exact h.2.2.2.2.1
theorem cg_glow {a b w v : Nat → Int32} (h : eqD a b) (hw : ∀ k, k < 18 → w k = v k) {z : Nat} : ∀ k, k ≤ 18 → glowK a w z k = glowK b v z k
  | 0, _ => rfl
  | k + 1, hk => by
    unfold glowK
    by_cases q : apartN z k < 3
    · rw [if_pos q, if_pos q, cg_glow h hw k (by omega), hw k (by omega), cg_share h q]
    · rw [if_neg q, if_neg q, cg_glow h hw k (by omega)]
theorem cg_light {a b w v : Nat → Int32} (h : eqD a b) (hw : ∀ k, k < 18 → w k = v k) {z : Nat} : lightF a w z = lightF b v z := by rw [lightF, lightF, cg_glow h hw 18 (Nat.le_refl _)]
theorem cg_leak {a b : Nat → Int32} (h : eqD a b) (x : Int32) : leakF a x = leakF b x := by rw [leakF, leakF, h.2.2.2.2.2.2.1]
theorem cg_shownF {a b : Nat → Int32} (h : eqD a b) (x y : Int32) : shownF a x y = shownF b x y := by rw [shownF, shownF, cg_leak h]
theorem cg_shown {a b w v : Nat → Int32} (h : eqD a b) (hw : ∀ k, k < 18 → w k = v k) {z k : Nat} (hz : z < 18) (hk : k < 16) : shownAt a w z k = shownAt b v z k := by
  rw [shownAt, shownAt, cg_light h hw, cg_shownF h, h.1 _ (spotN_lt hz hk)]
theorem cg_tZ {a b w v : Nat → Int32} (h : eqD a b) (hw : ∀ k, k < 18 → w k = v k) {z : Nat} (hz : z < 18) (r : Nat → Int32) : ∀ k, k ≤ 16 → tZ a w z r k = tZ b v z r k
  | 0, _ => rfl
  | k + 1, hk => by rw [tZ, tZ, cg_tZ h hw hz r k (by omega), cg_shown h hw hz (by omega), h.1 _ (spotN_lt hz (by omega))]
theorem cg_tAll {a b w v : Nat → Int32} (h : eqD a b) (hw : ∀ k, k < 18 → w k = v k) : ∀ z, z ≤ 18 → tAll a w z = tAll b v z
  | 0, _ => rfl
  | z + 1, hz => by rw [tAll, tAll, cg_tAll h hw z (by omega), cg_tZ h hw (by omega) _ 16 (Nat.le_refl _)]
theorem cg_lev0 {a b : Nat → Int32} (h : eqD a b) {z : Nat} (hz : z < 18) (r : Int32) : lev0 a r z = lev0 b r z := by
  unfold lev0 ruleV aimV
  rw [h.2.1 z hz, h.2.2.1, cg_peak h hz, cg_mean h hz]
theorem cg_helpB {a b : Nat → Int32} (h : eqD a b) {z o : Nat} (ho : o < 18) : helpB a z o = helpB b z o := by rw [helpB, helpB, h.2.1 o ho]
theorem cg_helpK {a b : Nat → Int32} (h : eqD a b) {z : Nat} : ∀ k, k ≤ 18 → helpK a z k = helpK b z k
  | 0, _ => rfl
  | k + 1, hk => by rw [helpK, helpK, cg_helpK h k (by omega), cg_helpB h (by omega)]
theorem cg_raiseN {a b w : Nat → Int32} (h : eqD a b) {z : Nat} {x : Int32} : ∀ k, k ≤ 18 → raiseNK a z x w k = raiseNK b z x w k
  | 0, _ => rfl
  | k + 1, hk => by rw [raiseNK, raiseNK, cg_raiseN h k (by omega), cg_helpB h (by omega)]
theorem cg_zone {a b w : Nat → Int32} (h : eqD a b) {z : Nat} (hz : z < 18) : zoneStep a w z = zoneStep b w z := by
  unfold zoneStep lackV
  rw [h.2.1 z hz, cg_peak h hz, cg_light h (fun _ _ => rfl), h.2.2.1, h.2.2.2.1, cg_helpK h 18 (Nat.le_refl _), cg_raiseN h 18 (Nat.le_refl _)]
theorem cg_round {a b w : Nat → Int32} (h : eqD a b) : ∀ z, z ≤ 18 → roundK a w z = roundK b w z
  | 0, _ => rfl
  | z + 1, hz => by rw [roundK, roundK, cg_round h z (by omega), cg_zone h (by omega)]
theorem cg_rounds {a b w : Nat → Int32} (h : eqD a b) : ∀ k, roundsK a w k = roundsK b w k
  | 0 => rfl
  | k + 1 => by rw [roundsK, roundsK, cg_rounds h k, cg_round h 18 (Nat.le_refl _)]
theorem cg_lowK {a b : Nat → Int32} (h : eqD a b) : ∀ n g, lowK a n g = lowK b n g
  | 0, _ => rfl
  | n + 1, g => by rw [lowK, lowK, cg_leak h, h.2.2.2.2.2.2.2, h.2.2.1, cg_lowK h n]
theorem cg_lower {a b w : Nat → Int32} (h : eqD a b) {z : Nat} (hz : z < 18) : lowerV a w z = lowerV b w z := by
  unfold lowerV
  rw [cg_black h hz, cg_lowK h, cg_glow h (fun _ _ => rfl) 18 (Nat.le_refl _)]
theorem cg_lowers {a b w : Nat → Int32} (h : eqD a b) : ∀ z, z ≤ 18 → lowersK a w z = lowersK b w z
  | 0, _ => rfl
  | z + 1, hz => by rw [lowersK, lowersK, cg_lowers h z (by omega), cg_lower h (by omega)]
theorem cg_want {a b : Nat → Int32} (h : eqD a b) (r : Int32) : wantF a r = wantF b r := by
  unfold wantF
  have e : (fun z => if z < 18 then lev0 a r z else 0) = fun z => if z < 18 then lev0 b r z else 0 := by
    funext z
    by_cases q : z < 18
    · rw [if_pos q, if_pos q, cg_lev0 h q]
    · rw [if_neg q, if_neg q]
  rw [e, h.2.2.2.2.2.1, cg_rounds h, cg_lowers h 18 (Nat.le_refl _)]
theorem eqD_rule {a : Nat → Int32} {x : Int32} : eqD a (upd a 327 x) := ⟨fun j h => (pk_un (by omega)).symm, fun k h => (pk_un (by omega)).symm, (pk_un (by decide)).symm, (pk_un (by decide)).symm, (pk_un (by decide)).symm, (pk_un (by decide)).symm, (pk_un (by decide)).symm, (pk_un (by decide)).symm⟩
theorem eqD.symm {a b : Nat → Int32} (h : eqD a b) : eqD b a := ⟨fun j q => (h.1 j q).symm, fun k q => (h.2.1 k q).symm, h.2.2.1.symm, h.2.2.2.1.symm, h.2.2.2.2.1.symm, h.2.2.2.2.2.1.symm, h.2.2.2.2.2.2.1.symm, h.2.2.2.2.2.2.2.symm⟩
theorem okW_rule {a : Nat → Int32} {n : Nat} (h : okW a) (hn : n ≤ 2) : okW (upd a 327 (nI n)) := by
  obtain ⟨h1, h2, h3, h4, h5, h6, h7, h8, h9, h10⟩ := h
  refine ⟨fun j q => by rw [pk_un (by omega)]; exact h1 j q, fun k q => by rw [pk_un (by omega)]; exact h2 k q, by rw [pk_un (by decide)]; exact h3, by rw [pk_un (by decide)]; exact h4, by rw [pk_un (by decide)]; exact h5, ⟨n, hn, pk_us⟩, by rw [pk_un (by decide)]; exact h7, by rw [pk_un (by decide)]; exact h8, by rw [pk_un (by decide)]; exact h9, by rw [pk_un (by decide)]; exact h10⟩
theorem okW_die {a : Nat → Int32} {z : Nat} (h : okW a) (hz : z < 18) : okW (upd a (306 + z) 1) := by
  obtain ⟨h1, h2, h3, h4, h5, h6, h7, h8, h9, h10⟩ := h
  refine ⟨fun j q => by rw [pk_un (by omega)]; exact h1 j q, fun k q => ?_, by rw [pk_un (by omega)]; exact h3, by rw [pk_un (by omega)]; exact h4, by rw [pk_un (by omega)]; exact h5, by rw [pk_un (by omega)]; exact h6, by rw [pk_un (by omega)]; exact h7, by rw [pk_un (by omega)]; exact h8, by rw [pk_un (by omega)]; exact h9, by rw [pk_un (by omega)]; exact h10⟩
  by_cases e : k = z
  · subst e
    exact Or.inr pk_us
  · rw [pk_un (by omega)]
    exact h2 k q
/-- one digit more: -1 where it isn't allowed -/
def wdF (n c : Int32) (f : Nat) : Int32 := if ¬ c < 48 ∧ ¬ 57 < c ∧ ¬ n = 0 then
    (if (if n = -1 then c - 48 else 10 * n + (c - 48)) < tab_LEAST.getD f 0 ∨ tab_GREATEST.getD f 0 < (if n = -1 then c - 48 else 10 * n + (c - 48)) then -1 else (if n = -1 then c - 48 else 10 * n + (c - 48))) else -1
/-- a text read from its index i on, in the field f, with the number v: the fault, and the numbers -/
def rdK (tx : Nat → Int32) : Nat → Nat → Nat → Int32 → Int32 × List Int32
  | 0, i, f, v => if f = 4 ∧ ¬ v = -1 then (-5, [v]) else (nI i, [])
  | n + 1, i, f, v => if ¬ v = -1 ∧ tx i = tab_END.getD f 0 then ((rdK tx n (i + 1) ((f + 1) % 5) (-1)).1, v :: (rdK tx n (i + 1) ((f + 1) % 5) (-1)).2)
    else if wdF v (tx i) f = -1 then (nI i, []) else rdK tx n (i + 1) f (wdF v (tx i) f)
def rdF (tx : Nat → Int32) (t : Nat) : Int32 × List Int32 := rdK tx t 0 0 (-1)
/-- a text that has been read by the class -/
def readP (σ τ : St) (t : Nat) (r : Int32) : Prop := ∃ (row : Nat → Int32) (cnt : Nat), τ = us (ur σ 10 0 row) 8 0 3 (nI cnt) ∧ r = (rdF (σ 9 0) t).1 ∧ cnt ≤ 30 ∧ (r = -5 → cnt = (rdF (σ 9 0) t).2.length ∧ ∀ q, q < cnt → row q = (rdF (σ 9 0) t).2.getD q 0)
/-- the loop's state: the rest of the text, and what has been read -/
def rdI (tx : Nat → Int32) (t i f : Nat) (v : Int32) (row : Nat → Int32) (cnt : Nat) (P : List Int32) : Prop := rdF tx t = ((rdK tx (t - i) i f v).1, P ++ (rdK tx (t - i) i f v).2) ∧ P.length = cnt ∧ (∀ q, q < cnt → row q = P.getD q 0) ∧ 2 * cnt ≤ i ∧ (¬ v = -1 → 2 * cnt + 1 ≤ i)
theorem rdI_0 (tx : Nat → Int32) (t : Nat) (row : Nat → Int32) : rdI tx t 0 0 (-1) row 0 [] := ⟨rfl, rfl, fun q h => absurd h (Nat.not_lt_zero _), by omega, fun h => absurd rfl h⟩
theorem rdI_sep {tx : Nat → Int32} {t i f : Nat} {v : Int32} {row : Nat → Int32} {cnt : Nat} {P : List Int32} (h : rdI tx t i f v row cnt P) (hi : i < t) (hv : ¬ v = -1) (hc : tx i = tab_END.getD f 0) : rdI tx t (i + 1) ((f + 1) % 5) (-1) (upd row cnt v) (cnt + 1) (P ++ [v]) := by
  obtain ⟨h1, h2, h3, h4, h5⟩ := h
  have e : t - i = (t - (i + 1)) + 1 := by omega
  refine ⟨?_, by rw [List.length_append, h2]; rfl, fun q hq => ?_, by have := h5 hv; omega, fun q => absurd rfl q⟩
  · rw [h1, e, rdK, if_pos ⟨hv, hc⟩, List.append_assoc]
    rfl
  · by_cases e2 : q = cnt
    · subst e2
      rw [pk_us, List.getD_eq_getElem?_getD, List.getElem?_append_right (by omega), h2, Nat.sub_self]
      rfl
    · rw [pk_un e2, h3 q (by omega), List.getD_eq_getElem?_getD, List.getD_eq_getElem?_getD, List.getElem?_append_left (by omega)]
theorem rdI_dig {tx : Nat → Int32} {t i f : Nat} {v : Int32} {row : Nat → Int32} {cnt : Nat} {P : List Int32} (h : rdI tx t i f v row cnt P) (hi : i < t) (hs : ¬ (¬ v = -1 ∧ tx i = tab_END.getD f 0)) (hw : ¬ wdF v (tx i) f = -1) : rdI tx t (i + 1) f (wdF v (tx i) f) row cnt P := by
  obtain ⟨h1, h2, h3, h4, h5⟩ := h
  have e : t - i = (t - (i + 1)) + 1 := by omega
  refine ⟨?_, h2, h3, by omega, fun _ => by omega⟩
  rw [h1, e, rdK, if_neg hs, if_neg hw]
theorem rdI_bad {tx : Nat → Int32} {t i f : Nat} {v : Int32} {row : Nat → Int32} {cnt : Nat} {P : List Int32} (h : rdI tx t i f v row cnt P) (hi : i < t) (hs : ¬ (¬ v = -1 ∧ tx i = tab_END.getD f 0)) (hw : wdF v (tx i) f = -1) : (rdF tx t).1 = nI i := by
  have e : t - i = (t - (i + 1)) + 1 := by omega
  rw [h.1, e, rdK, if_neg hs, if_pos hw]
theorem rdI_end {tx : Nat → Int32} {t f : Nat} {v : Int32} {row : Nat → Int32} {cnt : Nat} {P : List Int32} (h : rdI tx t t f v row cnt P) (hs : ¬ (f = 4 ∧ ¬ v = -1)) : (rdF tx t).1 = nI t := by
  rw [h.1, Nat.sub_self, rdK, if_neg hs]
theorem rdI_ok {tx : Nat → Int32} {t f : Nat} {v : Int32} {row : Nat → Int32} {cnt : Nat} {P : List Int32} (h : rdI tx t t f v row cnt P) (hs : f = 4 ∧ ¬ v = -1) : rdF tx t = (-5, P ++ [v]) := by
  rw [h.1, Nat.sub_self, rdK, if_pos hs]
theorem rd_ne {i : Nat} (h : i < 100) : ¬ nI i = -5 := fun q => by
  have := nI_pos (n := i) (by omega)
  rw [q] at this
  exact this (by decide)
theorem rd_step {σ : St} {row : Nat → Int32} {cnt : Nat} {v : Int32} : us (us (us (ur σ 10 0 row) 8 0 3 (nI cnt)) 10 0 cnt v) 8 0 3 (nI (cnt + 1)) = us (ur σ 10 0 (upd row cnt v)) 8 0 3 (nI (cnt + 1)) := by
  have e1 : us (us (ur σ 10 0 row) 8 0 3 (nI cnt)) 10 0 cnt v = us (ur σ 10 0 (upd row cnt v)) 8 0 3 (nI cnt) := by
    rw [us, us_k (by decide), ur_same, us, us, ur_k (by decide), ur_k (by decide), ur_swap (by decide), ur_ur]
  rw [e1, us_us]
theorem readP_bad {σ : St} {t i : Nat} {row : Nat → Int32} {cnt : Nat} (hc : cnt ≤ 30) (hi : i < 100) (h : (rdF (σ 9 0) t).1 = nI i) : readP σ (us (ur σ 10 0 row) 8 0 3 (nI cnt)) t (nI i) := ⟨row, cnt, rfl, h.symm, hc, fun q => absurd q (rd_ne hi)⟩
theorem readP_ok {σ : St} {t f : Nat} {v : Int32} {row : Nat → Int32} {cnt : Nat} {P : List Int32} (hc : cnt < 30) (h : rdI (σ 9 0) t t f v row cnt P) (hs : f = 4 ∧ ¬ v = -1) : readP σ (us (ur σ 10 0 (upd row cnt v)) 8 0 3 (nI (cnt + 1))) t (-5) := by
  have e := rdI_ok h hs
  have hlen : (P ++ [v]).length = cnt + 1 := by rw [List.length_append, h.2.1]; rfl
  refine ⟨_, _, rfl, by rw [e], by omega, fun _ => ⟨by rw [e, hlen], fun q hq => ?_⟩⟩
  rw [e]
  by_cases e2 : q = cnt
  · subst e2
    rw [pk_us, List.getD_eq_getElem?_getD, List.getElem?_append_right (by have := h.2.1; omega), h.2.1, Nat.sub_self]
    rfl
  · rw [pk_un e2, h.2.2.1 q (by omega), List.getD_eq_getElem?_getD, List.getD_eq_getElem?_getD, List.getElem?_append_left (by have := h.2.1; omega)]
