/-! PURE: what the reference computes, beside what the class computes -/
theorem cmp_lt {x y : Int32} : lg_cmp x.toInt64 y.toInt64 < 0 ↔ x < y := by
  have e : x.toInt64 < y.toInt64 ↔ x < y := by rw [Int64.lt_iff_toInt_lt, Int32.toInt_toInt64, Int32.toInt_toInt64, Int32.lt_iff_toInt_lt]
  have e2 : y.toInt64 < x.toInt64 ↔ y < x := by rw [Int64.lt_iff_toInt_lt, Int32.toInt_toInt64, Int32.toInt_toInt64, Int32.lt_iff_toInt_lt]
  have e3 : x.toInt64 = y.toInt64 ↔ x = y := by rw [← Int64.toInt_inj, Int32.toInt_toInt64, Int32.toInt_toInt64, Int32.toInt_inj]
  unfold lg_cmp
  by_cases h : y < x
  · rw [if_pos (e2.mpr h)]
    exact ⟨fun q => absurd q (by decide), fun q => absurd (Int32.lt_trans q h) (Int32.lt_irrefl)⟩
  · rw [if_neg (fun q => h (e2.mp q))]
    by_cases h3 : x = y
    · rw [if_pos (e3.mpr h3), h3]
      exact ⟨fun q => absurd q (by decide), fun q => absurd q (Int32.lt_irrefl)⟩
    · rw [if_neg (fun q => h3 (e3.mp q))]
      refine ⟨fun _ => ?_, fun _ => by decide⟩
      rcases Int32.le_iff_lt_or_eq.mp (Int32.not_lt.mp h) with q | q
      · exact q
      · exact absurd q h3
theorem cmp_gt {x y : Int32} : 0 < lg_cmp x.toInt64 y.toInt64 ↔ y < x := by
  have e2 : y.toInt64 < x.toInt64 ↔ y < x := by rw [Int64.lt_iff_toInt_lt, Int32.toInt_toInt64, Int32.toInt_toInt64, Int32.lt_iff_toInt_lt]
  unfold lg_cmp
  by_cases h : y < x
  · rw [if_pos (e2.mpr h)]
    exact ⟨fun _ => h, fun _ => by decide⟩
  · rw [if_neg (fun q => h (e2.mp q))]
    refine ⟨fun q => ?_, fun q => absurd q h⟩
    split at q
    · exact absurd q (by decide)
    · exact absurd q (by decide)
/-- between two numbers -/
def btw (v lo hi : Int32) : Prop := ¬ v < lo ∧ ¬ hi < v
theorem btw_in {x : Int32} {n : Nat} (hn : n + 1 < 2 ^ 31) : btw x (nI 0) (nI n) ↔ inN x (n + 1) := by
  rw [inN_iff hn]
  refine ⟨fun h => ⟨h.1, fun q => h.2 ?_⟩, fun h => ⟨h.1, fun q => h.2 ?_⟩⟩
  · have e1 := Int32.le_iff_toInt_le.mp q
    rw [nI_toInt hn] at e1
    rw [Int32.lt_iff_toInt_lt, nI_toInt (by omega)]
    omega
  · have e1 := Int32.lt_iff_toInt_lt.mp q
    rw [nI_toInt (by omega)] at e1
    rw [Int32.le_iff_toInt_le, nI_toInt hn]
    omega
theorem maxN_of_le {a b : Nat} (h : a ≤ b) : maxN a b = b := by
  unfold maxN
  split <;> omega
theorem maxN_of_lt {a b : Nat} (h : b < a) : maxN a b = a := by
  unfold maxN
  split <;> omega
theorem imin_lt {x y : Int32} (h : ¬ y ≤ x) : x = imin x y := (if_neg (fun q => h (Int32.le_of_lt q))).symm
theorem imin_ge {x y : Int32} (h : y ≤ x) : y = imin x y := by
  unfold imin
  split
  · rfl
  · rename_i q
    exact Int32.le_antisymm h (Int32.not_lt.mp q)
theorem iabs_neg {x : Int32} (h : ¬ 0 ≤ x) : -x = iabs x := by
  unfold iabs
  rw [if_neg h, Int32.zero_sub]
theorem iabs_pos {x : Int32} (h : 0 ≤ x) : x = iabs x := (if_pos h).symm
/-- the greater: 'x > y ? x : y' -/
theorem imax_le {x y : Int32} (h : x ≤ y) : y = imax x y := by
  unfold imax
  split
  · rfl
  · rename_i q
    exact Int32.le_antisymm (Int32.not_lt.mp q) h
theorem imax_gt {x y : Int32} (h : ¬ x ≤ y) : x = imax x y := (if_neg (fun q => h (Int32.le_of_lt q))).symm
/-- 'y > x ? y : x', as the reference takes it -/
theorem imax_le2 {x y : Int32} (h : y ≤ x) : x = imax x y := (if_neg (Int32.not_lt.mpr h)).symm
theorem imax_gt2 {x y : Int32} (h : ¬ y ≤ x) : y = imax x y := (if_pos (Int32.not_le.mp h)).symm
theorem glassF_0 {x : Int32} : glassF x 0 = 0 := by
  unfold glassF rupF
  rw [if_neg (by decide)]
  decide
theorem glassF_p {x y : Int32} (h : 0 ≤ y) (h0 : ¬ y = 0) : glassF x y = imin 255 ((x * 255 + y - 1) / y) := by
  unfold glassF rupF
  rw [if_pos]
  rcases Int32.le_iff_lt_or_eq.mp h with q | q
  · exact q
  · exact absurd q.symm h0
theorem raiseV_0 {n : Nat} (h : n < 256) : raiseV (nI n) 0 = nI n := by
  unfold raiseV
  rw [Int32.add_zero, imin_255n (by omega)]
  congr 1
  unfold minN
  split <;> omega
theorem upd_self {w : Nat → Int32} {k : Nat} {v : Int32} (h : w k = v) : upd w k v = w := by
  funext j
  by_cases q : j = k
  · subst q
    rw [pk_us, h]
  · exact pk_un q
theorem raise_id {w : Nat → Int32} {k : Nat} (h : lowW w) : upd w k (raiseV (w k) 0) = w := by
  obtain ⟨n, hn, e⟩ := h k
  exact upd_self (by rw [e, raiseV_0 hn])
theorem raiseNK_0 {a w : Nat → Int32} {z : Nat} (h : lowW w) : ∀ k, raiseNK a z 0 w k = w
  | 0 => rfl
  | k + 1 => by
    rw [raiseNK, raiseNK_0 h k]
    split
    · exact raise_id h
    · rfl
theorem rup_0 {y : Int32} (h : ¬ 0 < y) (x : Int32) : rupF x y = 0 := if_neg h
theorem rup_00 {n : Nat} (h : n < 2 ^ 20) : rupF 0 (nI n) = 0 := by
  rw [show (0 : Int32) = nI 0 from rfl, rup_nI (by decide) (by omega)]
  congr 1
  by_cases q : 0 < n
  · rw [if_pos q]
    exact Nat.div_eq_of_lt (by omega)
  · rw [if_neg q]
theorem lack_0 {a w : Nat → Int32} {z : Nat} (h : peakF a z - lightF a w z ≤ 0) : lackV a w z = 0 := (imax_le2 h).symm
theorem lack_p {a w : Nat → Int32} {z : Nat} (h : ¬ peakF a z - lightF a w z ≤ 0) : lackV a w z = peakF a z - lightF a w z := (imax_gt2 h).symm
theorem zone_0 {a w : Nat → Int32} {z : Nat} (hok : okW a) (hw : lowW w) (h : lackV a w z = 0) : zoneStep a w z = w := by
  obtain ⟨o, h1, h2, eo⟩ := hok.2.2.1
  obtain ⟨s, hs, es⟩ := okW_near hok (z := z)
  unfold zoneStep
  rw [h, show (0 : Int32) * 256 = 0 from by decide, eo, es, rup_00 (by omega), rup_00 (by omega)]
  split
  · exact raise_id hw
  · exact raiseNK_0 hw 18
/-- one level's part of the light -/
theorem glow_put {a w : Nat → Int32} {z : Nat} {v : Int32} : ∀ k, glowK a (upd w z v) z k = glowK a (upd w z 0) z k + (if z < k then v * a 324 else 0)
  | 0 => by
    rw [if_neg (Nat.not_lt_zero _)]
    rfl
  | k + 1 => by
    unfold glowK
    rw [glow_put k]
    by_cases e : k = z
    · subst e
      have h3 : apartN k k < 3 := by rw [apartN_self]; decide
      rw [if_pos h3, if_pos h3, apartN_self, show 324 + 0 = 324 from rfl, pk_us, pk_us, if_neg (Nat.lt_irrefl _), if_pos (Nat.lt_succ_self _), Int32.zero_mul, Int32.add_zero]
    · rw [pk_un e, pk_un e]
      by_cases q : apartN z k < 3
      · rw [if_pos q, if_pos q]
        by_cases q2 : z < k
        · rw [if_pos q2, if_pos (by omega), Int32.add_assoc, Int32.add_assoc, Int32.add_comm (v * a 324)]
        · rw [if_neg q2, if_neg (by omega), Int32.add_zero, Int32.add_zero]
      · rw [if_neg q, if_neg q]
        by_cases q2 : z < k
        · rw [if_pos q2, if_pos (by omega)]
        · rw [if_neg q2, if_neg (by omega)]
theorem glow_dec {a w : Nat → Int32} {z j : Nat} (hz : z < 18) : glowK a (upd w z (nI j)) z 18 = glowK a (upd w z (nI (j + 1))) z 18 - a 324 := by
  rw [glow_put (v := nI j) 18, glow_put (v := nI (j + 1)) 18, if_pos hz, if_pos hz, ← nI_1, Int32.add_mul, Int32.one_mul, ← Int32.add_assoc, Int32.add_sub_cancel]
/-- what the reference adds up -/
def stepV (v told s sh : Int32) : Int32 := if v = 4 then imax told (iabs (sh - s)) else told + (if v = 3 then iabs (sh - s) else if v = 5 then sh else if verdF s sh = v then 1 else 0)
def fS (a lev : Nat → Int32) (v : Int32) : Int32 → Nat → Nat → Int32 := fun acc z w => stepV v acc (a (spotN z w)) (shownAt a lev z w)
theorem tAdd_step (r : Nat → Int32) (s sh : Int32) : tAdd r s sh 0 = stepV 1 (r 0) s sh ∧ tAdd r s sh 1 = stepV 2 (r 1) s sh ∧ tAdd r s sh 2 = stepV 3 (r 2) s sh ∧ tAdd r s sh 3 = stepV 4 (r 3) s sh ∧ tAdd r s sh 4 = stepV 5 (r 4) s sh := by
  refine ⟨?_, ?_, ?_, ?_, ?_⟩
  · show (if verdF s sh = 1 then r 0 + 1 else r 0) = r 0 + (if verdF s sh = 1 then 1 else 0)
    split
    · rfl
    · exact (Int32.add_zero _).symm
  · show (if verdF s sh = 2 then r 1 + 1 else r 1) = r 1 + (if verdF s sh = 2 then 1 else 0)
    split
    · rfl
    · exact (Int32.add_zero _).symm
  · rfl
  · rfl
  · rfl
theorem tZ_fS {a lev : Nat → Int32} {z : Nat} {r : Nat → Int32} : ∀ k, tZ a lev z r k 0 = accK (fS a lev 1) z (r 0) k ∧ tZ a lev z r k 1 = accK (fS a lev 2) z (r 1) k ∧ tZ a lev z r k 2 = accK (fS a lev 3) z (r 2) k ∧ tZ a lev z r k 3 = accK (fS a lev 4) z (r 3) k ∧ tZ a lev z r k 4 = accK (fS a lev 5) z (r 4) k
  | 0 => ⟨rfl, rfl, rfl, rfl, rfl⟩
  | k + 1 => by
    obtain ⟨h0, h1, h2, h3, h4⟩ := tZ_fS (a := a) (lev := lev) (z := z) (r := r) k
    obtain ⟨g0, g1, g2, g3, g4⟩ := tAdd_step (tZ a lev z r k) (a (spotN z k)) (shownAt a lev z k)
    refine ⟨g0.trans ?_, g1.trans ?_, g2.trans ?_, g3.trans ?_, g4.trans ?_⟩
    · rw [h0]; rfl
    · rw [h1]; rfl
    · rw [h2]; rfl
    · rw [h3]; rfl
    · rw [h4]; rfl
theorem tAll_fS {a lev : Nat → Int32} : ∀ z, tAll a lev z 0 = accZ (fS a lev 1) 0 z ∧ tAll a lev z 1 = accZ (fS a lev 2) 0 z ∧ tAll a lev z 2 = accZ (fS a lev 3) 0 z ∧ tAll a lev z 3 = accZ (fS a lev 4) 0 z ∧ tAll a lev z 4 = accZ (fS a lev 5) 0 z
  | 0 => ⟨rfl, rfl, rfl, rfl, rfl⟩
  | z + 1 => by
    obtain ⟨h0, h1, h2, h3, h4⟩ := tAll_fS (a := a) (lev := lev) z
    obtain ⟨g0, g1, g2, g3, g4⟩ := tZ_fS (a := a) (lev := lev) (z := z) (r := tAll a lev z) 16
    refine ⟨g0.trans ?_, g1.trans ?_, g2.trans ?_, g3.trans ?_, g4.trans ?_⟩
    · rw [h0]; rfl
    · rw [h1]; rfl
    · rw [h2]; rfl
    · rw [h3]; rfl
    · rw [h4]; rfl
theorem verd_3 (s sh : Int32) : verdF s sh = 0 ∨ verdF s sh = 1 ∨ verdF s sh = 2 := by
  unfold verdF
  split
  · exact Or.inl rfl
  · split
    · exact Or.inr (Or.inl rfl)
    · exact Or.inr (Or.inr rfl)
theorem step_012 (t0 t1 t2 s sh : Int32) : stepV 0 t0 s sh + stepV 1 t1 s sh + stepV 2 t2 s sh = t0 + t1 + t2 + 1 := by
  have e : ∀ v t, v = 0 ∨ v = 1 ∨ v = 2 → stepV v t s sh = t + (if verdF s sh = v then 1 else 0) := by
    rintro v t (rfl | rfl | rfl) <;> rfl
  rw [e 0 t0 (Or.inl rfl), e 1 t1 (Or.inr (Or.inl rfl)), e 2 t2 (Or.inr (Or.inr rfl))]
  rcases verd_3 s sh with q | q | q <;> rw [q]
  · rw [if_pos rfl, if_neg (by decide), if_neg (by decide), Int32.add_zero, Int32.add_zero, Int32.add_assoc t0, Int32.add_comm 1 t1, ← Int32.add_assoc, Int32.add_assoc (t0 + t1), Int32.add_comm 1 t2, ← Int32.add_assoc]
  · rw [if_neg (by decide), if_pos rfl, if_neg (by decide), Int32.add_zero, Int32.add_zero, ← Int32.add_assoc, Int32.add_assoc (t0 + t1), Int32.add_comm 1 t2, ← Int32.add_assoc]
  · rw [if_neg (by decide), if_neg (by decide), if_pos rfl, Int32.add_zero, Int32.add_zero, ← Int32.add_assoc]
theorem accK_012 {a lev : Nat → Int32} {z : Nat} {t0 t1 t2 : Int32} : ∀ k, accK (fS a lev 0) z t0 k + accK (fS a lev 1) z t1 k + accK (fS a lev 2) z t2 k = t0 + t1 + t2 + nI k
  | 0 => (Int32.add_zero _).symm
  | k + 1 => by
    show stepV 0 (accK (fS a lev 0) z t0 k) _ _ + stepV 1 (accK (fS a lev 1) z t1 k) _ _ + stepV 2 (accK (fS a lev 2) z t2 k) _ _ = _
    rw [step_012, accK_012 k, Int32.add_assoc, nI_1]
theorem accZ_012 {a lev : Nat → Int32} : ∀ z, accZ (fS a lev 0) 0 z + accZ (fS a lev 1) 0 z + accZ (fS a lev 2) 0 z = nI (16 * z)
  | 0 => rfl
  | z + 1 => by
    show accK (fS a lev 0) z (accZ (fS a lev 0) 0 z) 16 + accK (fS a lev 1) z (accZ (fS a lev 1) 0 z) 16 + accK (fS a lev 2) z (accZ (fS a lev 2) 0 z) 16 = _
    rw [accK_012, accZ_012 z, nI_add]
    exact congrArg nI (by omega)
theorem acc_asked {a lev : Nat → Int32} : accZ (fS a lev 0) 0 18 = nI 288 - tAll a lev 18 0 - tAll a lev 18 1 := by
  have h := accZ_012 (a := a) (lev := lev) 18
  rw [(tAll_fS 18).1, (tAll_fS 18).2.1]
  refine Int32.eq_sub_iff_add_eq.mpr (Int32.eq_sub_iff_add_eq.mpr ?_)
  rw [Int32.add_assoc, Int32.add_comm (accZ (fS a lev 2) 0 18), ← Int32.add_assoc]
  exact h
/-- the reference's history with one more -/
def shiftH (h : Nat → Int32) (k : Nat) : Nat → Int32 := fun j => if j < k then h (j + 335) else h j
def layH (h a : Nat → Int32) (n k : Nat) : Nat → Int32 := fun j => if 335 * n ≤ j ∧ j < 335 * n + k then a (j - 335 * n) else h j
def pushH (h a : Nat → Int32) (n : Nat) : Nat → Int32 := if n = 4 then layH (shiftH h 1005) a 3 335 else layH h a n 335
def sizeH (n : Nat) : Nat := if n = 4 then 4 else n + 1
theorem shiftH_0 {h : Nat → Int32} : shiftH h 0 = h := by
  funext j
  exact if_neg (Nat.not_lt_zero _)
theorem shiftH_put {h : Nat → Int32} {k : Nat} {v : Int32} (hv : v = shiftH h k (k + 335)) : upd (shiftH h k) k v = shiftH h (k + 1) := by
  funext j
  by_cases q : j = k
  · subst q
    rw [pk_us, hv]
    unfold shiftH
    rw [if_neg (by omega), if_pos (by omega)]
  · rw [pk_un q]
    unfold shiftH
    by_cases q2 : j < k
    · rw [if_pos q2, if_pos (by omega)]
    · rw [if_neg q2, if_neg (by omega)]
theorem layH_0 {h a : Nat → Int32} {n : Nat} : layH h a n 0 = h := by
  funext j
  exact if_neg (by omega)
theorem layH_put {h a : Nat → Int32} {n k m : Nat} {v : Int32} (hm : m = 335 * n + k) (hv : v = a k) : upd (layH h a n k) m v = layH h a n (k + 1) := by
  subst hm
  funext j
  by_cases q : j = 335 * n + k
  · subst q
    rw [pk_us, hv]
    unfold layH
    rw [if_pos (by omega)]
    congr 1
    omega
  · rw [pk_un q]
    unfold layH
    by_cases q2 : 335 * n ≤ j ∧ j < 335 * n + k
    · rw [if_pos q2, if_pos (by omega)]
    · rw [if_neg q2, if_neg (by omega)]
/-- a row copied up to k -/
def cpK (f g : Nat → Int32) (k : Nat) : Nat → Int32 := fun j => if j < k then f j else g j
theorem cpK_0 {f g : Nat → Int32} : cpK f g 0 = g := by
  funext j
  exact if_neg (Nat.not_lt_zero _)
theorem cpK_put {f g : Nat → Int32} {k : Nat} {v : Int32} (hv : v = f k) : upd (cpK f g k) k v = cpK f g (k + 1) := by
  funext j
  by_cases q : j = k
  · subst q
    rw [pk_us, hv]
    unfold cpK
    rw [if_pos (by omega)]
  · rw [pk_un q]
    unfold cpK
    by_cases q2 : j < k
    · rw [if_pos q2, if_pos (by omega)]
    · rw [if_neg q2, if_neg (by omega)]
theorem cpK_all {f g : Nat → Int32} {n : Nat} (hf : ∀ j, n ≤ j → f j = 0) (hg : ∀ j, n ≤ j → g j = 0) : cpK f g n = f := by
  funext j
  unfold cpK
  by_cases q : j < n
  · rw [if_pos q]
  · rw [if_neg q, hf j (by omega), hg j (by omega)]
/-- the latest row of the history -/
def rowH (h : Nat → Int32) (n : Nat) : Nat → Int32 := fun j => if j < 335 then h (335 * n + j) else 0
def scrM (k : Nat) : Prop := k = 20 ∨ k = 22
/-- all of the reference that counts is the same, but for the rows P and the numbers N -/
def sameM (σ τ : St) (P : Nat → Prop) (N : Nat → Prop) : Prop := (∀ k i, ¬ scrM k → ¬ P k → ¬ k = 16 → τ k i = σ k i) ∧ ∀ j, ¬ j = 8 → ¬ N j → τ 16 0 j = σ 16 0 j
def no1 : Nat → Prop := fun _ => False
def keepM (σ τ : St) : Prop := sameM σ τ no1 no1
theorem sameM.rf {σ : St} {P N : Nat → Prop} : sameM σ σ P N := ⟨fun _ _ _ _ _ => rfl, fun _ _ _ => rfl⟩
theorem sameM.tr {σ τ ρ : St} {P N : Nat → Prop} (h1 : sameM σ τ P N) (h2 : sameM τ ρ P N) : sameM σ ρ P N := ⟨fun k i a b c => (h2.1 k i a b c).trans (h1.1 k i a b c), fun j a b => (h2.2 j a b).trans (h1.2 j a b)⟩
theorem sameM.mono {σ τ : St} {P N P2 N2 : Nat → Prop} (h : sameM σ τ P N) (hp : ∀ k, P k → P2 k) (hn : ∀ k, N k → N2 k) : sameM σ τ P2 N2 := ⟨fun k i a b c => h.1 k i a (fun z => b (hp k z)) c, fun j a b => h.2 j a (fun z => b (hn j z))⟩
theorem sameM.w1 {σ τ : St} {P N : Nat → Prop} {k i : Nat} {r : Nat → Int32} (h : sameM σ τ P N) (hc : scrM k ∨ P k) (h16 : ¬ k = 16) : sameM σ (ur τ k i r) P N := by
  refine ⟨fun k1 i1 a b c => ?_, fun j a b => ?_⟩
  · by_cases q : k1 = k
    · rw [q] at a b
      exact absurd hc (fun z => z.elim a b)
    · rw [ur_k q]
      exact h.1 k1 i1 a b c
  · rw [ur_k (fun q => h16 q.symm)]
    exact h.2 j a b
theorem sameM.w2 {σ τ : St} {P N : Nat → Prop} {k i j : Nat} {v : Int32} (h : sameM σ τ P N) (hc : scrM k ∨ P k) (h16 : ¬ k = 16) : sameM σ (us τ k i j v) P N := h.w1 hc h16
theorem sameM.w3 {σ τ : St} {P N : Nat → Prop} {j : Nat} {v : Int32} (h : sameM σ τ P N) (hc : j = 8 ∨ N j) : sameM σ (us τ 16 0 j v) P N := by
  refine ⟨fun k1 i1 a b c => ?_, fun j1 a b => ?_⟩
  · rw [us_k c]
    exact h.1 k1 i1 a b c
  · by_cases q : j1 = j
    · rw [q] at a b
      exact absurd hc (fun z => z.elim a b)
    · rw [us_not q]
      exact h.2 j1 a b
def pH : Nat → Prop := fun k => k = 17 ∨ k = 18
def nH : Nat → Prop := fun j => j = 2
/-- an act of the reference -/
def actM (σ τ : St) (r : Int32) (F : AR) (n : Nat) : Prop := (∃ e, F = .inl e ∧ r = e ∧ keepM σ τ) ∨ ∃ e a1, F = .inr (e, a1) ∧ r = e ∧ τ 17 0 = a1 ∧ τ 18 0 = pushH (σ 18 0) (σ 17 0) n ∧ τ 16 0 2 = nI (sizeH n) ∧ sameM σ τ pH nH
theorem actM_no {σ : St} {F : AR} {e : Int32} {n : Nat} (h : F = .inl e) : actM σ σ e F n := Or.inl ⟨e, h, rfl, sameM.rf⟩
/-- what acts() leaves -/
def pushP (σ : St) (n : Nat) : St := us (ur σ 18 0 (pushH (σ 18 0) (σ 17 0) n)) 16 0 2 (nI (sizeH n))
theorem pushP_same {σ : St} {n : Nat} : sameM σ (pushP σ n) pH nH := (sameM.rf.w1 (k := 18) (Or.inr (Or.inr rfl)) (by decide)).w3 (Or.inr rfl)
theorem pushP_18 {σ : St} {n : Nat} : pushP σ n 18 0 = pushH (σ 18 0) (σ 17 0) n := by rw [pushP, us_k (by decide), ur_same]
theorem pushP_2 {σ : St} {n : Nat} : pushP σ n 16 0 2 = nI (sizeH n) := us_at
theorem pushP_k {σ : St} {n k i : Nat} (h1 : ¬ k = 18) (h2 : ¬ k = 16) : pushP σ n k i = σ k i := by rw [pushP, us_k h2, ur_k h1]
theorem actM_go {σ ρ : St} {F : AR} {e : Int32} {a1 : Nat → Int32} {n : Nat} (h : F = .inr (e, a1)) (h17 : ρ 17 0 = a1) (hs : sameM (pushP σ n) ρ (fun k => k = 17) no1) : actM σ ρ e F n := by
  refine Or.inr ⟨e, a1, h, rfl, h17, ?_, ?_, pushP_same.tr (hs.mono (fun k q => Or.inl q) (fun j q => q.elim))⟩
  · rw [hs.1 18 0 (by unfold scrM; decide) (by decide) (by decide)]
    exact pushP_18
  · rw [hs.2 2 (by decide) (fun q => q)]
    exact pushP_2
theorem sizeH_p (n : Nat) : 1 ≤ sizeH n := by
  unfold sizeH
  split <;> omega
theorem sizeH_le {n : Nat} (h : n ≤ 4) : sizeH n ≤ 4 := by
  unfold sizeH
  split <;> omega
/-- the row that was put last is the state -/
theorem pushH_last {h a : Nat → Int32} {n j : Nat} (hj : j < 335) : pushH h a n (335 * (sizeH n - 1) + j) = a j := by
  have key : ∀ (g : Nat → Int32) (m : Nat), layH g a m 335 (335 * m + j) = a j := fun g m => by
    unfold layH
    rw [if_pos ⟨Nat.le_add_right _ _, Nat.add_lt_add_left hj _⟩, Nat.add_sub_cancel_left]
  unfold pushH sizeH
  by_cases q : n = 4
  · rw [if_pos q, if_pos q]
    exact key _ 3
  · rw [if_neg q, if_neg q]
    exact key _ n
