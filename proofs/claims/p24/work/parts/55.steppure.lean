/-! PURE: what a step of the law does to both objects -/
/-- frames leave as many less until all rests -/
def cgN (l w st : Nat) : Nat := if l ≤ w then (if w - l ≤ st then w else l + st) else (if l - w ≤ st then w else l - st)
theorem cgN_lt {l w st : Nat} (hl : l < 256) (hw : w < 256) : cgN l w st < 256 := by
  unfold cgN
  split <;> split <;> omega
theorem cgN_dist {l w st : Nat} : distN w (cgN l w st) = distN w l - st := by
  unfold cgN distN
  (repeat' split) <;> omega
theorem neg_toInt {n : Nat} (h : n < 2 ^ 31) : (-(nI n)).toInt = -(n : Int) := nI_neg h
theorem chg_e {a w : Nat → Int32} (h : okA a) (hw : wOK a w) {st : Nat} (h1 : 1 ≤ st) (h2 : st ≤ 255) (es : a 331 = nI st) {z : Nat} (hz : z < 18) : a (288 + z) + chgF a w z = nI (cgN (lvN a z) (wN w z) st) ∧ iabs (chgF a w z) = nI (distN (cgN (lvN a z) (wN w z) st) (lvN a z)) := by
  obtain ⟨g1, g2⟩ := lvN_e h hz
  obtain ⟨k1, k2⟩ := wN_e hw.1 z
  have hc := mov_chg h hw hz
  rw [← hc, es, g2, k2]
  generalize lvN a z = u at g1
  generalize wN w z = v at k1
  have en : (nI st).toInt = st := nI_toInt (by omega)
  have em : (-(nI st)).toInt = -(st : Int) := nI_neg (by omega)
  unfold movV cgN
  by_cases q : u ≤ v
  · rw [if_pos q, pk_sub q]
    have ed : (nI (v - u)).toInt = ((v - u : Nat) : Int) := nI_toInt (by omega)
    by_cases q2 : v - u ≤ st
    · rw [if_pos q2, if_neg (fun c => by have := Int32.lt_iff_toInt_lt.mp c; omega), if_neg (fun c => by have := Int32.lt_iff_toInt_lt.mp c; omega)]
      refine ⟨by rw [nI_add, show u + (v - u) = v by omega], ?_⟩
      rw [show nI (v - u) = nI v - nI u from (pk_sub q).symm, iabs_sub (by omega) (by omega)]
    · rw [if_neg q2, if_pos (Int32.lt_iff_toInt_lt.mpr (by omega))]
      refine ⟨nI_add _ _, ?_⟩
      have e3 := iabs_sub (a := u + st) (b := u) (by omega) (by omega)
      rw [pk_sub (by omega), show u + st - u = st by omega] at e3
      exact e3
  · rw [if_neg q]
    have e1 : nI v - nI u = -(nI (u - v)) := by rw [← pk_sub (by omega), Int32.neg_sub]
    have ed : (-(nI (u - v))).toInt = -((u - v : Nat) : Int) := nI_neg (by omega)
    rw [e1, if_neg (fun c => by have := Int32.lt_iff_toInt_lt.mp c; omega)]
    by_cases q2 : u - v ≤ st
    · rw [if_pos q2, if_neg (fun c => by have := Int32.lt_iff_toInt_lt.mp c; omega), ← e1]
      refine ⟨?_, iabs_sub (by omega) (by omega)⟩
      rw [e1, ← Int32.sub_eq_add_neg, pk_sub (by omega), show u - (u - v) = v by omega]
    · rw [if_neg q2, if_pos (Int32.lt_iff_toInt_lt.mpr (by omega))]
      refine ⟨by rw [← Int32.sub_eq_add_neg, pk_sub (by omega)], ?_⟩
      have e3 := iabs_sub (a := u - st) (b := u) (by omega) (by omega)
      have e4 : nI (u - st) - nI u = -(nI st) := by rw [← Int32.neg_sub, pk_sub (by omega), show u - (u - st) = st by omega]
      rw [e4] at e3
      exact e3
/-- sums over the zones -/
def sumN (f : Nat → Nat) : Nat → Nat
  | 0 => 0
  | z + 1 => sumN f z + f z
theorem sumN_le {f : Nat → Nat} {b : Nat} : ∀ z, (∀ q, q < z → f q ≤ b) → sumN f z ≤ z * b
  | 0, _ => Nat.zero_le _
  | z + 1, h => by
    have h1 := sumN_le z (fun q hq => h q (by omega))
    have h2 := h z (by omega)
    rw [Nat.succ_mul]
    show sumN f z + f z ≤ _
    omega
theorem sumN_dist {f g : Nat → Nat} : ∀ z, sumN f z ≤ sumN g z + sumN (fun q => distN (f q) (g q)) z ∧ sumN g z ≤ sumN f z + sumN (fun q => distN (f q) (g q)) z
  | 0 => ⟨Nat.le_refl _, Nat.le_refl _⟩
  | z + 1 => by
    have ih := sumN_dist (f := f) (g := g) z
    have h : f z ≤ g z + distN (f z) (g z) ∧ g z ≤ f z + distN (f z) (g z) := by
      unfold distN
      split <;> omega
    show sumN f z + f z ≤ sumN g z + g z + (sumN (fun q => distN (f q) (g q)) z + distN (f z) (g z)) ∧ sumN g z + g z ≤ sumN f z + f z + (sumN (fun q => distN (f q) (g q)) z + distN (f z) (g z))
    omega
theorem pow_e {lev : Nat → Int32} {f : Nat → Nat} : ∀ z, (∀ q, q < z → lev q = nI (f q)) → powK lev z = nI (sumN f z)
  | 0, _ => rfl
  | z + 1, h => by
    show powK lev z + lev z = nI (sumN f z + f z)
    rw [pow_e z (fun q hq => h q (by omega)), h z (by omega), nI_add]
theorem pow_n {a : Nat → Int32} (h : okA a) : powK (levO a) 18 = nI (sumN (lvN a) 18) ∧ sumN (lvN a) 18 ≤ 4590 := by
  refine ⟨pow_e 18 (fun q hq => (lvN_e h hq).2), ?_⟩
  exact sumN_le (b := 255) 18 (fun q hq => by have := (lvN_e h hq).1; omega)
theorem flk_e {a w : Nat → Int32} (h : okA a) (hw : wOK a w) {st f0 : Nat} (h1 : 1 ≤ st) (h2 : st ≤ 255) (es : a 331 = nI st) (e0 : a 333 = nI f0) : ∀ z, z ≤ 18 → flickK a w z = nI (f0 + sumN (fun q => distN (cgN (lvN a q) (wN w q) st) (lvN a q)) z)
  | 0, _ => e0
  | z + 1, hz => by
    show flickK a w z + iabs (chgF a w z) = nI (f0 + (_ + _))
    rw [flk_e h hw h1 h2 es e0 z (by omega), (chg_e h hw h1 h2 es (show z < 18 by omega)).2, nI_add, Nat.add_assoc]
theorem lvN_frame {a w : Nat → Int32} (h : okA a) (hw : wOK a w) {st : Nat} (h1 : 1 ≤ st) (h2 : st ≤ 255) (es : a 331 = nI st) {z : Nat} (hz : z < 18) : lvN (frameF a w) z = cgN (lvN a z) (wN w z) st := by
  have e := (chg_e h hw h1 h2 es hz).1
  have hl := cgN_lt (st := st) (lvN_e h hz).1 (wN_e hw.1 z).1
  show (frameF a w (288 + z)).toNatClampNeg = _
  rw [frameF_lev hz, e, nI_clamp (by omega)]
/-- one frame: power moves by no more than flicker does -/
theorem frame_n {a w : Nat → Int32} (h : okA a) (hw : wOK a w) {f0 : Nat} (e0 : a 333 = nI f0) : ∃ d, d ≤ 4590 ∧ frameF a w 333 = nI (f0 + d) ∧ sumN (lvN (frameF a w)) 18 ≤ sumN (lvN a) 18 + d ∧ sumN (lvN a) 18 ≤ sumN (lvN (frameF a w)) 18 + d := by
  obtain ⟨st, h1, h2, es⟩ := h.1.2.2.2.2.2.2.2.2.2
  have e1 : frameF a w 333 = flickK a w 18 := by
    unfold frameF
    rw [if_neg (by decide), if_neg (by decide), if_pos rfl]
  have ef := flk_e h hw h1 h2 es e0 18 (Nat.le_refl _)
  have hs : ∀ z, z ≤ 18 → sumN (lvN (frameF a w)) z = sumN (fun q => cgN (lvN a q) (wN w q) st) z := by
    intro z
    induction z with
    | zero => intro _; rfl
    | succ z ih =>
      intro hz
      show sumN _ z + _ = sumN _ z + _
      rw [ih (by omega), lvN_frame h hw h1 h2 es (by omega)]
  have hd := sumN_dist (f := fun q => cgN (lvN a q) (wN w q) st) (g := lvN a) 18
  refine ⟨_, ?_, e1.trans ef, ?_, ?_⟩
  · exact sumN_le (b := 255) 18 (fun q hq => by
      have g1 := cgN_lt (st := st) (lvN_e h hq).1 (wN_e hw.1 q).1
      have g2 := (lvN_e h hq).1
      have := distN_lt g1 g2
      omega)
  · rw [hs 18 (Nat.le_refl _)]
    exact hd.1
  · rw [hs 18 (Nat.le_refl _)]
    exact hd.2
theorem frames_n {a w : Nat → Int32} (h : okA a) (hw : wOK a w) {f0 : Nat} (e0 : a 333 = nI f0) : ∀ k, ∃ d, d ≤ k * 4590 ∧ framesK a w k 333 = nI (f0 + d) ∧ sumN (lvN (framesK a w k)) 18 ≤ sumN (lvN a) 18 + d ∧ sumN (lvN a) 18 ≤ sumN (lvN (framesK a w k)) 18 + d
  | 0 => ⟨0, Nat.zero_le _, e0, Nat.le_refl _, Nat.le_refl _⟩
  | k + 1 => by
    obtain ⟨d, hd, ef, h1, h2⟩ := frames_n h hw e0 k
    obtain ⟨g1, g2⟩ := ok_frames h hw k
    obtain ⟨d2, hd2, ef2, h3, h4⟩ := frame_n g1 g2 ef
    refine ⟨d + d2, by rw [Nat.succ_mul]; omega, ?_, ?_, ?_⟩
    · rw [show f0 + (d + d2) = f0 + d + d2 by omega]
      exact ef2
    · show sumN (lvN (frameF (framesK a w k) w)) 18 ≤ _
      omega
    · show _ ≤ sumN (lvN (frameF (framesK a w k) w)) 18 + _
      omega
theorem gap_frame {a w : Nat → Int32} (h : okA a) (hw : wOK a w) {st : Nat} (h1 : 1 ≤ st) (h2 : st ≤ 255) (es : a 331 = nI st) : ∀ z, z ≤ 18 → gapN (frameF a w) w z = gapN a w z - st
  | 0, _ => by show 0 = 0 - st; omega
  | z + 1, hz => by
    show maxN (gapN (frameF a w) w z) (distN (wN w z) (lvN (frameF a w) z)) = maxN (gapN a w z) (distN (wN w z) (lvN a z)) - st
    rw [gap_frame h hw h1 h2 es z (by omega), lvN_frame h hw h1 h2 es (by omega), cgN_dist]
    unfold maxN
    (repeat' split) <;> omega
theorem frames_st {a w : Nat → Int32} {j : Nat} (h1 : ¬ (288 ≤ j ∧ j < 306)) (h2 : ¬ j = 332) (h3 : ¬ j = 333) (h4 : ¬ j = 334) : ∀ k, framesK a w k j = a j
  | 0 => rfl
  | k + 1 => by
    show frameF (framesK a w k) w j = a j
    rw [frameF_at h1 h2 h3 h4, frames_st h1 h2 h3 h4 k]
theorem gap_frames {a w : Nat → Int32} (h : okA a) (hw : wOK a w) {st : Nat} (h1 : 1 ≤ st) (h2 : st ≤ 255) (es : a 331 = nI st) : ∀ k, gapN (framesK a w k) w 18 = gapN a w 18 - k * st
  | 0 => by rw [Nat.zero_mul]; rfl
  | k + 1 => by
    obtain ⟨g1, g2⟩ := ok_frames h hw k
    show gapN (frameF (framesK a w k) w) w 18 = _
    rw [gap_frame g1 g2 h1 h2 ((frames_st (by decide) (by decide) (by decide) (by decide) k).trans es) 18 (Nat.le_refl _), gap_frames h hw h1 h2 es k, Nat.succ_mul]
    omega
theorem eqD_frames {a w : Nat → Int32} (k : Nat) : eqD (framesK a w k) a := ⟨fun j hj => frames_st (by omega) (by omega) (by omega) (by omega) k, fun q hq => frames_st (by omega) (by omega) (by omega) (by omega) k, frames_st (by decide) (by decide) (by decide) (by decide) k, frames_st (by decide) (by decide) (by decide) (by decide) k, frames_st (by decide) (by decide) (by decide) (by decide) k, frames_st (by decide) (by decide) (by decide) (by decide) k, frames_st (by decide) (by decide) (by decide) (by decide) k, frames_st (by decide) (by decide) (by decide) (by decide) k⟩
/-- the wanted levels -/
def wA (a : Nat → Int32) : Nat → Int32 := wantF a (a 327)
def frA (a : Nat → Int32) (k : Nat) : Nat → Int32 := framesK a (wA a) k
theorem wA_ok {a : Nat → Int32} (h : okA a) : wOK a (wA a) := wOK_want h.1 _
theorem wA_fr (a : Nat → Int32) (k : Nat) : wA (frA a k) = wA a := by
  unfold wA frA
  rw [frames_st (by decide) (by decide) (by decide) (by decide) k]
  exact cg_want (eqD_frames k) _
theorem frA_ok {a : Nat → Int32} (h : okA a) (k : Nat) : okA (frA a k) := (ok_frames h (wA_ok h) k).1
theorem frA_s (a : Nat → Int32) (k : Nat) : frA (frA a k) 1 = frA a (k + 1) := by
  show frameF (frA a k) (wA (frA a k)) = frameF (frA a k) (wA a)
  rw [wA_fr]
theorem pas_F {a : Nat → Int32} {k : Nat} (h1 : 1 ≤ k) (h2 : k ≤ 99) : pasF a (nI k) = .inr (powK (levO (frA a k)) 18, frA a k) := by
  unfold pasF
  rw [if_neg, nI_clamp (by omega)]
  · rfl
  · rintro (q | q)
    · exact absurd q (nI_nlt (b := 1) h1 (by omega))
    · exact absurd q (nI_nlt (a := 99) h2 (by decide))
theorem fr_332 (a : Nat → Int32) : ∀ k, frA a k 332 = a 332 + nI k
  | 0 => (Int32.add_zero _).symm
  | k + 1 => by
    show frameF (frA a k) (wA a) 332 = _
    have e : frameF (frA a k) (wA a) 332 = frA a k 332 + 1 := by
      unfold frameF
      rw [if_neg (by decide), if_pos rfl]
    rw [e, fr_332 a k, nI_s, Int32.add_assoc]
theorem rsN_sub {g st k : Nat} (h : 1 ≤ st) : rsN (g - k * st) st = rsN g st - k := by
  unfold rsN
  by_cases q : k * st ≤ g
  · rw [show g - k * st + st - 1 = (g + st - 1) - st * k by rw [Nat.mul_comm st]; omega]
    rw [Nat.sub_mul_div]
  · rw [show g - k * st = 0 by omega]
    have e1 : (0 + st - 1) / st = 0 := Nat.div_eq_of_lt (by omega)
    rw [e1]
    have : (g + st - 1) / st ≤ k := by
      apply Nat.le_of_lt_succ
      rw [Nat.div_lt_iff_lt_mul (by omega), Nat.succ_mul]
      omega
    omega
theorem rest_fr {a : Nat → Int32} (h : okA a) (k : Nat) : ∃ r, r < 512 ∧ restsQ a = nI r ∧ restsQ (frA a k) = nI (r - k) := by
  obtain ⟨st, h1, h2, es, e, hl⟩ := rstQ_e h
  refine ⟨_, hl, e, ?_⟩
  obtain ⟨st', h1', h2', es', e', hl'⟩ := rstQ_e (frA_ok h k)
  have e331 : frA a k 331 = a 331 := frames_st (by decide) (by decide) (by decide) (by decide) k
  rw [e331, es] at es'
  have est : st = st' := (nI_eq (by omega) (by omega)).mp es'
  subst est
  rw [e']
  have eg : gpA (frA a k) = gpA a - k * st := by
    have g := gap_frames h (wA_ok h) h1 h2 es k
    have ew : wantF (frA a k) (frA a k 327) = wA a := wA_fr a k
    unfold gpA
    rw [ew]
    exact g
  rw [eg, rsN_sub h1]
theorem rs_t {a : Nat → Int32} (h : okA a) {k : Nat} (hk : k ≤ 40) {x y : Int32} (ex : x = restsQ a) (ey : y = restsQ (frA a k)) (c : x ≤ nI k) : y = nI 0 := by
  obtain ⟨r, hr, e1, e2⟩ := rest_fr h k
  rw [ex, e1] at c
  have c2 := (nI_leI (by omega) (by omega)).mp c
  rw [ey, e2, show r - k = 0 by omega]
theorem rs_f {a : Nat → Int32} (h : okA a) {k : Nat} (hk : k ≤ 40) {x y : Int32} (ex : x = restsQ a) (ey : y = restsQ (frA a k)) (c : ¬ x ≤ nI k) : y = x - nI k := by
  obtain ⟨r, hr, e1, e2⟩ := rest_fr h k
  rw [ex, e1] at c ⊢
  have c2 : k < r := Nat.not_le.mp (fun q => c ((nI_leI (by omega) (by omega)).mpr q))
  rw [ey, e2, pk_sub (by omega)]
/-- flicker's bound -/
def flkB (a : Nat → Int32) (B : Nat) : Prop := ∃ n, n ≤ B ∧ a 333 = nI n
theorem flkB_mono {a : Nat → Int32} {B C : Nat} (h : flkB a B) (hB : B ≤ C) : flkB a C := by
  obtain ⟨n, hn, e⟩ := h
  exact ⟨n, by omega, e⟩
theorem flkB_eq {a b : Nat → Int32} {B : Nat} (h : flkB a B) (e : b 333 = a 333) : flkB b B := by
  obtain ⟨n, hn, e2⟩ := h
  exact ⟨n, hn, e.trans e2⟩
theorem flkB_fr {a : Nat → Int32} {B k : Nat} (h : okA a) (hk : k ≤ 40) (hf : flkB a B) : flkB (frA a k) (B + 183600) := by
  obtain ⟨n, hn, e⟩ := hf
  obtain ⟨d, hd, e2, -, -⟩ := frames_n h (wA_ok h) e k
  exact ⟨n + d, by omega, e2⟩
theorem fl_t {a : Nat → Int32} {B k : Nat} (h : okA a) (hB : B ≤ 2 ^ 29) (hk : k ≤ 40) (hf : flkB a B) {f p t x y z : Int32} (ef : f = a 333) (ep : p = powK (levO a) 18) (et : t = powK (levO (frA a k)) 18) (ex : x = frA a k 333) (c : t ≤ p) (ez : z = p - t) (ey : y = f + z) : ¬ x < y := by
  obtain ⟨n, hn, e⟩ := hf
  obtain ⟨d, hd, e2, h1, h2⟩ := frames_n h (wA_ok h) e k
  obtain ⟨g1, g2⟩ := pow_n h
  obtain ⟨g3, g4⟩ := pow_n (frA_ok h k)
  have g1' := ep.trans g1
  have g3' := et.trans g3
  rw [g1', g3'] at c
  have c2 := (nI_leI (by omega) (by omega)).mp c
  rw [ey, ez, g1', g3', ef, e, ex, pk_sub c2, nI_add]
  have e3 : frA a k 333 = nI (n + d) := e2
  rw [e3]
  have h2' : sumN (lvN a) 18 ≤ sumN (lvN (frA a k)) 18 + d := h2
  exact nI_nlt (by omega) (by omega)
theorem fl_f {a : Nat → Int32} {B k : Nat} (h : okA a) (hB : B ≤ 2 ^ 29) (hk : k ≤ 40) (hf : flkB a B) {f p t x y z : Int32} (ef : f = a 333) (ep : p = powK (levO a) 18) (et : t = powK (levO (frA a k)) 18) (ex : x = frA a k 333) (c : ¬ t ≤ p) (ez : z = t - p) (ey : y = f + z) : ¬ x < y := by
  obtain ⟨n, hn, e⟩ := hf
  obtain ⟨d, hd, e2, h1, h2⟩ := frames_n h (wA_ok h) e k
  obtain ⟨g1, g2⟩ := pow_n h
  obtain ⟨g3, g4⟩ := pow_n (frA_ok h k)
  have g1' := ep.trans g1
  have g3' := et.trans g3
  rw [g1', g3'] at c
  have c2 : sumN (lvN a) 18 < sumN (lvN (frA a k)) 18 := Nat.not_le.mp (fun q => c ((nI_leI (by omega) (by omega)).mpr q))
  rw [ey, ez, g1', g3', ef, e, ex, pk_sub (by omega), nI_add]
  have e3 : frA a k 333 = nI (n + d) := e2
  rw [e3]
  have h1' : sumN (lvN (frA a k)) 18 ≤ sumN (lvN a) 18 + d := h1
  exact nI_nlt (by omega) (by omega)
theorem pow_pos {a : Nat → Int32} (h : okA a) {x : Int32} (ex : x = powK (levO a) 18) : ¬ x < 0 := by
  obtain ⟨g1, g2⟩ := pow_n h
  exact pos_nI (ex.trans g1) (by omega)
/-- settings -/
def setR (w v : Nat) : Prop := (w = 0 ∧ 100 ≤ v ∧ v ≤ 256) ∨ (w = 1 ∧ v ≤ 30) ∨ (w = 2 ∧ v ≤ 9) ∨ (w = 3 ∧ v ≤ 2) ∨ (w = 4 ∧ v ≤ 9) ∨ (w = 5 ∧ v ≤ 50) ∨ (w = 6 ∧ v ≤ 20) ∨ (w = 7 ∧ 1 ≤ v ∧ v ≤ 255)
theorem setR_ok {w v : Nat} (h : setR w v) : w < 8 ∧ ¬ (nI v < tab_LEAST_SETTING.getD w 0 ∨ tab_GREATEST_SETTING.getD w 0 < nI v) := by
  have key : ∀ lo hi : Nat, lo ≤ v → v ≤ hi → hi < 2 ^ 20 → ¬ (nI v < nI lo ∨ nI hi < nI v) := by
    rintro lo hi h1 h2 h3 (q | q)
    · exact nI_nlt h1 (by omega) q
    · exact nI_nlt h2 (by omega) q
  unfold setR at h
  rcases h with ⟨rfl, h⟩ | ⟨rfl, h⟩ | ⟨rfl, h⟩ | ⟨rfl, h⟩ | ⟨rfl, h⟩ | ⟨rfl, h⟩ | ⟨rfl, h⟩ | ⟨rfl, h⟩
  · exact ⟨by decide, key 100 256 h.1 h.2 (by decide)⟩
  · exact ⟨by decide, key 0 30 (by omega) h (by decide)⟩
  · exact ⟨by decide, key 0 9 (by omega) h (by decide)⟩
  · exact ⟨by decide, key 0 2 (by omega) h (by decide)⟩
  · exact ⟨by decide, key 0 9 (by omega) h (by decide)⟩
  · exact ⟨by decide, key 0 50 (by omega) h (by decide)⟩
  · exact ⟨by decide, key 0 20 (by omega) h (by decide)⟩
  · exact ⟨by decide, key 1 255 h.1 h.2 (by decide)⟩
theorem set_F {a : Nat → Int32} {w v : Nat} (h : setR w v) : setF a (nI w) (nI v) = if a (324 + w) = nI v then .inl (-5) else .inr (a (324 + w), upd a (324 + w) (nI v)) := by
  obtain ⟨h1, h2⟩ := setR_ok h
  unfold setF
  rw [if_neg, nI_clamp (by omega), if_neg h2]
  rintro (q | q)
  · exact nI_pos (by omega) q
  · exact nI_ge (b := 8) h1 (by decide) q
def setA (a : Nat → Int32) (w v : Nat) : Nat → Int32 := upd a (324 + w) (nI v)
theorem set_A {a : Nat → Int32} {w v : Nat} (h : setR w v) : arA (setF a (nI w) (nI v)) a = setA a w v := by
  rw [set_F h]
  by_cases q : a (324 + w) = nI v
  · rw [if_pos q]
    exact (upd_self q).symm
  · rw [if_neg q]
    rfl
theorem set_R {a : Nat → Int32} {w v : Nat} (h : setR w v) : arR (setF a (nI w) (nI v)) = if a (324 + w) = nI v then -5 else a (324 + w) := by
  rw [set_F h]
  by_cases q : a (324 + w) = nI v
  · rw [if_pos q, if_pos q]
    rfl
  · rw [if_neg q, if_neg q]
    rfl
theorem setA_ok {a : Nat → Int32} {w v : Nat} (h : okA a) (hs : setR w v) : okA (setA a w v) := okA_set h (setR_ok hs).1 (setR_ok hs).2
theorem setA_at {a : Nat → Int32} {w v : Nat} : setA a w v (324 + w) = nI v := pk_us
theorem setA_333 {a : Nat → Int32} {w v : Nat} (h : setR w v) : setA a w v 333 = a 333 := pk_un (by have := (setR_ok h).1; omega)
theorem ct_set {a : Nat → Int32} {n t w : Nat} (hw : w < 8) : countQ a n t (nI (13 + w)) = a (324 + w) := by
  rw [countQ_s (by omega) (by omega), show 13 + w - 13 = w by omega]
theorem st_t {a : Nat → Int32} {w v : Nat} {x y : Int32} (ex : x = if a (324 + w) = nI v then -5 else a (324 + w)) (ey : y = a (324 + w)) (c : ¬ y = nI v) : x = y := by
  rw [ex, if_neg (by rw [← ey]; exact c), ey]
theorem st_f {a : Nat → Int32} {w v : Nat} {x y : Int32} (ex : x = if a (324 + w) = nI v then -5 else a (324 + w)) (ey : y = a (324 + w)) (c : y = nI v) : x = -5 := by
  rw [ex, if_pos (by rw [← ey]; exact c)]
/-- deaths -/
def kilA (a : Nat → Int32) (z : Nat) (d : Int32) : Nat → Int32 := upd (upd a (306 + z) d) (288 + z) 0
theorem kil_F {a : Nat → Int32} {z : Nat} {d : Int32} (h : okA a) (hz : z < 18) (hd : d = if a (306 + z) = 0 then 1 else 0) : killF a (nI z) d = .inr (a (288 + z), kilA a z d) := by
  refine killF_go hz ?_
  rw [hd]
  by_cases q : a (306 + z) = 0
  · rw [if_pos q, q]
    decide
  · rw [if_neg q]
    exact q
theorem kil_d {a : Nat → Int32} {z : Nat} {d : Int32} (hd : d = if a (306 + z) = 0 then 1 else 0) : d = 0 ∨ d = 1 := by
  rw [hd]
  split
  · exact Or.inr rfl
  · exact Or.inl rfl
theorem kil_ok {a : Nat → Int32} {z : Nat} {d : Int32} (h : okA a) (hz : z < 18) (hd : d = 0 ∨ d = 1) : okA (kilA a z d) := okA_kill h hz hd
theorem kil_l {a : Nat → Int32} {z : Nat} {d : Int32} : kilA a z d (288 + z) = 0 := pk_us
theorem kil_3 {a : Nat → Int32} {z : Nat} {d : Int32} (hz : z < 18) : kilA a z d (306 + z) = d := by
  unfold kilA
  rw [pk_un (by omega), pk_us]
theorem kil_333 {a : Nat → Int32} {z : Nat} {d : Int32} (hz : z < 18) : kilA a z d 333 = a 333 := by
  unfold kilA
  rw [pk_un (by omega), pk_un (by omega)]
theorem kil_pow {a : Nat → Int32} {z : Nat} {d : Int32} (hz : z < 18) : ∀ k, k ≤ 18 → powK (levO (kilA a z d)) k = if z < k then powK (levO a) k - a (288 + z) else powK (levO a) k
  | 0, _ => by rw [if_neg (Nat.not_lt_zero _)]; rfl
  | k + 1, hk => by
    show powK (levO (kilA a z d)) k + kilA a z d (288 + k) = if z < k + 1 then powK (levO a) k + a (288 + k) - a (288 + z) else powK (levO a) k + a (288 + k)
    rw [kil_pow hz k (by omega)]
    by_cases q : z = k
    · subst q
      rw [if_neg (Nat.lt_irrefl _), if_pos (Nat.lt_succ_self _), kil_l, Int32.add_sub_cancel, Int32.add_zero]
    · have e : kilA a z d (288 + k) = a (288 + k) := by
        unfold kilA
        rw [pk_un (by omega), pk_un (by omega)]
      rw [e]
      by_cases q2 : z < k
      · rw [if_pos q2, if_pos (by omega)]
        simp only [Int32.sub_eq_add_neg, Int32.add_assoc, Int32.add_comm, i_lc]
      · rw [if_neg q2, if_neg (by omega)]
theorem kil_p {a : Nat → Int32} {z : Nat} {d p x y : Int32} (hz : z < 18) (ep : p = powK (levO a) 18) (ex : x = powK (levO (kilA a z d)) 18) (ey : y = p - a (288 + z)) : x = y := by
  rw [ex, ey, ep, kil_pow hz 18 (Nat.le_refl _), if_pos hz]
/-- moves -/
def bk (w : Nat) : Nat := if w = 0 then 1 else if w = 1 then 0 else if w = 2 then 3 else 2
theorem bk_lt {w : Nat} (h : w < 4) : bk w < 4 := by
  unfold bk
  (repeat' split) <;> omega
theorem bk_x : ∀ w, w < 4 → nI w ^^^ nI 1 = nI (bk w) := by decide +kernel
def mvA (a : Nat → Int32) (w : Nat) : Nat → Int32 := movA a (nI w)
theorem mov_F {a : Nat → Int32} {w : Nat} (h : w < 4) : movF a (nI w) = .inr (nI (difK (mvA a w) a 288), mvA a w) := by
  refine if_neg ?_
  rintro (q | q)
  · exact nI_pos (by omega) q
  · exact nI_ge (b := 4) h (by decide) q
theorem mov_ok {a : Nat → Int32} {w : Nat} (h : okA a) (hw : w < 4) : okA (mvA a w) := ok_movF h _ _ (mov_F hw)
theorem mov_333 {a : Nat → Int32} {w : Nat} : mvA a w 333 = a 333 := by
  unfold mvA movA putA
  exact if_neg (by decide)
theorem mov_pos {a : Nat → Int32} {w : Nat} {x : Int32} (ex : x = nI (difK (mvA a w) a 288)) : ¬ x < 0 := pos_nI ex (by have := difK_le (mvA a w) a 288; omega)
def sxN (w k : Nat) : Nat := if w = 0 then 0 else if w = 1 then 23 else k
def syN (w k : Nat) : Nat := if w = 2 then 0 else if w = 3 then 11 else k % 12
theorem mov_edge {a : Nat → Int32} {w k : Nat} (hw : w < 4) (hk : k < 24) : spotQ (mvA a (bk w)) (nI (sxN w k)) (nI (syN w k)) (nI 0) = 0 := by
  have hx : sxN w k < 24 := by
    unfold sxN
    (repeat' split) <;> omega
  have hy : syN w k < 12 := by
    unfold syN
    (repeat' split) <;> omega
  rw [spotQ_nI hx hy]
  show mvA a (bk w) (syN w k * 24 + sxN w k) = 0
  have e1 : mvA a (bk w) (syN w k * 24 + sxN w k) = shV a (fxV (nI (bk w))) (fyV (nI (bk w))) (24 * syN w k + sxN w k) := by
    rw [Nat.mul_comm 24]
    exact if_pos (by omega)
  rw [e1, shV_at hx, if_neg]
  rw [onB_iff, onP_iff]
  rintro ⟨h1, h2, h3, h4⟩
  rcases (show w = 0 ∨ w = 1 ∨ w = 2 ∨ w = 3 by omega) with rfl | rfl | rfl | rfl
  · exact h1 (show nI 0 + fxV (nI 1) < 0 by decide)
  · exact h2 (show nI 24 ≤ nI 23 + fxV (nI 0) by decide)
  · exact h3 (show nI 0 + fyV (nI 3) < 0 by decide)
  · exact h4 (show nI 12 ≤ nI 11 + fyV (nI 2) by decide)
/-- rectangles -/
def askK (a : Nat → Int32) (x y w : Nat) (v : Int32) : Nat → Nat → Int32
  | 0 => a
  | k + 1 => arA (askF (askK a x y w v k) (nI (x + k % w)) (nI (y + k / w)) v) (askK a x y w v k)
def cntK (a : Nat → Int32) (x y w : Nat) (v : Int32) : Nat → Nat
  | 0 => 0
  | k + 1 => if arR (askF (askK a x y w v k) (nI (x + k % w)) (nI (y + k / w)) v) < 0 then cntK a x y w v k else cntK a x y w v k + 1
theorem cntK_t {a : Nat → Int32} {x y w k : Nat} {v r : Int32} (er : r = arR (askF (askK a x y w v k) (nI (x + k % w)) (nI (y + k / w)) v)) (c : r < 0) : cntK a x y w v k + 0 = cntK a x y w v (k + 1) := by
  rw [er] at c
  show cntK a x y w v k = if arR (askF (askK a x y w v k) (nI (x + k % w)) (nI (y + k / w)) v) < 0 then cntK a x y w v k else cntK a x y w v k + 1
  rw [if_pos c]
theorem cntK_f {a : Nat → Int32} {x y w k : Nat} {v r : Int32} (er : r = arR (askF (askK a x y w v k) (nI (x + k % w)) (nI (y + k / w)) v)) (c : ¬ r < 0) : cntK a x y w v k + 1 = cntK a x y w v (k + 1) := by
  rw [er] at c
  show cntK a x y w v k + 1 = if arR (askF (askK a x y w v k) (nI (x + k % w)) (nI (y + k / w)) v) < 0 then cntK a x y w v k else cntK a x y w v k + 1
  rw [if_neg c]
theorem onP_iffN {x y : Nat} (hx : x < 100) (hy : y < 100) : onP (nI x) (nI y) ↔ x < 24 ∧ y < 12 := by
  rw [onP_iff]
  constructor
  · rintro ⟨-, h2, -, h4⟩
    exact ⟨Nat.not_le.mp (fun q => h2 ((nI_leI (by decide) (by omega)).mpr q)), Nat.not_le.mp (fun q => h4 ((nI_leI (by decide) (by omega)).mpr q))⟩
  · rintro ⟨h1, h2⟩
    exact ⟨nI_pos (by omega), nI_ge h1 (by decide), nI_pos (by omega), nI_ge h2 (by decide)⟩
theorem v_255 {v : Nat} (hv : v < 256) : ¬ (nI v < 0 ∨ 255 < nI v) := by
  rintro (q | q)
  · exact nI_pos (by omega) q
  · exact nI_nlt (b := v) (a := 255) (by omega) (by decide) q
/-- what asking a spot does -/
theorem ask_A {a : Nat → Int32} {x y v : Nat} (hx : x < 100) (hy : y < 100) (hv : v < 256) : arA (askF a (nI x) (nI y) (nI v)) a = if x < 24 ∧ y < 12 then upd a (y * 24 + x) (nI v) else a := by
  by_cases q : x < 24 ∧ y < 12
  · rw [if_pos q]
    by_cases e : a (y * 24 + x) = nI v
    · rw [askF_none q.1 q.2 (v_255 hv) e]
      exact (upd_self e).symm
    · rw [askF_go q.1 q.2 (v_255 hv) e]
      rfl
  · rw [if_neg q, askF_off (fun h => q ((onP_iffN hx hy).mp h))]
    rfl
theorem ask_R {a : Nat → Int32} {x y v : Nat} (h : okA a) (hx : x < 100) (hy : y < 100) (hv : v < 256) : arR (askF a (nI x) (nI y) (nI v)) < 0 ↔ ¬ ((x < 24 ∧ y < 12) ∧ ¬ a (y * 24 + x) = nI v) := by
  by_cases q : x < 24 ∧ y < 12
  · by_cases e : a (y * 24 + x) = nI v
    · rw [askF_none q.1 q.2 (v_255 hv) e]
      exact ⟨fun _ g => g.2 e, fun _ => by decide⟩
    · rw [askF_go q.1 q.2 (v_255 hv) e]
      obtain ⟨n, hn, en⟩ := h.1.1 (y * 24 + x) (by omega)
      show a (y * 24 + x) < 0 ↔ _
      exact ⟨fun g => absurd g (pos_nI en (by omega)), fun g => absurd ⟨q, e⟩ g⟩
  · rw [askF_off (fun h => q ((onP_iffN hx hy).mp h))]
    exact ⟨fun _ g => q g.1, fun _ => by decide⟩
/-- the spots asked so far -/
abbrev inK (x y w k j : Nat) : Prop := x ≤ j % 24 ∧ j % 24 < x + w ∧ y ≤ j / 24 ∧ (j / 24 - y) * w + (j % 24 - x) < k
theorem askK_at {a : Nat → Int32} {x y w v : Nat} (hx : x < 24) (hy : y < 12) (hw : w = 1 ∨ w = 2 ∨ w = 3) (hv : v < 256) : ∀ k, k ≤ 9 → ∀ j, askK a x y w (nI v) k j = if j < 288 ∧ inK x y w k j then nI v else a j
  | 0, _, j => (if_neg (fun q => Nat.not_lt_zero _ q.2.2.2.2)).symm
  | k + 1, hk, j => by
    have h1 : k % w < 3 := by rcases hw with rfl | rfl | rfl <;> omega
    have h2 : k / w < 10 := by rcases hw with rfl | rfl | rfl <;> omega
    show arA (askF (askK a x y w (nI v) k) (nI (x + k % w)) (nI (y + k / w)) (nI v)) (askK a x y w (nI v) k) j = _
    rw [ask_A (by omega) (by omega) hv]
    have ih := askK_at (a := a) hx hy hw hv k (by omega) j
    have hin : (j < 288 ∧ inK x y w (k + 1) j) ↔ (j < 288 ∧ inK x y w k j) ∨ ((x + k % w < 24 ∧ y + k / w < 12) ∧ j = (y + k / w) * 24 + (x + k % w)) := by
      unfold inK
      rcases hw with rfl | rfl | rfl <;> omega
    by_cases q : x + k % w < 24 ∧ y + k / w < 12
    · rw [if_pos q]
      by_cases e : j = (y + k / w) * 24 + (x + k % w)
      · rw [if_pos (hin.mpr (Or.inr ⟨q, e⟩)), e, pk_us]
      · rw [pk_un e, ih]
        exact if_cong ⟨fun g => hin.mpr (Or.inl g), fun g => (hin.mp g).elim id (fun g2 => absurd g2.2 e)⟩
    · rw [if_neg q, ih]
      exact if_cong ⟨fun g => hin.mpr (Or.inl g), fun g => (hin.mp g).elim id (fun g2 => absurd g2.1 q)⟩
theorem askK_ok {a : Nat → Int32} {x y w v : Nat} (h : okA a) (hx : x < 24) (hy : y < 12) (hw : w = 1 ∨ w = 2 ∨ w = 3) (hv : v < 256) : ∀ k, k ≤ 9 → okA (askK a x y w (nI v) k)
  | 0, _ => h
  | k + 1, hk => by
    have h1 : k % w < 3 := by rcases hw with rfl | rfl | rfl <;> omega
    have h2 : k / w < 10 := by rcases hw with rfl | rfl | rfl <;> omega
    show okA (arA (askF (askK a x y w (nI v) k) (nI (x + k % w)) (nI (y + k / w)) (nI v)) (askK a x y w (nI v) k))
    rw [ask_A (by omega) (by omega) hv]
    have ih := askK_ok h hx hy hw hv k (by omega)
    split
    · exact okA_ask ih (by omega) ⟨v, hv, rfl⟩
    · exact ih
theorem dif_upd {A a : Nat → Int32} {j : Nat} {v : Int32} (hj : A j = a j) : ∀ n, difK (upd A j v) a n = if j < n ∧ ¬ a j = v then difK A a n + 1 else difK A a n
  | 0 => (if_neg (fun q => Nat.not_lt_zero _ q.1)).symm
  | n + 1 => by
    have ih := dif_upd (v := v) hj n
    show (if upd A j v n = a n then difK (upd A j v) a n else difK (upd A j v) a n + 1) = if j < n + 1 ∧ ¬ a j = v then (if A n = a n then difK A a n else difK A a n + 1) + 1 else (if A n = a n then difK A a n else difK A a n + 1)
    rw [ih]
    by_cases e : n = j
    · subst e
      rw [pk_us, if_neg (fun q : n < n ∧ ¬ a n = v => Nat.lt_irrefl _ q.1), if_pos hj]
      by_cases q : v = a n
      · rw [if_pos q, if_neg (fun g : n < n + 1 ∧ ¬ a n = v => g.2 q.symm)]
      · rw [if_neg q, if_pos (show n < n + 1 ∧ ¬ a n = v from ⟨Nat.lt_succ_self _, fun g => q g.symm⟩)]
    · rw [pk_un e]
      by_cases q : j < n ∧ ¬ a j = v
      · have q2 : j < n + 1 ∧ ¬ a j = v := ⟨by omega, q.2⟩
        rw [if_pos q, if_pos q2]
        by_cases c : A n = a n
        · rw [if_pos c, if_pos c]
        · rw [if_neg c, if_neg c]
      · have q2 : ¬ (j < n + 1 ∧ ¬ a j = v) := fun g => q ⟨by have := g.1; omega, g.2⟩
        rw [if_neg q, if_neg q2]
theorem difK_self (a : Nat → Int32) : ∀ n, difK a a n = 0
  | 0 => rfl
  | n + 1 => by
    unfold difK
    rw [if_pos rfl, difK_self a n]
theorem cnt_dif {a : Nat → Int32} {x y w v : Nat} (h : okA a) (hx : x < 24) (hy : y < 12) (hw : w = 1 ∨ w = 2 ∨ w = 3) (hv : v < 256) : ∀ k, k ≤ 9 → cntK a x y w (nI v) k = difK (askK a x y w (nI v) k) a 288
  | 0, _ => (difK_self a 288).symm
  | k + 1, hk => by
    have h1 : k % w < 3 := by rcases hw with rfl | rfl | rfl <;> omega
    have h2 : k / w < 10 := by rcases hw with rfl | rfl | rfl <;> omega
    have ih := cnt_dif h hx hy hw hv k (by omega)
    have hok := askK_ok h hx hy hw hv k (by omega)
    have hat := askK_at (a := a) hx hy hw hv k (by omega)
    show (if arR (askF (askK a x y w (nI v) k) (nI (x + k % w)) (nI (y + k / w)) (nI v)) < 0 then _ else _) = difK (arA (askF (askK a x y w (nI v) k) (nI (x + k % w)) (nI (y + k / w)) (nI v)) (askK a x y w (nI v) k)) a 288
    rw [ask_A (by omega) (by omega) hv, ih]
    by_cases q : x + k % w < 24 ∧ y + k / w < 12
    · have ej : askK a x y w (nI v) k ((y + k / w) * 24 + (x + k % w)) = a ((y + k / w) * 24 + (x + k % w)) := by
        rw [hat, if_neg]
        unfold inK
        rcases hw with rfl | rfl | rfl <;> omega
      rw [if_pos q, dif_upd ej]
      by_cases e : a ((y + k / w) * 24 + (x + k % w)) = nI v
      · rw [if_pos ((ask_R hok (by omega) (by omega) hv).mpr (fun g => g.2 (ej.trans e))), if_neg (fun g => g.2 e)]
      · rw [if_neg (fun g => (ask_R hok (by omega) (by omega) hv).mp g ⟨q, fun g2 => e (ej.symm.trans g2)⟩), if_pos ⟨by omega, e⟩]
    · rw [if_neg q, if_pos ((ask_R hok (by omega) (by omega) hv).mpr (fun g => q g.1))]
theorem rect_eq {a : Nat → Int32} {x y w h v : Nat} (hx : x < 24) (hy : y < 12) (hw : w = 1 ∨ w = 2 ∨ w = 3) (hh : h = 1 ∨ h = 2 ∨ h = 3) (hv : v < 256) : askK a x y w (nI v) (w * h) = rectA a x y w h (nI v) := by
  have hwh : w * h ≤ 9 := by rcases hw with rfl | rfl | rfl <;> rcases hh with rfl | rfl | rfl <;> decide
  funext j
  rw [askK_at hx hy hw hv (w * h) hwh]
  unfold rectA putA paintK
  by_cases q : j < 288
  · rw [if_pos q]
    refine if_cong ?_
    unfold inK inR
    rcases hw with rfl | rfl | rfl <;> rcases hh with rfl | rfl | rfl <;> omega
  · rw [if_neg q, if_neg (fun g => q g.1)]
theorem rect_ok {a : Nat → Int32} {x y w h v : Nat} (hok : okA a) (hx : x < 24) (hy : y < 12) (hw : w = 1 ∨ w = 2 ∨ w = 3) (hh : h = 1 ∨ h = 2 ∨ h = 3) (hv : v < 256) : okA (rectA a x y w h (nI v)) := by
  rw [← rect_eq hx hy hw hh hv]
  exact askK_ok hok hx hy hw hv _ (by rcases hw with rfl | rfl | rfl <;> rcases hh with rfl | rfl | rfl <;> decide)
theorem rect_333 {a : Nat → Int32} {x y w h v : Nat} : rectA a x y w h (nI v) 333 = a 333 := by
  unfold rectA putA
  exact if_neg (by decide)
theorem rect_cnt {a : Nat → Int32} {x y w h v : Nat} (hok : okA a) (hx : x < 24) (hy : y < 12) (hw : w = 1 ∨ w = 2 ∨ w = 3) (hh : h = 1 ∨ h = 2 ∨ h = 3) (hv : v < 256) : cntK a x y w (nI v) (w * h) = difK (rectA a x y w h (nI v)) a 288 := by
  rw [cnt_dif hok hx hy hw hv _ (by rcases hw with rfl | rfl | rfl <;> rcases hh with rfl | rfl | rfl <;> decide), rect_eq hx hy hw hh hv]
/-- the law's own words for what an ask answers -/
theorem ask_off {A : Nat → Int32} {x y v : Nat} {r : Int32} (hx : x < 100) (hy : y < 100) (er : r = arR (askF A (nI x) (nI y) (nI v))) (c : ¬ (x < 24 ∧ y < 12)) : r = -1 := by
  rw [er, askF_off (fun h => c ((onP_iffN hx hy).mp h))]
  rfl
theorem ask_same {A : Nat → Int32} {x y v : Nat} {r s : Int32} (hx : x < 24) (hy : y < 12) (hv : v < 256) (er : r = arR (askF A (nI x) (nI y) (nI v))) (es : s = spotQ A (nI x) (nI y) (nI 0)) (c : s = nI v) : r = -5 := by
  rw [spotQ_nI hx hy] at es
  have es : s = A (y * 24 + x) := es
  rw [er, askF_none hx hy (v_255 hv) (es.symm.trans c)]
  rfl
theorem ask_had {A : Nat → Int32} {x y v : Nat} {r s : Int32} (hx : x < 24) (hy : y < 12) (hv : v < 256) (er : r = arR (askF A (nI x) (nI y) (nI v))) (es : s = spotQ A (nI x) (nI y) (nI 0)) (c : ¬ s = nI v) : r = s := by
  rw [spotQ_nI hx hy] at es
  have es : s = A (y * 24 + x) := es
  rw [er, askF_go hx hy (v_255 hv) (fun g => c (es.trans g)), es]
  rfl
/-- what both objects share between two steps -/
def Iv (B : Nat) (σ1 σ2 : St) : Prop := ∃ (a b : Nat → Int32) (sn : Int32) (t1 t2 : Nat) (tx1 tx2 : Nat → Int32), Vw σ1 a b sn t1 tx1 ∧ Vw σ2 a b sn t2 tx2 ∧ okA a ∧ okA b ∧ (sn = 0 ∨ sn = 1) ∧ flkB a B ∧ flkB b B
theorem rst_ok {a b : Nat → Int32} {sn : Int32} (ha : okA a) (hb : okA b) : okA (arA (restF sn b) a) := by
  unfold restF
  by_cases q : sn = 0
  · rw [if_pos q]
    exact ha
  · rw [if_neg q]
    exact hb
theorem rst_flk {a b : Nat → Int32} {sn : Int32} {B : Nat} (ha : flkB a B) (hb : flkB b B) : flkB (arA (restF sn b) a) B := by
  unfold restF
  by_cases q : sn = 0
  · rw [if_pos q]
    exact ha
  · rw [if_neg q]
    exact hb
