/-! PURE: what both sides compute, on the row of a state: 288 spots, 18 levels, 18 dead, 8 settings, frames, flicker, power -/
def imax (x y : Int32) : Int32 := if x < y then y else x
def imin (x y : Int32) : Int32 := if y < x then y else x
def iabs (x : Int32) : Int32 := if 0 ≤ x then x else 0 - x
def spotN (z w : Nat) : Nat := (z / 6 * 4 + w / 4) * 24 + (z % 6 * 4 + w % 4)
def distN (a b : Nat) : Nat := if a < b then b - a else a - b
def maxN (a b : Nat) : Nat := if a < b then b else a
def apartN (z o : Nat) : Nat := maxN (distN (z % 6) (o % 6)) (distN (z / 6) (o / 6))
theorem spotN_lt {z w : Nat} (hz : z < 18) (hw : w < 16) : spotN z w < 288 := by
  unfold spotN
  omega
theorem apartN_lt {z o : Nat} (hz : z < 18) (ho : o < 18) : apartN z o < 6 := by
  unfold apartN maxN distN
  (repeat' split) <;> omega
theorem apartN_self (z : Nat) : apartN z z = 0 := by
  unfold apartN maxN distN
  (repeat' split) <;> omega
theorem iabs_sub {a b : Nat} (ha : a < 2 ^ 30) (hb : b < 2 ^ 30) : iabs (nI a - nI b) = nI (distN a b) := by
  unfold iabs distN
  by_cases h : a < b
  · rw [if_neg, if_pos h]
    · rw [← pk_sub (Nat.le_of_lt h)]
      apply Int32.toBitVec_inj.1
      show (0#32) - (BitVec.ofNat 32 a - BitVec.ofNat 32 b) = BitVec.ofNat 32 b - BitVec.ofNat 32 a
      rw [BitVec.zero_sub, BitVec.neg_sub, BitVec.add_comm, ← BitVec.sub_eq_add_neg]
    · intro q
      have := pk_sneg hb h
      exact absurd (Int32.lt_iff_toInt_lt.mp this) (by have := Int32.le_iff_toInt_le.mp q; omega)
  · rw [if_pos, if_neg h, pk_sub (Nat.le_of_not_lt h)]
    rw [pk_sub (Nat.le_of_not_lt h)]
    exact nI_pos' (by omega)
theorem imax_nI {a b : Nat} (ha : a < 2 ^ 31) (hb : b < 2 ^ 31) : imax (nI a) (nI b) = nI (maxN a b) := by
  unfold imax maxN
  by_cases h : a < b
  · rw [if_pos (nI_lt h hb), if_pos h]
  · rw [if_neg (nI_nlt (Nat.le_of_not_lt h) ha), if_neg h]
/-- over a zone's spots -/
def peakK (a : Nat → Int32) (z : Nat) : Nat → Int32
  | 0 => 0
  | k + 1 => imax (peakK a z k) (a (spotN z k))
def peakF (a : Nat → Int32) (z : Nat) : Int32 := peakK a z 16
def sumK (a : Nat → Int32) (z : Nat) : Nat → Int32
  | 0 => 0
  | k + 1 => sumK a z k + a (spotN z k)
def meanF (a : Nat → Int32) (z : Nat) : Int32 := sumK a z 16 / 16
def blackK (a : Nat → Int32) (z : Nat) : Nat → Bool
  | 0 => false
  | k + 1 => blackK a z k || decide (a (spotN z k) = 0)
def blackF (a : Nat → Int32) (z : Nat) : Bool := blackK a z 16
/-- light -/
def glowK (a lev : Nat → Int32) (z : Nat) : Nat → Int32
  | 0 => 0
  | k + 1 => if apartN z k < 3 then glowK a lev z k + lev k * a (324 + apartN z k) else glowK a lev z k
def lightV (g : Int32) : Int32 := imin 255 (g / 256)
def lightF (a lev : Nat → Int32) (z : Nat) : Int32 := lightV (glowK a lev z 18)
def levO (a : Nat → Int32) : Nat → Int32 := fun k => a (288 + k)
def leakF (a : Nat → Int32) (light : Int32) : Int32 := light * a 329 / 1000
def rupF (x y : Int32) : Int32 := if 0 < y then (x + y - 1) / y else 0
def glassF (asked light : Int32) : Int32 := imin 255 (rupF (asked * 255) light)
def shownF (a : Nat → Int32) (asked light : Int32) : Int32 := imax (light * glassF asked light / 255) (leakF a light)
def verdF (asked shown : Int32) : Int32 := if shown = asked then 0 else if shown < asked then 1 else 2
def powK (lev : Nat → Int32) : Nat → Int32
  | 0 => 0
  | k + 1 => powK lev k + lev k
def deadK (a : Nat → Int32) : Nat → Int32
  | 0 => 0
  | k + 1 => if a (306 + k) = 0 then deadK a k else deadK a k + 1
/-- what spots show, added up: over the spots of a zone, over the zones -/
def accK (f : Int32 → Nat → Nat → Int32) (z : Nat) (acc : Int32) : Nat → Int32
  | 0 => acc
  | k + 1 => f (accK f z acc k) z k
def accZ (f : Int32 → Nat → Nat → Int32) (acc : Int32) : Nat → Int32
  | 0 => acc
  | z + 1 => accK f z (accZ f acc z) 16
def shownAt (a lev : Nat → Int32) (z w : Nat) : Int32 := shownF a (a (spotN z w)) (lightF a lev z)
def fVerd (a lev : Nat → Int32) (v : Int32) : Int32 → Nat → Nat → Int32 := fun acc z w => if verdF (a (spotN z w)) (shownAt a lev z w) = v then acc + 1 else acc
def fOff (a lev : Nat → Int32) : Int32 → Nat → Nat → Int32 := fun acc z w => acc + iabs (shownAt a lev z w - a (spotN z w))
def fMost (a lev : Nat → Int32) : Int32 → Nat → Nat → Int32 := fun acc z w => imax acc (iabs (shownAt a lev z w - a (spotN z w)))
def fShown (a lev : Nat → Int32) : Int32 → Nat → Nat → Int32 := fun acc z w => acc + shownAt a lev z w
/-- wanted levels -/
def aimV (a : Nat → Int32) (r pk : Int32) (z : Nat) : Int32 := if r = 0 then pk else if r = 1 then (pk + meanF a z) / 2 else meanF a z
def ruleV (a : Nat → Int32) (r pk : Int32) (z : Nat) : Int32 := if 0 < a 324 then imin 255 (aimV a r pk z * 256 / a 324) else 0
def lev0 (a : Nat → Int32) (r : Int32) (z : Nat) : Int32 := if a (306 + z) = 0 then ruleV a r (peakF a z) z else 0
def helpB (a : Nat → Int32) (z o : Nat) : Bool := decide (a (306 + o) = 0) && decide (apartN z o = 1)
def helpK (a : Nat → Int32) (z : Nat) : Nat → Nat
  | 0 => 0
  | k + 1 => if helpB a z k = true then helpK a z k + 1 else helpK a z k
def raiseV (v b : Int32) : Int32 := imin 255 (v + b)
def raiseNK (a : Nat → Int32) (z : Nat) (b : Int32) (w : Nat → Int32) : Nat → Nat → Int32
  | 0 => w
  | k + 1 => if helpB a z k = true then upd (raiseNK a z b w k) k (raiseV (raiseNK a z b w k k) b) else raiseNK a z b w k
def lackV (a w : Nat → Int32) (z : Nat) : Int32 := imax 0 (peakF a z - lightF a w z)
def zoneStep (a w : Nat → Int32) (z : Nat) : Nat → Int32 := if a (306 + z) = 0 then upd w z (raiseV (w z) (rupF (lackV a w z * 256) (a 324))) else raiseNK a z (rupF (lackV a w z * 256) (a 325 * nI (helpK a z 18))) w 18
def roundK (a w : Nat → Int32) : Nat → Nat → Int32
  | 0 => w
  | z + 1 => zoneStep a (roundK a w z) z
def roundsK (a w : Nat → Int32) : Nat → Nat → Int32
  | 0 => w
  | k + 1 => roundK a (roundsK a w k) 18
def lowK (a : Nat → Int32) : Nat → Int32 → Nat
  | 0, _ => 0
  | n + 1, g => if a 330 < leakF a (lightV g) then lowK a n (g - a 324) else n + 1
def lowerV (a w : Nat → Int32) (z : Nat) : Nat → Int32 := if blackF a z = true then upd w z (nI (lowK a (w z).toNatClampNeg (glowK a w z 18))) else w
def lowersK (a w : Nat → Int32) : Nat → Nat → Int32
  | 0 => w
  | z + 1 => lowerV a (lowersK a w z) z
def wantF (a : Nat → Int32) (r : Int32) : Nat → Int32 := lowersK a (roundsK a (fun z => if z < 18 then lev0 a r z else 0) (a 328).toNatClampNeg) 18
/-- a frame -/
def chgF (a w : Nat → Int32) (z : Nat) : Int32 := if a (306 + z) = 0 then imax (-(a 331)) (imin (a 331) (w z - a (288 + z))) else 0
def flickK (a w : Nat → Int32) : Nat → Int32
  | 0 => a 333
  | z + 1 => flickK a w z + iabs (chgF a w z)
def frameF (a w : Nat → Int32) : Nat → Int32 := fun j =>
  if 288 ≤ j ∧ j < 306 then a j + chgF a w (j - 288) else if j = 332 then a 332 + 1 else if j = 333 then flickK a w 18
  else if j = 334 then a 334 + powK (fun k => a (288 + k) + chgF a w k) 18 else a j
def framesK (a w : Nat → Int32) : Nat → Nat → Int32
  | 0 => a
  | k + 1 => frameF (framesK a w k) w
/-- the farthest level -/
def gapK (a w : Nat → Int32) : Nat → Int32
  | 0 => 0
  | z + 1 => imax (gapK a w z) (iabs (w z - a (288 + z)))
def gapF (a : Nat → Int32) : Int32 := gapK a (wantF a (a 327)) 18
/-- a screen's row -/
def scr (σ : St) (s : Nat) : Nat → Int32 := fun j => if j < 288 then σ 1 s j else if j < 306 then σ 2 s (j - 288) else if j < 324 then σ 3 s (j - 306) else if j < 332 then σ 4 s (j - 324) else if j < 335 then σ 0 s (j - 328) else 0
theorem scr_asked {σ : St} {s j : Nat} (h : j < 288) : scr σ s j = σ 1 s j := if_pos h
theorem scr_level {σ : St} {s k : Nat} (h : k < 18) : scr σ s (288 + k) = σ 2 s k := by
  unfold scr
  rw [if_neg (by omega), if_pos (by omega)]
  rw [show 288 + k - 288 = k by omega]
theorem scr_dead {σ : St} {s k : Nat} (h : k < 18) : scr σ s (306 + k) = σ 3 s k := by
  unfold scr
  rw [if_neg (by omega), if_neg (by omega), if_pos (by omega)]
  rw [show 306 + k - 306 = k by omega]
theorem scr_set {σ : St} {s k : Nat} (h : k < 8) : scr σ s (324 + k) = σ 4 s k := by
  unfold scr
  rw [if_neg (by omega), if_neg (by omega), if_neg (by omega), if_pos (by omega)]
  rw [show 324 + k - 324 = k by omega]
theorem scr_fld {σ : St} {s k : Nat} (h1 : 4 ≤ k) (h : k < 7) : scr σ s (328 + k) = σ 0 s k := by
  unfold scr
  rw [if_neg (by omega), if_neg (by omega), if_neg (by omega), if_neg (by omega), if_pos (by omega)]
  rw [show 328 + k - 328 = k by omega]
theorem scr_out {σ : St} {s j : Nat} (h : 335 ≤ j) : scr σ s j = 0 := by
  unfold scr
  rw [if_neg (by omega), if_neg (by omega), if_neg (by omega), if_neg (by omega), if_neg (by omega)]
theorem scr_congr {σ τ : St} {s : Nat} (h : ∀ k, k < 5 → σ k s = τ k s) : scr σ s = scr τ s := by
  funext j
  unfold scr
  rw [h 0 (by omega), h 1 (by omega), h 2 (by omega), h 3 (by omega), h 4 (by omega)]
theorem glowK_congr {a lev lev' : Nat → Int32} {z : Nat} (h : ∀ k, k < 18 → lev k = lev' k) : ∀ k, k ≤ 18 → glowK a lev z k = glowK a lev' z k
  | 0, _ => rfl
  | k + 1, hk => by
    unfold glowK
    rw [glowK_congr h k (by omega), h k (by omega)]
theorem powK_congr {lev lev' : Nat → Int32} (h : ∀ k, k < 18 → lev k = lev' k) : ∀ k, k ≤ 18 → powK lev k = powK lev' k
  | 0, _ => rfl
  | k + 1, hk => by
    unfold powK
    rw [powK_congr h k (by omega), h k (by omega)]
theorem blackK_mono {a : Nat → Int32} {z k : Nat} (h : blackK a z k = true) : ∀ n, blackK a z (k + n) = true
  | 0 => h
  | n + 1 => by
    show (blackK a z (k + n) || _) = true
    rw [blackK_mono h n]
    rfl
theorem us_ap (σ : St) (k i j : Nat) (v : Int32) (k' i' j' : Nat) : us σ k i j v k' i' j' = if k' = k ∧ i' = i ∧ j' = j then v else σ k' i' j' := by
  show (if k' = k ∧ i' = i then upd (σ k i) j v else σ k' i') j' = _
  by_cases h : k' = k ∧ i' = i
  · obtain ⟨rfl, rfl⟩ := h
    rw [if_pos ⟨rfl, rfl⟩]
    by_cases hj : j' = j
    · rw [if_pos ⟨rfl, rfl, hj⟩]
      exact if_pos hj
    · rw [if_neg (fun q => hj q.2.2)]
      exact if_neg hj
  · rw [if_neg h, if_neg (fun q => h ⟨q.1, q.2.1⟩)]
theorem ur_ap (σ : St) (k i : Nat) (r : Nat → Int32) (k' i' j' : Nat) : ur σ k i r k' i' j' = if k' = k ∧ i' = i then r j' else σ k' i' j' := by
  unfold ur
  by_cases h : k' = k ∧ i' = i
  · rw [if_pos h, if_pos h]
  · rw [if_neg h, if_neg h]
theorem St_ext {σ τ : St} (h : ∀ k i j, σ k i j = τ k i j) : σ = τ := funext fun k => funext fun i => funext fun j => h k i j
/-- nothing but screen s changes -/
def eqX (σ τ : St) (s : Nat) : Prop := ∀ k i, ¬ (k < 5 ∧ i = s) → τ k i = σ k i
theorem helpB_iff {a : Nat → Int32} {z o : Nat} : helpB a z o = true ↔ a (306 + o) = 0 ∧ apartN z o = 1 := by
  unfold helpB
  rw [Bool.and_eq_true, decide_eq_true_iff, decide_eq_true_iff]
theorem ur_self {σ : St} {k i : Nat} {r : Nat → Int32} (h : σ k i = r) : ur σ k i r = σ := by
  apply St_ext
  intro k1 i1 j1
  rw [ur_ap]
  split
  · rename_i q
    rw [q.1, q.2, h]
  · rfl
theorem us_self {σ : St} {k i j : Nat} {v : Int32} (h : σ k i j = v) : us σ k i j v = σ := by
  apply St_ext
  intro k1 i1 j1
  rw [us_ap]
  split
  · rename_i q
    rw [q.1, q.2.1, q.2.2, h]
  · rfl
theorem ur_ur {σ : St} {k i : Nat} {r q : Nat → Int32} : ur (ur σ k i r) k i q = ur σ k i q := by
  apply St_ext
  intro k1 i1 j1
  simp only [ur_ap]
  split <;> rfl
theorem us_ur {σ : St} {k i j : Nat} {r : Nat → Int32} {v : Int32} : us (ur σ k i r) k i j v = ur σ k i (upd r j v) := by
  rw [us, ur_same, ur_ur]
theorem us_us {σ : St} {k i j : Nat} {v w : Int32} : us (us σ k i j v) k i j w = us σ k i j w := by
  apply St_ext
  intro k1 i1 j1
  simp only [us_ap]
  split <;> rfl
theorem ur_swap {σ : St} {k i k' i' : Nat} {r q : Nat → Int32} (h : k ≠ k') : ur (ur σ k i r) k' i' q = ur (ur σ k' i' q) k i r := by
  apply St_ext
  intro k1 i1 j1
  simp only [ur_ap]
  (repeat' split) <;> first | rfl | (exfalso; omega)
theorem scr_ur {σ : St} {k i s : Nat} {r : Nat → Int32} (h : 5 ≤ k) : scr (ur σ k i r) s = scr σ s := scr_congr fun k1 h1 => ur_k (by omega)
theorem scr_us {σ : St} {k i j s : Nat} {v : Int32} (h : 5 ≤ k) : scr (us σ k i j v) s = scr σ s := scr_congr fun k1 h1 => us_k (by omega)
/-- a tally's row with one spot more: dark, bright, off, most, shown -/
def tAdd (r : Nat → Int32) (x y : Int32) : Nat → Int32 := fun j =>
  if j = 0 then (if verdF x y = 1 then r 0 + 1 else r 0) else if j = 1 then (if verdF x y = 2 then r 1 + 1 else r 1)
  else if j = 2 then r 2 + iabs (y - x) else if j = 3 then imax (r 3) (iabs (y - x)) else if j = 4 then r 4 + y else r j
def tZ (a lev : Nat → Int32) (z : Nat) (r : Nat → Int32) : Nat → Nat → Int32
  | 0 => r
  | k + 1 => tAdd (tZ a lev z r k) (a (spotN z k)) (shownAt a lev z k)
def tAll (a lev : Nat → Int32) : Nat → Nat → Int32
  | 0 => fun _ => 0
  | z + 1 => tZ a lev z (tAll a lev z) 16
