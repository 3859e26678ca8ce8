/-! PURE: rectangles, moves, the plan's start, histories -/
def minN (a b : Nat) : Nat := if b < a then b else a
theorem minN_lt {k a b : Nat} : k < minN a b ↔ k < a ∧ k < b := by
  unfold minN
  split <;> omega
theorem minN_le {k a b : Nat} (h : minN a b ≤ k) : a ≤ k ∨ b ≤ k := by
  unfold minN at h
  split at h <;> omega
theorem minN_small (a b : Nat) (h : a < 2 ^ 31) : minN a b < 2 ^ 31 := by
  unfold minN
  split <;> omega
theorem imin_nI {a b : Nat} (ha : a < 2 ^ 31) (hb : b < 2 ^ 31) : imin (nI a) (nI b) = nI (minN a b) := by
  unfold imin minN
  by_cases h : b < a
  · rw [if_pos (nI_lt h ha), if_pos h]
  · rw [if_neg (nI_nlt (Nat.le_of_not_lt h) hb), if_neg h]
theorem maxN_zero (t : Nat) : maxN 0 t = t := by
  unfold maxN
  split <;> omega
abbrev inR (l t w h j : Nat) : Prop := (t ≤ j / 24 ∧ j / 24 < t + h) ∧ l ≤ j % 24 ∧ j % 24 < l + w
/-- a rectangle's spots below n -/
def paintK (r : Nat → Int32) (l t w h : Nat) (b : Int32) (n : Nat) : Nat → Int32 := fun j => if j < n ∧ inR l t w h j then b else r j
theorem paintK_0 {r : Nat → Int32} {l t w h : Nat} {b : Int32} : paintK r l t w h b 0 = r := by
  funext j
  unfold paintK
  rw [if_neg (by omega)]
theorem paintK_skip {r : Nat → Int32} {l t w h : Nat} {b : Int32} {n m : Nat} (hnm : n ≤ m) (hs : ∀ j, n ≤ j → j < m → ¬ inR l t w h j) : paintK r l t w h b n = paintK r l t w h b m := by
  funext j
  unfold paintK
  by_cases q : j < n
  · by_cases q2 : inR l t w h j
    · rw [if_pos ⟨q, q2⟩, if_pos ⟨by omega, q2⟩]
    · rw [if_neg (fun z => q2 z.2), if_neg (fun z => q2 z.2)]
  · rw [if_neg (fun z => q z.1), if_neg (fun z => hs j (by omega) z.1 z.2)]
theorem paintK_put {r : Nat → Int32} {l t w h : Nat} {b : Int32} {n : Nat} (hi : inR l t w h n) : upd (paintK r l t w h b n) n b = paintK r l t w h b (n + 1) := by
  funext j
  by_cases q : j = n
  · subst q
    rw [pk_us]
    unfold paintK
    rw [if_pos ⟨by omega, hi⟩]
  · rw [pk_un q]
    unfold paintK
    by_cases q2 : j < n ∧ inR l t w h j
    · rw [if_pos q2, if_pos ⟨by omega, q2.2⟩]
    · rw [if_neg q2, if_neg (fun z => q2 ⟨by omega, z.2⟩)]
theorem paint_row0 {r : Nat → Int32} {l t w h y : Nat} {b : Int32} (hl : l < 24) : paintK r l t w h b (24 * y) = paintK r l t w h b (24 * y + l) :=
  paintK_skip (by omega) (fun j h1 h2 z => by have := z.2.1; omega)
theorem paint_row1 {r : Nat → Int32} {l t w h y x : Nat} {b : Int32} (hx : x ≤ 24) (hR : minN 24 (l + w) ≤ x) : paintK r l t w h b (24 * y + x) = paintK r l t w h b (24 * (y + 1)) :=
  paintK_skip (by omega) (fun j h1 h2 z => by
    have := z.2.2
    rcases minN_le hR with q | q <;> omega)
theorem paint_first {r : Nat → Int32} {l t w h : Nat} {b : Int32} : r = paintK r l t w h b (24 * t) := by
  rw [← paintK_skip (n := 0) (Nat.zero_le _) (fun j h1 h2 z => by have := z.1.1; omega), paintK_0]
theorem paint_last {r : Nat → Int32} {l t w h y : Nat} {b : Int32} (hy : y ≤ 12) (hB : minN 12 (t + h) ≤ y) : paintK r l t w h b (24 * y) = paintK r l t w h b 288 :=
  paintK_skip (by omega) (fun j h1 h2 z => by
    have := z.1.2
    rcases minN_le hB with q | q <;> omega)
theorem paint_put {r : Nat → Int32} {l t w h y x : Nat} {b : Int32} (hx : x < 24) (h1 : t ≤ y) (h2 : y < t + h) (h3 : l ≤ x) (h4 : x < l + w) : upd (paintK r l t w h b (24 * y + x)) (y * 24 + x) b = paintK r l t w h b (24 * y + (x + 1)) := by
  have e : y * 24 + x = 24 * y + x := by omega
  rw [e]
  exact paintK_put ⟨⟨by omega, by omega⟩, by omega, by omega⟩
/-- a spot's new brightness when the picture r is moved -/
def onB (x y : Int32) : Bool := decide (¬ x < 0) && decide (¬ nI 24 ≤ x) && decide (¬ y < 0) && decide (¬ nI 12 ≤ y)
theorem onB_iff {x y : Int32} : onB x y = true ↔ onP x y := by
  rw [onP_iff]
  unfold onB
  simp only [Bool.and_eq_true, decide_eq_true_iff]
  exact ⟨fun h => ⟨h.1.1.1, h.1.1.2, h.1.2, h.2⟩, fun h => ⟨⟨⟨h.1, h.2.1⟩, h.2.2.1⟩, h.2.2.2⟩⟩
def shV (r : Nat → Int32) (fx fy : Int32) (j : Nat) : Int32 := if onB (nI (j % 24) + fx) (nI (j / 24) + fy) = true then r ((nI (j / 24) + fy).toNatClampNeg * 24 + (nI (j % 24) + fx).toNatClampNeg) else 0
def shK (o r : Nat → Int32) (fx fy : Int32) (n : Nat) : Nat → Int32 := fun j => if j < n then shV r fx fy j else o j
theorem shK_0 {o r : Nat → Int32} {fx fy : Int32} : shK o r fx fy 0 = o := by
  funext j
  exact if_neg (Nat.not_lt_zero _)
theorem shK_put {o r : Nat → Int32} {fx fy v : Int32} {n m : Nat} (hm : m = n) (hv : v = shV r fx fy n) : upd (shK o r fx fy n) m v = shK o r fx fy (n + 1) := by
  subst hm
  funext j
  by_cases q : j = m
  · subst q
    rw [pk_us, hv]
    unfold shK
    rw [if_pos (by omega)]
  · rw [pk_un q]
    unfold shK
    by_cases q2 : j < m
    · rw [if_pos q2, if_pos (by omega)]
    · rw [if_neg q2, if_neg (by omega)]
theorem shV_at {r : Nat → Int32} {fx fy : Int32} {x y : Nat} (hx : x < 24) : shV r fx fy (24 * y + x) = if onB (nI x + fx) (nI y + fy) = true then r ((nI y + fy).toNatClampNeg * 24 + (nI x + fx).toNatClampNeg) else 0 := by
  unfold shV
  rw [show (24 * y + x) % 24 = x by omega, show (24 * y + x) / 24 = y by omega]
/-- the plan's rows: the first levels -/
def lev0K (a : Nat → Int32) (r : Int32) (w : Nat → Int32) (n : Nat) : Nat → Int32 := fun j => if j < n then lev0 a r j else w j
def peaksK (a : Nat → Int32) (w : Nat → Int32) (n : Nat) : Nat → Int32 := fun j => if j < n then peakF a j else w j
theorem lev0K_0 {a w : Nat → Int32} {r : Int32} : lev0K a r w 0 = w := by
  funext j
  exact if_neg (Nat.not_lt_zero _)
theorem peaksK_0 {a w : Nat → Int32} : peaksK a w 0 = w := by
  funext j
  exact if_neg (Nat.not_lt_zero _)
theorem lev0K_put {a w : Nat → Int32} {r v : Int32} {n : Nat} (hv : v = lev0 a r n) : upd (lev0K a r w n) n v = lev0K a r w (n + 1) := by
  funext j
  by_cases q : j = n
  · subst q
    rw [pk_us, hv]
    exact (if_pos (by omega)).symm
  · rw [pk_un q]
    unfold lev0K
    by_cases q2 : j < n
    · rw [if_pos q2, if_pos (by omega)]
    · rw [if_neg q2, if_neg (by omega)]
theorem peaksK_put {a w : Nat → Int32} {v : Int32} {n : Nat} (hv : v = peakF a n) : upd (peaksK a w n) n v = peaksK a w (n + 1) := by
  funext j
  by_cases q : j = n
  · subst q
    rw [pk_us, hv]
    exact (if_pos (by omega)).symm
  · rw [pk_un q]
    unfold peaksK
    by_cases q2 : j < n
    · rw [if_pos q2, if_pos (by omega)]
    · rw [if_neg q2, if_neg (by omega)]
theorem lev0K_all {a w : Nat → Int32} {r : Int32} (hw : ∀ j, 18 ≤ j → w j = 0) : lev0K a r w 18 = fun z => if z < 18 then lev0 a r z else 0 := by
  funext j
  unfold lev0K
  by_cases q : j < 18
  · rw [if_pos q, if_pos q]
  · rw [if_neg q, if_neg q, hw j (by omega)]
/-- levels stay numbers below 256 -/
def lowW (w : Nat → Int32) : Prop := ∀ j, ∃ n, n < 256 ∧ w j = nI n
theorem imin_255 {x : Int32} (h : 0 ≤ x) : ∃ n, n < 256 ∧ imin 255 x = nI n := by
  unfold imin
  by_cases q : x < 255
  · rw [if_pos q]
    obtain ⟨n, hn, e⟩ := (inN_iff (n := 256) (by decide)).mpr ⟨Int32.not_lt.mpr h, fun z => by
      have e1 := Int32.lt_iff_toInt_lt.mp q
      have e2 := Int32.le_iff_toInt_le.mp z
      have e3 : (nI 256).toInt = 256 := by decide
      have e4 : (255 : Int32).toInt = 255 := by decide
      omega⟩
    exact ⟨n, hn, e⟩
  · rw [if_neg q]
    exact ⟨255, by decide, by decide⟩
theorem mk_step {σ : St} {r13 r12 : Nat → Int32} {k : Nat} {p v : Int32} : us (us (ur (ur σ 13 0 r13) 12 0 r12) 13 0 k p) 12 0 k v = ur (ur σ 13 0 (upd r13 k p)) 12 0 (upd r12 k v) := by
  have e1 : us (ur (ur σ 13 0 r13) 12 0 r12) 13 0 k p = ur (ur σ 13 0 (upd r13 k p)) 12 0 r12 := by
    rw [us, ur_k (by decide), ur_same, ur_swap (by decide), ur_ur]
  rw [e1, us_ur]
/-- what the plan wants of a screen's row -/
def okW (a : Nat → Int32) : Prop :=
  (∀ j, j < 288 → ∃ n, n < 256 ∧ a j = nI n) ∧ (∀ k, k < 18 → a (306 + k) = 0 ∨ a (306 + k) = 1) ∧
  (∃ n, 100 ≤ n ∧ n ≤ 256 ∧ a 324 = nI n) ∧ (∃ n, n ≤ 30 ∧ a 325 = nI n) ∧ (∃ n, n ≤ 9 ∧ a 326 = nI n) ∧ (∃ n, n ≤ 2 ∧ a 327 = nI n) ∧
  (∃ n, n ≤ 9 ∧ a 328 = nI n) ∧ (∃ n, n ≤ 50 ∧ a 329 = nI n) ∧ (∃ n, n ≤ 20 ∧ a 330 = nI n) ∧ ∃ n, 1 ≤ n ∧ n ≤ 255 ∧ a 331 = nI n
/-- a state's row -/
def okA (a : Nat → Int32) : Prop := okW a ∧ (∀ k, k < 18 → ∃ n, n < 256 ∧ a (288 + k) = nI n) ∧ (∀ k, k < 18 → a (306 + k) = 0 ∨ a (288 + k) = 0) ∧ ∀ j, 335 ≤ j → a j = 0
theorem imin_255n {m : Nat} (hm : m < 2 ^ 31) : imin 255 (nI m) = nI (minN 255 m) := imin_nI (a := 255) (by decide) hm
theorem minN_255 (m : Nat) : minN 255 m ≤ 255 := by
  unfold minN
  split <;> omega
theorem okW_peakK {a : Nat → Int32} (h : okW a) {z : Nat} (hz : z < 18) : ∀ k, k ≤ 16 → ∃ n, n < 256 ∧ peakK a z k = nI n
  | 0, _ => ⟨0, by decide, rfl⟩
  | k + 1, hk => by
    obtain ⟨n, hn, e⟩ := okW_peakK h hz k (by omega)
    obtain ⟨m, hm, e2⟩ := h.1 (spotN z k) (spotN_lt hz (by omega))
    refine ⟨maxN n m, by unfold maxN; split <;> omega, ?_⟩
    rw [peakK, e, e2]
    exact imax_nI (by omega) (by omega)
theorem okW_peak {a : Nat → Int32} (h : okW a) {z : Nat} (hz : z < 18) : ∃ n, n < 256 ∧ peakF a z = nI n := okW_peakK h hz 16 (Nat.le_refl _)
theorem okW_sumK {a : Nat → Int32} (h : okW a) {z : Nat} (hz : z < 18) : ∀ k, k ≤ 16 → ∃ n, n ≤ k * 255 ∧ sumK a z k = nI n
  | 0, _ => ⟨0, by decide, rfl⟩
  | k + 1, hk => by
    obtain ⟨n, hn, e⟩ := okW_sumK h hz k (by omega)
    obtain ⟨m, hm, e2⟩ := h.1 (spotN z k) (spotN_lt hz (by omega))
    refine ⟨n + m, by omega, ?_⟩
    rw [sumK, e, e2, nI_add]
theorem okW_mean {a : Nat → Int32} (h : okW a) {z : Nat} (hz : z < 18) : ∃ n, n < 256 ∧ meanF a z = nI n := by
  obtain ⟨n, hn, e⟩ := okW_sumK h hz 16 (Nat.le_refl _)
  refine ⟨n / 16, by omega, ?_⟩
  rw [meanF, e]
  exact pk_div (d := 16) (by omega) (by decide) (by decide)
theorem okW_aim {a : Nat → Int32} (h : okW a) {z : Nat} (hz : z < 18) (r : Int32) : ∃ n, n < 256 ∧ aimV a r (peakF a z) z = nI n := by
  obtain ⟨p, hp, ep⟩ := okW_peak h hz
  obtain ⟨m, hm, em⟩ := okW_mean h hz
  unfold aimV
  rw [ep, em]
  split
  · exact ⟨p, hp, rfl⟩
  · split
    · refine ⟨(p + m) / 2, by omega, ?_⟩
      rw [nI_add]
      exact pk_div (d := 2) (by omega) (by decide) (by decide)
    · exact ⟨m, hm, rfl⟩
theorem okW_lev0 {a : Nat → Int32} (h : okW a) {z : Nat} (hz : z < 18) (r : Int32) : ∃ n, n < 256 ∧ lev0 a r z = nI n := by
  obtain ⟨w, h1, h2, ew⟩ := h.2.2.1
  obtain ⟨p, hp, ep⟩ := okW_aim h hz r
  unfold lev0 ruleV
  rw [ep, ew]
  split
  · split
    · rw [show nI p * 256 = nI (p * 256) from pk_mul p 256, pk_div (by omega) (by omega) (by omega), imin_255n (by
        have := Nat.div_le_self (p * 256) w
        omega)]
      exact ⟨_, by have := minN_255 (p * 256 / w); omega, rfl⟩
    · exact ⟨0, by decide, rfl⟩
  · exact ⟨0, by decide, rfl⟩
theorem rup_nI {x y : Nat} (hx : x < 2 ^ 30) (hy : y < 2 ^ 30) : rupF (nI x) (nI y) = nI (if 0 < y then (x + y - 1) / y else 0) := by
  unfold rupF
  by_cases h : 0 < y
  · rw [if_pos (show 0 < nI y from nI_lt (a := 0) h (by omega)), if_pos h, nI_add, show nI (x + y) - 1 = nI (x + y - 1) from pk_sub (b := 1) (by omega), pk_div (by omega) h (by omega)]
  · rw [if_neg (show ¬ 0 < nI y from nI_nlt (a := 0) (b := y) (by omega) (by decide)), if_neg h]
    rfl
theorem rup_small {x y : Nat} (hx : x < 2 ^ 20) (hy : y < 2 ^ 20) : ∃ n, n < 2 ^ 21 ∧ rupF (nI x) (nI y) = nI n := by
  rw [rup_nI (by omega) (by omega)]
  refine ⟨_, ?_, rfl⟩
  split
  · have := Nat.div_le_self (x + y - 1) y
    omega
  · decide
theorem okW_glow {a w : Nat → Int32} (h : okW a) (hw : lowW w) {z : Nat} (hz : z < 18) : ∀ k, k ≤ 18 → ∃ n, n ≤ k * 65280 ∧ glowK a w z k = nI n
  | 0, _ => ⟨0, by decide, rfl⟩
  | k + 1, hk => by
    obtain ⟨n, hn, e⟩ := okW_glow h hw hz k (by omega)
    unfold glowK
    by_cases q : apartN z k < 3
    · rw [if_pos q, e]
      obtain ⟨m, hm, em⟩ := hw k
      have hs : ∃ s, s ≤ 256 ∧ a (324 + apartN z k) = nI s := by
        rcases (show apartN z k = 0 ∨ apartN z k = 1 ∨ apartN z k = 2 by omega) with q | q | q <;> rw [q]
        · obtain ⟨s, -, h2, e⟩ := h.2.2.1
          exact ⟨s, h2, e⟩
        · obtain ⟨s, h2, e⟩ := h.2.2.2.1
          exact ⟨s, by omega, e⟩
        · obtain ⟨s, h2, e⟩ := h.2.2.2.2.1
          exact ⟨s, by omega, e⟩
      obtain ⟨s, hs, es⟩ := hs
      have hms : m * s ≤ 65280 := Nat.le_trans (Nat.mul_le_mul (show m ≤ 255 by omega) hs) (by decide)
      refine ⟨n + m * s, by omega, ?_⟩
      rw [em, es, pk_mul, nI_add]
    · rw [if_neg q]
      exact ⟨n, Nat.le_trans hn (Nat.mul_le_mul_right _ (Nat.le_succ k)), e⟩
theorem lightV_nI {n : Nat} (h : n < 2 ^ 31) : ∃ m, m < 256 ∧ lightV (nI n) = nI m := by
  unfold lightV
  rw [show nI n / 256 = nI (n / 256) from pk_div (d := 256) h (by decide) (by decide), imin_255n (by omega)]
  exact ⟨_, by have := minN_255 (n / 256); omega, rfl⟩
theorem okW_light {a w : Nat → Int32} (h : okW a) (hw : lowW w) {z : Nat} (hz : z < 18) : ∃ n, n < 256 ∧ lightF a w z = nI n := by
  obtain ⟨n, hn, e⟩ := okW_glow h hw hz 18 (Nat.le_refl _)
  unfold lightF
  rw [e]
  exact lightV_nI (by omega)
theorem okW_lack {a w : Nat → Int32} (h : okW a) (hw : lowW w) {z : Nat} (hz : z < 18) : ∃ n, n < 256 ∧ lackV a w z = nI n := by
  obtain ⟨p, hp, ep⟩ := okW_peak h hz
  obtain ⟨q, hq, eq⟩ := okW_light h hw hz
  unfold lackV
  rw [ep, eq]
  by_cases g : q ≤ p
  · rw [pk_sub g]
    refine ⟨maxN 0 (p - q), by unfold maxN; split <;> omega, imax_nI (a := 0) (by decide) (by omega)⟩
  · refine ⟨0, by decide, ?_⟩
    unfold imax
    rw [if_neg]
    · rfl
    · have := pk_sneg (show q < 2 ^ 30 by omega) (show p < q by omega)
      intro z
      have e1 := Int32.lt_iff_toInt_lt.mp this
      have e2 := Int32.lt_iff_toInt_lt.mp z
      omega
theorem lowW_upd {w : Nat → Int32} {k n : Nat} (hw : lowW w) (hn : n < 256) : lowW (upd w k (nI n)) := by
  intro j
  by_cases q : j = k
  · subst q
    exact ⟨n, hn, pk_us⟩
  · rw [pk_un q]
    exact hw j
theorem raiseV_nI {v b : Nat} (hv : v < 256) (hb : b < 2 ^ 21) : ∃ n, n < 256 ∧ raiseV (nI v) (nI b) = nI n := by
  unfold raiseV
  rw [nI_add, imin_255n (by omega)]
  exact ⟨_, by have := minN_255 (v + b); omega, rfl⟩
theorem lowW_raise {w : Nat → Int32} {k b : Nat} (hw : lowW w) (hb : b < 2 ^ 21) : lowW (upd w k (raiseV (w k) (nI b))) := by
  obtain ⟨n, hn, e⟩ := hw k
  rw [e]
  obtain ⟨m, hm, e2⟩ := raiseV_nI hn hb
  rw [e2]
  exact lowW_upd hw hm
theorem lowW_raiseN {a w : Nat → Int32} {z b : Nat} (hw : lowW w) (hb : b < 2 ^ 21) : ∀ k, lowW (raiseNK a z (nI b) w k)
  | 0 => hw
  | k + 1 => by
    unfold raiseNK
    split
    · exact lowW_raise (lowW_raiseN hw hb k) hb
    · exact lowW_raiseN hw hb k
theorem helpK_le (a : Nat → Int32) (z : Nat) : ∀ k, helpK a z k ≤ k
  | 0 => Nat.le_refl _
  | k + 1 => by
    unfold helpK
    have := helpK_le a z k
    split <;> omega
theorem okW_near {a : Nat → Int32} (h : okW a) {z : Nat} : ∃ n, n ≤ 540 ∧ a 325 * nI (helpK a z 18) = nI n := by
  obtain ⟨s, h2, e⟩ := h.2.2.2.1
  refine ⟨s * helpK a z 18, ?_, by rw [e, pk_mul]⟩
  exact Nat.le_trans (Nat.mul_le_mul h2 (helpK_le a z 18)) (by decide)
theorem lowW_zone {a w : Nat → Int32} (h : okW a) (hw : lowW w) {z : Nat} (hz : z < 18) : lowW (zoneStep a w z) := by
  obtain ⟨n, hn, e⟩ := okW_lack h hw hz
  obtain ⟨o, h1, h2, eo⟩ := h.2.2.1
  obtain ⟨s, hs, es⟩ := okW_near h (z := z)
  unfold zoneStep
  rw [e, show nI n * 256 = nI (n * 256) from pk_mul n 256, eo, es]
  obtain ⟨b1, hb1, e1⟩ := rup_small (show n * 256 < 2 ^ 20 by omega) (show o < 2 ^ 20 by omega)
  obtain ⟨b2, hb2, e2⟩ := rup_small (show n * 256 < 2 ^ 20 by omega) (show s < 2 ^ 20 by omega)
  rw [e1, e2]
  split
  · exact lowW_raise hw hb1
  · exact lowW_raiseN hw hb2 18
theorem lowW_round {a w : Nat → Int32} (h : okW a) (hw : lowW w) : ∀ z, z ≤ 18 → lowW (roundK a w z)
  | 0, _ => hw
  | z + 1, hz => by
    unfold roundK
    exact lowW_zone h (lowW_round h hw z (by omega)) (by omega)
theorem lowW_rounds {a w : Nat → Int32} (h : okW a) (hw : lowW w) : ∀ k, lowW (roundsK a w k)
  | 0 => hw
  | k + 1 => by
    unfold roundsK
    exact lowW_round h (lowW_rounds h hw k) 18 (Nat.le_refl _)
theorem lowK_le (a : Nat → Int32) : ∀ n g, lowK a n g ≤ n
  | 0, _ => Nat.le_refl _
  | n + 1, g => by
    unfold lowK
    split
    · exact Nat.le_trans (lowK_le a n _) (Nat.le_succ n)
    · exact Nat.le_refl _
theorem lowW_lower {a w : Nat → Int32} (hw : lowW w) (z : Nat) : lowW (lowerV a w z) := by
  unfold lowerV
  split
  · obtain ⟨n, hn, e⟩ := hw z
    rw [e, nI_clamp (by omega)]
    exact lowW_upd hw (Nat.lt_of_le_of_lt (lowK_le a n _) hn)
  · exact hw
theorem lowW_lowers {a w : Nat → Int32} (hw : lowW w) : ∀ z, lowW (lowersK a w z)
  | 0 => hw
  | z + 1 => lowW_lower (lowW_lowers hw z) z
def lev0F (a : Nat → Int32) (r : Int32) : Nat → Int32 := fun z => if z < 18 then lev0 a r z else 0
theorem lowW_lev0 {a : Nat → Int32} (h : okW a) (r : Int32) : lowW (lev0F a r) := by
  intro j
  unfold lev0F
  split
  · rename_i q
    exact okW_lev0 h q r
  · exact ⟨0, by decide, rfl⟩
theorem lowW_want {a : Nat → Int32} (h : okW a) (r : Int32) : lowW (wantF a r) := lowW_lowers (lowW_rounds h (lowW_lev0 h r) _) 18
/-- the history with the state now put behind it -/
def recP (σ τ : St) (o n : Nat) : Prop := ∃ o' n', o' < 4 ∧ n' < 4 ∧ ((n < 4 ∧ o' = o ∧ n' = n) ∨ (n = 4 ∧ o' = (o + 1) % 4 ∧ n' = 3)) ∧ τ 6 0 1 = nI o' ∧ τ 6 0 2 = nI (n' + 1) ∧ scr τ (3 + (o' + n') % 4) = scr σ 0 ∧ ∀ k i, ¬ (k < 5 ∧ i = 3 + (o' + n') % 4) → ¬ k = 6 → τ k i = σ k i
theorem recP_end {σ τ : St} {o n o1 n1 : Nat} {v : Int32} (ho1 : o1 < 4) (hn1 : n1 < 4) (hsh : (n < 4 ∧ o1 = o ∧ n1 = n) ∨ (n = 4 ∧ o1 = (o + 1) % 4 ∧ n1 = 3)) (hc : scr τ (3 + (o1 + n1) % 4) = scr (us (us σ 6 0 1 (nI o1)) 6 0 2 (nI n1)) 0) (hx : eqX (us (us σ 6 0 1 (nI o1)) 6 0 2 (nI n1)) τ (3 + (o1 + n1) % 4)) (hv : v = nI (n1 + 1)) : recP σ (us τ 6 0 2 v) o n :=
  ⟨o1, n1, ho1, hn1, hsh, by rw [us_not (by decide), hx 6 0 (by omega), us_not (by decide), us_at], by rw [us_at, hv], by rw [scr_us (by decide), hc, scr_us (by decide), scr_us (by decide)], fun k i h1 h2 => by rw [us_k h2, hx k i h1, us_k h2, us_k h2]⟩
/-- the latest state taken back -/
def takeP (σ τ : St) (o n : Nat) (r : Int32) : Prop := (n = 0 ∧ r = nI 0 ∧ τ = σ) ∨ ∃ m, n = m + 1 ∧ r = nI 1 ∧ τ 6 0 1 = σ 6 0 1 ∧ τ 6 0 2 = nI m ∧ scr τ 0 = scr σ (3 + (o + m) % 4) ∧ ∀ k i, ¬ (k < 5 ∧ i = 0) → ¬ k = 6 → τ k i = σ k i
theorem takeP_end {σ τ : St} {o m : Nat} {v : Int32} (hc : scr τ 0 = scr (us σ 6 0 2 v) (3 + (o + m) % 4)) (hx : eqX (us σ 6 0 2 v) τ 0) (hv : v = nI m := by rfl) : takeP σ τ o (m + 1) (nI 1) :=
  Or.inr ⟨m, rfl, rfl, by rw [hx 6 0 (by omega), us_not (by decide)], by rw [hx 6 0 (by omega), us_at, hv], by rw [hc, scr_us (by decide)], fun k i h1 h2 => by rw [hx k i h1, us_k h2]⟩
