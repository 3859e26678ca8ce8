/-! PURE: the reference's rounds, frames and lists of settings -/
theorem nI_neg {n : Nat} (h : n < 2 ^ 31) : (-(nI n)).toInt = -(n : Int) := by
  rw [show -(nI n) = Int32.ofInt (-(n : Int)) from Int32.neg_ofNat, Int32.toInt_ofInt_of_le (by omega) (by omega)]
theorem okW_own {a : Nat → Int32} (h : okW a) : 0 < a 324 := by
  obtain ⟨n, h1, h2, e⟩ := h.2.2.1
  rw [e]
  exact nI_lt (a := 0) (by omega) (by omega)
theorem zone_live {a w : Nat → Int32} {z : Nat} (hd : a (306 + z) = 0) (h : ¬ peakF a z - lightF a w z ≤ 0) : zoneStep a w z = upd w z (raiseV (w z) (rupF ((peakF a z - lightF a w z) * 256) (a 324))) := by
  rw [zoneStep, if_pos hd, lack_p h]
theorem zone_dead {a w : Nat → Int32} {z : Nat} (hd : ¬ a (306 + z) = 0) (h : ¬ peakF a z - lightF a w z ≤ 0) : zoneStep a w z = raiseNK a z (rupF ((peakF a z - lightF a w z) * 256) (a 325 * nI (helpK a z 18))) w 18 := by
  rw [zoneStep, if_neg hd, lack_p h]
/-- dead zones want nothing -/
theorem dead_raiseN {a w : Nat → Int32} {z o : Nat} {b : Int32} (hd : ¬ a (306 + o) = 0) : ∀ k, raiseNK a z b w k o = w o
  | 0 => rfl
  | k + 1 => by
    unfold raiseNK
    by_cases q : helpB a z k = true
    · rw [if_pos q, pk_un, dead_raiseN hd k]
      intro e
      rw [e] at hd
      exact hd (helpB_iff.mp q).1
    · rw [if_neg q, dead_raiseN hd k]
theorem dead_zone {a w : Nat → Int32} {z o : Nat} (hd : ¬ a (306 + o) = 0) : zoneStep a w z o = w o := by
  unfold zoneStep
  by_cases q : a (306 + z) = 0
  · rw [if_pos q, pk_un]
    intro e
    rw [e] at hd
    exact hd q
  · rw [if_neg q, dead_raiseN hd]
theorem dead_round {a w : Nat → Int32} {o : Nat} (hd : ¬ a (306 + o) = 0) : ∀ z, roundK a w z o = w o
  | 0 => rfl
  | z + 1 => by rw [roundK, dead_zone hd, dead_round hd z]
theorem dead_rounds {a w : Nat → Int32} {o : Nat} (hd : ¬ a (306 + o) = 0) : ∀ k, roundsK a w k o = w o
  | 0 => rfl
  | k + 1 => by rw [roundsK, dead_round hd, dead_rounds hd k]
theorem dead_lowers {a w : Nat → Int32} {o : Nat} (hw : w o = 0) : ∀ z, lowersK a w z o = 0
  | 0 => hw
  | z + 1 => by
    unfold lowersK lowerV
    split
    · by_cases q : o = z
      · subst q
        rw [pk_us, dead_lowers hw o]
        rfl
      · rw [pk_un q]
        exact dead_lowers hw z
    · exact dead_lowers hw z
theorem dead_want {a : Nat → Int32} {r : Int32} {o : Nat} (hd : ¬ a (306 + o) = 0) : wantF a r o = 0 := by
  refine dead_lowers ?_ 18
  rw [dead_rounds hd]
  show (if o < 18 then lev0 a r o else 0) = 0
  split
  · exact if_neg hd
  · rfl
/-- how a level moves, as the reference says it -/
def movV (s by_ : Int32) : Int32 := if s < by_ then s else if by_ < -s then -s else by_
theorem movV_eq {n : Nat} {x : Int32} (h1 : 1 ≤ n) (h2 : n ≤ 255) : movV (nI n) x = imax (-(nI n)) (imin (nI n) x) := by
  have en : (nI n).toInt = n := nI_toInt (by omega)
  have em : (-(nI n)).toInt = -(n : Int) := nI_neg (by omega)
  unfold movV imin imax
  simp only [Int32.lt_iff_toInt_lt, en, em]
  by_cases c1 : (n : Int) < x.toInt
  · rw [if_pos c1, if_neg (by omega : ¬ x.toInt < (n : Int))]
    rw [if_pos (by rw [en]; omega)]
  · rw [if_neg c1]
    by_cases c2 : x.toInt < (n : Int)
    · rw [if_pos c2]
      by_cases c3 : x.toInt < -(n : Int)
      · rw [if_pos c3, if_neg (by omega)]
      · rw [if_neg c3]
        by_cases c4 : -(n : Int) < x.toInt
        · rw [if_pos c4]
        · rw [if_neg c4]
          exact Int32.toInt_inj.mp (by rw [em]; omega)
    · rw [if_neg c2, if_neg (by omega), if_pos (by rw [en]; omega)]
      exact Int32.toInt_inj.mp (by rw [en]; omega)
theorem movV_0 {n : Nat} (h1 : 1 ≤ n) (h2 : n ≤ 255) : movV (nI n) 0 = 0 := by
  rw [movV_eq h1 h2]
  have en : (nI n).toInt = n := nI_toInt (by omega)
  have em : (-(nI n)).toInt = -(n : Int) := nI_neg (by omega)
  unfold imin imax
  have e0 : (0 : Int32).toInt = 0 := rfl
  have c1 : (0 : Int32) < nI n := Int32.lt_iff_toInt_lt.mpr (by rw [en, e0]; omega)
  have c2 : -(nI n) < (0 : Int32) := Int32.lt_iff_toInt_lt.mpr (by rw [em, e0]; omega)
  rw [if_pos c1, if_pos c2]
/-- wanted levels of a state: none of dead zones -/
def wOK (a w : Nat → Int32) : Prop := lowW w ∧ ∀ z, z < 18 → ¬ a (306 + z) = 0 → w z = 0
theorem wOK_want {a : Nat → Int32} (h : okW a) (r : Int32) : wOK a (wantF a r) := ⟨lowW_want h r, fun _ _ hd => dead_want hd⟩
theorem mov_chg {a w : Nat → Int32} {z : Nat} (h : okA a) (hw : wOK a w) (hz : z < 18) : movV (a 331) (w z - a (288 + z)) = chgF a w z := by
  obtain ⟨n, h1, h2, e⟩ := h.1.2.2.2.2.2.2.2.2.2
  unfold chgF
  by_cases hd : a (306 + z) = 0
  · rw [if_pos hd, e, movV_eq h1 h2]
  · rw [if_neg hd, hw.2 z hz hd, (h.2.2.1 z hz).resolve_left hd, e, Int32.sub_self, movV_0 h1 h2]
/-- a frame keeps a state sound -/
theorem chg_level {a w : Nat → Int32} {z : Nat} (h : okA a) (hw : wOK a w) (hz : z < 18) : (∃ n, n < 256 ∧ a (288 + z) + chgF a w z = nI n) ∧ (a (306 + z) = 0 ∨ a (288 + z) + chgF a w z = 0) := by
  obtain ⟨n, h1, h2, e⟩ := h.1.2.2.2.2.2.2.2.2.2
  obtain ⟨v, hv, ev⟩ := h.2.1 z hz
  obtain ⟨u, hu, eu⟩ := hw.1 z
  rw [← mov_chg h hw hz, e, ev, eu]
  have en : (nI n).toInt = n := nI_toInt (by omega)
  refine ⟨?_, ?_⟩
  · by_cases g : u < v
    · have e1 : nI u - nI v = -(nI (v - u)) := by rw [← pk_sub (by omega), Int32.neg_sub]
      rw [e1]
      unfold movV
      have em : (-(nI (v - u))).toInt = -((v - u : Nat) : Int) := nI_neg (by omega)
      have em2 : (-(nI n)).toInt = -(n : Int) := nI_neg (by omega)
      rw [if_neg (fun q => by have := Int32.lt_iff_toInt_lt.mp q; rw [en, em] at this; omega)]
      split
      · rename_i q
        have := Int32.lt_iff_toInt_lt.mp q
        rw [em, em2] at this
        rw [← Int32.sub_eq_add_neg, pk_sub (by omega)]
        exact ⟨v - n, by omega, rfl⟩
      · rw [← Int32.sub_eq_add_neg, pk_sub (by omega)]
        exact ⟨_, by omega, rfl⟩
    · rw [pk_sub (by omega)]
      unfold movV
      split
      · rename_i q
        have := Int32.lt_iff_toInt_lt.mp q
        rw [en, nI_toInt (by omega)] at this
        rw [nI_add]
        exact ⟨_, by omega, rfl⟩
      · rw [if_neg, nI_add]
        · exact ⟨_, by omega, rfl⟩
        · intro q
          have := Int32.lt_iff_toInt_lt.mp q
          rw [nI_toInt (by omega), nI_neg (by omega)] at this
          omega
  · rcases h.2.2.1 z hz with g | g
    · exact Or.inl g
    · by_cases hd : a (306 + z) = 0
      · exact Or.inl hd
      · right
        have e0 : v = 0 := by
          rw [ev] at g
          exact (nI_eq (b := 0) (by omega) (by decide)).mp g
        have e1 : u = 0 := by
          have q := hw.2 z hz hd
          rw [eu] at q
          exact (nI_eq (b := 0) (by omega) (by decide)).mp q
        rw [e0, e1, Int32.sub_self, movV_0 h1 h2]
        decide
theorem frameF_at {a w : Nat → Int32} {j : Nat} (h : ¬ (288 ≤ j ∧ j < 306)) (h1 : ¬ j = 332) (h2 : ¬ j = 333) (h3 : ¬ j = 334) : frameF a w j = a j := by
  unfold frameF
  rw [if_neg h, if_neg h1, if_neg h2, if_neg h3]
theorem frameF_lev {a w : Nat → Int32} {z : Nat} (h : z < 18) : frameF a w (288 + z) = a (288 + z) + chgF a w z := by
  unfold frameF
  rw [if_pos (by omega), show 288 + z - 288 = z by omega]
theorem okA_frame {a w : Nat → Int32} (h : okA a) (hw : wOK a w) : okA (frameF a w) := by
  obtain ⟨⟨h1, h2, h3, h4, h5, h6, h7, h8, h9, h10⟩, g1, g2, g3⟩ := h
  refine ⟨⟨fun j q => by rw [frameF_at (by omega) (by omega) (by omega) (by omega)]; exact h1 j q, fun k q => by rw [frameF_at (by omega) (by omega) (by omega) (by omega)]; exact h2 k q, h3, h4, h5, h6, h7, h8, h9, h10⟩, fun k q => ?_, fun k q => ?_, fun j q => ?_⟩
  · rw [frameF_lev q]
    exact (chg_level ⟨⟨h1, h2, h3, h4, h5, h6, h7, h8, h9, h10⟩, g1, g2, g3⟩ hw q).1
  · rw [frameF_lev q, frameF_at (by omega) (by omega) (by omega) (by omega)]
    exact (chg_level ⟨⟨h1, h2, h3, h4, h5, h6, h7, h8, h9, h10⟩, g1, g2, g3⟩ hw q).2
  · rw [frameF_at (by omega) (by omega) (by omega) (by omega)]
    exact g3 j q
theorem wOK_frame {a w : Nat → Int32} (hw : wOK a w) : wOK (frameF a w) w := ⟨hw.1, fun z hz hd => hw.2 z hz (by rw [frameF_at (by omega) (by omega) (by omega) (by omega)] at hd; exact hd)⟩
theorem ok_frames {a w : Nat → Int32} (h : okA a) (hw : wOK a w) : ∀ k, okA (framesK a w k) ∧ wOK (framesK a w k) w
  | 0 => ⟨h, hw⟩
  | k + 1 => ⟨okA_frame (ok_frames h hw k).1 (ok_frames h hw k).2, wOK_frame (ok_frames h hw k).2⟩
/-- a frame with z zones done -/
def frK (a w : Nat → Int32) (z : Nat) : Nat → Int32 := fun j => if 288 ≤ j ∧ j < 288 + z then a j + chgF a w (j - 288) else if j = 333 then flickK a w z else a j
theorem frK_0 {a w : Nat → Int32} : frK a w 0 = a := by
  funext j
  unfold frK
  rw [if_neg (by omega)]
  split
  · rename_i q
    rw [q]
    rfl
  · rfl
theorem frK_put {a w : Nat → Int32} {z : Nat} {v f c : Int32} (hz : z < 18) (hc : c = chgF a w z) (hv : v = frK a w z (288 + z) + c) (hf : f = upd (frK a w z) (288 + z) v 333 + iabs c) : upd (upd (frK a w z) (288 + z) v) 333 f = frK a w (z + 1) := by
  have e1 : frK a w z (288 + z) = a (288 + z) := by
    unfold frK
    rw [if_neg (by omega), if_neg (by omega)]
  have e2 : frK a w z 333 = flickK a w z := by
    unfold frK
    rw [if_neg (by omega), if_pos rfl]
  rw [pk_un (by omega), e2] at hf
  funext j
  by_cases q : j = 333
  · subst q
    rw [pk_us, hf, hc]
    unfold frK
    rw [if_neg (by omega), if_pos rfl]
    rfl
  · rw [pk_un q]
    by_cases q2 : j = 288 + z
    · subst q2
      rw [pk_us, hv, e1, hc]
      unfold frK
      rw [if_pos (by omega), show 288 + z - 288 = z by omega]
    · rw [pk_un q2]
      unfold frK
      rw [if_neg q, if_neg q]
      by_cases q3 : 288 ≤ j ∧ j < 288 + z
      · rw [if_pos q3, if_pos (by omega)]
      · rw [if_neg q3, if_neg (by omega)]
theorem frK_end {a w : Nat → Int32} {x y : Int32} (hx : x = frK a w 18 332 + 1) (hy : y = upd (frK a w 18) 332 x 334 + powK (levO (upd (frK a w 18) 332 x)) 18) : upd (upd (frK a w 18) 332 x) 334 y = frameF a w := by
  have e1 : frK a w 18 332 = a 332 := by
    unfold frK
    rw [if_neg (by omega), if_neg (by omega)]
  have e2 : frK a w 18 334 = a 334 := by
    unfold frK
    rw [if_neg (by omega), if_neg (by omega)]
  have e3 : powK (levO (upd (frK a w 18) 332 x)) 18 = powK (fun k => a (288 + k) + chgF a w k) 18 := powK_congr (fun k q => by
    show upd (frK a w 18) 332 x (288 + k) = _
    rw [pk_un (by omega)]
    unfold frK
    rw [if_pos (by omega), show 288 + k - 288 = k by omega]) 18 (Nat.le_refl _)
  rw [e1] at hx
  rw [pk_un (by decide), e2, e3] at hy
  funext j
  unfold frameF
  by_cases q : j = 334
  · subst q
    rw [pk_us, if_neg (by omega), if_neg (by omega), if_neg (by omega), if_pos rfl, hy]
  · rw [pk_un q]
    by_cases q2 : j = 332
    · subst q2
      rw [pk_us, if_neg (by omega), if_pos rfl, hx]
    · rw [pk_un q2, if_neg q2, if_neg q]
      unfold frK
      by_cases q3 : 288 ≤ j ∧ j < 306
      · rw [if_pos q3]
      · rw [if_neg q3]
theorem frK_keep {a w : Nat → Int32} {z j : Nat} (h : ¬ (288 ≤ j ∧ j < 288 + z)) (h3 : ¬ j = 333) : frK a w z j = a j := by
  unfold frK
  rw [if_neg h, if_neg h3]
/-- settings' bounds, one by one -/
theorem set_tab {k lo hi : Nat} (h : (k, lo, hi) ∈ [(0, 100, 256), (1, 0, 30), (2, 0, 9), (3, 0, 2), (4, 0, 9), (5, 0, 50), (6, 0, 20), (7, 1, 255)]) : tab_LEAST_SETTING.getD k 0 = nI lo ∧ tab_GREATEST_SETTING.getD k 0 = nI hi := by
  simp only [List.mem_cons, Prod.mk.injEq, List.mem_nil_iff, or_false] at h
  rcases h with ⟨rfl, rfl, rfl⟩ | ⟨rfl, rfl, rfl⟩ | ⟨rfl, rfl, rfl⟩ | ⟨rfl, rfl, rfl⟩ | ⟨rfl, rfl, rfl⟩ | ⟨rfl, rfl, rfl⟩ | ⟨rfl, rfl, rfl⟩ | ⟨rfl, rfl, rfl⟩ <;> decide
/-- whether a setting may be set so -/
def setOK (w v : Int32) : Prop := ¬ (w < 0 ∨ 8 ≤ w) ∧ ¬ (v < tab_LEAST_SETTING.getD w.toNatClampNeg 0 ∨ tab_GREATEST_SETTING.getD w.toNatClampNeg 0 < v)
theorem setOK_at {k lo hi : Nat} {x v : Int32} (h : (k, lo, hi) ∈ [(0, 100, 256), (1, 0, 30), (2, 0, 9), (3, 0, 2), (4, 0, 9), (5, 0, 50), (6, 0, 20), (7, 1, 255)]) (hk : k < 8) (hb : bP x (btw v (nI lo) (nI hi))) : bP x (setOK (nI k) v) := by
  refine bP_iff ?_ hb
  unfold setOK btw
  rw [nI_clamp (by omega), (set_tab h).1, (set_tab h).2]
  refine ⟨fun q => ⟨fun z => z.elim (nI_pos (by omega)) (nI_ge (b := 8) hk (by decide)), fun z => z.elim q.1 q.2⟩, fun q => ⟨fun z => q.2 (Or.inl z), fun z => q.2 (Or.inr z)⟩⟩
theorem setOK_out {w v : Int32} (h : w.toInt < 0 ∨ 7 < w.toInt) : ¬ setOK w v := by
  intro q
  refine q.1 ?_
  rcases h with h | h
  · exact Or.inl (Int32.lt_iff_toInt_lt.mpr h)
  · refine Or.inr (Int32.le_iff_toInt_le.mpr ?_)
    have e : (8 : Int32).toInt = 8 := by decide
    omega
theorem setF_bad {a : Nat → Int32} {w v : Int32} (h : ¬ setOK w v) : setF a w v = .inl (-2) := by
  unfold setF
  by_cases q : w < 0 ∨ 8 ≤ w
  · rw [if_pos q]
  · rw [if_neg q]
    by_cases q2 : v < tab_LEAST_SETTING.getD w.toNatClampNeg 0 ∨ tab_GREATEST_SETTING.getD w.toNatClampNeg 0 < v
    · rw [if_pos q2]
    · exact absurd ⟨q, q2⟩ h
theorem setF_ok {a : Nat → Int32} {w v : Int32} (h : setOK w v) : ∃ k, k < 8 ∧ w = nI k ∧ setF a w v = if a (324 + k) = v then .inl (-5) else .inr (a (324 + k), upd a (324 + k) v) := by
  obtain ⟨k, hk, e⟩ := (inN_iff (n := 8) (by decide)).mpr ⟨fun q => h.1 (Or.inl q), fun q => h.1 (Or.inr q)⟩
  refine ⟨k, hk, e, ?_⟩
  unfold setF
  rw [if_neg h.1, if_neg h.2, e, nI_clamp (by omega)]
theorem acts_step {σ : St} {r : Nat → Int32} {j : Nat} {v x : Int32} : us (us (ur σ 18 0 r) 16 0 2 v) 18 0 j x = us (ur σ 18 0 (upd r j x)) 16 0 2 v := by
  rw [us, us_k (by decide), ur_same, us, us, ur_k (by decide), ur_k (by decide), ur_swap (by decide), ur_ur]
theorem upd_upd {f : Nat → Int32} {k : Nat} {x y : Int32} : upd (upd f k x) k y = upd f k y := by
  funext j
  by_cases q : j = k
  · subst q
    rw [pk_us, pk_us]
  · rw [pk_un q, pk_un q, pk_un q]
theorem movA_at {a : Nat → Int32} {w : Int32} {j : Nat} (h : j < 288) : movA a w j = shV a (fxV w) (fyV w) j := if_pos h
theorem movA_all {a : Nat → Int32} {w : Int32} : cpK (movA a w) a 288 = movA a w := by
  funext j
  unfold cpK
  by_cases q : j < 288
  · rw [if_pos q]
  · rw [if_neg q]
    exact (if_neg q).symm
theorem undo_step {σ : St} {r : Nat → Int32} {j : Nat} {v x : Int32} : us (us (ur σ 17 0 r) 16 0 2 v) 17 0 j x = us (ur σ 17 0 (upd r j x)) 16 0 2 v := by
  rw [us, us_k (by decide), ur_same, us, us, ur_k (by decide), ur_k (by decide), ur_swap (by decide), ur_ur]
theorem glowK_m {a w : Nat → Int32} {z k : Nat} : glowK a w z k + w k * (if apartN z k < 3 then a (324 + apartN z k) else 0) = glowK a w z (k + 1) := by
  rw [glowK]
  by_cases q : apartN z k < 3
  · rw [if_pos q, if_pos q]
  · rw [if_neg q, if_neg q, Int32.mul_zero, Int32.add_zero]
theorem dead_m {a : Nat → Int32} {k : Nat} (h : a (306 + k) = 0 ∨ a (306 + k) = 1) : deadK a k + a (306 + k) = deadK a (k + 1) := by
  rw [deadK]
  rcases h with g | g
  · rw [if_pos g, g, Int32.add_zero]
  · rw [if_neg (by rw [g]; decide), g]
theorem okW_light18 {a w : Nat → Int32} (h : okW a) (hw : ∀ k, k < 18 → ∃ n, n < 256 ∧ w k = nI n) {z : Nat} (hz : z < 18) : ∃ n, n < 256 ∧ lightF a w z = nI n := by
  have e : lightF a w z = lightF a (fun k => if k < 18 then w k else 0) z := by
    unfold lightF
    rw [glowK_congr (fun k q => (if_pos q).symm) 18 (Nat.le_refl _)]
  rw [e]
  refine okW_light h (fun k => ?_) hz
  by_cases q : k < 18
  · rw [if_pos q]
    exact hw k q
  · rw [if_neg q]
    exact ⟨0, by decide, rfl⟩
theorem fx_o {w : Nat} (h : w < 4) (h0 : ¬ w = 0) (h1 : ¬ w = 1) : nI 0 = fxV (nI w) := by
  rcases (show w = 2 ∨ w = 3 by omega) with rfl | rfl <;> decide
theorem fy_o {w : Nat} (h : w < 4) (h0 : ¬ w = 2) (h1 : ¬ w = 3) : nI 0 = fyV (nI w) := by
  rcases (show w = 0 ∨ w = 1 by omega) with rfl | rfl <;> decide
theorem btw_out {x : Int32} {n : Nat} (hn : n + 1 < 2 ^ 31) (h : ¬ btw x (nI 0) (nI n)) : x < 0 ∨ nI (n + 1) ≤ x := Decidable.byContradiction fun g => h ((btw_in hn).mpr ((inN_iff hn).mpr ⟨fun z => g (Or.inl z), fun z => g (Or.inr z)⟩))
