/-! PURE: acts keep a state sound; the two ways to the dearest zone -/
theorem inr_snd {e e1 : Int32} {a a1 : Nat → Int32} (g : (Sum.inr (e, a) : AR) = .inr (e1, a1)) : a1 = a := (congrArg Prod.snd (Sum.inr.inj g)).symm
theorem okW_pic {a r : Nat → Int32} (h : okW a) (hr : ∀ j, j < 288 → ∃ n, n < 256 ∧ r j = nI n) : okW (putA a r) := by
  have e : ∀ j, 288 ≤ j → putA a r j = a j := fun j q => if_neg (by omega)
  obtain ⟨h1, h2, h3, h4, h5, h6, h7, h8, h9, h10⟩ := h
  refine ⟨fun j q => by rw [putA_at q]; exact hr j q, fun k q => by rw [e _ (by omega)]; exact h2 k q, by rw [e _ (by omega)]; exact h3, by rw [e _ (by omega)]; exact h4, by rw [e _ (by omega)]; exact h5, by rw [e _ (by omega)]; exact h6, by rw [e _ (by omega)]; exact h7, by rw [e _ (by omega)]; exact h8, by rw [e _ (by omega)]; exact h9, by rw [e _ (by omega)]; exact h10⟩
theorem okA_pic {a r : Nat → Int32} (h : okA a) (hr : ∀ j, j < 288 → ∃ n, n < 256 ∧ r j = nI n) : okA (putA a r) := by
  have e : ∀ j, 288 ≤ j → putA a r j = a j := fun j q => if_neg (by omega)
  obtain ⟨h1, h2, h3, h4⟩ := h
  exact ⟨okW_pic h1 hr, fun k q => by rw [e _ (by omega)]; exact h2 k q, fun k q => by rw [e _ (by omega), e _ (by omega)]; exact h3 k q, fun j q => by rw [e _ (by omega)]; exact h4 j q⟩
theorem okA_ask {a : Nat → Int32} {j : Nat} {b : Int32} (h : okA a) (hj : j < 288) (hb : ∃ n, n < 256 ∧ b = nI n) : okA (upd a j b) := by
  have e : upd a j b = putA a (upd a j b) := by
    funext k
    unfold putA
    by_cases q : k < 288
    · rw [if_pos q]
    · rw [if_neg q, pk_un (by omega)]
  rw [e]
  refine okA_pic h fun k q => ?_
  by_cases g : k = j
  · subst g
    rw [pk_us]
    exact hb
  · rw [pk_un g]
    exact h.1.1 k q
theorem b_255 {b : Int32} (h : ¬ (b < 0 ∨ 255 < b)) : ∃ n, n < 256 ∧ b = nI n := (btw_in (n := 255) (by decide)).mp ⟨fun q => h (Or.inl q), fun q => h (Or.inr q)⟩
theorem ok_askF {a : Nat → Int32} {x y b : Int32} (h : okA a) : ∀ e a1, askF a x y b = .inr (e, a1) → okA a1 := by
  intro e a1 g
  unfold askF at g
  by_cases q : onB x y = true
  · rw [if_pos q] at g
    by_cases q2 : b < 0 ∨ 255 < b
    · rw [if_pos q2] at g
      cases g
    · rw [if_neg q2] at g
      by_cases q3 : a (sxy x y) = b
      · rw [if_pos q3] at g
        cases g
      · rw [if_neg q3] at g
        rw [inr_snd g]
        obtain ⟨⟨X, hX, eX⟩, ⟨Y, hY, eY⟩⟩ := onB_iff.mp q
        exact okA_ask h (by rw [eX, eY, sxy_nI hX hY]; omega) (b_255 q2)
  · rw [if_neg q] at g
    cases g
theorem ok_movF {a : Nat → Int32} {w : Int32} (h : okA a) : ∀ e a1, movF a w = .inr (e, a1) → okA a1 := by
  intro e a1 g
  unfold movF at g
  by_cases q : w < 0 ∨ 4 ≤ w
  · rw [if_pos q] at g
    cases g
  · rw [if_neg q] at g
    rw [inr_snd g]
    refine okA_pic h fun j hj => ?_
    unfold shV
    by_cases q2 : onB (nI (j % 24) + fxV w) (nI (j / 24) + fyV w) = true
    · rw [if_pos q2]
      obtain ⟨⟨X, hX, eX⟩, ⟨Y, hY, eY⟩⟩ := onB_iff.mp q2
      rw [eX, eY, nI_clamp (by omega), nI_clamp (by omega)]
      exact h.1.1 _ (by omega)
    · rw [if_neg q2]
      exact ⟨0, by decide, rfl⟩
theorem okA_kill {a : Nat → Int32} {z : Nat} {d : Int32} (h : okA a) (hz : z < 18) (hd : d = 0 ∨ d = 1) : okA (upd (upd a (306 + z) d) (288 + z) 0) := by
  have e : ∀ j, ¬ j = 288 + z → ¬ j = 306 + z → upd (upd a (306 + z) d) (288 + z) 0 j = a j := fun j q1 q2 => by rw [pk_un q1, pk_un q2]
  obtain ⟨⟨h1, h2, h3, h4, h5, h6, h7, h8, h9, h10⟩, g1, g2, g3⟩ := h
  refine ⟨⟨fun j q => by rw [e _ (by omega) (by omega)]; exact h1 j q, fun k q => ?_, by rw [e _ (by omega) (by omega)]; exact h3, by rw [e _ (by omega) (by omega)]; exact h4, by rw [e _ (by omega) (by omega)]; exact h5, by rw [e _ (by omega) (by omega)]; exact h6, by rw [e _ (by omega) (by omega)]; exact h7, by rw [e _ (by omega) (by omega)]; exact h8, by rw [e _ (by omega) (by omega)]; exact h9, by rw [e _ (by omega) (by omega)]; exact h10⟩, fun k q => ?_, fun k q => ?_, fun j q => by rw [e _ (by omega) (by omega)]; exact g3 j q⟩
  · by_cases q2 : k = z
    · subst q2
      rw [pk_un (by omega), pk_us]
      exact hd
    · rw [e _ (by omega) (by omega)]
      exact h2 k q
  · by_cases q2 : k = z
    · subst q2
      rw [pk_us]
      exact ⟨0, by decide, rfl⟩
    · rw [e _ (by omega) (by omega)]
      exact g1 k q
  · by_cases q2 : k = z
    · subst q2
      exact Or.inr pk_us
    · rw [e _ (by omega) (by omega), e _ (by omega) (by omega)]
      exact g2 k q
theorem ok_killF {a : Nat → Int32} {z d : Int32} (h : okA a) (hd : d = 0 ∨ d = 1) : ∀ e a1, killF a z d = .inr (e, a1) → okA a1 := by
  intro e a1 g
  unfold killF at g
  by_cases q : zB z = true
  · rw [if_pos q] at g
    by_cases q2 : a (306 + z.toNatClampNeg) = d
    · rw [if_pos q2] at g
      cases g
    · rw [if_neg q2] at g
      rw [inr_snd g]
      obtain ⟨k, hk, ek⟩ := zB_iff.mp q
      rw [ek, nI_clamp (by omega)]
      exact okA_kill h hk hd
  · rw [if_neg q] at g
    cases g
theorem ok_pasF {a : Nat → Int32} {f : Int32} (h : okA a) : ∀ e a1, pasF a f = .inr (e, a1) → okA a1 := by
  intro e a1 g
  unfold pasF at g
  by_cases q : f < 1 ∨ 99 < f
  · rw [if_pos q] at g
    cases g
  · rw [if_neg q] at g
    rw [inr_snd g]
    exact (ok_frames h (wOK_want h.1 _) _).1
theorem set_in {v : Int32} {lo hi : Nat} (hh : hi < 2 ^ 31) (hl : lo < 2 ^ 31) (h : ¬ (v < nI lo ∨ nI hi < v)) : ∃ n, lo ≤ n ∧ n ≤ hi ∧ v = nI n := by
  have g1 := Int32.not_lt.mp (fun q => h (Or.inl q))
  have g2 := Int32.not_lt.mp (fun q => h (Or.inr q))
  rw [Int32.le_iff_toInt_le, nI_toInt hl] at g1
  rw [Int32.le_iff_toInt_le, nI_toInt hh] at g2
  obtain ⟨k, hk, e⟩ := nI_of (x := v) (fun q => by
    have := Int32.lt_iff_toInt_lt.mp q
    have e0 : (0 : Int32).toInt = 0 := by decide
    omega)
  rw [e, nI_toInt hk] at g1 g2
  exact ⟨k, by omega, by omega, e⟩
theorem okA_set {a : Nat → Int32} {k : Nat} {v : Int32} (h : okA a) (hk : k < 8) (hv : ¬ (v < tab_LEAST_SETTING.getD k 0 ∨ tab_GREATEST_SETTING.getD k 0 < v)) : okA (upd a (324 + k) v) := by
  have e : ∀ j, ¬ j = 324 + k → upd a (324 + k) v j = a j := fun j q => pk_un q
  obtain ⟨⟨h1, h2, h3, h4, h5, h6, h7, h8, h9, h10⟩, g1, g2, g3⟩ := h
  refine ⟨⟨fun j q => by rw [e _ (by omega)]; exact h1 j q, fun j q => by rw [e _ (by omega)]; exact h2 j q, ?_, ?_, ?_, ?_, ?_, ?_, ?_, ?_⟩, fun j q => by rw [e _ (by omega)]; exact g1 j q, fun j q => by rw [e _ (by omega), e _ (by omega)]; exact g2 j q, fun j q => by rw [e _ (by omega)]; exact g3 j q⟩
  · by_cases q : k = 0
    · subst q; rw [pk_us]; exact set_in (lo := 100) (hi := 256) (by decide) (by decide) hv
    · rw [e _ (by omega)]; exact h3
  · by_cases q : k = 1
    · subst q; rw [pk_us]; obtain ⟨n, -, q⟩ := set_in (lo := 0) (hi := 30) (by decide) (by decide) hv; exact ⟨n, q⟩
    · rw [e _ (by omega)]; exact h4
  · by_cases q : k = 2
    · subst q; rw [pk_us]; obtain ⟨n, -, q⟩ := set_in (lo := 0) (hi := 9) (by decide) (by decide) hv; exact ⟨n, q⟩
    · rw [e _ (by omega)]; exact h5
  · by_cases q : k = 3
    · subst q; rw [pk_us]; obtain ⟨n, -, q⟩ := set_in (lo := 0) (hi := 2) (by decide) (by decide) hv; exact ⟨n, q⟩
    · rw [e _ (by omega)]; exact h6
  · by_cases q : k = 4
    · subst q; rw [pk_us]; obtain ⟨n, -, q⟩ := set_in (lo := 0) (hi := 9) (by decide) (by decide) hv; exact ⟨n, q⟩
    · rw [e _ (by omega)]; exact h7
  · by_cases q : k = 5
    · subst q; rw [pk_us]; obtain ⟨n, -, q⟩ := set_in (lo := 0) (hi := 50) (by decide) (by decide) hv; exact ⟨n, q⟩
    · rw [e _ (by omega)]; exact h8
  · by_cases q : k = 6
    · subst q; rw [pk_us]; obtain ⟨n, -, q⟩ := set_in (lo := 0) (hi := 20) (by decide) (by decide) hv; exact ⟨n, q⟩
    · rw [e _ (by omega)]; exact h9
  · by_cases q : k = 7
    · subst q; rw [pk_us]; exact set_in (lo := 1) (hi := 255) (by decide) (by decide) hv
    · rw [e _ (by omega)]; exact h10
theorem ok_setF {a : Nat → Int32} {w v : Int32} (h : okA a) : ∀ e a1, setF a w v = .inr (e, a1) → okA a1 := by
  intro e a1 g
  by_cases q : w < 0 ∨ 8 ≤ w
  · unfold setF at g
    rw [if_pos q] at g
    cases g
  · by_cases q2 : v < tab_LEAST_SETTING.getD w.toNatClampNeg 0 ∨ tab_GREATEST_SETTING.getD w.toNatClampNeg 0 < v
    · unfold setF at g
      rw [if_neg q, if_pos q2] at g
      cases g
    · obtain ⟨k, hk, ek, eF⟩ := setF_ok (a := a) ⟨q, q2⟩
      rw [eF] at g
      by_cases q3 : a (324 + k) = v
      · rw [if_pos q3] at g
        cases g
      · rw [if_neg q3] at g
        rw [inr_snd g]
        rw [ek, nI_clamp (by omega)] at q2
        exact okA_set h hk q2
theorem ok_restF {k : Int32} {a : Nat → Int32} (h : ¬ k = 0 → okA a) : ∀ e a1, restF k a = .inr (e, a1) → okA a1 := by
  intro e a1 g
  unfold restF at g
  by_cases q : k = 0
  · rw [if_pos q] at g
    cases g
  · rw [if_neg q] at g
    rw [inr_snd g]
    exact h q
theorem ok_parts {a : Nat → Int32} {L : List Int32} (h : okA a) (hL : ∀ q, q < L.length → q % 5 = 4 → ∃ n, n < 256 ∧ L.getD q 0 = nI n) : ∀ p, p ≤ L.length / 5 → ∀ j, j < 288 → ∃ n, n < 256 ∧ partsK L a p j = nI n
  | 0, _, j, hj => h.1.1 j hj
  | p + 1, hp, j, hj => by
    unfold partsK paintK
    by_cases q : j < 288 ∧ inR (num L (p * 5)) (num L (p * 5 + 1)) (num L (p * 5 + 2)) (num L (p * 5 + 3)) j
    · rw [if_pos q]
      exact hL _ (by omega) (by omega)
    · rw [if_neg q]
      exact ok_parts h hL p (by omega) j hj
theorem ok_allF {a tx : Nat → Int32} {t : Nat} (h : okA a) (ht : t ≤ 60) : ∀ e a1, allF a tx t = .inr (e, a1) → okA a1 := by
  intro e a1 g
  unfold allF at g
  by_cases q : (rdF tx t).1 = -5
  · rw [if_pos q] at g
    rw [inr_snd g]
    refine okA_pic h fun j hj => ok_parts h (fun i hi h4 => ?_) _ (Nat.le_refl _) j hj
    obtain ⟨m, hm, em⟩ := (rdF_ok ht).1 i hi
    rw [h4] at hm
    exact ⟨m, Nat.lt_succ_of_le hm, em⟩
  · rw [if_neg q] at g
    cases g
/-! what spots show stays a number below 256 -/
theorem okW_shown {a w : Nat → Int32} (h : okW a) (hw : lowW w) {z k : Nat} (hz : z < 18) (hk : k < 16) : ∃ n, n < 256 ∧ shownAt a w z k = nI n := by
  obtain ⟨s, hs, es⟩ := h.1 _ (spotN_lt hz hk)
  obtain ⟨l, hl, el⟩ := okW_light h hw hz
  obtain ⟨p, hp, ep⟩ := h.2.2.2.2.2.2.2.1
  unfold shownAt shownF glassF leakF
  rw [es, el, ep, show nI s * 255 = nI (s * 255) from pk_mul s 255, rup_nI (by omega) (by omega)]
  have hg : (if 0 < l then (s * 255 + l - 1) / l else 0) < 2 ^ 20 := by
    split
    · have := Nat.div_le_self (s * 255 + l - 1) l
      omega
    · decide
  generalize (if 0 < l then (s * 255 + l - 1) / l else 0) = g at hg
  rw [imin_255n (by omega), pk_mul, pk_mul]
  have h255 := minN_255 g
  generalize minN 255 g = u at h255
  have hlu : l * u ≤ 255 * 255 := Nat.mul_le_mul (by omega) h255
  have hlp : l * p ≤ 255 * 50 := Nat.mul_le_mul (by omega) hp
  rw [show nI (l * u) / 255 = nI (l * u / 255) from pk_div (d := 255) (by omega) (by decide) (by decide), show nI (l * p) / 1000 = nI (l * p / 1000) from pk_div (d := 1000) (by omega) (by decide) (by decide), imax_nI (by omega) (by omega)]
  refine ⟨_, ?_, rfl⟩
  unfold maxN
  split <;> omega
theorem okW_offK {a w : Nat → Int32} (h : okW a) (hw : lowW w) {z : Nat} (hz : z < 18) {r : Nat → Int32} {m : Nat} (hr : r 2 = nI m) : ∀ k, k ≤ 16 → ∃ n, n ≤ m + k * 255 ∧ tZ a w z r k 2 = nI n
  | 0, _ => ⟨m, by omega, hr⟩
  | k + 1, hk => by
    obtain ⟨n, hn, e⟩ := okW_offK h hw hz hr k (by omega)
    obtain ⟨s, hs, es⟩ := h.1 _ (spotN_lt hz (show k < 16 by omega))
    obtain ⟨u, hu, eu⟩ := okW_shown h hw hz (show k < 16 by omega)
    refine ⟨n + distN u s, by unfold distN; split <;> omega, ?_⟩
    show tZ a w z r k 2 + iabs (shownAt a w z k - a (spotN z k)) = _
    rw [e, es, eu, iabs_sub (by omega) (by omega), nI_add]
theorem okW_off {a w : Nat → Int32} (h : okW a) (hw : lowW w) : ∀ z, z ≤ 18 → ∃ n, n ≤ z * 4080 ∧ tAll a w z 2 = nI n
  | 0, _ => ⟨0, by decide, rfl⟩
  | z + 1, hz => by
    obtain ⟨m, hm, e⟩ := okW_off h hw z (by omega)
    obtain ⟨n, hn, e2⟩ := okW_offK h hw (show z < 18 by omega) e 16 (Nat.le_refl _)
    exact ⟨n, by omega, e2⟩
theorem die_pos {a : Nat → Int32} (h : okW a) {z : Nat} (hz : z < 18) : (-5 : Int32) < dieV a z := by
  have h2 := okW_die h hz
  obtain ⟨n, hn, e⟩ := okW_off h2 (lowW_want h2 (a 327)) 18 (Nat.le_refl _)
  have e2 : dieV a z = nI n := e
  rw [e2, Int32.lt_iff_toInt_lt, nI_toInt (by omega)]
  have e5 : (-5 : Int32).toInt = -5 := by decide
  omega
theorem dear_eq {a : Nat → Int32} (h : okW a) : ∀ z, z ≤ 18 → (dearK a z = (-5, -5) ∧ deaK a z = (-5, 0)) ∨ (dearK a z = deaK a z ∧ ¬ (deaK a z).1 = -5)
  | 0, _ => Or.inl ⟨rfl, rfl⟩
  | z + 1, hz => by
    have hn : ¬ nI z = -5 := fun q => nI_pos (n := z) (by omega) (by rw [q]; decide)
    unfold dearK deaK
    rcases dear_eq h z (by omega) with ⟨e1, e2⟩ | ⟨e1, e2⟩
    · rw [e1, e2]
      by_cases q : a (306 + z) = 0
      · rw [if_pos ⟨q, die_pos h (by omega)⟩, if_pos ⟨q, Or.inl rfl⟩]
        exact Or.inr ⟨rfl, hn⟩
      · rw [if_neg (fun g => q g.1), if_neg (fun g => q g.1)]
        exact Or.inl ⟨rfl, rfl⟩
    · rw [e1]
      by_cases q : a (306 + z) = 0 ∧ (deaK a z).2 < dieV a z
      · rw [if_pos q, if_pos ⟨q.1, Or.inr q.2⟩]
        exact Or.inr ⟨rfl, hn⟩
      · rw [if_neg q, if_neg (fun g => g.2.elim e2 (fun g2 => q ⟨g.1, g2⟩))]
        exact Or.inr ⟨rfl, e2⟩
theorem dear_both {a : Nat → Int32} {w : Int32} (h : okW a) : dearQ a w = dearM a w := by
  unfold dearQ dearM
  by_cases q : w < 0 ∨ 1 < w
  · rw [if_pos q, if_pos q]
  · rw [if_neg q, if_neg q]
    rcases dear_eq h 18 (Nat.le_refl _) with ⟨e1, e2⟩ | ⟨e1, e2⟩
    · rw [e1, e2, if_pos (Or.inl rfl)]
      split <;> rfl
    · rw [e1]
      by_cases q2 : w = 0
      · rw [if_pos q2, if_pos (Or.inr q2)]
      · rw [if_neg q2, if_neg (fun g => g.elim e2 q2)]
