/-! PURE: spots and zones come to what is told of all -/
def zoneN (k : Nat) : Nat := k / 24 / 4 * 6 + k % 24 / 4
theorem zoneN_lt {k : Nat} (h : k < 288) : zoneN k < 18 := by
  unfold zoneN
  omega
theorem zoneN_spot : ∀ z, z < 18 → ∀ w, w < 16 → zoneN (spotN z w) = z := by decide +kernel
def liA (a : Nat → Int32) (k : Nat) : Int32 := lightF a (levO a) (zoneN k)
def shA (a : Nat → Int32) (k : Nat) : Int32 := shownF a (a k) (liA a k)
def thA (a : Nat → Int32) (k : Nat) : Int32 := liA a k * glassF (a k) (liA a k) / 255
def byA (a : Nat → Int32) (k : Nat) : Int32 := iabs (shA a k - a k)
def tStep (a r : Nat → Int32) (k : Nat) : Nat → Int32 := tAdd r (a k) (shA a k)
def tRow (a : Nat → Int32) (k : Nat) : Nat → Int32 := (List.range k).foldl (tStep a) (fun _ => 0)
theorem tRow_s (a : Nat → Int32) (k : Nat) : tRow a (k + 1) = tStep a (tRow a k) k := by
  unfold tRow
  rw [List.range_succ, List.foldl_append]
  rfl
theorem tZ_fold {a r : Nat → Int32} {z : Nat} (hz : z < 18) : ∀ k, k ≤ 16 → tZ a (levO a) z r k = ((List.range k).map (spotN z)).foldl (tStep a) r
  | 0, _ => rfl
  | k + 1, hk => by
    rw [List.range_succ, List.map_append, List.foldl_append, ← tZ_fold hz k (by omega)]
    show tAdd (tZ a (levO a) z r k) (a (spotN z k)) (shownAt a (levO a) z k) = tAdd (tZ a (levO a) z r k) (a (spotN z k)) (shA a (spotN z k))
    unfold shA liA shownAt
    rw [zoneN_spot z hz k (by omega)]
def spots (n : Nat) : List Nat := (List.range n).flatMap (fun z => (List.range 16).map (spotN z))
theorem spots_perm : (spots 18).Perm (List.range 288) := by decide +kernel
theorem tAll_fold {a : Nat → Int32} : ∀ n, n ≤ 18 → tAll a (levO a) n = (spots n).foldl (tStep a) (fun _ => 0)
  | 0, _ => rfl
  | n + 1, hn => by
    have e : spots (n + 1) = spots n ++ (List.range 16).map (spotN n) := by
      unfold spots
      rw [show List.range (n + 1) = List.range n ++ [n] from List.range_succ, List.flatMap_append]
      simp
    rw [e, List.foldl_append, ← tAll_fold n (by omega), ← tZ_fold (by omega) 16 (Nat.le_refl _)]
    rfl
theorem imax_comm3 (x y z : Int32) : imax (imax x y) z = imax (imax x z) y := by
  unfold imax
  simp only [Int32.lt_iff_toInt_lt]
  (repeat' split) <;> first | rfl | (exfalso; omega) | (apply Int32.toInt_inj.mp; omega)
theorem tAdd_0 (r : Nat → Int32) (x y : Int32) : tAdd r x y 0 = if verdF x y = 1 then r 0 + 1 else r 0 := if_pos rfl
theorem tAdd_1 (r : Nat → Int32) (x y : Int32) : tAdd r x y 1 = if verdF x y = 2 then r 1 + 1 else r 1 := by
  unfold tAdd
  rw [if_neg (by decide), if_pos rfl]
theorem tAdd_2 (r : Nat → Int32) (x y : Int32) : tAdd r x y 2 = r 2 + iabs (y - x) := by
  unfold tAdd
  rw [if_neg (by decide), if_neg (by decide), if_pos rfl]
theorem tAdd_3 (r : Nat → Int32) (x y : Int32) : tAdd r x y 3 = imax (r 3) (iabs (y - x)) := by
  unfold tAdd
  rw [if_neg (by decide), if_neg (by decide), if_neg (by decide), if_pos rfl]
theorem tAdd_4 (r : Nat → Int32) (x y : Int32) : tAdd r x y 4 = r 4 + y := by
  unfold tAdd
  rw [if_neg (by decide), if_neg (by decide), if_neg (by decide), if_neg (by decide), if_pos rfl]
theorem tAdd_5 (r : Nat → Int32) (x y : Int32) {j : Nat} (h : 5 ≤ j) : tAdd r x y j = r j := by
  unfold tAdd
  rw [if_neg (by omega), if_neg (by omega), if_neg (by omega), if_neg (by omega), if_neg (by omega)]
theorem add_rc (a b c : Int32) : a + b + c = a + c + b := by rw [Int32.add_assoc, Int32.add_comm b, ← Int32.add_assoc]
theorem tAdd_comm (r : Nat → Int32) (x y u v : Int32) : tAdd (tAdd r x y) u v = tAdd (tAdd r u v) x y := by
  funext j
  rcases (show j = 0 ∨ j = 1 ∨ j = 2 ∨ j = 3 ∨ j = 4 ∨ 5 ≤ j by omega) with rfl | rfl | rfl | rfl | rfl | h
  · rw [tAdd_0, tAdd_0, tAdd_0, tAdd_0]
    by_cases p : verdF x y = 1
    · by_cases q : verdF u v = 1
      · rw [if_pos q, if_pos p, if_pos p, if_pos q]
      · rw [if_neg q, if_pos p, if_pos p, if_neg q]
    · by_cases q : verdF u v = 1
      · rw [if_pos q, if_neg p, if_neg p, if_pos q]
      · rw [if_neg q, if_neg p, if_neg p, if_neg q]
  · rw [tAdd_1, tAdd_1, tAdd_1, tAdd_1]
    by_cases p : verdF x y = 2
    · by_cases q : verdF u v = 2
      · rw [if_pos q, if_pos p, if_pos p, if_pos q]
      · rw [if_neg q, if_pos p, if_pos p, if_neg q]
    · by_cases q : verdF u v = 2
      · rw [if_pos q, if_neg p, if_neg p, if_pos q]
      · rw [if_neg q, if_neg p, if_neg p, if_neg q]
  · rw [tAdd_2, tAdd_2, tAdd_2, tAdd_2, add_rc]
  · rw [tAdd_3, tAdd_3, tAdd_3, tAdd_3, imax_comm3]
  · rw [tAdd_4, tAdd_4, tAdd_4, tAdd_4, add_rc]
  · rw [tAdd_5 _ _ _ h, tAdd_5 _ _ _ h, tAdd_5 _ _ _ h, tAdd_5 _ _ _ h]
theorem tAll_row (a : Nat → Int32) : tAll a (levO a) 18 = tRow a 288 := by
  rw [tAll_fold 18 (Nat.le_refl _)]
  exact List.Perm.foldl_eq' spots_perm (fun x _ y _ r => tAdd_comm r _ _ _ _) _
/-- a spot's numbers -/
theorem okA_levs {a : Nat → Int32} (h : okA a) : ∀ k, k < 18 → ∃ n, n < 256 ∧ levO a k = nI n := h.2.1
theorem cell_n {a : Nat → Int32} (h : okA a) {k : Nat} (hk : k < 288) : ∃ s l, s < 256 ∧ l < 256 ∧ a k = nI s ∧ liA a k = nI l := by
  obtain ⟨s, hs, es⟩ := h.1.1 k hk
  obtain ⟨l, hl, el⟩ := okW_light18 h.1 (okA_levs h) (zoneN_lt hk)
  exact ⟨s, l, hs, hl, es, el⟩
def glN (s l : Nat) : Nat := minN 255 (if 0 < l then (s * 255 + l - 1) / l else 0)
theorem glass_nI {s l : Nat} (hs : s < 256) (hl : l < 256) : glassF (nI s) (nI l) = nI (glN s l) := by
  unfold glassF
  rw [show nI s * 255 = nI (s * 255) from pk_mul s 255, rup_nI (by omega) (by omega)]
  rw [imin_255n]
  · rfl
  · split
    · have := Nat.div_le_self (s * 255 + l - 1) l
      omega
    · decide
theorem glN_le (s l : Nat) : glN s l ≤ 255 := minN_255 _
theorem th_nat {s l : Nat} (hs : s < 256) (hl : l < 256) : l * glN s l / 255 = if l < s then l else s := by
  unfold glN
  by_cases h0 : 0 < l
  · rw [if_pos h0]
    have h1 : (s * 255 + l - 1) / l * l ≤ s * 255 + l - 1 := Nat.div_mul_le_self _ _
    have h2 : s * 255 + l - 1 < l * ((s * 255 + l - 1) / l + 1) := Nat.lt_mul_div_succ _ h0
    have e2 : l * ((s * 255 + l - 1) / l + 1) = (s * 255 + l - 1) / l * l + l := by rw [Nat.mul_add, Nat.mul_one, Nat.mul_comm]
    by_cases h : l < s
    · rw [if_pos h]
      have h3 : 255 ≤ (s * 255 + l - 1) / l := by
        rw [Nat.le_div_iff_mul_le h0]
        have := Nat.mul_le_mul_right 255 (show l + 1 ≤ s by omega)
        omega
      have e3 : minN 255 ((s * 255 + l - 1) / l) = 255 := by
        unfold minN
        rw [if_neg (by omega)]
      rw [e3]
      exact Nat.mul_div_cancel _ (by decide)
    · rw [if_neg h]
      have h3 : (s * 255 + l - 1) / l ≤ 255 := by
        apply Nat.le_of_lt_succ
        rw [Nat.div_lt_iff_lt_mul h0]
        have := Nat.mul_le_mul_right 255 (show s ≤ l by omega)
        omega
      have e3 : minN 255 ((s * 255 + l - 1) / l) = (s * 255 + l - 1) / l := by
        unfold minN
        by_cases q : (s * 255 + l - 1) / l < 255
        · rw [if_pos q]
        · rw [if_neg q]
          omega
      rw [e3, Nat.mul_comm l]
      generalize (s * 255 + l - 1) / l * l = g at h1 e2
      omega
  · have e0 : l = 0 := by omega
    subst e0
    rw [Nat.zero_mul]
    split <;> omega
theorem TH_eq {a : Nat → Int32} (h : okA a) {k : Nat} (hk : k < 288) : thA a k = if liA a k < a k then liA a k else a k := by
  obtain ⟨s, l, hs, hl, es, el⟩ := cell_n h hk
  unfold thA
  rw [es, el, glass_nI hs hl, pk_mul]
  have hlu : l * glN s l ≤ 255 * 255 := Nat.mul_le_mul (by omega) (glN_le s l)
  rw [show nI (l * glN s l) / 255 = nI (l * glN s l / 255) from pk_div (d := 255) (by omega) (by decide) (by decide), th_nat hs hl]
  by_cases q : l < s
  · rw [if_pos q, if_pos (nI_lt q (by omega))]
  · rw [if_neg q, if_neg (nI_nlt (by omega) (by omega))]
theorem TH_1 {a : Nat → Int32} (h : okA a) {k : Nat} (hk : k < 288) (c : liA a k < a k) : thA a k = liA a k := by rw [TH_eq h hk, if_pos c]
theorem TH_2 {a : Nat → Int32} (h : okA a) {k : Nat} (hk : k < 288) (c : ¬ liA a k < a k) : thA a k = a k := by rw [TH_eq h hk, if_neg c]
theorem SH_def (a : Nat → Int32) (k : Nat) : shA a k = imax (thA a k) (leakF a (liA a k)) := rfl
theorem SH_n {a : Nat → Int32} (h : okA a) {k : Nat} (hk : k < 288) : ∃ m, m < 256 ∧ shA a k = nI m := by
  obtain ⟨s, l, hs, hl, es, el⟩ := cell_n h hk
  obtain ⟨p, hp, ep⟩ := h.1.2.2.2.2.2.2.2.1
  have e1 : ∃ u, u < 256 ∧ thA a k = nI u := by
    rw [TH_eq h hk, es, el]
    split
    · exact ⟨l, hl, rfl⟩
    · exact ⟨s, hs, rfl⟩
  obtain ⟨u, hu, eu⟩ := e1
  rw [SH_def, eu]
  unfold leakF
  rw [el, ep, pk_mul]
  have hlp : l * p ≤ 255 * 50 := Nat.mul_le_mul (by omega) hp
  rw [show nI (l * p) / 1000 = nI (l * p / 1000) from pk_div (d := 1000) (by omega) (by decide) (by decide), imax_nI (by omega) (by omega)]
  exact ⟨_, by unfold maxN; split <;> omega, rfl⟩
theorem BY_1 {a : Nat → Int32} (h : okA a) {k : Nat} (hk : k < 288) {x : Int32} (c : shA a k < a k) (hx : x = a k - shA a k) : x = byA a k := by
  obtain ⟨s, hs, es⟩ := h.1.1 k hk
  obtain ⟨m, hm, em⟩ := SH_n h hk
  unfold byA
  rw [hx]
  rw [es, em] at c ⊢
  have c2 : m < s := (nI_ltI (by omega) (by omega)).mp c
  rw [iabs_sub (by omega) (by omega), pk_sub (by omega)]
  unfold distN
  rw [if_pos c2]
theorem BY_2 {a : Nat → Int32} (h : okA a) {k : Nat} (hk : k < 288) {x : Int32} (c : ¬ shA a k < a k) (hx : x = shA a k - a k) : x = byA a k := by
  obtain ⟨s, hs, es⟩ := h.1.1 k hk
  obtain ⟨m, hm, em⟩ := SH_n h hk
  unfold byA
  rw [hx]
  rw [es, em] at c ⊢
  have c2 : ¬ m < s := fun q => c (nI_lt q (by omega))
  rw [iabs_sub (by omega) (by omega), pk_sub (by omega)]
  unfold distN
  rw [if_neg c2]
theorem BY_0 {a : Nat → Int32} (h : okA a) {k : Nat} (hk : k < 288) : byA a k = 0 ↔ shA a k = a k := by
  obtain ⟨s, hs, es⟩ := h.1.1 k hk
  obtain ⟨m, hm, em⟩ := SH_n h hk
  unfold byA
  rw [es, em, iabs_sub (by omega) (by omega)]
  have e0 : (0 : Int32) = nI 0 := rfl
  rw [e0, nI_eq (by unfold distN; split <;> omega) (by decide), nI_eq (by omega) (by omega)]
  unfold distN
  split <;> omega
theorem i_lc (a b c : Int32) : a + (b + c) = b + (a + c) := by rw [← Int32.add_assoc, Int32.add_comm a, Int32.add_assoc]
theorem add_r (x p q : Int32) : x - p - q + 1 = x + 1 - p - q := by
  simp only [Int32.sub_eq_add_neg, Int32.add_assoc, Int32.add_comm, i_lc]
theorem sub_1 (x p : Int32) : x + 1 - (p + 1) = x - p := by
  rw [Int32.sub_eq_add_neg, Int32.neg_add, Int32.sub_eq_add_neg]
  rw [Int32.add_comm (-p), ← Int32.add_assoc, Int32.add_assoc x, show (1 : Int32) + -1 = 0 from by decide, Int32.add_zero, ← Int32.sub_eq_add_neg]
theorem sub_p (x p q : Int32) : x + 1 - (p + 1) - q = x - p - q := by rw [sub_1]
theorem sub_q (x p q : Int32) : x + 1 - p - (q + 1) = x - p - q := by
  rw [show x + 1 - p = x - p + 1 from by simp only [Int32.sub_eq_add_neg, Int32.add_assoc, Int32.add_comm, i_lc], sub_1]
theorem nI_s (k : Nat) : nI (k + 1) = nI k + 1 := (nI_add k 1).symm
theorem ne_lt {a : Nat → Int32} (h : okA a) {k : Nat} (hk : k < 288) (c : ¬ shA a k = a k) : shA a k < a k ∨ a k < shA a k := by
  obtain ⟨s, hs, es⟩ := h.1.1 k hk
  obtain ⟨m, hm, em⟩ := SH_n h hk
  rw [es, em] at c ⊢
  rw [nI_eq (by omega) (by omega)] at c
  rcases (show m < s ∨ s < m by omega) with q | q
  · exact Or.inl (nI_lt q (by omega))
  · exact Or.inr (nI_lt q (by omega))
theorem lt_ne {x y : Int32} (c : x < y) : ¬ x = y := fun e => by
  rw [e] at c
  have := Int32.lt_iff_toInt_lt.mp c
  omega
theorem lt_as {x y : Int32} (c : x < y) : ¬ y < x := fun e => by
  have h1 := Int32.lt_iff_toInt_lt.mp c
  have h2 := Int32.lt_iff_toInt_lt.mp e
  omega
theorem st_right {a : Nat → Int32} (h : okA a) {k : Nat} (hk : k < 288) {r c x : Int32} (e : r = nI k - tRow a k 0 - tRow a k 1) (hc : c = if byA a k = 0 then 1 else 0) (hx : x = r + c) : x = nI (k + 1) - tRow a (k + 1) 0 - tRow a (k + 1) 1 := by
  rw [tRow_s, hx, e, hc, nI_s]
  show _ = nI k + 1 - (if verdF (a k) (shA a k) = 1 then tRow a k 0 + 1 else tRow a k 0) - (if verdF (a k) (shA a k) = 2 then tRow a k 1 + 1 else tRow a k 1)
  unfold verdF
  by_cases q : shA a k = a k
  · rw [if_pos ((BY_0 h hk).mpr q), if_pos q, if_neg (by decide), if_neg (by decide), add_r]
  · rw [if_neg (fun g => q ((BY_0 h hk).mp g)), if_neg q, Int32.add_zero]
    rcases ne_lt h hk q with g | g
    · rw [if_pos g, if_pos rfl, if_neg (by decide), sub_p]
    · rw [if_neg (lt_as g), if_neg (by decide), if_pos rfl, sub_q]
theorem st_dark {a : Nat → Int32} (h : okA a) {k : Nat} (hk : k < 288) {r c x : Int32} (e : r = tRow a k 0) (hc : c = if shA a k < a k then 1 else 0) (hx : x = r + c) : x = tRow a (k + 1) 0 := by
  rw [tRow_s, hx, e, hc]
  show _ = if verdF (a k) (shA a k) = 1 then tRow a k 0 + 1 else tRow a k 0
  unfold verdF
  by_cases q : shA a k = a k
  · rw [if_pos q, if_neg (fun g : shA a k < a k => lt_ne g q), if_neg (show ¬ (0 : Int32) = 1 by decide), Int32.add_zero]
  · rw [if_neg q]
    rcases ne_lt h hk q with g | g
    · rw [if_pos g, if_pos g, if_pos rfl]
    · rw [if_neg (lt_as g), if_neg (lt_as g), if_neg (by decide), Int32.add_zero]
theorem st_bright {a : Nat → Int32} (h : okA a) {k : Nat} (hk : k < 288) {r c x : Int32} (e : r = tRow a k 1) (hc : c = if a k < shA a k then 1 else 0) (hx : x = r + c) : x = tRow a (k + 1) 1 := by
  rw [tRow_s, hx, e, hc]
  show _ = if verdF (a k) (shA a k) = 2 then tRow a k 1 + 1 else tRow a k 1
  unfold verdF
  by_cases q : shA a k = a k
  · rw [if_pos q, if_neg (fun g : a k < shA a k => lt_ne g q.symm), if_neg (show ¬ (0 : Int32) = 2 by decide), Int32.add_zero]
  · rw [if_neg q]
    rcases ne_lt h hk q with g | g
    · rw [if_pos g, if_neg (lt_as g), if_neg (by decide), Int32.add_zero]
    · rw [if_neg (lt_as g), if_pos g, if_pos rfl]
theorem st_off {a : Nat → Int32} {k : Nat} {r x : Int32} (e : r = tRow a k 2) (hx : x = r + byA a k) : x = tRow a (k + 1) 2 := by
  rw [tRow_s, hx, e]
  rfl
theorem st_most {a : Nat → Int32} {k : Nat} {r v : Int32} (e : r = tRow a k 3) (hv : v = imax r (byA a k)) : v = tRow a (k + 1) 3 := by
  rw [tRow_s, hv, e]
  rfl
theorem st_shown {a : Nat → Int32} {k : Nat} {r x : Int32} (e : r = tRow a k 4) (hx : x = r + shA a k) : x = tRow a (k + 1) 4 := by
  rw [tRow_s, hx, e]
  rfl
theorem sp_k {a : Nat → Int32} {k : Nat} (hk : k < 288) (w : Int32) : spotQ a (nI (k % 24)) (nI (k / 24)) w = spotV a (a k) (liA a k) w := by
  rw [spotQ_nI (by omega) (by omega), show k / 24 * 24 + k % 24 = k by omega]
  unfold liA zoneN
  rw [show 6 * (k / 24 / 4) + k % 24 / 4 = k / 24 / 4 * 6 + k % 24 / 4 by omega]
theorem sp_0 {a : Nat → Int32} {k : Nat} (hk : k < 288) : spotQ a (nI (k % 24)) (nI (k / 24)) (nI 0) = a k := sp_k hk _
theorem sp_1 {a : Nat → Int32} {k : Nat} (hk : k < 288) : spotQ a (nI (k % 24)) (nI (k / 24)) (nI 1) = liA a k := sp_k hk _
theorem sp_2 {a : Nat → Int32} {k : Nat} (hk : k < 288) : spotQ a (nI (k % 24)) (nI (k / 24)) (nI 2) = glassF (a k) (liA a k) := sp_k hk _
theorem sp_3 {a : Nat → Int32} {k : Nat} (hk : k < 288) : spotQ a (nI (k % 24)) (nI (k / 24)) (nI 3) = shA a k := sp_k hk _
theorem sp_4 {a : Nat → Int32} {k : Nat} (hk : k < 288) : spotQ a (nI (k % 24)) (nI (k / 24)) (nI 4) = verdF (a k) (shA a k) := sp_k hk _
theorem zv_4 {a : Nat → Int32} {z : Nat} : zoneV a z (nI 4) = peakF a z := by
  unfold zoneV
  rw [if_neg (by decide), if_neg (by decide), if_neg (by decide), if_neg (by decide), if_pos (by decide)]
theorem zo_2 {a : Nat → Int32} {k : Nat} (hk : k < 288) : zoneQ a (nI (zoneN k)) (nI 2) = liA a k := zoneQ_nI (zoneN_lt hk)
theorem zo_4 {a : Nat → Int32} {k : Nat} (hk : k < 288) : zoneQ a (nI (zoneN k)) (nI 4) = peakF a (zoneN k) := (zoneQ_nI (zoneN_lt hk)).trans zv_4
theorem zo_6 {a : Nat → Int32} {k : Nat} (hk : k < 288) : zoneQ a (nI (zoneN k)) (nI 6) = leakF a (liA a k) := zoneQ_nI (zoneN_lt hk)
theorem peakK_ge {a : Nat → Int32} {z w : Nat} : ∀ k, w < k → a (spotN z w) ≤ peakK a z k
  | 0, h => absurd h (Nat.not_lt_zero _)
  | k + 1, h => by
    unfold peakK imax
    rw [Int32.le_iff_toInt_le]
    by_cases q : w = k
    · subst q
      split
      · exact Int.le_refl _
      · rename_i g
        exact Int32.le_iff_toInt_le.mp (Int32.not_lt.mp g)
    · have g1 := Int32.le_iff_toInt_le.mp (peakK_ge (a := a) (z := z) (w := w) k (by omega))
      split
      · rename_i g
        have := Int32.lt_iff_toInt_lt.mp g
        omega
      · exact g1
theorem spot_in_e : ∀ k, k < 288 → spotN (zoneN k) (k / 24 % 4 * 4 + k % 24 % 4) = k := by decide +kernel
theorem spot_in (k : Nat) (hk : k < 288) : ∃ w, w < 16 ∧ spotN (zoneN k) w = k := ⟨k / 24 % 4 * 4 + k % 24 % 4, by omega, spot_in_e k hk⟩
theorem peak_ge {a : Nat → Int32} {k : Nat} (hk : k < 288) : a k ≤ peakF a (zoneN k) := by
  obtain ⟨w, hw, e⟩ := spot_in k hk
  have := peakK_ge (a := a) (z := zoneN k) (w := w) 16 hw
  rw [e] at this
  exact this
/-- a zone's numbers -/
theorem zq_0 {a : Nat → Int32} {z : Nat} (hz : z < 18) : zoneQ a (nI z) (nI 0) = a (288 + z) := zoneQ_nI hz
theorem zq_1 {a : Nat → Int32} {z : Nat} (hz : z < 18) : zoneQ a (nI z) (nI 1) = wantF a (a 327) z := zoneQ_nI hz
theorem zq_2 {a : Nat → Int32} {z : Nat} (hz : z < 18) : zoneQ a (nI z) (nI 2) = lightF a (levO a) z := zoneQ_nI hz
theorem zq_3 {a : Nat → Int32} {z : Nat} (hz : z < 18) : zoneQ a (nI z) (nI 3) = a (306 + z) := zoneQ_nI hz
theorem zq_4 {a : Nat → Int32} {z : Nat} (hz : z < 18) : zoneQ a (nI z) (nI 4) = peakF a z := (zoneQ_nI hz).trans zv_4
theorem zq_5 {a : Nat → Int32} {z : Nat} (hz : z < 18) : zoneQ a (nI z) (nI 5) = meanF a z := zoneQ_nI hz
theorem pos_nI {x : Int32} {n : Nat} (h : x = nI n) (hn : n < 2 ^ 31) : ¬ x < 0 := by
  rw [h]
  exact nI_pos hn
theorem le_nI {x y : Int32} {n m : Nat} (h : x = nI n) (g : y = nI m) (hn : n < 2 ^ 31) (hm : m < 2 ^ 31) (hnm : n ≤ m) : ¬ y < x := by
  rw [h, g]
  exact nI_nlt hnm hm
theorem lev_0 {a : Nat → Int32} (h : okA a) {z : Nat} (hz : z < 18) : ¬ a (288 + z) < 0 := by
  obtain ⟨n, hn, e⟩ := h.2.1 z hz
  exact pos_nI e (by omega)
theorem lev_255 {a : Nat → Int32} (h : okA a) {z : Nat} (hz : z < 18) : ¬ nI 255 < a (288 + z) := by
  obtain ⟨n, hn, e⟩ := h.2.1 z hz
  exact le_nI e rfl (by omega) (by decide) (by omega)
theorem wan_0 {a : Nat → Int32} (h : okA a) (z : Nat) : ¬ wantF a (a 327) z < 0 := by
  obtain ⟨n, hn, e⟩ := lowW_want h.1 (a 327) z
  exact pos_nI e (by omega)
theorem wan_255 {a : Nat → Int32} (h : okA a) (z : Nat) : ¬ nI 255 < wantF a (a 327) z := by
  obtain ⟨n, hn, e⟩ := lowW_want h.1 (a 327) z
  exact le_nI e rfl (by omega) (by decide) (by omega)
theorem dead_l {a : Nat → Int32} (h : okA a) {z : Nat} (hz : z < 18) (hd : ¬ a (306 + z) = 0) : a (288 + z) = 0 := (h.2.2.1 z hz).resolve_left hd
theorem dead_w {a : Nat → Int32} {z : Nat} (hd : ¬ a (306 + z) = 0) : wantF a (a 327) z = 0 := dead_want hd
theorem mean_peak {a : Nat → Int32} (h : okA a) {z : Nat} (hz : z < 18) : ¬ peakF a z < meanF a z := by
  have key : ∀ k, k ≤ 16 → ∃ p s, p < 256 ∧ s ≤ k * p ∧ peakK a z k = nI p ∧ sumK a z k = nI s := by
    intro k
    induction k with
    | zero => intro _; exact ⟨0, 0, by decide, by decide, rfl, rfl⟩
    | succ k ih =>
      intro hk
      obtain ⟨p, s, hp, hs, ep, es⟩ := ih (by omega)
      obtain ⟨m, hm, em⟩ := h.1.1 (spotN z k) (spotN_lt hz (by omega))
      refine ⟨maxN p m, s + m, by unfold maxN; split <;> omega, ?_, ?_, ?_⟩
      · have h1 : p ≤ maxN p m := by unfold maxN; split <;> omega
        have h2 : m ≤ maxN p m := by unfold maxN; split <;> omega
        have h3 : k * p ≤ k * maxN p m := Nat.mul_le_mul_left _ h1
        rw [Nat.succ_mul]
        omega
      · rw [peakK, ep, em]
        exact imax_nI (by omega) (by omega)
      · rw [sumK, es, em, nI_add]
  obtain ⟨p, s, hp, hs, ep, es⟩ := key 16 (Nat.le_refl _)
  have e1 : peakF a z = nI p := ep
  have e2 : meanF a z = nI (s / 16) := by
    rw [meanF, es]
    exact pk_div (d := 16) (by omega) (by decide) (by decide)
  exact le_nI e2 e1 (by omega) (by omega) (by omega)
theorem glow_own {a : Nat → Int32} (h : okA a) {z v o : Nat} (hz : z < 18) (hv0 : v < 256) (ho0 : o ≤ 256) (ev : a (288 + z) = nI v) (eo : a 324 = nI o) : ∀ k, k ≤ 18 → ∃ g, g ≤ k * 65280 ∧ glowK a (levO a) z k = nI g ∧ (z < k → v * o ≤ g)
  | 0, _ => ⟨0, by decide, rfl, fun q => absurd q (Nat.not_lt_zero _)⟩
  | k + 1, hk => by
    obtain ⟨g, hg, e, hv⟩ := glow_own h hz hv0 ho0 ev eo k (by omega)
    unfold glowK
    by_cases q : apartN z k < 3
    · rw [if_pos q, e]
      obtain ⟨m, hm, em⟩ := h.2.1 k (by omega)
      have hs : ∃ s, s ≤ 256 ∧ a (324 + apartN z k) = nI s ∧ (apartN z k = 0 → s = o) := by
        rcases (show apartN z k = 0 ∨ apartN z k = 1 ∨ apartN z k = 2 by omega) with q | q | q <;> rw [q]
        · obtain ⟨s, -, h2, e⟩ := h.1.2.2.1
          refine ⟨s, h2, e, fun _ => ?_⟩
          have e3 : nI s = nI o := e.symm.trans eo
          exact (nI_eq (by omega) (by omega)).mp e3
        · obtain ⟨s, h2, e⟩ := h.1.2.2.2.1
          exact ⟨s, by omega, e, fun q => absurd q (by decide)⟩
        · obtain ⟨s, h2, e⟩ := h.1.2.2.2.2.1
          exact ⟨s, by omega, e, fun q => absurd q (by decide)⟩
      obtain ⟨s, hs, es, hso⟩ := hs
      have hms : m * s ≤ 65280 := Nat.le_trans (Nat.mul_le_mul (show m ≤ 255 by omega) hs) (by decide)
      refine ⟨g + m * s, by omega, ?_, fun hk2 => ?_⟩
      · rw [show levO a k = nI m from em, es, pk_mul, nI_add]
      · by_cases q2 : z = k
        · subst q2
          have e5 : m = v := (nI_eq (by omega) (by omega)).mp (em.symm.trans ev)
          rw [e5, hso (apartN_self z)]
          omega
        · exact Nat.le_trans (hv (by omega)) (Nat.le_add_right _ _)
    · rw [if_neg q]
      refine ⟨g, Nat.le_trans hg (Nat.mul_le_mul_right _ (Nat.le_succ k)), e, fun hk2 => ?_⟩
      by_cases q2 : z = k
      · subst q2
        exact absurd (by rw [apartN_self]; decide) q
      · exact hv (by omega)
theorem light_ge {a : Nat → Int32} (h : okA a) {z : Nat} (hz : z < 18) : ¬ lightF a (levO a) z < a (288 + z) * a 324 / 256 := by
  obtain ⟨v, hv, ev⟩ := h.2.1 z hz
  obtain ⟨o, -, ho, eo⟩ := h.1.2.2.1
  obtain ⟨g, hg, eg, hvo⟩ := glow_own h hz hv ho ev eo 18 (Nat.le_refl _)
  have hle : v * o ≤ 255 * 256 := Nat.mul_le_mul (by omega) ho
  have hvg := hvo hz
  have e1 : lightF a (levO a) z = nI (minN 255 (g / 256)) := by
    unfold lightF lightV
    rw [eg, show nI g / 256 = nI (g / 256) from pk_div (d := 256) (by omega) (by decide) (by decide), imin_255n (by omega)]
  have e2 : a (288 + z) * a 324 / 256 = nI (v * o / 256) := by
    rw [ev, eo, pk_mul]
    exact pk_div (d := 256) (by omega) (by decide) (by decide)
  refine le_nI e2 e1 (by omega) (by have := minN_255 (g / 256); omega) ?_
  generalize v * o = u at hle hvg
  unfold minN
  split <;> omega
/-- rest -/
def restP (a : Nat → Int32) (z : Nat) : Prop := ∀ q, q < z → a (288 + q) = wantF a (a 327) q
def lvN (a : Nat → Int32) (z : Nat) : Nat := (a (288 + z)).toNatClampNeg
def wN (w : Nat → Int32) (z : Nat) : Nat := (w z).toNatClampNeg
theorem lvN_e {a : Nat → Int32} (h : okA a) {z : Nat} (hz : z < 18) : lvN a z < 256 ∧ a (288 + z) = nI (lvN a z) := by
  obtain ⟨n, hn, e⟩ := h.2.1 z hz
  unfold lvN
  rw [e, nI_clamp (by omega)]
  exact ⟨hn, rfl⟩
theorem wN_e {w : Nat → Int32} (h : lowW w) (z : Nat) : wN w z < 256 ∧ w z = nI (wN w z) := by
  obtain ⟨n, hn, e⟩ := h z
  unfold wN
  rw [e, nI_clamp (by omega)]
  exact ⟨hn, rfl⟩
def gapN (a w : Nat → Int32) : Nat → Nat
  | 0 => 0
  | z + 1 => maxN (gapN a w z) (distN (wN w z) (lvN a z))
theorem distN_lt {u v : Nat} (hu : u < 256) (hv : v < 256) : distN u v < 256 := by
  unfold distN
  split <;> omega
theorem gapN_e {a w : Nat → Int32} (h : okA a) (hw : lowW w) : ∀ z, z ≤ 18 → gapN a w z < 256 ∧ gapK a w z = nI (gapN a w z)
  | 0, _ => ⟨Nat.zero_lt_succ _, rfl⟩
  | z + 1, hz => by
    obtain ⟨h1, h2⟩ := gapN_e h hw z (by omega)
    obtain ⟨g1, g2⟩ := lvN_e h (show z < 18 by omega)
    obtain ⟨k1, k2⟩ := wN_e hw z
    have hd := distN_lt k1 g1
    refine ⟨?_, ?_⟩
    · show maxN _ _ < 256
      unfold maxN
      split <;> omega
    · show imax (gapK a w z) (iabs (w z - a (288 + z))) = nI (maxN _ _)
      rw [h2, k2, g2, iabs_sub (by omega) (by omega)]
      rw [show wN w z = wN w z from rfl]
      exact imax_nI (by omega) (by omega)
theorem gapN_0 {a w : Nat → Int32} (h : okA a) (hw : lowW w) : ∀ z, z ≤ 18 → (gapN a w z = 0 ↔ ∀ q, q < z → a (288 + q) = w q)
  | 0, _ => ⟨fun _ q hq => absurd hq (Nat.not_lt_zero _), fun _ => rfl⟩
  | z + 1, hz => by
    have ih := gapN_0 h hw z (by omega)
    obtain ⟨g1, g2⟩ := lvN_e h (show z < 18 by omega)
    obtain ⟨k1, k2⟩ := wN_e hw z
    have hd : distN (wN w z) (lvN a z) = 0 ↔ a (288 + z) = w z := by
      rw [g2, k2, nI_eq (by omega) (by omega)]
      unfold distN
      split <;> omega
    have hm : maxN (gapN a w z) (distN (wN w z) (lvN a z)) = 0 ↔ gapN a w z = 0 ∧ distN (wN w z) (lvN a z) = 0 := by
      unfold maxN
      split <;> omega
    show maxN (gapN a w z) (distN (wN w z) (lvN a z)) = 0 ↔ _
    rw [hm, ih, hd]
    refine ⟨fun q j hj => ?_, fun q => ⟨fun j hj => q j (by omega), q z (by omega)⟩⟩
    by_cases e : j = z
    · rw [e]
      exact q.2
    · exact q.1 j (by omega)
def gpA (a : Nat → Int32) : Nat := gapN a (wantF a (a 327)) 18
theorem gpA_e {a : Nat → Int32} (h : okA a) : gpA a < 256 ∧ gapF a = nI (gpA a) := gapN_e h (lowW_want h.1 _) 18 (Nat.le_refl _)
theorem gpA_0 {a : Nat → Int32} (h : okA a) : gpA a = 0 ↔ restP a 18 := gapN_0 h (lowW_want h.1 _) 18 (Nat.le_refl _)
theorem gap_0 {a : Nat → Int32} (h : okA a) : gapF a = 0 ↔ restP a 18 := by
  obtain ⟨h1, h2⟩ := gpA_e h
  rw [← gpA_0 h, h2, show (0 : Int32) = nI 0 from rfl, nI_eq (by omega) (by decide)]
def rsN (g st : Nat) : Nat := (g + st - 1) / st
theorem rstQ_e {a : Nat → Int32} (h : okA a) : ∃ st, 1 ≤ st ∧ st ≤ 255 ∧ a 331 = nI st ∧ restsQ a = nI (rsN (gpA a) st) ∧ rsN (gpA a) st < 512 := by
  obtain ⟨st, h1, h2, e⟩ := h.1.2.2.2.2.2.2.2.2.2
  obtain ⟨g1, g2⟩ := gpA_e h
  refine ⟨st, h1, h2, e, ?_, ?_⟩
  · unfold restsQ rsN
    rw [g2, e, rup_nI (by omega) (by omega), if_pos (by omega)]
  · unfold rsN
    have := Nat.div_le_self (gpA a + st - 1) st
    omega
theorem rsN_0 {g st : Nat} (h : 1 ≤ st) : rsN g st = 0 ↔ g = 0 := by
  unfold rsN
  rw [Nat.div_eq_zero_iff]
  omega
theorem rstQ_0 {a : Nat → Int32} (h : okA a) : restsQ a = 0 ↔ restP a 18 := by
  obtain ⟨st, h1, h2, e, e2, h3⟩ := rstQ_e h
  rw [← gpA_0 h, e2, show (0 : Int32) = nI 0 from rfl, nI_eq (by omega) (by decide), rsN_0 h1]
theorem rs_0 {a : Nat → Int32} {z : Nat} {r : Int32} (er : bP r (restP a z)) (c : r = 0) : bP (nI 0) (restP a (z + 1)) := Or.inr ⟨rfl, fun q => bP_f er c (fun j hj => q j (by omega))⟩
theorem rs_1 {a : Nat → Int32} {z : Nat} (c : ¬ a (288 + z) = wantF a (a 327) z) : bP (nI 0) (restP a (z + 1)) := Or.inr ⟨rfl, fun q => c (q z (by omega))⟩
theorem rs_2 {a : Nat → Int32} {z : Nat} {r : Int32} (er : bP r (restP a z)) (c : ¬ r = 0) (c2 : a (288 + z) = wantF a (a 327) z) : bP (nI 1) (restP a (z + 1)) := Or.inl ⟨rfl, fun q hq => by
  by_cases e : q = z
  · rw [e]
    exact c2
  · exact bP_t er c q (by omega)⟩
theorem bP_T {r : Int32} {P : Prop} (h : bP r P) (q : P) : r = nI 1 := by
  rcases h with h | h
  · exact h.1
  · exact absurd q h.2
theorem bP_F {r : Int32} {P : Prop} (h : bP r P) (q : ¬ P) : r = nI 0 := by
  rcases h with h | h
  · exact absurd h.2 q
  · exact h.1
theorem rs_c1 {a : Nat → Int32} {r x : Int32} (h : okA a) (er : bP r (restP a 18)) (ex : x = if gapF a = 0 then 1 else 0) (c : x = nI 1) : r = nI 1 := by
  by_cases q : gapF a = 0
  · exact bP_T er ((gap_0 h).mp q)
  · rw [ex, if_neg q] at c
    exact absurd c (by decide)
theorem rs_c0 {a : Nat → Int32} {r x : Int32} (h : okA a) (er : bP r (restP a 18)) (ex : x = if gapF a = 0 then 1 else 0) (c : ¬ x = nI 1) : r = nI 0 := by
  by_cases q : gapF a = 0
  · rw [ex, if_pos q] at c
    exact absurd rfl c
  · exact bP_F er (fun g => q ((gap_0 h).mpr g))
theorem rt_1 {a : Nat → Int32} {r x : Int32} (h : okA a) (er : bP r (restP a 18)) (ex : x = restsQ a) (c : x = 0) : r = nI 1 := bP_T er ((rstQ_0 h).mp (ex.symm.trans c))
theorem rt_0 {a : Nat → Int32} {r x : Int32} (h : okA a) (er : bP r (restP a 18)) (ex : x = restsQ a) (c : ¬ x = 0) : r = nI 0 := bP_F er (fun g => c (ex.trans ((rstQ_0 h).mpr g)))
/-- numbers of the whole -/
theorem cq_v {a : Nat → Int32} {n t k : Nat} (h : k < 13) : countQ a n t (nI k) = countV a n t (nI k) := countQ_v (nI_pos (by omega)) (show nI k < 13 from nI_lt (b := 13) h (by decide))
theorem ct_0 {a : Nat → Int32} {n t : Nat} : countQ a n t (nI 0) = a 332 := cq_v (by decide)
theorem ct_1 {a : Nat → Int32} {n t : Nat} : countQ a n t (nI 1) = powK (levO a) 18 := cq_v (by decide)
theorem ct_2 {a : Nat → Int32} {n t : Nat} : countQ a n t (nI 2) = a 333 := cq_v (by decide)
theorem ct_4 {a : Nat → Int32} {n t : Nat} : countQ a n t (nI 4) = nI 288 - tRow a 288 0 - tRow a 288 1 := by
  rw [← tAll_row]
  exact cq_v (by decide)
theorem ct_5 {a : Nat → Int32} {n t : Nat} : countQ a n t (nI 5) = tRow a 288 0 := by
  rw [← tAll_row, cq_v (by decide)]
  unfold countV
  rw [if_neg (by decide), if_neg (by decide), if_neg (by decide), if_neg (by decide), if_pos (by decide)]
  unfold tallyV
  rw [if_neg (by decide), if_pos (by decide)]
theorem ct_6 {a : Nat → Int32} {n t : Nat} : countQ a n t (nI 6) = tRow a 288 1 := by
  rw [← tAll_row, cq_v (by decide)]
  unfold countV
  rw [if_neg (by decide), if_neg (by decide), if_neg (by decide), if_neg (by decide), if_pos (by decide)]
  unfold tallyV
  rw [if_neg (by decide), if_neg (by decide), if_pos (by decide)]
theorem ct_7 {a : Nat → Int32} {n t : Nat} : countQ a n t (nI 7) = tRow a 288 2 := by
  rw [← tAll_row, cq_v (by decide)]
  unfold countV
  rw [if_neg (by decide), if_neg (by decide), if_neg (by decide), if_neg (by decide), if_pos (by decide)]
  unfold tallyV
  rw [if_neg (by decide), if_neg (by decide), if_neg (by decide), if_pos (by decide)]
theorem ct_8 {a : Nat → Int32} {n t : Nat} : countQ a n t (nI 8) = tRow a 288 3 := by
  rw [← tAll_row, cq_v (by decide)]
  unfold countV
  rw [if_neg (by decide), if_neg (by decide), if_neg (by decide), if_neg (by decide), if_pos (by decide)]
  unfold tallyV
  rw [if_neg (by decide), if_neg (by decide), if_neg (by decide), if_neg (by decide)]
theorem ct_9 {a : Nat → Int32} {n t : Nat} : countQ a n t (nI 9) = deadK a 18 := by
  rw [cq_v (by decide)]
  unfold countV
  rw [if_neg (by decide), if_neg (by decide), if_neg (by decide), if_neg (by decide), if_neg (by decide), if_pos (by decide)]
theorem ct_10 {a : Nat → Int32} {n t : Nat} : countQ a n t (nI 10) = if gapF a = 0 then 1 else 0 := by
  rw [cq_v (by decide)]
  unfold countV
  rw [if_neg (by decide), if_neg (by decide), if_neg (by decide), if_neg (by decide), if_neg (by decide), if_neg (by decide), if_pos (by decide)]
theorem mean_dcmp (v : Int32) : Op.cmpValue (FP.dcmp (FP.ddiv (FP.i2d v) c288) (FP.ddiv (FP.i2d v) c288)) .l = 0 := by
  have h : FP.Core.dIsNaN (FP.Core.ddiv (FP.Core.i2d v) c288) = false := FP.Core.ddiv_out (FP.Core.DFin.notNaN (FP.Core.i2d_fin v)) ((FP.Core.fin_bits _).mpr (by decide)) (fun q => absurd ((FP.Core.zero_bits2 _).mp q) (by decide))
  have h2 : FP.Core.dcmp (FP.Core.ddiv (FP.Core.i2d v) c288) (FP.Core.ddiv (FP.Core.i2d v) c288) = some .eq := FP.Core.dcmp_self ((FP.Core.notNaN_iff _).mp h)
  show Op.cmpValue (FP.Core.dcmp (FP.Core.ddiv (FP.Core.i2d v) c288) (FP.Core.ddiv (FP.Core.i2d v) c288)) .l = 0
  rw [h2]
  rfl
theorem sh_l {a : Nat → Int32} (h : okA a) {k : Nat} (hk : k < 288) (c : thA a k < leakF a (liA a k)) : shA a k = leakF a (liA a k) := by
  rw [SH_def]
  exact if_pos c
theorem sh_t {a : Nat → Int32} (h : okA a) {k : Nat} (hk : k < 288) (c : leakF a (liA a k) ≤ thA a k) : shA a k = thA a k := by
  rw [SH_def]
  exact if_neg (Int32.not_lt.mpr c)
theorem sh_t2 {a : Nat → Int32} (h : okA a) {k : Nat} (hk : k < 288) (c : ¬ thA a k < leakF a (liA a k)) : shA a k = thA a k := by
  rw [SH_def]
  exact if_neg c
theorem vd_0 {a : Nat → Int32} (h : okA a) {k : Nat} (hk : k < 288) (c : ¬ ¬ byA a k = 0) : verdF (a k) (shA a k) = nI 0 := if_pos ((BY_0 h hk).mp (Decidable.not_not.mp c))
theorem vd_00 {a : Nat → Int32} (h : okA a) {k : Nat} (hk : k < 288) (c : byA a k = 0) : verdF (a k) (shA a k) = nI 0 := if_pos ((BY_0 h hk).mp c)
theorem vd_1 {a : Nat → Int32} (h : okA a) {k : Nat} (hk : k < 288) (c : ¬ byA a k = 0) (d : shA a k < a k) : verdF (a k) (shA a k) = nI 1 := by
  unfold verdF
  rw [if_neg (fun q => c ((BY_0 h hk).mpr q)), if_pos d]
  rfl
theorem vd_2 {a : Nat → Int32} (h : okA a) {k : Nat} (hk : k < 288) (c : ¬ byA a k = 0) (d : ¬ shA a k < a k) : verdF (a k) (shA a k) = nI 2 := by
  unfold verdF
  rw [if_neg (fun q => c ((BY_0 h hk).mpr q)), if_neg d]
  rfl
/-- counts of both -/
theorem cv_same {a : Nat → Int32} {n n' t t' : Nat} {w : Int32} (h1 : ¬ w = 11) (h2 : ¬ w = 12) : countV a n t w = countV a n' t' w := by
  unfold countV
  simp only [h1, h2, if_false]
theorem cq_same {a : Nat → Int32} {n n' t t' k : Nat} (hk : k < 11) : countQ a n t (nI k) = countQ a n' t' (nI k) := by
  rw [cq_v (by omega), cq_v (by omega)]
  refine cv_same (fun q => ?_) (fun q => ?_)
  · have := (nI_eq (a := k) (b := 11) (by omega) (by decide)).mp q
    omega
  · have := (nI_eq (a := k) (b := 12) (by omega) (by decide)).mp q
    omega
