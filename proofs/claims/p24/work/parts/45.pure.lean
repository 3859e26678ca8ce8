/-! PURE: for the law: small numbers, digits, texts -/
theorem i2c_nI {n : Nat} (h : n < 65536) : ((nI n).toUInt32 % 65536).toInt32 = nI n := by
  apply Int32.toBitVec_inj.1
  apply BitVec.eq_of_toNat_eq
  show (BitVec.ofNat 32 n % 65536#32).toNat = (BitVec.ofNat 32 n).toNat
  have e : (65536#32).toNat = 65536 := by decide
  rw [BitVec.toNat_umod, e, BitVec.toNat_ofNat]
  omega
theorem char_nar {x : Int32} : vp_nar .char (x.toUInt32 % 65536).toInt32 = (x.toUInt32 % 65536).toInt32 := by
  unfold vp_nar
  rw [pk_nc]
theorem nar_nI {n : Nat} (h : n < 65536) : vp_nar .char (nI n) = nI n := by
  have e := char_nar (x := nI n)
  rw [i2c_nI h] at e
  exact e
theorem ty_pos {x : Int32} {t : Nat} (h : x = nI (t + 1)) (ht : t < 60) : ¬ x ≤ 0 := by
  rw [h]
  exact nI_nle (Nat.succ_pos _) (by omega)
theorem up_nat (v : Int32) : ∃ m, m < 2 ^ 31 ∧ v &&& 2147483647 = nI m := by
  obtain ⟨k, hk, e⟩ := nI_of (x := v &&& 2147483647) (fun q => by
    have h1 := Int32.lt_iff_toInt_lt.mp q
    have hm : (v &&& 2147483647).toBitVec.msb = false := by
      show (v.toBitVec &&& 2147483647#32).msb = false
      rw [BitVec.msb_and]
      have : (2147483647#32).msb = false := by decide
      rw [this, Bool.and_false]
    have h2 : (v &&& 2147483647).toInt = ((v &&& 2147483647).toBitVec.toNat : Int) := BitVec.toInt_eq_toNat_of_msb hm
    have h0 : (0 : Int32).toInt = 0 := rfl
    omega)
  exact ⟨k, hk, e⟩
theorem up_lt {v x : Int32} {n : Nat} (hn : 0 < n) (hn2 : n < 2 ^ 31) (hx : x = v &&& 2147483647) : ∃ k, k < n ∧ x - x / nI n * nI n = nI k := by
  obtain ⟨m, hm, e⟩ := up_nat v
  rw [hx, e, pk_rem hm hn hn2]
  exact ⟨m % n, Nat.mod_lt _ hn, rfl⟩
/-- a number's digits, as they are typed -/
def digs (v : Nat) : List Int32 := if v < 10 then [nI (48 + v % 10)] else if v < 100 then [nI (48 + v / 10 % 10), nI (48 + v % 10)] else [nI (48 + v / 100), nI (48 + v / 10 % 10), nI (48 + v % 10)]
theorem digs_1 {v : Nat} (h : v < 10) : digs v = [nI (48 + v % 10)] := if_pos h
theorem digs_2 {v : Nat} (h1 : 10 ≤ v) (h : v < 100) : digs v = [nI (48 + v / 10 % 10), nI (48 + v % 10)] := by
  unfold digs
  rw [if_neg (by omega), if_pos h]
theorem digs_3 {v : Nat} (h : 100 ≤ v) : digs v = [nI (48 + v / 100), nI (48 + v / 10 % 10), nI (48 + v % 10)] := by
  unfold digs
  rw [if_neg (by omega), if_neg (by omega)]
theorem digs_le (v : Nat) : (digs v).length ≤ 3 := by
  unfold digs
  split
  · exact (by decide : 1 ≤ 3)
  · split
    · exact (by decide : 2 ≤ 3)
    · exact (by decide : 3 ≤ 3)
/-- a text with more put behind its first t characters -/
def putL (tx : Nat → Int32) (t : Nat) : List Int32 → Nat → Int32
  | [] => tx
  | c :: L => putL (upd tx t c) (t + 1) L
theorem putL_app (L M : List Int32) : ∀ (tx : Nat → Int32) (t : Nat), putL (putL tx t L) (t + L.length) M = putL tx t (L ++ M) := by
  induction L with
  | nil => intro tx t; rfl
  | cons c L ih =>
    intro tx t
    show putL (putL (upd tx t c) (t + 1) L) (t + (L.length + 1)) M = putL (upd tx t c) (t + 1) (L ++ M)
    rw [← ih, show t + 1 + L.length = t + (L.length + 1) by omega]
theorem putL_low (L : List Int32) : ∀ (tx : Nat → Int32) (t j : Nat), j < t → putL tx t L j = tx j := by
  induction L with
  | nil => intro tx t j h; rfl
  | cons c L ih =>
    intro tx t j h
    show putL (upd tx t c) (t + 1) L j = tx j
    rw [ih _ _ _ (by omega), pk_un (by omega)]
theorem putL_at (L : List Int32) : ∀ (tx : Nat → Int32) (t j : Nat), j < L.length → putL tx t L (t + j) = L.getD j 0 := by
  induction L with
  | nil => intro tx t j h; exact absurd h (Nat.not_lt_zero _)
  | cons c L ih =>
    intro tx t j h
    show putL (upd tx t c) (t + 1) L (t + j) = (c :: L).getD j 0
    cases j with
    | zero =>
      show putL (upd tx t c) (t + 1) L t = c
      rw [putL_low _ _ _ _ (by omega), pk_us]
    | succ j =>
      rw [show t + (j + 1) = t + 1 + j by omega, ih _ _ _ (by simpa using h)]
      rfl
/-- reading a list -/
def rdL : List Int32 → Nat → Nat → Int32 → Int32 × List Int32
  | [], i, f, v => if f = 4 ∧ ¬ v = -1 then (-5, [v]) else (nI i, [])
  | c :: L, i, f, v => if ¬ v = -1 ∧ c = tab_END.getD f 0 then ((rdL L (i + 1) ((f + 1) % 5) (-1)).1, v :: (rdL L (i + 1) ((f + 1) % 5) (-1)).2)
    else if wdF v c f = -1 then (nI i, []) else rdL L (i + 1) f (wdF v c f)
theorem rdK_L (L : List Int32) : ∀ (tx : Nat → Int32) (i f : Nat) (v : Int32), (∀ j, j < L.length → tx (i + j) = L.getD j 0) → rdK tx L.length i f v = rdL L i f v := by
  induction L with
  | nil => intro tx i f v h; rfl
  | cons c L ih =>
    intro tx i f v h
    have h0 : tx i = c := h 0 (by simp)
    have hs : ∀ j, j < L.length → tx (i + 1 + j) = L.getD j 0 := fun j hj => by
      have := h (j + 1) (by simpa using hj)
      rw [show i + (j + 1) = i + 1 + j by omega] at this
      exact this
    show rdK tx (L.length + 1) i f v = _
    unfold rdK rdL
    rw [h0, ih tx (i + 1) _ _ hs, ih tx (i + 1) _ _ hs]
theorem rdF_putL {tx : Nat → Int32} {L : List Int32} : rdF (putL tx 0 L) L.length = rdL L 0 0 (-1) := rdK_L L _ 0 0 (-1) (fun j hj => putL_at L tx 0 j hj)
theorem rdL_dig {c u v : Int32} {L : List Int32} {i f : Nat} (h1 : ¬ c = tab_END.getD f 0) (h2 : wdF v c f = u) (h3 : ¬ u = -1) : rdL (c :: L) i f v = rdL L (i + 1) f u := by
  rw [rdL, if_neg (fun q => h1 q.2), h2, if_neg h3]
theorem rdL_sep {c v : Int32} {L : List Int32} {i f : Nat} {M : List Int32} (h1 : ¬ v = -1) (h2 : c = tab_END.getD f 0) (h3 : rdL L (i + 1) ((f + 1) % 5) (-1) = (-5, M)) : rdL (c :: L) i f v = (-5, v :: M) := by
  rw [rdL, if_pos ⟨h1, h2⟩, h3]
def fOK (f m : Nat) : Prop := (f = 0 ∧ m < 24) ∨ (f = 1 ∧ m < 12) ∨ (f = 2 ∧ 1 ≤ m ∧ m < 4) ∨ (f = 3 ∧ 1 ≤ m ∧ m < 4) ∨ (f = 4 ∧ m < 256)
theorem dch_end : ∀ d, d < 10 → ∀ f, f < 5 → ¬ nI (48 + d) = tab_END.getD f 0 := by decide +kernel
theorem wd_1 : ∀ m, m < 10 → ∀ f, f < 5 → (f = 2 ∨ f = 3 → 1 ≤ m) → wdF (-1) (nI (48 + m % 10)) f = nI m ∧ ¬ nI m = -1 := by decide +kernel
theorem wd_20 : ∀ m, m < 24 → 10 ≤ m → (wdF (-1) (nI (48 + m / 10 % 10)) 0 = nI (m / 10) ∧ ¬ nI (m / 10) = -1) ∧ wdF (nI (m / 10)) (nI (48 + m % 10)) 0 = nI m ∧ ¬ nI m = -1 := by decide +kernel
theorem wd_21 : ∀ m, m < 12 → 10 ≤ m → (wdF (-1) (nI (48 + m / 10 % 10)) 1 = nI (m / 10) ∧ ¬ nI (m / 10) = -1) ∧ wdF (nI (m / 10)) (nI (48 + m % 10)) 1 = nI m ∧ ¬ nI m = -1 := by decide +kernel
theorem wd_24 : ∀ m, m < 100 → 10 ≤ m → (wdF (-1) (nI (48 + m / 10 % 10)) 4 = nI (m / 10) ∧ ¬ nI (m / 10) = -1) ∧ wdF (nI (m / 10)) (nI (48 + m % 10)) 4 = nI m ∧ ¬ nI m = -1 := by decide +kernel
theorem wd_2 {m f : Nat} (h1 : 10 ≤ m) (h2 : m < 100) (h : fOK f m) : (wdF (-1) (nI (48 + m / 10 % 10)) f = nI (m / 10) ∧ ¬ nI (m / 10) = -1) ∧ wdF (nI (m / 10)) (nI (48 + m % 10)) f = nI m ∧ ¬ nI m = -1 := by
  rcases h with ⟨rfl, h⟩ | ⟨rfl, h⟩ | ⟨rfl, h⟩ | ⟨rfl, h⟩ | ⟨rfl, h⟩
  · exact wd_20 m h h1
  · exact wd_21 m h h1
  · omega
  · omega
  · exact wd_24 m h2 h1
theorem wd_3 : ∀ m, m < 256 → 100 ≤ m → (wdF (-1) (nI (48 + m / 100)) 4 = nI (m / 100) ∧ ¬ nI (m / 100) = -1) ∧ (wdF (nI (m / 100)) (nI (48 + m / 10 % 10)) 4 = nI (m / 10) ∧ ¬ nI (m / 10) = -1) ∧ wdF (nI (m / 10)) (nI (48 + m % 10)) 4 = nI m ∧ ¬ nI m = -1 := by decide +kernel
theorem rdL_num {m f i : Nat} {L : List Int32} (h : fOK f m) : rdL (digs m ++ L) i f (-1) = rdL L (i + (digs m).length) f (nI m) := by
  have h' := h
  unfold fOK at h'
  have hf : f < 5 := by omega
  by_cases h1 : m < 10
  · rw [digs_1 h1]
    obtain ⟨g1, g2⟩ := wd_1 m h1 f hf (by omega)
    exact rdL_dig (dch_end _ (by omega) f hf) g1 g2
  · by_cases h2 : m < 100
    · rw [digs_2 (by omega) h2]
      obtain ⟨⟨g1, g2⟩, g3, g4⟩ := wd_2 (by omega) h2 h
      exact (rdL_dig (dch_end _ (by omega) f hf) g1 g2).trans (rdL_dig (dch_end _ (by omega) f hf) g3 g4)
    · rw [digs_3 (by omega)]
      have e4 : f = 4 := by omega
      subst e4
      obtain ⟨⟨g1, g2⟩, ⟨g3, g4⟩, g5, g6⟩ := wd_3 m (by omega) (by omega)
      exact (rdL_dig (dch_end _ (by omega) 4 hf) g1 g2).trans ((rdL_dig (dch_end _ (by omega) 4 hf) g3 g4).trans (rdL_dig (dch_end _ (by omega) 4 hf) g5 g6))
/-- the text of a rectangle -/
def txtL (x y w h v : Nat) : List Int32 := digs x ++ (nI 44 :: (digs y ++ (nI 43 :: (digs w ++ (nI 120 :: (digs h ++ (nI 61 :: digs v)))))))
theorem rd_txt {x y w h v : Nat} (hx : x < 24) (hy : y < 12) (hw : 1 ≤ w ∧ w < 4) (hh : 1 ≤ h ∧ h < 4) (hv : v < 256) : rdL (txtL x y w h v) 0 0 (-1) = (-5, [nI x, nI y, nI w, nI h, nI v]) := by
  unfold txtL
  rw [rdL_num (Or.inl ⟨rfl, hx⟩)]
  refine rdL_sep (m1_nI (by omega)) (by decide) ?_
  show rdL _ _ 1 (-1) = _
  rw [rdL_num (Or.inr (Or.inl ⟨rfl, hy⟩))]
  refine rdL_sep (m1_nI (by omega)) (by decide) ?_
  show rdL _ _ 2 (-1) = _
  rw [rdL_num (Or.inr (Or.inr (Or.inl ⟨rfl, hw.1, hw.2⟩)))]
  refine rdL_sep (m1_nI (by omega)) (by decide) ?_
  show rdL _ _ 3 (-1) = _
  rw [rdL_num (Or.inr (Or.inr (Or.inr (Or.inl ⟨rfl, hh.1, hh.2⟩))))]
  refine rdL_sep (m1_nI (by omega)) (by decide) ?_
  show rdL _ _ 4 (-1) = _
  have e : ∀ i, rdL (digs v ++ []) i 4 (-1) = rdL [] (i + (digs v).length) 4 (nI v) := fun i => rdL_num (Or.inr (Or.inr (Or.inr (Or.inr ⟨rfl, hv⟩))))
  rw [List.append_nil] at e
  rw [e]
  exact if_pos ⟨rfl, m1_nI (by omega)⟩
/-- the text as it was typed -/
theorem txt_put {tx : Nat → Int32} {x y w h v : Nat} : putL (upd (putL (upd (putL (upd (putL (upd (putL tx 0 (digs x)) (0 + (digs x).length) (nI 44)) (0 + (digs x).length + 1) (digs y)) (0 + (digs x).length + 1 + (digs y).length) (nI 43)) (0 + (digs x).length + 1 + (digs y).length + 1) (digs w)) (0 + (digs x).length + 1 + (digs y).length + 1 + (digs w).length) (nI 120)) (0 + (digs x).length + 1 + (digs y).length + 1 + (digs w).length + 1) (digs h)) (0 + (digs x).length + 1 + (digs y).length + 1 + (digs w).length + 1 + (digs h).length) (nI 61)) (0 + (digs x).length + 1 + (digs y).length + 1 + (digs w).length + 1 + (digs h).length + 1) (digs v) = putL tx 0 (txtL x y w h v) := by
  have key : ∀ (t : Nat) (D M : List Int32) (c : Int32) (f : Nat → Int32), putL (upd (putL f t D) (t + D.length) c) (t + D.length + 1) M = putL f t (D ++ (c :: M)) := fun t D M c f => putL_app D (c :: M) f t
  unfold txtL
  rw [← key, ← key, ← key, ← key]
theorem txt_len {x y w h v : Nat} : (txtL x y w h v).length = 0 + (digs x).length + 1 + (digs y).length + 1 + (digs w).length + 1 + (digs h).length + 1 + (digs v).length := by
  unfold txtL
  simp only [List.length_append, List.length_cons]
  omega
/-- what the text asks -/
theorem txt_all {tx : Nat → Int32} {x y w h v t : Nat} (hx : x < 24) (hy : y < 12) (hw : 1 ≤ w ∧ w < 4) (hh : 1 ≤ h ∧ h < 4) (hv : v < 256) (ht : t = (txtL x y w h v).length) : rdF (putL tx 0 (txtL x y w h v)) t = (-5, [nI x, nI y, nI w, nI h, nI v]) := by
  rw [ht, rdF_putL, rd_txt hx hy hw hh hv]
def rectA (a : Nat → Int32) (x y w h : Nat) (v : Int32) : Nat → Int32 := putA a (paintK a x y w h v 288)
theorem txt_F {a tx : Nat → Int32} {x y w h v t : Nat} (hx : x < 24) (hy : y < 12) (hw : 1 ≤ w ∧ w < 4) (hh : 1 ≤ h ∧ h < 4) (hv : v < 256) (ht : t = (txtL x y w h v).length) : allF a (putL tx 0 (txtL x y w h v)) t = .inr (nI (difK (rectA a x y w h (nI v)) a 288), rectA a x y w h (nI v)) := by
  have e : textA a [nI x, nI y, nI w, nI h, nI v] = rectA a x y w h (nI v) := by
    unfold textA
    rw [show ([nI x, nI y, nI w, nI h, nI v] : List Int32).length / 5 = 0 + 1 by simp, partsK]
    show putA a (paintK a (nI x).toNatClampNeg (nI y).toNatClampNeg (nI w).toNatClampNeg (nI h).toNatClampNeg (nI v) 288) = _
    rw [nI_clamp (by omega), nI_clamp (by omega), nI_clamp (by omega), nI_clamp (by omega)]
    rfl
  unfold allF
  rw [txt_all hx hy hw hh hv ht, if_pos rfl, e]
theorem txt_R {tx : Nat → Int32} {x y w h v t : Nat} (hx : x < 24) (hy : y < 12) (hw : 1 ≤ w ∧ w < 4) (hh : 1 ≤ h ∧ h < 4) (hv : v < 256) (ht : t = (txtL x y w h v).length) : (rdF (putL tx 0 (txtL x y w h v)) t).1 = -5 := congrArg Prod.fst (txt_all hx hy hw hh hv ht)
