/-! ROWS for constructors: arrays of known classes, the settings' first values -/
abbrev tab_FIRST : List Int32 := [180, 9, 1, 0, 3, 4, 2, 255]
def fstF : Nat → Int32 := fun j => if j < 8 then tab_FIRST.getD j 0 else 0
abbrev T3 : Type := ClassId × ClassId × ClassId
abbrev kT (Y : T3) : List (ClassId × FieldType) := [(Y.1, .int), (Y.2.1, .char), (Y.2.2, .boolean)]
def tbI : List nestW := [("ZonedLight", 32, yX1_init, "ZonedLight"), ("ZonedLight", 42, yX2_init, "ZonedLight"), ("ZonedLight", 49, yX4_init, "ZonedLight")]
/-- what a constructor's caller has -/
def cEnv (D : va_G) (Y : T3) (A : Nat → Prop) (U : State) (H : Heap) : Prop := va_K D vwCl (kT Y) U ∧ (va_Nw (.fieldLinkNest "ZonedLight$Screen" 35 "ZonedLight" "FIRST_SETTING" "[I" "ZonedLight") U ∧ ∀ w ∈ tbI, va_Nw (.methodLinkNest w.1 w.2.1 w.2.2.1 w.2.2.2) U) ∧ va_AO "ZonedLight$Screen" U ∧ Wst A U H "ZonedLight" "FIRST_SETTING" "[I" .int 8 tab_FIRST
theorem Wst.weak {A B : Nat → Prop} {s U : State} {H0 H : Heap} {locs : List Loc} {C n d : String} {ty : FieldType} {N : Nat} {xs : List Int32} (hvm : s.vm.Alike U.vm) (hS : va_S A H0 H locs) (hB : ∀ q, B q → A q) (h : Wst A s H0 C n d ty N xs) : Wst B U H C n d ty N xs := by
  obtain ⟨t, h1, h2⟩ := h.kept hvm hS.2.1
  obtain ⟨cf, kf, fi, f, a, cell, g1, g2, g3, g4, g5, g6, g7, g8⟩ := h1
  obtain ⟨cell2, k1, k2, k3, k4, k5, k6, k7⟩ := h2
  exact ⟨t, ⟨cf, kf, fi, f, a, cell, g1, g2, g3, g4, g5, g6, g7, fun q => g8 (hB a q)⟩, cell2, k1, k2, k3, k4, k5, k6, fun q => k7 (hB t q)⟩
theorem cEnv.go {D : va_G} {Y : T3} {A B : Nat → Prop} {s U : State} {H0 H : Heap} {locs : List Loc} (h : cEnv D Y A s H0) (hS : va_S A H0 H locs) (hB : ∀ q, B q → A q) (hW : s.WarmedH U.vm) : cEnv D Y B U H := ⟨va_K.moved hW.alike h.1, ⟨va_Nw.warmF hW h.2.1.1, fun w hw => va_Nw.warmM hW (h.2.1.2 w hw)⟩, va_AO.moved hW.alike h.2.2.1, Wst.weak hW.alike hS hB h.2.2.2⟩
theorem cEnv.call {D : va_G} {Y : T3} {A : Nat → Prop} {U : State} {H : Heap} {g : JFrame} {mk : MethodId} {a : Array Value} (h : cEnv D Y A U H) : cEnv D Y A (U.calling g mk a) H := by
  have al : U.vm.Alike (U.calling g mk a).vm := Vm.Alike.refl U.vm
  refine ⟨va_K.moved al h.1, ⟨va_Nw.same rfl (rfl : U.vm = (U.calling g mk a).vm) h.2.1.1, fun w hw => va_Nw.same rfl (rfl : U.vm = (U.calling g mk a).vm) (h.2.1.2 w hw)⟩, va_AO.moved al h.2.2.1, h.2.2.2.kept al (fun _ _ _ => rfl)⟩
/-- a constructor's world at its entry -/
def cPre (D : va_G) (Y : T3) (h0 : Nat) (e0 : va_E) (sz : Nat) (U : State) : Prop := U.heap.size = sz ∧ cEnv D Y (va_A [(h0, e0)] sz) U U.heap ∧ va_P D vwCl [(h0, e0)] U.heap ∧ va_D (fun _ => True) [(h0, e0)]
section GK
variable {p : Program} {l : Launch} {e : Env} {R : Room} {s : State} {m : MethodId} {args : Array Value} {below : List Frame} {meth : Method} {c : Code} {H : Heap} {locs : List Loc} {cells slots : Nat} {Q : State → Prop}
variable {cc : ByteArray} {pc : Nat} {ls : Array Slot} {rest : List Value} {D : va_G} {A : Nat → Prop} {Y : T3} {tys : List (ClassId × FieldType)} {ws : va_W} {H0 : Heap}
theorem nm_I {U : State} {x y : ClassId} (h1 : va_RA U x .int) (h2 : va_RA U y .int) : x = y := Option.some.inj (h1.symm.trans h2)
theorem nm_C {U : State} {x y : ClassId} (h1 : va_RA U x .char) (h2 : va_RA U y .char) : x = y := Option.some.inj (h1.symm.trans h2)
theorem nm_Z {U : State} {x y : ClassId} (h1 : va_RA U x .boolean) (h2 : va_RA U y .boolean) : x = y := Option.some.inj (h1.symm.trans h2)
theorem last_ty {tys : List (ClassId × FieldType)} {x : ClassId × FieldType} : (tys ++ [x])[tys.length]? = some x := by simp
theorem k_newI (hx : p.tables.exec = Jvm.exec) (hb : c.code = cc) (harr : (Cond.arrayClass .int).before args s = true) (hK : va_K D vwCl tys s) (t0 : Nat) {cI : ClassId} (ht : tys[t0]? = some (cI, .int)) (hP : va_P D vwCl ws H) (hD : va_D A ws) (hS : va_S A H0 H locs) (hA : ∀ q, H0.size ≤ q → A q) {n : Nat} (hn : n < 2 ^ 20) (hcells : cells + 1 ≤ R.cells) (hslots : slots + n ≤ R.slots) (hdg : decode cc pc = .ok (.newarray .int, 2))
    (kk : ∀ (q : Nat) (H1 : Heap), va_P D vwCl (ws ++ [(q, .inl (cI, n, .inl (fun _ => 0)))]) H1 → va_D A (ws ++ [(q, .inl (cI, n, .inl (fun _ => 0)))]) → va_S A H0 H1 locs → W p l e R s m args below meth c H1 locs (cells + 1) (slots + n) Q (F0 m (pc + 2) ls (.ref q :: rest))) : W p l e R s m args below meth c H locs cells slots Q (F0 m pc ls (.int (nI n) :: rest)) := by
  refine va_newa (atype := .int) hx hb harr rfl hK hP hD hS hA (N' := n) (a0 := (n, .inl (fun _ => 0))) (fun _ => rfl) (nI_pos (by omega)) (nI_clamp (by omega)) (by show n * 4 ≤ _; omega) hcells hslots hdg (fun q cA H1 hK1 hP1 hD1 hS1 => ?_)
  have e1 : cA = cI := nm_I (hK1.2 tys.length _ last_ty).2 (hK.2 t0 _ ht).2
  subst e1
  exact kk q H1 hP1 hD1 hS1
theorem k_newC (hx : p.tables.exec = Jvm.exec) (hb : c.code = cc) (harr : (Cond.arrayClass .char).before args s = true) (hK : va_K D vwCl tys s) (t0 : Nat) {cI : ClassId} (ht : tys[t0]? = some (cI, .char)) (hP : va_P D vwCl ws H) (hD : va_D A ws) (hS : va_S A H0 H locs) (hA : ∀ q, H0.size ≤ q → A q) {n : Nat} (hn : n < 2 ^ 20) (hcells : cells + 1 ≤ R.cells) (hslots : slots + n ≤ R.slots) (hdg : decode cc pc = .ok (.newarray .char, 2))
    (kk : ∀ (q : Nat) (H1 : Heap), va_P D vwCl (ws ++ [(q, .inl (cI, n, .inl (fun _ => 0)))]) H1 → va_D A (ws ++ [(q, .inl (cI, n, .inl (fun _ => 0)))]) → va_S A H0 H1 locs → W p l e R s m args below meth c H1 locs (cells + 1) (slots + n) Q (F0 m (pc + 2) ls (.ref q :: rest))) : W p l e R s m args below meth c H locs cells slots Q (F0 m pc ls (.int (nI n) :: rest)) := by
  refine va_newa (atype := .char) hx hb harr rfl hK hP hD hS hA (N' := n) (a0 := (n, .inl (fun _ => 0))) (fun _ => rfl) (nI_pos (by omega)) (nI_clamp (by omega)) (by show n * 2 ≤ _; omega) hcells hslots hdg (fun q cA H1 hK1 hP1 hD1 hS1 => ?_)
  have e1 : cA = cI := nm_C (hK1.2 tys.length _ last_ty).2 (hK.2 t0 _ ht).2
  subst e1
  exact kk q H1 hP1 hD1 hS1
theorem k_newZ (hx : p.tables.exec = Jvm.exec) (hb : c.code = cc) (harr : (Cond.arrayClass .boolean).before args s = true) (hK : va_K D vwCl tys s) (t0 : Nat) {cI : ClassId} (ht : tys[t0]? = some (cI, .boolean)) (hP : va_P D vwCl ws H) (hD : va_D A ws) (hS : va_S A H0 H locs) (hA : ∀ q, H0.size ≤ q → A q) {n : Nat} (hn : n < 2 ^ 20) (hcells : cells + 1 ≤ R.cells) (hslots : slots + n ≤ R.slots) (hdg : decode cc pc = .ok (.newarray .boolean, 2))
    (kk : ∀ (q : Nat) (H1 : Heap), va_P D vwCl (ws ++ [(q, .inl (cI, n, .inl (fun _ => 0)))]) H1 → va_D A (ws ++ [(q, .inl (cI, n, .inl (fun _ => 0)))]) → va_S A H0 H1 locs → W p l e R s m args below meth c H1 locs (cells + 1) (slots + n) Q (F0 m (pc + 2) ls (.ref q :: rest))) : W p l e R s m args below meth c H locs cells slots Q (F0 m pc ls (.int (nI n) :: rest)) := by
  refine va_newa (atype := .boolean) hx hb harr rfl hK hP hD hS hA (N' := n) (a0 := (n, .inl (fun _ => 0))) (fun _ => rfl) (nI_pos (by omega)) (nI_clamp (by omega)) (by show n * 1 ≤ _; omega) hcells hslots hdg (fun q cA H1 hK1 hP1 hD1 hS1 => ?_)
  have e1 : cA = cI := nm_Z (hK1.2 tys.length _ last_ty).2 (hK.2 t0 _ ht).2
  subst e1
  exact kk q H1 hP1 hD1 hS1
/-- the first settings copied into a new row -/
theorem k_copyT (hx : p.tables.exec = Jvm.exec) (hb : c.code = cc) (hml : c.maxLocals = ls.size) {own : String} {index : Nat} (hown : s.vm.findClass own = some m.cls) (hlink : (Cond.methodLink own index arraycopyName).before args s = true) (hnat : (Cond.native arraycopyName).before args s = true) (hstat : (Cond.static arraycopyName).before args s = true) (hini : (Cond.initialized "java/lang/System").before args s = true)
    (hK : va_K D vwCl tys s) (hP : va_P D vwCl ws H) (hD : va_D A ws) (hS : va_S A s.heap H locs) (q1 t1 : Nat) {a a0 : Nat} {c1 : ClassId} (hX : va_T .int a0 8 (fun j => .int (tab_FIRST.getD j 0)) A s s.heap) (ha1 : ws[q1]? = some (a, .inl (c1, 8, .inl (fun _ => 0)))) (ht1 : tys[t1]? = some (c1, .int))
    (hframes : 1 ≤ R.frames) (hlocals : (rest.map fun v => v.category).sum + (nativeFrameWords "java/lang/System" "arraycopy" 5 + 11) ≤ R.locals) (hdg : decode cc pc = .ok (.invokestatic index, 3))
    (kk : ∀ (H1 : Heap) (locs1 : List Loc), va_P D vwCl (ws.set q1 (a, .inl (c1, 8, .inl fstF))) H1 → va_D A (ws.set q1 (a, .inl (c1, 8, .inl fstF))) → va_S A s.heap H1 locs1 → W p l e R s m args below meth c H1 locs1 cells slots Q (F0 m (pc + 3) ls rest)) : W p l e R s m args below meth c H locs cells slots Q (F0 m pc ls (.int (nI 8) :: .int (nI 0) :: .ref a :: .int (nI 0) :: .ref a0 :: rest)) := by
  intro T hT X
  obtain ⟨scr, hs1, ⟨hs2, k0, hk0, cm0, hkk0⟩, hs3, hs4, -, hs6, hs7⟩ := hX
  have hc0 : H[a0]? = some scr := by rw [hS.2.1 a0 (Array.getElem?_eq_some_iff.mp hs1).1 hs7]; exact hs1
  have hc1 : H[a]? = some (vp_cell c1 (8, .inl (fun _ => 0))) := hP q1 _ ha1
  obtain ⟨-, k1, hk1, cm1, hkk1⟩ := (hK.2 t1 _ ht1).1 8 (fun j => .int ((fun _ => (0 : Int32)) j))
  have n8 : (nI 8).toNatClampNeg = 8 := nI_clamp (by decide)
  have n0 : (nI 0).toNatClampNeg = 0 := nI_clamp (by decide)
  obtain ⟨vm', X', step⟩ := X.arraycopy hx hown hlink hnat hstat hini (src := a0) (dst := a) (cs := scr) (cd := vp_cell c1 (8, .inl (fun _ => 0))) (srcPos := nI 0) (destPos := nI 0) (n := nI 8) (by rw [hT]; exact hc0) (by rw [hT]; exact hc1)
    hs2 (fun _ h => by cases h) hs3 (fun h => by cases h) hk0 hk1 hkk0 hkk1 (by simp [refKind]) (by decide) (by decide) (by decide)
    (by rw [nI_toInt (by decide), nI_toInt (by decide)]; omega)
    (by rw [nI_toInt (by decide), nI_toInt (by decide)]; show ¬ _ > ((arrV c1 8 (fun _ => .int 0)).slots.size : Int); rw [arrV_size]; decide)
    (fun vm₁ _ i hi => by
      have e : scr.slots.getD ((nI 0).toNatClampNeg + i) .null = .int (tab_FIRST.getD i 0) := by
        rw [n0, Nat.zero_add, Array.getD_eq_getD_getElem?, hs6 i (by rw [n8] at hi; exact hi)]
        rfl
      refine ⟨?_, ?_⟩
      · rw [e]
        rfl
      · rw [e]
        exact trivial)
    (g := F0 m pc ls (.int (nI 8) :: .int (nI 0) :: .ref a :: .int (nI 0) :: .ref a0 :: rest)) rfl (by rw [hml]) (rest := rest) rfl (by rw [hb]; exact hdg) hframes (by show 2 * 0 + _ + _ ≤ _; omega)
  have e1 : copied scr (vp_cell c1 (8, .inl (fun _ => 0))) (nI 0) (nI 0) (nI 8) = vp_cell c1 (8, .inl fstF) := by
    have e2 := va_copiedX (fun z => Value.int z) scr c1 (n0 := 8) (n1 := 8) (sp := 0) (dp := 0) (n := 8) (fun j => tab_FIRST.getD j 0) (fun _ => 0) hs6 (by decide)
    have e3 : va_cpy (fun j => tab_FIRST.getD j 0) (fun _ => (0 : Int32)) 0 0 8 = fstF := by
      funext j
      unfold fstF
      by_cases h : j < 8
      · rw [pk_cpy_in (Nat.zero_le _) (by omega), if_pos h]
        congr 1
        omega
      · rw [pk_cpy_out (by omega), if_neg h]
    rw [e3] at e2
    rw [← n0, ← n8] at e2
    exact e2
  rw [e1] at X' step
  have hl : a < H.size := (Array.getElem?_eq_some_iff.mp hc1).1
  have hheap : ((T.setVm vm').setCell a (vp_cell c1 (8, .inl fstF))).heap = H.setIfInBounds a (vp_cell c1 (8, .inl fstF)) := by rw [← hT]; rfl
  have oq : ∀ q : Nat, q ≠ a → (H.setIfInBounds a (vp_cell c1 (8, .inl fstF)))[q]? = H[q]? := fun q hq => by simp [Array.getElem?_setIfInBounds, Ne.symm hq]
  obtain ⟨t, a1, b1⟩ := kk _ _ (hP.set hD ha1 (show (H.setIfInBounds a _)[a]? = some _ by simp [Array.getElem?_setIfInBounds, hl]) oq) (hD.set ha1) ⟨by simp; exact hS.1, fun q g1 g2 => by
      rw [oq q (fun e => g2 (by rw [e]; exact hD.2 q1 _ ha1))]
      exact hS.2.1 q g1 g2, fun q hq => by
      rcases List.mem_append.mp hq with h | h
      · exact hS.2.2 q h
      · obtain ⟨z, -, hz⟩ := List.mem_map.mp h
        rw [← hz]
        exact hD.2 q1 _ ha1⟩ _ hheap X'
  exact ⟨t, step t a1, b1⟩
end GK
