/-! ROWS over the world: an instruction each -/
/-- what a method's body has at its entry -/
def Ctx (p : Program) (s : State) (m : MethodId) (meth : Method) (c : Code) (cc : ByteArray) (nL : Nat) (ret : Option FieldType) (own : String) (args : Array Value) (ws : List Cond) : Prop :=
  p.tables.exec = Jvm.exec ∧ c.code = cc ∧ c.maxLocals = nL ∧ meth.sig.returnType = ret ∧ s.vm.findClass own = some m.cls ∧ meth.locks = false ∧ (∀ w ∈ ws, w.before args s = true)
/-- contracts: over σ, args av; the answer and the new numbers are in post; only cells of A change, none is made -/
def MI (l : Launch) (y : MethodName) (ws : List Cond) (fr lo : Nat) (G : GG) (A : Nat → Prop) (σ : St) (av : List Value) (post : Int32 → St → Prop) : Prop :=
  Met l y ws { frames := fr, cells := 0, slots := 0, locals := lo } (va_Pc av (gP G A σ)) (va_Qi post (fun τ t => gP G A τ t) A) 0 0 A
def MV (l : Launch) (y : MethodName) (ws : List Cond) (fr lo : Nat) (G : GG) (A : Nat → Prop) (σ : St) (av : List Value) (post : St → Prop) : Prop :=
  Met l y ws { frames := fr, cells := 0, slots := 0, locals := lo } (va_Pc av (gP G A σ)) (va_Qv post (fun τ t => gP G A τ t) A) 0 0 A
theorem MI.on {l : Launch} {y : MethodName} {ws ws' : List Cond} {fr lo nL : Nat} {G : GG} {A : Nat → Prop} {σ : St} {av : List Value} {post : Int32 → St → Prop} {cc : ByteArray} {ret : Option FieldType} (hy : plainName y.cls = true) (hw : ws = Cond.code y cc nL ret :: ws') (hn : (lg_sl av).length ≤ nL)
    (body : ∀ (p : Program) (e : Env) (s : State) (m : MethodId) (args : Array Value) (below : List Frame) (meth : Method) (c : Code) (ls : Array Slot), p.tables.exec = Jvm.exec → c.code = cc → c.maxLocals = nL → meth.sig.returnType = ret → s.vm.findClass y.cls = some m.cls → meth.locks = false → (∀ w ∈ ws, w.before args s = true) → Wenv G A s s.heap → Wcel G σ s.heap → va_S A s.heap s.heap [] → lv_has ls nL (lv_args 0 av) →
      W p l e { frames := fr, cells := 0, slots := 0, locals := lo } s m args below meth c s.heap [] 0 0 (MQ below (va_Qi post (fun τ t => gP G A τ t) A) args s 0 0 A) (F0 m 0 ls [])) : MI l y ws fr lo G A σ av post := by
  refine Met.ofW hy hw ?_
  intro p e s m args below meth c s₁ B hml hv
  obtain ⟨rfl, hE, hC⟩ := hv
  have hl := lv_entry av (n := nL) hn
  rw [lg_entry_eq]
  exact body p e s m _ below meth c _ B.exec B.bytes hml B.returns (findClass_of_methodNamed B.named) B.notSynchronized (atoms_spec (ws := ws) B.pre) hE hC va_S.rf hl
theorem MV.on {l : Launch} {y : MethodName} {ws ws' : List Cond} {fr lo nL : Nat} {G : GG} {A : Nat → Prop} {σ : St} {av : List Value} {post : St → Prop} {cc : ByteArray} {ret : Option FieldType} (hy : plainName y.cls = true) (hw : ws = Cond.code y cc nL ret :: ws') (hn : (lg_sl av).length ≤ nL)
    (body : ∀ (p : Program) (e : Env) (s : State) (m : MethodId) (args : Array Value) (below : List Frame) (meth : Method) (c : Code) (ls : Array Slot), p.tables.exec = Jvm.exec → c.code = cc → c.maxLocals = nL → meth.sig.returnType = ret → s.vm.findClass y.cls = some m.cls → meth.locks = false → (∀ w ∈ ws, w.before args s = true) → Wenv G A s s.heap → Wcel G σ s.heap → va_S A s.heap s.heap [] → lv_has ls nL (lv_args 0 av) →
      W p l e { frames := fr, cells := 0, slots := 0, locals := lo } s m args below meth c s.heap [] 0 0 (MQ below (va_Qv post (fun τ t => gP G A τ t) A) args s 0 0 A) (F0 m 0 ls [])) : MV l y ws fr lo G A σ av post := by
  refine Met.ofW hy hw ?_
  intro p e s m args below meth c s₁ B hml hv
  obtain ⟨rfl, hE, hC⟩ := hv
  have hl := lv_entry av (n := nL) hn
  rw [lg_entry_eq]
  exact body p e s m _ below meth c _ B.exec B.bytes hml B.returns (findClass_of_methodNamed B.named) B.notSynchronized (atoms_spec (ws := ws) B.pre) hE hC va_S.rf hl
section GR
variable {p : Program} {l : Launch} {e : Env} {R : Room} {s : State} {m : MethodId} {args : Array Value} {below : List Frame} {meth : Method} {c : Code} {H : Heap} {locs : List Loc} {cells slots : Nat} {Q : State → Prop}
variable {cc : ByteArray} {pc : Nat} {ls : Array Slot} {rest : List Value} {G : GG} {A : Nat → Prop} {σ : St}
/-- the ends -/
theorem g_iret {post : Int32 → St → Prop} {v : Int32} (hx : p.tables.exec = Jvm.exec) (hb : c.code = cc) (hr : meth.sig.returnType = some .int) (hlk : meth.locks = false) (hE : Wenv G A s s.heap) (hw : Wcel G σ H) (hS : va_S A s.heap H locs) (hdg : decode cc pc = .ok (.ireturn, 1)) (hp : post v σ) :
    W p l e R s m args below meth c H locs 0 0 (MQ below (va_Qi post (fun τ t => gP G A τ t) A) args s 0 0 A) (F0 m pc ls [.int v]) :=
  W.iret hx hb hr (fun t ht hW => ⟨⟨v, σ, rfl, hp, hE.go hS hW ht, by rw [ht]; exact hw⟩, hS.F ht⟩) hS.2.2 hdg hlk
theorem g_vret {post : St → Prop} (hx : p.tables.exec = Jvm.exec) (hb : c.code = cc) (hr : meth.sig.returnType = none) (hlk : meth.locks = false) (hE : Wenv G A s s.heap) (hw : Wcel G σ H) (hS : va_S A s.heap H locs) (hdg : decode cc pc = .ok (.return_, 1)) (hp : post σ) :
    W p l e R s m args below meth c H locs 0 0 (MQ below (va_Qv post (fun τ t => gP G A τ t) A) args s 0 0 A) (F0 m pc ls []) :=
  W.vret hx hb hr (fun t ht hW => ⟨⟨σ, rfl, hp, hE.go hS hW ht, by rw [ht]; exact hw⟩, hS.F ht⟩) hS.2.2 hdg hlk
/-- fields -/
theorem g_get (hx : p.tables.exec = Jvm.exec) (hb : c.code = cc) (hE : Wenv G A s s.heap) (hw : Wcel G σ H) {k i ci f N : Nat} {own C : String} {T : u_T} {index : Nat} {fs : List Value} {v : Value} (hpl : i < pCnt k) (hsh : shape G k i (σ k i) = .inr (ci, fs)) (hc : vwCl[ci]? = some (C, T, N)) (hf : f < N) (hv : fs[f]? = some v) (hin : ∀ w ∈ u_ws C T N, w ∈ tbL) (hown : s.vm.findClass own = some m.cls) (hlink : (Cond.fieldLink own index (T f).1 (T f).2.1 (T f).2.2.1).before args s = true) (hdg : decode cc pc = .ok (.getfield index, 3))
    (kk : W p l e R s m args below meth c H locs cells slots Q (F0 m (pc + 3) ls (v :: rest))) : W p l e R s m args below meth c H locs cells slots Q (F0 m pc ls (.ref (G.1 k i) :: rest)) := by
  obtain ⟨q, -, hq⟩ := wl_get G σ hpl
  exact va_get hx hb (fun w h => va_Nw.use (by have := tbL_ok w h; simp only [Bool.and_eq_true] at this; exact this.1) (hE.2.2.1 w h)) hin hown hE.1 hw.1 q (hq.trans (by rw [hsh])) hc f hf hlink (fun _ h => h) hv hdg kk
theorem g_put (hx : p.tables.exec = Jvm.exec) (hb : c.code = cc) (hE : Wenv G A s s.heap) (hw : Wcel G σ H) (hS : va_S A s.heap H locs) {k i ci f N : Nat} {own C : String} {T : u_T} {index : Nat} {fs : List Value} {v : Int32} {ty : FieldType} (hpl : i < pCnt k) (hsh : shape G k i (σ k i) = .inr (ci, fs)) (hsh2 : shape G k i (upd (σ k i) f v) = .inr (ci, fs.set f (.int v))) (hc : vwCl[ci]? = some (C, T, N)) (hf : f < N) (hfl : f < fs.length) (hfp : f < pLen k) (hk3 : ¬ k = 3) (ty0 : Nat → FieldType) (hty : ∀ k, k < N → parseFieldDescriptor (T k).2.2.1 = some (ty0 k)) (hnm : ∀ a, a < N → ∀ b, b < N → a ≠ b → (T a).2.1 ≠ (T b).2.1) (hin : ∀ w ∈ u_ws C T N, w ∈ tbL) (hown : s.vm.findClass own = some m.cls) (hlink : (Cond.fieldLink own index (T f).1 (T f).2.1 (T f).2.2.1).before args s = true) (hfin : (T f).2.2.2 = false) (hd : parseFieldDescriptor (T f).2.2.1 = some ty) (hn : narrow ty (.int v) = .int v) (hfit : fits ty (.int v) = true) (hdg : decode cc pc = .ok (.putfield index, 3))
    (kk : ∀ (H1 : Heap) (locs1 : List Loc), Wcel G (us σ k i f v) H1 → va_S A s.heap H1 locs1 → W p l e R s m args below meth c H1 locs1 cells slots Q (F0 m (pc + 3) ls rest)) : W p l e R s m args below meth c H locs cells slots Q (F0 m pc ls (.int v :: .ref (G.1 k i) :: rest)) := by
  obtain ⟨q, hq0, hq⟩ := wl_get G σ hpl
  refine va_put hx hb (fun w h => va_Nw.use (by have := tbL_ok w h; simp only [Bool.and_eq_true] at this; exact this.1) (hE.2.2.1 w h)) hin ty0 hty hnm hown hE.1 hw.1 (hE.D σ) hS q (hq.trans (by rw [hsh])) hc f hf hlink (fun _ h => h) hfin hd hn hfit hfl hdg (fun H1 locs1 hP1 hD1 hS1 => kk H1 locs1 ⟨?_, can_us hw.2 hfp (fun e => absurd e hk3)⟩ hS1)
  rw [← hsh2, wl_set G σ hq0] at hP1
  exact hP1
/-- arrays of ints -/
theorem g_ald (hx : p.tables.exec = Jvm.exec) (hb : c.code = cc) (hE : Wenv G A s s.heap) (hw : Wcel G σ H) {k i j n : Nat} (hpl : i < pCnt k) (hsh : shape G k i (σ k i) = .inl (gI G, n, .inl (σ k i))) (hn : n < 2 ^ 31) (hj : j < n) (hdg : decode cc pc = .ok (.iaload, 1))
    (kk : W p l e R s m args below meth c H locs cells slots Q (F0 m (pc + 1) ls (.int (σ k i j) :: rest))) : W p l e R s m args below meth c H locs cells slots Q (F0 m pc ls (.int (nI j) :: .ref (G.1 k i) :: rest)) := by
  obtain ⟨q, -, hq⟩ := wl_get G σ hpl
  refine va_iald hx hb hE.1 hw.1 q 0 (hq.trans (by rw [hsh])) rfl (vp_in_nI hj hn) hdg ?_
  rw [nI_clamp (Nat.lt_trans hj hn)]
  exact kk
theorem g_zald (hx : p.tables.exec = Jvm.exec) (hb : c.code = cc) (hE : Wenv G A s s.heap) (hw : Wcel G σ H) {k i j n : Nat} (hpl : i < pCnt k) (hsh : shape G k i (σ k i) = .inl (gZ G, n, .inl (σ k i))) (hn : n < 2 ^ 31) (hj : j < n) (hdg : decode cc pc = .ok (.baload, 1))
    (kk : W p l e R s m args below meth c H locs cells slots Q (F0 m (pc + 1) ls (.int (σ k i j) :: rest))) : W p l e R s m args below meth c H locs cells slots Q (F0 m pc ls (.int (nI j) :: .ref (G.1 k i) :: rest)) := by
  obtain ⟨q, -, hq⟩ := wl_get G σ hpl
  refine va_zald hx hb hE.1 hw.1 q 2 (hq.trans (by rw [hsh])) rfl (vp_in_nI hj hn) hdg ?_
  rw [nI_clamp (Nat.lt_trans hj hn)]
  exact kk
theorem g_cald (hx : p.tables.exec = Jvm.exec) (hb : c.code = cc) (hE : Wenv G A s s.heap) (hw : Wcel G σ H) {k i j n : Nat} (hpl : i < pCnt k) (hsh : shape G k i (σ k i) = .inl (gC G, n, .inl (σ k i))) (hn : n < 2 ^ 31) (hj : j < n) (hdg : decode cc pc = .ok (.caload, 1))
    (kk : W p l e R s m args below meth c H locs cells slots Q (F0 m (pc + 1) ls (.int (σ k i j) :: rest))) : W p l e R s m args below meth c H locs cells slots Q (F0 m pc ls (.int (nI j) :: .ref (G.1 k i) :: rest)) := by
  obtain ⟨q, -, hq⟩ := wl_get G σ hpl
  refine va_cald hx hb hE.1 hw.1 q 1 (hq.trans (by rw [hsh])) rfl (vp_in_nI hj hn) hdg ?_
  rw [nI_clamp (Nat.lt_trans hj hn)]
  exact kk
/-- the ring's screens -/
theorem g_qald (hx : p.tables.exec = Jvm.exec) (hb : c.code = cc) (hE : Wenv G A s s.heap) (hw : Wcel G σ H) {j : Nat} (hj : j < 4) (hdg : decode cc pc = .ok (.aaload, 1))
    (kk : W p l e R s m args below meth c H locs cells slots Q (F0 m (pc + 1) ls (.ref (G.1 0 (3 + j)) :: rest))) : W p l e R s m args below meth c H locs cells slots Q (F0 m pc ls (.int (nI j) :: .ref (G.1 7 0) :: rest)) := by
  obtain ⟨q, -, hq⟩ := wl_get G σ (k := 7) (i := 0) (by decide)
  refine va_aldq hx hb hE.1 hw.1 q 3 (C := RX3) (f := fun j => some (G.1 0 (3 + j))) (n := 4) hq rfl (vp_in_nI hj (by decide)) hdg ?_
  rw [nI_clamp (by omega)]
  exact kk
theorem g_ast (hx : p.tables.exec = Jvm.exec) (hb : c.code = cc) (hE : Wenv G A s s.heap) (hw : Wcel G σ H) (hS : va_S A s.heap H locs) {k i j n : Nat} {v : Int32} (hpl : i < pCnt k) (hk3 : ¬ k = 3) (hsh : ∀ r, shape G k i r = .inl (gI G, n, .inl r)) (hnp : n = pLen k) (hn : n < 2 ^ 31) (hj : j < n) (hdg : decode cc pc = .ok (.iastore, 1))
    (kk : ∀ (H1 : Heap) (locs1 : List Loc), Wcel G (us σ k i j v) H1 → va_S A s.heap H1 locs1 → W p l e R s m args below meth c H1 locs1 cells slots Q (F0 m (pc + 1) ls rest)) : W p l e R s m args below meth c H locs cells slots Q (F0 m pc ls (.int v :: .int (nI j) :: .ref (G.1 k i) :: rest)) := by
  obtain ⟨q, hq0, hq⟩ := wl_get G σ hpl
  refine va_iast hx hb hE.1 hw.1 (hE.D σ) hS q 0 (hq.trans (by rw [hsh])) rfl (vp_in_nI hj hn) hdg (fun H1 locs1 hP1 hD1 hS1 => kk H1 locs1 ⟨?_, can_us hw.2 (by omega) (fun e => absurd e hk3)⟩ hS1)
  rw [nI_clamp (Nat.lt_trans hj hn), ← hsh, wl_set G σ hq0] at hP1
  exact hP1
theorem g_zast (hx : p.tables.exec = Jvm.exec) (hb : c.code = cc) (hE : Wenv G A s s.heap) (hw : Wcel G σ H) (hS : va_S A s.heap H locs) {k i j n : Nat} {v : Int32} (hpl : i < pCnt k) (hsh : ∀ r, shape G k i r = .inl (gZ G, n, .inl r)) (hnp : n = pLen k) (hn : n < 2 ^ 31) (hj : j < n) (hv : v = 0 ∨ v = 1) (hdg : decode cc pc = .ok (.bastore, 1))
    (kk : ∀ (H1 : Heap) (locs1 : List Loc), Wcel G (us σ k i j v) H1 → va_S A s.heap H1 locs1 → W p l e R s m args below meth c H1 locs1 cells slots Q (F0 m (pc + 1) ls rest)) : W p l e R s m args below meth c H locs cells slots Q (F0 m pc ls (.int v :: .int (nI j) :: .ref (G.1 k i) :: rest)) := by
  obtain ⟨q, hq0, hq⟩ := wl_get G σ hpl
  refine va_zast hx hb hE.1 hw.1 (hE.D σ) hS q 2 (hq.trans (by rw [hsh])) rfl (vp_in_nI hj hn) hdg (fun H1 locs1 hP1 hD1 hS1 => kk H1 locs1 ⟨?_, can_us hw.2 (by omega) (fun _ => hv)⟩ hS1)
  rw [nI_clamp (Nat.lt_trans hj hn), (show vp_nar .boolean v = v by rcases hv with rfl | rfl <;> rfl), ← hsh, wl_set G σ hq0] at hP1
  exact hP1
theorem g_cast (hx : p.tables.exec = Jvm.exec) (hb : c.code = cc) (hE : Wenv G A s s.heap) (hw : Wcel G σ H) (hS : va_S A s.heap H locs) {k i j n : Nat} {v : Int32} (hpl : i < pCnt k) (hk3 : ¬ k = 3) (hsh : ∀ r, shape G k i r = .inl (gC G, n, .inl r)) (hnp : n = pLen k) (hn : n < 2 ^ 31) (hj : j < n) (hv : vp_nar .char v = v) (hdg : decode cc pc = .ok (.castore, 1))
    (kk : ∀ (H1 : Heap) (locs1 : List Loc), Wcel G (us σ k i j v) H1 → va_S A s.heap H1 locs1 → W p l e R s m args below meth c H1 locs1 cells slots Q (F0 m (pc + 1) ls rest)) : W p l e R s m args below meth c H locs cells slots Q (F0 m pc ls (.int v :: .int (nI j) :: .ref (G.1 k i) :: rest)) := by
  obtain ⟨q, hq0, hq⟩ := wl_get G σ hpl
  refine va_cast hx hb hE.1 hw.1 (hE.D σ) hS q 1 (hq.trans (by rw [hsh])) rfl (vp_in_nI hj hn) hdg (fun H1 locs1 hP1 hD1 hS1 => kk H1 locs1 ⟨?_, can_us hw.2 (by omega) (fun e => absurd e hk3)⟩ hS1)
  rw [nI_clamp (Nat.lt_trans hj hn), hv, ← hsh, wl_set G σ hq0] at hP1
  exact hP1
theorem g_len (hx : p.tables.exec = Jvm.exec) (hb : c.code = cc) (hE : Wenv G A s s.heap) (hw : Wcel G σ H) {k i n : Nat} (hpl : i < pCnt k) (hsh : shape G k i (σ k i) = .inl (gI G, n, .inl (σ k i))) (hdg : decode cc pc = .ok (.arraylength, 1))
    (kk : W p l e R s m args below meth c H locs cells slots Q (F0 m (pc + 1) ls (.int (nI n) :: rest))) : W p l e R s m args below meth c H locs cells slots Q (F0 m pc ls (.ref (G.1 k i) :: rest)) := by
  obtain ⟨q, -, hq⟩ := wl_get G σ hpl
  exact va_alen (x := (n, .inl (σ k i))) (v := nI n) hx hb hE.1 hw.1 q 0 (hq.trans (by rw [hsh])) rfl rfl hdg kk
/-- System.arraycopy of whole rows of ints -/
theorem cpy_all {f g : Nat → Int32} {n : Nat} (hf : ∀ j, n ≤ j → f j = 0) (hg : ∀ j, n ≤ j → g j = 0) : va_cpy f g 0 0 n = f := by
  funext j
  by_cases h : j < n
  · rw [pk_cpy_in (Nat.zero_le _) (by omega)]
    congr 1
    omega
  · rw [pk_cpy_out (by omega), hf j (by omega), hg j (by omega)]
theorem g_copy (hx : p.tables.exec = Jvm.exec) (hb : c.code = cc) (hml : c.maxLocals = ls.size) (hE : Wenv G A s s.heap) (hw : Wcel G σ H) (hS : va_S A s.heap H locs) {own : String} {index : Nat} (hown : s.vm.findClass own = some m.cls) (hlink : (Cond.methodLink own index arraycopyName).before args s = true) {k i k1 i1 n n0 n1 : Nat} (hpl : i < pCnt k) (hpl1 : i1 < pCnt k1) (hsh : shape G k i (σ k i) = .inl (gI G, n0, .inl (σ k i))) (hsh1 : ∀ r, shape G k1 i1 r = .inl (gI G, n1, .inl r)) (hk3 : ¬ k1 = 3) (hn0 : n = pLen k) (hn1 : n = pLen k1) (hn : n < 2 ^ 31) (h0 : n ≤ n0) (h1 : n ≤ n1)
    (hframes : 1 ≤ R.frames) (hlocals : (rest.map fun v => v.category).sum + (nativeFrameWords "java/lang/System" "arraycopy" 5 + 11) ≤ R.locals) (hdg : decode cc pc = .ok (.invokestatic index, 3))
    (kk : ∀ (H1 : Heap) (locs1 : List Loc), Wcel G (ur σ k1 i1 (σ k i)) H1 → va_S A s.heap H1 locs1 → W p l e R s m args below meth c H1 locs1 cells slots Q (F0 m (pc + 3) ls rest)) : W p l e R s m args below meth c H locs cells slots Q (F0 m pc ls (.int (nI n) :: .int (nI 0) :: .ref (G.1 k1 i1) :: .int (nI 0) :: .ref (G.1 k i) :: rest)) := by
  obtain ⟨q, -, hq⟩ := wl_get G σ hpl
  obtain ⟨q1, hq10, hq1⟩ := wl_get G σ hpl1
  have hT : ∀ w ∈ tbL, w.before args s = true := fun w h => va_Nw.use (by have := tbL_ok w h; simp only [Bool.and_eq_true] at this; exact this.1) (hE.2.2.1 w h)
  have e0 : (nI 0).toNatClampNeg = 0 := nI_clamp (by decide)
  have en : (nI n).toNatClampNeg = n := nI_clamp hn
  refine va_copyi hx hb hml hown hlink (hT _ (by decide +kernel)) (hT _ (by decide +kernel)) (hT _ (by decide +kernel)) hE.1 hw.1 (hE.D σ) hS q q1 0 0 (hq.trans (by rw [hsh])) (hq1.trans (by rw [hsh1])) rfl rfl rfl (by decide) (by decide) (nI_pos hn) (by rw [e0, en]; omega) (by rw [e0, en]; omega) (fun _ _ => rfl) hframes hlocals hdg (fun H1 locs1 hP1 hD1 hS1 => kk H1 locs1 ⟨?_, can_ur hw.2 (fun j hj => hw.2.1 k i j (by omega)) (fun e => absurd e hk3)⟩ hS1)
  rw [e0, en, cpy_all (fun j hj => hw.2.1 k i j (by omega)) (fun j hj => hw.2.1 k1 i1 j (by omega)), ← hsh1, wl_set G σ hq10] at hP1
  exact hP1
/-- static arrays -/
theorem g_gets (hx : p.tables.exec = Jvm.exec) (hb : c.code = cc) (hS : va_S A s.heap H locs) {C n d own : String} {ty : FieldType} {N index : Nat} {xs : List Int32} (hZ : Wst A s s.heap C n d ty N xs) (hown : s.vm.findClass own = some m.cls) (hlink : (Cond.fieldLink own index C n d).before args s = true) (hdg : decode cc pc = .ok (.getstatic index, 3))
    (kk : ∀ t : Nat, va_T ty t N (fun j => .int (xs.getD j 0)) A s s.heap → W p l e R s m args below meth c H locs cells slots Q (F0 m (pc + 3) ls (.ref t :: rest))) : W p l e R s m args below meth c H locs cells slots Q (F0 m pc ls rest) := by
  obtain ⟨t, h1, h2⟩ := hZ
  exact va_gets hx hb h1 hS hown hlink (fun _ h => h) hdg (kk t h2)
theorem g_tld (hx : p.tables.exec = Jvm.exec) (hb : c.code = cc) (hS : va_S A s.heap H locs) {t N j : Nat} {xs : List Int32} (hT : va_T .int t N (fun j => .int (xs.getD j 0)) A s s.heap) (hN : N < 2 ^ 31) (hj : j < N) (hdg : decode cc pc = .ok (.iaload, 1))
    (kk : W p l e R s m args below meth c H locs cells slots Q (F0 m (pc + 1) ls (.int (xs.getD j 0) :: rest))) : W p l e R s m args below meth c H locs cells slots Q (F0 m pc ls (.int (nI j) :: .ref t :: rest)) :=
  va_ti hx hb hT hS (vp_in_nI hj hN) (by show Value.int (xs.getD (nI j).toNatClampNeg 0) = _; rw [nI_clamp (Nat.lt_trans hj hN)]) hdg kk
theorem g_tcd (hx : p.tables.exec = Jvm.exec) (hb : c.code = cc) (hS : va_S A s.heap H locs) {t N j : Nat} {xs : List Int32} (hT : va_T .char t N (fun j => .int (xs.getD j 0)) A s s.heap) (hN : N < 2 ^ 31) (hj : j < N) (hdg : decode cc pc = .ok (.caload, 1))
    (kk : W p l e R s m args below meth c H locs cells slots Q (F0 m (pc + 1) ls (.int (xs.getD j 0) :: rest))) : W p l e R s m args below meth c H locs cells slots Q (F0 m pc ls (.int (nI j) :: .ref t :: rest)) :=
  va_tc hx hb hT hS (vp_in_nI hj hN) (by show Value.int (xs.getD (nI j).toNatClampNeg 0) = _; rw [nI_clamp (Nat.lt_trans hj hN)]) hdg kk
/-- Math -/
theorem g_max (hx : p.tables.exec = Jvm.exec) (hb : c.code = cc) (hml : c.maxLocals = ls.size) (hE : Wenv G A s s.heap) {own : String} {index : Nat} (hown : s.vm.findClass own = some m.cls) (hlink : (Cond.methodLink own index Lib.Math.max.name).before args s = true) (hR : 1 ≤ R.frames ∧ (rest.map fun v => v.category).sum + 13 ≤ R.locals) (hcs : cells ≤ R.cells ∧ slots ≤ R.slots) {x y : Int32} (hdg : decode cc pc = .ok (.invokestatic index, 3))
    (kk : W p l e R s m args below meth c H locs cells slots Q (F0 m (pc + 3) ls (.int (if x < y then y else x) :: rest))) : W p l e R s m args below meth c H locs cells slots Q (F0 m pc ls (.int y :: .int x :: rest)) := by
  have hT : ∀ w ∈ tbL, w.before args s = true := fun w h => va_Nw.use (by have := tbL_ok w h; simp only [Bool.and_eq_true] at this; exact this.1) (hE.2.2.1 w h)
  exact va_mmax hx hb hml hown hlink (hT _ (by decide +kernel)) (hT _ (by decide +kernel)) (hT _ (by decide +kernel)) hR.1 hR.2 hcs.1 hcs.2 hdg kk
theorem g_min (hx : p.tables.exec = Jvm.exec) (hb : c.code = cc) (hml : c.maxLocals = ls.size) (hE : Wenv G A s s.heap) {own : String} {index : Nat} (hown : s.vm.findClass own = some m.cls) (hlink : (Cond.methodLink own index Lib.Math.min.name).before args s = true) (hR : 1 ≤ R.frames ∧ (rest.map fun v => v.category).sum + 13 ≤ R.locals) (hcs : cells ≤ R.cells ∧ slots ≤ R.slots) {x y : Int32} (hdg : decode cc pc = .ok (.invokestatic index, 3))
    (kk : W p l e R s m args below meth c H locs cells slots Q (F0 m (pc + 3) ls (.int (if y < x then y else x) :: rest))) : W p l e R s m args below meth c H locs cells slots Q (F0 m pc ls (.int y :: .int x :: rest)) := by
  have hT : ∀ w ∈ tbL, w.before args s = true := fun w h => va_Nw.use (by have := tbL_ok w h; simp only [Bool.and_eq_true] at this; exact this.1) (hE.2.2.1 w h)
  exact va_mmin hx hb hml hown hlink (hT _ (by decide +kernel)) (hT _ (by decide +kernel)) (hT _ (by decide +kernel)) hR.1 hR.2 hcs.1 hcs.2 hdg kk
theorem g_abs (hx : p.tables.exec = Jvm.exec) (hb : c.code = cc) (hml : c.maxLocals = ls.size) (hE : Wenv G A s s.heap) {own : String} {index : Nat} (hown : s.vm.findClass own = some m.cls) (hlink : (Cond.methodLink own index Lib.Math.abs.name).before args s = true) (hR : 1 ≤ R.frames ∧ (rest.map fun v => v.category).sum + 13 ≤ R.locals) (hcs : cells ≤ R.cells ∧ slots ≤ R.slots) {x : Int32} (hdg : decode cc pc = .ok (.invokestatic index, 3))
    (kk : W p l e R s m args below meth c H locs cells slots Q (F0 m (pc + 3) ls (.int (if 0 ≤ x then x else 0 - x) :: rest))) : W p l e R s m args below meth c H locs cells slots Q (F0 m pc ls (.int x :: rest)) := by
  have hT : ∀ w ∈ tbL, w.before args s = true := fun w h => va_Nw.use (by have := tbL_ok w h; simp only [Bool.and_eq_true] at this; exact this.1) (hE.2.2.1 w h)
  exact va_mabs hx hb hml hown hlink (hT _ (by decide +kernel)) (hT _ (by decide +kernel)) (hT _ (by decide +kernel)) hR.1 hR.2 hcs.1 hcs.2 hdg kk
end GR
