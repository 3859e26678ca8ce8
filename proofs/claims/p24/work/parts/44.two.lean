/-! TWO WORLDS: an object each; calls on one leave the other as it is -/
abbrev bA (A1 A2 : Nat → Prop) : Nat → Prop := fun q => A1 q ∨ A2 q
theorem Wst.weakA {A B : Nat → Prop} {U : State} {H : Heap} {C n d : String} {ty : FieldType} {N : Nat} {xs : List Int32} (hB : ∀ q, B q → A q) (h : Wst A U H C n d ty N xs) : Wst B U H C n d ty N xs := by
  obtain ⟨t, ⟨cf, kf, fi, f, a, cell, g1, g2, g3, g4, g5, g6, g7, g8⟩, cell2, k1, k2, k3, k4, k5, k6, k7⟩ := h
  exact ⟨t, ⟨cf, kf, fi, f, a, cell, g1, g2, g3, g4, g5, g6, g7, fun q => g8 (hB a q)⟩, cell2, k1, k2, k3, k4, k5, k6, fun q => k7 (hB t q)⟩
theorem Wenv.weakA {G : GG} {A B : Nat → Prop} {U : State} {H : Heap} (h : Wenv G A U H) (hB : ∀ q, B q → A q) (hD : va_D B (wl G (fun _ _ _ => 0))) : Wenv G B U H := by
  obtain ⟨h1, -, h3, h4, g1, g2, g3, g4, g5, g6, g7⟩ := h
  exact ⟨h1, hD, h3, h4, g1.weakA hB, g2.weakA hB, g3.weakA hB, g4.weakA hB, g5.weakA hB, g6.weakA hB, g7.weakA hB⟩
def E2 (G1 G2 : GG) (A1 A2 : Nat → Prop) (U : State) (H : Heap) : Prop := Wenv G1 (bA A1 A2) U H ∧ Wenv G2 (bA A1 A2) U H ∧ va_D A1 (wl G1 (fun _ _ _ => 0)) ∧ va_D A2 (wl G2 (fun _ _ _ => 0)) ∧ ∀ q, A1 q → ¬ A2 q
theorem E2.go {G1 G2 : GG} {A1 A2 : Nat → Prop} {s U : State} {H : Heap} {locs : List Loc} (hE : E2 G1 G2 A1 A2 s s.heap) (hS : va_S (bA A1 A2) s.heap H locs) (hW : s.WarmedH U.vm) (hU : U.heap = H) : E2 G1 G2 A1 A2 U U.heap := ⟨hE.1.go hS hW hU, hE.2.1.go hS hW hU, hE.2.2⟩
abbrev W2 : Type := St × St
def LPw (G1 G2 : GG) (A1 A2 : Nat → Prop) (τ : W2) (U : State) : Prop := E2 G1 G2 A1 A2 U U.heap ∧ Wcel G1 τ.1 U.heap ∧ Wcel G2 τ.2 U.heap
theorem Wenv.call {G : GG} {A : Nat → Prop} {U : State} {a : Array Value} {g : JFrame} {mk : MethodId} (h : Wenv G A U U.heap) : Wenv G A (U.calling g mk a) (U.calling g mk a).heap := by
  obtain ⟨h1, h2, h3, h4, g1, g2, g3, g4, g5, g6, g7⟩ := h
  have hq : ∀ a : Nat, a < U.heap.size → ¬ A a → U.heap[a]? = U.heap[a]? := fun _ _ _ => rfl
  have al : U.vm.Alike (U.calling g mk a).vm := Vm.Alike.refl U.vm
  refine ⟨va_K.moved al h1, h2, fun w hw => ?_, fun w hw => ?_, ?_⟩
  · exact va_Nw.same (by have := tbL_ok w hw; simp only [Bool.and_eq_true] at this; exact this.1) (rfl : U.vm = (U.calling g mk a).vm) (h3 w hw)
  · exact va_Nw.same rfl (rfl : U.vm = (U.calling g mk a).vm) (h4 w hw)
  · exact ⟨g1.kept al hq, g2.kept al hq, g3.kept al hq, g4.kept al hq, g5.kept al hq, g6.kept al hq, g7.kept al hq⟩
theorem LPw_call {G1 G2 : GG} {A1 A2 : Nat → Prop} {τ : W2} {U : State} {a : Array Value} {g : JFrame} {mk : MethodId} (h : LPw G1 G2 A1 A2 τ U) : LPw G1 G2 A1 A2 τ (U.calling g mk a) := ⟨⟨h.1.1.call, h.1.2.1.call, h.1.2.2⟩, h.2⟩
theorem LPw_blind {G1 G2 : GG} {A1 A2 : Nat → Prop} {τ : W2} {av : List Value} : FrameBlind (va_Pc av (LPw G1 G2 A1 A2 τ)) := fun _ _ _ _ h => ⟨h.1, LPw_call h.2⟩
theorem LPw_at {G1 G2 : GG} {A1 A2 : Nat → Prop} {s : State} {H : Heap} {locs : List Loc} {σ1 σ2 : St} {av : List Value} (hE : E2 G1 G2 A1 A2 s s.heap) (hw1 : Wcel G1 σ1 H) (hw2 : Wcel G2 σ2 H) (hS : va_S (bA A1 A2) s.heap H locs) (U : State) (hU : U.heap = H) (hW : s.WarmedH U.vm) : va_Pc av (LPw G1 G2 A1 A2 (σ1, σ2)) av.toArray U := ⟨rfl, hE.go hS hW hU, by rw [hU]; exact hw1, by rw [hU]; exact hw2⟩
theorem P1_at {G1 G2 : GG} {A1 A2 : Nat → Prop} {s : State} {H : Heap} {locs : List Loc} {σ1 : St} {av : List Value} (hE : E2 G1 G2 A1 A2 s s.heap) (hw1 : Wcel G1 σ1 H) (hS : va_S (bA A1 A2) s.heap H locs) (U : State) (hU : U.heap = H) (hW : s.WarmedH U.vm) : va_Pc av (gP G1 A1 σ1) av.toArray U := ⟨rfl, (hE.1.go hS hW hU).weakA (fun _ h => Or.inl h) hE.2.2.1, by rw [hU]; exact hw1⟩
theorem P2_at {G1 G2 : GG} {A1 A2 : Nat → Prop} {s : State} {H : Heap} {locs : List Loc} {σ2 : St} {av : List Value} (hE : E2 G1 G2 A1 A2 s s.heap) (hw2 : Wcel G2 σ2 H) (hS : va_S (bA A1 A2) s.heap H locs) (U : State) (hU : U.heap = H) (hW : s.WarmedH U.vm) : va_Pc av (gP G2 A2 σ2) av.toArray U := ⟨rfl, (hE.2.1.go hS hW hU).weakA (fun _ h => Or.inr h) hE.2.2.2.1, by rw [hU]; exact hw2⟩
/-- what lies in B stays where only A is written -/
theorem Wcel.kept {G : GG} {A B : Nat → Prop} {σ : St} {H H1 : Heap} (h : Wcel G σ H) (hD : va_D B (wl G (fun _ _ _ => 0))) (hdis : ∀ q, B q → ¬ A q) (hk : ∀ q : Nat, q < H.size → ¬ A q → H1[q]? = H[q]?) : Wcel G σ H1 :=
  ⟨fun k q hq => (h.1 k q hq).kept (hk _ (h.1 k q hq).lt (hdis _ ((wl_D (τ := σ) hD).2 k q hq))), h.2⟩
def M2 (l : Launch) (y : MethodName) (ws : List Cond) (fr lo : Nat) (G1 G2 : GG) (A1 A2 : Nat → Prop) (σ1 σ2 : St) (av : List Value) (post : Int32 → W2 → Prop) : Prop :=
  Met l y ws { frames := fr, cells := 0, slots := 0, locals := lo } (va_Pc av (LPw G1 G2 A1 A2 (σ1, σ2))) (va_Qi post (fun τ t => LPw G1 G2 A1 A2 τ t) (bA A1 A2)) 0 0 (bA A1 A2)
theorem M2.on {l : Launch} {y : MethodName} {ws ws' : List Cond} {fr lo nL : Nat} {G1 G2 : GG} {A1 A2 : Nat → Prop} {σ1 σ2 : St} {av : List Value} {post : Int32 → W2 → Prop} {cc : ByteArray} {ret : Option FieldType} (hy : plainName y.cls = true) (hw : ws = Cond.code y cc nL ret :: ws') (hn : (lg_sl av).length ≤ nL)
    (body : ∀ (p : Program) (e : Env) (s : State) (m : MethodId) (args : Array Value) (below : List Frame) (meth : Method) (c : Code) (ls : Array Slot), p.tables.exec = Jvm.exec → c.code = cc → c.maxLocals = nL → meth.sig.returnType = ret → s.vm.findClass y.cls = some m.cls → meth.locks = false → (∀ w ∈ ws, w.before args s = true) → E2 G1 G2 A1 A2 s s.heap → Wcel G1 σ1 s.heap → Wcel G2 σ2 s.heap → va_S (bA A1 A2) s.heap s.heap [] → lv_has ls nL (lv_args 0 av) →
      W p l e { frames := fr, cells := 0, slots := 0, locals := lo } s m args below meth c s.heap [] 0 0 (MQ below (va_Qi post (fun τ t => LPw G1 G2 A1 A2 τ t) (bA A1 A2)) args s 0 0 (bA A1 A2)) (F0 m 0 ls [])) : M2 l y ws fr lo G1 G2 A1 A2 σ1 σ2 av post := by
  refine Met.ofW hy hw ?_
  intro p e s m args below meth c s₁ B hml hv
  obtain ⟨rfl, hE, hC1, hC2⟩ := hv
  have hl := lv_entry av (n := nL) hn
  rw [lg_entry_eq]
  exact body p e s m _ below meth c _ B.exec B.bytes hml B.returns (findClass_of_methodNamed B.named) B.notSynchronized (atoms_spec (ws := ws) B.pre) hE hC1 hC2 va_S.rf hl
section G2R
variable {p : Program} {l : Launch} {e : Env} {R : Room} {s : State} {m : MethodId} {args : Array Value} {below : List Frame} {meth : Method} {c : Code} {H : Heap} {locs : List Loc} {cells slots : Nat} {Q : State → Prop}
variable {cc bytes : ByteArray} {pc : Nat} {ls : Array Slot} {rest st0 As : List Value} {G1 G2 : GG} {A1 A2 : Nat → Prop} {σ1 σ2 : St}
variable {y : MethodName} {ws ws' Ts : List Cond} {fr lo n index nL maxL : Nat} {own C : String} {ret : Option FieldType} {k i ci : Nat} {fs : List Value} {q : vw_C}
theorem g2_zret {post : Int32 → W2 → Prop} {v : Int32} (hx : p.tables.exec = Jvm.exec) (hb : c.code = cc) (hr : meth.sig.returnType = some .boolean) (hlk : meth.locks = false) (hE : E2 G1 G2 A1 A2 s s.heap) (hw1 : Wcel G1 σ1 H) (hw2 : Wcel G2 σ2 H) (hS : va_S (bA A1 A2) s.heap H locs) (hn : narrow .boolean (.int v) = .int v) (hdg : decode cc pc = .ok (.ireturn, 1)) (hp : post v (σ1, σ2)) :
    W p l e R s m args below meth c H locs 0 0 (MQ below (va_Qi post (fun τ t => LPw G1 G2 A1 A2 τ t) (bA A1 A2)) args s 0 0 (bA A1 A2)) (F0 m pc ls [.int v]) :=
  W.zret hx hb hr hn (fun t ht hW => ⟨⟨v, (σ1, σ2), rfl, hp, hE.go hS hW ht, by rw [ht]; exact hw1, by rw [ht]; exact hw2⟩, hS.F ht⟩) hS.2.2 hdg hlk
theorem g2_V1i {post : Int32 → St → Prop} (hx : p.tables.exec = Jvm.exec) (hb : c.code = cc) (hml : c.maxLocals = nL) (hown : s.vm.findClass own = some m.cls) (hts : ∀ w ∈ Ts, w.before args s = true) (hE : E2 G1 G2 A1 A2 s s.heap) (hw1 : Wcel G1 σ1 H) (hw2 : Wcel G2 σ2 H) (hS : va_S (bA A1 A2) s.heap H locs)
    (hG : GoodIn Ts (wsV own index C y ws)) (hM : MI l y ws fr lo G1 A1 σ1 (.ref (G1.1 k i) :: As) post) (hwd : ws = Cond.code y bytes maxL ret :: ws') (hd : y.cls = C ∧ y.cls ≠ "java/lang/invoke/MethodHandle" ∧ y.cls ≠ "java/lang/invoke/VarHandle" ∧ (parseMethodDescriptor y.desc).map (fun d => d.parameters.length) = some n) (hR : fr + 1 ≤ R.frames ∧ 8 + (maxL + 11) + lo ≤ R.locals)
    (hpl : i < pCnt k) (hsh : shape G1 k i (σ1 k i) = .inr (ci, fs)) (hc : vwCl[ci]? = some q) (hq : q.1 = C) (hn : As.length = n) (hsz : ls.size = nL) (hst : st0 = As.reverse ++ .ref (G1.1 k i) :: rest) (hrm : (rest.map fun v => v.category).sum ≤ 8) (hcs : cells ≤ R.cells ∧ slots ≤ R.slots) (hdg : decode cc pc = .ok (.invokevirtual index, 3))
    (kk : ∀ (r : Int32) (τ : St) (H1 : Heap) (locs1 : List Loc), post r τ → Wcel G1 τ H1 → Wcel G2 σ2 H1 → va_S (bA A1 A2) s.heap H1 locs1 → W p l e R s m args below meth c H1 locs1 cells slots Q (F0 m (pc + 3) ls (.int r :: rest))) : W p l e R s m args below meth c H locs cells slots Q (F0 m pc ls st0) := by
  obtain ⟨q0, -, hq0⟩ := wl_get G1 σ1 hpl
  subst hq
  refine va_calli (va_runV (As := As) (rest := rest) ⟨hx, hb, hml, hown, hts⟩ hM (cwV n hts hG hwd rfl rfl hd hR) ⟨gP_blind, va_recv hE.1.1 hw1.1 hc (hq0.trans (by rw [hsh])), P1_at hE hw1 hS⟩ rfl hn hsz hst (lv_room hrm) hdg hcs) hS (fun _ _ h => Or.inl h) (fun _ h => Or.inl h) (fun r τ t H1 locs1 ht hvm hp hB hz1 hk1 hS1 => ?_)
  rw [gP, ht] at hB
  exact kk r τ H1 locs1 hp hB.2 (hw2.kept hE.2.2.2.1 (fun q h g => hE.2.2.2.2 q g h) hk1) hS1
theorem g2_V2i {post : Int32 → St → Prop} (hx : p.tables.exec = Jvm.exec) (hb : c.code = cc) (hml : c.maxLocals = nL) (hown : s.vm.findClass own = some m.cls) (hts : ∀ w ∈ Ts, w.before args s = true) (hE : E2 G1 G2 A1 A2 s s.heap) (hw1 : Wcel G1 σ1 H) (hw2 : Wcel G2 σ2 H) (hS : va_S (bA A1 A2) s.heap H locs)
    (hG : GoodIn Ts (wsV own index C y ws)) (hM : MI l y ws fr lo G2 A2 σ2 (.ref (G2.1 k i) :: As) post) (hwd : ws = Cond.code y bytes maxL ret :: ws') (hd : y.cls = C ∧ y.cls ≠ "java/lang/invoke/MethodHandle" ∧ y.cls ≠ "java/lang/invoke/VarHandle" ∧ (parseMethodDescriptor y.desc).map (fun d => d.parameters.length) = some n) (hR : fr + 1 ≤ R.frames ∧ 8 + (maxL + 11) + lo ≤ R.locals)
    (hpl : i < pCnt k) (hsh : shape G2 k i (σ2 k i) = .inr (ci, fs)) (hc : vwCl[ci]? = some q) (hq : q.1 = C) (hn : As.length = n) (hsz : ls.size = nL) (hst : st0 = As.reverse ++ .ref (G2.1 k i) :: rest) (hrm : (rest.map fun v => v.category).sum ≤ 8) (hcs : cells ≤ R.cells ∧ slots ≤ R.slots) (hdg : decode cc pc = .ok (.invokevirtual index, 3))
    (kk : ∀ (r : Int32) (τ : St) (H1 : Heap) (locs1 : List Loc), post r τ → Wcel G1 σ1 H1 → Wcel G2 τ H1 → va_S (bA A1 A2) s.heap H1 locs1 → W p l e R s m args below meth c H1 locs1 cells slots Q (F0 m (pc + 3) ls (.int r :: rest))) : W p l e R s m args below meth c H locs cells slots Q (F0 m pc ls st0) := by
  obtain ⟨q0, -, hq0⟩ := wl_get G2 σ2 hpl
  subst hq
  refine va_calli (va_runV (As := As) (rest := rest) ⟨hx, hb, hml, hown, hts⟩ hM (cwV n hts hG hwd rfl rfl hd hR) ⟨gP_blind, va_recv hE.2.1.1 hw2.1 hc (hq0.trans (by rw [hsh])), P2_at hE hw2 hS⟩ rfl hn hsz hst (lv_room hrm) hdg hcs) hS (fun _ _ h => Or.inr h) (fun _ h => Or.inr h) (fun r τ t H1 locs1 ht hvm hp hB hz1 hk1 hS1 => ?_)
  rw [gP, ht] at hB
  exact kk r τ H1 locs1 hp (hw1.kept hE.2.2.1 hE.2.2.2.2 hk1) hB.2 hS1
theorem g2_V1d {post : UInt64 → St → Prop} (hx : p.tables.exec = Jvm.exec) (hb : c.code = cc) (hml : c.maxLocals = nL) (hown : s.vm.findClass own = some m.cls) (hts : ∀ w ∈ Ts, w.before args s = true) (hE : E2 G1 G2 A1 A2 s s.heap) (hw1 : Wcel G1 σ1 H) (hw2 : Wcel G2 σ2 H) (hS : va_S (bA A1 A2) s.heap H locs)
    (hG : GoodIn Ts (wsV own index C y ws)) (hM : MDb l y ws fr lo G1 A1 σ1 (.ref (G1.1 k i) :: As) post) (hwd : ws = Cond.code y bytes maxL ret :: ws') (hd : y.cls = C ∧ y.cls ≠ "java/lang/invoke/MethodHandle" ∧ y.cls ≠ "java/lang/invoke/VarHandle" ∧ (parseMethodDescriptor y.desc).map (fun d => d.parameters.length) = some n) (hR : fr + 1 ≤ R.frames ∧ 8 + (maxL + 11) + lo ≤ R.locals)
    (hpl : i < pCnt k) (hsh : shape G1 k i (σ1 k i) = .inr (ci, fs)) (hc : vwCl[ci]? = some q) (hq : q.1 = C) (hn : As.length = n) (hsz : ls.size = nL) (hst : st0 = As.reverse ++ .ref (G1.1 k i) :: rest) (hrm : (rest.map fun v => v.category).sum ≤ 8) (hcs : cells ≤ R.cells ∧ slots ≤ R.slots) (hdg : decode cc pc = .ok (.invokevirtual index, 3))
    (kk : ∀ (r : UInt64) (τ : St) (H1 : Heap) (locs1 : List Loc), post r τ → Wcel G1 τ H1 → Wcel G2 σ2 H1 → va_S (bA A1 A2) s.heap H1 locs1 → W p l e R s m args below meth c H1 locs1 cells slots Q (F0 m (pc + 3) ls (.double r :: rest))) : W p l e R s m args below meth c H locs cells slots Q (F0 m pc ls st0) := by
  obtain ⟨q0, -, hq0⟩ := wl_get G1 σ1 hpl
  subst hq
  refine va_calld (va_runV (As := As) (rest := rest) ⟨hx, hb, hml, hown, hts⟩ hM (cwV n hts hG hwd rfl rfl hd hR) ⟨gP_blind, va_recv hE.1.1 hw1.1 hc (hq0.trans (by rw [hsh])), P1_at hE hw1 hS⟩ rfl hn hsz hst (lv_room hrm) hdg hcs) hS (fun _ _ h => Or.inl h) (fun _ h => Or.inl h) (fun r τ t H1 locs1 ht hvm hp hB hz1 hk1 hS1 => ?_)
  rw [gP, ht] at hB
  exact kk r τ H1 locs1 hp hB.2 (hw2.kept hE.2.2.2.1 (fun q h g => hE.2.2.2.2 q g h) hk1) hS1
theorem g2_V2d {post : UInt64 → St → Prop} (hx : p.tables.exec = Jvm.exec) (hb : c.code = cc) (hml : c.maxLocals = nL) (hown : s.vm.findClass own = some m.cls) (hts : ∀ w ∈ Ts, w.before args s = true) (hE : E2 G1 G2 A1 A2 s s.heap) (hw1 : Wcel G1 σ1 H) (hw2 : Wcel G2 σ2 H) (hS : va_S (bA A1 A2) s.heap H locs)
    (hG : GoodIn Ts (wsV own index C y ws)) (hM : MDb l y ws fr lo G2 A2 σ2 (.ref (G2.1 k i) :: As) post) (hwd : ws = Cond.code y bytes maxL ret :: ws') (hd : y.cls = C ∧ y.cls ≠ "java/lang/invoke/MethodHandle" ∧ y.cls ≠ "java/lang/invoke/VarHandle" ∧ (parseMethodDescriptor y.desc).map (fun d => d.parameters.length) = some n) (hR : fr + 1 ≤ R.frames ∧ 8 + (maxL + 11) + lo ≤ R.locals)
    (hpl : i < pCnt k) (hsh : shape G2 k i (σ2 k i) = .inr (ci, fs)) (hc : vwCl[ci]? = some q) (hq : q.1 = C) (hn : As.length = n) (hsz : ls.size = nL) (hst : st0 = As.reverse ++ .ref (G2.1 k i) :: rest) (hrm : (rest.map fun v => v.category).sum ≤ 8) (hcs : cells ≤ R.cells ∧ slots ≤ R.slots) (hdg : decode cc pc = .ok (.invokevirtual index, 3))
    (kk : ∀ (r : UInt64) (τ : St) (H1 : Heap) (locs1 : List Loc), post r τ → Wcel G1 σ1 H1 → Wcel G2 τ H1 → va_S (bA A1 A2) s.heap H1 locs1 → W p l e R s m args below meth c H1 locs1 cells slots Q (F0 m (pc + 3) ls (.double r :: rest))) : W p l e R s m args below meth c H locs cells slots Q (F0 m pc ls st0) := by
  obtain ⟨q0, -, hq0⟩ := wl_get G2 σ2 hpl
  subst hq
  refine va_calld (va_runV (As := As) (rest := rest) ⟨hx, hb, hml, hown, hts⟩ hM (cwV n hts hG hwd rfl rfl hd hR) ⟨gP_blind, va_recv hE.2.1.1 hw2.1 hc (hq0.trans (by rw [hsh])), P2_at hE hw2 hS⟩ rfl hn hsz hst (lv_room hrm) hdg hcs) hS (fun _ _ h => Or.inr h) (fun _ h => Or.inr h) (fun r τ t H1 locs1 ht hvm hp hB hz1 hk1 hS1 => ?_)
  rw [gP, ht] at hB
  exact kk r τ H1 locs1 hp (hw1.kept hE.2.2.1 hE.2.2.2.2 hk1) hB.2 hS1
/-- static methods of the law, over the first object's world, the second's, both -/
theorem g2_S1i {post : Int32 → St → Prop} (hx : p.tables.exec = Jvm.exec) (hb : c.code = cc) (hml : c.maxLocals = nL) (hown : s.vm.findClass own = some m.cls) (hts : ∀ w ∈ Ts, w.before args s = true) (hE : E2 G1 G2 A1 A2 s s.heap) (hw1 : Wcel G1 σ1 H) (hw2 : Wcel G2 σ2 H) (hS : va_S (bA A1 A2) s.heap H locs)
    (hG : GoodIn Ts (va_wsS own index y ws)) (hM : MI l y ws fr lo G1 A1 σ1 As post) (hwd : ws = Cond.code y bytes maxL ret :: ws') (hd : y.cls ≠ "java/lang/invoke/MethodHandle" ∧ y.cls ≠ "java/lang/invoke/VarHandle" ∧ (parseMethodDescriptor y.desc).map (fun d => d.parameters.length) = some n) (hR : fr + 1 ≤ R.frames ∧ 8 + (maxL + 11) + lo ≤ R.locals)
    (hn : As.length = n) (hsz : ls.size = nL) (hst : st0 = As.reverse ++ rest) (hrm : (rest.map fun v => v.category).sum ≤ 8) (hcs : cells ≤ R.cells ∧ slots ≤ R.slots) (hdg : decode cc pc = .ok (.invokestatic index, 3))
    (kk : ∀ (r : Int32) (τ : St) (H1 : Heap) (locs1 : List Loc), post r τ → Wcel G1 τ H1 → Wcel G2 σ2 H1 → va_S (bA A1 A2) s.heap H1 locs1 → W p l e R s m args below meth c H1 locs1 cells slots Q (F0 m (pc + 3) ls (.int r :: rest))) : W p l e R s m args below meth c H locs cells slots Q (F0 m pc ls st0) := by
  refine va_calli (va_runS (As := As) (rest := rest) ⟨hx, hb, hml, hown, hts⟩ hM (va_cwS n hts hG hwd rfl rfl hd hR) ⟨gP_blind, P1_at hE hw1 hS⟩ rfl hn hsz hst (lv_room hrm) hdg hcs) hS (fun _ _ h => Or.inl h) (fun _ h => Or.inl h) (fun r τ t H1 locs1 ht hvm hp hB hz1 hk1 hS1 => ?_)
  rw [gP, ht] at hB
  exact kk r τ H1 locs1 hp hB.2 (hw2.kept hE.2.2.2.1 (fun q h g => hE.2.2.2.2 q g h) hk1) hS1
theorem g2_S2i {post : Int32 → St → Prop} (hx : p.tables.exec = Jvm.exec) (hb : c.code = cc) (hml : c.maxLocals = nL) (hown : s.vm.findClass own = some m.cls) (hts : ∀ w ∈ Ts, w.before args s = true) (hE : E2 G1 G2 A1 A2 s s.heap) (hw1 : Wcel G1 σ1 H) (hw2 : Wcel G2 σ2 H) (hS : va_S (bA A1 A2) s.heap H locs)
    (hG : GoodIn Ts (va_wsS own index y ws)) (hM : MI l y ws fr lo G2 A2 σ2 As post) (hwd : ws = Cond.code y bytes maxL ret :: ws') (hd : y.cls ≠ "java/lang/invoke/MethodHandle" ∧ y.cls ≠ "java/lang/invoke/VarHandle" ∧ (parseMethodDescriptor y.desc).map (fun d => d.parameters.length) = some n) (hR : fr + 1 ≤ R.frames ∧ 8 + (maxL + 11) + lo ≤ R.locals)
    (hn : As.length = n) (hsz : ls.size = nL) (hst : st0 = As.reverse ++ rest) (hrm : (rest.map fun v => v.category).sum ≤ 8) (hcs : cells ≤ R.cells ∧ slots ≤ R.slots) (hdg : decode cc pc = .ok (.invokestatic index, 3))
    (kk : ∀ (r : Int32) (τ : St) (H1 : Heap) (locs1 : List Loc), post r τ → Wcel G1 σ1 H1 → Wcel G2 τ H1 → va_S (bA A1 A2) s.heap H1 locs1 → W p l e R s m args below meth c H1 locs1 cells slots Q (F0 m (pc + 3) ls (.int r :: rest))) : W p l e R s m args below meth c H locs cells slots Q (F0 m pc ls st0) := by
  refine va_calli (va_runS (As := As) (rest := rest) ⟨hx, hb, hml, hown, hts⟩ hM (va_cwS n hts hG hwd rfl rfl hd hR) ⟨gP_blind, P2_at hE hw2 hS⟩ rfl hn hsz hst (lv_room hrm) hdg hcs) hS (fun _ _ h => Or.inr h) (fun _ h => Or.inr h) (fun r τ t H1 locs1 ht hvm hp hB hz1 hk1 hS1 => ?_)
  rw [gP, ht] at hB
  exact kk r τ H1 locs1 hp (hw1.kept hE.2.2.1 hE.2.2.2.2 hk1) hB.2 hS1
theorem g2_Si {post : Int32 → W2 → Prop} (hx : p.tables.exec = Jvm.exec) (hb : c.code = cc) (hml : c.maxLocals = nL) (hown : s.vm.findClass own = some m.cls) (hts : ∀ w ∈ Ts, w.before args s = true) (hE : E2 G1 G2 A1 A2 s s.heap) (hw1 : Wcel G1 σ1 H) (hw2 : Wcel G2 σ2 H) (hS : va_S (bA A1 A2) s.heap H locs)
    (hG : GoodIn Ts (va_wsS own index y ws)) (hM : M2 l y ws fr lo G1 G2 A1 A2 σ1 σ2 As post) (hwd : ws = Cond.code y bytes maxL ret :: ws') (hd : y.cls ≠ "java/lang/invoke/MethodHandle" ∧ y.cls ≠ "java/lang/invoke/VarHandle" ∧ (parseMethodDescriptor y.desc).map (fun d => d.parameters.length) = some n) (hR : fr + 1 ≤ R.frames ∧ 8 + (maxL + 11) + lo ≤ R.locals)
    (hn : As.length = n) (hsz : ls.size = nL) (hst : st0 = As.reverse ++ rest) (hrm : (rest.map fun v => v.category).sum ≤ 8) (hcs : cells ≤ R.cells ∧ slots ≤ R.slots) (hdg : decode cc pc = .ok (.invokestatic index, 3))
    (kk : ∀ (r : Int32) (τ1 τ2 : St) (H1 : Heap) (locs1 : List Loc), post r (τ1, τ2) → Wcel G1 τ1 H1 → Wcel G2 τ2 H1 → va_S (bA A1 A2) s.heap H1 locs1 → W p l e R s m args below meth c H1 locs1 cells slots Q (F0 m (pc + 3) ls (.int r :: rest))) : W p l e R s m args below meth c H locs cells slots Q (F0 m pc ls st0) := by
  refine va_calli (va_runS (As := As) (rest := rest) ⟨hx, hb, hml, hown, hts⟩ hM (va_cwS n hts hG hwd rfl rfl hd hR) ⟨LPw_blind, LPw_at hE hw1 hw2 hS⟩ rfl hn hsz hst (lv_room hrm) hdg hcs) hS (fun _ _ h => h) (fun _ h => h) (fun r τ t H1 locs1 ht hvm hp hB hz1 hk1 hS1 => ?_)
  rw [LPw, ht] at hB
  exact kk r τ.1 τ.2 H1 locs1 hp hB.2.1 hB.2.2 hS1
/-- a static method that reads the law's script alone -/
def MC (l : Launch) (y : MethodName) (ws : List Cond) (b L : Nat) (xs : Nat → Int32) (av : List Value) (post : Int32 → Prop) : Prop :=
  Met l y ws { frames := 0, cells := 0, slots := 0, locals := 0 } (va_Pc av (fun U => va_X b L xs U U.heap ∧ b < U.heap.size)) (va_Qi (fun r (_ : Unit) => post r) (fun _ _ => True) (fun _ => False)) 0 0 (fun _ => False)
theorem g2_Sc {A : Nat → Prop} {b L : Nat} {xs : Nat → Int32} {post : Int32 → Prop} (hx : p.tables.exec = Jvm.exec) (hb : c.code = cc) (hml : c.maxLocals = nL) (hown : s.vm.findClass own = some m.cls) (hts : ∀ w ∈ Ts, w.before args s = true) (hX : va_X b L xs s s.heap) (hbl : b < s.heap.size) (hbA : ¬ A b) (hS : va_S A s.heap H locs)
    (hG : GoodIn Ts (va_wsS own index y ws)) (hM : MC l y ws b L xs As post) (hwd : ws = Cond.code y bytes maxL ret :: ws') (hd : y.cls ≠ "java/lang/invoke/MethodHandle" ∧ y.cls ≠ "java/lang/invoke/VarHandle" ∧ (parseMethodDescriptor y.desc).map (fun d => d.parameters.length) = some n) (hR : 0 + 1 ≤ R.frames ∧ 8 + (maxL + 11) + 0 ≤ R.locals)
    (hn : As.length = n) (hsz : ls.size = nL) (hst : st0 = As.reverse ++ rest) (hrm : (rest.map fun v => v.category).sum ≤ 8) (hcs : cells ≤ R.cells ∧ slots ≤ R.slots) (hdg : decode cc pc = .ok (.invokestatic index, 3))
    (kk : ∀ (r : Int32) (H1 : Heap) (locs1 : List Loc), post r → (∀ q : Nat, q < H.size → H1[q]? = H[q]?) → va_S A s.heap H1 locs1 → W p l e R s m args below meth c H1 locs1 cells slots Q (F0 m (pc + 3) ls (.int r :: rest))) : W p l e R s m args below meth c H locs cells slots Q (F0 m pc ls st0) := by
  refine va_calli (va_runS (As := As) (rest := rest) ⟨hx, hb, hml, hown, hts⟩ hM (va_cwS n hts hG hwd rfl rfl hd hR) ⟨fun a U g mk h => ⟨h.1, va_X.moved (Vm.Alike.refl U.vm) h.2.1, h.2.2⟩, fun U hU hW => ⟨rfl, by rw [hU]; exact va_X.moved hW.alike (hX.kept (hS.2.1 b hbl hbA)), by rw [hU]; exact Nat.lt_of_lt_of_le hbl hS.1⟩⟩ rfl hn hsz hst (lv_room hrm) hdg hcs) hS (fun _ _ h => False.elim h) (fun _ h => False.elim h) (fun r τ t H1 locs1 ht hvm hp hB hz1 hk1 hS1 => ?_)
  exact kk r H1 locs1 hp (fun q h => hk1 q h (fun z => z)) hS1
end G2R
theorem Wcel.kept0 {G : GG} {σ : St} {H H1 : Heap} (h : Wcel G σ H) (hk : ∀ q : Nat, q < H.size → H1[q]? = H[q]?) : Wcel G σ H1 :=
  ⟨fun k q hq => (h.1 k q hq).kept (hk _ (h.1 k q hq).lt), h.2⟩
