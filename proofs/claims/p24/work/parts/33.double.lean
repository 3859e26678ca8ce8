/-! ROWS: contracts that answer a double; a mean is a number -/
abbrev c288 : UInt64 := 4643774165772402688
def meanD (v : Int32) : UInt64 := FP.ddiv (FP.i2d v) c288
theorem mean_num (v : Int32) : vf_n64 (FP.ddiv (FP.i2d v) c288) := by
  have h : FP.Core.dIsNaN (FP.Core.ddiv (FP.Core.i2d v) c288) = false := FP.Core.ddiv_out (FP.Core.DFin.notNaN (FP.Core.i2d_fin v)) ((FP.Core.fin_bits _).mpr (by decide)) (fun q => absurd ((FP.Core.zero_bits2 _).mp q) (by decide))
  have h2 := (FP.Core.ne_nan _).mp ((FP.Core.notNaN_iff _).mp h)
  show FP.Core.ddiv (FP.Core.i2d v) c288 &&& 0x7fffffffffffffff ≤ 0x7ff0000000000000
  rw [UInt64.le_iff_toNat_le, UInt64.toNat_and]
  show (FP.Core.ddiv (FP.Core.i2d v) c288).toNat &&& (2 ^ 63 - 1) ≤ 9218868437227405312
  rw [Nat.and_two_pow_sub_one_eq_mod]
  exact h2
def MDb (l : Launch) (y : MethodName) (ws : List Cond) (fr lo : Nat) (G : GG) (A : Nat → Prop) (σ : St) (av : List Value) (post : UInt64 → St → Prop) : Prop :=
  Met l y ws { frames := fr, cells := 0, slots := 0, locals := lo } (va_Pc av (gP G A σ)) (va_Qd post (fun τ t => gP G A τ t) A) 0 0 A
theorem MDb.on {l : Launch} {y : MethodName} {ws ws' : List Cond} {fr lo nL : Nat} {G : GG} {A : Nat → Prop} {σ : St} {av : List Value} {post : UInt64 → St → Prop} {cc : ByteArray} {ret : Option FieldType} (hy : plainName y.cls = true) (hw : ws = Cond.code y cc nL ret :: ws') (hn : (lg_sl av).length ≤ nL)
    (body : ∀ (p : Program) (e : Env) (s : State) (m : MethodId) (args : Array Value) (below : List Frame) (meth : Method) (c : Code) (ls : Array Slot), p.tables.exec = Jvm.exec → c.code = cc → c.maxLocals = nL → meth.sig.returnType = ret → s.vm.findClass y.cls = some m.cls → meth.locks = false → (∀ w ∈ ws, w.before args s = true) → Wenv G A s s.heap → Wcel G σ s.heap → va_S A s.heap s.heap [] → lv_has ls nL (lv_args 0 av) →
      W p l e { frames := fr, cells := 0, slots := 0, locals := lo } s m args below meth c s.heap [] 0 0 (MQ below (va_Qd post (fun τ t => gP G A τ t) A) args s 0 0 A) (F0 m 0 ls [])) : MDb l y ws fr lo G A σ av post := by
  refine Met.ofW hy hw ?_
  intro p e s m args below meth c s₁ B hml hv
  obtain ⟨rfl, hE, hC⟩ := hv
  have hl := lv_entry av (n := nL) hn
  rw [lg_entry_eq]
  exact body p e s m _ below meth c _ B.exec B.bytes hml B.returns (findClass_of_methodNamed B.named) B.notSynchronized (atoms_spec (ws := ws) B.pre) hE hC va_S.rf hl
section GD
variable {p : Program} {l : Launch} {e : Env} {R : Room} {s : State} {m : MethodId} {args : Array Value} {below : List Frame} {meth : Method} {c : Code} {H : Heap} {locs : List Loc} {cells slots : Nat} {Q : State → Prop}
variable {cc bytes : ByteArray} {pc : Nat} {ls : Array Slot} {rest st0 As : List Value} {G : GG} {A : Nat → Prop} {σ : St}
variable {y : MethodName} {ws ws' Ts : List Cond} {fr lo n index nL maxL : Nat} {own C host : String} {ret : Option FieldType} {k i ci : Nat} {fs : List Value} {q : vw_C}
theorem g_dret {post : UInt64 → St → Prop} {v : UInt64} (hx : p.tables.exec = Jvm.exec) (hb : c.code = cc) (hr : meth.sig.returnType = some .double) (hlk : meth.locks = false) (hE : Wenv G A s s.heap) (hw : Wcel G σ H) (hS : va_S A s.heap H locs) (hdg : decode cc pc = .ok (.dreturn, 1)) (hp : post v σ) :
    W p l e R s m args below meth c H locs 0 0 (MQ below (va_Qd post (fun τ t => gP G A τ t) A) args s 0 0 A) (F0 m pc ls [.double v]) :=
  W.dret hx hb hr (fun t ht hW => ⟨⟨v, σ, rfl, hp, hE.go hS hW ht, by rw [ht]; exact hw⟩, hS.F ht⟩) hS.2.2 hdg hlk
theorem g_Vd {post : UInt64 → St → Prop} (hx : p.tables.exec = Jvm.exec) (hb : c.code = cc) (hml : c.maxLocals = nL) (hown : s.vm.findClass own = some m.cls) (hts : ∀ w ∈ Ts, w.before args s = true) (hE : Wenv G A s s.heap) (hw : Wcel G σ H) (hS : va_S A s.heap H locs)
    (hG : GoodIn Ts (wsV own index C y ws)) (hM : MDb l y ws fr lo G A σ (.ref (G.1 k i) :: As) post) (hwd : ws = Cond.code y bytes maxL ret :: ws') (hd : y.cls = C ∧ y.cls ≠ "java/lang/invoke/MethodHandle" ∧ y.cls ≠ "java/lang/invoke/VarHandle" ∧ (parseMethodDescriptor y.desc).map (fun d => d.parameters.length) = some n) (hR : fr + 1 ≤ R.frames ∧ 8 + (maxL + 11) + lo ≤ R.locals)
    (hpl : i < pCnt k) (hsh : shape G k i (σ k i) = .inr (ci, fs)) (hc : vwCl[ci]? = some q) (hq : q.1 = C) (hn : As.length = n) (hsz : ls.size = nL) (hst : st0 = As.reverse ++ .ref (G.1 k i) :: rest) (hrm : (rest.map fun v => v.category).sum ≤ 8) (hcs : cells ≤ R.cells ∧ slots ≤ R.slots) (hdg : decode cc pc = .ok (.invokevirtual index, 3))
    (kk : ∀ (r : UInt64) (τ : St) (H1 : Heap) (locs1 : List Loc), post r τ → Wcel G τ H1 → va_S A s.heap H1 locs1 → W p l e R s m args below meth c H1 locs1 cells slots Q (F0 m (pc + 3) ls (.double r :: rest))) : W p l e R s m args below meth c H locs cells slots Q (F0 m pc ls st0) := by
  obtain ⟨q0, -, hq0⟩ := wl_get G σ hpl
  subst hq
  refine va_calld (va_runV (As := As) (rest := rest) ⟨hx, hb, hml, hown, hts⟩ hM (cwV n hts hG hwd rfl rfl hd hR) ⟨gP_blind, va_recv hE.1 hw.1 hc (hq0.trans (by rw [hsh])), gP_at hE hw hS⟩ rfl hn hsz hst (lv_room hrm) hdg hcs) hS (fun _ _ h => h) (fun _ h => h) (fun r τ t H1 locs1 ht hvm hp hB hz1 hk1 hS1 => ?_)
  rw [gP, ht] at hB
  exact kk r τ H1 locs1 hp hB.2 hS1
end GD
