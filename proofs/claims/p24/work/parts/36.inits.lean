/-! CONSTRUCTORS, laid by program -/
/-- the world behind ZonedLight$Screen's constructor -/
def fX3 (Y : T3) (h0 : Nat) (u : (Nat → Nat) × ClassId) : va_W := [(h0, .inr (3, [.ref (u.1 0), .ref (u.1 1), .ref (u.1 2), .ref (u.1 3), .int 0, .int 0, .int 0])), (u.1 0, .inl (Y.1, 288, .inl (fun _ => 0))), (u.1 1, .inl (Y.1, 18, .inl (fun _ => 0))), (u.1 2, .inl (Y.2.2, 18, .inl (fun _ => 0))), (u.1 3, .inl (Y.1, 8, .inl fstF))]
set_option maxHeartbeats 16000000 in
set_option maxRecDepth 100000 in
theorem c_X3_init (l : Launch) (D : va_G) (Y : T3) (h0 sz : Nat) : Met l yX3_init wsX3_init { frames := 1, cells := 4, slots := 332, locals := 26 } (va_Pc [.ref h0] (cPre D Y h0 (.inr (3, [.null, .null, .null, .null, .int 0, .int 0, .int 0])) sz)) (va_Qv (fun _ : (Nat → Nat) × ClassId => True) (fun u t => va_K D vwCl (kT Y) t ∧ va_P D vwCl (fX3 Y h0 u) t.heap ∧ va_D (va_A [(h0, .inr (3, [.null, .null, .null, .null, .int 0, .int 0, .int 0]))] sz) (fX3 Y h0 u)) (va_A [(h0, .inr (3, [.null, .null, .null, .null, .int 0, .int 0, .int 0]))] sz)) 4 332 (va_A [(h0, .inr (3, [.null, .null, .null, .null, .int 0, .int 0, .int 0]))] sz) := by
  refine Met.ofW (cc := cX3_init) (maxL := 1) (ret := none) (by decide) rfl ?_
  intro p e s m args below meth c s₁ B hml hv
  obtain ⟨rfl, hsz, hEnv, hP, hD0⟩ := hv
  have hx := B.exec
  have hb := B.bytes
  have hr := B.returns
  have hts := atoms_spec (ws := wsX3_init) B.pre
  have hown : s.vm.findClass RX3 = some m.cls := findClass_of_methodNamed B.named
  have hlocks := B.notSynchronized
  have hin : meth.name = "<init>" := (name_of_methodNamed B.named B.method).1
  subst hsz
  have hD := hD0.self (sz := s.heap.size)
  generalize hAe : va_A [(h0, .inr (3, [.null, .null, .null, .null, .int 0, .int 0, .int 0]))] s.heap.size = A at hEnv hD ⊢
  have hA : ∀ q : Nat, s.heap.size ≤ q → A q := fun q h => by rw [← hAe]; exact Or.inr h
  have hS : va_S A s.heap s.heap [] := va_S.rf
  have hK := hEnv.1
  have hl := lv_entry ([.ref h0]) (n := 1) (Nat.le_of_ble_eq_true rfl)
  rw [lg_entry_eq]
  generalize (lg_sl ([.ref h0]) ++ List.replicate (1 - (lg_sl ([.ref h0])).length) Slot.unset).toArray = ls at hl ⊢
  have hl : lv_has ls 1 [(0, .ref h0)] := hl
  have hP : va_P D vwCl [(h0, .inr (3, [.null, .null, .null, .null, .int 0, .int 0, .int 0]))] s.heap := hP
  refine lv_aload_n hx hb dX3_init_0 rfl (lv_at hl 0 rfl) ?_
  refine W.objInit hx hb hown (hts (.methodLink RX3 3 objectInit) (by decide +kernel)) (hts (.instanceMethod objectInit) (by decide +kernel)) (hts (.code objectInit ⟨#[0xb1]⟩ 1 none) (by decide +kernel)) rfl (by rw [hml]; exact hl.1) rfl dX3_init_1 (Nat.le_of_ble_eq_true rfl) (Nat.le_of_ble_eq_true rfl) ?_
  refine W.eq (g2 := F0 m 4 ls []) rfl ?_
  refine lv_aload_n hx hb dX3_init_4 rfl (lv_at hl 0 rfl) ?_
  refine lv_sipush (v := nI 288) hx hb dX3_init_5 (by decide) ?_
  refine k_newI hx hb (hts (.arrayClass .int) (by decide +kernel)) hK 0 rfl hP hD hS hA (by decide) (Nat.le_of_ble_eq_true rfl) (Nat.le_of_ble_eq_true rfl) dX3_init_8 (fun q0 H hP hD hS => ?_)
  have hP : va_P D vwCl [(h0, .inr (3, [.null, .null, .null, .null, .int 0, .int 0, .int 0])), (q0, .inl (Y.1, 288, .inl (fun _ => 0)))] H := hP
  have hD : va_D A [(h0, .inr (3, [.null, .null, .null, .null, .int 0, .int 0, .int 0])), (q0, .inl (Y.1, 288, .inl (fun _ => 0)))] := hD
  refine W.widen (k := 1) (n := 288) (by omega) (by omega) ?_
  refine va_putF (D := D) (ci := 3) (v := (.ref q0)) (ty := tyX3 0) (C := RX3) (T := TX3) (N := 7) hx hb hts (by decide +kernel) tyX3 tyX3_ok nmX3 hown hK hP hD hS 0 rfl rfl 0 (by decide) (hts (.fieldLink RX3 9 "ZonedLight$Screen" "asked" "[I") (by decide +kernel)) (fun _ h => h) rfl hin rfl (tyX3_ok 0 (by decide)) rfl rfl (Nat.le_of_ble_eq_true rfl) dX3_init_10 (fun H locs hP hD hS => ?_)
  have hP : va_P D vwCl [(h0, .inr (3, [.ref q0, .null, .null, .null, .int 0, .int 0, .int 0])), (q0, .inl (Y.1, 288, .inl (fun _ => 0)))] H := hP
  have hD : va_D A [(h0, .inr (3, [.ref q0, .null, .null, .null, .int 0, .int 0, .int 0])), (q0, .inl (Y.1, 288, .inl (fun _ => 0)))] := hD
  refine lv_aload_n hx hb dX3_init_13 rfl (lv_at hl 0 rfl) ?_
  refine lv_bipush (v := nI 18) hx hb dX3_init_14 (by decide) ?_
  refine k_newI hx hb (hts (.arrayClass .int) (by decide +kernel)) hK 0 rfl hP hD hS hA (by decide) (Nat.le_of_ble_eq_true rfl) (Nat.le_of_ble_eq_true rfl) dX3_init_16 (fun q1 H hP hD hS => ?_)
  have hP : va_P D vwCl [(h0, .inr (3, [.ref q0, .null, .null, .null, .int 0, .int 0, .int 0])), (q0, .inl (Y.1, 288, .inl (fun _ => 0))), (q1, .inl (Y.1, 18, .inl (fun _ => 0)))] H := hP
  have hD : va_D A [(h0, .inr (3, [.ref q0, .null, .null, .null, .int 0, .int 0, .int 0])), (q0, .inl (Y.1, 288, .inl (fun _ => 0))), (q1, .inl (Y.1, 18, .inl (fun _ => 0)))] := hD
  refine W.widen (k := 2) (n := 306) (by omega) (by omega) ?_
  refine va_putF (D := D) (ci := 3) (v := (.ref q1)) (ty := tyX3 1) (C := RX3) (T := TX3) (N := 7) hx hb hts (by decide +kernel) tyX3 tyX3_ok nmX3 hown hK hP hD hS 0 rfl rfl 1 (by decide) (hts (.fieldLink RX3 15 "ZonedLight$Screen" "level" "[I") (by decide +kernel)) (fun _ h => h) rfl hin rfl (tyX3_ok 1 (by decide)) rfl rfl (Nat.le_of_ble_eq_true rfl) dX3_init_18 (fun H locs hP hD hS => ?_)
  have hP : va_P D vwCl [(h0, .inr (3, [.ref q0, .ref q1, .null, .null, .int 0, .int 0, .int 0])), (q0, .inl (Y.1, 288, .inl (fun _ => 0))), (q1, .inl (Y.1, 18, .inl (fun _ => 0)))] H := hP
  have hD : va_D A [(h0, .inr (3, [.ref q0, .ref q1, .null, .null, .int 0, .int 0, .int 0])), (q0, .inl (Y.1, 288, .inl (fun _ => 0))), (q1, .inl (Y.1, 18, .inl (fun _ => 0)))] := hD
  refine lv_aload_n hx hb dX3_init_21 rfl (lv_at hl 0 rfl) ?_
  refine lv_bipush (v := nI 18) hx hb dX3_init_22 (by decide) ?_
  refine k_newZ hx hb (hts (.arrayClass .boolean) (by decide +kernel)) hK 2 rfl hP hD hS hA (by decide) (Nat.le_of_ble_eq_true rfl) (Nat.le_of_ble_eq_true rfl) dX3_init_24 (fun q2 H hP hD hS => ?_)
  have hP : va_P D vwCl [(h0, .inr (3, [.ref q0, .ref q1, .null, .null, .int 0, .int 0, .int 0])), (q0, .inl (Y.1, 288, .inl (fun _ => 0))), (q1, .inl (Y.1, 18, .inl (fun _ => 0))), (q2, .inl (Y.2.2, 18, .inl (fun _ => 0)))] H := hP
  have hD : va_D A [(h0, .inr (3, [.ref q0, .ref q1, .null, .null, .int 0, .int 0, .int 0])), (q0, .inl (Y.1, 288, .inl (fun _ => 0))), (q1, .inl (Y.1, 18, .inl (fun _ => 0))), (q2, .inl (Y.2.2, 18, .inl (fun _ => 0)))] := hD
  refine W.widen (k := 3) (n := 324) (by omega) (by omega) ?_
  refine va_putF (D := D) (ci := 3) (v := (.ref q2)) (ty := tyX3 2) (C := RX3) (T := TX3) (N := 7) hx hb hts (by decide +kernel) tyX3 tyX3_ok nmX3 hown hK hP hD hS 0 rfl rfl 2 (by decide) (hts (.fieldLink RX3 18 "ZonedLight$Screen" "dead" "[Z") (by decide +kernel)) (fun _ h => h) rfl hin rfl (tyX3_ok 2 (by decide)) rfl rfl (Nat.le_of_ble_eq_true rfl) dX3_init_26 (fun H locs hP hD hS => ?_)
  have hP : va_P D vwCl [(h0, .inr (3, [.ref q0, .ref q1, .ref q2, .null, .int 0, .int 0, .int 0])), (q0, .inl (Y.1, 288, .inl (fun _ => 0))), (q1, .inl (Y.1, 18, .inl (fun _ => 0))), (q2, .inl (Y.2.2, 18, .inl (fun _ => 0)))] H := hP
  have hD : va_D A [(h0, .inr (3, [.ref q0, .ref q1, .ref q2, .null, .int 0, .int 0, .int 0])), (q0, .inl (Y.1, 288, .inl (fun _ => 0))), (q1, .inl (Y.1, 18, .inl (fun _ => 0))), (q2, .inl (Y.2.2, 18, .inl (fun _ => 0)))] := hD
  refine lv_aload_n hx hb dX3_init_29 rfl (lv_at hl 0 rfl) ?_
  refine lv_bipush (v := nI 8) hx hb dX3_init_30 (by decide) ?_
  refine k_newI hx hb (hts (.arrayClass .int) (by decide +kernel)) hK 0 rfl hP hD hS hA (by decide) (Nat.le_of_ble_eq_true rfl) (Nat.le_of_ble_eq_true rfl) dX3_init_32 (fun q3 H hP hD hS => ?_)
  have hP : va_P D vwCl [(h0, .inr (3, [.ref q0, .ref q1, .ref q2, .null, .int 0, .int 0, .int 0])), (q0, .inl (Y.1, 288, .inl (fun _ => 0))), (q1, .inl (Y.1, 18, .inl (fun _ => 0))), (q2, .inl (Y.2.2, 18, .inl (fun _ => 0))), (q3, .inl (Y.1, 8, .inl (fun _ => 0)))] H := hP
  have hD : va_D A [(h0, .inr (3, [.ref q0, .ref q1, .ref q2, .null, .int 0, .int 0, .int 0])), (q0, .inl (Y.1, 288, .inl (fun _ => 0))), (q1, .inl (Y.1, 18, .inl (fun _ => 0))), (q2, .inl (Y.2.2, 18, .inl (fun _ => 0))), (q3, .inl (Y.1, 8, .inl (fun _ => 0)))] := hD
  refine W.widen (k := 4) (n := 332) (by omega) (by omega) ?_
  refine va_putF (D := D) (ci := 3) (v := (.ref q3)) (ty := tyX3 3) (C := RX3) (T := TX3) (N := 7) hx hb hts (by decide +kernel) tyX3 tyX3_ok nmX3 hown hK hP hD hS 0 rfl rfl 3 (by decide) (hts (.fieldLink RX3 22 "ZonedLight$Screen" "setting" "[I") (by decide +kernel)) (fun _ h => h) rfl hin rfl (tyX3_ok 3 (by decide)) rfl rfl (Nat.le_of_ble_eq_true rfl) dX3_init_34 (fun H locs hP hD hS => ?_)
  have hP : va_P D vwCl [(h0, .inr (3, [.ref q0, .ref q1, .ref q2, .ref q3, .int 0, .int 0, .int 0])), (q0, .inl (Y.1, 288, .inl (fun _ => 0))), (q1, .inl (Y.1, 18, .inl (fun _ => 0))), (q2, .inl (Y.2.2, 18, .inl (fun _ => 0))), (q3, .inl (Y.1, 8, .inl (fun _ => 0)))] H := hP
  have hD : va_D A [(h0, .inr (3, [.ref q0, .ref q1, .ref q2, .ref q3, .int 0, .int 0, .int 0])), (q0, .inl (Y.1, 288, .inl (fun _ => 0))), (q1, .inl (Y.1, 18, .inl (fun _ => 0))), (q2, .inl (Y.2.2, 18, .inl (fun _ => 0))), (q3, .inl (Y.1, 8, .inl (fun _ => 0)))] := hD
  refine lv_aload_n hx hb dX3_init_37 rfl (lv_at hl 0 rfl) ?_
  refine lv_iconst (v := nI 0) hx hb dX3_init_38 (by decide) ?_
  refine va_put (D := D) (ci := 3) (v := (.int 0)) (ty := tyX3 4) (C := RX3) (T := TX3) (N := 7) hx hb hts (by decide +kernel) tyX3 tyX3_ok nmX3 hown hK hP hD hS 0 rfl rfl 4 (by decide) (hts (.fieldLink RX3 25 "ZonedLight$Screen" "frames" "I") (by decide +kernel)) (fun _ h => h) rfl (tyX3_ok 4 (by decide)) rfl rfl (Nat.le_of_ble_eq_true rfl) dX3_init_39 (fun H locs hP hD hS => ?_)
  have hP : va_P D vwCl [(h0, .inr (3, [.ref q0, .ref q1, .ref q2, .ref q3, .int 0, .int 0, .int 0])), (q0, .inl (Y.1, 288, .inl (fun _ => 0))), (q1, .inl (Y.1, 18, .inl (fun _ => 0))), (q2, .inl (Y.2.2, 18, .inl (fun _ => 0))), (q3, .inl (Y.1, 8, .inl (fun _ => 0)))] H := hP
  have hD : va_D A [(h0, .inr (3, [.ref q0, .ref q1, .ref q2, .ref q3, .int 0, .int 0, .int 0])), (q0, .inl (Y.1, 288, .inl (fun _ => 0))), (q1, .inl (Y.1, 18, .inl (fun _ => 0))), (q2, .inl (Y.2.2, 18, .inl (fun _ => 0))), (q3, .inl (Y.1, 8, .inl (fun _ => 0)))] := hD
  refine lv_aload_n hx hb dX3_init_42 rfl (lv_at hl 0 rfl) ?_
  refine lv_iconst (v := nI 0) hx hb dX3_init_43 (by decide) ?_
  refine va_put (D := D) (ci := 3) (v := (.int 0)) (ty := tyX3 5) (C := RX3) (T := TX3) (N := 7) hx hb hts (by decide +kernel) tyX3 tyX3_ok nmX3 hown hK hP hD hS 0 rfl rfl 5 (by decide) (hts (.fieldLink RX3 29 "ZonedLight$Screen" "flicker" "I") (by decide +kernel)) (fun _ h => h) rfl (tyX3_ok 5 (by decide)) rfl rfl (Nat.le_of_ble_eq_true rfl) dX3_init_44 (fun H locs hP hD hS => ?_)
  have hP : va_P D vwCl [(h0, .inr (3, [.ref q0, .ref q1, .ref q2, .ref q3, .int 0, .int 0, .int 0])), (q0, .inl (Y.1, 288, .inl (fun _ => 0))), (q1, .inl (Y.1, 18, .inl (fun _ => 0))), (q2, .inl (Y.2.2, 18, .inl (fun _ => 0))), (q3, .inl (Y.1, 8, .inl (fun _ => 0)))] H := hP
  have hD : va_D A [(h0, .inr (3, [.ref q0, .ref q1, .ref q2, .ref q3, .int 0, .int 0, .int 0])), (q0, .inl (Y.1, 288, .inl (fun _ => 0))), (q1, .inl (Y.1, 18, .inl (fun _ => 0))), (q2, .inl (Y.2.2, 18, .inl (fun _ => 0))), (q3, .inl (Y.1, 8, .inl (fun _ => 0)))] := hD
  refine lv_aload_n hx hb dX3_init_47 rfl (lv_at hl 0 rfl) ?_
  refine lv_iconst (v := nI 0) hx hb dX3_init_48 (by decide) ?_
  refine va_put (D := D) (ci := 3) (v := (.int 0)) (ty := tyX3 6) (C := RX3) (T := TX3) (N := 7) hx hb hts (by decide +kernel) tyX3 tyX3_ok nmX3 hown hK hP hD hS 0 rfl rfl 6 (by decide) (hts (.fieldLink RX3 32 "ZonedLight$Screen" "powerSoFar" "I") (by decide +kernel)) (fun _ h => h) rfl (tyX3_ok 6 (by decide)) rfl rfl (Nat.le_of_ble_eq_true rfl) dX3_init_49 (fun H locs hP hD hS => ?_)
  have hP : va_P D vwCl [(h0, .inr (3, [.ref q0, .ref q1, .ref q2, .ref q3, .int 0, .int 0, .int 0])), (q0, .inl (Y.1, 288, .inl (fun _ => 0))), (q1, .inl (Y.1, 18, .inl (fun _ => 0))), (q2, .inl (Y.2.2, 18, .inl (fun _ => 0))), (q3, .inl (Y.1, 8, .inl (fun _ => 0)))] H := hP
  have hD : va_D A [(h0, .inr (3, [.ref q0, .ref q1, .ref q2, .ref q3, .int 0, .int 0, .int 0])), (q0, .inl (Y.1, 288, .inl (fun _ => 0))), (q1, .inl (Y.1, 18, .inl (fun _ => 0))), (q2, .inl (Y.2.2, 18, .inl (fun _ => 0))), (q3, .inl (Y.1, 8, .inl (fun _ => 0)))] := hD
  obtain ⟨tF, hZ, hT⟩ := hEnv.2.2.2
  refine va_getsN hx hb hZ hS hown (va_Nw.use rfl hEnv.2.1.1) (fun _ h => h) dX3_init_52 ?_
  refine lv_iconst (v := nI 0) hx hb dX3_init_55 (by decide) ?_
  refine lv_aload_n hx hb dX3_init_56 rfl (lv_at hl 0 rfl) ?_
  refine va_get (ci := 3) (C := RX3) (T := TX3) (N := 7) hx hb hts (by decide +kernel) hown hK hP 0 rfl rfl 3 (by decide) (hts (.fieldLink RX3 22 "ZonedLight$Screen" "setting" "[I") (by decide +kernel)) (fun _ h => h) rfl dX3_init_57 ?_
  refine lv_iconst (v := nI 0) hx hb dX3_init_60 (by decide) ?_
  refine lv_bipush (v := nI 8) hx hb dX3_init_61 (by decide) ?_
  refine k_copyT hx hb (hml.trans hl.1.symm) hown (hts (.methodLink RX3 38 arraycopyName) (by decide +kernel)) (hts (.native arraycopyName) (by decide +kernel)) (hts (.static arraycopyName) (by decide +kernel)) (hts (.initialized "java/lang/System") (by decide +kernel)) hK hP hD hS 4 0 hT rfl rfl (Nat.le_of_ble_eq_true rfl) (Nat.le_of_ble_eq_true rfl) dX3_init_63 (fun H locs hP hD hS => ?_)
  have hP : va_P D vwCl [(h0, .inr (3, [.ref q0, .ref q1, .ref q2, .ref q3, .int 0, .int 0, .int 0])), (q0, .inl (Y.1, 288, .inl (fun _ => 0))), (q1, .inl (Y.1, 18, .inl (fun _ => 0))), (q2, .inl (Y.2.2, 18, .inl (fun _ => 0))), (q3, .inl (Y.1, 8, .inl fstF))] H := hP
  have hD : va_D A [(h0, .inr (3, [.ref q0, .ref q1, .ref q2, .ref q3, .int 0, .int 0, .int 0])), (q0, .inl (Y.1, 288, .inl (fun _ => 0))), (q1, .inl (Y.1, 18, .inl (fun _ => 0))), (q2, .inl (Y.2.2, 18, .inl (fun _ => 0))), (q3, .inl (Y.1, 8, .inl fstF))] := hD
  exact W.vret hx hb hr (fun t ht hW => ⟨⟨(fun i => [q0, q1, q2, q3].getD i 0, Y.1), rfl, trivial, va_K.moved hW.alike hK, by rw [ht]; exact hP, hD⟩, hS.F ht⟩) hS.2.2 dX3_init_66
/-- the world behind ZonedLight$Tally's constructor -/
def fX4 (Y : T3) (h0 : Nat) (u : (Nat → Nat) × ClassId) : va_W := [(h0, .inr (4, [.int 0, .int 0, .int 0, .int 0, .int 0]))]
set_option maxHeartbeats 16000000 in
set_option maxRecDepth 100000 in
theorem c_X4_init (l : Launch) (D : va_G) (Y : T3) (h0 sz : Nat) : Met l yX4_init wsX4_init { frames := 1, cells := 0, slots := 0, locals := 12 } (va_Pc [.ref h0] (cPre D Y h0 (.inr (4, [.int 0, .int 0, .int 0, .int 0, .int 0])) sz)) (va_Qv (fun _ : (Nat → Nat) × ClassId => True) (fun u t => va_K D vwCl (kT Y) t ∧ va_P D vwCl (fX4 Y h0 u) t.heap ∧ va_D (va_A [(h0, .inr (4, [.int 0, .int 0, .int 0, .int 0, .int 0]))] sz) (fX4 Y h0 u)) (va_A [(h0, .inr (4, [.int 0, .int 0, .int 0, .int 0, .int 0]))] sz)) 0 0 (va_A [(h0, .inr (4, [.int 0, .int 0, .int 0, .int 0, .int 0]))] sz) := by
  refine Met.ofW (cc := cX4_init) (maxL := 1) (ret := none) (by decide) rfl ?_
  intro p e s m args below meth c s₁ B hml hv
  obtain ⟨rfl, hsz, hEnv, hP, hD0⟩ := hv
  have hx := B.exec
  have hb := B.bytes
  have hr := B.returns
  have hts := atoms_spec (ws := wsX4_init) B.pre
  have hown : s.vm.findClass RX4 = some m.cls := findClass_of_methodNamed B.named
  have hlocks := B.notSynchronized
  have hin : meth.name = "<init>" := (name_of_methodNamed B.named B.method).1
  subst hsz
  have hD := hD0.self (sz := s.heap.size)
  generalize hAe : va_A [(h0, .inr (4, [.int 0, .int 0, .int 0, .int 0, .int 0]))] s.heap.size = A at hEnv hD ⊢
  have hA : ∀ q : Nat, s.heap.size ≤ q → A q := fun q h => by rw [← hAe]; exact Or.inr h
  have hS : va_S A s.heap s.heap [] := va_S.rf
  have hK := hEnv.1
  have hl := lv_entry ([.ref h0]) (n := 1) (Nat.le_of_ble_eq_true rfl)
  rw [lg_entry_eq]
  generalize (lg_sl ([.ref h0]) ++ List.replicate (1 - (lg_sl ([.ref h0])).length) Slot.unset).toArray = ls at hl ⊢
  have hl : lv_has ls 1 [(0, .ref h0)] := hl
  have hP : va_P D vwCl [(h0, .inr (4, [.int 0, .int 0, .int 0, .int 0, .int 0]))] s.heap := hP
  refine lv_aload_n hx hb dX4_init_0 rfl (lv_at hl 0 rfl) ?_
  refine W.objInit hx hb hown (hts (.methodLink RX4 3 objectInit) (by decide +kernel)) (hts (.instanceMethod objectInit) (by decide +kernel)) (hts (.code objectInit ⟨#[0xb1]⟩ 1 none) (by decide +kernel)) rfl (by rw [hml]; exact hl.1) rfl dX4_init_1 (Nat.le_of_ble_eq_true rfl) (Nat.le_of_ble_eq_true rfl) ?_
  refine W.eq (g2 := F0 m 4 ls []) rfl ?_
  refine lv_aload_n hx hb dX4_init_4 rfl (lv_at hl 0 rfl) ?_
  refine lv_iconst (v := nI 0) hx hb dX4_init_5 (by decide) ?_
  refine va_put (D := D) (ci := 4) (v := (.int 0)) (ty := tyX4 0) (C := RX4) (T := TX4) (N := 5) hx hb hts (by decide +kernel) tyX4 tyX4_ok nmX4 hown hK hP hD hS 0 rfl rfl 0 (by decide) (hts (.fieldLink RX4 9 "ZonedLight$Tally" "tooDark" "I") (by decide +kernel)) (fun _ h => h) rfl (tyX4_ok 0 (by decide)) rfl rfl (Nat.le_of_ble_eq_true rfl) dX4_init_6 (fun H locs hP hD hS => ?_)
  have hP : va_P D vwCl [(h0, .inr (4, [.int 0, .int 0, .int 0, .int 0, .int 0]))] H := hP
  have hD : va_D A [(h0, .inr (4, [.int 0, .int 0, .int 0, .int 0, .int 0]))] := hD
  refine lv_aload_n hx hb dX4_init_9 rfl (lv_at hl 0 rfl) ?_
  refine lv_iconst (v := nI 0) hx hb dX4_init_10 (by decide) ?_
  refine va_put (D := D) (ci := 4) (v := (.int 0)) (ty := tyX4 1) (C := RX4) (T := TX4) (N := 5) hx hb hts (by decide +kernel) tyX4 tyX4_ok nmX4 hown hK hP hD hS 0 rfl rfl 1 (by decide) (hts (.fieldLink RX4 15 "ZonedLight$Tally" "tooBright" "I") (by decide +kernel)) (fun _ h => h) rfl (tyX4_ok 1 (by decide)) rfl rfl (Nat.le_of_ble_eq_true rfl) dX4_init_11 (fun H locs hP hD hS => ?_)
  have hP : va_P D vwCl [(h0, .inr (4, [.int 0, .int 0, .int 0, .int 0, .int 0]))] H := hP
  have hD : va_D A [(h0, .inr (4, [.int 0, .int 0, .int 0, .int 0, .int 0]))] := hD
  refine lv_aload_n hx hb dX4_init_14 rfl (lv_at hl 0 rfl) ?_
  refine lv_iconst (v := nI 0) hx hb dX4_init_15 (by decide) ?_
  refine va_put (D := D) (ci := 4) (v := (.int 0)) (ty := tyX4 2) (C := RX4) (T := TX4) (N := 5) hx hb hts (by decide +kernel) tyX4 tyX4_ok nmX4 hown hK hP hD hS 0 rfl rfl 2 (by decide) (hts (.fieldLink RX4 18 "ZonedLight$Tally" "off" "I") (by decide +kernel)) (fun _ h => h) rfl (tyX4_ok 2 (by decide)) rfl rfl (Nat.le_of_ble_eq_true rfl) dX4_init_16 (fun H locs hP hD hS => ?_)
  have hP : va_P D vwCl [(h0, .inr (4, [.int 0, .int 0, .int 0, .int 0, .int 0]))] H := hP
  have hD : va_D A [(h0, .inr (4, [.int 0, .int 0, .int 0, .int 0, .int 0]))] := hD
  refine lv_aload_n hx hb dX4_init_19 rfl (lv_at hl 0 rfl) ?_
  refine lv_iconst (v := nI 0) hx hb dX4_init_20 (by decide) ?_
  refine va_put (D := D) (ci := 4) (v := (.int 0)) (ty := tyX4 3) (C := RX4) (T := TX4) (N := 5) hx hb hts (by decide +kernel) tyX4 tyX4_ok nmX4 hown hK hP hD hS 0 rfl rfl 3 (by decide) (hts (.fieldLink RX4 21 "ZonedLight$Tally" "greatestOff" "I") (by decide +kernel)) (fun _ h => h) rfl (tyX4_ok 3 (by decide)) rfl rfl (Nat.le_of_ble_eq_true rfl) dX4_init_21 (fun H locs hP hD hS => ?_)
  have hP : va_P D vwCl [(h0, .inr (4, [.int 0, .int 0, .int 0, .int 0, .int 0]))] H := hP
  have hD : va_D A [(h0, .inr (4, [.int 0, .int 0, .int 0, .int 0, .int 0]))] := hD
  refine lv_aload_n hx hb dX4_init_24 rfl (lv_at hl 0 rfl) ?_
  refine lv_iconst (v := nI 0) hx hb dX4_init_25 (by decide) ?_
  refine va_put (D := D) (ci := 4) (v := (.int 0)) (ty := tyX4 4) (C := RX4) (T := TX4) (N := 5) hx hb hts (by decide +kernel) tyX4 tyX4_ok nmX4 hown hK hP hD hS 0 rfl rfl 4 (by decide) (hts (.fieldLink RX4 24 "ZonedLight$Tally" "shown" "I") (by decide +kernel)) (fun _ h => h) rfl (tyX4_ok 4 (by decide)) rfl rfl (Nat.le_of_ble_eq_true rfl) dX4_init_26 (fun H locs hP hD hS => ?_)
  have hP : va_P D vwCl [(h0, .inr (4, [.int 0, .int 0, .int 0, .int 0, .int 0]))] H := hP
  have hD : va_D A [(h0, .inr (4, [.int 0, .int 0, .int 0, .int 0, .int 0]))] := hD
  exact W.vret hx hb hr (fun t ht hW => ⟨⟨(fun i => [].getD i 0, Y.1), rfl, trivial, va_K.moved hW.alike hK, by rw [ht]; exact hP, hD⟩, hS.F ht⟩) hS.2.2 dX4_init_29
/-- the world behind ZonedLight$Plan's constructor -/
def fX2 (Y : T3) (h0 : Nat) (u : (Nat → Nat) × ClassId) : va_W := [(h0, .inr (2, [.ref (u.1 0), .ref (u.1 1)])), (u.1 0, .inl (Y.1, 18, .inl (fun _ => 0))), (u.1 1, .inl (Y.1, 18, .inl (fun _ => 0)))]
set_option maxHeartbeats 16000000 in
set_option maxRecDepth 100000 in
theorem c_X2_init (l : Launch) (D : va_G) (Y : T3) (h0 sz : Nat) : Met l yX2_init wsX2_init { frames := 1, cells := 2, slots := 36, locals := 12 } (va_Pc [.ref h0] (cPre D Y h0 (.inr (2, [.null, .null])) sz)) (va_Qv (fun _ : (Nat → Nat) × ClassId => True) (fun u t => va_K D vwCl (kT Y) t ∧ va_P D vwCl (fX2 Y h0 u) t.heap ∧ va_D (va_A [(h0, .inr (2, [.null, .null]))] sz) (fX2 Y h0 u)) (va_A [(h0, .inr (2, [.null, .null]))] sz)) 2 36 (va_A [(h0, .inr (2, [.null, .null]))] sz) := by
  refine Met.ofW (cc := cX2_init) (maxL := 1) (ret := none) (by decide) rfl ?_
  intro p e s m args below meth c s₁ B hml hv
  obtain ⟨rfl, hsz, hEnv, hP, hD0⟩ := hv
  have hx := B.exec
  have hb := B.bytes
  have hr := B.returns
  have hts := atoms_spec (ws := wsX2_init) B.pre
  have hown : s.vm.findClass RX2 = some m.cls := findClass_of_methodNamed B.named
  have hlocks := B.notSynchronized
  have hin : meth.name = "<init>" := (name_of_methodNamed B.named B.method).1
  subst hsz
  have hD := hD0.self (sz := s.heap.size)
  generalize hAe : va_A [(h0, .inr (2, [.null, .null]))] s.heap.size = A at hEnv hD ⊢
  have hA : ∀ q : Nat, s.heap.size ≤ q → A q := fun q h => by rw [← hAe]; exact Or.inr h
  have hS : va_S A s.heap s.heap [] := va_S.rf
  have hK := hEnv.1
  have hl := lv_entry ([.ref h0]) (n := 1) (Nat.le_of_ble_eq_true rfl)
  rw [lg_entry_eq]
  generalize (lg_sl ([.ref h0]) ++ List.replicate (1 - (lg_sl ([.ref h0])).length) Slot.unset).toArray = ls at hl ⊢
  have hl : lv_has ls 1 [(0, .ref h0)] := hl
  have hP : va_P D vwCl [(h0, .inr (2, [.null, .null]))] s.heap := hP
  refine lv_aload_n hx hb dX2_init_0 rfl (lv_at hl 0 rfl) ?_
  refine W.objInit hx hb hown (hts (.methodLink RX2 3 objectInit) (by decide +kernel)) (hts (.instanceMethod objectInit) (by decide +kernel)) (hts (.code objectInit ⟨#[0xb1]⟩ 1 none) (by decide +kernel)) rfl (by rw [hml]; exact hl.1) rfl dX2_init_1 (Nat.le_of_ble_eq_true rfl) (Nat.le_of_ble_eq_true rfl) ?_
  refine W.eq (g2 := F0 m 4 ls []) rfl ?_
  refine lv_aload_n hx hb dX2_init_4 rfl (lv_at hl 0 rfl) ?_
  refine lv_bipush (v := nI 18) hx hb dX2_init_5 (by decide) ?_
  refine k_newI hx hb (hts (.arrayClass .int) (by decide +kernel)) hK 0 rfl hP hD hS hA (by decide) (Nat.le_of_ble_eq_true rfl) (Nat.le_of_ble_eq_true rfl) dX2_init_7 (fun q0 H hP hD hS => ?_)
  have hP : va_P D vwCl [(h0, .inr (2, [.null, .null])), (q0, .inl (Y.1, 18, .inl (fun _ => 0)))] H := hP
  have hD : va_D A [(h0, .inr (2, [.null, .null])), (q0, .inl (Y.1, 18, .inl (fun _ => 0)))] := hD
  refine W.widen (k := 1) (n := 18) (by omega) (by omega) ?_
  refine va_putF (D := D) (ci := 2) (v := (.ref q0)) (ty := tyX2 0) (C := RX2) (T := TX2) (N := 2) hx hb hts (by decide +kernel) tyX2 tyX2_ok nmX2 hown hK hP hD hS 0 rfl rfl 0 (by decide) (hts (.fieldLink RX2 9 "ZonedLight$Plan" "level" "[I") (by decide +kernel)) (fun _ h => h) rfl hin rfl (tyX2_ok 0 (by decide)) rfl rfl (Nat.le_of_ble_eq_true rfl) dX2_init_9 (fun H locs hP hD hS => ?_)
  have hP : va_P D vwCl [(h0, .inr (2, [.ref q0, .null])), (q0, .inl (Y.1, 18, .inl (fun _ => 0)))] H := hP
  have hD : va_D A [(h0, .inr (2, [.ref q0, .null])), (q0, .inl (Y.1, 18, .inl (fun _ => 0)))] := hD
  refine lv_aload_n hx hb dX2_init_12 rfl (lv_at hl 0 rfl) ?_
  refine lv_bipush (v := nI 18) hx hb dX2_init_13 (by decide) ?_
  refine k_newI hx hb (hts (.arrayClass .int) (by decide +kernel)) hK 0 rfl hP hD hS hA (by decide) (Nat.le_of_ble_eq_true rfl) (Nat.le_of_ble_eq_true rfl) dX2_init_15 (fun q1 H hP hD hS => ?_)
  have hP : va_P D vwCl [(h0, .inr (2, [.ref q0, .null])), (q0, .inl (Y.1, 18, .inl (fun _ => 0))), (q1, .inl (Y.1, 18, .inl (fun _ => 0)))] H := hP
  have hD : va_D A [(h0, .inr (2, [.ref q0, .null])), (q0, .inl (Y.1, 18, .inl (fun _ => 0))), (q1, .inl (Y.1, 18, .inl (fun _ => 0)))] := hD
  refine W.widen (k := 2) (n := 36) (by omega) (by omega) ?_
  refine va_putF (D := D) (ci := 2) (v := (.ref q1)) (ty := tyX2 1) (C := RX2) (T := TX2) (N := 2) hx hb hts (by decide +kernel) tyX2 tyX2_ok nmX2 hown hK hP hD hS 0 rfl rfl 1 (by decide) (hts (.fieldLink RX2 15 "ZonedLight$Plan" "peak" "[I") (by decide +kernel)) (fun _ h => h) rfl hin rfl (tyX2_ok 1 (by decide)) rfl rfl (Nat.le_of_ble_eq_true rfl) dX2_init_17 (fun H locs hP hD hS => ?_)
  have hP : va_P D vwCl [(h0, .inr (2, [.ref q0, .ref q1])), (q0, .inl (Y.1, 18, .inl (fun _ => 0))), (q1, .inl (Y.1, 18, .inl (fun _ => 0)))] H := hP
  have hD : va_D A [(h0, .inr (2, [.ref q0, .ref q1])), (q0, .inl (Y.1, 18, .inl (fun _ => 0))), (q1, .inl (Y.1, 18, .inl (fun _ => 0)))] := hD
  exact W.vret hx hb hr (fun t ht hW => ⟨⟨(fun i => [q0, q1].getD i 0, Y.1), rfl, trivial, va_K.moved hW.alike hK, by rw [ht]; exact hP, hD⟩, hS.F ht⟩) hS.2.2 dX2_init_20
/-- the world behind ZonedLight$PictureText's constructor -/
def fX1 (Y : T3) (h0 : Nat) (u : (Nat → Nat) × ClassId) : va_W := [(h0, .inr (1, [.ref (u.1 0), .int 0, .ref (u.1 1), .int 0])), (u.1 0, .inl (Y.2.1, 60, .inl (fun _ => 0))), (u.1 1, .inl (Y.1, 30, .inl (fun _ => 0)))]
set_option maxHeartbeats 16000000 in
set_option maxRecDepth 100000 in
theorem c_X1_init (l : Launch) (D : va_G) (Y : T3) (h0 sz : Nat) : Met l yX1_init wsX1_init { frames := 1, cells := 2, slots := 90, locals := 12 } (va_Pc [.ref h0] (cPre D Y h0 (.inr (1, [.null, .int 0, .null, .int 0])) sz)) (va_Qv (fun _ : (Nat → Nat) × ClassId => True) (fun u t => va_K D vwCl (kT Y) t ∧ va_P D vwCl (fX1 Y h0 u) t.heap ∧ va_D (va_A [(h0, .inr (1, [.null, .int 0, .null, .int 0]))] sz) (fX1 Y h0 u)) (va_A [(h0, .inr (1, [.null, .int 0, .null, .int 0]))] sz)) 2 90 (va_A [(h0, .inr (1, [.null, .int 0, .null, .int 0]))] sz) := by
  refine Met.ofW (cc := cX1_init) (maxL := 1) (ret := none) (by decide) rfl ?_
  intro p e s m args below meth c s₁ B hml hv
  obtain ⟨rfl, hsz, hEnv, hP, hD0⟩ := hv
  have hx := B.exec
  have hb := B.bytes
  have hr := B.returns
  have hts := atoms_spec (ws := wsX1_init) B.pre
  have hown : s.vm.findClass RX1 = some m.cls := findClass_of_methodNamed B.named
  have hlocks := B.notSynchronized
  have hin : meth.name = "<init>" := (name_of_methodNamed B.named B.method).1
  subst hsz
  have hD := hD0.self (sz := s.heap.size)
  generalize hAe : va_A [(h0, .inr (1, [.null, .int 0, .null, .int 0]))] s.heap.size = A at hEnv hD ⊢
  have hA : ∀ q : Nat, s.heap.size ≤ q → A q := fun q h => by rw [← hAe]; exact Or.inr h
  have hS : va_S A s.heap s.heap [] := va_S.rf
  have hK := hEnv.1
  have hl := lv_entry ([.ref h0]) (n := 1) (Nat.le_of_ble_eq_true rfl)
  rw [lg_entry_eq]
  generalize (lg_sl ([.ref h0]) ++ List.replicate (1 - (lg_sl ([.ref h0])).length) Slot.unset).toArray = ls at hl ⊢
  have hl : lv_has ls 1 [(0, .ref h0)] := hl
  have hP : va_P D vwCl [(h0, .inr (1, [.null, .int 0, .null, .int 0]))] s.heap := hP
  refine lv_aload_n hx hb dX1_init_0 rfl (lv_at hl 0 rfl) ?_
  refine W.objInit hx hb hown (hts (.methodLink RX1 5 objectInit) (by decide +kernel)) (hts (.instanceMethod objectInit) (by decide +kernel)) (hts (.code objectInit ⟨#[0xb1]⟩ 1 none) (by decide +kernel)) rfl (by rw [hml]; exact hl.1) rfl dX1_init_1 (Nat.le_of_ble_eq_true rfl) (Nat.le_of_ble_eq_true rfl) ?_
  refine W.eq (g2 := F0 m 4 ls []) rfl ?_
  refine lv_aload_n hx hb dX1_init_4 rfl (lv_at hl 0 rfl) ?_
  refine lv_bipush (v := nI 60) hx hb dX1_init_5 (by decide) ?_
  refine k_newC hx hb (hts (.arrayClass .char) (by decide +kernel)) hK 1 rfl hP hD hS hA (by decide) (Nat.le_of_ble_eq_true rfl) (Nat.le_of_ble_eq_true rfl) dX1_init_7 (fun q0 H hP hD hS => ?_)
  have hP : va_P D vwCl [(h0, .inr (1, [.null, .int 0, .null, .int 0])), (q0, .inl (Y.2.1, 60, .inl (fun _ => 0)))] H := hP
  have hD : va_D A [(h0, .inr (1, [.null, .int 0, .null, .int 0])), (q0, .inl (Y.2.1, 60, .inl (fun _ => 0)))] := hD
  refine W.widen (k := 1) (n := 60) (by omega) (by omega) ?_
  refine va_putF (D := D) (ci := 1) (v := (.ref q0)) (ty := tyX1 0) (C := RX1) (T := TX1) (N := 4) hx hb hts (by decide +kernel) tyX1 tyX1_ok nmX1 hown hK hP hD hS 0 rfl rfl 0 (by decide) (hts (.fieldLink RX1 11 "ZonedLight$PictureText" "characters" "[C") (by decide +kernel)) (fun _ h => h) rfl hin rfl (tyX1_ok 0 (by decide)) rfl rfl (Nat.le_of_ble_eq_true rfl) dX1_init_9 (fun H locs hP hD hS => ?_)
  have hP : va_P D vwCl [(h0, .inr (1, [.ref q0, .int 0, .null, .int 0])), (q0, .inl (Y.2.1, 60, .inl (fun _ => 0)))] H := hP
  have hD : va_D A [(h0, .inr (1, [.ref q0, .int 0, .null, .int 0])), (q0, .inl (Y.2.1, 60, .inl (fun _ => 0)))] := hD
  refine lv_aload_n hx hb dX1_init_12 rfl (lv_at hl 0 rfl) ?_
  refine lv_iconst (v := nI 0) hx hb dX1_init_13 (by decide) ?_
  refine va_put (D := D) (ci := 1) (v := (.int 0)) (ty := tyX1 1) (C := RX1) (T := TX1) (N := 4) hx hb hts (by decide +kernel) tyX1 tyX1_ok nmX1 hown hK hP hD hS 0 rfl rfl 1 (by decide) (hts (.fieldLink RX1 15 "ZonedLight$PictureText" "length" "I") (by decide +kernel)) (fun _ h => h) rfl (tyX1_ok 1 (by decide)) rfl rfl (Nat.le_of_ble_eq_true rfl) dX1_init_14 (fun H locs hP hD hS => ?_)
  have hP : va_P D vwCl [(h0, .inr (1, [.ref q0, .int 0, .null, .int 0])), (q0, .inl (Y.2.1, 60, .inl (fun _ => 0)))] H := hP
  have hD : va_D A [(h0, .inr (1, [.ref q0, .int 0, .null, .int 0])), (q0, .inl (Y.2.1, 60, .inl (fun _ => 0)))] := hD
  refine lv_aload_n hx hb dX1_init_17 rfl (lv_at hl 0 rfl) ?_
  refine lv_bipush (v := nI 30) hx hb dX1_init_18 (by decide) ?_
  refine k_newI hx hb (hts (.arrayClass .int) (by decide +kernel)) hK 0 rfl hP hD hS hA (by decide) (Nat.le_of_ble_eq_true rfl) (Nat.le_of_ble_eq_true rfl) dX1_init_20 (fun q1 H hP hD hS => ?_)
  have hP : va_P D vwCl [(h0, .inr (1, [.ref q0, .int 0, .null, .int 0])), (q0, .inl (Y.2.1, 60, .inl (fun _ => 0))), (q1, .inl (Y.1, 30, .inl (fun _ => 0)))] H := hP
  have hD : va_D A [(h0, .inr (1, [.ref q0, .int 0, .null, .int 0])), (q0, .inl (Y.2.1, 60, .inl (fun _ => 0))), (q1, .inl (Y.1, 30, .inl (fun _ => 0)))] := hD
  refine W.widen (k := 2) (n := 90) (by omega) (by omega) ?_
  refine va_putF (D := D) (ci := 1) (v := (.ref q1)) (ty := tyX1 2) (C := RX1) (T := TX1) (N := 4) hx hb hts (by decide +kernel) tyX1 tyX1_ok nmX1 hown hK hP hD hS 0 rfl rfl 2 (by decide) (hts (.fieldLink RX1 19 "ZonedLight$PictureText" "numbers" "[I") (by decide +kernel)) (fun _ h => h) rfl hin rfl (tyX1_ok 2 (by decide)) rfl rfl (Nat.le_of_ble_eq_true rfl) dX1_init_22 (fun H locs hP hD hS => ?_)
  have hP : va_P D vwCl [(h0, .inr (1, [.ref q0, .int 0, .ref q1, .int 0])), (q0, .inl (Y.2.1, 60, .inl (fun _ => 0))), (q1, .inl (Y.1, 30, .inl (fun _ => 0)))] H := hP
  have hD : va_D A [(h0, .inr (1, [.ref q0, .int 0, .ref q1, .int 0])), (q0, .inl (Y.2.1, 60, .inl (fun _ => 0))), (q1, .inl (Y.1, 30, .inl (fun _ => 0)))] := hD
  refine lv_aload_n hx hb dX1_init_25 rfl (lv_at hl 0 rfl) ?_
  refine lv_iconst (v := nI 0) hx hb dX1_init_26 (by decide) ?_
  refine va_put (D := D) (ci := 1) (v := (.int 0)) (ty := tyX1 3) (C := RX1) (T := TX1) (N := 4) hx hb hts (by decide +kernel) tyX1 tyX1_ok nmX1 hown hK hP hD hS 0 rfl rfl 3 (by decide) (hts (.fieldLink RX1 23 "ZonedLight$PictureText" "numbersRead" "I") (by decide +kernel)) (fun _ h => h) rfl (tyX1_ok 3 (by decide)) rfl rfl (Nat.le_of_ble_eq_true rfl) dX1_init_27 (fun H locs hP hD hS => ?_)
  have hP : va_P D vwCl [(h0, .inr (1, [.ref q0, .int 0, .ref q1, .int 0])), (q0, .inl (Y.2.1, 60, .inl (fun _ => 0))), (q1, .inl (Y.1, 30, .inl (fun _ => 0)))] H := hP
  have hD : va_D A [(h0, .inr (1, [.ref q0, .int 0, .ref q1, .int 0])), (q0, .inl (Y.2.1, 60, .inl (fun _ => 0))), (q1, .inl (Y.1, 30, .inl (fun _ => 0)))] := hD
  exact W.vret hx hb hr (fun t ht hW => ⟨⟨(fun i => [q0, q1].getD i 0, Y.1), rfl, trivial, va_K.moved hW.alike hK, by rw [ht]; exact hP, hD⟩, hS.F ht⟩) hS.2.2 dX1_init_30
/-- the world behind ZonedLight$History's constructor -/
def fX0 (Y : T3) (h0 : Nat) (u : (Nat → Nat) × ClassId) : va_W := [(h0, .inr (0, [.ref (u.1 0), .int 0, .int 0])), (u.1 0, .inl (u.2, 4, .inr (.inr (.inr (.inr (va_up (va_up (va_up (va_up (fun _ => none) 0 (some (u.1 1))) 1 (some (u.1 6))) 2 (some (u.1 11))) 3 (some (u.1 16)))))))), (u.1 1, .inr (3, [.ref (u.1 2), .ref (u.1 3), .ref (u.1 4), .ref (u.1 5), .int 0, .int 0, .int 0])), (u.1 2, .inl (Y.1, 288, .inl (fun _ => 0))), (u.1 3, .inl (Y.1, 18, .inl (fun _ => 0))), (u.1 4, .inl (Y.2.2, 18, .inl (fun _ => 0))), (u.1 5, .inl (Y.1, 8, .inl fstF)), (u.1 6, .inr (3, [.ref (u.1 7), .ref (u.1 8), .ref (u.1 9), .ref (u.1 10), .int 0, .int 0, .int 0])), (u.1 7, .inl (Y.1, 288, .inl (fun _ => 0))), (u.1 8, .inl (Y.1, 18, .inl (fun _ => 0))), (u.1 9, .inl (Y.2.2, 18, .inl (fun _ => 0))), (u.1 10, .inl (Y.1, 8, .inl fstF)), (u.1 11, .inr (3, [.ref (u.1 12), .ref (u.1 13), .ref (u.1 14), .ref (u.1 15), .int 0, .int 0, .int 0])), (u.1 12, .inl (Y.1, 288, .inl (fun _ => 0))), (u.1 13, .inl (Y.1, 18, .inl (fun _ => 0))), (u.1 14, .inl (Y.2.2, 18, .inl (fun _ => 0))), (u.1 15, .inl (Y.1, 8, .inl fstF)), (u.1 16, .inr (3, [.ref (u.1 17), .ref (u.1 18), .ref (u.1 19), .ref (u.1 20), .int 0, .int 0, .int 0])), (u.1 17, .inl (Y.1, 288, .inl (fun _ => 0))), (u.1 18, .inl (Y.1, 18, .inl (fun _ => 0))), (u.1 19, .inl (Y.2.2, 18, .inl (fun _ => 0))), (u.1 20, .inl (Y.1, 8, .inl fstF))]
set_option maxHeartbeats 16000000 in
set_option maxRecDepth 100000 in
theorem c_X0_init (l : Launch) (D : va_G) (Y : T3) (h0 sz : Nat) : Met l yX0_init wsX0_init { frames := 2, cells := 21, slots := 1360, locals := 46 } (va_Pc [.ref h0] (cPre D Y h0 (.inr (0, [.null, .int 0, .int 0])) sz)) (va_Qv (fun _ : (Nat → Nat) × ClassId => True) (fun u t => va_K D vwCl (kT Y ++ [(u.2, .object RX3)]) t ∧ va_P D vwCl (fX0 Y h0 u) t.heap ∧ va_D (va_A [(h0, .inr (0, [.null, .int 0, .int 0]))] sz) (fX0 Y h0 u)) (va_A [(h0, .inr (0, [.null, .int 0, .int 0]))] sz)) 21 1360 (va_A [(h0, .inr (0, [.null, .int 0, .int 0]))] sz) := by
  refine Met.ofW (cc := cX0_init) (maxL := 2) (ret := none) (by decide) rfl ?_
  intro p e s m args below meth c s₁ B hml hv
  obtain ⟨rfl, hsz, hEnv, hP, hD0⟩ := hv
  have hx := B.exec
  have hb := B.bytes
  have hr := B.returns
  have hts := atoms_spec (ws := wsX0_init) B.pre
  have hown : s.vm.findClass RX0 = some m.cls := findClass_of_methodNamed B.named
  have hlocks := B.notSynchronized
  have hin : meth.name = "<init>" := (name_of_methodNamed B.named B.method).1
  subst hsz
  have hD := hD0.self (sz := s.heap.size)
  generalize hAe : va_A [(h0, .inr (0, [.null, .int 0, .int 0]))] s.heap.size = A at hEnv hD ⊢
  have hA : ∀ q : Nat, s.heap.size ≤ q → A q := fun q h => by rw [← hAe]; exact Or.inr h
  have hS : va_S A s.heap s.heap [] := va_S.rf
  have hK := hEnv.1
  have hl := lv_entry ([.ref h0]) (n := 2) (Nat.le_of_ble_eq_true rfl)
  rw [lg_entry_eq]
  generalize (lg_sl ([.ref h0]) ++ List.replicate (2 - (lg_sl ([.ref h0])).length) Slot.unset).toArray = ls at hl ⊢
  have hl : lv_has ls 2 [(0, .ref h0)] := hl
  have hP : va_P D vwCl [(h0, .inr (0, [.null, .int 0, .int 0]))] s.heap := hP
  refine lv_aload_n hx hb dX0_init_0 rfl (lv_at hl 0 rfl) ?_
  refine W.objInit hx hb hown (hts (.methodLink RX0 1 objectInit) (by decide +kernel)) (hts (.instanceMethod objectInit) (by decide +kernel)) (hts (.code objectInit ⟨#[0xb1]⟩ 1 none) (by decide +kernel)) rfl (by rw [hml]; exact hl.1) rfl dX0_init_1 (Nat.le_of_ble_eq_true rfl) (Nat.le_of_ble_eq_true rfl) ?_
  refine W.eq (g2 := F0 m 4 ls []) rfl ?_
  refine lv_aload_n hx hb dX0_init_4 rfl (lv_at hl 0 rfl) ?_
  refine lv_iconst (v := nI 4) hx hb dX0_init_5 (by decide) ?_
  refine va_newq (C := RX3) hx hb hown (hts (.classLink RX0 9 RX3) (by decide +kernel)) hEnv.2.2.1 hK hP hD hS hA (N' := 4) (by decide) (nI_clamp (by decide)) (by decide) (Nat.le_of_ble_eq_true rfl) (Nat.le_of_ble_eq_true rfl) dX0_init_6 (fun q0 cQ H hK hP hD hS => ?_)
  have hP : va_P D vwCl [(h0, .inr (0, [.null, .int 0, .int 0])), (q0, .inl (cQ, 4, .inr (.inr (.inr (.inr (fun _ => none))))))] H := hP
  have hD : va_D A [(h0, .inr (0, [.null, .int 0, .int 0])), (q0, .inl (cQ, 4, .inr (.inr (.inr (.inr (fun _ => none))))))] := hD
  refine W.widen (k := 1) (n := 4) (by omega) (by omega) ?_
  refine va_putF (D := D) (ci := 0) (v := (.ref q0)) (ty := tyX0 0) (C := RX0) (T := TX0) (N := 3) hx hb hts (by decide +kernel) tyX0 tyX0_ok nmX0 hown hK hP hD hS 0 rfl rfl 0 (by decide) (hts (.fieldLink RX0 11 "ZonedLight$History" "ring" "[LZonedLight$Screen;") (by decide +kernel)) (fun _ h => h) rfl hin rfl (tyX0_ok 0 (by decide)) rfl rfl (Nat.le_of_ble_eq_true rfl) dX0_init_9 (fun H locs hP hD hS => ?_)
  have hP : va_P D vwCl [(h0, .inr (0, [.ref q0, .int 0, .int 0])), (q0, .inl (cQ, 4, .inr (.inr (.inr (.inr (fun _ => none))))))] H := hP
  have hD : va_D A [(h0, .inr (0, [.ref q0, .int 0, .int 0])), (q0, .inl (cQ, 4, .inr (.inr (.inr (.inr (fun _ => none))))))] := hD
  refine lv_aload_n hx hb dX0_init_12 rfl (lv_at hl 0 rfl) ?_
  refine lv_iconst (v := nI 0) hx hb dX0_init_13 (by decide) ?_
  refine va_put (D := D) (ci := 0) (v := (.int 0)) (ty := tyX0 1) (C := RX0) (T := TX0) (N := 3) hx hb hts (by decide +kernel) tyX0 tyX0_ok nmX0 hown hK hP hD hS 0 rfl rfl 1 (by decide) (hts (.fieldLink RX0 15 "ZonedLight$History" "oldest" "I") (by decide +kernel)) (fun _ h => h) rfl (tyX0_ok 1 (by decide)) rfl rfl (Nat.le_of_ble_eq_true rfl) dX0_init_14 (fun H locs hP hD hS => ?_)
  have hP : va_P D vwCl [(h0, .inr (0, [.ref q0, .int 0, .int 0])), (q0, .inl (cQ, 4, .inr (.inr (.inr (.inr (fun _ => none))))))] H := hP
  have hD : va_D A [(h0, .inr (0, [.ref q0, .int 0, .int 0])), (q0, .inl (cQ, 4, .inr (.inr (.inr (.inr (fun _ => none))))))] := hD
  refine lv_aload_n hx hb dX0_init_17 rfl (lv_at hl 0 rfl) ?_
  refine lv_iconst (v := nI 0) hx hb dX0_init_18 (by decide) ?_
  refine va_put (D := D) (ci := 0) (v := (.int 0)) (ty := tyX0 2) (C := RX0) (T := TX0) (N := 3) hx hb hts (by decide +kernel) tyX0 tyX0_ok nmX0 hown hK hP hD hS 0 rfl rfl 2 (by decide) (hts (.fieldLink RX0 19 "ZonedLight$History" "size" "I") (by decide +kernel)) (fun _ h => h) rfl (tyX0_ok 2 (by decide)) rfl rfl (Nat.le_of_ble_eq_true rfl) dX0_init_19 (fun H locs hP hD hS => ?_)
  have hP : va_P D vwCl [(h0, .inr (0, [.ref q0, .int 0, .int 0])), (q0, .inl (cQ, 4, .inr (.inr (.inr (.inr (fun _ => none))))))] H := hP
  have hD : va_D A [(h0, .inr (0, [.ref q0, .int 0, .int 0])), (q0, .inl (cQ, 4, .inr (.inr (.inr (.inr (fun _ => none))))))] := hD
  refine lv_iconst (v := nI 0) hx hb dX0_init_22 (by decide) ?_
  refine lv_istore_n (lv' := [(1, .int (nI 0)), (0, .ref h0)]) hx hb dX0_init_23 rfl hl (by decide) rfl (fun ls hl => ?_)
  refine lv_iload_n hx hb dX0_init_24 rfl (lv_at hl 0 rfl) ?_
  refine lv_iconst (v := nI 4) hx hb dX0_init_25 (by decide) ?_
  refine n_cmp_ge (tgt := 48) hx hb dX0_init_26 (by decide) (by decide) (by decide) (fun g => absurd g (by decide)) (fun _ => ?_)
  refine lv_aload_n hx hb dX0_init_29 rfl (lv_at hl 1 rfl) ?_
  refine va_get (ci := 0) (C := RX0) (T := TX0) (N := 3) hx hb hts (by decide +kernel) hown hK hP 0 rfl rfl 0 (by decide) (hts (.fieldLink RX0 11 "ZonedLight$History" "ring" "[LZonedLight$Screen;") (by decide +kernel)) (fun _ h => h) rfl dX0_init_30 ?_
  refine lv_iload_n hx hb dX0_init_33 rfl (lv_at hl 0 rfl) ?_
  refine va_new (ci := 3) (fs := [.null, .null, .null, .null, .int 0, .int 0, .int 0]) (C := RX3) (T := TX3) (N := 7) hx hb hts (by decide +kernel) tyX3 tyX3_ok hown (hts (.classLink RX0 9 RX3) (by decide +kernel)) (hts (.instantiable RX3 7) (by decide +kernel)) (hts (.initialized RX3) (by decide +kernel)) hK hP hD hS hA rfl (fun j hj => by rcases (show j = 0 ∨ j = 1 ∨ j = 2 ∨ j = 3 ∨ j = 4 ∨ j = 5 ∨ j = 6 by omega) with rfl | rfl | rfl | rfl | rfl | rfl | rfl <;> rfl) (Nat.le_of_ble_eq_true rfl) (Nat.le_of_ble_eq_true rfl) dX0_init_34 (fun q1 H hP hD hS => ?_)
  have hP : va_P D vwCl [(h0, .inr (0, [.ref q0, .int 0, .int 0])), (q0, .inl (cQ, 4, .inr (.inr (.inr (.inr (fun _ => none)))))), (q1, .inr (3, [.null, .null, .null, .null, .int 0, .int 0, .int 0]))] H := hP
  have hD : va_D A [(h0, .inr (0, [.ref q0, .int 0, .int 0])), (q0, .inl (cQ, 4, .inr (.inr (.inr (.inr (fun _ => none)))))), (q1, .inr (3, [.null, .null, .null, .null, .int 0, .int 0, .int 0]))] := hD
  refine W.widen (k := 2) (n := 11) (by omega) (by omega) ?_
  refine lv_dup hx hb dX0_init_37 rfl ?_
  have hPc := hP.sub (ws' := [(q1, .inr (3, [.null, .null, .null, .null, .int 0, .int 0, .int 0]))]) [2] rfl
  have hDc := hD.sub (ws' := [(q1, .inr (3, [.null, .null, .null, .null, .int 0, .int 0, .int 0]))]) [2] (by decide) rfl
  have hFc := va_free (wc := [(q1, .inr (3, [.null, .null, .null, .null, .int 0, .int 0, .int 0]))]) hD hS hA [2] rfl
  refine va_callv (va_runI (As := []) (rest := [.ref q1, .int (nI 0), .ref q0]) ⟨hx, hb, hml, hown, hts⟩ (c_X3_init l D Y q1 H.size) (cwI 0 hts gX0_init_X3_init rfl rfl rfl (hts (.initialized RX3) (by decide +kernel)) (hts (.methodLink RX0 22 yX3_init) (by decide +kernel)) (hts (.instanceMethod yX3_init) (by decide +kernel)) rfl (by decide +kernel) ⟨(Nat.le_of_ble_eq_true rfl), (Nat.le_of_ble_eq_true rfl)⟩) ⟨fun a U g mk q => by obtain ⟨q0, q1, q2, q3, q4⟩ := q; exact ⟨q0, q1, q2.call, q3, q4⟩, fun U hU hW => ⟨rfl, by rw [hU], by rw [hU]; exact hEnv.go hS hFc hW, by rw [hU]; exact hPc, hDc.weaken (fun _ _ _ _ => trivial)⟩⟩ rfl rfl hl.1 rfl (lv_room (Nat.le_of_ble_eq_true rfl)) dX0_init_38 ⟨(Nat.le_of_ble_eq_true rfl), (Nat.le_of_ble_eq_true rfl)⟩) hS (fun q _ h => hFc q h) hFc (fun v_2 t H1 locs ht hvm hw hB hz1 hk1 hS => ?_)
  obtain ⟨hK1, hP1, hD1⟩ := hB
  rw [ht] at hP1
  obtain ⟨hP, hD⟩ := va_join (wr := [(h0, .inr (0, [.ref q0, .int 0, .int 0])), (q0, .inl (cQ, 4, .inr (.inr (.inr (.inr (fun _ => none))))))]) (w1 := [(q1, .inr (3, [.ref (v_2.1 0), .ref (v_2.1 1), .ref (v_2.1 2), .ref (v_2.1 3), .int 0, .int 0, .int 0])), ((v_2.1 0), .inl (Y.1, 288, .inl (fun _ => 0))), ((v_2.1 1), .inl (Y.1, 18, .inl (fun _ => 0))), ((v_2.1 2), .inl (Y.2.2, 18, .inl (fun _ => 0))), ((v_2.1 3), .inl (Y.1, 8, .inl fstF))]) hP hD [2] [0, 1] rfl rfl (by decide) (by decide) hk1 hFc hP1 hD1
  generalize H1 = H at hP hS ⊢
  have hP : va_P D vwCl [(h0, .inr (0, [.ref q0, .int 0, .int 0])), (q0, .inl (cQ, 4, .inr (.inr (.inr (.inr (fun _ => none)))))), (q1, .inr (3, [.ref (v_2.1 0), .ref (v_2.1 1), .ref (v_2.1 2), .ref (v_2.1 3), .int 0, .int 0, .int 0])), ((v_2.1 0), .inl (Y.1, 288, .inl (fun _ => 0))), ((v_2.1 1), .inl (Y.1, 18, .inl (fun _ => 0))), ((v_2.1 2), .inl (Y.2.2, 18, .inl (fun _ => 0))), ((v_2.1 3), .inl (Y.1, 8, .inl fstF))] H := hP
  have hD : va_D A [(h0, .inr (0, [.ref q0, .int 0, .int 0])), (q0, .inl (cQ, 4, .inr (.inr (.inr (.inr (fun _ => none)))))), (q1, .inr (3, [.ref (v_2.1 0), .ref (v_2.1 1), .ref (v_2.1 2), .ref (v_2.1 3), .int 0, .int 0, .int 0])), ((v_2.1 0), .inl (Y.1, 288, .inl (fun _ => 0))), ((v_2.1 1), .inl (Y.1, 18, .inl (fun _ => 0))), ((v_2.1 2), .inl (Y.2.2, 18, .inl (fun _ => 0))), ((v_2.1 3), .inl (Y.1, 8, .inl fstF))] := hD
  refine W.widen (k := 6) (n := 343) (by omega) (by omega) ?_
  refine va_astq hx hb hK hP hD hS 1 3 2 3 rfl rfl rfl rfl (vp_in_nI (show 0 < 4 by decide) (by decide)) dX0_init_41 (fun H locs hP hD hS => ?_)
  rw [nI_clamp (show 0 < 2 ^ 31 by decide)] at hP hD
  have hP : va_P D vwCl [(h0, .inr (0, [.ref q0, .int 0, .int 0])), (q0, .inl (cQ, 4, .inr (.inr (.inr (.inr (va_up (fun _ => none) 0 (some q1))))))), (q1, .inr (3, [.ref (v_2.1 0), .ref (v_2.1 1), .ref (v_2.1 2), .ref (v_2.1 3), .int 0, .int 0, .int 0])), ((v_2.1 0), .inl (Y.1, 288, .inl (fun _ => 0))), ((v_2.1 1), .inl (Y.1, 18, .inl (fun _ => 0))), ((v_2.1 2), .inl (Y.2.2, 18, .inl (fun _ => 0))), ((v_2.1 3), .inl (Y.1, 8, .inl fstF))] H := hP
  have hD : va_D A [(h0, .inr (0, [.ref q0, .int 0, .int 0])), (q0, .inl (cQ, 4, .inr (.inr (.inr (.inr (va_up (fun _ => none) 0 (some q1))))))), (q1, .inr (3, [.ref (v_2.1 0), .ref (v_2.1 1), .ref (v_2.1 2), .ref (v_2.1 3), .int 0, .int 0, .int 0])), ((v_2.1 0), .inl (Y.1, 288, .inl (fun _ => 0))), ((v_2.1 1), .inl (Y.1, 18, .inl (fun _ => 0))), ((v_2.1 2), .inl (Y.2.2, 18, .inl (fun _ => 0))), ((v_2.1 3), .inl (Y.1, 8, .inl fstF))] := hD
  refine lv_iinc (v := nI 1) (lv' := [(1, .int (nI 1)), (0, .ref h0)]) hx hb dX0_init_42 hl (k := 0) rfl (by decide) (by decide) rfl (fun ls hl => ?_)
  refine lv_goto (tgt := 24) hx hb dX0_init_45 (by decide) ?_
  refine lv_iload_n hx hb dX0_init_24 rfl (lv_at hl 0 rfl) ?_
  refine lv_iconst (v := nI 4) hx hb dX0_init_25 (by decide) ?_
  refine n_cmp_ge (tgt := 48) hx hb dX0_init_26 (by decide) (by decide) (by decide) (fun g => absurd g (by decide)) (fun _ => ?_)
  refine lv_aload_n hx hb dX0_init_29 rfl (lv_at hl 1 rfl) ?_
  refine va_get (ci := 0) (C := RX0) (T := TX0) (N := 3) hx hb hts (by decide +kernel) hown hK hP 0 rfl rfl 0 (by decide) (hts (.fieldLink RX0 11 "ZonedLight$History" "ring" "[LZonedLight$Screen;") (by decide +kernel)) (fun _ h => h) rfl dX0_init_30 ?_
  refine lv_iload_n hx hb dX0_init_33 rfl (lv_at hl 0 rfl) ?_
  refine va_new (ci := 3) (fs := [.null, .null, .null, .null, .int 0, .int 0, .int 0]) (C := RX3) (T := TX3) (N := 7) hx hb hts (by decide +kernel) tyX3 tyX3_ok hown (hts (.classLink RX0 9 RX3) (by decide +kernel)) (hts (.instantiable RX3 7) (by decide +kernel)) (hts (.initialized RX3) (by decide +kernel)) hK hP hD hS hA rfl (fun j hj => by rcases (show j = 0 ∨ j = 1 ∨ j = 2 ∨ j = 3 ∨ j = 4 ∨ j = 5 ∨ j = 6 by omega) with rfl | rfl | rfl | rfl | rfl | rfl | rfl <;> rfl) (Nat.le_of_ble_eq_true rfl) (Nat.le_of_ble_eq_true rfl) dX0_init_34 (fun q3 H hP hD hS => ?_)
  have hP : va_P D vwCl [(h0, .inr (0, [.ref q0, .int 0, .int 0])), (q0, .inl (cQ, 4, .inr (.inr (.inr (.inr (va_up (fun _ => none) 0 (some q1))))))), (q1, .inr (3, [.ref (v_2.1 0), .ref (v_2.1 1), .ref (v_2.1 2), .ref (v_2.1 3), .int 0, .int 0, .int 0])), ((v_2.1 0), .inl (Y.1, 288, .inl (fun _ => 0))), ((v_2.1 1), .inl (Y.1, 18, .inl (fun _ => 0))), ((v_2.1 2), .inl (Y.2.2, 18, .inl (fun _ => 0))), ((v_2.1 3), .inl (Y.1, 8, .inl fstF)), (q3, .inr (3, [.null, .null, .null, .null, .int 0, .int 0, .int 0]))] H := hP
  have hD : va_D A [(h0, .inr (0, [.ref q0, .int 0, .int 0])), (q0, .inl (cQ, 4, .inr (.inr (.inr (.inr (va_up (fun _ => none) 0 (some q1))))))), (q1, .inr (3, [.ref (v_2.1 0), .ref (v_2.1 1), .ref (v_2.1 2), .ref (v_2.1 3), .int 0, .int 0, .int 0])), ((v_2.1 0), .inl (Y.1, 288, .inl (fun _ => 0))), ((v_2.1 1), .inl (Y.1, 18, .inl (fun _ => 0))), ((v_2.1 2), .inl (Y.2.2, 18, .inl (fun _ => 0))), ((v_2.1 3), .inl (Y.1, 8, .inl fstF)), (q3, .inr (3, [.null, .null, .null, .null, .int 0, .int 0, .int 0]))] := hD
  refine W.widen (k := 7) (n := 350) (by omega) (by omega) ?_
  refine lv_dup hx hb dX0_init_37 rfl ?_
  have hPc := hP.sub (ws' := [(q3, .inr (3, [.null, .null, .null, .null, .int 0, .int 0, .int 0]))]) [7] rfl
  have hDc := hD.sub (ws' := [(q3, .inr (3, [.null, .null, .null, .null, .int 0, .int 0, .int 0]))]) [7] (by decide) rfl
  have hFc := va_free (wc := [(q3, .inr (3, [.null, .null, .null, .null, .int 0, .int 0, .int 0]))]) hD hS hA [7] rfl
  refine va_callv (va_runI (As := []) (rest := [.ref q3, .int (nI 1), .ref q0]) ⟨hx, hb, hml, hown, hts⟩ (c_X3_init l D Y q3 H.size) (cwI 0 hts gX0_init_X3_init rfl rfl rfl (hts (.initialized RX3) (by decide +kernel)) (hts (.methodLink RX0 22 yX3_init) (by decide +kernel)) (hts (.instanceMethod yX3_init) (by decide +kernel)) rfl (by decide +kernel) ⟨(Nat.le_of_ble_eq_true rfl), (Nat.le_of_ble_eq_true rfl)⟩) ⟨fun a U g mk q => by obtain ⟨q0, q1, q2, q3, q4⟩ := q; exact ⟨q0, q1, q2.call, q3, q4⟩, fun U hU hW => ⟨rfl, by rw [hU], by rw [hU]; exact hEnv.go hS hFc hW, by rw [hU]; exact hPc, hDc.weaken (fun _ _ _ _ => trivial)⟩⟩ rfl rfl hl.1 rfl (lv_room (Nat.le_of_ble_eq_true rfl)) dX0_init_38 ⟨(Nat.le_of_ble_eq_true rfl), (Nat.le_of_ble_eq_true rfl)⟩) hS (fun q _ h => hFc q h) hFc (fun v_4 t H1 locs ht hvm hw hB hz1 hk1 hS => ?_)
  obtain ⟨hK1, hP1, hD1⟩ := hB
  rw [ht] at hP1
  obtain ⟨hP, hD⟩ := va_join (wr := [(h0, .inr (0, [.ref q0, .int 0, .int 0])), (q0, .inl (cQ, 4, .inr (.inr (.inr (.inr (va_up (fun _ => none) 0 (some q1))))))), (q1, .inr (3, [.ref (v_2.1 0), .ref (v_2.1 1), .ref (v_2.1 2), .ref (v_2.1 3), .int 0, .int 0, .int 0])), ((v_2.1 0), .inl (Y.1, 288, .inl (fun _ => 0))), ((v_2.1 1), .inl (Y.1, 18, .inl (fun _ => 0))), ((v_2.1 2), .inl (Y.2.2, 18, .inl (fun _ => 0))), ((v_2.1 3), .inl (Y.1, 8, .inl fstF))]) (w1 := [(q3, .inr (3, [.ref (v_4.1 0), .ref (v_4.1 1), .ref (v_4.1 2), .ref (v_4.1 3), .int 0, .int 0, .int 0])), ((v_4.1 0), .inl (Y.1, 288, .inl (fun _ => 0))), ((v_4.1 1), .inl (Y.1, 18, .inl (fun _ => 0))), ((v_4.1 2), .inl (Y.2.2, 18, .inl (fun _ => 0))), ((v_4.1 3), .inl (Y.1, 8, .inl fstF))]) hP hD [7] [0, 1, 2, 3, 4, 5, 6] rfl rfl (by decide) (by decide) hk1 hFc hP1 hD1
  generalize H1 = H at hP hS ⊢
  have hP : va_P D vwCl [(h0, .inr (0, [.ref q0, .int 0, .int 0])), (q0, .inl (cQ, 4, .inr (.inr (.inr (.inr (va_up (fun _ => none) 0 (some q1))))))), (q1, .inr (3, [.ref (v_2.1 0), .ref (v_2.1 1), .ref (v_2.1 2), .ref (v_2.1 3), .int 0, .int 0, .int 0])), ((v_2.1 0), .inl (Y.1, 288, .inl (fun _ => 0))), ((v_2.1 1), .inl (Y.1, 18, .inl (fun _ => 0))), ((v_2.1 2), .inl (Y.2.2, 18, .inl (fun _ => 0))), ((v_2.1 3), .inl (Y.1, 8, .inl fstF)), (q3, .inr (3, [.ref (v_4.1 0), .ref (v_4.1 1), .ref (v_4.1 2), .ref (v_4.1 3), .int 0, .int 0, .int 0])), ((v_4.1 0), .inl (Y.1, 288, .inl (fun _ => 0))), ((v_4.1 1), .inl (Y.1, 18, .inl (fun _ => 0))), ((v_4.1 2), .inl (Y.2.2, 18, .inl (fun _ => 0))), ((v_4.1 3), .inl (Y.1, 8, .inl fstF))] H := hP
  have hD : va_D A [(h0, .inr (0, [.ref q0, .int 0, .int 0])), (q0, .inl (cQ, 4, .inr (.inr (.inr (.inr (va_up (fun _ => none) 0 (some q1))))))), (q1, .inr (3, [.ref (v_2.1 0), .ref (v_2.1 1), .ref (v_2.1 2), .ref (v_2.1 3), .int 0, .int 0, .int 0])), ((v_2.1 0), .inl (Y.1, 288, .inl (fun _ => 0))), ((v_2.1 1), .inl (Y.1, 18, .inl (fun _ => 0))), ((v_2.1 2), .inl (Y.2.2, 18, .inl (fun _ => 0))), ((v_2.1 3), .inl (Y.1, 8, .inl fstF)), (q3, .inr (3, [.ref (v_4.1 0), .ref (v_4.1 1), .ref (v_4.1 2), .ref (v_4.1 3), .int 0, .int 0, .int 0])), ((v_4.1 0), .inl (Y.1, 288, .inl (fun _ => 0))), ((v_4.1 1), .inl (Y.1, 18, .inl (fun _ => 0))), ((v_4.1 2), .inl (Y.2.2, 18, .inl (fun _ => 0))), ((v_4.1 3), .inl (Y.1, 8, .inl fstF))] := hD
  refine W.widen (k := 11) (n := 682) (by omega) (by omega) ?_
  refine va_astq hx hb hK hP hD hS 1 3 7 3 rfl rfl rfl rfl (vp_in_nI (show 1 < 4 by decide) (by decide)) dX0_init_41 (fun H locs hP hD hS => ?_)
  rw [nI_clamp (show 1 < 2 ^ 31 by decide)] at hP hD
  have hP : va_P D vwCl [(h0, .inr (0, [.ref q0, .int 0, .int 0])), (q0, .inl (cQ, 4, .inr (.inr (.inr (.inr (va_up (va_up (fun _ => none) 0 (some q1)) 1 (some q3))))))), (q1, .inr (3, [.ref (v_2.1 0), .ref (v_2.1 1), .ref (v_2.1 2), .ref (v_2.1 3), .int 0, .int 0, .int 0])), ((v_2.1 0), .inl (Y.1, 288, .inl (fun _ => 0))), ((v_2.1 1), .inl (Y.1, 18, .inl (fun _ => 0))), ((v_2.1 2), .inl (Y.2.2, 18, .inl (fun _ => 0))), ((v_2.1 3), .inl (Y.1, 8, .inl fstF)), (q3, .inr (3, [.ref (v_4.1 0), .ref (v_4.1 1), .ref (v_4.1 2), .ref (v_4.1 3), .int 0, .int 0, .int 0])), ((v_4.1 0), .inl (Y.1, 288, .inl (fun _ => 0))), ((v_4.1 1), .inl (Y.1, 18, .inl (fun _ => 0))), ((v_4.1 2), .inl (Y.2.2, 18, .inl (fun _ => 0))), ((v_4.1 3), .inl (Y.1, 8, .inl fstF))] H := hP
  have hD : va_D A [(h0, .inr (0, [.ref q0, .int 0, .int 0])), (q0, .inl (cQ, 4, .inr (.inr (.inr (.inr (va_up (va_up (fun _ => none) 0 (some q1)) 1 (some q3))))))), (q1, .inr (3, [.ref (v_2.1 0), .ref (v_2.1 1), .ref (v_2.1 2), .ref (v_2.1 3), .int 0, .int 0, .int 0])), ((v_2.1 0), .inl (Y.1, 288, .inl (fun _ => 0))), ((v_2.1 1), .inl (Y.1, 18, .inl (fun _ => 0))), ((v_2.1 2), .inl (Y.2.2, 18, .inl (fun _ => 0))), ((v_2.1 3), .inl (Y.1, 8, .inl fstF)), (q3, .inr (3, [.ref (v_4.1 0), .ref (v_4.1 1), .ref (v_4.1 2), .ref (v_4.1 3), .int 0, .int 0, .int 0])), ((v_4.1 0), .inl (Y.1, 288, .inl (fun _ => 0))), ((v_4.1 1), .inl (Y.1, 18, .inl (fun _ => 0))), ((v_4.1 2), .inl (Y.2.2, 18, .inl (fun _ => 0))), ((v_4.1 3), .inl (Y.1, 8, .inl fstF))] := hD
  refine lv_iinc (v := nI 2) (lv' := [(1, .int (nI 2)), (0, .ref h0)]) hx hb dX0_init_42 hl (k := 0) rfl (by decide) (by decide) rfl (fun ls hl => ?_)
  refine lv_goto (tgt := 24) hx hb dX0_init_45 (by decide) ?_
  refine lv_iload_n hx hb dX0_init_24 rfl (lv_at hl 0 rfl) ?_
  refine lv_iconst (v := nI 4) hx hb dX0_init_25 (by decide) ?_
  refine n_cmp_ge (tgt := 48) hx hb dX0_init_26 (by decide) (by decide) (by decide) (fun g => absurd g (by decide)) (fun _ => ?_)
  refine lv_aload_n hx hb dX0_init_29 rfl (lv_at hl 1 rfl) ?_
  refine va_get (ci := 0) (C := RX0) (T := TX0) (N := 3) hx hb hts (by decide +kernel) hown hK hP 0 rfl rfl 0 (by decide) (hts (.fieldLink RX0 11 "ZonedLight$History" "ring" "[LZonedLight$Screen;") (by decide +kernel)) (fun _ h => h) rfl dX0_init_30 ?_
  refine lv_iload_n hx hb dX0_init_33 rfl (lv_at hl 0 rfl) ?_
  refine va_new (ci := 3) (fs := [.null, .null, .null, .null, .int 0, .int 0, .int 0]) (C := RX3) (T := TX3) (N := 7) hx hb hts (by decide +kernel) tyX3 tyX3_ok hown (hts (.classLink RX0 9 RX3) (by decide +kernel)) (hts (.instantiable RX3 7) (by decide +kernel)) (hts (.initialized RX3) (by decide +kernel)) hK hP hD hS hA rfl (fun j hj => by rcases (show j = 0 ∨ j = 1 ∨ j = 2 ∨ j = 3 ∨ j = 4 ∨ j = 5 ∨ j = 6 by omega) with rfl | rfl | rfl | rfl | rfl | rfl | rfl <;> rfl) (Nat.le_of_ble_eq_true rfl) (Nat.le_of_ble_eq_true rfl) dX0_init_34 (fun q5 H hP hD hS => ?_)
  have hP : va_P D vwCl [(h0, .inr (0, [.ref q0, .int 0, .int 0])), (q0, .inl (cQ, 4, .inr (.inr (.inr (.inr (va_up (va_up (fun _ => none) 0 (some q1)) 1 (some q3))))))), (q1, .inr (3, [.ref (v_2.1 0), .ref (v_2.1 1), .ref (v_2.1 2), .ref (v_2.1 3), .int 0, .int 0, .int 0])), ((v_2.1 0), .inl (Y.1, 288, .inl (fun _ => 0))), ((v_2.1 1), .inl (Y.1, 18, .inl (fun _ => 0))), ((v_2.1 2), .inl (Y.2.2, 18, .inl (fun _ => 0))), ((v_2.1 3), .inl (Y.1, 8, .inl fstF)), (q3, .inr (3, [.ref (v_4.1 0), .ref (v_4.1 1), .ref (v_4.1 2), .ref (v_4.1 3), .int 0, .int 0, .int 0])), ((v_4.1 0), .inl (Y.1, 288, .inl (fun _ => 0))), ((v_4.1 1), .inl (Y.1, 18, .inl (fun _ => 0))), ((v_4.1 2), .inl (Y.2.2, 18, .inl (fun _ => 0))), ((v_4.1 3), .inl (Y.1, 8, .inl fstF)), (q5, .inr (3, [.null, .null, .null, .null, .int 0, .int 0, .int 0]))] H := hP
  have hD : va_D A [(h0, .inr (0, [.ref q0, .int 0, .int 0])), (q0, .inl (cQ, 4, .inr (.inr (.inr (.inr (va_up (va_up (fun _ => none) 0 (some q1)) 1 (some q3))))))), (q1, .inr (3, [.ref (v_2.1 0), .ref (v_2.1 1), .ref (v_2.1 2), .ref (v_2.1 3), .int 0, .int 0, .int 0])), ((v_2.1 0), .inl (Y.1, 288, .inl (fun _ => 0))), ((v_2.1 1), .inl (Y.1, 18, .inl (fun _ => 0))), ((v_2.1 2), .inl (Y.2.2, 18, .inl (fun _ => 0))), ((v_2.1 3), .inl (Y.1, 8, .inl fstF)), (q3, .inr (3, [.ref (v_4.1 0), .ref (v_4.1 1), .ref (v_4.1 2), .ref (v_4.1 3), .int 0, .int 0, .int 0])), ((v_4.1 0), .inl (Y.1, 288, .inl (fun _ => 0))), ((v_4.1 1), .inl (Y.1, 18, .inl (fun _ => 0))), ((v_4.1 2), .inl (Y.2.2, 18, .inl (fun _ => 0))), ((v_4.1 3), .inl (Y.1, 8, .inl fstF)), (q5, .inr (3, [.null, .null, .null, .null, .int 0, .int 0, .int 0]))] := hD
  refine W.widen (k := 12) (n := 689) (by omega) (by omega) ?_
  refine lv_dup hx hb dX0_init_37 rfl ?_
  have hPc := hP.sub (ws' := [(q5, .inr (3, [.null, .null, .null, .null, .int 0, .int 0, .int 0]))]) [12] rfl
  have hDc := hD.sub (ws' := [(q5, .inr (3, [.null, .null, .null, .null, .int 0, .int 0, .int 0]))]) [12] (by decide) rfl
  have hFc := va_free (wc := [(q5, .inr (3, [.null, .null, .null, .null, .int 0, .int 0, .int 0]))]) hD hS hA [12] rfl
  refine va_callv (va_runI (As := []) (rest := [.ref q5, .int (nI 2), .ref q0]) ⟨hx, hb, hml, hown, hts⟩ (c_X3_init l D Y q5 H.size) (cwI 0 hts gX0_init_X3_init rfl rfl rfl (hts (.initialized RX3) (by decide +kernel)) (hts (.methodLink RX0 22 yX3_init) (by decide +kernel)) (hts (.instanceMethod yX3_init) (by decide +kernel)) rfl (by decide +kernel) ⟨(Nat.le_of_ble_eq_true rfl), (Nat.le_of_ble_eq_true rfl)⟩) ⟨fun a U g mk q => by obtain ⟨q0, q1, q2, q3, q4⟩ := q; exact ⟨q0, q1, q2.call, q3, q4⟩, fun U hU hW => ⟨rfl, by rw [hU], by rw [hU]; exact hEnv.go hS hFc hW, by rw [hU]; exact hPc, hDc.weaken (fun _ _ _ _ => trivial)⟩⟩ rfl rfl hl.1 rfl (lv_room (Nat.le_of_ble_eq_true rfl)) dX0_init_38 ⟨(Nat.le_of_ble_eq_true rfl), (Nat.le_of_ble_eq_true rfl)⟩) hS (fun q _ h => hFc q h) hFc (fun v_6 t H1 locs ht hvm hw hB hz1 hk1 hS => ?_)
  obtain ⟨hK1, hP1, hD1⟩ := hB
  rw [ht] at hP1
  obtain ⟨hP, hD⟩ := va_join (wr := [(h0, .inr (0, [.ref q0, .int 0, .int 0])), (q0, .inl (cQ, 4, .inr (.inr (.inr (.inr (va_up (va_up (fun _ => none) 0 (some q1)) 1 (some q3))))))), (q1, .inr (3, [.ref (v_2.1 0), .ref (v_2.1 1), .ref (v_2.1 2), .ref (v_2.1 3), .int 0, .int 0, .int 0])), ((v_2.1 0), .inl (Y.1, 288, .inl (fun _ => 0))), ((v_2.1 1), .inl (Y.1, 18, .inl (fun _ => 0))), ((v_2.1 2), .inl (Y.2.2, 18, .inl (fun _ => 0))), ((v_2.1 3), .inl (Y.1, 8, .inl fstF)), (q3, .inr (3, [.ref (v_4.1 0), .ref (v_4.1 1), .ref (v_4.1 2), .ref (v_4.1 3), .int 0, .int 0, .int 0])), ((v_4.1 0), .inl (Y.1, 288, .inl (fun _ => 0))), ((v_4.1 1), .inl (Y.1, 18, .inl (fun _ => 0))), ((v_4.1 2), .inl (Y.2.2, 18, .inl (fun _ => 0))), ((v_4.1 3), .inl (Y.1, 8, .inl fstF))]) (w1 := [(q5, .inr (3, [.ref (v_6.1 0), .ref (v_6.1 1), .ref (v_6.1 2), .ref (v_6.1 3), .int 0, .int 0, .int 0])), ((v_6.1 0), .inl (Y.1, 288, .inl (fun _ => 0))), ((v_6.1 1), .inl (Y.1, 18, .inl (fun _ => 0))), ((v_6.1 2), .inl (Y.2.2, 18, .inl (fun _ => 0))), ((v_6.1 3), .inl (Y.1, 8, .inl fstF))]) hP hD [12] [0, 1, 2, 3, 4, 5, 6, 7, 8, 9, 10, 11] rfl rfl (by decide) (by decide) hk1 hFc hP1 hD1
  generalize H1 = H at hP hS ⊢
  have hP : va_P D vwCl [(h0, .inr (0, [.ref q0, .int 0, .int 0])), (q0, .inl (cQ, 4, .inr (.inr (.inr (.inr (va_up (va_up (fun _ => none) 0 (some q1)) 1 (some q3))))))), (q1, .inr (3, [.ref (v_2.1 0), .ref (v_2.1 1), .ref (v_2.1 2), .ref (v_2.1 3), .int 0, .int 0, .int 0])), ((v_2.1 0), .inl (Y.1, 288, .inl (fun _ => 0))), ((v_2.1 1), .inl (Y.1, 18, .inl (fun _ => 0))), ((v_2.1 2), .inl (Y.2.2, 18, .inl (fun _ => 0))), ((v_2.1 3), .inl (Y.1, 8, .inl fstF)), (q3, .inr (3, [.ref (v_4.1 0), .ref (v_4.1 1), .ref (v_4.1 2), .ref (v_4.1 3), .int 0, .int 0, .int 0])), ((v_4.1 0), .inl (Y.1, 288, .inl (fun _ => 0))), ((v_4.1 1), .inl (Y.1, 18, .inl (fun _ => 0))), ((v_4.1 2), .inl (Y.2.2, 18, .inl (fun _ => 0))), ((v_4.1 3), .inl (Y.1, 8, .inl fstF)), (q5, .inr (3, [.ref (v_6.1 0), .ref (v_6.1 1), .ref (v_6.1 2), .ref (v_6.1 3), .int 0, .int 0, .int 0])), ((v_6.1 0), .inl (Y.1, 288, .inl (fun _ => 0))), ((v_6.1 1), .inl (Y.1, 18, .inl (fun _ => 0))), ((v_6.1 2), .inl (Y.2.2, 18, .inl (fun _ => 0))), ((v_6.1 3), .inl (Y.1, 8, .inl fstF))] H := hP
  have hD : va_D A [(h0, .inr (0, [.ref q0, .int 0, .int 0])), (q0, .inl (cQ, 4, .inr (.inr (.inr (.inr (va_up (va_up (fun _ => none) 0 (some q1)) 1 (some q3))))))), (q1, .inr (3, [.ref (v_2.1 0), .ref (v_2.1 1), .ref (v_2.1 2), .ref (v_2.1 3), .int 0, .int 0, .int 0])), ((v_2.1 0), .inl (Y.1, 288, .inl (fun _ => 0))), ((v_2.1 1), .inl (Y.1, 18, .inl (fun _ => 0))), ((v_2.1 2), .inl (Y.2.2, 18, .inl (fun _ => 0))), ((v_2.1 3), .inl (Y.1, 8, .inl fstF)), (q3, .inr (3, [.ref (v_4.1 0), .ref (v_4.1 1), .ref (v_4.1 2), .ref (v_4.1 3), .int 0, .int 0, .int 0])), ((v_4.1 0), .inl (Y.1, 288, .inl (fun _ => 0))), ((v_4.1 1), .inl (Y.1, 18, .inl (fun _ => 0))), ((v_4.1 2), .inl (Y.2.2, 18, .inl (fun _ => 0))), ((v_4.1 3), .inl (Y.1, 8, .inl fstF)), (q5, .inr (3, [.ref (v_6.1 0), .ref (v_6.1 1), .ref (v_6.1 2), .ref (v_6.1 3), .int 0, .int 0, .int 0])), ((v_6.1 0), .inl (Y.1, 288, .inl (fun _ => 0))), ((v_6.1 1), .inl (Y.1, 18, .inl (fun _ => 0))), ((v_6.1 2), .inl (Y.2.2, 18, .inl (fun _ => 0))), ((v_6.1 3), .inl (Y.1, 8, .inl fstF))] := hD
  refine W.widen (k := 16) (n := 1021) (by omega) (by omega) ?_
  refine va_astq hx hb hK hP hD hS 1 3 12 3 rfl rfl rfl rfl (vp_in_nI (show 2 < 4 by decide) (by decide)) dX0_init_41 (fun H locs hP hD hS => ?_)
  rw [nI_clamp (show 2 < 2 ^ 31 by decide)] at hP hD
  have hP : va_P D vwCl [(h0, .inr (0, [.ref q0, .int 0, .int 0])), (q0, .inl (cQ, 4, .inr (.inr (.inr (.inr (va_up (va_up (va_up (fun _ => none) 0 (some q1)) 1 (some q3)) 2 (some q5))))))), (q1, .inr (3, [.ref (v_2.1 0), .ref (v_2.1 1), .ref (v_2.1 2), .ref (v_2.1 3), .int 0, .int 0, .int 0])), ((v_2.1 0), .inl (Y.1, 288, .inl (fun _ => 0))), ((v_2.1 1), .inl (Y.1, 18, .inl (fun _ => 0))), ((v_2.1 2), .inl (Y.2.2, 18, .inl (fun _ => 0))), ((v_2.1 3), .inl (Y.1, 8, .inl fstF)), (q3, .inr (3, [.ref (v_4.1 0), .ref (v_4.1 1), .ref (v_4.1 2), .ref (v_4.1 3), .int 0, .int 0, .int 0])), ((v_4.1 0), .inl (Y.1, 288, .inl (fun _ => 0))), ((v_4.1 1), .inl (Y.1, 18, .inl (fun _ => 0))), ((v_4.1 2), .inl (Y.2.2, 18, .inl (fun _ => 0))), ((v_4.1 3), .inl (Y.1, 8, .inl fstF)), (q5, .inr (3, [.ref (v_6.1 0), .ref (v_6.1 1), .ref (v_6.1 2), .ref (v_6.1 3), .int 0, .int 0, .int 0])), ((v_6.1 0), .inl (Y.1, 288, .inl (fun _ => 0))), ((v_6.1 1), .inl (Y.1, 18, .inl (fun _ => 0))), ((v_6.1 2), .inl (Y.2.2, 18, .inl (fun _ => 0))), ((v_6.1 3), .inl (Y.1, 8, .inl fstF))] H := hP
  have hD : va_D A [(h0, .inr (0, [.ref q0, .int 0, .int 0])), (q0, .inl (cQ, 4, .inr (.inr (.inr (.inr (va_up (va_up (va_up (fun _ => none) 0 (some q1)) 1 (some q3)) 2 (some q5))))))), (q1, .inr (3, [.ref (v_2.1 0), .ref (v_2.1 1), .ref (v_2.1 2), .ref (v_2.1 3), .int 0, .int 0, .int 0])), ((v_2.1 0), .inl (Y.1, 288, .inl (fun _ => 0))), ((v_2.1 1), .inl (Y.1, 18, .inl (fun _ => 0))), ((v_2.1 2), .inl (Y.2.2, 18, .inl (fun _ => 0))), ((v_2.1 3), .inl (Y.1, 8, .inl fstF)), (q3, .inr (3, [.ref (v_4.1 0), .ref (v_4.1 1), .ref (v_4.1 2), .ref (v_4.1 3), .int 0, .int 0, .int 0])), ((v_4.1 0), .inl (Y.1, 288, .inl (fun _ => 0))), ((v_4.1 1), .inl (Y.1, 18, .inl (fun _ => 0))), ((v_4.1 2), .inl (Y.2.2, 18, .inl (fun _ => 0))), ((v_4.1 3), .inl (Y.1, 8, .inl fstF)), (q5, .inr (3, [.ref (v_6.1 0), .ref (v_6.1 1), .ref (v_6.1 2), .ref (v_6.1 3), .int 0, .int 0, .int 0])), ((v_6.1 0), .inl (Y.1, 288, .inl (fun _ => 0))), ((v_6.1 1), .inl (Y.1, 18, .inl (fun _ => 0))), ((v_6.1 2), .inl (Y.2.2, 18, .inl (fun _ => 0))), ((v_6.1 3), .inl (Y.1, 8, .inl fstF))] := hD
  refine lv_iinc (v := nI 3) (lv' := [(1, .int (nI 3)), (0, .ref h0)]) hx hb dX0_init_42 hl (k := 0) rfl (by decide) (by decide) rfl (fun ls hl => ?_)
  refine lv_goto (tgt := 24) hx hb dX0_init_45 (by decide) ?_
  refine lv_iload_n hx hb dX0_init_24 rfl (lv_at hl 0 rfl) ?_
  refine lv_iconst (v := nI 4) hx hb dX0_init_25 (by decide) ?_
  refine n_cmp_ge (tgt := 48) hx hb dX0_init_26 (by decide) (by decide) (by decide) (fun g => absurd g (by decide)) (fun _ => ?_)
  refine lv_aload_n hx hb dX0_init_29 rfl (lv_at hl 1 rfl) ?_
  refine va_get (ci := 0) (C := RX0) (T := TX0) (N := 3) hx hb hts (by decide +kernel) hown hK hP 0 rfl rfl 0 (by decide) (hts (.fieldLink RX0 11 "ZonedLight$History" "ring" "[LZonedLight$Screen;") (by decide +kernel)) (fun _ h => h) rfl dX0_init_30 ?_
  refine lv_iload_n hx hb dX0_init_33 rfl (lv_at hl 0 rfl) ?_
  refine va_new (ci := 3) (fs := [.null, .null, .null, .null, .int 0, .int 0, .int 0]) (C := RX3) (T := TX3) (N := 7) hx hb hts (by decide +kernel) tyX3 tyX3_ok hown (hts (.classLink RX0 9 RX3) (by decide +kernel)) (hts (.instantiable RX3 7) (by decide +kernel)) (hts (.initialized RX3) (by decide +kernel)) hK hP hD hS hA rfl (fun j hj => by rcases (show j = 0 ∨ j = 1 ∨ j = 2 ∨ j = 3 ∨ j = 4 ∨ j = 5 ∨ j = 6 by omega) with rfl | rfl | rfl | rfl | rfl | rfl | rfl <;> rfl) (Nat.le_of_ble_eq_true rfl) (Nat.le_of_ble_eq_true rfl) dX0_init_34 (fun q7 H hP hD hS => ?_)
  have hP : va_P D vwCl [(h0, .inr (0, [.ref q0, .int 0, .int 0])), (q0, .inl (cQ, 4, .inr (.inr (.inr (.inr (va_up (va_up (va_up (fun _ => none) 0 (some q1)) 1 (some q3)) 2 (some q5))))))), (q1, .inr (3, [.ref (v_2.1 0), .ref (v_2.1 1), .ref (v_2.1 2), .ref (v_2.1 3), .int 0, .int 0, .int 0])), ((v_2.1 0), .inl (Y.1, 288, .inl (fun _ => 0))), ((v_2.1 1), .inl (Y.1, 18, .inl (fun _ => 0))), ((v_2.1 2), .inl (Y.2.2, 18, .inl (fun _ => 0))), ((v_2.1 3), .inl (Y.1, 8, .inl fstF)), (q3, .inr (3, [.ref (v_4.1 0), .ref (v_4.1 1), .ref (v_4.1 2), .ref (v_4.1 3), .int 0, .int 0, .int 0])), ((v_4.1 0), .inl (Y.1, 288, .inl (fun _ => 0))), ((v_4.1 1), .inl (Y.1, 18, .inl (fun _ => 0))), ((v_4.1 2), .inl (Y.2.2, 18, .inl (fun _ => 0))), ((v_4.1 3), .inl (Y.1, 8, .inl fstF)), (q5, .inr (3, [.ref (v_6.1 0), .ref (v_6.1 1), .ref (v_6.1 2), .ref (v_6.1 3), .int 0, .int 0, .int 0])), ((v_6.1 0), .inl (Y.1, 288, .inl (fun _ => 0))), ((v_6.1 1), .inl (Y.1, 18, .inl (fun _ => 0))), ((v_6.1 2), .inl (Y.2.2, 18, .inl (fun _ => 0))), ((v_6.1 3), .inl (Y.1, 8, .inl fstF)), (q7, .inr (3, [.null, .null, .null, .null, .int 0, .int 0, .int 0]))] H := hP
  have hD : va_D A [(h0, .inr (0, [.ref q0, .int 0, .int 0])), (q0, .inl (cQ, 4, .inr (.inr (.inr (.inr (va_up (va_up (va_up (fun _ => none) 0 (some q1)) 1 (some q3)) 2 (some q5))))))), (q1, .inr (3, [.ref (v_2.1 0), .ref (v_2.1 1), .ref (v_2.1 2), .ref (v_2.1 3), .int 0, .int 0, .int 0])), ((v_2.1 0), .inl (Y.1, 288, .inl (fun _ => 0))), ((v_2.1 1), .inl (Y.1, 18, .inl (fun _ => 0))), ((v_2.1 2), .inl (Y.2.2, 18, .inl (fun _ => 0))), ((v_2.1 3), .inl (Y.1, 8, .inl fstF)), (q3, .inr (3, [.ref (v_4.1 0), .ref (v_4.1 1), .ref (v_4.1 2), .ref (v_4.1 3), .int 0, .int 0, .int 0])), ((v_4.1 0), .inl (Y.1, 288, .inl (fun _ => 0))), ((v_4.1 1), .inl (Y.1, 18, .inl (fun _ => 0))), ((v_4.1 2), .inl (Y.2.2, 18, .inl (fun _ => 0))), ((v_4.1 3), .inl (Y.1, 8, .inl fstF)), (q5, .inr (3, [.ref (v_6.1 0), .ref (v_6.1 1), .ref (v_6.1 2), .ref (v_6.1 3), .int 0, .int 0, .int 0])), ((v_6.1 0), .inl (Y.1, 288, .inl (fun _ => 0))), ((v_6.1 1), .inl (Y.1, 18, .inl (fun _ => 0))), ((v_6.1 2), .inl (Y.2.2, 18, .inl (fun _ => 0))), ((v_6.1 3), .inl (Y.1, 8, .inl fstF)), (q7, .inr (3, [.null, .null, .null, .null, .int 0, .int 0, .int 0]))] := hD
  refine W.widen (k := 17) (n := 1028) (by omega) (by omega) ?_
  refine lv_dup hx hb dX0_init_37 rfl ?_
  have hPc := hP.sub (ws' := [(q7, .inr (3, [.null, .null, .null, .null, .int 0, .int 0, .int 0]))]) [17] rfl
  have hDc := hD.sub (ws' := [(q7, .inr (3, [.null, .null, .null, .null, .int 0, .int 0, .int 0]))]) [17] (by decide) rfl
  have hFc := va_free (wc := [(q7, .inr (3, [.null, .null, .null, .null, .int 0, .int 0, .int 0]))]) hD hS hA [17] rfl
  refine va_callv (va_runI (As := []) (rest := [.ref q7, .int (nI 3), .ref q0]) ⟨hx, hb, hml, hown, hts⟩ (c_X3_init l D Y q7 H.size) (cwI 0 hts gX0_init_X3_init rfl rfl rfl (hts (.initialized RX3) (by decide +kernel)) (hts (.methodLink RX0 22 yX3_init) (by decide +kernel)) (hts (.instanceMethod yX3_init) (by decide +kernel)) rfl (by decide +kernel) ⟨(Nat.le_of_ble_eq_true rfl), (Nat.le_of_ble_eq_true rfl)⟩) ⟨fun a U g mk q => by obtain ⟨q0, q1, q2, q3, q4⟩ := q; exact ⟨q0, q1, q2.call, q3, q4⟩, fun U hU hW => ⟨rfl, by rw [hU], by rw [hU]; exact hEnv.go hS hFc hW, by rw [hU]; exact hPc, hDc.weaken (fun _ _ _ _ => trivial)⟩⟩ rfl rfl hl.1 rfl (lv_room (Nat.le_of_ble_eq_true rfl)) dX0_init_38 ⟨(Nat.le_of_ble_eq_true rfl), (Nat.le_of_ble_eq_true rfl)⟩) hS (fun q _ h => hFc q h) hFc (fun v_8 t H1 locs ht hvm hw hB hz1 hk1 hS => ?_)
  obtain ⟨hK1, hP1, hD1⟩ := hB
  rw [ht] at hP1
  obtain ⟨hP, hD⟩ := va_join (wr := [(h0, .inr (0, [.ref q0, .int 0, .int 0])), (q0, .inl (cQ, 4, .inr (.inr (.inr (.inr (va_up (va_up (va_up (fun _ => none) 0 (some q1)) 1 (some q3)) 2 (some q5))))))), (q1, .inr (3, [.ref (v_2.1 0), .ref (v_2.1 1), .ref (v_2.1 2), .ref (v_2.1 3), .int 0, .int 0, .int 0])), ((v_2.1 0), .inl (Y.1, 288, .inl (fun _ => 0))), ((v_2.1 1), .inl (Y.1, 18, .inl (fun _ => 0))), ((v_2.1 2), .inl (Y.2.2, 18, .inl (fun _ => 0))), ((v_2.1 3), .inl (Y.1, 8, .inl fstF)), (q3, .inr (3, [.ref (v_4.1 0), .ref (v_4.1 1), .ref (v_4.1 2), .ref (v_4.1 3), .int 0, .int 0, .int 0])), ((v_4.1 0), .inl (Y.1, 288, .inl (fun _ => 0))), ((v_4.1 1), .inl (Y.1, 18, .inl (fun _ => 0))), ((v_4.1 2), .inl (Y.2.2, 18, .inl (fun _ => 0))), ((v_4.1 3), .inl (Y.1, 8, .inl fstF)), (q5, .inr (3, [.ref (v_6.1 0), .ref (v_6.1 1), .ref (v_6.1 2), .ref (v_6.1 3), .int 0, .int 0, .int 0])), ((v_6.1 0), .inl (Y.1, 288, .inl (fun _ => 0))), ((v_6.1 1), .inl (Y.1, 18, .inl (fun _ => 0))), ((v_6.1 2), .inl (Y.2.2, 18, .inl (fun _ => 0))), ((v_6.1 3), .inl (Y.1, 8, .inl fstF))]) (w1 := [(q7, .inr (3, [.ref (v_8.1 0), .ref (v_8.1 1), .ref (v_8.1 2), .ref (v_8.1 3), .int 0, .int 0, .int 0])), ((v_8.1 0), .inl (Y.1, 288, .inl (fun _ => 0))), ((v_8.1 1), .inl (Y.1, 18, .inl (fun _ => 0))), ((v_8.1 2), .inl (Y.2.2, 18, .inl (fun _ => 0))), ((v_8.1 3), .inl (Y.1, 8, .inl fstF))]) hP hD [17] [0, 1, 2, 3, 4, 5, 6, 7, 8, 9, 10, 11, 12, 13, 14, 15, 16] rfl rfl (by decide) (by decide) hk1 hFc hP1 hD1
  generalize H1 = H at hP hS ⊢
  have hP : va_P D vwCl [(h0, .inr (0, [.ref q0, .int 0, .int 0])), (q0, .inl (cQ, 4, .inr (.inr (.inr (.inr (va_up (va_up (va_up (fun _ => none) 0 (some q1)) 1 (some q3)) 2 (some q5))))))), (q1, .inr (3, [.ref (v_2.1 0), .ref (v_2.1 1), .ref (v_2.1 2), .ref (v_2.1 3), .int 0, .int 0, .int 0])), ((v_2.1 0), .inl (Y.1, 288, .inl (fun _ => 0))), ((v_2.1 1), .inl (Y.1, 18, .inl (fun _ => 0))), ((v_2.1 2), .inl (Y.2.2, 18, .inl (fun _ => 0))), ((v_2.1 3), .inl (Y.1, 8, .inl fstF)), (q3, .inr (3, [.ref (v_4.1 0), .ref (v_4.1 1), .ref (v_4.1 2), .ref (v_4.1 3), .int 0, .int 0, .int 0])), ((v_4.1 0), .inl (Y.1, 288, .inl (fun _ => 0))), ((v_4.1 1), .inl (Y.1, 18, .inl (fun _ => 0))), ((v_4.1 2), .inl (Y.2.2, 18, .inl (fun _ => 0))), ((v_4.1 3), .inl (Y.1, 8, .inl fstF)), (q5, .inr (3, [.ref (v_6.1 0), .ref (v_6.1 1), .ref (v_6.1 2), .ref (v_6.1 3), .int 0, .int 0, .int 0])), ((v_6.1 0), .inl (Y.1, 288, .inl (fun _ => 0))), ((v_6.1 1), .inl (Y.1, 18, .inl (fun _ => 0))), ((v_6.1 2), .inl (Y.2.2, 18, .inl (fun _ => 0))), ((v_6.1 3), .inl (Y.1, 8, .inl fstF)), (q7, .inr (3, [.ref (v_8.1 0), .ref (v_8.1 1), .ref (v_8.1 2), .ref (v_8.1 3), .int 0, .int 0, .int 0])), ((v_8.1 0), .inl (Y.1, 288, .inl (fun _ => 0))), ((v_8.1 1), .inl (Y.1, 18, .inl (fun _ => 0))), ((v_8.1 2), .inl (Y.2.2, 18, .inl (fun _ => 0))), ((v_8.1 3), .inl (Y.1, 8, .inl fstF))] H := hP
  have hD : va_D A [(h0, .inr (0, [.ref q0, .int 0, .int 0])), (q0, .inl (cQ, 4, .inr (.inr (.inr (.inr (va_up (va_up (va_up (fun _ => none) 0 (some q1)) 1 (some q3)) 2 (some q5))))))), (q1, .inr (3, [.ref (v_2.1 0), .ref (v_2.1 1), .ref (v_2.1 2), .ref (v_2.1 3), .int 0, .int 0, .int 0])), ((v_2.1 0), .inl (Y.1, 288, .inl (fun _ => 0))), ((v_2.1 1), .inl (Y.1, 18, .inl (fun _ => 0))), ((v_2.1 2), .inl (Y.2.2, 18, .inl (fun _ => 0))), ((v_2.1 3), .inl (Y.1, 8, .inl fstF)), (q3, .inr (3, [.ref (v_4.1 0), .ref (v_4.1 1), .ref (v_4.1 2), .ref (v_4.1 3), .int 0, .int 0, .int 0])), ((v_4.1 0), .inl (Y.1, 288, .inl (fun _ => 0))), ((v_4.1 1), .inl (Y.1, 18, .inl (fun _ => 0))), ((v_4.1 2), .inl (Y.2.2, 18, .inl (fun _ => 0))), ((v_4.1 3), .inl (Y.1, 8, .inl fstF)), (q5, .inr (3, [.ref (v_6.1 0), .ref (v_6.1 1), .ref (v_6.1 2), .ref (v_6.1 3), .int 0, .int 0, .int 0])), ((v_6.1 0), .inl (Y.1, 288, .inl (fun _ => 0))), ((v_6.1 1), .inl (Y.1, 18, .inl (fun _ => 0))), ((v_6.1 2), .inl (Y.2.2, 18, .inl (fun _ => 0))), ((v_6.1 3), .inl (Y.1, 8, .inl fstF)), (q7, .inr (3, [.ref (v_8.1 0), .ref (v_8.1 1), .ref (v_8.1 2), .ref (v_8.1 3), .int 0, .int 0, .int 0])), ((v_8.1 0), .inl (Y.1, 288, .inl (fun _ => 0))), ((v_8.1 1), .inl (Y.1, 18, .inl (fun _ => 0))), ((v_8.1 2), .inl (Y.2.2, 18, .inl (fun _ => 0))), ((v_8.1 3), .inl (Y.1, 8, .inl fstF))] := hD
  refine W.widen (k := 21) (n := 1360) (by omega) (by omega) ?_
  refine va_astq hx hb hK hP hD hS 1 3 17 3 rfl rfl rfl rfl (vp_in_nI (show 3 < 4 by decide) (by decide)) dX0_init_41 (fun H locs hP hD hS => ?_)
  rw [nI_clamp (show 3 < 2 ^ 31 by decide)] at hP hD
  have hP : va_P D vwCl [(h0, .inr (0, [.ref q0, .int 0, .int 0])), (q0, .inl (cQ, 4, .inr (.inr (.inr (.inr (va_up (va_up (va_up (va_up (fun _ => none) 0 (some q1)) 1 (some q3)) 2 (some q5)) 3 (some q7))))))), (q1, .inr (3, [.ref (v_2.1 0), .ref (v_2.1 1), .ref (v_2.1 2), .ref (v_2.1 3), .int 0, .int 0, .int 0])), ((v_2.1 0), .inl (Y.1, 288, .inl (fun _ => 0))), ((v_2.1 1), .inl (Y.1, 18, .inl (fun _ => 0))), ((v_2.1 2), .inl (Y.2.2, 18, .inl (fun _ => 0))), ((v_2.1 3), .inl (Y.1, 8, .inl fstF)), (q3, .inr (3, [.ref (v_4.1 0), .ref (v_4.1 1), .ref (v_4.1 2), .ref (v_4.1 3), .int 0, .int 0, .int 0])), ((v_4.1 0), .inl (Y.1, 288, .inl (fun _ => 0))), ((v_4.1 1), .inl (Y.1, 18, .inl (fun _ => 0))), ((v_4.1 2), .inl (Y.2.2, 18, .inl (fun _ => 0))), ((v_4.1 3), .inl (Y.1, 8, .inl fstF)), (q5, .inr (3, [.ref (v_6.1 0), .ref (v_6.1 1), .ref (v_6.1 2), .ref (v_6.1 3), .int 0, .int 0, .int 0])), ((v_6.1 0), .inl (Y.1, 288, .inl (fun _ => 0))), ((v_6.1 1), .inl (Y.1, 18, .inl (fun _ => 0))), ((v_6.1 2), .inl (Y.2.2, 18, .inl (fun _ => 0))), ((v_6.1 3), .inl (Y.1, 8, .inl fstF)), (q7, .inr (3, [.ref (v_8.1 0), .ref (v_8.1 1), .ref (v_8.1 2), .ref (v_8.1 3), .int 0, .int 0, .int 0])), ((v_8.1 0), .inl (Y.1, 288, .inl (fun _ => 0))), ((v_8.1 1), .inl (Y.1, 18, .inl (fun _ => 0))), ((v_8.1 2), .inl (Y.2.2, 18, .inl (fun _ => 0))), ((v_8.1 3), .inl (Y.1, 8, .inl fstF))] H := hP
  have hD : va_D A [(h0, .inr (0, [.ref q0, .int 0, .int 0])), (q0, .inl (cQ, 4, .inr (.inr (.inr (.inr (va_up (va_up (va_up (va_up (fun _ => none) 0 (some q1)) 1 (some q3)) 2 (some q5)) 3 (some q7))))))), (q1, .inr (3, [.ref (v_2.1 0), .ref (v_2.1 1), .ref (v_2.1 2), .ref (v_2.1 3), .int 0, .int 0, .int 0])), ((v_2.1 0), .inl (Y.1, 288, .inl (fun _ => 0))), ((v_2.1 1), .inl (Y.1, 18, .inl (fun _ => 0))), ((v_2.1 2), .inl (Y.2.2, 18, .inl (fun _ => 0))), ((v_2.1 3), .inl (Y.1, 8, .inl fstF)), (q3, .inr (3, [.ref (v_4.1 0), .ref (v_4.1 1), .ref (v_4.1 2), .ref (v_4.1 3), .int 0, .int 0, .int 0])), ((v_4.1 0), .inl (Y.1, 288, .inl (fun _ => 0))), ((v_4.1 1), .inl (Y.1, 18, .inl (fun _ => 0))), ((v_4.1 2), .inl (Y.2.2, 18, .inl (fun _ => 0))), ((v_4.1 3), .inl (Y.1, 8, .inl fstF)), (q5, .inr (3, [.ref (v_6.1 0), .ref (v_6.1 1), .ref (v_6.1 2), .ref (v_6.1 3), .int 0, .int 0, .int 0])), ((v_6.1 0), .inl (Y.1, 288, .inl (fun _ => 0))), ((v_6.1 1), .inl (Y.1, 18, .inl (fun _ => 0))), ((v_6.1 2), .inl (Y.2.2, 18, .inl (fun _ => 0))), ((v_6.1 3), .inl (Y.1, 8, .inl fstF)), (q7, .inr (3, [.ref (v_8.1 0), .ref (v_8.1 1), .ref (v_8.1 2), .ref (v_8.1 3), .int 0, .int 0, .int 0])), ((v_8.1 0), .inl (Y.1, 288, .inl (fun _ => 0))), ((v_8.1 1), .inl (Y.1, 18, .inl (fun _ => 0))), ((v_8.1 2), .inl (Y.2.2, 18, .inl (fun _ => 0))), ((v_8.1 3), .inl (Y.1, 8, .inl fstF))] := hD
  refine lv_iinc (v := nI 4) (lv' := [(1, .int (nI 4)), (0, .ref h0)]) hx hb dX0_init_42 hl (k := 0) rfl (by decide) (by decide) rfl (fun ls hl => ?_)
  refine lv_goto (tgt := 24) hx hb dX0_init_45 (by decide) ?_
  refine lv_iload_n hx hb dX0_init_24 rfl (lv_at hl 0 rfl) ?_
  refine lv_iconst (v := nI 4) hx hb dX0_init_25 (by decide) ?_
  refine n_cmp_ge (tgt := 48) hx hb dX0_init_26 (by decide) (by decide) (by decide) (fun _ => ?_) (fun g => absurd g (by decide))
  exact W.vret hx hb hr (fun t ht hW => ⟨⟨(fun i => [q0, q1, (v_2.1 0), (v_2.1 1), (v_2.1 2), (v_2.1 3), q3, (v_4.1 0), (v_4.1 1), (v_4.1 2), (v_4.1 3), q5, (v_6.1 0), (v_6.1 1), (v_6.1 2), (v_6.1 3), q7, (v_8.1 0), (v_8.1 1), (v_8.1 2), (v_8.1 3)].getD i 0, cQ), rfl, trivial, va_K.moved hW.alike hK, by rw [ht]; exact hP, hD⟩, hS.F ht⟩) hS.2.2 dX0_init_48
