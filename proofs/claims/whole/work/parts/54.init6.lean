/-! CONSTRUCTORS, laid by program -/
/-- the world behind ZonedLightModel's constructor -/
def fX6 (Y : T3) (h0 : Nat) (u : (Nat → Nat) × ClassId) : va_W := [(h0, .inr (6, [.ref (u.1 0), .ref (u.1 1), .int 0, .ref (u.1 2), .int 0, .ref (u.1 3), .ref (u.1 4), .int 0, .int 0, .ref (u.1 5)])), (u.1 0, .inl (Y.1, 335, .inl (upd (upd (upd (upd (upd (upd (upd (fun _ => 0) 324 (nI 180)) 325 (nI 9)) 326 (nI 1)) 328 (nI 3)) 329 (nI 4)) 330 (nI 2)) 331 (nI 255)))), (u.1 1, .inl (Y.1, 1340, .inl (fun _ => 0))), (u.1 2, .inl (Y.1, 335, .inl (fun _ => 0))), (u.1 3, .inl (Y.1, 18, .inl (fun _ => 0))), (u.1 4, .inl (Y.1, 60, .inl (fun _ => 0))), (u.1 5, .inl (Y.1, 5, .inl (fun _ => 0)))]
set_option maxHeartbeats 16000000 in
set_option maxRecDepth 100000 in
theorem c_X6_init (l : Launch) (D : va_G) (Y : T3) (h0 sz : Nat) : Met l yX6_init wsX6_init { frames := 1, cells := 6, slots := 2093, locals := 12 } (va_Pc [.ref h0] (cPre D Y h0 (.inr (6, [.null, .null, .int 0, .null, .int 0, .null, .null, .int 0, .int 0, .null])) sz)) (va_Qv (fun _ : (Nat → Nat) × ClassId => True) (fun u t => va_K D vwCl (kT Y) t ∧ va_P D vwCl (fX6 Y h0 u) t.heap ∧ va_D (va_A [(h0, .inr (6, [.null, .null, .int 0, .null, .int 0, .null, .null, .int 0, .int 0, .null]))] sz) (fX6 Y h0 u)) (va_A [(h0, .inr (6, [.null, .null, .int 0, .null, .int 0, .null, .null, .int 0, .int 0, .null]))] sz)) 6 2093 (va_A [(h0, .inr (6, [.null, .null, .int 0, .null, .int 0, .null, .null, .int 0, .int 0, .null]))] sz) := by
  refine Met.ofW (cc := cX6_init) (maxL := 1) (ret := none) (by decide) rfl ?_
  intro p e s m args below meth c s₁ B hml hv
  obtain ⟨rfl, hsz, hEnv, hP, hD0⟩ := hv
  have hx := B.exec
  have hb := B.bytes
  have hr := B.returns
  have hts := atoms_spec (ws := wsX6_init) B.pre
  have hown : s.vm.findClass RX6 = some m.cls := findClass_of_methodNamed B.named
  have hlocks := B.notSynchronized
  have hin : meth.name = "<init>" := (name_of_methodNamed B.named B.method).1
  subst hsz
  have hD := hD0.self (sz := s.heap.size)
  generalize hAe : va_A [(h0, .inr (6, [.null, .null, .int 0, .null, .int 0, .null, .null, .int 0, .int 0, .null]))] s.heap.size = A at hEnv hD ⊢
  have hA : ∀ q : Nat, s.heap.size ≤ q → A q := fun q h => by rw [← hAe]; exact Or.inr h
  have hS : va_S A s.heap s.heap [] := va_S.rf
  have hK := hEnv.1
  have hl := lv_entry ([.ref h0]) (n := 1) (Nat.le_of_ble_eq_true rfl)
  rw [lg_entry_eq]
  generalize (lg_sl ([.ref h0]) ++ List.replicate (1 - (lg_sl ([.ref h0])).length) Slot.unset).toArray = ls at hl ⊢
  have hl : lv_has ls 1 [(0, .ref h0)] := hl
  have hP : va_P D vwCl [(h0, .inr (6, [.null, .null, .int 0, .null, .int 0, .null, .null, .int 0, .int 0, .null]))] s.heap := hP
  refine lv_aload_n hx hb dX6_init_0 rfl (lv_at hl 0 rfl) ?_
  refine W.objInit hx hb hown (hts (.methodLink RX6 1 objectInit) (by decide +kernel)) (hts (.instanceMethod objectInit) (by decide +kernel)) (hts (.code objectInit ⟨#[0xb1]⟩ 1 none) (by decide +kernel)) rfl (by rw [hml]; exact hl.1) rfl dX6_init_1 (Nat.le_of_ble_eq_true rfl) (Nat.le_of_ble_eq_true rfl) ?_
  refine W.eq (g2 := F0 m 4 ls []) rfl ?_
  refine lv_aload_n hx hb dX6_init_4 rfl (lv_at hl 0 rfl) ?_
  refine lv_sipush (v := nI 335) hx hb dX6_init_5 (by decide) ?_
  refine k_newI hx hb (hts (.arrayClass .int) (by decide +kernel)) hK 0 rfl hP hD hS hA (by decide) (Nat.le_of_ble_eq_true rfl) (Nat.le_of_ble_eq_true rfl) dX6_init_8 (fun q0 H hP hD hS => ?_)
  have hP : va_P D vwCl [(h0, .inr (6, [.null, .null, .int 0, .null, .int 0, .null, .null, .int 0, .int 0, .null])), (q0, .inl (Y.1, 335, .inl (fun _ => 0)))] H := hP
  have hD : va_D A [(h0, .inr (6, [.null, .null, .int 0, .null, .int 0, .null, .null, .int 0, .int 0, .null])), (q0, .inl (Y.1, 335, .inl (fun _ => 0)))] := hD
  refine W.widen (k := 1) (n := 335) (by omega) (by omega) ?_
  refine va_putF (D := D) (ci := 6) (v := (.ref q0)) (ty := tyX6 0) (C := RX6) (T := TX6) (N := 10) hx hb hts (by decide +kernel) tyX6 tyX6_ok nmX6 hown hK hP hD hS 0 rfl rfl 0 (by decide) (hts (.fieldLink RX6 7 "ZonedLightModel" "all" "[I") (by decide +kernel)) (fun _ h => h) rfl hin rfl (tyX6_ok 0 (by decide)) rfl rfl (Nat.le_of_ble_eq_true rfl) dX6_init_10 (fun H locs hP hD hS => ?_)
  have hP : va_P D vwCl [(h0, .inr (6, [.ref q0, .null, .int 0, .null, .int 0, .null, .null, .int 0, .int 0, .null])), (q0, .inl (Y.1, 335, .inl (fun _ => 0)))] H := hP
  have hD : va_D A [(h0, .inr (6, [.ref q0, .null, .int 0, .null, .int 0, .null, .null, .int 0, .int 0, .null])), (q0, .inl (Y.1, 335, .inl (fun _ => 0)))] := hD
  refine lv_aload_n hx hb dX6_init_13 rfl (lv_at hl 0 rfl) ?_
  refine lv_sipush (v := nI 1340) hx hb dX6_init_14 (by decide) ?_
  refine k_newI hx hb (hts (.arrayClass .int) (by decide +kernel)) hK 0 rfl hP hD hS hA (by decide) (Nat.le_of_ble_eq_true rfl) (Nat.le_of_ble_eq_true rfl) dX6_init_17 (fun q1 H hP hD hS => ?_)
  have hP : va_P D vwCl [(h0, .inr (6, [.ref q0, .null, .int 0, .null, .int 0, .null, .null, .int 0, .int 0, .null])), (q0, .inl (Y.1, 335, .inl (fun _ => 0))), (q1, .inl (Y.1, 1340, .inl (fun _ => 0)))] H := hP
  have hD : va_D A [(h0, .inr (6, [.ref q0, .null, .int 0, .null, .int 0, .null, .null, .int 0, .int 0, .null])), (q0, .inl (Y.1, 335, .inl (fun _ => 0))), (q1, .inl (Y.1, 1340, .inl (fun _ => 0)))] := hD
  refine W.widen (k := 2) (n := 1675) (by omega) (by omega) ?_
  refine va_putF (D := D) (ci := 6) (v := (.ref q1)) (ty := tyX6 1) (C := RX6) (T := TX6) (N := 10) hx hb hts (by decide +kernel) tyX6 tyX6_ok nmX6 hown hK hP hD hS 0 rfl rfl 1 (by decide) (hts (.fieldLink RX6 13 "ZonedLightModel" "history" "[I") (by decide +kernel)) (fun _ h => h) rfl hin rfl (tyX6_ok 1 (by decide)) rfl rfl (Nat.le_of_ble_eq_true rfl) dX6_init_19 (fun H locs hP hD hS => ?_)
  have hP : va_P D vwCl [(h0, .inr (6, [.ref q0, .ref q1, .int 0, .null, .int 0, .null, .null, .int 0, .int 0, .null])), (q0, .inl (Y.1, 335, .inl (fun _ => 0))), (q1, .inl (Y.1, 1340, .inl (fun _ => 0)))] H := hP
  have hD : va_D A [(h0, .inr (6, [.ref q0, .ref q1, .int 0, .null, .int 0, .null, .null, .int 0, .int 0, .null])), (q0, .inl (Y.1, 335, .inl (fun _ => 0))), (q1, .inl (Y.1, 1340, .inl (fun _ => 0)))] := hD
  refine lv_aload_n hx hb dX6_init_22 rfl (lv_at hl 0 rfl) ?_
  refine lv_sipush (v := nI 335) hx hb dX6_init_23 (by decide) ?_
  refine k_newI hx hb (hts (.arrayClass .int) (by decide +kernel)) hK 0 rfl hP hD hS hA (by decide) (Nat.le_of_ble_eq_true rfl) (Nat.le_of_ble_eq_true rfl) dX6_init_26 (fun q2 H hP hD hS => ?_)
  have hP : va_P D vwCl [(h0, .inr (6, [.ref q0, .ref q1, .int 0, .null, .int 0, .null, .null, .int 0, .int 0, .null])), (q0, .inl (Y.1, 335, .inl (fun _ => 0))), (q1, .inl (Y.1, 1340, .inl (fun _ => 0))), (q2, .inl (Y.1, 335, .inl (fun _ => 0)))] H := hP
  have hD : va_D A [(h0, .inr (6, [.ref q0, .ref q1, .int 0, .null, .int 0, .null, .null, .int 0, .int 0, .null])), (q0, .inl (Y.1, 335, .inl (fun _ => 0))), (q1, .inl (Y.1, 1340, .inl (fun _ => 0))), (q2, .inl (Y.1, 335, .inl (fun _ => 0)))] := hD
  refine W.widen (k := 3) (n := 2010) (by omega) (by omega) ?_
  refine va_putF (D := D) (ci := 6) (v := (.ref q2)) (ty := tyX6 3) (C := RX6) (T := TX6) (N := 10) hx hb hts (by decide +kernel) tyX6 tyX6_ok nmX6 hown hK hP hD hS 0 rfl rfl 3 (by decide) (hts (.fieldLink RX6 16 "ZonedLightModel" "snapshot" "[I") (by decide +kernel)) (fun _ h => h) rfl hin rfl (tyX6_ok 3 (by decide)) rfl rfl (Nat.le_of_ble_eq_true rfl) dX6_init_28 (fun H locs hP hD hS => ?_)
  have hP : va_P D vwCl [(h0, .inr (6, [.ref q0, .ref q1, .int 0, .ref q2, .int 0, .null, .null, .int 0, .int 0, .null])), (q0, .inl (Y.1, 335, .inl (fun _ => 0))), (q1, .inl (Y.1, 1340, .inl (fun _ => 0))), (q2, .inl (Y.1, 335, .inl (fun _ => 0)))] H := hP
  have hD : va_D A [(h0, .inr (6, [.ref q0, .ref q1, .int 0, .ref q2, .int 0, .null, .null, .int 0, .int 0, .null])), (q0, .inl (Y.1, 335, .inl (fun _ => 0))), (q1, .inl (Y.1, 1340, .inl (fun _ => 0))), (q2, .inl (Y.1, 335, .inl (fun _ => 0)))] := hD
  refine lv_aload_n hx hb dX6_init_31 rfl (lv_at hl 0 rfl) ?_
  refine lv_bipush (v := nI 18) hx hb dX6_init_32 (by decide) ?_
  refine k_newI hx hb (hts (.arrayClass .int) (by decide +kernel)) hK 0 rfl hP hD hS hA (by decide) (Nat.le_of_ble_eq_true rfl) (Nat.le_of_ble_eq_true rfl) dX6_init_34 (fun q3 H hP hD hS => ?_)
  have hP : va_P D vwCl [(h0, .inr (6, [.ref q0, .ref q1, .int 0, .ref q2, .int 0, .null, .null, .int 0, .int 0, .null])), (q0, .inl (Y.1, 335, .inl (fun _ => 0))), (q1, .inl (Y.1, 1340, .inl (fun _ => 0))), (q2, .inl (Y.1, 335, .inl (fun _ => 0))), (q3, .inl (Y.1, 18, .inl (fun _ => 0)))] H := hP
  have hD : va_D A [(h0, .inr (6, [.ref q0, .ref q1, .int 0, .ref q2, .int 0, .null, .null, .int 0, .int 0, .null])), (q0, .inl (Y.1, 335, .inl (fun _ => 0))), (q1, .inl (Y.1, 1340, .inl (fun _ => 0))), (q2, .inl (Y.1, 335, .inl (fun _ => 0))), (q3, .inl (Y.1, 18, .inl (fun _ => 0)))] := hD
  refine W.widen (k := 4) (n := 2028) (by omega) (by omega) ?_
  refine va_putF (D := D) (ci := 6) (v := (.ref q3)) (ty := tyX6 5) (C := RX6) (T := TX6) (N := 10) hx hb hts (by decide +kernel) tyX6 tyX6_ok nmX6 hown hK hP hD hS 0 rfl rfl 5 (by decide) (hts (.fieldLink RX6 19 "ZonedLightModel" "wanted" "[I") (by decide +kernel)) (fun _ h => h) rfl hin rfl (tyX6_ok 5 (by decide)) rfl rfl (Nat.le_of_ble_eq_true rfl) dX6_init_36 (fun H locs hP hD hS => ?_)
  have hP : va_P D vwCl [(h0, .inr (6, [.ref q0, .ref q1, .int 0, .ref q2, .int 0, .ref q3, .null, .int 0, .int 0, .null])), (q0, .inl (Y.1, 335, .inl (fun _ => 0))), (q1, .inl (Y.1, 1340, .inl (fun _ => 0))), (q2, .inl (Y.1, 335, .inl (fun _ => 0))), (q3, .inl (Y.1, 18, .inl (fun _ => 0)))] H := hP
  have hD : va_D A [(h0, .inr (6, [.ref q0, .ref q1, .int 0, .ref q2, .int 0, .ref q3, .null, .int 0, .int 0, .null])), (q0, .inl (Y.1, 335, .inl (fun _ => 0))), (q1, .inl (Y.1, 1340, .inl (fun _ => 0))), (q2, .inl (Y.1, 335, .inl (fun _ => 0))), (q3, .inl (Y.1, 18, .inl (fun _ => 0)))] := hD
  refine lv_aload_n hx hb dX6_init_39 rfl (lv_at hl 0 rfl) ?_
  refine lv_bipush (v := nI 60) hx hb dX6_init_40 (by decide) ?_
  refine k_newI hx hb (hts (.arrayClass .int) (by decide +kernel)) hK 0 rfl hP hD hS hA (by decide) (Nat.le_of_ble_eq_true rfl) (Nat.le_of_ble_eq_true rfl) dX6_init_42 (fun q4 H hP hD hS => ?_)
  have hP : va_P D vwCl [(h0, .inr (6, [.ref q0, .ref q1, .int 0, .ref q2, .int 0, .ref q3, .null, .int 0, .int 0, .null])), (q0, .inl (Y.1, 335, .inl (fun _ => 0))), (q1, .inl (Y.1, 1340, .inl (fun _ => 0))), (q2, .inl (Y.1, 335, .inl (fun _ => 0))), (q3, .inl (Y.1, 18, .inl (fun _ => 0))), (q4, .inl (Y.1, 60, .inl (fun _ => 0)))] H := hP
  have hD : va_D A [(h0, .inr (6, [.ref q0, .ref q1, .int 0, .ref q2, .int 0, .ref q3, .null, .int 0, .int 0, .null])), (q0, .inl (Y.1, 335, .inl (fun _ => 0))), (q1, .inl (Y.1, 1340, .inl (fun _ => 0))), (q2, .inl (Y.1, 335, .inl (fun _ => 0))), (q3, .inl (Y.1, 18, .inl (fun _ => 0))), (q4, .inl (Y.1, 60, .inl (fun _ => 0)))] := hD
  refine W.widen (k := 5) (n := 2088) (by omega) (by omega) ?_
  refine va_putF (D := D) (ci := 6) (v := (.ref q4)) (ty := tyX6 6) (C := RX6) (T := TX6) (N := 10) hx hb hts (by decide +kernel) tyX6 tyX6_ok nmX6 hown hK hP hD hS 0 rfl rfl 6 (by decide) (hts (.fieldLink RX6 22 "ZonedLightModel" "text" "[I") (by decide +kernel)) (fun _ h => h) rfl hin rfl (tyX6_ok 6 (by decide)) rfl rfl (Nat.le_of_ble_eq_true rfl) dX6_init_44 (fun H locs hP hD hS => ?_)
  have hP : va_P D vwCl [(h0, .inr (6, [.ref q0, .ref q1, .int 0, .ref q2, .int 0, .ref q3, .ref q4, .int 0, .int 0, .null])), (q0, .inl (Y.1, 335, .inl (fun _ => 0))), (q1, .inl (Y.1, 1340, .inl (fun _ => 0))), (q2, .inl (Y.1, 335, .inl (fun _ => 0))), (q3, .inl (Y.1, 18, .inl (fun _ => 0))), (q4, .inl (Y.1, 60, .inl (fun _ => 0)))] H := hP
  have hD : va_D A [(h0, .inr (6, [.ref q0, .ref q1, .int 0, .ref q2, .int 0, .ref q3, .ref q4, .int 0, .int 0, .null])), (q0, .inl (Y.1, 335, .inl (fun _ => 0))), (q1, .inl (Y.1, 1340, .inl (fun _ => 0))), (q2, .inl (Y.1, 335, .inl (fun _ => 0))), (q3, .inl (Y.1, 18, .inl (fun _ => 0))), (q4, .inl (Y.1, 60, .inl (fun _ => 0)))] := hD
  refine lv_aload_n hx hb dX6_init_47 rfl (lv_at hl 0 rfl) ?_
  refine lv_iconst (v := nI 5) hx hb dX6_init_48 (by decide) ?_
  refine k_newI hx hb (hts (.arrayClass .int) (by decide +kernel)) hK 0 rfl hP hD hS hA (by decide) (Nat.le_of_ble_eq_true rfl) (Nat.le_of_ble_eq_true rfl) dX6_init_49 (fun q5 H hP hD hS => ?_)
  have hP : va_P D vwCl [(h0, .inr (6, [.ref q0, .ref q1, .int 0, .ref q2, .int 0, .ref q3, .ref q4, .int 0, .int 0, .null])), (q0, .inl (Y.1, 335, .inl (fun _ => 0))), (q1, .inl (Y.1, 1340, .inl (fun _ => 0))), (q2, .inl (Y.1, 335, .inl (fun _ => 0))), (q3, .inl (Y.1, 18, .inl (fun _ => 0))), (q4, .inl (Y.1, 60, .inl (fun _ => 0))), (q5, .inl (Y.1, 5, .inl (fun _ => 0)))] H := hP
  have hD : va_D A [(h0, .inr (6, [.ref q0, .ref q1, .int 0, .ref q2, .int 0, .ref q3, .ref q4, .int 0, .int 0, .null])), (q0, .inl (Y.1, 335, .inl (fun _ => 0))), (q1, .inl (Y.1, 1340, .inl (fun _ => 0))), (q2, .inl (Y.1, 335, .inl (fun _ => 0))), (q3, .inl (Y.1, 18, .inl (fun _ => 0))), (q4, .inl (Y.1, 60, .inl (fun _ => 0))), (q5, .inl (Y.1, 5, .inl (fun _ => 0)))] := hD
  refine W.widen (k := 6) (n := 2093) (by omega) (by omega) ?_
  refine va_putF (D := D) (ci := 6) (v := (.ref q5)) (ty := tyX6 9) (C := RX6) (T := TX6) (N := 10) hx hb hts (by decide +kernel) tyX6 tyX6_ok nmX6 hown hK hP hD hS 0 rfl rfl 9 (by decide) (hts (.fieldLink RX6 25 "ZonedLightModel" "part" "[I") (by decide +kernel)) (fun _ h => h) rfl hin rfl (tyX6_ok 9 (by decide)) rfl rfl (Nat.le_of_ble_eq_true rfl) dX6_init_51 (fun H locs hP hD hS => ?_)
  have hP : va_P D vwCl [(h0, .inr (6, [.ref q0, .ref q1, .int 0, .ref q2, .int 0, .ref q3, .ref q4, .int 0, .int 0, .ref q5])), (q0, .inl (Y.1, 335, .inl (fun _ => 0))), (q1, .inl (Y.1, 1340, .inl (fun _ => 0))), (q2, .inl (Y.1, 335, .inl (fun _ => 0))), (q3, .inl (Y.1, 18, .inl (fun _ => 0))), (q4, .inl (Y.1, 60, .inl (fun _ => 0))), (q5, .inl (Y.1, 5, .inl (fun _ => 0)))] H := hP
  have hD : va_D A [(h0, .inr (6, [.ref q0, .ref q1, .int 0, .ref q2, .int 0, .ref q3, .ref q4, .int 0, .int 0, .ref q5])), (q0, .inl (Y.1, 335, .inl (fun _ => 0))), (q1, .inl (Y.1, 1340, .inl (fun _ => 0))), (q2, .inl (Y.1, 335, .inl (fun _ => 0))), (q3, .inl (Y.1, 18, .inl (fun _ => 0))), (q4, .inl (Y.1, 60, .inl (fun _ => 0))), (q5, .inl (Y.1, 5, .inl (fun _ => 0)))] := hD
  refine lv_aload_n hx hb dX6_init_54 rfl (lv_at hl 0 rfl) ?_
  refine va_get (ci := 6) (C := RX6) (T := TX6) (N := 10) hx hb hts (by decide +kernel) hown hK hP 0 rfl rfl 0 (by decide) (hts (.fieldLink RX6 7 "ZonedLightModel" "all" "[I") (by decide +kernel)) (fun _ h => h) rfl dX6_init_55 ?_
  refine lv_sipush (v := nI 324) hx hb dX6_init_58 (by decide) ?_
  refine lv_sipush (v := nI 180) hx hb dX6_init_61 (by decide) ?_
  refine va_iast hx hb hK hP hD hS 1 0 rfl rfl (vp_in_nI (show 324 < 335 by decide) (by decide)) dX6_init_64 (fun H locs hP hD hS => ?_)
  rw [nI_clamp (show 324 < 2 ^ 31 by decide)] at hP hD
  have hP : va_P D vwCl [(h0, .inr (6, [.ref q0, .ref q1, .int 0, .ref q2, .int 0, .ref q3, .ref q4, .int 0, .int 0, .ref q5])), (q0, .inl (Y.1, 335, .inl (upd (fun _ => 0) 324 (nI 180)))), (q1, .inl (Y.1, 1340, .inl (fun _ => 0))), (q2, .inl (Y.1, 335, .inl (fun _ => 0))), (q3, .inl (Y.1, 18, .inl (fun _ => 0))), (q4, .inl (Y.1, 60, .inl (fun _ => 0))), (q5, .inl (Y.1, 5, .inl (fun _ => 0)))] H := hP
  have hD : va_D A [(h0, .inr (6, [.ref q0, .ref q1, .int 0, .ref q2, .int 0, .ref q3, .ref q4, .int 0, .int 0, .ref q5])), (q0, .inl (Y.1, 335, .inl (upd (fun _ => 0) 324 (nI 180)))), (q1, .inl (Y.1, 1340, .inl (fun _ => 0))), (q2, .inl (Y.1, 335, .inl (fun _ => 0))), (q3, .inl (Y.1, 18, .inl (fun _ => 0))), (q4, .inl (Y.1, 60, .inl (fun _ => 0))), (q5, .inl (Y.1, 5, .inl (fun _ => 0)))] := hD
  refine lv_aload_n hx hb dX6_init_65 rfl (lv_at hl 0 rfl) ?_
  refine va_get (ci := 6) (C := RX6) (T := TX6) (N := 10) hx hb hts (by decide +kernel) hown hK hP 0 rfl rfl 0 (by decide) (hts (.fieldLink RX6 7 "ZonedLightModel" "all" "[I") (by decide +kernel)) (fun _ h => h) rfl dX6_init_66 ?_
  refine lv_sipush (v := nI 325) hx hb dX6_init_69 (by decide) ?_
  refine lv_bipush (v := nI 9) hx hb dX6_init_72 (by decide) ?_
  refine va_iast hx hb hK hP hD hS 1 0 rfl rfl (vp_in_nI (show 325 < 335 by decide) (by decide)) dX6_init_74 (fun H locs hP hD hS => ?_)
  rw [nI_clamp (show 325 < 2 ^ 31 by decide)] at hP hD
  have hP : va_P D vwCl [(h0, .inr (6, [.ref q0, .ref q1, .int 0, .ref q2, .int 0, .ref q3, .ref q4, .int 0, .int 0, .ref q5])), (q0, .inl (Y.1, 335, .inl (upd (upd (fun _ => 0) 324 (nI 180)) 325 (nI 9)))), (q1, .inl (Y.1, 1340, .inl (fun _ => 0))), (q2, .inl (Y.1, 335, .inl (fun _ => 0))), (q3, .inl (Y.1, 18, .inl (fun _ => 0))), (q4, .inl (Y.1, 60, .inl (fun _ => 0))), (q5, .inl (Y.1, 5, .inl (fun _ => 0)))] H := hP
  have hD : va_D A [(h0, .inr (6, [.ref q0, .ref q1, .int 0, .ref q2, .int 0, .ref q3, .ref q4, .int 0, .int 0, .ref q5])), (q0, .inl (Y.1, 335, .inl (upd (upd (fun _ => 0) 324 (nI 180)) 325 (nI 9)))), (q1, .inl (Y.1, 1340, .inl (fun _ => 0))), (q2, .inl (Y.1, 335, .inl (fun _ => 0))), (q3, .inl (Y.1, 18, .inl (fun _ => 0))), (q4, .inl (Y.1, 60, .inl (fun _ => 0))), (q5, .inl (Y.1, 5, .inl (fun _ => 0)))] := hD
  refine lv_aload_n hx hb dX6_init_75 rfl (lv_at hl 0 rfl) ?_
  refine va_get (ci := 6) (C := RX6) (T := TX6) (N := 10) hx hb hts (by decide +kernel) hown hK hP 0 rfl rfl 0 (by decide) (hts (.fieldLink RX6 7 "ZonedLightModel" "all" "[I") (by decide +kernel)) (fun _ h => h) rfl dX6_init_76 ?_
  refine lv_sipush (v := nI 326) hx hb dX6_init_79 (by decide) ?_
  refine lv_iconst (v := nI 1) hx hb dX6_init_82 (by decide) ?_
  refine va_iast hx hb hK hP hD hS 1 0 rfl rfl (vp_in_nI (show 326 < 335 by decide) (by decide)) dX6_init_83 (fun H locs hP hD hS => ?_)
  rw [nI_clamp (show 326 < 2 ^ 31 by decide)] at hP hD
  have hP : va_P D vwCl [(h0, .inr (6, [.ref q0, .ref q1, .int 0, .ref q2, .int 0, .ref q3, .ref q4, .int 0, .int 0, .ref q5])), (q0, .inl (Y.1, 335, .inl (upd (upd (upd (fun _ => 0) 324 (nI 180)) 325 (nI 9)) 326 (nI 1)))), (q1, .inl (Y.1, 1340, .inl (fun _ => 0))), (q2, .inl (Y.1, 335, .inl (fun _ => 0))), (q3, .inl (Y.1, 18, .inl (fun _ => 0))), (q4, .inl (Y.1, 60, .inl (fun _ => 0))), (q5, .inl (Y.1, 5, .inl (fun _ => 0)))] H := hP
  have hD : va_D A [(h0, .inr (6, [.ref q0, .ref q1, .int 0, .ref q2, .int 0, .ref q3, .ref q4, .int 0, .int 0, .ref q5])), (q0, .inl (Y.1, 335, .inl (upd (upd (upd (fun _ => 0) 324 (nI 180)) 325 (nI 9)) 326 (nI 1)))), (q1, .inl (Y.1, 1340, .inl (fun _ => 0))), (q2, .inl (Y.1, 335, .inl (fun _ => 0))), (q3, .inl (Y.1, 18, .inl (fun _ => 0))), (q4, .inl (Y.1, 60, .inl (fun _ => 0))), (q5, .inl (Y.1, 5, .inl (fun _ => 0)))] := hD
  refine lv_aload_n hx hb dX6_init_84 rfl (lv_at hl 0 rfl) ?_
  refine va_get (ci := 6) (C := RX6) (T := TX6) (N := 10) hx hb hts (by decide +kernel) hown hK hP 0 rfl rfl 0 (by decide) (hts (.fieldLink RX6 7 "ZonedLightModel" "all" "[I") (by decide +kernel)) (fun _ h => h) rfl dX6_init_85 ?_
  refine lv_sipush (v := nI 328) hx hb dX6_init_88 (by decide) ?_
  refine lv_iconst (v := nI 3) hx hb dX6_init_91 (by decide) ?_
  refine va_iast hx hb hK hP hD hS 1 0 rfl rfl (vp_in_nI (show 328 < 335 by decide) (by decide)) dX6_init_92 (fun H locs hP hD hS => ?_)
  rw [nI_clamp (show 328 < 2 ^ 31 by decide)] at hP hD
  have hP : va_P D vwCl [(h0, .inr (6, [.ref q0, .ref q1, .int 0, .ref q2, .int 0, .ref q3, .ref q4, .int 0, .int 0, .ref q5])), (q0, .inl (Y.1, 335, .inl (upd (upd (upd (upd (fun _ => 0) 324 (nI 180)) 325 (nI 9)) 326 (nI 1)) 328 (nI 3)))), (q1, .inl (Y.1, 1340, .inl (fun _ => 0))), (q2, .inl (Y.1, 335, .inl (fun _ => 0))), (q3, .inl (Y.1, 18, .inl (fun _ => 0))), (q4, .inl (Y.1, 60, .inl (fun _ => 0))), (q5, .inl (Y.1, 5, .inl (fun _ => 0)))] H := hP
  have hD : va_D A [(h0, .inr (6, [.ref q0, .ref q1, .int 0, .ref q2, .int 0, .ref q3, .ref q4, .int 0, .int 0, .ref q5])), (q0, .inl (Y.1, 335, .inl (upd (upd (upd (upd (fun _ => 0) 324 (nI 180)) 325 (nI 9)) 326 (nI 1)) 328 (nI 3)))), (q1, .inl (Y.1, 1340, .inl (fun _ => 0))), (q2, .inl (Y.1, 335, .inl (fun _ => 0))), (q3, .inl (Y.1, 18, .inl (fun _ => 0))), (q4, .inl (Y.1, 60, .inl (fun _ => 0))), (q5, .inl (Y.1, 5, .inl (fun _ => 0)))] := hD
  refine lv_aload_n hx hb dX6_init_93 rfl (lv_at hl 0 rfl) ?_
  refine va_get (ci := 6) (C := RX6) (T := TX6) (N := 10) hx hb hts (by decide +kernel) hown hK hP 0 rfl rfl 0 (by decide) (hts (.fieldLink RX6 7 "ZonedLightModel" "all" "[I") (by decide +kernel)) (fun _ h => h) rfl dX6_init_94 ?_
  refine lv_sipush (v := nI 329) hx hb dX6_init_97 (by decide) ?_
  refine lv_iconst (v := nI 4) hx hb dX6_init_100 (by decide) ?_
  refine va_iast hx hb hK hP hD hS 1 0 rfl rfl (vp_in_nI (show 329 < 335 by decide) (by decide)) dX6_init_101 (fun H locs hP hD hS => ?_)
  rw [nI_clamp (show 329 < 2 ^ 31 by decide)] at hP hD
  have hP : va_P D vwCl [(h0, .inr (6, [.ref q0, .ref q1, .int 0, .ref q2, .int 0, .ref q3, .ref q4, .int 0, .int 0, .ref q5])), (q0, .inl (Y.1, 335, .inl (upd (upd (upd (upd (upd (fun _ => 0) 324 (nI 180)) 325 (nI 9)) 326 (nI 1)) 328 (nI 3)) 329 (nI 4)))), (q1, .inl (Y.1, 1340, .inl (fun _ => 0))), (q2, .inl (Y.1, 335, .inl (fun _ => 0))), (q3, .inl (Y.1, 18, .inl (fun _ => 0))), (q4, .inl (Y.1, 60, .inl (fun _ => 0))), (q5, .inl (Y.1, 5, .inl (fun _ => 0)))] H := hP
  have hD : va_D A [(h0, .inr (6, [.ref q0, .ref q1, .int 0, .ref q2, .int 0, .ref q3, .ref q4, .int 0, .int 0, .ref q5])), (q0, .inl (Y.1, 335, .inl (upd (upd (upd (upd (upd (fun _ => 0) 324 (nI 180)) 325 (nI 9)) 326 (nI 1)) 328 (nI 3)) 329 (nI 4)))), (q1, .inl (Y.1, 1340, .inl (fun _ => 0))), (q2, .inl (Y.1, 335, .inl (fun _ => 0))), (q3, .inl (Y.1, 18, .inl (fun _ => 0))), (q4, .inl (Y.1, 60, .inl (fun _ => 0))), (q5, .inl (Y.1, 5, .inl (fun _ => 0)))] := hD
  refine lv_aload_n hx hb dX6_init_102 rfl (lv_at hl 0 rfl) ?_
  refine va_get (ci := 6) (C := RX6) (T := TX6) (N := 10) hx hb hts (by decide +kernel) hown hK hP 0 rfl rfl 0 (by decide) (hts (.fieldLink RX6 7 "ZonedLightModel" "all" "[I") (by decide +kernel)) (fun _ h => h) rfl dX6_init_103 ?_
  refine lv_sipush (v := nI 330) hx hb dX6_init_106 (by decide) ?_
  refine lv_iconst (v := nI 2) hx hb dX6_init_109 (by decide) ?_
  refine va_iast hx hb hK hP hD hS 1 0 rfl rfl (vp_in_nI (show 330 < 335 by decide) (by decide)) dX6_init_110 (fun H locs hP hD hS => ?_)
  rw [nI_clamp (show 330 < 2 ^ 31 by decide)] at hP hD
  have hP : va_P D vwCl [(h0, .inr (6, [.ref q0, .ref q1, .int 0, .ref q2, .int 0, .ref q3, .ref q4, .int 0, .int 0, .ref q5])), (q0, .inl (Y.1, 335, .inl (upd (upd (upd (upd (upd (upd (fun _ => 0) 324 (nI 180)) 325 (nI 9)) 326 (nI 1)) 328 (nI 3)) 329 (nI 4)) 330 (nI 2)))), (q1, .inl (Y.1, 1340, .inl (fun _ => 0))), (q2, .inl (Y.1, 335, .inl (fun _ => 0))), (q3, .inl (Y.1, 18, .inl (fun _ => 0))), (q4, .inl (Y.1, 60, .inl (fun _ => 0))), (q5, .inl (Y.1, 5, .inl (fun _ => 0)))] H := hP
  have hD : va_D A [(h0, .inr (6, [.ref q0, .ref q1, .int 0, .ref q2, .int 0, .ref q3, .ref q4, .int 0, .int 0, .ref q5])), (q0, .inl (Y.1, 335, .inl (upd (upd (upd (upd (upd (upd (fun _ => 0) 324 (nI 180)) 325 (nI 9)) 326 (nI 1)) 328 (nI 3)) 329 (nI 4)) 330 (nI 2)))), (q1, .inl (Y.1, 1340, .inl (fun _ => 0))), (q2, .inl (Y.1, 335, .inl (fun _ => 0))), (q3, .inl (Y.1, 18, .inl (fun _ => 0))), (q4, .inl (Y.1, 60, .inl (fun _ => 0))), (q5, .inl (Y.1, 5, .inl (fun _ => 0)))] := hD
  refine lv_aload_n hx hb dX6_init_111 rfl (lv_at hl 0 rfl) ?_
  refine va_get (ci := 6) (C := RX6) (T := TX6) (N := 10) hx hb hts (by decide +kernel) hown hK hP 0 rfl rfl 0 (by decide) (hts (.fieldLink RX6 7 "ZonedLightModel" "all" "[I") (by decide +kernel)) (fun _ h => h) rfl dX6_init_112 ?_
  refine lv_sipush (v := nI 331) hx hb dX6_init_115 (by decide) ?_
  refine lv_sipush (v := nI 255) hx hb dX6_init_118 (by decide) ?_
  refine va_iast hx hb hK hP hD hS 1 0 rfl rfl (vp_in_nI (show 331 < 335 by decide) (by decide)) dX6_init_121 (fun H locs hP hD hS => ?_)
  rw [nI_clamp (show 331 < 2 ^ 31 by decide)] at hP hD
  have hP : va_P D vwCl [(h0, .inr (6, [.ref q0, .ref q1, .int 0, .ref q2, .int 0, .ref q3, .ref q4, .int 0, .int 0, .ref q5])), (q0, .inl (Y.1, 335, .inl (upd (upd (upd (upd (upd (upd (upd (fun _ => 0) 324 (nI 180)) 325 (nI 9)) 326 (nI 1)) 328 (nI 3)) 329 (nI 4)) 330 (nI 2)) 331 (nI 255)))), (q1, .inl (Y.1, 1340, .inl (fun _ => 0))), (q2, .inl (Y.1, 335, .inl (fun _ => 0))), (q3, .inl (Y.1, 18, .inl (fun _ => 0))), (q4, .inl (Y.1, 60, .inl (fun _ => 0))), (q5, .inl (Y.1, 5, .inl (fun _ => 0)))] H := hP
  have hD : va_D A [(h0, .inr (6, [.ref q0, .ref q1, .int 0, .ref q2, .int 0, .ref q3, .ref q4, .int 0, .int 0, .ref q5])), (q0, .inl (Y.1, 335, .inl (upd (upd (upd (upd (upd (upd (upd (fun _ => 0) 324 (nI 180)) 325 (nI 9)) 326 (nI 1)) 328 (nI 3)) 329 (nI 4)) 330 (nI 2)) 331 (nI 255)))), (q1, .inl (Y.1, 1340, .inl (fun _ => 0))), (q2, .inl (Y.1, 335, .inl (fun _ => 0))), (q3, .inl (Y.1, 18, .inl (fun _ => 0))), (q4, .inl (Y.1, 60, .inl (fun _ => 0))), (q5, .inl (Y.1, 5, .inl (fun _ => 0)))] := hD
  exact W.vret hx hb hr (fun t ht hW => ⟨⟨(fun i => [q0, q1, q2, q3, q4, q5].getD i 0, Y.1), rfl, trivial, va_K.moved hW.alike hK, by rw [ht]; exact hP, hD⟩, hS.F ht⟩) hS.2.2 dX6_init_122
