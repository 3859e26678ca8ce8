set_option maxHeartbeats 16000000 in
set_option maxRecDepth 100000 in
/-- THE LAW, from its entry -/
theorem whole_start {p : Program} {e : Env} {s : State} {m : MethodId} {below : List Frame} {meth : Method} {c : Code} (l : Launch) (hflags : l.flags = flags0) {b L : Nat} {xs : Nat → Int32} (hL : L ≤ 260) (C0 : lw_At p s m meth c b L xs) : W p l e room_1 s m #[Value.ref b] below meth c s.heap [] 0 0 (lw_Z below #[Value.ref b] s) (entryFrame m ([Value.ref b] : List Value).toArray 5) := by
  obtain ⟨hx, hb, hr, hml, hown, hts0, hX, hbl, hlocks, hgv⟩ := id C0
  have hts : ∀ w ∈ wsL_law, w.before #[Value.ref b] s = true := fun w h => hts0 w (wsL_law_in w h)
  have hown : s.vm.findClass RL = some m.cls := hown
  have hb : c.code = cL_law := hb
  have hA : ∀ q : Nat, s.heap.size ≤ q → (fun q : Nat => s.heap.size ≤ q) q := fun _ h => h
  have hAn : ∀ q : Nat, q < s.heap.size → ¬ (fun q : Nat => s.heap.size ≤ q) q := fun q h => Nat.not_le.mpr h
  have hT : ∀ w ∈ tbL, va_Nw w s := fun w h => va_Nw.of (by have := tbL_ok w h; simp only [Bool.and_eq_true] at this; exact this.1) (hts0 w (tbL_in w h))
  obtain ⟨c0, iS0, hKn0⟩ := u_known (C := RX0) (T := TX0) (N := 3) (n := 3) hts0 (fun w h => tbL_in w (tb_X0 w h)) (hts0 (.instantiable RX0 3) (by decide +kernel))
  obtain ⟨c1, iS1, hKn1⟩ := u_known (C := RX1) (T := TX1) (N := 4) (n := 4) hts0 (fun w h => tbL_in w (tb_X1 w h)) (hts0 (.instantiable RX1 4) (by decide +kernel))
  obtain ⟨c2, iS2, hKn2⟩ := u_known (C := RX2) (T := TX2) (N := 2) (n := 2) hts0 (fun w h => tbL_in w (tb_X2 w h)) (hts0 (.instantiable RX2 2) (by decide +kernel))
  obtain ⟨c3, iS3, hKn3⟩ := u_known (C := RX3) (T := TX3) (N := 7) (n := 7) hts0 (fun w h => tbL_in w (tb_X3 w h)) (hts0 (.instantiable RX3 7) (by decide +kernel))
  obtain ⟨c4, iS4, hKn4⟩ := u_known (C := RX4) (T := TX4) (N := 5) (n := 5) hts0 (fun w h => tbL_in w (tb_X4 w h)) (hts0 (.instantiable RX4 5) (by decide +kernel))
  obtain ⟨c5, iS5, hKn5⟩ := u_known (C := RX5) (T := TX5) (N := 9) (n := 9) hts0 (fun w h => tbL_in w (tb_X5 w h)) (hts0 (.instantiable RX5 9) (by decide +kernel))
  obtain ⟨dC, dI, hKc⟩ : ∃ (dC : Nat → ClassId) (dI : Nat → Nat → Nat), ∀ (k : Nat) (q : vw_C), vwCl[k]? = some q → u_Kn s q.1 q.2.1 q.2.2 (dC k) (dI k) := by
    refine ⟨fun k => if k = 0 then c0 else if k = 1 then c1 else if k = 2 then c2 else if k = 3 then c3 else if k = 4 then c4 else c5, fun k => if k = 0 then iS0 else if k = 1 then iS1 else if k = 2 then iS2 else if k = 3 then iS3 else if k = 4 then iS4 else iS5, ?_⟩
    intro k q hq
    match k, hq with
    | 0, hq => cases hq; exact hKn0
    | 1, hq => cases hq; exact hKn1
    | 2, hq => cases hq; exact hKn2
    | 3, hq => cases hq; exact hKn3
    | 4, hq => cases hq; exact hKn4
    | 5, hq => cases hq; exact hKn5
    | k + 6, hq => simp [vwCl] at hq
  obtain ⟨cI, hI1, hI2⟩ := arr_known (hts (.arrayClass .int) (by decide +kernel))
  obtain ⟨cC, hC1, hC2⟩ := arr_known (hts (.arrayClass .char) (by decide +kernel))
  obtain ⟨cZ, hZ1, hZ2⟩ := arr_known (hts (.arrayClass .boolean) (by decide +kernel))
  obtain ⟨D, hDe⟩ : ∃ D : va_G, D = (dC, dI) := ⟨_, rfl⟩
  obtain ⟨Y, hYe⟩ : ∃ Y : T3, Y = (cI, cC, cZ) := ⟨_, rfl⟩
  have hK : va_K D vwCl (kT Y) s := by
    rw [hDe, hYe]
    refine ⟨hKc, fun k q hk => ?_⟩
    match k, hk with
    | 0, hk => cases hk; exact ⟨hI1, hI2⟩
    | 1, hk => cases hk; exact ⟨hC1, hC2⟩
    | 2, hk => cases hk; exact ⟨hZ1, hZ2⟩
    | k + 3, hk => simp [kT] at hk
  have hEnv : cEnv D Y (fun q : Nat => s.heap.size ≤ q) s s.heap := ⟨hK, ⟨va_Nw.of rfl (hts0 _ (show Cond.fieldLinkNest "ZonedLight$Screen" 35 "ZonedLight" "FIRST_SETTING" "[I" "ZonedLight" ∈ lw_tbl by decide +kernel)), fun w h => va_Nw.of rfl (hts0 _ (tbI_in w h))⟩, va_AO.of (hts0 (.arrayOver (.object "ZonedLight$Screen")) (by decide +kernel)), ws_FIRST_SETTING hts0 hgv hAn⟩
  have hS : va_S (fun q : Nat => s.heap.size ≤ q) s.heap s.heap [] := va_S.rf
  have hP : va_P D vwCl [] s.heap := fun k q h => by simp at h
  have hD : va_D (fun q : Nat => s.heap.size ≤ q) [] := ⟨fun i j p q h => by simp at h, fun k q h => by simp at h⟩
  have hl := lv_entry ([.ref b]) (n := 5) (Nat.le_of_ble_eq_true rfl)
  rw [lg_entry_eq]
  generalize (lg_sl ([.ref b]) ++ List.replicate (5 - (lg_sl ([.ref b])).length) Slot.unset).toArray = ls at hl ⊢
  have hl : lv_has ls 5 [(0, .ref b)] := hl
  refine va_new (ci := 5) (fs := [.null, .null, .int 0, .null, .null, .null, .null, .null, .null]) (C := RX5) (T := TX5) (N := 9) hx hb hts0 (fun w h => tbL_in w (tb_X5 w h)) tyX5 tyX5_ok hown (hts (.classLink RL 10 RX5) (by decide +kernel)) (hts (.instantiable RX5 9) (by decide +kernel)) (hts (.initialized RX5) (by decide +kernel)) hK hP hD hS hA rfl (fun j hj => by rcases (show j = 0 ∨ j = 1 ∨ j = 2 ∨ j = 3 ∨ j = 4 ∨ j = 5 ∨ j = 6 ∨ j = 7 ∨ j = 8 by omega) with rfl | rfl | rfl | rfl | rfl | rfl | rfl | rfl | rfl <;> rfl) (Nat.le_of_ble_eq_true rfl) (Nat.le_of_ble_eq_true rfl) dL_law_0 (fun q0 H hP hD hS => ?_)
  have hP : va_P D vwCl [(q0, .inr (5, [.null, .null, .int 0, .null, .null, .null, .null, .null, .null]))] H := hP
  have hD : va_D (fun q : Nat => s.heap.size ≤ q) [(q0, .inr (5, [.null, .null, .int 0, .null, .null, .null, .null, .null, .null]))] := hD
  refine W.widen (k := 1) (n := 9) (by omega) (by omega) ?_
  refine lv_dup hx hb dL_law_3 rfl ?_
  have hPc := hP.sub (ws' := [(q0, .inr (5, [.null, .null, .int 0, .null, .null, .null, .null, .null, .null]))]) [0] rfl
  have hDc := hD.sub (ws' := [(q0, .inr (5, [.null, .null, .int 0, .null, .null, .null, .null, .null, .null]))]) [0] (by decide) rfl
  have hFc := va_free (wc := [(q0, .inr (5, [.null, .null, .int 0, .null, .null, .null, .null, .null, .null]))]) hD hS hA [0] rfl
  refine va_callv (va_runI (As := []) (rest := [.ref q0]) ⟨hx, hb, hml, hown, hts⟩ (c_X5_init l D Y q0 H.size) (cwI 0 hts gL_law_X5_init rfl rfl rfl (hts (.initialized RX5) (by decide +kernel)) (hts (.methodLink RL 91 yX5_init) (by decide +kernel)) (hts (.instanceMethod yX5_init) (by decide +kernel)) rfl (by decide +kernel) ⟨(Nat.le_of_ble_eq_true rfl), (Nat.le_of_ble_eq_true rfl)⟩) ⟨fun a U g mk q => by obtain ⟨q0, q1, q2, q3, q4⟩ := q; exact ⟨q0, q1, q2.call, q3, q4⟩, fun U hU hW => ⟨rfl, by rw [hU], by rw [hU]; exact hEnv.go hS hFc hW, by rw [hU]; exact hPc, hDc.weaken (fun _ _ _ _ => trivial)⟩⟩ rfl rfl hl.1 rfl (lv_room (Nat.le_of_ble_eq_true rfl)) dL_law_4 ⟨(Nat.le_of_ble_eq_true rfl), (Nat.le_of_ble_eq_true rfl)⟩) hS (fun q _ h => hFc q h) hFc (fun u t H1 locs ht hvm hw hB hz1 hk1 hS => ?_)
  obtain ⟨hK1, hP1, hD1⟩ := hB
  rw [ht] at hP1
  have hKQ1 := va_K.moved hvm.symm hK1
  obtain ⟨hP, hD⟩ := va_join (wr := []) (w1 := fX5 Y q0 u) hP hD [0] [] rfl rfl (by decide) (by decide) hk1 hFc hP1 hD1
  generalize H1 = H at hP hS ⊢
  have hP : va_P D vwCl (fX5 Y q0 u) H := hP
  have hD : va_D (fun q : Nat => s.heap.size ≤ q) (fX5 Y q0 u) := hD
  refine W.widen (k := 46) (n := 2814) (by omega) (by omega) ?_
  refine lv_astore_n (lv' := [(1, .ref q0), (0, .ref b)]) hx hb dL_law_7 rfl hl (by decide) rfl (fun ls hl => ?_)
  refine va_new (ci := 5) (fs := [.null, .null, .int 0, .null, .null, .null, .null, .null, .null]) (C := RX5) (T := TX5) (N := 9) hx hb hts0 (fun w h => tbL_in w (tb_X5 w h)) tyX5 tyX5_ok hown (hts (.classLink RL 10 RX5) (by decide +kernel)) (hts (.instantiable RX5 9) (by decide +kernel)) (hts (.initialized RX5) (by decide +kernel)) hK hP hD hS hA rfl (fun j hj => by rcases (show j = 0 ∨ j = 1 ∨ j = 2 ∨ j = 3 ∨ j = 4 ∨ j = 5 ∨ j = 6 ∨ j = 7 ∨ j = 8 by omega) with rfl | rfl | rfl | rfl | rfl | rfl | rfl | rfl | rfl <;> rfl) (Nat.le_of_ble_eq_true rfl) (Nat.le_of_ble_eq_true rfl) dL_law_8 (fun q1 H hP hD hS => ?_)
  refine W.widen (k := 47) (n := 2823) (by omega) (by omega) ?_
  refine lv_dup hx hb dL_law_11 rfl ?_
  have hPc := hP.sub (ws' := [(q1, .inr (5, [.null, .null, .int 0, .null, .null, .null, .null, .null, .null]))]) [46] rfl
  have hDc := hD.sub (ws' := [(q1, .inr (5, [.null, .null, .int 0, .null, .null, .null, .null, .null, .null]))]) [46] (by decide) rfl
  have hFc := va_free (wc := [(q1, .inr (5, [.null, .null, .int 0, .null, .null, .null, .null, .null, .null]))]) hD hS hA [46] rfl
  refine va_callv (va_runI (As := []) (rest := [.ref q1]) ⟨hx, hb, hml, hown, hts⟩ (c_X5_init l D Y q1 H.size) (cwI 0 hts gL_law_X5_init rfl rfl rfl (hts (.initialized RX5) (by decide +kernel)) (hts (.methodLink RL 91 yX5_init) (by decide +kernel)) (hts (.instanceMethod yX5_init) (by decide +kernel)) rfl (by decide +kernel) ⟨(Nat.le_of_ble_eq_true rfl), (Nat.le_of_ble_eq_true rfl)⟩) ⟨fun a U g mk q => by obtain ⟨q0, q1, q2, q3, q4⟩ := q; exact ⟨q0, q1, q2.call, q3, q4⟩, fun U hU hW => ⟨rfl, by rw [hU], by rw [hU]; exact hEnv.go hS hFc hW, by rw [hU]; exact hPc, hDc.weaken (fun _ _ _ _ => trivial)⟩⟩ rfl rfl hl.1 rfl (lv_room (Nat.le_of_ble_eq_true rfl)) dL_law_12 ⟨(Nat.le_of_ble_eq_true rfl), (Nat.le_of_ble_eq_true rfl)⟩) hS (fun q _ h => hFc q h) hFc (fun v t H1 locs ht hvm hw hB hz1 hk1 hS => ?_)
  obtain ⟨hK1, hP1, hD1⟩ := hB
  rw [ht] at hP1
  have hKQ2 := va_K.moved hvm.symm hK1
  obtain ⟨hP, hD⟩ := va_join (wr := fX5 Y q0 u) (w1 := fX5 Y q1 v) hP hD [46] [0, 1, 2, 3, 4, 5, 6, 7, 8, 9, 10, 11, 12, 13, 14, 15, 16, 17, 18, 19, 20, 21, 22, 23, 24, 25, 26, 27, 28, 29, 30, 31, 32, 33, 34, 35, 36, 37, 38, 39, 40, 41, 42, 43, 44, 45] rfl rfl (by decide) (by decide) hk1 hFc hP1 hD1
  generalize H1 = H at hP hS ⊢
  refine W.widen (k := 92) (n := 5628) (by omega) (by omega) ?_
  refine lv_astore_n (lv' := [(2, .ref q1), (1, .ref q0), (0, .ref b)]) hx hb dL_law_15 rfl hl (by decide) rfl (fun ls hl => ?_)
  refine lv_iconst (v := nI 1) hx hb dL_law_16 (by decide) ?_
  refine lv_istore_n (lv' := [(3, .int (nI 1)), (2, .ref q1), (1, .ref q0), (0, .ref b)]) hx hb dL_law_17 rfl hl (by decide) rfl (fun ls hl => ?_)
  refine lv_iconst (v := nI 0) hx hb dL_law_18 (by decide) ?_
  refine lv_istore (lv' := [(4, .int (nI 0)), (3, .int (nI 1)), (2, .ref q1), (1, .ref q0), (0, .ref b)]) hx hb dL_law_19 hl (by decide) rfl (fun ls hl => ?_)
  have hDa : va_D (fun q : Nat => s.heap.size ≤ q) (fX5 Y q0 u) := hD.sub [0, 1, 2, 3, 4, 5, 6, 7, 8, 9, 10, 11, 12, 13, 14, 15, 16, 17, 18, 19, 20, 21, 22, 23, 24, 25, 26, 27, 28, 29, 30, 31, 32, 33, 34, 35, 36, 37, 38, 39, 40, 41, 42, 43, 44, 45] (by decide +kernel) rfl
  have hDb : va_D (fun q : Nat => s.heap.size ≤ q) (fX5 Y q1 v) := hD.sub [46, 47, 48, 49, 50, 51, 52, 53, 54, 55, 56, 57, 58, 59, 60, 61, 62, 63, 64, 65, 66, 67, 68, 69, 70, 71, 72, 73, 74, 75, 76, 77, 78, 79, 80, 81, 82, 83, 84, 85, 86, 87, 88, 89, 90, 91] (by decide +kernel) rfl
  have hPa : va_P D vwCl (fX5 Y q0 u) H := hP.sub [0, 1, 2, 3, 4, 5, 6, 7, 8, 9, 10, 11, 12, 13, 14, 15, 16, 17, 18, 19, 20, 21, 22, 23, 24, 25, 26, 27, 28, 29, 30, 31, 32, 33, 34, 35, 36, 37, 38, 39, 40, 41, 42, 43, 44, 45] rfl
  have hPb : va_P D vwCl (fX5 Y q1 v) H := hP.sub [46, 47, 48, 49, 50, 51, 52, 53, 54, 55, 56, 57, 58, 59, 60, 61, 62, 63, 64, 65, 66, 67, 68, 69, 70, 71, 72, 73, 74, 75, 76, 77, 78, 79, 80, 81, 82, 83, 84, 85, 86, 87, 88, 89, 90, 91] rfl
  obtain ⟨hP1, hD1⟩ := start_world hPa (inW_D hDa)
  obtain ⟨hP2, hD2⟩ := start_world hPb (inW_D hDb)
  have hAs : ∀ q, bA (inW (fX5 Y q0 u)) (inW (fX5 Y q1 v)) q → s.heap.size ≤ q := fun q h => h.elim (fun g => inW_A hDa g) (fun g => inW_A hDb g)
  have hAm : ∀ q : Nat, q < s.heap.size → ¬ bA (inW (fX5 Y q0 u)) (inW (fX5 Y q1 v)) q := fun q h g => absurd (hAs q g) (Nat.not_le.mpr h)
  have hSt : Wsts (bA (inW (fX5 Y q0 u)) (inW (fX5 Y q1 v))) s s.heap := ⟨ws_LEAST_SETTING hts0 hgv hAm, ws_GREATEST_SETTING hts0 hgv hAm, ws_FROM_X hts0 hgv hAm, ws_FROM_Y hts0 hgv hAm, ws_LEAST hts0 hgv hAm, ws_GREATEST hts0 hgv hAm, ws_END hts0 hgv hAm⟩
  have hN : ∀ w ∈ tbN, va_Nw (.methodLinkNest w.1 w.2.1 w.2.2.1 w.2.2.2) s := fun w h => va_Nw.of rfl (hts0 _ (tbN_in w h))
  have hE : E2 (adr q0 u.1, D, Y.1, Y.2.1, Y.2.2, u.2) (adr q1 v.1, D, Y.1, Y.2.1, Y.2.2, v.2) (inW (fX5 Y q0 u)) (inW (fX5 Y q1 v)) s s.heap := ⟨⟨hKQ1, (wl_D hD1).weaken (fun _ _ _ h => Or.inl h), hT, hN, hSt⟩, ⟨hKQ2, (wl_D hD2).weaken (fun _ _ _ h => Or.inr h), hT, hN, hSt⟩, wl_D hD1, wl_D hD2, fun q g1 g2 => inW_apart hD g1 g2⟩
  have hS2 : va_S (bA (inW (fX5 Y q0 u)) (inW (fX5 Y q1 v))) s.heap H [] := ⟨hS.1, fun q h1 _ => hS.2.1 q h1 (Nat.not_le.mpr h1), fun _ h => by cases h⟩
  refine va_forget (fun q hq => hS.2.2 q hq) ?_
  exact law_loop l hL C0 (adr q0 u.1, D, Y.1, Y.2.1, Y.2.2, u.2) (adr q1 v.1, D, Y.1, Y.2.1, Y.2.2, v.2) (inW (fX5 Y q0 u)) (inW (fX5 Y q1 v)) (hAm b hbl) hAs hE s0 s0 inv_s0 H [] ls ⟨hP1, can_s0⟩ ⟨hP2, can_s0⟩ hS2 (lv_sub hl [4, 3, 2, 1, 0] rfl)
