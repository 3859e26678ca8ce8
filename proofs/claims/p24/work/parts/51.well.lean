/-! CONTRACTS, laid by program -/
set_option maxHeartbeats 4000000 in
set_option maxRecDepth 100000 in
/-- ZonedLightLaw.isWell(LZonedLight;)Z -/
theorem c_L_isWell (l : Launch) (G : GG) (A : Nat → Prop) (σ : St) (a : Nat → Int32) (b : Nat → Int32) (sn : Int32) (t : Nat) (tx : Nat → Int32) (hV : Vw σ a b sn t tx) (hok : okA a) : MI l yL_isWell wsL_isWell 8 180 G A σ [.ref (G.1 5 0)] (fun r τ => r = nI 1 ∧ Vw τ a b sn t tx) := by
  refine MI.on (by decide) rfl (Nat.le_of_ble_eq_true rfl) (fun pP eE sS mM args below meth cC ls hx hb hml hr hown hlk hts hE hw hS hl => ?_)
  have hl : lv_has ls 19 [(0, .ref (G.1 5 0))] := hl
  refine lv_iconst (v := nI 0) hx hb dL_isWell_0 (by decide) ?_
  refine lv_istore_n (lv' := [(1, .int (nI 0)), (0, .ref (G.1 5 0))]) hx hb dL_isWell_1 rfl hl (by decide) rfl (fun ls hl => ?_)
  refine lv_iconst (v := nI 0) hx hb dL_isWell_2 (by decide) ?_
  refine lv_istore_n (lv' := [(2, .int (nI 0)), (1, .int (nI 0)), (0, .ref (G.1 5 0))]) hx hb dL_isWell_3 rfl hl (by decide) rfl (fun ls hl => ?_)
  refine lv_iconst (v := nI 0) hx hb dL_isWell_4 (by decide) ?_
  refine lv_istore_n (lv' := [(3, .int (nI 0)), (2, .int (nI 0)), (1, .int (nI 0)), (0, .ref (G.1 5 0))]) hx hb dL_isWell_5 rfl hl (by decide) rfl (fun ls hl => ?_)
  refine lv_iconst (v := nI 0) hx hb dL_isWell_6 (by decide) ?_
  refine lv_istore (lv' := [(4, .int (nI 0)), (3, .int (nI 0)), (2, .int (nI 0)), (1, .int (nI 0)), (0, .ref (G.1 5 0))]) hx hb dL_isWell_7 hl (by decide) rfl (fun ls hl => ?_)
  refine lv_iconst (v := nI 0) hx hb dL_isWell_9 (by decide) ?_
  refine lv_istore (lv' := [(5, .int (nI 0)), (4, .int (nI 0)), (3, .int (nI 0)), (2, .int (nI 0)), (1, .int (nI 0)), (0, .ref (G.1 5 0))]) hx hb dL_isWell_10 hl (by decide) rfl (fun ls hl => ?_)
  refine lv_iconst (v := nI 0) hx hb dL_isWell_12 (by decide) ?_
  refine lv_istore (lv' := [(6, .int (nI 0)), (5, .int (nI 0)), (4, .int (nI 0)), (3, .int (nI 0)), (2, .int (nI 0)), (1, .int (nI 0)), (0, .ref (G.1 5 0))]) hx hb dL_isWell_13 hl (by decide) rfl (fun ls hl => ?_)
  refine lv_iconst (v := nI 1) hx hb dL_isWell_15 (by decide) ?_
  refine lv_istore (lv' := [(7, .int (nI 1)), (6, .int (nI 0)), (5, .int (nI 0)), (4, .int (nI 0)), (3, .int (nI 0)), (2, .int (nI 0)), (1, .int (nI 0)), (0, .ref (G.1 5 0))]) hx hb dL_isWell_16 hl (by decide) rfl (fun ls hl => ?_)
  refine lv_iconst (v := nI 0) hx hb dL_isWell_18 (by decide) ?_
  refine lv_istore (lv' := [(8, .int (nI 0)), (7, .int (nI 1)), (6, .int (nI 0)), (5, .int (nI 0)), (4, .int (nI 0)), (3, .int (nI 0)), (2, .int (nI 0)), (1, .int (nI 0)), (0, .ref (G.1 5 0))]) hx hb dL_isWell_19 hl (by decide) rfl (fun ls hl => ?_)
  have K_21 : ∀ (fuel : Nat) (k : Nat) (r1 : Int32) (r2 : Int32) (r3 : Int32) (r4 : Int32) (r5 : Int32) (r6 : Int32) (s1 : St), (k ≤ 288) → (Vw s1 a b sn t tx) → (r1 = nI k - tRow a k 0 - tRow a k 1) → (r2 = tRow a k 0) → (r3 = tRow a k 1) → (r4 = tRow a k 2) → (r5 = tRow a k 3) → (r6 = tRow a k 4) → 288 - k < fuel → ∀ (H : Heap) (locs : List Loc) (ls : Array Slot), Wcel G s1 H → va_S A sS.heap H locs → lv_has ls 19 [(0, .ref (G.1 5 0)), (1, .int r1), (2, .int r2), (3, .int r3), (4, .int r4), (5, .int r5), (6, .int r6), (7, .int (nI 1)), (8, .int (nI k))] → W pP l eE { frames := 8, cells := 0, slots := 0, locals := 180 } sS mM args below meth cC H locs 0 0 (MQ below (va_Qi (fun r τ => r = nI 1 ∧ Vw τ a b sn t tx) (fun τ t => gP G A τ t) A) args sS 0 0 A) (F0 mM 21 ls []) := by
    intro fuel
    induction fuel with
    | zero =>
      intro k r1 r2 r3 r4 r5 r6 s1 hk hV e1 e2 e3 e4 e5 e6 hfu
      exact absurd hfu (Nat.not_lt_zero _)
    | succ fuel K_21 =>
      intro k r1 r2 r3 r4 r5 r6 s1 hk hV e1 e2 e3 e4 e5 e6 hfu H locs ls hw hS hl
      refine lv_iload hx hb dL_isWell_21 (lv_at hl 8 rfl) ?_
      refine lv_sipush (v := nI 288) hx hb dL_isWell_23 (by decide) ?_
      refine n_cmp_ge (tgt := 348) hx hb dL_isWell_26 (by decide) (by omega) (by omega) (fun c_26 => ?_) (fun c_26 => ?_)
      · obtain rfl : k = 288 := by omega
        refine lv_iconst (v := nI 0) hx hb dL_isWell_348 (by decide) ?_
        refine lv_istore (lv' := [(8, .int (nI 0)), (0, .ref (G.1 5 0)), (1, .int r1), (2, .int r2), (3, .int r3), (4, .int r4), (5, .int r5), (6, .int r6), (7, .int (nI 1))]) hx hb dL_isWell_349 hl (by decide) rfl (fun ls hl => ?_)
        refine lv_iconst (v := nI 0) hx hb dL_isWell_351 (by decide) ?_
        refine lv_istore (lv' := [(9, .int (nI 0)), (8, .int (nI 0)), (0, .ref (G.1 5 0)), (1, .int r1), (2, .int r2), (3, .int r3), (4, .int r4), (5, .int r5), (6, .int r6), (7, .int (nI 1))]) hx hb dL_isWell_352 hl (by decide) rfl (fun ls hl => ?_)
        refine lv_iconst (v := nI 1) hx hb dL_isWell_354 (by decide) ?_
        refine lv_istore (lv' := [(10, .int (nI 1)), (9, .int (nI 0)), (8, .int (nI 0)), (0, .ref (G.1 5 0)), (1, .int r1), (2, .int r2), (3, .int r3), (4, .int r4), (5, .int r5), (6, .int r6), (7, .int (nI 1))]) hx hb dL_isWell_355 hl (by decide) rfl (fun ls hl => ?_)
        refine lv_iconst (v := nI 0) hx hb dL_isWell_357 (by decide) ?_
        refine lv_istore (lv' := [(11, .int (nI 0)), (10, .int (nI 1)), (9, .int (nI 0)), (8, .int (nI 0)), (0, .ref (G.1 5 0)), (1, .int r1), (2, .int r2), (3, .int r3), (4, .int r4), (5, .int r5), (6, .int r6), (7, .int (nI 1))]) hx hb dL_isWell_358 hl (by decide) rfl (fun ls hl => ?_)
        have K_360 : ∀ (fuel : Nat) (z : Nat) (pw : Int32) (dd : Int32) (rr : Int32) (s2 : St), (z ≤ 18) → (Vw s2 a b sn t tx) → (pw = powK (levO a) z) → (dd = deadK a z) → (bP rr (restP a z)) → 18 - z < fuel → ∀ (H : Heap) (locs : List Loc) (ls : Array Slot), Wcel G s2 H → va_S A sS.heap H locs → lv_has ls 19 [(0, .ref (G.1 5 0)), (1, .int r1), (2, .int r2), (3, .int r3), (4, .int r4), (5, .int r5), (6, .int r6), (7, .int (nI 1)), (8, .int pw), (9, .int dd), (10, .int rr), (11, .int (nI z))] → W pP l eE { frames := 8, cells := 0, slots := 0, locals := 180 } sS mM args below meth cC H locs 0 0 (MQ below (va_Qi (fun r τ => r = nI 1 ∧ Vw τ a b sn t tx) (fun τ t => gP G A τ t) A) args sS 0 0 A) (F0 mM 360 ls []) := by
          intro fuel
          induction fuel with
          | zero =>
            intro z pw dd rr s2 hz hV ep ed er hfu
            exact absurd hfu (Nat.not_lt_zero _)
          | succ fuel K_360 =>
            intro z pw dd rr s2 hz hV ep ed er hfu H locs ls hw hS hl
            refine lv_iload hx hb dL_isWell_360 (lv_at hl 11 rfl) ?_
            refine lv_bipush (v := nI 18) hx hb dL_isWell_362 (by decide) ?_
            refine n_cmp_ge (tgt := 538) hx hb dL_isWell_364 (by decide) (by omega) (by omega) (fun c_364 => ?_) (fun c_364 => ?_)
            · obtain rfl : z = 18 := by omega
              refine lv_iload hx hb dL_isWell_538 (lv_at hl 7 rfl) ?_
              refine n_if_eq (tgt := 670) hx hb dL_isWell_540 (by decide) (by omega) (fun c_540 => ?_) (fun c_540 => ?_)
              · exact absurd c_540 (by decide)
              · refine lv_iload_n hx hb dL_isWell_543 rfl (lv_at hl 1 rfl) ?_
                refine lv_aload_n hx hb dL_isWell_544 rfl (lv_at hl 0 rfl) ?_
                refine lv_iconst (v := nI 4) hx hb dL_isWell_545 (by decide) ?_
                refine g_Vi (n := 1) (As := [.int (nI 4)]) (rest := [.int r1]) hx hb hml hown hts hE hw hS gL_isWell_X5_count (c_X5_countV l G A _ (nI 4) hV hok.1) rfl (by decide +kernel) ⟨Nat.le_of_ble_eq_true rfl, Nat.le_of_ble_eq_true rfl⟩ (Nat.zero_lt_one) rfl rfl rfl rfl hl.1 rfl (Nat.le_of_ble_eq_true rfl) ⟨Nat.le_of_ble_eq_true rfl, Nat.le_of_ble_eq_true rfl⟩ dL_isWell_546 (fun x_546 τ_546 H locs hp_546 hw hS => ?_)
                obtain ⟨ex_546, hV⟩ := hp_546
                obtain ⟨n_546, ex_546⟩ := ex_546
                refine lv_icmp_ne (tgt := 670) hx hb dL_isWell_549 (by decide) (fun c_549 => ?_) (fun c_549 => ?_)
                · exact absurd (e1.trans (ex_546.trans ct_4).symm) c_549
                · refine lv_iload_n hx hb dL_isWell_552 rfl (lv_at hl 2 rfl) ?_
                  refine lv_aload_n hx hb dL_isWell_553 rfl (lv_at hl 0 rfl) ?_
                  refine lv_iconst (v := nI 5) hx hb dL_isWell_554 (by decide) ?_
                  refine g_Vi (n := 1) (As := [.int (nI 5)]) (rest := [.int r2]) hx hb hml hown hts hE hw hS gL_isWell_X5_count (c_X5_countV l G A _ (nI 5) hV hok.1) rfl (by decide +kernel) ⟨Nat.le_of_ble_eq_true rfl, Nat.le_of_ble_eq_true rfl⟩ (Nat.zero_lt_one) rfl rfl rfl rfl hl.1 rfl (Nat.le_of_ble_eq_true rfl) ⟨Nat.le_of_ble_eq_true rfl, Nat.le_of_ble_eq_true rfl⟩ dL_isWell_555 (fun x_555 τ_555 H locs hp_555 hw hS => ?_)
                  obtain ⟨ex_555, hV⟩ := hp_555
                  obtain ⟨n_555, ex_555⟩ := ex_555
                  refine lv_icmp_ne (tgt := 670) hx hb dL_isWell_558 (by decide) (fun c_558 => ?_) (fun c_558 => ?_)
                  · exact absurd (e2.trans (ex_555.trans ct_5).symm) c_558
                  · refine lv_iload_n hx hb dL_isWell_561 rfl (lv_at hl 3 rfl) ?_
                    refine lv_aload_n hx hb dL_isWell_562 rfl (lv_at hl 0 rfl) ?_
                    refine lv_bipush (v := nI 6) hx hb dL_isWell_563 (by decide) ?_
                    refine g_Vi (n := 1) (As := [.int (nI 6)]) (rest := [.int r3]) hx hb hml hown hts hE hw hS gL_isWell_X5_count (c_X5_countV l G A _ (nI 6) hV hok.1) rfl (by decide +kernel) ⟨Nat.le_of_ble_eq_true rfl, Nat.le_of_ble_eq_true rfl⟩ (Nat.zero_lt_one) rfl rfl rfl rfl hl.1 rfl (Nat.le_of_ble_eq_true rfl) ⟨Nat.le_of_ble_eq_true rfl, Nat.le_of_ble_eq_true rfl⟩ dL_isWell_565 (fun x_565 τ_565 H locs hp_565 hw hS => ?_)
                    obtain ⟨ex_565, hV⟩ := hp_565
                    obtain ⟨n_565, ex_565⟩ := ex_565
                    refine lv_icmp_ne (tgt := 670) hx hb dL_isWell_568 (by decide) (fun c_568 => ?_) (fun c_568 => ?_)
                    · exact absurd (e3.trans (ex_565.trans ct_6).symm) c_568
                    · refine lv_iload hx hb dL_isWell_571 (lv_at hl 4 rfl) ?_
                      refine lv_aload_n hx hb dL_isWell_573 rfl (lv_at hl 0 rfl) ?_
                      refine lv_bipush (v := nI 7) hx hb dL_isWell_574 (by decide) ?_
                      refine g_Vi (n := 1) (As := [.int (nI 7)]) (rest := [.int r4]) hx hb hml hown hts hE hw hS gL_isWell_X5_count (c_X5_countV l G A _ (nI 7) hV hok.1) rfl (by decide +kernel) ⟨Nat.le_of_ble_eq_true rfl, Nat.le_of_ble_eq_true rfl⟩ (Nat.zero_lt_one) rfl rfl rfl rfl hl.1 rfl (Nat.le_of_ble_eq_true rfl) ⟨Nat.le_of_ble_eq_true rfl, Nat.le_of_ble_eq_true rfl⟩ dL_isWell_576 (fun x_576 τ_576 H locs hp_576 hw hS => ?_)
                      obtain ⟨ex_576, hV⟩ := hp_576
                      obtain ⟨n_576, ex_576⟩ := ex_576
                      refine lv_icmp_ne (tgt := 670) hx hb dL_isWell_579 (by decide) (fun c_579 => ?_) (fun c_579 => ?_)
                      · exact absurd (e4.trans (ex_576.trans ct_7).symm) c_579
                      · refine lv_iload hx hb dL_isWell_582 (lv_at hl 5 rfl) ?_
                        refine lv_aload_n hx hb dL_isWell_584 rfl (lv_at hl 0 rfl) ?_
                        refine lv_bipush (v := nI 8) hx hb dL_isWell_585 (by decide) ?_
                        refine g_Vi (n := 1) (As := [.int (nI 8)]) (rest := [.int r5]) hx hb hml hown hts hE hw hS gL_isWell_X5_count (c_X5_countV l G A _ (nI 8) hV hok.1) rfl (by decide +kernel) ⟨Nat.le_of_ble_eq_true rfl, Nat.le_of_ble_eq_true rfl⟩ (Nat.zero_lt_one) rfl rfl rfl rfl hl.1 rfl (Nat.le_of_ble_eq_true rfl) ⟨Nat.le_of_ble_eq_true rfl, Nat.le_of_ble_eq_true rfl⟩ dL_isWell_587 (fun x_587 τ_587 H locs hp_587 hw hS => ?_)
                        obtain ⟨ex_587, hV⟩ := hp_587
                        obtain ⟨n_587, ex_587⟩ := ex_587
                        refine lv_icmp_ne (tgt := 670) hx hb dL_isWell_590 (by decide) (fun c_590 => ?_) (fun c_590 => ?_)
                        · exact absurd (e5.trans (ex_587.trans ct_8).symm) c_590
                        · refine lv_iload hx hb dL_isWell_593 (lv_at hl 8 rfl) ?_
                          refine lv_aload_n hx hb dL_isWell_595 rfl (lv_at hl 0 rfl) ?_
                          refine lv_iconst (v := nI 1) hx hb dL_isWell_596 (by decide) ?_
                          refine g_Vi (n := 1) (As := [.int (nI 1)]) (rest := [.int pw]) hx hb hml hown hts hE hw hS gL_isWell_X5_count (c_X5_countV l G A _ (nI 1) hV hok.1) rfl (by decide +kernel) ⟨Nat.le_of_ble_eq_true rfl, Nat.le_of_ble_eq_true rfl⟩ (Nat.zero_lt_one) rfl rfl rfl rfl hl.1 rfl (Nat.le_of_ble_eq_true rfl) ⟨Nat.le_of_ble_eq_true rfl, Nat.le_of_ble_eq_true rfl⟩ dL_isWell_597 (fun x_597 τ_597 H locs hp_597 hw hS => ?_)
                          obtain ⟨ex_597, hV⟩ := hp_597
                          obtain ⟨n_597, ex_597⟩ := ex_597
                          refine lv_icmp_ne (tgt := 670) hx hb dL_isWell_600 (by decide) (fun c_600 => ?_) (fun c_600 => ?_)
                          · exact absurd (ep.trans (ex_597.trans ct_1).symm) c_600
                          · refine lv_iload hx hb dL_isWell_603 (lv_at hl 9 rfl) ?_
                            refine lv_aload_n hx hb dL_isWell_605 rfl (lv_at hl 0 rfl) ?_
                            refine lv_bipush (v := nI 9) hx hb dL_isWell_606 (by decide) ?_
                            refine g_Vi (n := 1) (As := [.int (nI 9)]) (rest := [.int dd]) hx hb hml hown hts hE hw hS gL_isWell_X5_count (c_X5_countV l G A _ (nI 9) hV hok.1) rfl (by decide +kernel) ⟨Nat.le_of_ble_eq_true rfl, Nat.le_of_ble_eq_true rfl⟩ (Nat.zero_lt_one) rfl rfl rfl rfl hl.1 rfl (Nat.le_of_ble_eq_true rfl) ⟨Nat.le_of_ble_eq_true rfl, Nat.le_of_ble_eq_true rfl⟩ dL_isWell_608 (fun x_608 τ_608 H locs hp_608 hw hS => ?_)
                            obtain ⟨ex_608, hV⟩ := hp_608
                            obtain ⟨n_608, ex_608⟩ := ex_608
                            refine lv_icmp_ne (tgt := 670) hx hb dL_isWell_611 (by decide) (fun c_611 => ?_) (fun c_611 => ?_)
                            · exact absurd (ed.trans (ex_608.trans ct_9).symm) c_611
                            · refine lv_iload hx hb dL_isWell_614 (lv_at hl 10 rfl) ?_
                              refine lv_aload_n hx hb dL_isWell_616 rfl (lv_at hl 0 rfl) ?_
                              refine lv_bipush (v := nI 10) hx hb dL_isWell_617 (by decide) ?_
                              refine g_Vi (n := 1) (As := [.int (nI 10)]) (rest := [.int rr]) hx hb hml hown hts hE hw hS gL_isWell_X5_count (c_X5_countV l G A _ (nI 10) hV hok.1) rfl (by decide +kernel) ⟨Nat.le_of_ble_eq_true rfl, Nat.le_of_ble_eq_true rfl⟩ (Nat.zero_lt_one) rfl rfl rfl rfl hl.1 rfl (Nat.le_of_ble_eq_true rfl) ⟨Nat.le_of_ble_eq_true rfl, Nat.le_of_ble_eq_true rfl⟩ dL_isWell_619 (fun x_619 τ_619 H locs hp_619 hw hS => ?_)
                              obtain ⟨ex_619, hV⟩ := hp_619
                              obtain ⟨n_619, ex_619⟩ := ex_619
                              have ex_619 := ex_619.trans ct_10
                              refine lv_iconst (v := nI 1) hx hb dL_isWell_622 (by decide) ?_
                              have K_634 : ∀ (H : Heap) (locs : List Loc) (ls : Array Slot), Wcel G τ_619 H → va_S A sS.heap H locs → lv_has ls 19 [(0, .ref (G.1 5 0)), (1, .int r1), (2, .int r2), (3, .int r3), (4, .int r4), (5, .int r5), (6, .int r6), (7, .int (nI 1)), (8, .int pw), (9, .int dd), (10, .int rr)] → W pP l eE { frames := 8, cells := 0, slots := 0, locals := 180 } sS mM args below meth cC H locs 0 0 (MQ below (va_Qi (fun r τ => r = nI 1 ∧ Vw τ a b sn t tx) (fun τ t => gP G A τ t) A) args sS 0 0 A) (F0 mM 634 ls []) := by
                                intro   H locs ls hw hS hl
                                refine lv_iload hx hb dL_isWell_634 (lv_at hl 10 rfl) ?_
                                refine lv_aload_n hx hb dL_isWell_636 rfl (lv_at hl 0 rfl) ?_
                                refine g_Vi (n := 0) (As := []) (rest := [.int rr]) hx hb hml hown hts hE hw hS gL_isWell_X5_restsIn (c_X5_restsInV l G A _ hV hok.1) rfl (by decide +kernel) ⟨Nat.le_of_ble_eq_true rfl, Nat.le_of_ble_eq_true rfl⟩ (Nat.zero_lt_one) rfl rfl rfl rfl hl.1 rfl (Nat.le_of_ble_eq_true rfl) ⟨Nat.le_of_ble_eq_true rfl, Nat.le_of_ble_eq_true rfl⟩ dL_isWell_637 (fun x_637 τ_637 H locs hp_637 hw hS => ?_)
                                obtain ⟨ex_637, hV⟩ := hp_637
                                have K_651 : ∀ (H : Heap) (locs : List Loc) (ls : Array Slot), Wcel G τ_637 H → va_S A sS.heap H locs → lv_has ls 19 [(0, .ref (G.1 5 0)), (1, .int r1), (2, .int r2), (3, .int r3), (4, .int r4), (5, .int r5), (6, .int r6), (7, .int (nI 1)), (8, .int pw), (9, .int dd), (10, .int rr)] → W pP l eE { frames := 8, cells := 0, slots := 0, locals := 180 } sS mM args below meth cC H locs 0 0 (MQ below (va_Qi (fun r τ => r = nI 1 ∧ Vw τ a b sn t tx) (fun τ t => gP G A τ t) A) args sS 0 0 A) (F0 mM 651 ls []) := by
                                  intro   H locs ls hw hS hl
                                  refine lv_aload_n hx hb dL_isWell_651 rfl (lv_at hl 0 rfl) ?_
                                  refine g_Vd (n := 0) (As := []) (rest := []) hx hb hml hown hts hE hw hS gL_isWell_X5_meanShown (c_X5_meanShownV l G A _ hV) rfl (by decide +kernel) ⟨Nat.le_of_ble_eq_true rfl, Nat.le_of_ble_eq_true rfl⟩ (Nat.zero_lt_one) rfl rfl rfl rfl hl.1 rfl (Nat.le_of_ble_eq_true rfl) ⟨Nat.le_of_ble_eq_true rfl, Nat.le_of_ble_eq_true rfl⟩ dL_isWell_652 (fun x_652 τ_652 H locs hp_652 hw hS => ?_)
                                  obtain ⟨ex_652, hV⟩ := hp_652
                                  refine lv_iload hx hb dL_isWell_655 (lv_at hl 6 rfl) ?_
                                  refine lv_i2d hx hb dL_isWell_657 ?_
                                  refine lv_ldc2d hx hb hown (hts (.constantDouble RL 89 c288) (by decide +kernel)) dL_isWell_658 ?_
                                  refine lv_ddiv hx hb dL_isWell_661 (mean_num _) ?_
                                  refine lv_dcmp hx hb dL_isWell_662 ?_
                                  refine lv_topi (fun x_662 ex_662 => ?_)
                                  refine lv_if_ne (tgt := 670) hx hb dL_isWell_663 (by decide) (fun c_663 => ?_) (fun c_663 => ?_)
                                  · exact absurd (by rw [ex_662, ex_652, e6, tAll_row]; exact mean_dcmp _) c_663
                                  · refine lv_iconst (v := nI 1) hx hb dL_isWell_666 (by decide) ?_
                                    refine lv_goto (tgt := 671) hx hb dL_isWell_667 (by decide) ?_
                                    refine g_zret hx hb hr hlk hE hw hS rfl dL_isWell_671 ?_
                                    exact ⟨rfl, hV⟩
                                refine lv_if_ne (tgt := 647) hx hb dL_isWell_640 (by decide) (fun c_640 => ?_) (fun c_640 => ?_)
                                · refine lv_iconst (v := nI 0) hx hb dL_isWell_647 (by decide) ?_
                                  refine lv_icmp_ne (tgt := 670) hx hb dL_isWell_648 (by decide) (fun c_648 => ?_) (fun c_648 => ?_)
                                  · first | exact absurd (rt_1 hok er ex_637 (Decidable.not_not.mp c_640)) c_648 | exact absurd (rt_1 hok er ex_637 c_640) c_648 | exact absurd (rt_0 hok er ex_637 c_640) c_648
                                  · exact K_651   _ _ _ hw hS (lv_sub hl [0, 1, 2, 3, 4, 5, 6, 7, 8, 9, 10] rfl)
                                · refine lv_iconst (v := nI 1) hx hb dL_isWell_643 (by decide) ?_
                                  refine lv_goto (tgt := 648) hx hb dL_isWell_644 (by decide) ?_
                                  refine lv_icmp_ne (tgt := 670) hx hb dL_isWell_648 (by decide) (fun c_648 => ?_) (fun c_648 => ?_)
                                  · first | exact absurd (rt_1 hok er ex_637 (Decidable.not_not.mp c_640)) c_648 | exact absurd (rt_1 hok er ex_637 c_640) c_648 | exact absurd (rt_0 hok er ex_637 c_640) c_648
                                  · exact K_651   _ _ _ hw hS (lv_sub hl [0, 1, 2, 3, 4, 5, 6, 7, 8, 9, 10] rfl)
                              refine lv_icmp_ne (tgt := 630) hx hb dL_isWell_623 (by decide) (fun c_623 => ?_) (fun c_623 => ?_)
                              · refine lv_iconst (v := nI 0) hx hb dL_isWell_630 (by decide) ?_
                                refine lv_icmp_ne (tgt := 670) hx hb dL_isWell_631 (by decide) (fun c_631 => ?_) (fun c_631 => ?_)
                                · first | exact absurd (rs_c1 hok er ex_619 (Decidable.not_not.mp c_623)) c_631 | exact absurd (rs_c1 hok er ex_619 c_623) c_631 | exact absurd (rs_c0 hok er ex_619 c_623) c_631
                                · exact K_634   _ _ _ hw hS (lv_sub hl [0, 1, 2, 3, 4, 5, 6, 7, 8, 9, 10] rfl)
                              · refine lv_iconst (v := nI 1) hx hb dL_isWell_626 (by decide) ?_
                                refine lv_goto (tgt := 631) hx hb dL_isWell_627 (by decide) ?_
                                refine lv_icmp_ne (tgt := 670) hx hb dL_isWell_631 (by decide) (fun c_631 => ?_) (fun c_631 => ?_)
                                · first | exact absurd (rs_c1 hok er ex_619 (Decidable.not_not.mp c_623)) c_631 | exact absurd (rs_c1 hok er ex_619 c_623) c_631 | exact absurd (rs_c0 hok er ex_619 c_623) c_631
                                · exact K_634   _ _ _ hw hS (lv_sub hl [0, 1, 2, 3, 4, 5, 6, 7, 8, 9, 10] rfl)
            · have hz3 : z < 18 := c_364
              refine lv_aload_n hx hb dL_isWell_367 rfl (lv_at hl 0 rfl) ?_
              refine lv_iload hx hb dL_isWell_368 (lv_at hl 11 rfl) ?_
              refine lv_iconst (v := nI 0) hx hb dL_isWell_370 (by decide) ?_
              refine g_Vi (n := 2) (As := [.int (nI z), .int (nI 0)]) (rest := []) hx hb hml hown hts hE hw hS gL_isWell_X5_zone (c_X5_zoneV l G A _ (nI z) (nI 0) hV hok.1) rfl (by decide +kernel) ⟨Nat.le_of_ble_eq_true rfl, Nat.le_of_ble_eq_true rfl⟩ (Nat.zero_lt_one) rfl rfl rfl rfl hl.1 rfl (Nat.le_of_ble_eq_true rfl) ⟨Nat.le_of_ble_eq_true rfl, Nat.le_of_ble_eq_true rfl⟩ dL_isWell_371 (fun x_371 τ_371 H locs hp_371 hw hS => ?_)
              obtain ⟨ex_371, hV⟩ := hp_371
              obtain rfl : x_371 = a (288 + z) := ex_371.trans (zq_0 hz3)
              refine lv_istore (lv' := [(12, .int (a (288 + z))), (0, .ref (G.1 5 0)), (1, .int r1), (2, .int r2), (3, .int r3), (4, .int r4), (5, .int r5), (6, .int r6), (7, .int (nI 1)), (8, .int pw), (9, .int dd), (10, .int rr), (11, .int (nI z))]) hx hb dL_isWell_374 hl (by decide) rfl (fun ls hl => ?_)
              refine lv_iload hx hb dL_isWell_376 (lv_at hl 9 rfl) ?_
              refine lv_iload hx hb dL_isWell_378 (lv_at hl 0 rfl) ?_
              refine lv_iadd hx hb dL_isWell_380 ?_
              refine lv_topi (fun x_380 ex_380 => ?_)
              refine lv_istore (lv' := [(8, .int x_380), (12, .int (a (288 + z))), (0, .ref (G.1 5 0)), (1, .int r1), (2, .int r2), (3, .int r3), (4, .int r4), (5, .int r5), (6, .int r6), (7, .int (nI 1)), (9, .int dd), (10, .int rr), (11, .int (nI z))]) hx hb dL_isWell_381 hl (by decide) rfl (fun ls hl => ?_)
              refine lv_iload hx hb dL_isWell_383 (lv_at hl 10 rfl) ?_
              refine lv_aload_n hx hb dL_isWell_385 rfl (lv_at hl 2 rfl) ?_
              refine lv_iload hx hb dL_isWell_386 (lv_at hl 12 rfl) ?_
              refine lv_iconst (v := nI 3) hx hb dL_isWell_388 (by decide) ?_
              refine g_Vi (n := 2) (As := [.int (nI z), .int (nI 3)]) (rest := [.int dd]) hx hb hml hown hts hE hw hS gL_isWell_X5_zone (c_X5_zoneV l G A _ (nI z) (nI 3) hV hok.1) rfl (by decide +kernel) ⟨Nat.le_of_ble_eq_true rfl, Nat.le_of_ble_eq_true rfl⟩ (Nat.zero_lt_one) rfl rfl rfl rfl hl.1 rfl (Nat.le_of_ble_eq_true rfl) ⟨Nat.le_of_ble_eq_true rfl, Nat.le_of_ble_eq_true rfl⟩ dL_isWell_389 (fun x_389 τ_389 H locs hp_389 hw hS => ?_)
              obtain ⟨ex_389, hV⟩ := hp_389
              obtain rfl : x_389 = a (306 + z) := ex_389.trans (zq_3 hz3)
              refine lv_iadd hx hb dL_isWell_392 ?_
              refine lv_topi (fun x_392 ex_392 => ?_)
              refine lv_istore (lv' := [(9, .int x_392), (8, .int x_380), (12, .int (a (288 + z))), (0, .ref (G.1 5 0)), (1, .int r1), (2, .int r2), (3, .int r3), (4, .int r4), (5, .int r5), (6, .int r6), (7, .int (nI 1)), (10, .int rr), (11, .int (nI z))]) hx hb dL_isWell_393 hl (by decide) rfl (fun ls hl => ?_)
              refine lv_iload hx hb dL_isWell_395 (lv_at hl 11 rfl) ?_
              have K_417 : ∀ (r7 : Int32) (s3 : St), (Vw s3 a b sn t tx) → (bP r7 (restP a (z + 1))) → ∀ (H : Heap) (locs : List Loc) (ls : Array Slot), Wcel G s3 H → va_S A sS.heap H locs → lv_has ls 19 [(0, .ref (G.1 5 0)), (1, .int r1), (2, .int r2), (3, .int r3), (4, .int r4), (5, .int r5), (6, .int r6), (7, .int (nI 1)), (8, .int x_380), (9, .int x_392), (11, .int (nI z)), (12, .int (a (288 + z)))] → W pP l eE { frames := 8, cells := 0, slots := 0, locals := 180 } sS mM args below meth cC H locs 0 0 (MQ below (va_Qi (fun r τ => r = nI 1 ∧ Vw τ a b sn t tx) (fun τ t => gP G A τ t) A) args sS 0 0 A) (F0 mM 417 ls [.int r7]) := by
                intro r7 s3 hV er2 H locs ls hw hS hl
                refine lv_istore (lv' := [(10, .int r7), (0, .ref (G.1 5 0)), (1, .int r1), (2, .int r2), (3, .int r3), (4, .int r4), (5, .int r5), (6, .int r6), (7, .int (nI 1)), (8, .int x_380), (9, .int x_392), (11, .int (nI z)), (12, .int (a (288 + z)))]) hx hb dL_isWell_417 hl (by decide) rfl (fun ls hl => ?_)
                refine lv_iload hx hb dL_isWell_419 (lv_at hl 8 rfl) ?_
                refine n_if_eq (tgt := 529) hx hb dL_isWell_421 (by decide) (by omega) (fun c_421 => ?_) (fun c_421 => ?_)
                · exact absurd c_421 (by decide)
                · refine lv_iload hx hb dL_isWell_424 (lv_at hl 12 rfl) ?_
                  refine lv_if_lt (tgt := 529) hx hb dL_isWell_426 (by decide) (fun c_426 => ?_) (fun c_426 => ?_)
                  · exact absurd c_426 (lev_0 hok hz3)
                  · refine lv_iload hx hb dL_isWell_429 (lv_at hl 12 rfl) ?_
                    refine lv_sipush (v := nI 255) hx hb dL_isWell_431 (by decide) ?_
                    refine lv_icmp_gt (tgt := 529) hx hb dL_isWell_434 (by decide) (fun c_434 => ?_) (fun c_434 => ?_)
                    · exact absurd c_434 (lev_255 hok hz3)
                    · refine lv_aload_n hx hb dL_isWell_437 rfl (lv_at hl 1 rfl) ?_
                      refine lv_iload hx hb dL_isWell_438 (lv_at hl 11 rfl) ?_
                      refine lv_iconst (v := nI 1) hx hb dL_isWell_440 (by decide) ?_
                      refine g_Vi (n := 2) (As := [.int (nI z), .int (nI 1)]) (rest := []) hx hb hml hown hts hE hw hS gL_isWell_X5_zone (c_X5_zoneV l G A _ (nI z) (nI 1) hV hok.1) rfl (by decide +kernel) ⟨Nat.le_of_ble_eq_true rfl, Nat.le_of_ble_eq_true rfl⟩ (Nat.zero_lt_one) rfl rfl rfl rfl hl.1 rfl (Nat.le_of_ble_eq_true rfl) ⟨Nat.le_of_ble_eq_true rfl, Nat.le_of_ble_eq_true rfl⟩ dL_isWell_441 (fun x_441 τ_441 H locs hp_441 hw hS => ?_)
                      obtain ⟨ex_441, hV⟩ := hp_441
                      obtain rfl : x_441 = wantF a (a 327) z := ex_441.trans (zq_1 hz3)
                      refine lv_if_lt (tgt := 529) hx hb dL_isWell_444 (by decide) (fun c_444 => ?_) (fun c_444 => ?_)
                      · exact absurd c_444 (wan_0 hok z)
                      · refine lv_aload_n hx hb dL_isWell_447 rfl (lv_at hl 1 rfl) ?_
                        refine lv_iload hx hb dL_isWell_448 (lv_at hl 11 rfl) ?_
                        refine lv_iconst (v := nI 1) hx hb dL_isWell_450 (by decide) ?_
                        refine g_Vi (n := 2) (As := [.int (nI z), .int (nI 1)]) (rest := []) hx hb hml hown hts hE hw hS gL_isWell_X5_zone (c_X5_zoneV l G A _ (nI z) (nI 1) hV hok.1) rfl (by decide +kernel) ⟨Nat.le_of_ble_eq_true rfl, Nat.le_of_ble_eq_true rfl⟩ (Nat.zero_lt_one) rfl rfl rfl rfl hl.1 rfl (Nat.le_of_ble_eq_true rfl) ⟨Nat.le_of_ble_eq_true rfl, Nat.le_of_ble_eq_true rfl⟩ dL_isWell_451 (fun x_451 τ_451 H locs hp_451 hw hS => ?_)
                        obtain ⟨ex_451, hV⟩ := hp_451
                        obtain rfl : x_451 = wantF a (a 327) z := ex_451.trans (zq_1 hz3)
                        refine lv_sipush (v := nI 255) hx hb dL_isWell_454 (by decide) ?_
                        refine lv_icmp_gt (tgt := 529) hx hb dL_isWell_457 (by decide) (fun c_457 => ?_) (fun c_457 => ?_)
                        · exact absurd c_457 (wan_255 hok z)
                        · refine lv_aload_n hx hb dL_isWell_460 rfl (lv_at hl 1 rfl) ?_
                          refine lv_iload hx hb dL_isWell_461 (lv_at hl 11 rfl) ?_
                          refine lv_iconst (v := nI 3) hx hb dL_isWell_463 (by decide) ?_
                          refine g_Vi (n := 2) (As := [.int (nI z), .int (nI 3)]) (rest := []) hx hb hml hown hts hE hw hS gL_isWell_X5_zone (c_X5_zoneV l G A _ (nI z) (nI 3) hV hok.1) rfl (by decide +kernel) ⟨Nat.le_of_ble_eq_true rfl, Nat.le_of_ble_eq_true rfl⟩ (Nat.zero_lt_one) rfl rfl rfl rfl hl.1 rfl (Nat.le_of_ble_eq_true rfl) ⟨Nat.le_of_ble_eq_true rfl, Nat.le_of_ble_eq_true rfl⟩ dL_isWell_464 (fun x_464 τ_464 H locs hp_464 hw hS => ?_)
                          obtain ⟨ex_464, hV⟩ := hp_464
                          obtain rfl : x_464 = a (306 + z) := ex_464.trans (zq_3 hz3)
                          have K_485 : ∀  (s4 : St), (Vw s4 a b sn t tx) → ∀ (H : Heap) (locs : List Loc) (ls : Array Slot), Wcel G s4 H → va_S A sS.heap H locs → lv_has ls 19 [(0, .ref (G.1 5 0)), (1, .int r1), (2, .int r2), (3, .int r3), (4, .int r4), (5, .int r5), (6, .int r6), (7, .int (nI 1)), (8, .int x_380), (9, .int x_392), (10, .int r7), (11, .int (nI z)), (12, .int (a (288 + z)))] → W pP l eE { frames := 8, cells := 0, slots := 0, locals := 180 } sS mM args below meth cC H locs 0 0 (MQ below (va_Qi (fun r τ => r = nI 1 ∧ Vw τ a b sn t tx) (fun τ t => gP G A τ t) A) args sS 0 0 A) (F0 mM 485 ls []) := by
                            intro  s4 hV H locs ls hw hS hl
                            refine lv_aload_n hx hb dL_isWell_485 rfl (lv_at hl 0 rfl) ?_
                            refine lv_iload hx hb dL_isWell_486 (lv_at hl 11 rfl) ?_
                            refine lv_iconst (v := nI 5) hx hb dL_isWell_488 (by decide) ?_
                            refine g_Vi (n := 2) (As := [.int (nI z), .int (nI 5)]) (rest := []) hx hb hml hown hts hE hw hS gL_isWell_X5_zone (c_X5_zoneV l G A _ (nI z) (nI 5) hV hok.1) rfl (by decide +kernel) ⟨Nat.le_of_ble_eq_true rfl, Nat.le_of_ble_eq_true rfl⟩ (Nat.zero_lt_one) rfl rfl rfl rfl hl.1 rfl (Nat.le_of_ble_eq_true rfl) ⟨Nat.le_of_ble_eq_true rfl, Nat.le_of_ble_eq_true rfl⟩ dL_isWell_489 (fun x_489 τ_489 H locs hp_489 hw hS => ?_)
                            obtain ⟨ex_489, hV⟩ := hp_489
                            obtain rfl : x_489 = meanF a z := ex_489.trans (zq_5 hz3)
                            refine lv_aload_n hx hb dL_isWell_492 rfl (lv_at hl 0 rfl) ?_
                            refine lv_iload hx hb dL_isWell_493 (lv_at hl 11 rfl) ?_
                            refine lv_iconst (v := nI 4) hx hb dL_isWell_495 (by decide) ?_
                            refine g_Vi (n := 2) (As := [.int (nI z), .int (nI 4)]) (rest := [.int (meanF a z)]) hx hb hml hown hts hE hw hS gL_isWell_X5_zone (c_X5_zoneV l G A _ (nI z) (nI 4) hV hok.1) rfl (by decide +kernel) ⟨Nat.le_of_ble_eq_true rfl, Nat.le_of_ble_eq_true rfl⟩ (Nat.zero_lt_one) rfl rfl rfl rfl hl.1 rfl (Nat.le_of_ble_eq_true rfl) ⟨Nat.le_of_ble_eq_true rfl, Nat.le_of_ble_eq_true rfl⟩ dL_isWell_496 (fun x_496 τ_496 H locs hp_496 hw hS => ?_)
                            obtain ⟨ex_496, hV⟩ := hp_496
                            obtain rfl : x_496 = peakF a z := ex_496.trans (zq_4 hz3)
                            refine lv_icmp_gt (tgt := 529) hx hb dL_isWell_499 (by decide) (fun c_499 => ?_) (fun c_499 => ?_)
                            · exact absurd c_499 (mean_peak hok hz3)
                            · refine lv_aload_n hx hb dL_isWell_502 rfl (lv_at hl 0 rfl) ?_
                              refine lv_iload hx hb dL_isWell_503 (lv_at hl 11 rfl) ?_
                              refine lv_iconst (v := nI 2) hx hb dL_isWell_505 (by decide) ?_
                              refine g_Vi (n := 2) (As := [.int (nI z), .int (nI 2)]) (rest := []) hx hb hml hown hts hE hw hS gL_isWell_X5_zone (c_X5_zoneV l G A _ (nI z) (nI 2) hV hok.1) rfl (by decide +kernel) ⟨Nat.le_of_ble_eq_true rfl, Nat.le_of_ble_eq_true rfl⟩ (Nat.zero_lt_one) rfl rfl rfl rfl hl.1 rfl (Nat.le_of_ble_eq_true rfl) ⟨Nat.le_of_ble_eq_true rfl, Nat.le_of_ble_eq_true rfl⟩ dL_isWell_506 (fun x_506 τ_506 H locs hp_506 hw hS => ?_)
                              obtain ⟨ex_506, hV⟩ := hp_506
                              obtain rfl : x_506 = lightF a (levO a) z := ex_506.trans (zq_2 hz3)
                              refine lv_iload hx hb dL_isWell_509 (lv_at hl 12 rfl) ?_
                              refine lv_aload_n hx hb dL_isWell_511 rfl (lv_at hl 0 rfl) ?_
                              refine lv_bipush (v := nI 13) hx hb dL_isWell_512 (by decide) ?_
                              refine g_Vi (n := 1) (As := [.int (nI 13)]) (rest := [.int (a (288 + z)), .int (lightF a (levO a) z)]) hx hb hml hown hts hE hw hS gL_isWell_X5_count (c_X5_countV l G A _ (nI 13) hV hok.1) rfl (by decide +kernel) ⟨Nat.le_of_ble_eq_true rfl, Nat.le_of_ble_eq_true rfl⟩ (Nat.zero_lt_one) rfl rfl rfl rfl hl.1 rfl (Nat.le_of_ble_eq_true rfl) ⟨Nat.le_of_ble_eq_true rfl, Nat.le_of_ble_eq_true rfl⟩ dL_isWell_514 (fun x_514 τ_514 H locs hp_514 hw hS => ?_)
                              obtain ⟨ex_514, hV⟩ := hp_514
                              obtain ⟨n_514, ex_514⟩ := ex_514
                              obtain rfl : x_514 = a 324 := ex_514.trans (countQ_s (k := 13) (by decide) (by decide))
                              refine lv_imul hx hb dL_isWell_517 ?_
                              refine lv_topi (fun x_517 ex_517 => ?_)
                              refine lv_sipush (v := nI 256) hx hb dL_isWell_518 (by decide) ?_
                              refine lv_idiv hx hb dL_isWell_521 (by decide) ?_
                              refine lv_topi (fun x_521 ex_521 => ?_)
                              refine lv_icmp_lt (tgt := 529) hx hb dL_isWell_522 (by decide) (fun c_522 => ?_) (fun c_522 => ?_)
                              · exact absurd (by rw [ex_521, ex_517] at c_522; exact c_522) (light_ge hok hz3)
                              · refine lv_iconst (v := nI 1) hx hb dL_isWell_525 (by decide) ?_
                                refine lv_goto (tgt := 530) hx hb dL_isWell_526 (by decide) ?_
                                refine lv_istore (lv' := [(7, .int (nI 1)), (0, .ref (G.1 5 0)), (1, .int r1), (2, .int r2), (3, .int r3), (4, .int r4), (5, .int r5), (6, .int r6), (8, .int x_380), (9, .int x_392), (10, .int r7), (11, .int (nI z)), (12, .int (a (288 + z)))]) hx hb dL_isWell_530 hl (by decide) rfl (fun ls hl => ?_)
                                refine lv_iinc (v := nI (z + 1)) (lv' := [(11, .int (nI (z + 1))), (7, .int (nI 1)), (0, .ref (G.1 5 0)), (1, .int r1), (2, .int r2), (3, .int r3), (4, .int r4), (5, .int r5), (6, .int r6), (8, .int x_380), (9, .int x_392), (10, .int r7), (12, .int (a (288 + z)))]) hx hb dL_isWell_532 hl (k := 11) rfl (nI_add _ _) (by decide) rfl (fun ls hl => ?_)
                                refine lv_goto (tgt := 360) hx hb dL_isWell_535 (by decide) ?_
                                exact K_360 (z + 1) x_380 x_392 r7 _ (by first | omega | assumption | rfl) hV (by rw [ex_380, ep]; rfl) (by rw [ex_392, ed]; exact dead_m (hok.1.2.1 z hz3)) er2 (by omega) _ _ _ hw hS (lv_sub hl [2, 3, 4, 5, 6, 7, 8, 1, 9, 10, 11, 0] rfl)
                          refine lv_if_eq (tgt := 485) hx hb dL_isWell_467 (by decide) (fun c_467 => ?_) (fun c_467 => ?_)
                          · exact K_485  _ hV _ _ _ hw hS (lv_sub hl [1, 2, 3, 4, 5, 6, 7, 8, 9, 10, 0, 11, 12] rfl)
                          · refine lv_iload hx hb dL_isWell_470 (lv_at hl 12 rfl) ?_
                            refine lv_if_ne (tgt := 529) hx hb dL_isWell_472 (by decide) (fun c_472 => ?_) (fun c_472 => ?_)
                            · exact absurd (dead_l hok hz3 c_467) c_472
                            · refine lv_aload_n hx hb dL_isWell_475 rfl (lv_at hl 1 rfl) ?_
                              refine lv_iload hx hb dL_isWell_476 (lv_at hl 11 rfl) ?_
                              refine lv_iconst (v := nI 1) hx hb dL_isWell_478 (by decide) ?_
                              refine g_Vi (n := 2) (As := [.int (nI z), .int (nI 1)]) (rest := []) hx hb hml hown hts hE hw hS gL_isWell_X5_zone (c_X5_zoneV l G A _ (nI z) (nI 1) hV hok.1) rfl (by decide +kernel) ⟨Nat.le_of_ble_eq_true rfl, Nat.le_of_ble_eq_true rfl⟩ (Nat.zero_lt_one) rfl rfl rfl rfl hl.1 rfl (Nat.le_of_ble_eq_true rfl) ⟨Nat.le_of_ble_eq_true rfl, Nat.le_of_ble_eq_true rfl⟩ dL_isWell_479 (fun x_479 τ_479 H locs hp_479 hw hS => ?_)
                              obtain ⟨ex_479, hV⟩ := hp_479
                              obtain rfl : x_479 = wantF a (a 327) z := ex_479.trans (zq_1 hz3)
                              refine lv_if_ne (tgt := 529) hx hb dL_isWell_482 (by decide) (fun c_482 => ?_) (fun c_482 => ?_)
                              · exact absurd (dead_w c_467) c_482
                              · exact K_485  _ hV _ _ _ hw hS (lv_sub hl [1, 2, 3, 4, 5, 6, 7, 8, 9, 10, 0, 11, 12] rfl)
              refine lv_if_eq (tgt := 416) hx hb dL_isWell_397 (by decide) (fun c_397 => ?_) (fun c_397 => ?_)
              · refine lv_iconst (v := nI 0) hx hb dL_isWell_416 (by decide) ?_
                exact K_417 (nI 0) _ hV (by first | exact rs_0 er c_397 | exact rs_1 c_409 | exact rs_2 er c_397 (Decidable.not_not.mp c_409) | exact rs_2 er c_397 c_409) _ _ _ hw hS (lv_sub hl [3, 4, 5, 6, 7, 8, 9, 10, 1, 0, 12, 2] rfl)
              · refine lv_iload hx hb dL_isWell_400 (lv_at hl 2 rfl) ?_
                refine lv_aload_n hx hb dL_isWell_402 rfl (lv_at hl 3 rfl) ?_
                refine lv_iload hx hb dL_isWell_403 (lv_at hl 12 rfl) ?_
                refine lv_iconst (v := nI 1) hx hb dL_isWell_405 (by decide) ?_
                refine g_Vi (n := 2) (As := [.int (nI z), .int (nI 1)]) (rest := [.int (a (288 + z))]) hx hb hml hown hts hE hw hS gL_isWell_X5_zone (c_X5_zoneV l G A _ (nI z) (nI 1) hV hok.1) rfl (by decide +kernel) ⟨Nat.le_of_ble_eq_true rfl, Nat.le_of_ble_eq_true rfl⟩ (Nat.zero_lt_one) rfl rfl rfl rfl hl.1 rfl (Nat.le_of_ble_eq_true rfl) ⟨Nat.le_of_ble_eq_true rfl, Nat.le_of_ble_eq_true rfl⟩ dL_isWell_406 (fun x_406 τ_406 H locs hp_406 hw hS => ?_)
                obtain ⟨ex_406, hV⟩ := hp_406
                obtain rfl : x_406 = wantF a (a 327) z := ex_406.trans (zq_1 hz3)
                refine lv_icmp_ne (tgt := 416) hx hb dL_isWell_409 (by decide) (fun c_409 => ?_) (fun c_409 => ?_)
                · refine lv_iconst (v := nI 0) hx hb dL_isWell_416 (by decide) ?_
                  exact K_417 (nI 0) _ hV (by first | exact rs_0 er c_397 | exact rs_1 c_409 | exact rs_2 er c_397 (Decidable.not_not.mp c_409) | exact rs_2 er c_397 c_409) _ _ _ hw hS (lv_sub hl [3, 4, 5, 6, 7, 8, 9, 10, 1, 0, 12, 2] rfl)
                · refine lv_iconst (v := nI 1) hx hb dL_isWell_412 (by decide) ?_
                  refine lv_goto (tgt := 417) hx hb dL_isWell_413 (by decide) ?_
                  exact K_417 (nI 1) _ hV (by first | exact rs_0 er c_397 | exact rs_1 c_409 | exact rs_2 er c_397 (Decidable.not_not.mp c_409) | exact rs_2 er c_397 c_409) _ _ _ hw hS (lv_sub hl [3, 4, 5, 6, 7, 8, 9, 10, 1, 0, 12, 2] rfl)
        exact K_360 (18 - 0 + 1) 0 (nI 0) (nI 0) (nI 1) _ (by first | omega | assumption | rfl) hV rfl rfl (Or.inl ⟨rfl, fun q hq => absurd hq (Nat.not_lt_zero _)⟩) (Nat.lt_succ_self _) _ _ _ hw hS (lv_sub hl [4, 5, 6, 7, 8, 9, 10, 11, 3, 2, 1, 0] rfl)
      · have hk3 : k < 288 := c_26
        refine lv_iload hx hb dL_isWell_29 (lv_at hl 8 rfl) ?_
        refine lv_bipush (v := nI 24) hx hb dL_isWell_31 (by decide) ?_
        refine n_irem hx hb dL_isWell_33 (by omega) (by omega) (by omega) ?_
        refine lv_istore (lv' := [(9, .int (nI (k % 24))), (0, .ref (G.1 5 0)), (1, .int r1), (2, .int r2), (3, .int r3), (4, .int r4), (5, .int r5), (6, .int r6), (7, .int (nI 1)), (8, .int (nI k))]) hx hb dL_isWell_34 hl (by decide) rfl (fun ls hl => ?_)
        refine lv_iload hx hb dL_isWell_36 (lv_at hl 9 rfl) ?_
        refine lv_bipush (v := nI 24) hx hb dL_isWell_38 (by decide) ?_
        refine n_idiv hx hb dL_isWell_40 (by omega) (by omega) (by omega) ?_
        refine lv_istore (lv' := [(10, .int (nI (k / 24))), (9, .int (nI (k % 24))), (0, .ref (G.1 5 0)), (1, .int r1), (2, .int r2), (3, .int r3), (4, .int r4), (5, .int r5), (6, .int r6), (7, .int (nI 1)), (8, .int (nI k))]) hx hb dL_isWell_41 hl (by decide) rfl (fun ls hl => ?_)
        refine lv_iload hx hb dL_isWell_43 (lv_at hl 0 rfl) ?_
        refine lv_iconst (v := nI 4) hx hb dL_isWell_45 (by decide) ?_
        refine n_idiv hx hb dL_isWell_46 (by omega) (by omega) (by omega) ?_
        refine lv_bipush (v := nI 6) hx hb dL_isWell_47 (by decide) ?_
        refine n_imul hx hb dL_isWell_49 ?_
        refine lv_iload hx hb dL_isWell_50 (lv_at hl 1 rfl) ?_
        refine lv_iconst (v := nI 4) hx hb dL_isWell_52 (by decide) ?_
        refine n_idiv hx hb dL_isWell_53 (by omega) (by omega) (by omega) ?_
        refine n_iadd hx hb dL_isWell_54 ?_
        refine lv_istore (lv' := [(11, .int (nI ((((k / 24) / 4) * 6) + ((k % 24) / 4)))), (10, .int (nI (k / 24))), (9, .int (nI (k % 24))), (0, .ref (G.1 5 0)), (1, .int r1), (2, .int r2), (3, .int r3), (4, .int r4), (5, .int r5), (6, .int r6), (7, .int (nI 1)), (8, .int (nI k))]) hx hb dL_isWell_55 hl (by decide) rfl (fun ls hl => ?_)
        refine lv_aload_n hx hb dL_isWell_57 rfl (lv_at hl 3 rfl) ?_
        refine lv_iload hx hb dL_isWell_58 (lv_at hl 2 rfl) ?_
        refine lv_iload hx hb dL_isWell_60 (lv_at hl 1 rfl) ?_
        refine lv_iconst (v := nI 0) hx hb dL_isWell_62 (by decide) ?_
        refine g_Vi (n := 3) (As := [.int (nI (k % 24)), .int (nI (k / 24)), .int (nI 0)]) (rest := []) hx hb hml hown hts hE hw hS gL_isWell_X5_spot (c_X5_spotV l G A _ (nI (k % 24)) (nI (k / 24)) (nI 0) hV) rfl (by decide +kernel) ⟨Nat.le_of_ble_eq_true rfl, Nat.le_of_ble_eq_true rfl⟩ (Nat.zero_lt_one) rfl rfl rfl rfl hl.1 rfl (Nat.le_of_ble_eq_true rfl) ⟨Nat.le_of_ble_eq_true rfl, Nat.le_of_ble_eq_true rfl⟩ dL_isWell_63 (fun x_63 τ_63 H locs hp_63 hw hS => ?_)
        obtain ⟨ex_63, hV⟩ := hp_63
        obtain rfl : x_63 = a k := ex_63.trans (sp_0 hk3)
        refine lv_istore (lv' := [(12, .int (a k)), (11, .int (nI ((((k / 24) / 4) * 6) + ((k % 24) / 4)))), (10, .int (nI (k / 24))), (9, .int (nI (k % 24))), (0, .ref (G.1 5 0)), (1, .int r1), (2, .int r2), (3, .int r3), (4, .int r4), (5, .int r5), (6, .int r6), (7, .int (nI 1)), (8, .int (nI k))]) hx hb dL_isWell_66 hl (by decide) rfl (fun ls hl => ?_)
        refine lv_aload_n hx hb dL_isWell_68 rfl (lv_at hl 4 rfl) ?_
        refine lv_iload hx hb dL_isWell_69 (lv_at hl 3 rfl) ?_
        refine lv_iload hx hb dL_isWell_71 (lv_at hl 2 rfl) ?_
        refine lv_iconst (v := nI 1) hx hb dL_isWell_73 (by decide) ?_
        refine g_Vi (n := 3) (As := [.int (nI (k % 24)), .int (nI (k / 24)), .int (nI 1)]) (rest := []) hx hb hml hown hts hE hw hS gL_isWell_X5_spot (c_X5_spotV l G A _ (nI (k % 24)) (nI (k / 24)) (nI 1) hV) rfl (by decide +kernel) ⟨Nat.le_of_ble_eq_true rfl, Nat.le_of_ble_eq_true rfl⟩ (Nat.zero_lt_one) rfl rfl rfl rfl hl.1 rfl (Nat.le_of_ble_eq_true rfl) ⟨Nat.le_of_ble_eq_true rfl, Nat.le_of_ble_eq_true rfl⟩ dL_isWell_74 (fun x_74 τ_74 H locs hp_74 hw hS => ?_)
        obtain ⟨ex_74, hV⟩ := hp_74
        obtain rfl : x_74 = liA a k := ex_74.trans (sp_1 hk3)
        refine lv_istore (lv' := [(13, .int (liA a k)), (12, .int (a k)), (11, .int (nI ((((k / 24) / 4) * 6) + ((k % 24) / 4)))), (10, .int (nI (k / 24))), (9, .int (nI (k % 24))), (0, .ref (G.1 5 0)), (1, .int r1), (2, .int r2), (3, .int r3), (4, .int r4), (5, .int r5), (6, .int r6), (7, .int (nI 1)), (8, .int (nI k))]) hx hb dL_isWell_77 hl (by decide) rfl (fun ls hl => ?_)
        refine lv_aload_n hx hb dL_isWell_79 rfl (lv_at hl 5 rfl) ?_
        refine lv_iload hx hb dL_isWell_80 (lv_at hl 4 rfl) ?_
        refine lv_iload hx hb dL_isWell_82 (lv_at hl 3 rfl) ?_
        refine lv_iconst (v := nI 2) hx hb dL_isWell_84 (by decide) ?_
        refine g_Vi (n := 3) (As := [.int (nI (k % 24)), .int (nI (k / 24)), .int (nI 2)]) (rest := []) hx hb hml hown hts hE hw hS gL_isWell_X5_spot (c_X5_spotV l G A _ (nI (k % 24)) (nI (k / 24)) (nI 2) hV) rfl (by decide +kernel) ⟨Nat.le_of_ble_eq_true rfl, Nat.le_of_ble_eq_true rfl⟩ (Nat.zero_lt_one) rfl rfl rfl rfl hl.1 rfl (Nat.le_of_ble_eq_true rfl) ⟨Nat.le_of_ble_eq_true rfl, Nat.le_of_ble_eq_true rfl⟩ dL_isWell_85 (fun x_85 τ_85 H locs hp_85 hw hS => ?_)
        obtain ⟨ex_85, hV⟩ := hp_85
        obtain rfl : x_85 = glassF (a k) (liA a k) := ex_85.trans (sp_2 hk3)
        refine lv_istore (lv' := [(14, .int (glassF (a k) (liA a k))), (13, .int (liA a k)), (12, .int (a k)), (11, .int (nI ((((k / 24) / 4) * 6) + ((k % 24) / 4)))), (10, .int (nI (k / 24))), (9, .int (nI (k % 24))), (0, .ref (G.1 5 0)), (1, .int r1), (2, .int r2), (3, .int r3), (4, .int r4), (5, .int r5), (6, .int r6), (7, .int (nI 1)), (8, .int (nI k))]) hx hb dL_isWell_88 hl (by decide) rfl (fun ls hl => ?_)
        refine lv_aload_n hx hb dL_isWell_90 rfl (lv_at hl 6 rfl) ?_
        refine lv_iload hx hb dL_isWell_91 (lv_at hl 5 rfl) ?_
        refine lv_iload hx hb dL_isWell_93 (lv_at hl 4 rfl) ?_
        refine lv_iconst (v := nI 3) hx hb dL_isWell_95 (by decide) ?_
        refine g_Vi (n := 3) (As := [.int (nI (k % 24)), .int (nI (k / 24)), .int (nI 3)]) (rest := []) hx hb hml hown hts hE hw hS gL_isWell_X5_spot (c_X5_spotV l G A _ (nI (k % 24)) (nI (k / 24)) (nI 3) hV) rfl (by decide +kernel) ⟨Nat.le_of_ble_eq_true rfl, Nat.le_of_ble_eq_true rfl⟩ (Nat.zero_lt_one) rfl rfl rfl rfl hl.1 rfl (Nat.le_of_ble_eq_true rfl) ⟨Nat.le_of_ble_eq_true rfl, Nat.le_of_ble_eq_true rfl⟩ dL_isWell_96 (fun x_96 τ_96 H locs hp_96 hw hS => ?_)
        obtain ⟨ex_96, hV⟩ := hp_96
        obtain rfl : x_96 = shA a k := ex_96.trans (sp_3 hk3)
        refine lv_istore (lv' := [(15, .int (shA a k)), (14, .int (glassF (a k) (liA a k))), (13, .int (liA a k)), (12, .int (a k)), (11, .int (nI ((((k / 24) / 4) * 6) + ((k % 24) / 4)))), (10, .int (nI (k / 24))), (9, .int (nI (k % 24))), (0, .ref (G.1 5 0)), (1, .int r1), (2, .int r2), (3, .int r3), (4, .int r4), (5, .int r5), (6, .int r6), (7, .int (nI 1)), (8, .int (nI k))]) hx hb dL_isWell_99 hl (by decide) rfl (fun ls hl => ?_)
        refine lv_iload hx hb dL_isWell_101 (lv_at hl 0 rfl) ?_
        refine lv_iload hx hb dL_isWell_103 (lv_at hl 3 rfl) ?_
        have K_121 : ∀ (v : Int32), (v = byA a k) → ∀ (H : Heap) (locs : List Loc) (ls : Array Slot), Wcel G τ_96 H → va_S A sS.heap H locs → lv_has ls 19 [(0, .ref (G.1 5 0)), (1, .int r1), (2, .int r2), (3, .int r3), (4, .int r4), (5, .int r5), (6, .int r6), (7, .int (nI 1)), (8, .int (nI k)), (9, .int (nI (k % 24))), (10, .int (nI (k / 24))), (11, .int (nI ((((k / 24) / 4) * 6) + ((k % 24) / 4)))), (12, .int (a k)), (13, .int (liA a k)), (14, .int (glassF (a k) (liA a k))), (15, .int (shA a k))] → W pP l eE { frames := 8, cells := 0, slots := 0, locals := 180 } sS mM args below meth cC H locs 0 0 (MQ below (va_Qi (fun r τ => r = nI 1 ∧ Vw τ a b sn t tx) (fun τ t => gP G A τ t) A) args sS 0 0 A) (F0 mM 121 ls [.int v]) := by
          intro v ev H locs ls hw hS hl
          refine lv_istore (lv' := [(16, .int v), (0, .ref (G.1 5 0)), (1, .int r1), (2, .int r2), (3, .int r3), (4, .int r4), (5, .int r5), (6, .int r6), (7, .int (nI 1)), (8, .int (nI k)), (9, .int (nI (k % 24))), (10, .int (nI (k / 24))), (11, .int (nI ((((k / 24) / 4) * 6) + ((k % 24) / 4)))), (12, .int (a k)), (13, .int (liA a k)), (14, .int (glassF (a k) (liA a k))), (15, .int (shA a k))]) hx hb dL_isWell_121 hl (by decide) rfl (fun ls hl => ?_)
          refine lv_iload hx hb dL_isWell_123 (lv_at hl 14 rfl) ?_
          refine lv_iload hx hb dL_isWell_125 (lv_at hl 15 rfl) ?_
          refine lv_imul hx hb dL_isWell_127 ?_
          refine lv_topi (fun x_127 ex_127 => ?_)
          refine lv_sipush (v := nI 255) hx hb dL_isWell_128 (by decide) ?_
          refine lv_idiv hx hb dL_isWell_131 (by decide) ?_
          refine lv_topi (fun x_131 ex_131 => ?_)
          obtain rfl : x_131 = thA a k := by rw [ex_131, ex_127]; rfl
          refine lv_istore (lv' := [(17, .int (thA a k)), (16, .int v), (0, .ref (G.1 5 0)), (1, .int r1), (2, .int r2), (3, .int r3), (4, .int r4), (5, .int r5), (6, .int r6), (7, .int (nI 1)), (8, .int (nI k)), (9, .int (nI (k % 24))), (10, .int (nI (k / 24))), (11, .int (nI ((((k / 24) / 4) * 6) + ((k % 24) / 4)))), (12, .int (a k)), (13, .int (liA a k)), (14, .int (glassF (a k) (liA a k))), (15, .int (shA a k))]) hx hb dL_isWell_132 hl (by decide) rfl (fun ls hl => ?_)
          refine lv_aload_n hx hb dL_isWell_134 rfl (lv_at hl 2 rfl) ?_
          refine lv_iload hx hb dL_isWell_135 (lv_at hl 13 rfl) ?_
          refine lv_bipush (v := nI 6) hx hb dL_isWell_137 (by decide) ?_
          refine g_Vi (n := 2) (As := [.int (nI ((((k / 24) / 4) * 6) + ((k % 24) / 4))), .int (nI 6)]) (rest := []) hx hb hml hown hts hE hw hS gL_isWell_X5_zone (c_X5_zoneV l G A _ (nI ((((k / 24) / 4) * 6) + ((k % 24) / 4))) (nI 6) hV hok.1) rfl (by decide +kernel) ⟨Nat.le_of_ble_eq_true rfl, Nat.le_of_ble_eq_true rfl⟩ (Nat.zero_lt_one) rfl rfl rfl rfl hl.1 rfl (Nat.le_of_ble_eq_true rfl) ⟨Nat.le_of_ble_eq_true rfl, Nat.le_of_ble_eq_true rfl⟩ dL_isWell_139 (fun x_139 τ_139 H locs hp_139 hw hS => ?_)
          obtain ⟨ex_139, hV⟩ := hp_139
          obtain rfl : x_139 = leakF a (liA a k) := ex_139.trans (zo_6 hk3)
          refine lv_istore (lv' := [(18, .int (leakF a (liA a k))), (17, .int (thA a k)), (16, .int v), (0, .ref (G.1 5 0)), (1, .int r1), (2, .int r2), (3, .int r3), (4, .int r4), (5, .int r5), (6, .int r6), (7, .int (nI 1)), (8, .int (nI k)), (9, .int (nI (k % 24))), (10, .int (nI (k / 24))), (11, .int (nI ((((k / 24) / 4) * 6) + ((k % 24) / 4)))), (12, .int (a k)), (13, .int (liA a k)), (14, .int (glassF (a k) (liA a k))), (15, .int (shA a k))]) hx hb dL_isWell_142 hl (by decide) rfl (fun ls hl => ?_)
          refine lv_iload_n hx hb dL_isWell_144 rfl (lv_at hl 4 rfl) ?_
          refine lv_iload hx hb dL_isWell_145 (lv_at hl 2 rfl) ?_
          have K_155 : ∀ (c1 : Int32), (c1 = if byA a k = 0 then 1 else 0) → ∀ (H : Heap) (locs : List Loc) (ls : Array Slot), Wcel G τ_139 H → va_S A sS.heap H locs → lv_has ls 19 [(0, .ref (G.1 5 0)), (1, .int r1), (2, .int r2), (3, .int r3), (4, .int r4), (5, .int r5), (6, .int r6), (7, .int (nI 1)), (8, .int (nI k)), (9, .int (nI (k % 24))), (10, .int (nI (k / 24))), (11, .int (nI ((((k / 24) / 4) * 6) + ((k % 24) / 4)))), (12, .int (a k)), (13, .int (liA a k)), (14, .int (glassF (a k) (liA a k))), (15, .int (shA a k)), (16, .int v), (17, .int (thA a k)), (18, .int (leakF a (liA a k)))] → W pP l eE { frames := 8, cells := 0, slots := 0, locals := 180 } sS mM args below meth cC H locs 0 0 (MQ below (va_Qi (fun r τ => r = nI 1 ∧ Vw τ a b sn t tx) (fun τ t => gP G A τ t) A) args sS 0 0 A) (F0 mM 155 ls [.int c1, .int r1]) := by
            intro c1 ec1 H locs ls hw hS hl
            refine lv_iadd hx hb dL_isWell_155 ?_
            refine lv_topi (fun x_155 ex_155 => ?_)
            have g1 := st_right hok hk3 e1 ec1 ex_155
            refine lv_istore_n (lv' := [(1, .int x_155), (0, .ref (G.1 5 0)), (2, .int r2), (3, .int r3), (4, .int r4), (5, .int r5), (6, .int r6), (7, .int (nI 1)), (8, .int (nI k)), (9, .int (nI (k % 24))), (10, .int (nI (k / 24))), (11, .int (nI ((((k / 24) / 4) * 6) + ((k % 24) / 4)))), (12, .int (a k)), (13, .int (liA a k)), (14, .int (glassF (a k) (liA a k))), (15, .int (shA a k)), (16, .int v), (17, .int (thA a k)), (18, .int (leakF a (liA a k)))]) hx hb dL_isWell_156 rfl hl (by decide) rfl (fun ls hl => ?_)
            refine lv_iload_n hx hb dL_isWell_157 rfl (lv_at hl 2 rfl) ?_
            refine lv_iload hx hb dL_isWell_158 (lv_at hl 15 rfl) ?_
            refine lv_iload hx hb dL_isWell_160 (lv_at hl 12 rfl) ?_
            have K_170 : ∀ (c2 : Int32), (c2 = if shA a k < a k then 1 else 0) → ∀ (H : Heap) (locs : List Loc) (ls : Array Slot), Wcel G τ_139 H → va_S A sS.heap H locs → lv_has ls 19 [(0, .ref (G.1 5 0)), (1, .int x_155), (2, .int r2), (3, .int r3), (4, .int r4), (5, .int r5), (6, .int r6), (7, .int (nI 1)), (8, .int (nI k)), (9, .int (nI (k % 24))), (10, .int (nI (k / 24))), (11, .int (nI ((((k / 24) / 4) * 6) + ((k % 24) / 4)))), (12, .int (a k)), (13, .int (liA a k)), (14, .int (glassF (a k) (liA a k))), (15, .int (shA a k)), (16, .int v), (17, .int (thA a k)), (18, .int (leakF a (liA a k)))] → W pP l eE { frames := 8, cells := 0, slots := 0, locals := 180 } sS mM args below meth cC H locs 0 0 (MQ below (va_Qi (fun r τ => r = nI 1 ∧ Vw τ a b sn t tx) (fun τ t => gP G A τ t) A) args sS 0 0 A) (F0 mM 170 ls [.int c2, .int r2]) := by
              intro c2 ec2 H locs ls hw hS hl
              refine lv_iadd hx hb dL_isWell_170 ?_
              refine lv_topi (fun x_170 ex_170 => ?_)
              have g2 := st_dark hok hk3 e2 ec2 ex_170
              refine lv_istore_n (lv' := [(2, .int x_170), (0, .ref (G.1 5 0)), (1, .int x_155), (3, .int r3), (4, .int r4), (5, .int r5), (6, .int r6), (7, .int (nI 1)), (8, .int (nI k)), (9, .int (nI (k % 24))), (10, .int (nI (k / 24))), (11, .int (nI ((((k / 24) / 4) * 6) + ((k % 24) / 4)))), (12, .int (a k)), (13, .int (liA a k)), (14, .int (glassF (a k) (liA a k))), (15, .int (shA a k)), (16, .int v), (17, .int (thA a k)), (18, .int (leakF a (liA a k)))]) hx hb dL_isWell_171 rfl hl (by decide) rfl (fun ls hl => ?_)
              refine lv_iload_n hx hb dL_isWell_172 rfl (lv_at hl 3 rfl) ?_
              refine lv_iload hx hb dL_isWell_173 (lv_at hl 15 rfl) ?_
              refine lv_iload hx hb dL_isWell_175 (lv_at hl 12 rfl) ?_
              have K_185 : ∀ (c3 : Int32), (c3 = if a k < shA a k then 1 else 0) → ∀ (H : Heap) (locs : List Loc) (ls : Array Slot), Wcel G τ_139 H → va_S A sS.heap H locs → lv_has ls 19 [(0, .ref (G.1 5 0)), (1, .int x_155), (2, .int x_170), (3, .int r3), (4, .int r4), (5, .int r5), (6, .int r6), (7, .int (nI 1)), (8, .int (nI k)), (9, .int (nI (k % 24))), (10, .int (nI (k / 24))), (11, .int (nI ((((k / 24) / 4) * 6) + ((k % 24) / 4)))), (12, .int (a k)), (13, .int (liA a k)), (14, .int (glassF (a k) (liA a k))), (15, .int (shA a k)), (16, .int v), (17, .int (thA a k)), (18, .int (leakF a (liA a k)))] → W pP l eE { frames := 8, cells := 0, slots := 0, locals := 180 } sS mM args below meth cC H locs 0 0 (MQ below (va_Qi (fun r τ => r = nI 1 ∧ Vw τ a b sn t tx) (fun τ t => gP G A τ t) A) args sS 0 0 A) (F0 mM 185 ls [.int c3, .int r3]) := by
                intro c3 ec3 H locs ls hw hS hl
                refine lv_iadd hx hb dL_isWell_185 ?_
                refine lv_topi (fun x_185 ex_185 => ?_)
                have g3 := st_bright hok hk3 e3 ec3 ex_185
                refine lv_istore_n (lv' := [(3, .int x_185), (0, .ref (G.1 5 0)), (1, .int x_155), (2, .int x_170), (4, .int r4), (5, .int r5), (6, .int r6), (7, .int (nI 1)), (8, .int (nI k)), (9, .int (nI (k % 24))), (10, .int (nI (k / 24))), (11, .int (nI ((((k / 24) / 4) * 6) + ((k % 24) / 4)))), (12, .int (a k)), (13, .int (liA a k)), (14, .int (glassF (a k) (liA a k))), (15, .int (shA a k)), (16, .int v), (17, .int (thA a k)), (18, .int (leakF a (liA a k)))]) hx hb dL_isWell_186 rfl hl (by decide) rfl (fun ls hl => ?_)
                refine lv_iload hx hb dL_isWell_187 (lv_at hl 4 rfl) ?_
                refine lv_iload hx hb dL_isWell_189 (lv_at hl 16 rfl) ?_
                refine lv_iadd hx hb dL_isWell_191 ?_
                refine lv_topi (fun x_191 ex_191 => ?_)
                have g4 := st_off e4 (ex_191.trans (by rw [ev]))
                refine lv_istore (lv' := [(4, .int x_191), (3, .int x_185), (0, .ref (G.1 5 0)), (1, .int x_155), (2, .int x_170), (5, .int r5), (6, .int r6), (7, .int (nI 1)), (8, .int (nI k)), (9, .int (nI (k % 24))), (10, .int (nI (k / 24))), (11, .int (nI ((((k / 24) / 4) * 6) + ((k % 24) / 4)))), (12, .int (a k)), (13, .int (liA a k)), (14, .int (glassF (a k) (liA a k))), (15, .int (shA a k)), (16, .int v), (17, .int (thA a k)), (18, .int (leakF a (liA a k)))]) hx hb dL_isWell_192 hl (by decide) rfl (fun ls hl => ?_)
                refine lv_iload hx hb dL_isWell_194 (lv_at hl 16 rfl) ?_
                refine lv_iload hx hb dL_isWell_196 (lv_at hl 5 rfl) ?_
                have K_208 : ∀ (m5 : Int32), (m5 = imax r5 (byA a k)) → ∀ (H : Heap) (locs : List Loc) (ls : Array Slot), Wcel G τ_139 H → va_S A sS.heap H locs → lv_has ls 19 [(0, .ref (G.1 5 0)), (1, .int x_155), (2, .int x_170), (3, .int x_185), (4, .int x_191), (5, .int r5), (6, .int r6), (7, .int (nI 1)), (8, .int (nI k)), (9, .int (nI (k % 24))), (10, .int (nI (k / 24))), (11, .int (nI ((((k / 24) / 4) * 6) + ((k % 24) / 4)))), (12, .int (a k)), (13, .int (liA a k)), (14, .int (glassF (a k) (liA a k))), (15, .int (shA a k)), (16, .int v), (17, .int (thA a k)), (18, .int (leakF a (liA a k)))] → W pP l eE { frames := 8, cells := 0, slots := 0, locals := 180 } sS mM args below meth cC H locs 0 0 (MQ below (va_Qi (fun r τ => r = nI 1 ∧ Vw τ a b sn t tx) (fun τ t => gP G A τ t) A) args sS 0 0 A) (F0 mM 208 ls [.int m5]) := by
                  intro m5 em5 H locs ls hw hS hl
                  have g5 := st_most e5 em5
                  refine lv_istore (lv' := [(5, .int m5), (0, .ref (G.1 5 0)), (1, .int x_155), (2, .int x_170), (3, .int x_185), (4, .int x_191), (6, .int r6), (7, .int (nI 1)), (8, .int (nI k)), (9, .int (nI (k % 24))), (10, .int (nI (k / 24))), (11, .int (nI ((((k / 24) / 4) * 6) + ((k % 24) / 4)))), (12, .int (a k)), (13, .int (liA a k)), (14, .int (glassF (a k) (liA a k))), (15, .int (shA a k)), (16, .int v), (17, .int (thA a k)), (18, .int (leakF a (liA a k)))]) hx hb dL_isWell_208 hl (by decide) rfl (fun ls hl => ?_)
                  refine lv_iload hx hb dL_isWell_210 (lv_at hl 6 rfl) ?_
                  refine lv_iload hx hb dL_isWell_212 (lv_at hl 15 rfl) ?_
                  refine lv_iadd hx hb dL_isWell_214 ?_
                  refine lv_topi (fun x_214 ex_214 => ?_)
                  have g6 := st_shown e6 ex_214
                  refine lv_istore (lv' := [(6, .int x_214), (5, .int m5), (0, .ref (G.1 5 0)), (1, .int x_155), (2, .int x_170), (3, .int x_185), (4, .int x_191), (7, .int (nI 1)), (8, .int (nI k)), (9, .int (nI (k % 24))), (10, .int (nI (k / 24))), (11, .int (nI ((((k / 24) / 4) * 6) + ((k % 24) / 4)))), (12, .int (a k)), (13, .int (liA a k)), (14, .int (glassF (a k) (liA a k))), (15, .int (shA a k)), (16, .int v), (17, .int (thA a k)), (18, .int (leakF a (liA a k)))]) hx hb dL_isWell_215 hl (by decide) rfl (fun ls hl => ?_)
                  refine lv_iload hx hb dL_isWell_217 (lv_at hl 7 rfl) ?_
                  refine n_if_eq (tgt := 339) hx hb dL_isWell_219 (by decide) (by omega) (fun c_219 => ?_) (fun c_219 => ?_)
                  · exact absurd c_219 (by decide)
                  · refine lv_iload hx hb dL_isWell_222 (lv_at hl 13 rfl) ?_
                    refine lv_aload_n hx hb dL_isWell_224 rfl (lv_at hl 2 rfl) ?_
                    refine lv_iload hx hb dL_isWell_225 (lv_at hl 11 rfl) ?_
                    refine lv_iconst (v := nI 2) hx hb dL_isWell_227 (by decide) ?_
                    refine g_Vi (n := 2) (As := [.int (nI ((((k / 24) / 4) * 6) + ((k % 24) / 4))), .int (nI 2)]) (rest := [.int (liA a k)]) hx hb hml hown hts hE hw hS gL_isWell_X5_zone (c_X5_zoneV l G A _ (nI ((((k / 24) / 4) * 6) + ((k % 24) / 4))) (nI 2) hV hok.1) rfl (by decide +kernel) ⟨Nat.le_of_ble_eq_true rfl, Nat.le_of_ble_eq_true rfl⟩ (Nat.zero_lt_one) rfl rfl rfl rfl hl.1 rfl (Nat.le_of_ble_eq_true rfl) ⟨Nat.le_of_ble_eq_true rfl, Nat.le_of_ble_eq_true rfl⟩ dL_isWell_228 (fun x_228 τ_228 H locs hp_228 hw hS => ?_)
                    obtain ⟨ex_228, hV⟩ := hp_228
                    obtain rfl : x_228 = liA a k := ex_228.trans (zo_2 hk3)
                    refine lv_icmp_ne (tgt := 339) hx hb dL_isWell_231 (by decide) (fun c_231 => ?_) (fun c_231 => ?_)
                    · exact absurd rfl c_231
                    · refine lv_iload hx hb dL_isWell_234 (lv_at hl 18 rfl) ?_
                      refine lv_iload hx hb dL_isWell_236 (lv_at hl 13 rfl) ?_
                      refine lv_aload_n hx hb dL_isWell_238 rfl (lv_at hl 2 rfl) ?_
                      refine lv_bipush (v := nI 18) hx hb dL_isWell_239 (by decide) ?_
                      refine g_Vi (n := 1) (As := [.int (nI 18)]) (rest := [.int (liA a k), .int (leakF a (liA a k))]) hx hb hml hown hts hE hw hS gL_isWell_X5_count (c_X5_countV l G A _ (nI 18) hV hok.1) rfl (by decide +kernel) ⟨Nat.le_of_ble_eq_true rfl, Nat.le_of_ble_eq_true rfl⟩ (Nat.zero_lt_one) rfl rfl rfl rfl hl.1 rfl (Nat.le_of_ble_eq_true rfl) ⟨Nat.le_of_ble_eq_true rfl, Nat.le_of_ble_eq_true rfl⟩ dL_isWell_241 (fun x_241 τ_241 H locs hp_241 hw hS => ?_)
                      obtain ⟨ex_241, hV⟩ := hp_241
                      obtain ⟨n_241, ex_241⟩ := ex_241
                      obtain rfl : x_241 = a 329 := ex_241.trans (countQ_s (k := 18) (by decide) (by decide))
                      refine lv_imul hx hb dL_isWell_244 ?_
                      refine lv_topi (fun x_244 ex_244 => ?_)
                      refine lv_sipush (v := nI 1000) hx hb dL_isWell_245 (by decide) ?_
                      refine lv_idiv hx hb dL_isWell_248 (by decide) ?_
                      refine lv_topi (fun x_248 ex_248 => ?_)
                      obtain rfl : x_248 = leakF a (liA a k) := by rw [ex_248, ex_244]; rfl
                      refine lv_icmp_ne (tgt := 339) hx hb dL_isWell_249 (by decide) (fun c_249 => ?_) (fun c_249 => ?_)
                      · exact absurd rfl c_249
                      · refine lv_iload hx hb dL_isWell_252 (lv_at hl 17 rfl) ?_
                        refine lv_iload hx hb dL_isWell_254 (lv_at hl 13 rfl) ?_
                        refine lv_iload hx hb dL_isWell_256 (lv_at hl 12 rfl) ?_
                        have K_271 : ∀ (H : Heap) (locs : List Loc) (ls : Array Slot), Wcel G τ_241 H → va_S A sS.heap H locs → lv_has ls 19 [(0, .ref (G.1 5 0)), (1, .int x_155), (2, .int x_170), (3, .int x_185), (4, .int x_191), (5, .int m5), (6, .int x_214), (7, .int (nI 1)), (8, .int (nI k)), (9, .int (nI (k % 24))), (10, .int (nI (k / 24))), (11, .int (nI ((((k / 24) / 4) * 6) + ((k % 24) / 4)))), (12, .int (a k)), (13, .int (liA a k)), (14, .int (glassF (a k) (liA a k))), (15, .int (shA a k)), (16, .int v), (17, .int (thA a k)), (18, .int (leakF a (liA a k)))] → W pP l eE { frames := 8, cells := 0, slots := 0, locals := 180 } sS mM args below meth cC H locs 0 0 (MQ below (va_Qi (fun r τ => r = nI 1 ∧ Vw τ a b sn t tx) (fun τ t => gP G A τ t) A) args sS 0 0 A) (F0 mM 271 ls []) := by
                          intro   H locs ls hw hS hl
                          refine lv_iload hx hb dL_isWell_271 (lv_at hl 15 rfl) ?_
                          refine lv_iload hx hb dL_isWell_273 (lv_at hl 17 rfl) ?_
                          refine lv_iload hx hb dL_isWell_275 (lv_at hl 18 rfl) ?_
                          have K_290 : ∀ (H : Heap) (locs : List Loc) (ls : Array Slot), Wcel G τ_241 H → va_S A sS.heap H locs → lv_has ls 19 [(0, .ref (G.1 5 0)), (1, .int x_155), (2, .int x_170), (3, .int x_185), (4, .int x_191), (5, .int m5), (6, .int x_214), (7, .int (nI 1)), (8, .int (nI k)), (9, .int (nI (k % 24))), (10, .int (nI (k / 24))), (11, .int (nI ((((k / 24) / 4) * 6) + ((k % 24) / 4)))), (12, .int (a k)), (13, .int (liA a k)), (14, .int (glassF (a k) (liA a k))), (15, .int (shA a k)), (16, .int v), (17, .int (thA a k)), (18, .int (leakF a (liA a k)))] → W pP l eE { frames := 8, cells := 0, slots := 0, locals := 180 } sS mM args below meth cC H locs 0 0 (MQ below (va_Qi (fun r τ => r = nI 1 ∧ Vw τ a b sn t tx) (fun τ t => gP G A τ t) A) args sS 0 0 A) (F0 mM 290 ls []) := by
                            intro   H locs ls hw hS hl
                            refine lv_aload_n hx hb dL_isWell_290 rfl (lv_at hl 0 rfl) ?_
                            refine lv_iload hx hb dL_isWell_291 (lv_at hl 9 rfl) ?_
                            refine lv_iload hx hb dL_isWell_293 (lv_at hl 10 rfl) ?_
                            refine lv_iconst (v := nI 4) hx hb dL_isWell_295 (by decide) ?_
                            refine g_Vi (n := 3) (As := [.int (nI (k % 24)), .int (nI (k / 24)), .int (nI 4)]) (rest := []) hx hb hml hown hts hE hw hS gL_isWell_X5_spot (c_X5_spotV l G A _ (nI (k % 24)) (nI (k / 24)) (nI 4) hV) rfl (by decide +kernel) ⟨Nat.le_of_ble_eq_true rfl, Nat.le_of_ble_eq_true rfl⟩ (Nat.zero_lt_one) rfl rfl rfl rfl hl.1 rfl (Nat.le_of_ble_eq_true rfl) ⟨Nat.le_of_ble_eq_true rfl, Nat.le_of_ble_eq_true rfl⟩ dL_isWell_296 (fun x_296 τ_296 H locs hp_296 hw hS => ?_)
                            obtain ⟨ex_296, hV⟩ := hp_296
                            obtain rfl : x_296 = verdF (a k) (shA a k) := ex_296.trans (sp_4 hk3)
                            refine lv_iload hx hb dL_isWell_299 (lv_at hl 16 rfl) ?_
                            have K_323 : ∀ (H : Heap) (locs : List Loc) (ls : Array Slot), Wcel G τ_296 H → va_S A sS.heap H locs → lv_has ls 19 [(0, .ref (G.1 5 0)), (1, .int x_155), (2, .int x_170), (3, .int x_185), (4, .int x_191), (5, .int m5), (6, .int x_214), (7, .int (nI 1)), (8, .int (nI k)), (9, .int (nI (k % 24))), (10, .int (nI (k / 24))), (11, .int (nI ((((k / 24) / 4) * 6) + ((k % 24) / 4)))), (12, .int (a k)), (13, .int (liA a k)), (14, .int (glassF (a k) (liA a k))), (15, .int (shA a k)), (16, .int v), (17, .int (thA a k)), (18, .int (leakF a (liA a k)))] → W pP l eE { frames := 8, cells := 0, slots := 0, locals := 180 } sS mM args below meth cC H locs 0 0 (MQ below (va_Qi (fun r τ => r = nI 1 ∧ Vw τ a b sn t tx) (fun τ t => gP G A τ t) A) args sS 0 0 A) (F0 mM 323 ls []) := by
                              intro   H locs ls hw hS hl
                              refine lv_iload hx hb dL_isWell_323 (lv_at hl 12 rfl) ?_
                              refine lv_aload_n hx hb dL_isWell_325 rfl (lv_at hl 0 rfl) ?_
                              refine lv_iload hx hb dL_isWell_326 (lv_at hl 11 rfl) ?_
                              refine lv_iconst (v := nI 4) hx hb dL_isWell_328 (by decide) ?_
                              refine g_Vi (n := 2) (As := [.int (nI ((((k / 24) / 4) * 6) + ((k % 24) / 4))), .int (nI 4)]) (rest := [.int (a k)]) hx hb hml hown hts hE hw hS gL_isWell_X5_zone (c_X5_zoneV l G A _ (nI ((((k / 24) / 4) * 6) + ((k % 24) / 4))) (nI 4) hV hok.1) rfl (by decide +kernel) ⟨Nat.le_of_ble_eq_true rfl, Nat.le_of_ble_eq_true rfl⟩ (Nat.zero_lt_one) rfl rfl rfl rfl hl.1 rfl (Nat.le_of_ble_eq_true rfl) ⟨Nat.le_of_ble_eq_true rfl, Nat.le_of_ble_eq_true rfl⟩ dL_isWell_329 (fun x_329 τ_329 H locs hp_329 hw hS => ?_)
                              obtain ⟨ex_329, hV⟩ := hp_329
                              obtain rfl : x_329 = peakF a (zoneN k) := ex_329.trans (zo_4 hk3)
                              refine lv_icmp_gt (tgt := 339) hx hb dL_isWell_332 (by decide) (fun c_332 => ?_) (fun c_332 => ?_)
                              · exact absurd c_332 (Int32.not_lt.mpr (peak_ge hk3))
                              · refine lv_iconst (v := nI 1) hx hb dL_isWell_335 (by decide) ?_
                                refine lv_goto (tgt := 340) hx hb dL_isWell_336 (by decide) ?_
                                refine lv_istore (lv' := [(7, .int (nI 1)), (0, .ref (G.1 5 0)), (1, .int x_155), (2, .int x_170), (3, .int x_185), (4, .int x_191), (5, .int m5), (6, .int x_214), (8, .int (nI k)), (9, .int (nI (k % 24))), (10, .int (nI (k / 24))), (11, .int (nI ((((k / 24) / 4) * 6) + ((k % 24) / 4)))), (12, .int (a k)), (13, .int (liA a k)), (14, .int (glassF (a k) (liA a k))), (15, .int (shA a k)), (16, .int v), (17, .int (thA a k)), (18, .int (leakF a (liA a k)))]) hx hb dL_isWell_340 hl (by decide) rfl (fun ls hl => ?_)
                                refine lv_iinc (v := nI (k + 1)) (lv' := [(8, .int (nI (k + 1))), (7, .int (nI 1)), (0, .ref (G.1 5 0)), (1, .int x_155), (2, .int x_170), (3, .int x_185), (4, .int x_191), (5, .int m5), (6, .int x_214), (9, .int (nI (k % 24))), (10, .int (nI (k / 24))), (11, .int (nI ((((k / 24) / 4) * 6) + ((k % 24) / 4)))), (12, .int (a k)), (13, .int (liA a k)), (14, .int (glassF (a k) (liA a k))), (15, .int (shA a k)), (16, .int v), (17, .int (thA a k)), (18, .int (leakF a (liA a k)))]) hx hb dL_isWell_342 hl (k := 8) rfl (nI_add _ _) (by decide) rfl (fun ls hl => ?_)
                                refine lv_goto (tgt := 21) hx hb dL_isWell_345 (by decide) ?_
                                exact K_21 (k + 1) x_155 x_170 x_185 x_191 m5 x_214 _ (by first | omega | assumption | rfl) hV g1 g2 g3 g4 g5 g6 (by omega) _ _ _ hw hS (lv_sub hl [2, 3, 4, 5, 6, 7, 8, 1, 0] rfl)
                            refine lv_if_ne (tgt := 308) hx hb dL_isWell_301 (by decide) (fun c_301 => ?_) (fun c_301 => ?_)
                            · refine lv_iload hx hb dL_isWell_308 (lv_at hl 15 rfl) ?_
                              refine lv_iload hx hb dL_isWell_310 (lv_at hl 12 rfl) ?_
                              refine lv_icmp_ge (tgt := 319) hx hb dL_isWell_312 (by decide) (fun c_312 => ?_) (fun c_312 => ?_)
                              · refine lv_iconst (v := nI 2) hx hb dL_isWell_319 (by decide) ?_
                                refine lv_icmp_ne (tgt := 339) hx hb dL_isWell_320 (by decide) (fun c_320 => ?_) (fun c_320 => ?_)
                                · first | exact absurd (vd_00 hok hk3 (ev.symm.trans c_301)) c_320 | exact absurd (vd_1 hok hk3 (fun q => c_301 (ev.trans q)) (Int32.not_le.mp c_312)) c_320 | exact absurd (vd_2 hok hk3 (fun q => c_301 (ev.trans q)) (Int32.not_lt.mpr c_312)) c_320
                                · exact K_323   _ _ _ hw hS (lv_sub hl [0, 1, 2, 3, 4, 5, 6, 7, 8, 9, 10, 11, 12, 13, 14, 15, 16, 17, 18] rfl)
                              · refine lv_iconst (v := nI 1) hx hb dL_isWell_315 (by decide) ?_
                                refine lv_goto (tgt := 320) hx hb dL_isWell_316 (by decide) ?_
                                refine lv_icmp_ne (tgt := 339) hx hb dL_isWell_320 (by decide) (fun c_320 => ?_) (fun c_320 => ?_)
                                · first | exact absurd (vd_00 hok hk3 (ev.symm.trans c_301)) c_320 | exact absurd (vd_1 hok hk3 (fun q => c_301 (ev.trans q)) (Int32.not_le.mp c_312)) c_320 | exact absurd (vd_2 hok hk3 (fun q => c_301 (ev.trans q)) (Int32.not_lt.mpr c_312)) c_320
                                · exact K_323   _ _ _ hw hS (lv_sub hl [0, 1, 2, 3, 4, 5, 6, 7, 8, 9, 10, 11, 12, 13, 14, 15, 16, 17, 18] rfl)
                            · refine lv_iconst (v := nI 0) hx hb dL_isWell_304 (by decide) ?_
                              refine lv_goto (tgt := 320) hx hb dL_isWell_305 (by decide) ?_
                              refine lv_icmp_ne (tgt := 339) hx hb dL_isWell_320 (by decide) (fun c_320 => ?_) (fun c_320 => ?_)
                              · first | exact absurd (vd_00 hok hk3 (ev.symm.trans c_301)) c_320 | exact absurd (vd_1 hok hk3 (fun q => c_301 (ev.trans q)) (Int32.not_le.mp c_312)) c_320 | exact absurd (vd_2 hok hk3 (fun q => c_301 (ev.trans q)) (Int32.not_lt.mpr c_312)) c_320
                              · exact K_323   _ _ _ hw hS (lv_sub hl [0, 1, 2, 3, 4, 5, 6, 7, 8, 9, 10, 11, 12, 13, 14, 15, 16, 17, 18] rfl)
                          refine lv_icmp_ge (tgt := 285) hx hb dL_isWell_277 (by decide) (fun c_277 => ?_) (fun c_277 => ?_)
                          · refine lv_iload hx hb dL_isWell_285 (lv_at hl 17 rfl) ?_
                            refine lv_icmp_ne (tgt := 339) hx hb dL_isWell_287 (by decide) (fun c_287 => ?_) (fun c_287 => ?_)
                            · first | exact absurd (sh_l hok hk3 (Int32.not_le.mp c_277)) c_287 | exact absurd (sh_t hok hk3 c_277) c_287
                            · exact K_290   _ _ _ hw hS (lv_sub hl [0, 1, 2, 3, 4, 5, 6, 7, 8, 9, 10, 11, 12, 13, 14, 15, 16, 17, 18] rfl)
                          · refine lv_iload hx hb dL_isWell_280 (lv_at hl 18 rfl) ?_
                            refine lv_goto (tgt := 287) hx hb dL_isWell_282 (by decide) ?_
                            refine lv_icmp_ne (tgt := 339) hx hb dL_isWell_287 (by decide) (fun c_287 => ?_) (fun c_287 => ?_)
                            · first | exact absurd (sh_l hok hk3 (Int32.not_le.mp c_277)) c_287 | exact absurd (sh_t hok hk3 c_277) c_287
                            · exact K_290   _ _ _ hw hS (lv_sub hl [0, 1, 2, 3, 4, 5, 6, 7, 8, 9, 10, 11, 12, 13, 14, 15, 16, 17, 18] rfl)
                        refine lv_icmp_ge (tgt := 266) hx hb dL_isWell_258 (by decide) (fun c_258 => ?_) (fun c_258 => ?_)
                        · refine lv_iload hx hb dL_isWell_266 (lv_at hl 12 rfl) ?_
                          refine lv_icmp_ne (tgt := 339) hx hb dL_isWell_268 (by decide) (fun c_268 => ?_) (fun c_268 => ?_)
                          · first | exact absurd (TH_1 hok hk3 (Int32.not_le.mp c_258)) c_268 | exact absurd (TH_1 hok hk3 c_258) c_268 | exact absurd (TH_2 hok hk3 (Int32.not_lt.mpr c_258)) c_268 | exact absurd (TH_2 hok hk3 c_258) c_268
                          · exact K_271   _ _ _ hw hS (lv_sub hl [2, 3, 4, 5, 6, 1, 0, 7, 8, 9, 10, 11, 12, 13, 14, 15, 16, 17, 18] rfl)
                        · refine lv_iload hx hb dL_isWell_261 (lv_at hl 13 rfl) ?_
                          refine lv_goto (tgt := 268) hx hb dL_isWell_263 (by decide) ?_
                          refine lv_icmp_ne (tgt := 339) hx hb dL_isWell_268 (by decide) (fun c_268 => ?_) (fun c_268 => ?_)
                          · first | exact absurd (TH_1 hok hk3 (Int32.not_le.mp c_258)) c_268 | exact absurd (TH_1 hok hk3 c_258) c_268 | exact absurd (TH_2 hok hk3 (Int32.not_lt.mpr c_258)) c_268 | exact absurd (TH_2 hok hk3 c_258) c_268
                          · exact K_271   _ _ _ hw hS (lv_sub hl [2, 3, 4, 5, 6, 1, 0, 7, 8, 9, 10, 11, 12, 13, 14, 15, 16, 17, 18] rfl)
                refine lv_icmp_le (tgt := 206) hx hb dL_isWell_198 (by decide) (fun c_198 => ?_) (fun c_198 => ?_)
                · refine lv_iload hx hb dL_isWell_206 (lv_at hl 5 rfl) ?_
                  exact K_208 r5 (by rw [← ev]; first | exact (if_pos (Int32.not_le.mp c_198)).symm | exact (if_neg (Int32.not_lt.mpr c_198)).symm) _ _ _ hw hS (lv_sub hl [2, 3, 4, 1, 0, 5, 6, 7, 8, 9, 10, 11, 12, 13, 14, 15, 16, 17, 18] rfl)
                · refine lv_iload hx hb dL_isWell_201 (lv_at hl 16 rfl) ?_
                  refine lv_goto (tgt := 208) hx hb dL_isWell_203 (by decide) ?_
                  exact K_208 v (by rw [← ev]; first | exact (if_pos (Int32.not_le.mp c_198)).symm | exact (if_neg (Int32.not_lt.mpr c_198)).symm) _ _ _ hw hS (lv_sub hl [2, 3, 4, 1, 0, 5, 6, 7, 8, 9, 10, 11, 12, 13, 14, 15, 16, 17, 18] rfl)
              refine lv_icmp_le (tgt := 184) hx hb dL_isWell_177 (by decide) (fun c_177 => ?_) (fun c_177 => ?_)
              · refine lv_iconst (v := nI 0) hx hb dL_isWell_184 (by decide) ?_
                exact K_185 (nI 0) (by first | (rw [if_pos (Int32.not_le.mp c_177)]; rfl) | (rw [if_pos c_177]; rfl) | (rw [if_neg (Int32.not_lt.mpr c_177)]; rfl) | (rw [if_neg c_177]; rfl)) _ _ _ hw hS (lv_sub hl [1, 2, 0, 3, 4, 5, 6, 7, 8, 9, 10, 11, 12, 13, 14, 15, 16, 17, 18] rfl)
              · refine lv_iconst (v := nI 1) hx hb dL_isWell_180 (by decide) ?_
                refine lv_goto (tgt := 185) hx hb dL_isWell_181 (by decide) ?_
                exact K_185 (nI 1) (by first | (rw [if_pos (Int32.not_le.mp c_177)]; rfl) | (rw [if_pos c_177]; rfl) | (rw [if_neg (Int32.not_lt.mpr c_177)]; rfl) | (rw [if_neg c_177]; rfl)) _ _ _ hw hS (lv_sub hl [1, 2, 0, 3, 4, 5, 6, 7, 8, 9, 10, 11, 12, 13, 14, 15, 16, 17, 18] rfl)
            refine lv_icmp_ge (tgt := 169) hx hb dL_isWell_162 (by decide) (fun c_162 => ?_) (fun c_162 => ?_)
            · refine lv_iconst (v := nI 0) hx hb dL_isWell_169 (by decide) ?_
              exact K_170 (nI 0) (by first | (rw [if_pos (Int32.not_le.mp c_162)]; rfl) | (rw [if_pos c_162]; rfl) | (rw [if_neg (Int32.not_lt.mpr c_162)]; rfl) | (rw [if_neg c_162]; rfl)) _ _ _ hw hS (lv_sub hl [1, 0, 2, 3, 4, 5, 6, 7, 8, 9, 10, 11, 12, 13, 14, 15, 16, 17, 18] rfl)
            · refine lv_iconst (v := nI 1) hx hb dL_isWell_165 (by decide) ?_
              refine lv_goto (tgt := 170) hx hb dL_isWell_166 (by decide) ?_
              exact K_170 (nI 1) (by first | (rw [if_pos (Int32.not_le.mp c_162)]; rfl) | (rw [if_pos c_162]; rfl) | (rw [if_neg (Int32.not_lt.mpr c_162)]; rfl) | (rw [if_neg c_162]; rfl)) _ _ _ hw hS (lv_sub hl [1, 0, 2, 3, 4, 5, 6, 7, 8, 9, 10, 11, 12, 13, 14, 15, 16, 17, 18] rfl)
          refine lv_if_ne (tgt := 154) hx hb dL_isWell_147 (by decide) (fun c_147 => ?_) (fun c_147 => ?_)
          · refine lv_iconst (v := nI 0) hx hb dL_isWell_154 (by decide) ?_
            exact K_155 (nI 0) (by rw [← ev]; first | (rw [if_pos c_147]; rfl) | (rw [if_neg c_147]; rfl)) _ _ _ hw hS (lv_sub hl [3, 4, 5, 6, 7, 8, 9, 10, 11, 12, 13, 14, 15, 16, 17, 18, 2, 1, 0] rfl)
          · refine lv_iconst (v := nI 1) hx hb dL_isWell_150 (by decide) ?_
            refine lv_goto (tgt := 155) hx hb dL_isWell_151 (by decide) ?_
            exact K_155 (nI 1) (by rw [← ev]; first | (rw [if_pos c_147]; rfl) | (rw [if_neg c_147]; rfl)) _ _ _ hw hS (lv_sub hl [3, 4, 5, 6, 7, 8, 9, 10, 11, 12, 13, 14, 15, 16, 17, 18, 2, 1, 0] rfl)
        refine lv_icmp_ge (tgt := 116) hx hb dL_isWell_105 (by decide) (fun c_105 => ?_) (fun c_105 => ?_)
        · refine lv_iload hx hb dL_isWell_116 (lv_at hl 0 rfl) ?_
          refine lv_iload hx hb dL_isWell_118 (lv_at hl 3 rfl) ?_
          refine lv_isub hx hb dL_isWell_120 ?_
          refine lv_topi (fun x_120 ex_120 => ?_)
          exact K_121 x_120 (by first | exact BY_1 hok hk3 (Int32.not_le.mp c_105) ex_112 | exact BY_1 hok hk3 c_105 ex_112 | exact BY_2 hok hk3 (Int32.not_lt.mpr c_105) ex_120 | exact BY_2 hok hk3 c_105 ex_120) _ _ _ hw hS (lv_sub hl [7, 8, 9, 10, 11, 12, 13, 14, 15, 6, 5, 4, 3, 2, 1, 0] rfl)
        · refine lv_iload hx hb dL_isWell_108 (lv_at hl 3 rfl) ?_
          refine lv_iload hx hb dL_isWell_110 (lv_at hl 0 rfl) ?_
          refine lv_isub hx hb dL_isWell_112 ?_
          refine lv_topi (fun x_112 ex_112 => ?_)
          refine lv_goto (tgt := 121) hx hb dL_isWell_113 (by decide) ?_
          exact K_121 x_112 (by first | exact BY_1 hok hk3 (Int32.not_le.mp c_105) ex_112 | exact BY_1 hok hk3 c_105 ex_112 | exact BY_2 hok hk3 (Int32.not_lt.mpr c_105) ex_120 | exact BY_2 hok hk3 c_105 ex_120) _ _ _ hw hS (lv_sub hl [7, 8, 9, 10, 11, 12, 13, 14, 15, 6, 5, 4, 3, 2, 1, 0] rfl)
  exact K_21 (288 - 0 + 1) 0 (nI 0) (nI 0) (nI 0) (nI 0) (nI 0) (nI 0) _ (by first | omega | assumption | rfl) hV (by first | rfl | (show nI 0 = nI 0 - 0 - 0; decide)) rfl rfl rfl rfl rfl (Nat.lt_succ_self _) _ _ _ hw hS (lv_sub hl [8, 7, 6, 5, 4, 3, 2, 1, 0] rfl)
