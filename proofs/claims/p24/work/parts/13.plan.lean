/-! CONTRACTS, laid by program -/
set_option maxHeartbeats 4000000 in
set_option maxRecDepth 100000 in
/-- ZonedLight$Plan.raise(II)V -/
theorem c_X2_raise (l : Launch) (G : GG) (A : Nat → Prop) (σ : St) (z : Nat) (b : Int32) (hz : z < 18) : MV l yX2_raise wsX2_raise 1 21 G A σ [.ref (G.1 11 0), .int (nI z), .int b] (fun τ => τ = us σ 12 0 z (raiseV (σ 12 0 z) b)) := by
  refine MV.on (by decide) rfl (Nat.le_of_ble_eq_true rfl) (fun pP eE sS mM args below meth cC ls hx hb hml hr hown hlk hts hE hw hS hl => ?_)
  have hl : lv_has ls 3 [(0, .ref (G.1 11 0)), (1, .int (nI z)), (2, .int b)] := hl
  refine lv_aload_n hx hb dX2_raise_0 rfl (lv_at hl 0 rfl) ?_
  refine gf_X2_level hx hb hE hw (Nat.zero_lt_one) hown (hts (.fieldLink RX2 9 "ZonedLight$Plan" "level" "[I") (by decide +kernel)) dX2_raise_1 ?_
  refine lv_iload_n hx hb dX2_raise_4 rfl (lv_at hl 1 rfl) ?_
  refine lv_sipush (v := nI 255) hx hb dX2_raise_5 (by decide) ?_
  refine lv_aload_n hx hb dX2_raise_8 rfl (lv_at hl 0 rfl) ?_
  refine gf_X2_level hx hb hE hw (Nat.zero_lt_one) hown (hts (.fieldLink RX2 9 "ZonedLight$Plan" "level" "[I") (by decide +kernel)) dX2_raise_9 ?_
  refine lv_iload_n hx hb dX2_raise_12 rfl (lv_at hl 1 rfl) ?_
  refine g_ald hx hb hE hw (n := 18) (Nat.zero_lt_one) rfl (by decide) (by omega) dX2_raise_13 ?_
  refine lv_topi (fun x_13 ex_13 => ?_)
  refine lv_iload_n hx hb dX2_raise_14 rfl (lv_at hl 2 rfl) ?_
  refine lv_iadd hx hb dX2_raise_15 ?_
  refine lv_topi (fun x_15 ex_15 => ?_)
  refine g_min hx hb (hml.trans hl.1.symm) hE hown (hts (.methodLink RX2 49 Lib.Math.min.name) (by decide +kernel)) ⟨Nat.le_of_ble_eq_true rfl, Nat.le_of_ble_eq_true rfl⟩ ⟨Nat.le_of_ble_eq_true rfl, Nat.le_of_ble_eq_true rfl⟩ dX2_raise_16 ?_
  refine lv_topi (fun x_16 ex_16 => ?_)
  refine g_ast hx hb hE hw hS (n := 18) (Nat.zero_lt_one) (by decide) (fun _ => rfl) rfl (by decide) (by omega) dX2_raise_19 (fun H locs hw hS => ?_)
  refine g_vret hx hb hr hlk hE hw hS dX2_raise_20 ?_
  rw [ex_16, ex_15, ex_13]; rfl
set_option maxHeartbeats 4000000 in
set_option maxRecDepth 100000 in
/-- ZonedLight$Plan.helps(LZonedLight$Screen;II)Z -/
theorem c_X2_helps (l : Launch) (G : GG) (A : Nat → Prop) (σ : St) (s : Nat) (z : Nat) (o : Nat) (hs : s < 7) (hz : z < 18) (ho : o < 18) : MI l yX2_helps wsX2_helps 2 44 G A σ [.ref (G.1 0 s), .int (nI z), .int (nI o)] (fun r τ => bP r (helpB (scr σ s) z o = true) ∧ τ = σ) := by
  refine MI.on (by decide) rfl (Nat.le_of_ble_eq_true rfl) (fun pP eE sS mM args below meth cC ls hx hb hml hr hown hlk hts hE hw hS hl => ?_)
  have hl : lv_has ls 3 [(0, .ref (G.1 0 s)), (1, .int (nI z)), (2, .int (nI o))] := hl
  have hsd : scr σ s (306 + o) = σ 3 s o := scr_dead ho
  refine lv_aload_n hx hb dX2_helps_0 rfl (lv_at hl 0 rfl) ?_
  refine gf_X3_dead hx hb hE hw (show s < 7 by omega) hown (hts (.fieldLink RX2 23 "ZonedLight$Screen" "dead" "[Z") (by decide +kernel)) dX2_helps_1 ?_
  refine lv_iload_n hx hb dX2_helps_4 rfl (lv_at hl 2 rfl) ?_
  refine g_zald hx hb hE hw (n := 18) (show s < 7 by omega) rfl (by decide) (by omega) dX2_helps_5 ?_
  refine lv_topi (fun x_5 ex_5 => ?_)
  refine lv_if_ne (tgt := 22) hx hb dX2_helps_6 (by decide) (fun c_6 => ?_) (fun c_6 => ?_)
  · refine lv_iconst (v := nI 0) hx hb dX2_helps_22 (by decide) ?_
    refine g_zret hx hb hr hlk hE hw hS rfl dX2_helps_23 ?_
    first | exact ⟨Or.inl ⟨rfl, helpB_iff.mpr ⟨by rw [hsd, ← ex_5]; exact c_6, c_15⟩⟩, rfl⟩ | exact ⟨Or.inr ⟨rfl, fun h => c_15 (helpB_iff.mp h).2⟩, rfl⟩ | exact ⟨Or.inr ⟨rfl, fun h => c_6 (by rw [ex_5, ← hsd]; exact (helpB_iff.mp h).1)⟩, rfl⟩
  · refine lv_iload_n hx hb dX2_helps_9 rfl (lv_at hl 1 rfl) ?_
    refine lv_iload_n hx hb dX2_helps_10 rfl (lv_at hl 2 rfl) ?_
    refine g_SNi (n := 2) (As := [.int (nI z), .int (nI o)]) (rest := []) hx hb hml hown hts hE hw hS gX2_helps_X5_zonesApart_n83 (host := "ZonedLight") (by decide +kernel) (hts (.initialized RX5) (by decide +kernel)) (hts (.static yX5_zonesApart) (by decide +kernel)) (c_X5_zonesApart l G A _ z o (by omega) (by omega)) rfl (by decide +kernel) ⟨Nat.le_of_ble_eq_true rfl, Nat.le_of_ble_eq_true rfl⟩ rfl hl.1 rfl (Nat.le_of_ble_eq_true rfl) ⟨Nat.le_of_ble_eq_true rfl, Nat.le_of_ble_eq_true rfl⟩ dX2_helps_11 (fun r_11 τ_11 H locs hp_11 hw hS => ?_)
    obtain ⟨rfl, hτ_11⟩ := hp_11
    rw [hτ_11] at hw
    refine lv_iconst (v := nI 1) hx hb dX2_helps_14 (by decide) ?_
    refine n_cmp_ne (tgt := 22) hx hb dX2_helps_15 (by decide) (Nat.lt_trans (apartN_lt hz ho) (by decide)) (by decide) (fun c_15 => ?_) (fun c_15 => ?_)
    · refine lv_iconst (v := nI 0) hx hb dX2_helps_22 (by decide) ?_
      refine g_zret hx hb hr hlk hE hw hS rfl dX2_helps_23 ?_
      first | exact ⟨Or.inl ⟨rfl, helpB_iff.mpr ⟨by rw [hsd, ← ex_5]; exact c_6, c_15⟩⟩, rfl⟩ | exact ⟨Or.inr ⟨rfl, fun h => c_15 (helpB_iff.mp h).2⟩, rfl⟩ | exact ⟨Or.inr ⟨rfl, fun h => c_6 (by rw [ex_5, ← hsd]; exact (helpB_iff.mp h).1)⟩, rfl⟩
    · refine lv_iconst (v := nI 1) hx hb dX2_helps_18 (by decide) ?_
      refine lv_goto (tgt := 23) hx hb dX2_helps_19 (by decide) ?_
      refine g_zret hx hb hr hlk hE hw hS rfl dX2_helps_23 ?_
      first | exact ⟨Or.inl ⟨rfl, helpB_iff.mpr ⟨by rw [hsd, ← ex_5]; exact c_6, c_15⟩⟩, rfl⟩ | exact ⟨Or.inr ⟨rfl, fun h => c_15 (helpB_iff.mp h).2⟩, rfl⟩ | exact ⟨Or.inr ⟨rfl, fun h => c_6 (by rw [ex_5, ← hsd]; exact (helpB_iff.mp h).1)⟩, rfl⟩
set_option maxHeartbeats 4000000 in
set_option maxRecDepth 100000 in
/-- ZonedLight$Plan.raiseNeighbours(LZonedLight$Screen;II)V -/
theorem c_X2_raiseNeighbours (l : Launch) (G : GG) (A : Nat → Prop) (σ : St) (s : Nat) (z : Nat) (lk : Int32) (hs : s < 7) (hz : z < 18) : MV l yX2_raiseNeighbours wsX2_raiseNeighbours 3 66 G A σ [.ref (G.1 11 0), .ref (G.1 0 s), .int (nI z), .int lk] (fun τ => τ = ur σ 12 0 (raiseNK (scr σ s) z (rupF (lk * 256) (scr σ s 325 * nI (helpK (scr σ s) z 18))) (σ 12 0) 18)) := by
  refine MV.on (by decide) rfl (Nat.le_of_ble_eq_true rfl) (fun pP eE sS mM args below meth cC ls hx hb hml hr hown hlk hts hE hw hS hl => ?_)
  have hl : lv_has ls 7 [(0, .ref (G.1 11 0)), (1, .ref (G.1 0 s)), (2, .int (nI z)), (3, .int lk)] := hl
  refine lv_iconst (v := nI 0) hx hb dX2_raiseNeighbours_0 (by decide) ?_
  refine lv_istore (lv' := [(4, .int (nI 0)), (0, .ref (G.1 11 0)), (1, .ref (G.1 0 s)), (2, .int (nI z)), (3, .int lk)]) hx hb dX2_raiseNeighbours_1 hl (by decide) rfl (fun ls hl => ?_)
  refine lv_iconst (v := nI 0) hx hb dX2_raiseNeighbours_3 (by decide) ?_
  refine lv_istore (lv' := [(5, .int (nI 0)), (4, .int (nI 0)), (0, .ref (G.1 11 0)), (1, .ref (G.1 0 s)), (2, .int (nI z)), (3, .int lk)]) hx hb dX2_raiseNeighbours_4 hl (by decide) rfl (fun ls hl => ?_)
  have K_6 : ∀ (fuel : Nat) (k : Nat) (cn : Nat), (k ≤ 18) → (cn = helpK (scr σ s) z k) → 18 - k < fuel → ∀ (H : Heap) (locs : List Loc) (ls : Array Slot), Wcel G σ H → va_S A sS.heap H locs → lv_has ls 7 [(0, .ref (G.1 11 0)), (1, .ref (G.1 0 s)), (2, .int (nI z)), (3, .int lk), (4, .int (nI cn)), (5, .int (nI k))] → W pP l eE { frames := 3, cells := 0, slots := 0, locals := 66 } sS mM args below meth cC H locs 0 0 (MQ below (va_Qv (fun τ => τ = ur σ 12 0 (raiseNK (scr σ s) z (rupF (lk * 256) (scr σ s 325 * nI (helpK (scr σ s) z 18))) (σ 12 0) 18)) (fun τ t => gP G A τ t) A) args sS 0 0 A) (F0 mM 6 ls []) := by
    intro fuel
    induction fuel with
    | zero =>
      intro k cn hk hc hfu
      exact absurd hfu (Nat.not_lt_zero _)
    | succ fuel K_6 =>
      intro k cn hk hc hfu H locs ls hw hS hl
      refine lv_iload hx hb dX2_raiseNeighbours_6 (lv_at hl 5 rfl) ?_
      refine lv_bipush (v := nI 18) hx hb dX2_raiseNeighbours_8 (by decide) ?_
      refine n_cmp_ge (tgt := 32) hx hb dX2_raiseNeighbours_10 (by decide) (by omega) (by omega) (fun c_10 => ?_) (fun c_10 => ?_)
      · refine lv_iload_n hx hb dX2_raiseNeighbours_32 rfl (lv_at hl 3 rfl) ?_
        refine lv_sipush (v := nI 256) hx hb dX2_raiseNeighbours_33 (by decide) ?_
        refine lv_imul hx hb dX2_raiseNeighbours_36 ?_
        refine lv_topi (fun x_36 ex_36 => ?_)
        refine lv_aload_n hx hb dX2_raiseNeighbours_37 rfl (lv_at hl 1 rfl) ?_
        refine gf_X3_setting hx hb hE hw (show s < 7 by omega) hown (hts (.fieldLink RX2 31 "ZonedLight$Screen" "setting" "[I") (by decide +kernel)) dX2_raiseNeighbours_38 ?_
        refine lv_iconst (v := nI 1) hx hb dX2_raiseNeighbours_41 (by decide) ?_
        refine g_ald hx hb hE hw (n := 8) (show s < 7 by omega) rfl (by decide) (by omega) dX2_raiseNeighbours_42 ?_
        refine lv_topi (fun x_42 ex_42 => ?_)
        refine lv_iload hx hb dX2_raiseNeighbours_43 (lv_at hl 4 rfl) ?_
        refine lv_imul hx hb dX2_raiseNeighbours_45 ?_
        refine lv_topi (fun x_45 ex_45 => ?_)
        refine g_SNi (n := 2) (As := [.int x_36, .int x_45]) (rest := []) hx hb hml hown hts hE hw hS gX2_raiseNeighbours_X5_roundedUp_n72 (host := "ZonedLight") (by decide +kernel) (hts (.initialized RX5) (by decide +kernel)) (hts (.static yX5_roundedUp) (by decide +kernel)) (c_X5_roundedUp l G A _ x_36 x_45) rfl (by decide +kernel) ⟨Nat.le_of_ble_eq_true rfl, Nat.le_of_ble_eq_true rfl⟩ rfl hl.1 rfl (Nat.le_of_ble_eq_true rfl) ⟨Nat.le_of_ble_eq_true rfl, Nat.le_of_ble_eq_true rfl⟩ dX2_raiseNeighbours_46 (fun x_46 τ_46 H locs hp_46 hw hS => ?_)
        obtain ⟨ex_46, hτ_46⟩ := hp_46
        rw [hτ_46] at hw
        refine lv_istore (lv' := [(5, .int x_46), (0, .ref (G.1 11 0)), (1, .ref (G.1 0 s)), (2, .int (nI z)), (3, .int lk), (4, .int (nI cn))]) hx hb dX2_raiseNeighbours_49 hl (by decide) rfl (fun ls hl => ?_)
        refine lv_iconst (v := nI 0) hx hb dX2_raiseNeighbours_51 (by decide) ?_
        refine lv_istore (lv' := [(6, .int (nI 0)), (5, .int x_46), (0, .ref (G.1 11 0)), (1, .ref (G.1 0 s)), (2, .int (nI z)), (3, .int lk), (4, .int (nI cn))]) hx hb dX2_raiseNeighbours_52 hl (by decide) rfl (fun ls hl => ?_)
        have K_54 : ∀ (fuel : Nat) (k : Nat) (b : Int32) (σ2 : St), (k ≤ 18) → (b = rupF (lk * 256) (scr σ s 325 * nI (helpK (scr σ s) z 18))) → (σ2 = ur σ 12 0 (raiseNK (scr σ s) z b (σ 12 0) k)) → 18 - k < fuel → ∀ (H : Heap) (locs : List Loc) (ls : Array Slot), Wcel G σ2 H → va_S A sS.heap H locs → lv_has ls 7 [(0, .ref (G.1 11 0)), (1, .ref (G.1 0 s)), (2, .int (nI z)), (5, .int b), (6, .int (nI k))] → W pP l eE { frames := 3, cells := 0, slots := 0, locals := 66 } sS mM args below meth cC H locs 0 0 (MQ below (va_Qv (fun τ => τ = ur σ 12 0 (raiseNK (scr σ s) z (rupF (lk * 256) (scr σ s 325 * nI (helpK (scr σ s) z 18))) (σ 12 0) 18)) (fun τ t => gP G A τ t) A) args sS 0 0 A) (F0 mM 54 ls []) := by
          intro fuel
          induction fuel with
          | zero =>
            intro k b σ2 hk hbb h2 hfu
            exact absurd hfu (Nat.not_lt_zero _)
          | succ fuel K_54 =>
            intro k b σ2 hk hbb h2 hfu H locs ls hw hS hl
            subst h2
            refine lv_iload hx hb dX2_raiseNeighbours_54 (lv_at hl 4 rfl) ?_
            refine lv_bipush (v := nI 18) hx hb dX2_raiseNeighbours_56 (by decide) ?_
            refine n_cmp_ge (tgt := 85) hx hb dX2_raiseNeighbours_58 (by decide) (by omega) (by omega) (fun c_58 => ?_) (fun c_58 => ?_)
            · refine g_vret hx hb hr hlk hE hw hS dX2_raiseNeighbours_85 ?_
              rw [show k = 18 by omega, hbb]
            · refine lv_aload_n hx hb dX2_raiseNeighbours_61 rfl (lv_at hl 1 rfl) ?_
              refine lv_iload_n hx hb dX2_raiseNeighbours_62 rfl (lv_at hl 2 rfl) ?_
              refine lv_iload hx hb dX2_raiseNeighbours_63 (lv_at hl 4 rfl) ?_
              refine g_Si (n := 3) (As := [.ref (G.1 0 s), .int (nI z), .int (nI k)]) (rest := []) hx hb hml hown hts hE hw hS gX2_raiseNeighbours_X2_helps (c_X2_helps l G A _ s z k (by omega) (by omega) (by omega)) rfl (by decide +kernel) ⟨Nat.le_of_ble_eq_true rfl, Nat.le_of_ble_eq_true rfl⟩ rfl hl.1 rfl (Nat.le_of_ble_eq_true rfl) ⟨Nat.le_of_ble_eq_true rfl, Nat.le_of_ble_eq_true rfl⟩ dX2_raiseNeighbours_65 (fun x_65 τ_65 H locs hp_65 hw hS => ?_)
              obtain ⟨hb_65, hτ_65⟩ := hp_65
              rw [hτ_65] at hw
              refine lv_if_eq (tgt := 79) hx hb dX2_raiseNeighbours_68 (by decide) (fun c_68 => ?_) (fun c_68 => ?_)
              · refine lv_iinc (v := nI (k + 1)) (lv' := [(6, .int (nI (k + 1))), (0, .ref (G.1 11 0)), (1, .ref (G.1 0 s)), (2, .int (nI z)), (5, .int b)]) hx hb dX2_raiseNeighbours_79 hl (k := 4) rfl (nI_add _ _) (by decide) rfl (fun ls hl => ?_)
                refine lv_goto (tgt := 54) hx hb dX2_raiseNeighbours_82 (by decide) ?_
                exact K_54 (k + 1) b _ (by first | omega | assumption | rfl) (by first | omega | assumption | rfl) (by have hb2 := hb_65; rw [scr_ur (by decide)] at hb2; first | (rw [raiseNK, if_neg (bP_f hb2 c_68)]) | (rw [raiseNK, if_pos (bP_t hb2 c_68), hp_76, ur_same, us_ur])) (by omega) _ _ _ hw hS (lv_sub hl [1, 2, 3, 4, 0] rfl)
              · refine lv_aload_n hx hb dX2_raiseNeighbours_71 rfl (lv_at hl 0 rfl) ?_
                refine lv_iload hx hb dX2_raiseNeighbours_72 (lv_at hl 4 rfl) ?_
                refine lv_iload hx hb dX2_raiseNeighbours_74 (lv_at hl 3 rfl) ?_
                refine g_Vv (n := 2) (As := [.int (nI k), .int b]) (rest := []) hx hb hml hown hts hE hw hS gX2_raiseNeighbours_X2_raise (c_X2_raise l G A _ k b (by omega)) rfl (by decide +kernel) ⟨Nat.le_of_ble_eq_true rfl, Nat.le_of_ble_eq_true rfl⟩ (Nat.zero_lt_one) rfl rfl rfl rfl hl.1 rfl (Nat.le_of_ble_eq_true rfl) ⟨Nat.le_of_ble_eq_true rfl, Nat.le_of_ble_eq_true rfl⟩ dX2_raiseNeighbours_76 (fun τ_76 H locs hp_76 hw hS => ?_)
                refine lv_iinc (v := nI (k + 1)) (lv' := [(6, .int (nI (k + 1))), (0, .ref (G.1 11 0)), (1, .ref (G.1 0 s)), (2, .int (nI z)), (5, .int b)]) hx hb dX2_raiseNeighbours_79 hl (k := 4) rfl (nI_add _ _) (by decide) rfl (fun ls hl => ?_)
                refine lv_goto (tgt := 54) hx hb dX2_raiseNeighbours_82 (by decide) ?_
                exact K_54 (k + 1) b _ (by first | omega | assumption | rfl) (by first | omega | assumption | rfl) (by have hb2 := hb_65; rw [scr_ur (by decide)] at hb2; first | (rw [raiseNK, if_neg (bP_f hb2 c_68)]) | (rw [raiseNK, if_pos (bP_t hb2 c_68), hp_76, ur_same, us_ur])) (by omega) _ _ _ hw hS (lv_sub hl [1, 2, 3, 4, 0] rfl)
        exact K_54 (18 - 0 + 1) 0 x_46 _ (by first | omega | assumption | rfl) (by rw [ex_46, ex_45, ex_42, ex_36, hc, show k = 18 by omega, ← scr_set (σ := σ) (s := s) (k := 1) (by decide)]; rfl) (ur_self rfl).symm (Nat.lt_succ_self _) _ _ _ hw hS (lv_sub hl [2, 3, 4, 1, 0] rfl)
      · refine lv_aload_n hx hb dX2_raiseNeighbours_13 rfl (lv_at hl 1 rfl) ?_
        refine lv_iload_n hx hb dX2_raiseNeighbours_14 rfl (lv_at hl 2 rfl) ?_
        refine lv_iload hx hb dX2_raiseNeighbours_15 (lv_at hl 5 rfl) ?_
        refine g_Si (n := 3) (As := [.ref (G.1 0 s), .int (nI z), .int (nI k)]) (rest := []) hx hb hml hown hts hE hw hS gX2_raiseNeighbours_X2_helps (c_X2_helps l G A _ s z k (by omega) (by omega) (by omega)) rfl (by decide +kernel) ⟨Nat.le_of_ble_eq_true rfl, Nat.le_of_ble_eq_true rfl⟩ rfl hl.1 rfl (Nat.le_of_ble_eq_true rfl) ⟨Nat.le_of_ble_eq_true rfl, Nat.le_of_ble_eq_true rfl⟩ dX2_raiseNeighbours_17 (fun x_17 τ_17 H locs hp_17 hw hS => ?_)
        obtain ⟨hb_17, hτ_17⟩ := hp_17
        rw [hτ_17] at hw
        refine lv_if_eq (tgt := 26) hx hb dX2_raiseNeighbours_20 (by decide) (fun c_20 => ?_) (fun c_20 => ?_)
        · refine lv_iinc (v := nI (k + 1)) (lv' := [(5, .int (nI (k + 1))), (0, .ref (G.1 11 0)), (1, .ref (G.1 0 s)), (2, .int (nI z)), (3, .int lk), (4, .int (nI cn))]) hx hb dX2_raiseNeighbours_26 hl (k := 5) rfl (nI_add _ _) (by decide) rfl (fun ls hl => ?_)
          refine lv_goto (tgt := 6) hx hb dX2_raiseNeighbours_29 (by decide) ?_
          exact K_6 (k + 1) cn (by first | omega | assumption | rfl) (by first | (rw [helpK, if_neg (bP_f hb_17 c_20)]; exact hc) | (rw [helpK, if_pos (bP_t hb_17 c_20), hc])) (by omega) _ _ _ hw hS (lv_sub hl [1, 2, 3, 4, 5, 0] rfl)
        · refine lv_iinc (v := nI (cn + 1)) (lv' := [(4, .int (nI (cn + 1))), (0, .ref (G.1 11 0)), (1, .ref (G.1 0 s)), (2, .int (nI z)), (3, .int lk), (5, .int (nI k))]) hx hb dX2_raiseNeighbours_23 hl (k := 4) rfl (nI_add _ _) (by decide) rfl (fun ls hl => ?_)
          refine lv_iinc (v := nI (k + 1)) (lv' := [(5, .int (nI (k + 1))), (4, .int (nI (cn + 1))), (0, .ref (G.1 11 0)), (1, .ref (G.1 0 s)), (2, .int (nI z)), (3, .int lk)]) hx hb dX2_raiseNeighbours_26 hl (k := 5) rfl (nI_add _ _) (by decide) rfl (fun ls hl => ?_)
          refine lv_goto (tgt := 6) hx hb dX2_raiseNeighbours_29 (by decide) ?_
          exact K_6 (k + 1) (cn + 1) (by first | omega | assumption | rfl) (by first | (rw [helpK, if_neg (bP_f hb_17 c_20)]; exact hc) | (rw [helpK, if_pos (bP_t hb_17 c_20), hc])) (by omega) _ _ _ hw hS (lv_sub hl [2, 3, 4, 5, 1, 0] rfl)
  exact K_6 (18 - 0 + 1) 0 0 (by first | omega | assumption | rfl) (by first | omega | assumption | rfl) (Nat.lt_succ_self _) _ _ _ hw hS (lv_sub hl [2, 3, 4, 5, 1, 0] rfl)
set_option maxHeartbeats 4000000 in
set_option maxRecDepth 100000 in
/-- ZonedLight$Plan.raiseAll(LZonedLight$Screen;)V -/
theorem c_X2_raiseAll (l : Launch) (G : GG) (A : Nat → Prop) (σ : St) (s : Nat) (hs : s < 7) (hpk : ∀ z, z < 18 → σ 13 0 z = peakF (scr σ s) z) : MV l yX2_raiseAll wsX2_raiseAll 4 92 G A σ [.ref (G.1 11 0), .ref (G.1 0 s)] (fun τ => τ = ur σ 12 0 (roundK (scr σ s) (σ 12 0) 18)) := by
  refine MV.on (by decide) rfl (Nat.le_of_ble_eq_true rfl) (fun pP eE sS mM args below meth cC ls hx hb hml hr hown hlk hts hE hw hS hl => ?_)
  have hl : lv_has ls 4 [(0, .ref (G.1 11 0)), (1, .ref (G.1 0 s))] := hl
  refine lv_iconst (v := nI 0) hx hb dX2_raiseAll_0 (by decide) ?_
  refine lv_istore_n (lv' := [(2, .int (nI 0)), (0, .ref (G.1 11 0)), (1, .ref (G.1 0 s))]) hx hb dX2_raiseAll_1 rfl hl (by decide) rfl (fun ls hl => ?_)
  have K_2 : ∀ (fuel : Nat) (k : Nat) (σ2 : St), (k ≤ 18) → (σ2 = ur σ 12 0 (roundK (scr σ s) (σ 12 0) k)) → 18 - k < fuel → ∀ (H : Heap) (locs : List Loc) (ls : Array Slot), Wcel G σ2 H → va_S A sS.heap H locs → lv_has ls 4 [(0, .ref (G.1 11 0)), (1, .ref (G.1 0 s)), (2, .int (nI k))] → W pP l eE { frames := 4, cells := 0, slots := 0, locals := 92 } sS mM args below meth cC H locs 0 0 (MQ below (va_Qv (fun τ => τ = ur σ 12 0 (roundK (scr σ s) (σ 12 0) 18)) (fun τ t => gP G A τ t) A) args sS 0 0 A) (F0 mM 2 ls []) := by
    intro fuel
    induction fuel with
    | zero =>
      intro k σ2 hk h2 hfu
      exact absurd hfu (Nat.not_lt_zero _)
    | succ fuel K_2 =>
      intro k σ2 hk h2 hfu H locs ls hw hS hl
      subst h2
      refine lv_iload_n hx hb dX2_raiseAll_2 rfl (lv_at hl 2 rfl) ?_
      refine lv_bipush (v := nI 18) hx hb dX2_raiseAll_3 (by decide) ?_
      refine n_cmp_ge (tgt := 76) hx hb dX2_raiseAll_5 (by decide) (by omega) (by omega) (fun c_5 => ?_) (fun c_5 => ?_)
      · refine g_vret hx hb hr hlk hE hw hS dX2_raiseAll_76 ?_
        rw [show k = 18 by omega]
      · refine lv_iconst (v := nI 0) hx hb dX2_raiseAll_8 (by decide) ?_
        refine lv_aload_n hx hb dX2_raiseAll_9 rfl (lv_at hl 0 rfl) ?_
        refine gf_X2_peak hx hb hE hw (Nat.zero_lt_one) hown (hts (.fieldLink RX2 15 "ZonedLight$Plan" "peak" "[I") (by decide +kernel)) dX2_raiseAll_10 ?_
        refine lv_iload_n hx hb dX2_raiseAll_13 rfl (lv_at hl 2 rfl) ?_
        refine g_ald hx hb hE hw (n := 18) (Nat.zero_lt_one) rfl (by decide) (by omega) dX2_raiseAll_14 ?_
        refine lv_topi (fun x_14 ex_14 => ?_)
        refine lv_aload_n hx hb dX2_raiseAll_15 rfl (lv_at hl 1 rfl) ?_
        refine lv_iload_n hx hb dX2_raiseAll_16 rfl (lv_at hl 2 rfl) ?_
        refine lv_aload_n hx hb dX2_raiseAll_17 rfl (lv_at hl 0 rfl) ?_
        refine gf_X2_level hx hb hE hw (Nat.zero_lt_one) hown (hts (.fieldLink RX2 9 "ZonedLight$Plan" "level" "[I") (by decide +kernel)) dX2_raiseAll_18 ?_
        refine g_Vi (n := 2) (As := [.int (nI k), .ref (G.1 12 0)]) (rest := [.int x_14, .int (nI 0)]) hx hb hml hown hts hE hw hS gX2_raiseAll_X3_glow (c_X3_glow l G A _ s k (by omega) (by omega)) rfl (by decide +kernel) ⟨Nat.le_of_ble_eq_true rfl, Nat.le_of_ble_eq_true rfl⟩ (show s < 7 by omega) rfl rfl rfl rfl hl.1 rfl (Nat.le_of_ble_eq_true rfl) ⟨Nat.le_of_ble_eq_true rfl, Nat.le_of_ble_eq_true rfl⟩ dX2_raiseAll_21 (fun x_21 τ_21 H locs hp_21 hw hS => ?_)
        obtain ⟨ex_21, hτ_21⟩ := hp_21
        rw [hτ_21] at hw
        refine g_SNi (n := 1) (As := [.int x_21]) (rest := [.int x_14, .int (nI 0)]) hx hb hml hown hts hE hw hS gX2_raiseAll_X5_lightOf_n62 (host := "ZonedLight") (by decide +kernel) (hts (.initialized RX5) (by decide +kernel)) (hts (.static yX5_lightOf) (by decide +kernel)) (c_X5_lightOf l G A _ x_21) rfl (by decide +kernel) ⟨Nat.le_of_ble_eq_true rfl, Nat.le_of_ble_eq_true rfl⟩ rfl hl.1 rfl (Nat.le_of_ble_eq_true rfl) ⟨Nat.le_of_ble_eq_true rfl, Nat.le_of_ble_eq_true rfl⟩ dX2_raiseAll_24 (fun x_24 τ_24 H locs hp_24 hw hS => ?_)
        obtain ⟨ex_24, hτ_24⟩ := hp_24
        rw [hτ_24] at hw
        refine lv_isub hx hb dX2_raiseAll_27 ?_
        refine lv_topi (fun x_27 ex_27 => ?_)
        refine g_max hx hb (hml.trans hl.1.symm) hE hown (hts (.methodLink RX2 65 Lib.Math.max.name) (by decide +kernel)) ⟨Nat.le_of_ble_eq_true rfl, Nat.le_of_ble_eq_true rfl⟩ ⟨Nat.le_of_ble_eq_true rfl, Nat.le_of_ble_eq_true rfl⟩ dX2_raiseAll_28 ?_
        refine lv_topi (fun x_28 ex_28 => ?_)
        refine lv_istore_n (lv' := [(3, .int x_28), (0, .ref (G.1 11 0)), (1, .ref (G.1 0 s)), (2, .int (nI k))]) hx hb dX2_raiseAll_31 rfl hl (by decide) rfl (fun ls hl => ?_)
        refine lv_aload_n hx hb dX2_raiseAll_32 rfl (lv_at hl 2 rfl) ?_
        refine gf_X3_dead hx hb hE hw (show s < 7 by omega) hown (hts (.fieldLink RX2 23 "ZonedLight$Screen" "dead" "[Z") (by decide +kernel)) dX2_raiseAll_33 ?_
        refine lv_iload_n hx hb dX2_raiseAll_36 rfl (lv_at hl 3 rfl) ?_
        refine g_zald hx hb hE hw (n := 18) (show s < 7 by omega) rfl (by decide) (by omega) dX2_raiseAll_37 ?_
        refine lv_topi (fun x_37 ex_37 => ?_)
        refine lv_if_eq (tgt := 51) hx hb dX2_raiseAll_38 (by decide) (fun c_38 => ?_) (fun c_38 => ?_)
        · refine lv_aload_n hx hb dX2_raiseAll_51 rfl (lv_at hl 1 rfl) ?_
          refine lv_iload_n hx hb dX2_raiseAll_52 rfl (lv_at hl 3 rfl) ?_
          refine lv_iload_n hx hb dX2_raiseAll_53 rfl (lv_at hl 0 rfl) ?_
          refine lv_sipush (v := nI 256) hx hb dX2_raiseAll_54 (by decide) ?_
          refine lv_imul hx hb dX2_raiseAll_57 ?_
          refine lv_topi (fun x_57 ex_57 => ?_)
          refine lv_aload_n hx hb dX2_raiseAll_58 rfl (lv_at hl 2 rfl) ?_
          refine gf_X3_setting hx hb hE hw (show s < 7 by omega) hown (hts (.fieldLink RX2 31 "ZonedLight$Screen" "setting" "[I") (by decide +kernel)) dX2_raiseAll_59 ?_
          refine lv_iconst (v := nI 0) hx hb dX2_raiseAll_62 (by decide) ?_
          refine g_ald hx hb hE hw (n := 8) (show s < 7 by omega) rfl (by decide) (by omega) dX2_raiseAll_63 ?_
          refine lv_topi (fun x_63 ex_63 => ?_)
          refine g_SNi (n := 2) (As := [.int x_57, .int x_63]) (rest := [.int (nI k), .ref (G.1 11 0)]) hx hb hml hown hts hE hw hS gX2_raiseAll_X5_roundedUp_n72 (host := "ZonedLight") (by decide +kernel) (hts (.initialized RX5) (by decide +kernel)) (hts (.static yX5_roundedUp) (by decide +kernel)) (c_X5_roundedUp l G A _ x_57 x_63) rfl (by decide +kernel) ⟨Nat.le_of_ble_eq_true rfl, Nat.le_of_ble_eq_true rfl⟩ rfl hl.1 rfl (Nat.le_of_ble_eq_true rfl) ⟨Nat.le_of_ble_eq_true rfl, Nat.le_of_ble_eq_true rfl⟩ dX2_raiseAll_64 (fun x_64 τ_64 H locs hp_64 hw hS => ?_)
          obtain ⟨ex_64, hτ_64⟩ := hp_64
          rw [hτ_64] at hw
          refine g_Vv (n := 2) (As := [.int (nI k), .int x_64]) (rest := []) hx hb hml hown hts hE hw hS gX2_raiseAll_X2_raise (c_X2_raise l G A _ k x_64 (by omega)) rfl (by decide +kernel) ⟨Nat.le_of_ble_eq_true rfl, Nat.le_of_ble_eq_true rfl⟩ (Nat.zero_lt_one) rfl rfl rfl rfl hl.1 rfl (Nat.le_of_ble_eq_true rfl) ⟨Nat.le_of_ble_eq_true rfl, Nat.le_of_ble_eq_true rfl⟩ dX2_raiseAll_67 (fun τ_67 H locs hp_67 hw hS => ?_)
          refine lv_iinc (v := nI (k + 1)) (lv' := [(2, .int (nI (k + 1))), (3, .int x_28), (0, .ref (G.1 11 0)), (1, .ref (G.1 0 s))]) hx hb dX2_raiseAll_70 hl (k := 3) rfl (nI_add _ _) (by decide) rfl (fun ls hl => ?_)
          refine lv_goto (tgt := 2) hx hb dX2_raiseAll_73 (by decide) ?_
          have hlk : x_28 = lackV (scr σ s) (roundK (scr σ s) (σ 12 0) k) k := by
            rw [ex_28, ex_27, ex_24, ex_21, ex_14, scr_ur (by decide), ur_same, ur_k (by decide), hpk k c_5]; rfl
          have hdd : x_37 = scr σ s (306 + k) := by rw [ex_37, ur_k (by decide), scr_dead (σ := σ) (s := s) c_5]
          exact K_2 (k + 1) _ (by first | omega | assumption | rfl) (by first | (rw [roundK, zoneStep, if_pos (by rw [← hdd]; exact c_38), hp_67, ex_64, ex_57, ex_63, hlk, ur_same, us_ur, ur_k (by decide), ← scr_set (σ := σ) (s := s) (k := 0) (by decide)]; rfl) | (rw [roundK, zoneStep, if_neg (by rw [← hdd]; exact c_38), hp_45, hlk, ur_same, ur_ur, scr_ur (by decide)])) (by omega) _ _ _ hw hS (lv_sub hl [2, 3, 0] rfl)
        · refine lv_aload_n hx hb dX2_raiseAll_41 rfl (lv_at hl 1 rfl) ?_
          refine lv_aload_n hx hb dX2_raiseAll_42 rfl (lv_at hl 2 rfl) ?_
          refine lv_iload_n hx hb dX2_raiseAll_43 rfl (lv_at hl 3 rfl) ?_
          refine lv_iload_n hx hb dX2_raiseAll_44 rfl (lv_at hl 0 rfl) ?_
          refine g_Vv (n := 3) (As := [.ref (G.1 0 s), .int (nI k), .int x_28]) (rest := []) hx hb hml hown hts hE hw hS gX2_raiseAll_X2_raiseNeighbours (c_X2_raiseNeighbours l G A _ s k x_28 (by omega) (by omega)) rfl (by decide +kernel) ⟨Nat.le_of_ble_eq_true rfl, Nat.le_of_ble_eq_true rfl⟩ (Nat.zero_lt_one) rfl rfl rfl rfl hl.1 rfl (Nat.le_of_ble_eq_true rfl) ⟨Nat.le_of_ble_eq_true rfl, Nat.le_of_ble_eq_true rfl⟩ dX2_raiseAll_45 (fun τ_45 H locs hp_45 hw hS => ?_)
          refine lv_goto (tgt := 70) hx hb dX2_raiseAll_48 (by decide) ?_
          refine lv_iinc (v := nI (k + 1)) (lv' := [(2, .int (nI (k + 1))), (3, .int x_28), (0, .ref (G.1 11 0)), (1, .ref (G.1 0 s))]) hx hb dX2_raiseAll_70 hl (k := 3) rfl (nI_add _ _) (by decide) rfl (fun ls hl => ?_)
          refine lv_goto (tgt := 2) hx hb dX2_raiseAll_73 (by decide) ?_
          have hlk : x_28 = lackV (scr σ s) (roundK (scr σ s) (σ 12 0) k) k := by
            rw [ex_28, ex_27, ex_24, ex_21, ex_14, scr_ur (by decide), ur_same, ur_k (by decide), hpk k c_5]; rfl
          have hdd : x_37 = scr σ s (306 + k) := by rw [ex_37, ur_k (by decide), scr_dead (σ := σ) (s := s) c_5]
          exact K_2 (k + 1) _ (by first | omega | assumption | rfl) (by first | (rw [roundK, zoneStep, if_pos (by rw [← hdd]; exact c_38), hp_67, ex_64, ex_57, ex_63, hlk, ur_same, us_ur, ur_k (by decide), ← scr_set (σ := σ) (s := s) (k := 0) (by decide)]; rfl) | (rw [roundK, zoneStep, if_neg (by rw [← hdd]; exact c_38), hp_45, hlk, ur_same, ur_ur, scr_ur (by decide)])) (by omega) _ _ _ hw hS (lv_sub hl [2, 3, 0] rfl)
  exact K_2 (18 - 0 + 1) 0 _ (by first | omega | assumption | rfl) (ur_self rfl).symm (Nat.lt_succ_self _) _ _ _ hw hS (lv_sub hl [1, 2, 0] rfl)
set_option maxHeartbeats 4000000 in
set_option maxRecDepth 100000 in
/-- ZonedLight$Plan.lowerForBlack(LZonedLight$Screen;I)V -/
theorem c_X2_lowerForBlack (l : Launch) (G : GG) (A : Nat → Prop) (σ : St) (s : Nat) (z : Nat) (n : Nat) (hs : s < 7) (hz : z < 18) (hn : σ 12 0 z = nI n) (hn2 : n < 256) : MV l yX2_lowerForBlack wsX2_lowerForBlack 3 69 G A σ [.ref (G.1 11 0), .ref (G.1 0 s), .int (nI z)] (fun τ => τ = us σ 12 0 z (nI (lowK (scr σ s) n (glowK (scr σ s) (σ 12 0) z 18)))) := by
  refine MV.on (by decide) rfl (Nat.le_of_ble_eq_true rfl) (fun pP eE sS mM args below meth cC ls hx hb hml hr hown hlk hts hE hw hS hl => ?_)
  have hl : lv_has ls 4 [(0, .ref (G.1 11 0)), (1, .ref (G.1 0 s)), (2, .int (nI z))] := hl
  refine lv_aload_n hx hb dX2_lowerForBlack_0 rfl (lv_at hl 1 rfl) ?_
  refine lv_iload_n hx hb dX2_lowerForBlack_1 rfl (lv_at hl 2 rfl) ?_
  refine lv_aload_n hx hb dX2_lowerForBlack_2 rfl (lv_at hl 0 rfl) ?_
  refine gf_X2_level hx hb hE hw (Nat.zero_lt_one) hown (hts (.fieldLink RX2 9 "ZonedLight$Plan" "level" "[I") (by decide +kernel)) dX2_lowerForBlack_3 ?_
  refine g_Vi (n := 2) (As := [.int (nI z), .ref (G.1 12 0)]) (rest := []) hx hb hml hown hts hE hw hS gX2_lowerForBlack_X3_glow (c_X3_glow l G A _ s z (by omega) (by omega)) rfl (by decide +kernel) ⟨Nat.le_of_ble_eq_true rfl, Nat.le_of_ble_eq_true rfl⟩ (show s < 7 by omega) rfl rfl rfl rfl hl.1 rfl (Nat.le_of_ble_eq_true rfl) ⟨Nat.le_of_ble_eq_true rfl, Nat.le_of_ble_eq_true rfl⟩ dX2_lowerForBlack_6 (fun x_6 τ_6 H locs hp_6 hw hS => ?_)
  obtain ⟨ex_6, hτ_6⟩ := hp_6
  rw [hτ_6] at hw
  refine lv_istore_n (lv' := [(3, .int x_6), (0, .ref (G.1 11 0)), (1, .ref (G.1 0 s)), (2, .int (nI z))]) hx hb dX2_lowerForBlack_9 rfl hl (by decide) rfl (fun ls hl => ?_)
  have K_10 : ∀ (fuel : Nat) (j : Nat) (g : Int32) (σ2 : St), (j < 256) → (lowK (scr σ s) j g = lowK (scr σ s) n (glowK (scr σ s) (σ 12 0) z 18)) → (σ2 = us σ 12 0 z (nI j)) → j < fuel → ∀ (H : Heap) (locs : List Loc) (ls : Array Slot), Wcel G σ2 H → va_S A sS.heap H locs → lv_has ls 4 [(0, .ref (G.1 11 0)), (1, .ref (G.1 0 s)), (2, .int (nI z)), (3, .int g)] → W pP l eE { frames := 3, cells := 0, slots := 0, locals := 69 } sS mM args below meth cC H locs 0 0 (MQ below (va_Qv (fun τ => τ = us σ 12 0 z (nI (lowK (scr σ s) n (glowK (scr σ s) (σ 12 0) z 18)))) (fun τ t => gP G A τ t) A) args sS 0 0 A) (F0 mM 10 ls []) := by
    intro fuel
    induction fuel with
    | zero =>
      intro j g σ2 hj hi h2 hfu
      exact absurd hfu (Nat.not_lt_zero _)
    | succ fuel K_10 =>
      intro j g σ2 hj hi h2 hfu H locs ls hw hS hl
      subst h2
      refine lv_aload_n hx hb dX2_lowerForBlack_10 rfl (lv_at hl 0 rfl) ?_
      refine gf_X2_level hx hb hE hw (Nat.zero_lt_one) hown (hts (.fieldLink RX2 9 "ZonedLight$Plan" "level" "[I") (by decide +kernel)) dX2_lowerForBlack_11 ?_
      refine lv_iload_n hx hb dX2_lowerForBlack_14 rfl (lv_at hl 2 rfl) ?_
      refine g_ald hx hb hE hw (n := 18) (Nat.zero_lt_one) rfl (by decide) (by omega) dX2_lowerForBlack_15 ?_
      refine lv_topi (fun x_15 ex_15 => ?_)
      obtain rfl : x_15 = nI j := by rw [ex_15, us_at]
      refine n_if_le (tgt := 59) hx hb dX2_lowerForBlack_16 (by decide) (by omega) (fun c_16 => ?_) (fun c_16 => ?_)
      · refine g_vret hx hb hr hlk hE hw hS dX2_lowerForBlack_59 ?_
        first | (rw [← hi]; obtain rfl := c_16; rfl) | (rw [← hi]; obtain ⟨q, rfl⟩ : ∃ q, j = q + 1 := ⟨j - 1, by omega⟩; rw [lowK, if_neg (by rw [hlkk, ← hha]; exact Int32.not_lt.mpr c_34)])
      · refine lv_aload_n hx hb dX2_lowerForBlack_19 rfl (lv_at hl 1 rfl) ?_
        refine lv_iload_n hx hb dX2_lowerForBlack_20 rfl (lv_at hl 3 rfl) ?_
        refine g_SNi (n := 1) (As := [.int g]) (rest := [.ref (G.1 0 s)]) hx hb hml hown hts hE hw hS gX2_lowerForBlack_X5_lightOf_n62 (host := "ZonedLight") (by decide +kernel) (hts (.initialized RX5) (by decide +kernel)) (hts (.static yX5_lightOf) (by decide +kernel)) (c_X5_lightOf l G A _ g) rfl (by decide +kernel) ⟨Nat.le_of_ble_eq_true rfl, Nat.le_of_ble_eq_true rfl⟩ rfl hl.1 rfl (Nat.le_of_ble_eq_true rfl) ⟨Nat.le_of_ble_eq_true rfl, Nat.le_of_ble_eq_true rfl⟩ dX2_lowerForBlack_21 (fun x_21 τ_21 H locs hp_21 hw hS => ?_)
        obtain ⟨ex_21, hτ_21⟩ := hp_21
        rw [hτ_21] at hw
        refine g_Vi (n := 1) (As := [.int x_21]) (rest := []) hx hb hml hown hts hE hw hS gX2_lowerForBlack_X3_leakOf (c_X3_leakOf l G A _ s x_21 (by omega)) rfl (by decide +kernel) ⟨Nat.le_of_ble_eq_true rfl, Nat.le_of_ble_eq_true rfl⟩ (show s < 7 by omega) rfl rfl rfl rfl hl.1 rfl (Nat.le_of_ble_eq_true rfl) ⟨Nat.le_of_ble_eq_true rfl, Nat.le_of_ble_eq_true rfl⟩ dX2_lowerForBlack_24 (fun x_24 τ_24 H locs hp_24 hw hS => ?_)
        obtain ⟨ex_24, hτ_24⟩ := hp_24
        rw [hτ_24] at hw
        refine lv_aload_n hx hb dX2_lowerForBlack_27 rfl (lv_at hl 1 rfl) ?_
        refine gf_X3_setting hx hb hE hw (show s < 7 by omega) hown (hts (.fieldLink RX2 31 "ZonedLight$Screen" "setting" "[I") (by decide +kernel)) dX2_lowerForBlack_28 ?_
        refine lv_bipush (v := nI 6) hx hb dX2_lowerForBlack_31 (by decide) ?_
        refine g_ald hx hb hE hw (n := 8) (show s < 7 by omega) rfl (by decide) (by omega) dX2_lowerForBlack_33 ?_
        refine lv_topi (fun x_33 ex_33 => ?_)
        have hlkk : leakF (scr σ s) (lightV g) = x_24 := by rw [ex_24, ex_21, scr_us (by decide)]
        have hha : x_33 = scr σ s 330 := by rw [ex_33, us_k (by decide), ← scr_set (σ := σ) (s := s) (k := 6) (by decide)]
        refine lv_icmp_le (tgt := 59) hx hb dX2_lowerForBlack_34 (by decide) (fun c_34 => ?_) (fun c_34 => ?_)
        · refine g_vret hx hb hr hlk hE hw hS dX2_lowerForBlack_59 ?_
          first | (rw [← hi]; obtain rfl := c_16; rfl) | (rw [← hi]; obtain ⟨q, rfl⟩ : ∃ q, j = q + 1 := ⟨j - 1, by omega⟩; rw [lowK, if_neg (by rw [hlkk, ← hha]; exact Int32.not_lt.mpr c_34)])
        · refine lv_aload_n hx hb dX2_lowerForBlack_37 rfl (lv_at hl 0 rfl) ?_
          refine gf_X2_level hx hb hE hw (Nat.zero_lt_one) hown (hts (.fieldLink RX2 9 "ZonedLight$Plan" "level" "[I") (by decide +kernel)) dX2_lowerForBlack_38 ?_
          refine lv_iload_n hx hb dX2_lowerForBlack_41 rfl (lv_at hl 2 rfl) ?_
          refine lv_dup2_11 hx hb dX2_lowerForBlack_42 rfl rfl ?_
          refine g_ald hx hb hE hw (n := 18) (Nat.zero_lt_one) rfl (by decide) (by omega) dX2_lowerForBlack_43 ?_
          refine lv_topi (fun x_43 ex_43 => ?_)
          obtain rfl : x_43 = nI j := by rw [ex_43, us_at]
          refine lv_iconst (v := nI 1) hx hb dX2_lowerForBlack_44 (by decide) ?_
          refine n_isub hx hb dX2_lowerForBlack_45 (by omega) ?_
          refine g_ast hx hb hE hw hS (n := 18) (Nat.zero_lt_one) (by decide) (fun _ => rfl) rfl (by decide) (by omega) dX2_lowerForBlack_46 (fun H locs hw hS => ?_)
          refine lv_iload_n hx hb dX2_lowerForBlack_47 rfl (lv_at hl 3 rfl) ?_
          refine lv_aload_n hx hb dX2_lowerForBlack_48 rfl (lv_at hl 1 rfl) ?_
          refine gf_X3_setting hx hb hE hw (show s < 7 by omega) hown (hts (.fieldLink RX2 31 "ZonedLight$Screen" "setting" "[I") (by decide +kernel)) dX2_lowerForBlack_49 ?_
          refine lv_iconst (v := nI 0) hx hb dX2_lowerForBlack_52 (by decide) ?_
          refine g_ald hx hb hE hw (n := 8) (show s < 7 by omega) rfl (by decide) (by omega) dX2_lowerForBlack_53 ?_
          refine lv_topi (fun x_53 ex_53 => ?_)
          refine lv_isub hx hb dX2_lowerForBlack_54 ?_
          refine lv_topi (fun x_54 ex_54 => ?_)
          refine lv_istore_n (lv' := [(3, .int x_54), (0, .ref (G.1 11 0)), (1, .ref (G.1 0 s)), (2, .int (nI z))]) hx hb dX2_lowerForBlack_55 rfl hl (by decide) rfl (fun ls hl => ?_)
          refine lv_goto (tgt := 10) hx hb dX2_lowerForBlack_56 (by decide) ?_
          exact K_10 (j - 1) x_54 _ (by first | omega | assumption | rfl) (by rw [← hi]; obtain ⟨q, rfl⟩ : ∃ q, j = q + 1 := ⟨j - 1, by omega⟩; rw [lowK, if_pos (by rw [hlkk, ← hha]; exact Int32.not_le.mp c_34), ex_54, ex_53, us_k (by decide), us_k (by decide), ← scr_set (σ := σ) (s := s) (k := 0) (by decide)]; rfl) (us_us) (by omega) _ _ _ hw hS (lv_sub hl [1, 2, 3, 0] rfl)
  exact K_10 (n + 1) n x_6 _ (by first | omega | assumption | rfl) (by rw [ex_6]) (us_self hn).symm (Nat.lt_succ_self _) _ _ _ hw hS (lv_sub hl [1, 2, 3, 0] rfl)
