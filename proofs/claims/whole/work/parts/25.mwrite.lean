/-! CONTRACTS, laid by program -/
set_option maxHeartbeats 4000000 in
set_option maxRecDepth 100000 in
/-- ZonedLightModel.raises(III)V -/
theorem c_X6_raises (l : Launch) (G : GG) (A : Nat → Prop) (σ : St) (z : Nat) (lk : Int32) (sh : Int32) (hz : z < 18) (h0 : 0 < sh) : MV l yX6_raises wsX6_raises 1 21 G A σ [.ref (G.1 16 0), .int (nI z), .int lk, .int sh] (fun τ => τ = us σ 20 0 z (raiseV (σ 20 0 z) (rupF (lk * 256) sh))) := by
  refine MV.on (by decide) rfl (Nat.le_of_ble_eq_true rfl) (fun pP eE sS mM args below meth cC ls hx hb hml hr hown hlk hts hE hw hS hl => ?_)
  have hl : lv_has ls 4 [(0, .ref (G.1 16 0)), (1, .int (nI z)), (2, .int lk), (3, .int sh)] := hl
  refine lv_aload_n hx hb dX6_raises_0 rfl (lv_at hl 0 rfl) ?_
  refine gf_X6_wanted hx hb hE hw (Nat.zero_lt_one) hown (hts (.fieldLink RX6 19 "ZonedLightModel" "wanted" "[I") (by decide +kernel)) dX6_raises_1 ?_
  refine lv_iload_n hx hb dX6_raises_4 rfl (lv_at hl 1 rfl) ?_
  refine lv_sipush (v := nI 255) hx hb dX6_raises_5 (by decide) ?_
  refine lv_aload_n hx hb dX6_raises_8 rfl (lv_at hl 0 rfl) ?_
  refine gf_X6_wanted hx hb hE hw (Nat.zero_lt_one) hown (hts (.fieldLink RX6 19 "ZonedLightModel" "wanted" "[I") (by decide +kernel)) dX6_raises_9 ?_
  refine lv_iload_n hx hb dX6_raises_12 rfl (lv_at hl 1 rfl) ?_
  refine g_ald hx hb hE hw (n := 18) (Nat.zero_lt_one) rfl (by decide) (by omega) dX6_raises_13 ?_
  refine lv_topi (fun x_13 ex_13 => ?_)
  refine lv_iload_n hx hb dX6_raises_14 rfl (lv_at hl 2 rfl) ?_
  refine lv_sipush (v := nI 256) hx hb dX6_raises_15 (by decide) ?_
  refine lv_imul hx hb dX6_raises_18 ?_
  refine lv_topi (fun x_18 ex_18 => ?_)
  refine lv_iload_n hx hb dX6_raises_19 rfl (lv_at hl 3 rfl) ?_
  refine lv_iadd hx hb dX6_raises_20 ?_
  refine lv_topi (fun x_20 ex_20 => ?_)
  refine lv_iconst (v := nI 1) hx hb dX6_raises_21 (by decide) ?_
  refine lv_isub hx hb dX6_raises_22 ?_
  refine lv_topi (fun x_22 ex_22 => ?_)
  refine lv_iload_n hx hb dX6_raises_23 rfl (lv_at hl 3 rfl) ?_
  refine lv_idiv hx hb dX6_raises_24 (fun g => by rw [g] at h0; exact absurd h0 (by decide)) ?_
  refine lv_topi (fun x_24 ex_24 => ?_)
  refine lv_iadd hx hb dX6_raises_25 ?_
  refine lv_topi (fun x_25 ex_25 => ?_)
  refine g_Si (n := 2) (As := [.int (nI 255), .int x_25]) (rest := [.int (nI z), .ref (G.1 20 0)]) hx hb hml hown hts hE hw hS gX6_raises_X6_lesser (c_X6_lesser l G A _ (nI 255) x_25) rfl (by decide +kernel) ⟨Nat.le_of_ble_eq_true rfl, Nat.le_of_ble_eq_true rfl⟩ rfl hl.1 rfl (Nat.le_of_ble_eq_true rfl) ⟨Nat.le_of_ble_eq_true rfl, Nat.le_of_ble_eq_true rfl⟩ dX6_raises_26 (fun x_26 τ_26 H locs hp_26 hw hS => ?_)
  obtain ⟨ex_26, hτ_26⟩ := hp_26
  rw [hτ_26] at hw
  refine g_ast hx hb hE hw hS (n := 18) (Nat.zero_lt_one) (by decide) (fun _ => rfl) rfl (by decide) (by omega) dX6_raises_29 (fun H locs hw hS => ?_)
  refine g_vret hx hb hr hlk hE hw hS dX6_raises_30 ?_
  rw [rupF, if_pos h0, ex_26, ex_25, ex_24, ex_22, ex_20, ex_18, ex_13]; rfl
set_option maxHeartbeats 4000000 in
set_option maxRecDepth 100000 in
/-- ZonedLightModel.raisesBeside(II)V -/
theorem c_X6_raisesBeside (l : Launch) (G : GG) (A : Nat → Prop) (σ : St) (z : Nat) (lk : Int32) (hz : z < 18) (hlw : lowW (σ 20 0)) : MV l yX6_raisesBeside wsX6_raisesBeside 3 65 G A σ [.ref (G.1 16 0), .int (nI z), .int lk] (fun τ => τ = ur σ 20 0 (raiseNK (σ 17 0) z (rupF (lk * 256) (σ 17 0 325 * nI (helpK (σ 17 0) z 18))) (σ 20 0) 18)) := by
  refine MV.on (by decide) rfl (Nat.le_of_ble_eq_true rfl) (fun pP eE sS mM args below meth cC ls hx hb hml hr hown hlk hts hE hw hS hl => ?_)
  have hl : lv_has ls 6 [(0, .ref (G.1 16 0)), (1, .int (nI z)), (2, .int lk)] := hl
  refine lv_iconst (v := nI 0) hx hb dX6_raisesBeside_0 (by decide) ?_
  refine lv_istore_n (lv' := [(3, .int (nI 0)), (0, .ref (G.1 16 0)), (1, .int (nI z)), (2, .int lk)]) hx hb dX6_raisesBeside_1 rfl hl (by decide) rfl (fun ls hl => ?_)
  refine lv_iconst (v := nI 0) hx hb dX6_raisesBeside_2 (by decide) ?_
  refine lv_istore (lv' := [(4, .int (nI 0)), (3, .int (nI 0)), (0, .ref (G.1 16 0)), (1, .int (nI z)), (2, .int lk)]) hx hb dX6_raisesBeside_3 hl (by decide) rfl (fun ls hl => ?_)
  have K_5 : ∀ (fuel : Nat) (k : Nat) (cn : Nat), (k ≤ 18) → (cn = helpK (σ 17 0) z k) → 18 - k < fuel → ∀ (H : Heap) (locs : List Loc) (ls : Array Slot), Wcel G σ H → va_S A sS.heap H locs → lv_has ls 6 [(0, .ref (G.1 16 0)), (1, .int (nI z)), (2, .int lk), (3, .int (nI cn)), (4, .int (nI k))] → W pP l eE { frames := 3, cells := 0, slots := 0, locals := 65 } sS mM args below meth cC H locs 0 0 (MQ below (va_Qv (fun τ => τ = ur σ 20 0 (raiseNK (σ 17 0) z (rupF (lk * 256) (σ 17 0 325 * nI (helpK (σ 17 0) z 18))) (σ 20 0) 18)) (fun τ t => gP G A τ t) A) args sS 0 0 A) (F0 mM 5 ls []) := by
    intro fuel
    induction fuel with
    | zero =>
      intro k cn hk hc hfu
      exact absurd hfu (Nat.not_lt_zero _)
    | succ fuel K_5 =>
      intro k cn hk hc hfu H locs ls hw hS hl
      refine lv_iload hx hb dX6_raisesBeside_5 (lv_at hl 4 rfl) ?_
      refine lv_bipush (v := nI 18) hx hb dX6_raisesBeside_7 (by decide) ?_
      refine n_cmp_ge (tgt := 36) hx hb dX6_raisesBeside_9 (by decide) (by omega) (by omega) (fun c_9 => ?_) (fun c_9 => ?_)
      · refine lv_aload_n hx hb dX6_raisesBeside_36 rfl (lv_at hl 0 rfl) ?_
        refine gf_X6_all hx hb hE hw (Nat.zero_lt_one) hown (hts (.fieldLink RX6 7 "ZonedLightModel" "all" "[I") (by decide +kernel)) dX6_raisesBeside_37 ?_
        refine lv_sipush (v := nI 325) hx hb dX6_raisesBeside_40 (by decide) ?_
        refine g_ald hx hb hE hw (n := 335) (Nat.zero_lt_one) rfl (by decide) (by omega) dX6_raisesBeside_43 ?_
        refine lv_topi (fun x_43 ex_43 => ?_)
        refine lv_iload_n hx hb dX6_raisesBeside_44 rfl (lv_at hl 3 rfl) ?_
        refine lv_imul hx hb dX6_raisesBeside_45 ?_
        refine lv_topi (fun x_45 ex_45 => ?_)
        refine lv_istore (lv' := [(4, .int x_45), (0, .ref (G.1 16 0)), (1, .int (nI z)), (2, .int lk), (3, .int (nI cn))]) hx hb dX6_raisesBeside_46 hl (by decide) rfl (fun ls hl => ?_)
        refine lv_iconst (v := nI 0) hx hb dX6_raisesBeside_48 (by decide) ?_
        refine lv_istore (lv' := [(5, .int (nI 0)), (4, .int x_45), (0, .ref (G.1 16 0)), (1, .int (nI z)), (2, .int lk), (3, .int (nI cn))]) hx hb dX6_raisesBeside_49 hl (by decide) rfl (fun ls hl => ?_)
        have K_51 : ∀ (fuel : Nat) (k : Nat) (b : Int32) (σ2 : St), (k ≤ 18) → (b = σ 17 0 325 * nI (helpK (σ 17 0) z 18)) → (σ2 = ur σ 20 0 (raiseNK (σ 17 0) z (rupF (lk * 256) b) (σ 20 0) k)) → 18 - k < fuel → ∀ (H : Heap) (locs : List Loc) (ls : Array Slot), Wcel G σ2 H → va_S A sS.heap H locs → lv_has ls 6 [(0, .ref (G.1 16 0)), (1, .int (nI z)), (2, .int lk), (4, .int b), (5, .int (nI k))] → W pP l eE { frames := 3, cells := 0, slots := 0, locals := 65 } sS mM args below meth cC H locs 0 0 (MQ below (va_Qv (fun τ => τ = ur σ 20 0 (raiseNK (σ 17 0) z (rupF (lk * 256) (σ 17 0 325 * nI (helpK (σ 17 0) z 18))) (σ 20 0) 18)) (fun τ t => gP G A τ t) A) args sS 0 0 A) (F0 mM 51 ls []) := by
          intro fuel
          induction fuel with
          | zero =>
            intro k b σ2 hk hbb h2 hfu
            exact absurd hfu (Nat.not_lt_zero _)
          | succ fuel K_51 =>
            intro k b σ2 hk hbb h2 hfu H locs ls hw hS hl
            subst h2
            refine lv_iload hx hb dX6_raisesBeside_51 (lv_at hl 4 rfl) ?_
            refine lv_bipush (v := nI 18) hx hb dX6_raisesBeside_53 (by decide) ?_
            refine n_cmp_ge (tgt := 88) hx hb dX6_raisesBeside_55 (by decide) (by omega) (by omega) (fun c_55 => ?_) (fun c_55 => ?_)
            · refine g_vret hx hb hr hlk hE hw hS dX6_raisesBeside_88 ?_
              first | (rw [show k = 18 by omega, hbb]) | (rw [← hbb, rup_0 (Int32.not_lt.mpr c_60), raiseNK_0 hlw, raiseNK_0 hlw])
            · refine lv_iload hx hb dX6_raisesBeside_58 (lv_at hl 3 rfl) ?_
              refine lv_if_le (tgt := 88) hx hb dX6_raisesBeside_60 (by decide) (fun c_60 => ?_) (fun c_60 => ?_)
              · refine g_vret hx hb hr hlk hE hw hS dX6_raisesBeside_88 ?_
                first | (rw [show k = 18 by omega, hbb]) | (rw [← hbb, rup_0 (Int32.not_lt.mpr c_60), raiseNK_0 hlw, raiseNK_0 hlw])
              · refine lv_aload_n hx hb dX6_raisesBeside_63 rfl (lv_at hl 0 rfl) ?_
                refine lv_iload_n hx hb dX6_raisesBeside_64 rfl (lv_at hl 1 rfl) ?_
                refine lv_iload hx hb dX6_raisesBeside_65 (lv_at hl 4 rfl) ?_
                refine g_Vi (n := 2) (As := [.int (nI z), .int (nI k)]) (rest := []) hx hb hml hown hts hE hw hS gX6_raisesBeside_X6_isLiveBeside (c_X6_isLiveBeside l G A _ z k (by omega) (by omega)) rfl (by decide +kernel) ⟨Nat.le_of_ble_eq_true rfl, Nat.le_of_ble_eq_true rfl⟩ (Nat.zero_lt_one) rfl rfl rfl rfl hl.1 rfl (Nat.le_of_ble_eq_true rfl) ⟨Nat.le_of_ble_eq_true rfl, Nat.le_of_ble_eq_true rfl⟩ dX6_raisesBeside_67 (fun x_67 τ_67 H locs hp_67 hw hS => ?_)
                obtain ⟨hb_67, hτ_67⟩ := hp_67
                rw [hτ_67] at hw
                refine lv_if_eq (tgt := 82) hx hb dX6_raisesBeside_70 (by decide) (fun c_70 => ?_) (fun c_70 => ?_)
                · refine lv_iinc (v := nI (k + 1)) (lv' := [(5, .int (nI (k + 1))), (0, .ref (G.1 16 0)), (1, .int (nI z)), (2, .int lk), (4, .int b)]) hx hb dX6_raisesBeside_82 hl (k := 4) rfl (nI_add _ _) (by decide) rfl (fun ls hl => ?_)
                  refine lv_goto (tgt := 51) hx hb dX6_raisesBeside_85 (by decide) ?_
                  exact K_51 (k + 1) b _ (by first | omega | assumption | rfl) (by first | omega | assumption | rfl) (by have hb2 := hb_67; rw [ur_k (by decide)] at hb2; first | (rw [raiseNK, if_neg (bP_f hb2 c_70)]) | (rw [raiseNK, if_pos (bP_t hb2 c_70), hp_79, ur_same, us_ur])) (by omega) _ _ _ hw hS (lv_sub hl [1, 2, 3, 4, 0] rfl)
                · refine lv_aload_n hx hb dX6_raisesBeside_73 rfl (lv_at hl 0 rfl) ?_
                  refine lv_iload hx hb dX6_raisesBeside_74 (lv_at hl 4 rfl) ?_
                  refine lv_iload_n hx hb dX6_raisesBeside_76 rfl (lv_at hl 2 rfl) ?_
                  refine lv_iload hx hb dX6_raisesBeside_77 (lv_at hl 3 rfl) ?_
                  refine g_Vv (n := 3) (As := [.int (nI k), .int lk, .int b]) (rest := []) hx hb hml hown hts hE hw hS gX6_raisesBeside_X6_raises (c_X6_raises l G A _ k lk b (by omega) (Int32.not_le.mp c_60)) rfl (by decide +kernel) ⟨Nat.le_of_ble_eq_true rfl, Nat.le_of_ble_eq_true rfl⟩ (Nat.zero_lt_one) rfl rfl rfl rfl hl.1 rfl (Nat.le_of_ble_eq_true rfl) ⟨Nat.le_of_ble_eq_true rfl, Nat.le_of_ble_eq_true rfl⟩ dX6_raisesBeside_79 (fun τ_79 H locs hp_79 hw hS => ?_)
                  refine lv_iinc (v := nI (k + 1)) (lv' := [(5, .int (nI (k + 1))), (0, .ref (G.1 16 0)), (1, .int (nI z)), (2, .int lk), (4, .int b)]) hx hb dX6_raisesBeside_82 hl (k := 4) rfl (nI_add _ _) (by decide) rfl (fun ls hl => ?_)
                  refine lv_goto (tgt := 51) hx hb dX6_raisesBeside_85 (by decide) ?_
                  exact K_51 (k + 1) b _ (by first | omega | assumption | rfl) (by first | omega | assumption | rfl) (by have hb2 := hb_67; rw [ur_k (by decide)] at hb2; first | (rw [raiseNK, if_neg (bP_f hb2 c_70)]) | (rw [raiseNK, if_pos (bP_t hb2 c_70), hp_79, ur_same, us_ur])) (by omega) _ _ _ hw hS (lv_sub hl [1, 2, 3, 4, 0] rfl)
        exact K_51 (18 - 0 + 1) 0 x_45 _ (by first | omega | assumption | rfl) (by rw [ex_45, ex_43, hc, show k = 18 by omega]) (ur_self rfl).symm (Nat.lt_succ_self _) _ _ _ hw hS (lv_sub hl [2, 3, 4, 1, 0] rfl)
      · refine lv_iload_n hx hb dX6_raisesBeside_12 rfl (lv_at hl 3 rfl) ?_
        refine lv_aload_n hx hb dX6_raisesBeside_13 rfl (lv_at hl 0 rfl) ?_
        refine lv_iload_n hx hb dX6_raisesBeside_14 rfl (lv_at hl 1 rfl) ?_
        refine lv_iload hx hb dX6_raisesBeside_15 (lv_at hl 4 rfl) ?_
        refine g_Vi (n := 2) (As := [.int (nI z), .int (nI k)]) (rest := [.int (nI cn)]) hx hb hml hown hts hE hw hS gX6_raisesBeside_X6_isLiveBeside (c_X6_isLiveBeside l G A _ z k (by omega) (by omega)) rfl (by decide +kernel) ⟨Nat.le_of_ble_eq_true rfl, Nat.le_of_ble_eq_true rfl⟩ (Nat.zero_lt_one) rfl rfl rfl rfl hl.1 rfl (Nat.le_of_ble_eq_true rfl) ⟨Nat.le_of_ble_eq_true rfl, Nat.le_of_ble_eq_true rfl⟩ dX6_raisesBeside_17 (fun x_17 τ_17 H locs hp_17 hw hS => ?_)
        obtain ⟨hb_17, hτ_17⟩ := hp_17
        rw [hτ_17] at hw
        refine lv_if_eq (tgt := 27) hx hb dX6_raisesBeside_20 (by decide) (fun c_20 => ?_) (fun c_20 => ?_)
        · refine lv_iconst (v := nI 0) hx hb dX6_raisesBeside_27 (by decide) ?_
          refine n_iadd hx hb dX6_raisesBeside_28 ?_
          refine lv_istore_n (lv' := [(3, .int (nI (cn + 0))), (0, .ref (G.1 16 0)), (1, .int (nI z)), (2, .int lk), (4, .int (nI k))]) hx hb dX6_raisesBeside_29 rfl hl (by decide) rfl (fun ls hl => ?_)
          refine lv_iinc (v := nI (k + 1)) (lv' := [(4, .int (nI (k + 1))), (3, .int (nI (cn + 0))), (0, .ref (G.1 16 0)), (1, .int (nI z)), (2, .int lk)]) hx hb dX6_raisesBeside_30 hl (k := 4) rfl (nI_add _ _) (by decide) rfl (fun ls hl => ?_)
          refine lv_goto (tgt := 5) hx hb dX6_raisesBeside_33 (by decide) ?_
          exact K_5 (k + 1) (cn + 0) (by first | omega | assumption | rfl) (by first | (rw [helpK, if_neg (bP_f hb_17 c_20)]; exact hc) | (rw [helpK, if_pos (bP_t hb_17 c_20), hc])) (by omega) _ _ _ hw hS (lv_sub hl [2, 3, 4, 1, 0] rfl)
        · refine lv_iconst (v := nI 1) hx hb dX6_raisesBeside_23 (by decide) ?_
          refine lv_goto (tgt := 28) hx hb dX6_raisesBeside_24 (by decide) ?_
          refine n_iadd hx hb dX6_raisesBeside_28 ?_
          refine lv_istore_n (lv' := [(3, .int (nI (cn + 1))), (0, .ref (G.1 16 0)), (1, .int (nI z)), (2, .int lk), (4, .int (nI k))]) hx hb dX6_raisesBeside_29 rfl hl (by decide) rfl (fun ls hl => ?_)
          refine lv_iinc (v := nI (k + 1)) (lv' := [(4, .int (nI (k + 1))), (3, .int (nI (cn + 1))), (0, .ref (G.1 16 0)), (1, .int (nI z)), (2, .int lk)]) hx hb dX6_raisesBeside_30 hl (k := 4) rfl (nI_add _ _) (by decide) rfl (fun ls hl => ?_)
          refine lv_goto (tgt := 5) hx hb dX6_raisesBeside_33 (by decide) ?_
          exact K_5 (k + 1) (cn + 1) (by first | omega | assumption | rfl) (by first | (rw [helpK, if_neg (bP_f hb_17 c_20)]; exact hc) | (rw [helpK, if_pos (bP_t hb_17 c_20), hc])) (by omega) _ _ _ hw hS (lv_sub hl [2, 3, 4, 1, 0] rfl)
  exact K_5 (18 - 0 + 1) 0 0 (by first | omega | assumption | rfl) (by first | omega | assumption | rfl) (Nat.lt_succ_self _) _ _ _ hw hS (lv_sub hl [2, 3, 4, 1, 0] rfl)
set_option maxHeartbeats 4000000 in
set_option maxRecDepth 100000 in
/-- ZonedLightModel.round()V -/
theorem c_X6_round (l : Launch) (G : GG) (A : Nat → Prop) (σ : St)  (hok : okW (σ 17 0)) (hlw : lowW (σ 20 0)) : MV l yX6_round wsX6_round 4 90 G A σ [.ref (G.1 16 0)] (fun τ => τ = ur σ 20 0 (roundK (σ 17 0) (σ 20 0) 18)) := by
  refine MV.on (by decide) rfl (Nat.le_of_ble_eq_true rfl) (fun pP eE sS mM args below meth cC ls hx hb hml hr hown hlk hts hE hw hS hl => ?_)
  have hl : lv_has ls 3 [(0, .ref (G.1 16 0))] := hl
  refine lv_iconst (v := nI 0) hx hb dX6_round_0 (by decide) ?_
  refine lv_istore_n (lv' := [(1, .int (nI 0)), (0, .ref (G.1 16 0))]) hx hb dX6_round_1 rfl hl (by decide) rfl (fun ls hl => ?_)
  have K_2 : ∀ (fuel : Nat) (k : Nat) (σ2 : St), (k ≤ 18) → (σ2 = ur σ 20 0 (roundK (σ 17 0) (σ 20 0) k)) → 18 - k < fuel → ∀ (H : Heap) (locs : List Loc) (ls : Array Slot), Wcel G σ2 H → va_S A sS.heap H locs → lv_has ls 3 [(0, .ref (G.1 16 0)), (1, .int (nI k))] → W pP l eE { frames := 4, cells := 0, slots := 0, locals := 90 } sS mM args below meth cC H locs 0 0 (MQ below (va_Qv (fun τ => τ = ur σ 20 0 (roundK (σ 17 0) (σ 20 0) 18)) (fun τ t => gP G A τ t) A) args sS 0 0 A) (F0 mM 2 ls []) := by
    intro fuel
    induction fuel with
    | zero =>
      intro k σ2 hk h2 hfu
      exact absurd hfu (Nat.not_lt_zero _)
    | succ fuel K_2 =>
      intro k σ2 hk h2 hfu H locs ls hw hS hl
      subst h2
      have hl2 := lowW_round hok hlw k (by omega)
      refine lv_iload_n hx hb dX6_round_2 rfl (lv_at hl 1 rfl) ?_
      refine lv_bipush (v := nI 18) hx hb dX6_round_3 (by decide) ?_
      refine n_cmp_ge (tgt := 71) hx hb dX6_round_5 (by decide) (by omega) (by omega) (fun c_5 => ?_) (fun c_5 => ?_)
      · refine g_vret hx hb hr hlk hE hw hS dX6_round_71 ?_
        rw [show k = 18 by omega]
      · refine lv_aload_n hx hb dX6_round_8 rfl (lv_at hl 0 rfl) ?_
        refine lv_iload_n hx hb dX6_round_9 rfl (lv_at hl 1 rfl) ?_
        refine g_Vi (n := 1) (As := [.int (nI k)]) (rest := []) hx hb hml hown hts hE hw hS gX6_round_X6_greatestIn (c_X6_greatestIn l G A _ k (by omega)) rfl (by decide +kernel) ⟨Nat.le_of_ble_eq_true rfl, Nat.le_of_ble_eq_true rfl⟩ (Nat.zero_lt_one) rfl rfl rfl rfl hl.1 rfl (Nat.le_of_ble_eq_true rfl) ⟨Nat.le_of_ble_eq_true rfl, Nat.le_of_ble_eq_true rfl⟩ dX6_round_10 (fun x_10 τ_10 H locs hp_10 hw hS => ?_)
        obtain ⟨ex_10, hτ_10⟩ := hp_10
        rw [hτ_10] at hw
        refine lv_aload_n hx hb dX6_round_13 rfl (lv_at hl 0 rfl) ?_
        refine lv_iload_n hx hb dX6_round_14 rfl (lv_at hl 1 rfl) ?_
        refine lv_iconst (v := nI 1) hx hb dX6_round_15 (by decide) ?_
        refine g_Vi (n := 2) (As := [.int (nI k), .int (nI 1)]) (rest := [.int x_10]) hx hb hml hown hts hE hw hS gX6_round_X6_light (c_X6_lightW l G A _ k (by omega)) rfl (by decide +kernel) ⟨Nat.le_of_ble_eq_true rfl, Nat.le_of_ble_eq_true rfl⟩ (Nat.zero_lt_one) rfl rfl rfl rfl hl.1 rfl (Nat.le_of_ble_eq_true rfl) ⟨Nat.le_of_ble_eq_true rfl, Nat.le_of_ble_eq_true rfl⟩ dX6_round_16 (fun x_16 τ_16 H locs hp_16 hw hS => ?_)
        obtain ⟨ex_16, hτ_16⟩ := hp_16
        rw [hτ_16] at hw
        refine lv_isub hx hb dX6_round_19 ?_
        refine lv_topi (fun x_19 ex_19 => ?_)
        have el : x_19 = peakF (σ 17 0) k - lightF (σ 17 0) (roundK (σ 17 0) (σ 20 0) k) k := by rw [ex_19, ex_10, ex_16, ur_k (by decide), ur_same]
        refine lv_istore_n (lv' := [(2, .int x_19), (0, .ref (G.1 16 0)), (1, .int (nI k))]) hx hb dX6_round_20 rfl hl (by decide) rfl (fun ls hl => ?_)
        refine lv_iload_n hx hb dX6_round_21 rfl (lv_at hl 0 rfl) ?_
        refine lv_if_le (tgt := 55) hx hb dX6_round_22 (by decide) (fun c_22 => ?_) (fun c_22 => ?_)
        · refine lv_iload_n hx hb dX6_round_55 rfl (lv_at hl 0 rfl) ?_
          refine lv_if_le (tgt := 65) hx hb dX6_round_56 (by decide) (fun c_56 => ?_) (fun c_56 => ?_)
          · refine lv_iinc (v := nI (k + 1)) (lv' := [(1, .int (nI (k + 1))), (2, .int x_19), (0, .ref (G.1 16 0))]) hx hb dX6_round_65 hl (k := 2) rfl (nI_add _ _) (by decide) rfl (fun ls hl => ?_)
            refine lv_goto (tgt := 2) hx hb dX6_round_68 (by decide) ?_
            first | exact K_2 (k + 1) _ (by first | omega | assumption | rfl) (by rw [hp_49, us_ur, ur_same, roundK, zone_live (by rw [← ed]; exact c_35) (by rw [← el]; exact c_22), el, ex_48, ur_k (by decide)]) (by omega) _ _ _ hw hS (lv_sub hl [2, 0] rfl) | exact K_2 (k + 1) _ (by first | omega | assumption | rfl) (by rw [hp_62, ur_ur, ur_same, ur_k (by decide), roundK, zone_dead (by rw [← ed]; exact c_35) (by rw [← el]; exact c_22), el]) (by omega) _ _ _ hw hS (lv_sub hl [2, 0] rfl) | exact K_2 (k + 1) _ (by first | omega | assumption | rfl) (absurd c_22 c_56) (by omega) _ _ _ hw hS (lv_sub hl [2, 0] rfl) | exact K_2 (k + 1) _ (by first | omega | assumption | rfl) (by rw [roundK, zone_0 hok hl2 (lack_0 (by rw [← el]; exact c_22))]) (by omega) _ _ _ hw hS (lv_sub hl [2, 0] rfl) | exact K_2 (k + 1) _ (by first | omega | assumption | rfl) (by rw [roundK, zone_0 hok hl2 (lack_0 (by rw [← el]; exact c_56))]) (by omega) _ _ _ hw hS (lv_sub hl [2, 0] rfl)
          · refine lv_aload_n hx hb dX6_round_59 rfl (lv_at hl 1 rfl) ?_
            refine lv_iload_n hx hb dX6_round_60 rfl (lv_at hl 2 rfl) ?_
            refine lv_iload_n hx hb dX6_round_61 rfl (lv_at hl 0 rfl) ?_
            refine g_Vv (n := 2) (As := [.int (nI k), .int x_19]) (rest := []) hx hb hml hown hts hE hw hS gX6_round_X6_raisesBeside (c_X6_raisesBeside l G A _ k x_19 (by omega) (by rw [ur_same]; exact hl2)) rfl (by decide +kernel) ⟨Nat.le_of_ble_eq_true rfl, Nat.le_of_ble_eq_true rfl⟩ (Nat.zero_lt_one) rfl rfl rfl rfl hl.1 rfl (Nat.le_of_ble_eq_true rfl) ⟨Nat.le_of_ble_eq_true rfl, Nat.le_of_ble_eq_true rfl⟩ dX6_round_62 (fun τ_62 H locs hp_62 hw hS => ?_)
            refine lv_iinc (v := nI (k + 1)) (lv' := [(1, .int (nI (k + 1))), (2, .int x_19), (0, .ref (G.1 16 0))]) hx hb dX6_round_65 hl (k := 2) rfl (nI_add _ _) (by decide) rfl (fun ls hl => ?_)
            refine lv_goto (tgt := 2) hx hb dX6_round_68 (by decide) ?_
            first | exact K_2 (k + 1) _ (by first | omega | assumption | rfl) (by rw [hp_49, us_ur, ur_same, roundK, zone_live (by rw [← ed]; exact c_35) (by rw [← el]; exact c_22), el, ex_48, ur_k (by decide)]) (by omega) _ _ _ hw hS (lv_sub hl [2, 0] rfl) | exact K_2 (k + 1) _ (by first | omega | assumption | rfl) (by rw [hp_62, ur_ur, ur_same, ur_k (by decide), roundK, zone_dead (by rw [← ed]; exact c_35) (by rw [← el]; exact c_22), el]) (by omega) _ _ _ hw hS (lv_sub hl [2, 0] rfl) | exact K_2 (k + 1) _ (by first | omega | assumption | rfl) (absurd c_22 c_56) (by omega) _ _ _ hw hS (lv_sub hl [2, 0] rfl) | exact K_2 (k + 1) _ (by first | omega | assumption | rfl) (by rw [roundK, zone_0 hok hl2 (lack_0 (by rw [← el]; exact c_22))]) (by omega) _ _ _ hw hS (lv_sub hl [2, 0] rfl) | exact K_2 (k + 1) _ (by first | omega | assumption | rfl) (by rw [roundK, zone_0 hok hl2 (lack_0 (by rw [← el]; exact c_56))]) (by omega) _ _ _ hw hS (lv_sub hl [2, 0] rfl)
        · refine lv_aload_n hx hb dX6_round_25 rfl (lv_at hl 1 rfl) ?_
          refine gf_X6_all hx hb hE hw (Nat.zero_lt_one) hown (hts (.fieldLink RX6 7 "ZonedLightModel" "all" "[I") (by decide +kernel)) dX6_round_26 ?_
          refine lv_sipush (v := nI 306) hx hb dX6_round_29 (by decide) ?_
          refine lv_iload_n hx hb dX6_round_32 rfl (lv_at hl 2 rfl) ?_
          refine n_iadd hx hb dX6_round_33 ?_
          refine g_ald hx hb hE hw (n := 335) (Nat.zero_lt_one) rfl (by decide) (by omega) dX6_round_34 ?_
          refine lv_topi (fun x_34 ex_34 => ?_)
          have ed : x_34 = σ 17 0 (306 + k) := by rw [ex_34, ur_k (by decide)]
          refine lv_if_ne (tgt := 55) hx hb dX6_round_35 (by decide) (fun c_35 => ?_) (fun c_35 => ?_)
          · refine lv_iload_n hx hb dX6_round_55 rfl (lv_at hl 0 rfl) ?_
            refine lv_if_le (tgt := 65) hx hb dX6_round_56 (by decide) (fun c_56 => ?_) (fun c_56 => ?_)
            · refine lv_iinc (v := nI (k + 1)) (lv' := [(1, .int (nI (k + 1))), (2, .int x_19), (0, .ref (G.1 16 0))]) hx hb dX6_round_65 hl (k := 2) rfl (nI_add _ _) (by decide) rfl (fun ls hl => ?_)
              refine lv_goto (tgt := 2) hx hb dX6_round_68 (by decide) ?_
              first | exact K_2 (k + 1) _ (by first | omega | assumption | rfl) (by rw [hp_49, us_ur, ur_same, roundK, zone_live (by rw [← ed]; exact c_35) (by rw [← el]; exact c_22), el, ex_48, ur_k (by decide)]) (by omega) _ _ _ hw hS (lv_sub hl [2, 0] rfl) | exact K_2 (k + 1) _ (by first | omega | assumption | rfl) (by rw [hp_62, ur_ur, ur_same, ur_k (by decide), roundK, zone_dead (by rw [← ed]; exact c_35) (by rw [← el]; exact c_22), el]) (by omega) _ _ _ hw hS (lv_sub hl [2, 0] rfl) | exact K_2 (k + 1) _ (by first | omega | assumption | rfl) (absurd c_22 c_56) (by omega) _ _ _ hw hS (lv_sub hl [2, 0] rfl) | exact K_2 (k + 1) _ (by first | omega | assumption | rfl) (by rw [roundK, zone_0 hok hl2 (lack_0 (by rw [← el]; exact c_22))]) (by omega) _ _ _ hw hS (lv_sub hl [2, 0] rfl) | exact K_2 (k + 1) _ (by first | omega | assumption | rfl) (by rw [roundK, zone_0 hok hl2 (lack_0 (by rw [← el]; exact c_56))]) (by omega) _ _ _ hw hS (lv_sub hl [2, 0] rfl)
            · refine lv_aload_n hx hb dX6_round_59 rfl (lv_at hl 1 rfl) ?_
              refine lv_iload_n hx hb dX6_round_60 rfl (lv_at hl 2 rfl) ?_
              refine lv_iload_n hx hb dX6_round_61 rfl (lv_at hl 0 rfl) ?_
              refine g_Vv (n := 2) (As := [.int (nI k), .int x_19]) (rest := []) hx hb hml hown hts hE hw hS gX6_round_X6_raisesBeside (c_X6_raisesBeside l G A _ k x_19 (by omega) (by rw [ur_same]; exact hl2)) rfl (by decide +kernel) ⟨Nat.le_of_ble_eq_true rfl, Nat.le_of_ble_eq_true rfl⟩ (Nat.zero_lt_one) rfl rfl rfl rfl hl.1 rfl (Nat.le_of_ble_eq_true rfl) ⟨Nat.le_of_ble_eq_true rfl, Nat.le_of_ble_eq_true rfl⟩ dX6_round_62 (fun τ_62 H locs hp_62 hw hS => ?_)
              refine lv_iinc (v := nI (k + 1)) (lv' := [(1, .int (nI (k + 1))), (2, .int x_19), (0, .ref (G.1 16 0))]) hx hb dX6_round_65 hl (k := 2) rfl (nI_add _ _) (by decide) rfl (fun ls hl => ?_)
              refine lv_goto (tgt := 2) hx hb dX6_round_68 (by decide) ?_
              first | exact K_2 (k + 1) _ (by first | omega | assumption | rfl) (by rw [hp_49, us_ur, ur_same, roundK, zone_live (by rw [← ed]; exact c_35) (by rw [← el]; exact c_22), el, ex_48, ur_k (by decide)]) (by omega) _ _ _ hw hS (lv_sub hl [2, 0] rfl) | exact K_2 (k + 1) _ (by first | omega | assumption | rfl) (by rw [hp_62, ur_ur, ur_same, ur_k (by decide), roundK, zone_dead (by rw [← ed]; exact c_35) (by rw [← el]; exact c_22), el]) (by omega) _ _ _ hw hS (lv_sub hl [2, 0] rfl) | exact K_2 (k + 1) _ (by first | omega | assumption | rfl) (absurd c_22 c_56) (by omega) _ _ _ hw hS (lv_sub hl [2, 0] rfl) | exact K_2 (k + 1) _ (by first | omega | assumption | rfl) (by rw [roundK, zone_0 hok hl2 (lack_0 (by rw [← el]; exact c_22))]) (by omega) _ _ _ hw hS (lv_sub hl [2, 0] rfl) | exact K_2 (k + 1) _ (by first | omega | assumption | rfl) (by rw [roundK, zone_0 hok hl2 (lack_0 (by rw [← el]; exact c_56))]) (by omega) _ _ _ hw hS (lv_sub hl [2, 0] rfl)
          · refine lv_aload_n hx hb dX6_round_38 rfl (lv_at hl 1 rfl) ?_
            refine lv_iload_n hx hb dX6_round_39 rfl (lv_at hl 2 rfl) ?_
            refine lv_iload_n hx hb dX6_round_40 rfl (lv_at hl 0 rfl) ?_
            refine lv_aload_n hx hb dX6_round_41 rfl (lv_at hl 1 rfl) ?_
            refine gf_X6_all hx hb hE hw (Nat.zero_lt_one) hown (hts (.fieldLink RX6 7 "ZonedLightModel" "all" "[I") (by decide +kernel)) dX6_round_42 ?_
            refine lv_sipush (v := nI 324) hx hb dX6_round_45 (by decide) ?_
            refine g_ald hx hb hE hw (n := 335) (Nat.zero_lt_one) rfl (by decide) (by omega) dX6_round_48 ?_
            refine lv_topi (fun x_48 ex_48 => ?_)
            refine g_Vv (n := 3) (As := [.int (nI k), .int x_19, .int x_48]) (rest := []) hx hb hml hown hts hE hw hS gX6_round_X6_raises (c_X6_raises l G A _ k x_19 x_48 (by omega) (by rw [ex_48, ur_k (by decide)]; exact okW_own hok)) rfl (by decide +kernel) ⟨Nat.le_of_ble_eq_true rfl, Nat.le_of_ble_eq_true rfl⟩ (Nat.zero_lt_one) rfl rfl rfl rfl hl.1 rfl (Nat.le_of_ble_eq_true rfl) ⟨Nat.le_of_ble_eq_true rfl, Nat.le_of_ble_eq_true rfl⟩ dX6_round_49 (fun τ_49 H locs hp_49 hw hS => ?_)
            refine lv_goto (tgt := 65) hx hb dX6_round_52 (by decide) ?_
            refine lv_iinc (v := nI (k + 1)) (lv' := [(1, .int (nI (k + 1))), (2, .int x_19), (0, .ref (G.1 16 0))]) hx hb dX6_round_65 hl (k := 2) rfl (nI_add _ _) (by decide) rfl (fun ls hl => ?_)
            refine lv_goto (tgt := 2) hx hb dX6_round_68 (by decide) ?_
            first | exact K_2 (k + 1) _ (by first | omega | assumption | rfl) (by rw [hp_49, us_ur, ur_same, roundK, zone_live (by rw [← ed]; exact c_35) (by rw [← el]; exact c_22), el, ex_48, ur_k (by decide)]) (by omega) _ _ _ hw hS (lv_sub hl [2, 0] rfl) | exact K_2 (k + 1) _ (by first | omega | assumption | rfl) (by rw [hp_62, ur_ur, ur_same, ur_k (by decide), roundK, zone_dead (by rw [← ed]; exact c_35) (by rw [← el]; exact c_22), el]) (by omega) _ _ _ hw hS (lv_sub hl [2, 0] rfl) | exact K_2 (k + 1) _ (by first | omega | assumption | rfl) (absurd c_22 c_56) (by omega) _ _ _ hw hS (lv_sub hl [2, 0] rfl) | exact K_2 (k + 1) _ (by first | omega | assumption | rfl) (by rw [roundK, zone_0 hok hl2 (lack_0 (by rw [← el]; exact c_22))]) (by omega) _ _ _ hw hS (lv_sub hl [2, 0] rfl) | exact K_2 (k + 1) _ (by first | omega | assumption | rfl) (by rw [roundK, zone_0 hok hl2 (lack_0 (by rw [← el]; exact c_56))]) (by omega) _ _ _ hw hS (lv_sub hl [2, 0] rfl)
  exact K_2 (18 - 0 + 1) 0 _ (by first | omega | assumption | rfl) (ur_self rfl).symm (Nat.lt_succ_self _) _ _ _ hw hS (lv_sub hl [1, 0] rfl)
set_option maxHeartbeats 4000000 in
set_option maxRecDepth 100000 in
/-- ZonedLightModel.wants(I)V -/
theorem c_X6_wants (l : Launch) (G : GG) (A : Nat → Prop) (σ : St) (q : Int32) (hok : okW (σ 17 0)) : MV l yX6_wants wsX6_wants 5 112 G A σ [.ref (G.1 16 0), .int q] (fun τ => τ = ur σ 20 0 (wantF (σ 17 0) q)) := by
  refine MV.on (by decide) rfl (Nat.le_of_ble_eq_true rfl) (fun pP eE sS mM args below meth cC ls hx hb hml hr hown hlk hts hE hw hS hl => ?_)
  have hl : lv_has ls 4 [(0, .ref (G.1 16 0)), (1, .int q)] := hl
  obtain ⟨RR, hRR, eRR⟩ := hok.2.2.2.2.2.2.1
  have hcan := hw.2.1 20 0
  refine lv_iconst (v := nI 0) hx hb dX6_wants_0 (by decide) ?_
  refine lv_istore_n (lv' := [(2, .int (nI 0)), (0, .ref (G.1 16 0)), (1, .int q)]) hx hb dX6_wants_1 rfl hl (by decide) rfl (fun ls hl => ?_)
  have K_2 : ∀ (fuel : Nat) (k : Nat) (σ2 : St), (k ≤ 18) → (σ2 = ur σ 20 0 (lev0K (σ 17 0) q (σ 20 0) k)) → 18 - k < fuel → ∀ (H : Heap) (locs : List Loc) (ls : Array Slot), Wcel G σ2 H → va_S A sS.heap H locs → lv_has ls 4 [(0, .ref (G.1 16 0)), (1, .int q), (2, .int (nI k))] → W pP l eE { frames := 5, cells := 0, slots := 0, locals := 112 } sS mM args below meth cC H locs 0 0 (MQ below (va_Qv (fun τ => τ = ur σ 20 0 (wantF (σ 17 0) q)) (fun τ t => gP G A τ t) A) args sS 0 0 A) (F0 mM 2 ls []) := by
    intro fuel
    induction fuel with
    | zero =>
      intro k σ2 hk h2 hfu
      exact absurd hfu (Nat.not_lt_zero _)
    | succ fuel K_2 =>
      intro k σ2 hk h2 hfu H locs ls hw hS hl
      subst h2
      refine lv_iload_n hx hb dX6_wants_2 rfl (lv_at hl 2 rfl) ?_
      refine lv_bipush (v := nI 18) hx hb dX6_wants_3 (by decide) ?_
      refine n_cmp_ge (tgt := 44) hx hb dX6_wants_5 (by decide) (by omega) (by omega) (fun c_5 => ?_) (fun c_5 => ?_)
      · refine lv_iconst (v := nI 0) hx hb dX6_wants_44 (by decide) ?_
        refine lv_istore_n (lv' := [(2, .int (nI 0)), (0, .ref (G.1 16 0)), (1, .int q)]) hx hb dX6_wants_45 rfl hl (by decide) rfl (fun ls hl => ?_)
        have K_46 : ∀ (fuel : Nat) (k : Nat) (σ2 : St), (k ≤ RR) → (σ2 = ur σ 20 0 (roundsK (σ 17 0) (lev0F (σ 17 0) q) k)) → RR - k < fuel → ∀ (H : Heap) (locs : List Loc) (ls : Array Slot), Wcel G σ2 H → va_S A sS.heap H locs → lv_has ls 4 [(0, .ref (G.1 16 0)), (2, .int (nI k))] → W pP l eE { frames := 5, cells := 0, slots := 0, locals := 112 } sS mM args below meth cC H locs 0 0 (MQ below (va_Qv (fun τ => τ = ur σ 20 0 (wantF (σ 17 0) q)) (fun τ t => gP G A τ t) A) args sS 0 0 A) (F0 mM 46 ls []) := by
          intro fuel
          induction fuel with
          | zero =>
            intro k σ2 hk h2 hfu
            exact absurd hfu (Nat.not_lt_zero _)
          | succ fuel K_46 =>
            intro k σ2 hk h2 hfu H locs ls hw hS hl
            subst h2
            refine lv_iload_n hx hb dX6_wants_46 rfl (lv_at hl 1 rfl) ?_
            refine lv_aload_n hx hb dX6_wants_47 rfl (lv_at hl 0 rfl) ?_
            refine gf_X6_all hx hb hE hw (Nat.zero_lt_one) hown (hts (.fieldLink RX6 7 "ZonedLightModel" "all" "[I") (by decide +kernel)) dX6_wants_48 ?_
            refine lv_sipush (v := nI 328) hx hb dX6_wants_51 (by decide) ?_
            refine g_ald hx hb hE hw (n := 335) (Nat.zero_lt_one) rfl (by decide) (by omega) dX6_wants_54 ?_
            refine lv_topi (fun x_54 ex_54 => ?_)
            obtain rfl : x_54 = nI RR := by rw [ex_54, ur_k (by decide), eRR]
            refine n_cmp_ge (tgt := 68) hx hb dX6_wants_55 (by decide) (by omega) (by omega) (fun c_55 => ?_) (fun c_55 => ?_)
            · refine lv_iconst (v := nI 0) hx hb dX6_wants_68 (by decide) ?_
              refine lv_istore_n (lv' := [(2, .int (nI 0)), (0, .ref (G.1 16 0))]) hx hb dX6_wants_69 rfl hl (by decide) rfl (fun ls hl => ?_)
              have K_70 : ∀ (fuel : Nat) (z : Nat) (σ2 : St), (z ≤ 18) → (σ2 = ur σ 20 0 (lowersK (σ 17 0) (roundsK (σ 17 0) (lev0F (σ 17 0) q) RR) z)) → 18 - z < fuel → ∀ (H : Heap) (locs : List Loc) (ls : Array Slot), Wcel G σ2 H → va_S A sS.heap H locs → lv_has ls 4 [(0, .ref (G.1 16 0)), (2, .int (nI z))] → W pP l eE { frames := 5, cells := 0, slots := 0, locals := 112 } sS mM args below meth cC H locs 0 0 (MQ below (va_Qv (fun τ => τ = ur σ 20 0 (wantF (σ 17 0) q)) (fun τ t => gP G A τ t) A) args sS 0 0 A) (F0 mM 70 ls []) := by
                intro fuel
                induction fuel with
                | zero =>
                  intro z σ2 hz0 h2 hfu
                  exact absurd hfu (Nat.not_lt_zero _)
                | succ fuel K_70 =>
                  intro z σ2 hz0 h2 hfu H locs ls hw hS hl
                  subst h2
                  have hlz := lowW_lowers (a := σ 17 0) (lowW_rounds hok (lowW_lev0 hok q) RR) z
                  obtain ⟨nn, hnn, enn⟩ := hlz z
                  refine lv_iload_n hx hb dX6_wants_70 rfl (lv_at hl 1 rfl) ?_
                  refine lv_bipush (v := nI 18) hx hb dX6_wants_71 (by decide) ?_
                  refine n_cmp_ge (tgt := 135) hx hb dX6_wants_73 (by decide) (by omega) (by omega) (fun c_73 => ?_) (fun c_73 => ?_)
                  · refine g_vret hx hb hr hlk hE hw hS dX6_wants_135 ?_
                    rw [show z = 18 by omega, wantF, eRR, nI_clamp (by omega)]; rfl
                  · refine lv_aload_n hx hb dX6_wants_76 rfl (lv_at hl 0 rfl) ?_
                    refine lv_iload_n hx hb dX6_wants_77 rfl (lv_at hl 1 rfl) ?_
                    refine g_Vi (n := 1) (As := [.int (nI z)]) (rest := []) hx hb hml hown hts hE hw hS gX6_wants_X6_hasBlack (c_X6_hasBlack l G A _ z (by omega)) rfl (by decide +kernel) ⟨Nat.le_of_ble_eq_true rfl, Nat.le_of_ble_eq_true rfl⟩ (Nat.zero_lt_one) rfl rfl rfl rfl hl.1 rfl (Nat.le_of_ble_eq_true rfl) ⟨Nat.le_of_ble_eq_true rfl, Nat.le_of_ble_eq_true rfl⟩ dX6_wants_78 (fun x_78 τ_78 H locs hp_78 hw hS => ?_)
                    obtain ⟨hb_78, hτ_78⟩ := hp_78
                    rw [hτ_78] at hw
                    refine lv_istore_n (lv' := [(3, .int x_78), (0, .ref (G.1 16 0)), (2, .int (nI z))]) hx hb dX6_wants_81 rfl hl (by decide) rfl (fun ls hl => ?_)
                    have K_82 : ∀ (fuel : Nat) (j : Nat) (bk : Int32) (σ2 : St), (j < 256) → (bP bk (blackF (σ 17 0) z = true)) → (bk = 0 → j = nn) → (lowK (σ 17 0) j (glowK (σ 17 0) (upd (lowersK (σ 17 0) (roundsK (σ 17 0) (lev0F (σ 17 0) q) RR) z) z (nI j)) z 18) = lowK (σ 17 0) nn (glowK (σ 17 0) (lowersK (σ 17 0) (roundsK (σ 17 0) (lev0F (σ 17 0) q) RR) z) z 18)) → (σ2 = ur σ 20 0 (upd (lowersK (σ 17 0) (roundsK (σ 17 0) (lev0F (σ 17 0) q) RR) z) z (nI j))) → j < fuel → ∀ (H : Heap) (locs : List Loc) (ls : Array Slot), Wcel G σ2 H → va_S A sS.heap H locs → lv_has ls 4 [(0, .ref (G.1 16 0)), (2, .int (nI z)), (3, .int bk)] → W pP l eE { frames := 5, cells := 0, slots := 0, locals := 112 } sS mM args below meth cC H locs 0 0 (MQ below (va_Qv (fun τ => τ = ur σ 20 0 (wantF (σ 17 0) q)) (fun τ t => gP G A τ t) A) args sS 0 0 A) (F0 mM 82 ls []) := by
                      intro fuel
                      induction fuel with
                      | zero =>
                        intro j bk σ2 hj hbk hjz hi h2 hfu
                        exact absurd hfu (Nat.not_lt_zero _)
                      | succ fuel K_82 =>
                        intro j bk σ2 hj hbk hjz hi h2 hfu H locs ls hw hS hl
                        subst h2
                        refine lv_iload_n hx hb dX6_wants_82 rfl (lv_at hl 2 rfl) ?_
                        refine lv_if_eq (tgt := 129) hx hb dX6_wants_83 (by decide) (fun c_83 => ?_) (fun c_83 => ?_)
                        · refine lv_iinc (v := nI (z + 1)) (lv' := [(2, .int (nI (z + 1))), (0, .ref (G.1 16 0)), (3, .int bk)]) hx hb dX6_wants_129 hl (k := 1) rfl (nI_add _ _) (by decide) rfl (fun ls hl => ?_)
                          refine lv_goto (tgt := 70) hx hb dX6_wants_132 (by decide) ?_
                          first | exact K_70 (z + 1) _ (by first | omega | assumption | rfl) (by rw [lowersK, lowerV, if_neg (bP_f hbk c_83), hjz c_83, upd_self enn]) (by omega) _ _ _ hw hS (lv_sub hl [1, 0] rfl) | exact K_70 (z + 1) _ (by first | omega | assumption | rfl) (by obtain rfl := e0; rw [lowersK, lowerV, if_pos (bP_t hbk c_83), enn, nI_clamp (by omega), ← hi, lowK]) (by omega) _ _ _ hw hS (lv_sub hl [1, 0] rfl) | exact K_70 (z + 1) _ (by first | omega | assumption | rfl) (by obtain ⟨i, rfl⟩ := e1; rw [lowersK, lowerV, if_pos (bP_t hbk c_83), enn, nI_clamp (by omega), ← hi, lowK, if_neg (by rw [← eha, ← elk]; exact Int32.not_lt.mpr c_113)]) (by omega) _ _ _ hw hS (lv_sub hl [1, 0] rfl)
                        · refine lv_aload_n hx hb dX6_wants_86 rfl (lv_at hl 0 rfl) ?_
                          refine gf_X6_wanted hx hb hE hw (Nat.zero_lt_one) hown (hts (.fieldLink RX6 19 "ZonedLightModel" "wanted" "[I") (by decide +kernel)) dX6_wants_87 ?_
                          refine lv_iload_n hx hb dX6_wants_90 rfl (lv_at hl 1 rfl) ?_
                          refine g_ald hx hb hE hw (n := 18) (Nat.zero_lt_one) rfl (by decide) (by omega) dX6_wants_91 ?_
                          refine lv_topi (fun x_91 ex_91 => ?_)
                          obtain rfl : x_91 = nI j := by rw [ex_91, ur_same, pk_us]
                          refine n_if_le (tgt := 129) hx hb dX6_wants_92 (by decide) (by omega) (fun c_92 => ?_) (fun c_92 => ?_)
                          · have e0 : j = 0 := c_92
                            refine lv_iinc (v := nI (z + 1)) (lv' := [(2, .int (nI (z + 1))), (0, .ref (G.1 16 0)), (3, .int bk)]) hx hb dX6_wants_129 hl (k := 1) rfl (nI_add _ _) (by decide) rfl (fun ls hl => ?_)
                            refine lv_goto (tgt := 70) hx hb dX6_wants_132 (by decide) ?_
                            first | exact K_70 (z + 1) _ (by first | omega | assumption | rfl) (by rw [lowersK, lowerV, if_neg (bP_f hbk c_83), hjz c_83, upd_self enn]) (by omega) _ _ _ hw hS (lv_sub hl [1, 0] rfl) | exact K_70 (z + 1) _ (by first | omega | assumption | rfl) (by obtain rfl := e0; rw [lowersK, lowerV, if_pos (bP_t hbk c_83), enn, nI_clamp (by omega), ← hi, lowK]) (by omega) _ _ _ hw hS (lv_sub hl [1, 0] rfl) | exact K_70 (z + 1) _ (by first | omega | assumption | rfl) (by obtain ⟨i, rfl⟩ := e1; rw [lowersK, lowerV, if_pos (bP_t hbk c_83), enn, nI_clamp (by omega), ← hi, lowK, if_neg (by rw [← eha, ← elk]; exact Int32.not_lt.mpr c_113)]) (by omega) _ _ _ hw hS (lv_sub hl [1, 0] rfl)
                          · have e1 : ∃ i, j = i + 1 := ⟨j - 1, by omega⟩
                            refine lv_aload_n hx hb dX6_wants_95 rfl (lv_at hl 0 rfl) ?_
                            refine lv_aload_n hx hb dX6_wants_96 rfl (lv_at hl 0 rfl) ?_
                            refine lv_iload_n hx hb dX6_wants_97 rfl (lv_at hl 1 rfl) ?_
                            refine lv_iconst (v := nI 1) hx hb dX6_wants_98 (by decide) ?_
                            refine g_Vi (n := 2) (As := [.int (nI z), .int (nI 1)]) (rest := [.ref (G.1 16 0)]) hx hb hml hown hts hE hw hS gX6_wants_X6_light (c_X6_lightW l G A _ z (by omega)) rfl (by decide +kernel) ⟨Nat.le_of_ble_eq_true rfl, Nat.le_of_ble_eq_true rfl⟩ (Nat.zero_lt_one) rfl rfl rfl rfl hl.1 rfl (Nat.le_of_ble_eq_true rfl) ⟨Nat.le_of_ble_eq_true rfl, Nat.le_of_ble_eq_true rfl⟩ dX6_wants_99 (fun x_99 τ_99 H locs hp_99 hw hS => ?_)
                            obtain ⟨ex_99, hτ_99⟩ := hp_99
                            rw [hτ_99] at hw
                            refine g_Vi (n := 1) (As := [.int x_99]) (rest := []) hx hb hml hown hts hE hw hS gX6_wants_X6_leakOf (c_X6_leakOf l G A _ x_99) rfl (by decide +kernel) ⟨Nat.le_of_ble_eq_true rfl, Nat.le_of_ble_eq_true rfl⟩ (Nat.zero_lt_one) rfl rfl rfl rfl hl.1 rfl (Nat.le_of_ble_eq_true rfl) ⟨Nat.le_of_ble_eq_true rfl, Nat.le_of_ble_eq_true rfl⟩ dX6_wants_102 (fun x_102 τ_102 H locs hp_102 hw hS => ?_)
                            obtain ⟨ex_102, hτ_102⟩ := hp_102
                            rw [hτ_102] at hw
                            have elk : x_102 = leakF (σ 17 0) (lightV (glowK (σ 17 0) (upd (lowersK (σ 17 0) (roundsK (σ 17 0) (lev0F (σ 17 0) q) RR) z) z (nI j)) z 18)) := by rw [ex_102, ex_99, ur_k (by decide), ur_same]; rfl
                            refine lv_aload_n hx hb dX6_wants_105 rfl (lv_at hl 0 rfl) ?_
                            refine gf_X6_all hx hb hE hw (Nat.zero_lt_one) hown (hts (.fieldLink RX6 7 "ZonedLightModel" "all" "[I") (by decide +kernel)) dX6_wants_106 ?_
                            refine lv_sipush (v := nI 330) hx hb dX6_wants_109 (by decide) ?_
                            refine g_ald hx hb hE hw (n := 335) (Nat.zero_lt_one) rfl (by decide) (by omega) dX6_wants_112 ?_
                            refine lv_topi (fun x_112 ex_112 => ?_)
                            have eha : x_112 = σ 17 0 330 := by rw [ex_112, ur_k (by decide)]
                            refine lv_icmp_le (tgt := 129) hx hb dX6_wants_113 (by decide) (fun c_113 => ?_) (fun c_113 => ?_)
                            · refine lv_iinc (v := nI (z + 1)) (lv' := [(2, .int (nI (z + 1))), (0, .ref (G.1 16 0)), (3, .int bk)]) hx hb dX6_wants_129 hl (k := 1) rfl (nI_add _ _) (by decide) rfl (fun ls hl => ?_)
                              refine lv_goto (tgt := 70) hx hb dX6_wants_132 (by decide) ?_
                              first | exact K_70 (z + 1) _ (by first | omega | assumption | rfl) (by rw [lowersK, lowerV, if_neg (bP_f hbk c_83), hjz c_83, upd_self enn]) (by omega) _ _ _ hw hS (lv_sub hl [1, 0] rfl) | exact K_70 (z + 1) _ (by first | omega | assumption | rfl) (by obtain rfl := e0; rw [lowersK, lowerV, if_pos (bP_t hbk c_83), enn, nI_clamp (by omega), ← hi, lowK]) (by omega) _ _ _ hw hS (lv_sub hl [1, 0] rfl) | exact K_70 (z + 1) _ (by first | omega | assumption | rfl) (by obtain ⟨i, rfl⟩ := e1; rw [lowersK, lowerV, if_pos (bP_t hbk c_83), enn, nI_clamp (by omega), ← hi, lowK, if_neg (by rw [← eha, ← elk]; exact Int32.not_lt.mpr c_113)]) (by omega) _ _ _ hw hS (lv_sub hl [1, 0] rfl)
                            · refine lv_aload_n hx hb dX6_wants_116 rfl (lv_at hl 0 rfl) ?_
                              refine gf_X6_wanted hx hb hE hw (Nat.zero_lt_one) hown (hts (.fieldLink RX6 19 "ZonedLightModel" "wanted" "[I") (by decide +kernel)) dX6_wants_117 ?_
                              refine lv_iload_n hx hb dX6_wants_120 rfl (lv_at hl 1 rfl) ?_
                              refine lv_dup2_11 hx hb dX6_wants_121 rfl rfl ?_
                              refine g_ald hx hb hE hw (n := 18) (Nat.zero_lt_one) rfl (by decide) (by omega) dX6_wants_122 ?_
                              refine lv_topi (fun x_122 ex_122 => ?_)
                              obtain rfl : x_122 = nI j := by rw [ex_122, ur_same, pk_us]
                              refine lv_iconst (v := nI 1) hx hb dX6_wants_123 (by decide) ?_
                              refine n_isub hx hb dX6_wants_124 (by omega) ?_
                              refine g_ast hx hb hE hw hS (n := 18) (Nat.zero_lt_one) (by decide) (fun _ => rfl) rfl (by decide) (by omega) dX6_wants_125 (fun H locs hw hS => ?_)
                              refine lv_goto (tgt := 82) hx hb dX6_wants_126 (by decide) ?_
                              obtain ⟨i, rfl⟩ := e1
                              exact K_82 i bk _ (by first | omega | assumption | rfl) (by first | omega | assumption | rfl) (fun g => absurd g c_83) (by rw [← hi, lowK, if_pos (by rw [← eha, ← elk]; exact Int32.not_le.mp c_113), ← glow_dec c_73]) (by rw [us_ur, upd_upd]; rfl) (by omega) _ _ _ hw hS (lv_sub hl [0, 1, 2] rfl)
                    exact K_82 (nn + 1) nn x_78 _ (by first | omega | assumption | rfl) (by rw [ur_k (by decide)] at hb_78; exact hb_78) (fun _ => rfl) (by rw [upd_self enn]) (by rw [upd_self enn]) (Nat.lt_succ_self _) _ _ _ hw hS (lv_sub hl [1, 2, 0] rfl)
              exact K_70 (18 - 0 + 1) 0 _ (by first | omega | assumption | rfl) (by rw [show k = RR by omega]; rfl) (Nat.lt_succ_self _) _ _ _ hw hS (lv_sub hl [1, 0] rfl)
            · refine lv_aload_n hx hb dX6_wants_58 rfl (lv_at hl 0 rfl) ?_
              refine g_Vv (n := 0) (As := []) (rest := []) hx hb hml hown hts hE hw hS gX6_wants_X6_round (c_X6_round l G A _ (by rw [ur_k (by decide)]; exact hok) (by rw [ur_same]; exact lowW_rounds hok (lowW_lev0 hok q) k)) rfl (by decide +kernel) ⟨Nat.le_of_ble_eq_true rfl, Nat.le_of_ble_eq_true rfl⟩ (Nat.zero_lt_one) rfl rfl rfl rfl hl.1 rfl (Nat.le_of_ble_eq_true rfl) ⟨Nat.le_of_ble_eq_true rfl, Nat.le_of_ble_eq_true rfl⟩ dX6_wants_59 (fun τ_59 H locs hp_59 hw hS => ?_)
              refine lv_iinc (v := nI (k + 1)) (lv' := [(2, .int (nI (k + 1))), (0, .ref (G.1 16 0))]) hx hb dX6_wants_62 hl (k := 1) rfl (nI_add _ _) (by decide) rfl (fun ls hl => ?_)
              refine lv_goto (tgt := 46) hx hb dX6_wants_65 (by decide) ?_
              exact K_46 (k + 1) _ (by first | omega | assumption | rfl) (by rw [hp_59, ur_ur, ur_same, ur_k (by decide)]; rfl) (by omega) _ _ _ hw hS (lv_sub hl [1, 0] rfl)
        exact K_46 (RR - 0 + 1) 0 _ (by first | omega | assumption | rfl) (by rw [show k = 18 by omega, lev0K_all hcan]; rfl) (Nat.lt_succ_self _) _ _ _ hw hS (lv_sub hl [1, 0] rfl)
      · refine lv_aload_n hx hb dX6_wants_8 rfl (lv_at hl 0 rfl) ?_
        refine gf_X6_wanted hx hb hE hw (Nat.zero_lt_one) hown (hts (.fieldLink RX6 19 "ZonedLightModel" "wanted" "[I") (by decide +kernel)) dX6_wants_9 ?_
        refine lv_iload_n hx hb dX6_wants_12 rfl (lv_at hl 2 rfl) ?_
        refine lv_aload_n hx hb dX6_wants_13 rfl (lv_at hl 0 rfl) ?_
        refine gf_X6_all hx hb hE hw (Nat.zero_lt_one) hown (hts (.fieldLink RX6 7 "ZonedLightModel" "all" "[I") (by decide +kernel)) dX6_wants_14 ?_
        refine lv_sipush (v := nI 306) hx hb dX6_wants_17 (by decide) ?_
        refine lv_iload_n hx hb dX6_wants_20 rfl (lv_at hl 2 rfl) ?_
        refine n_iadd hx hb dX6_wants_21 ?_
        refine g_ald hx hb hE hw (n := 335) (Nat.zero_lt_one) rfl (by decide) (by omega) dX6_wants_22 ?_
        refine lv_topi (fun x_22 ex_22 => ?_)
        refine lv_iconst (v := nI 1) hx hb dX6_wants_23 (by decide) ?_
        refine lv_icmp_ne (tgt := 31) hx hb dX6_wants_24 (by decide) (fun c_24 => ?_) (fun c_24 => ?_)
        · refine lv_aload_n hx hb dX6_wants_31 rfl (lv_at hl 0 rfl) ?_
          refine lv_iload_n hx hb dX6_wants_32 rfl (lv_at hl 2 rfl) ?_
          refine lv_iload_n hx hb dX6_wants_33 rfl (lv_at hl 1 rfl) ?_
          refine g_Vi (n := 2) (As := [.int (nI k), .int q]) (rest := [.int (nI k), .ref (G.1 20 0)]) hx hb hml hown hts hE hw hS gX6_wants_X6_beginning (c_X6_beginning l G A _ k q (by omega) (by rw [ur_k (by decide)]; exact hok)) rfl (by decide +kernel) ⟨Nat.le_of_ble_eq_true rfl, Nat.le_of_ble_eq_true rfl⟩ (Nat.zero_lt_one) rfl rfl rfl rfl hl.1 rfl (Nat.le_of_ble_eq_true rfl) ⟨Nat.le_of_ble_eq_true rfl, Nat.le_of_ble_eq_true rfl⟩ dX6_wants_34 (fun x_34 τ_34 H locs hp_34 hw hS => ?_)
          obtain ⟨ex_34, hτ_34⟩ := hp_34
          rw [hτ_34] at hw
          refine g_ast hx hb hE hw hS (n := 18) (Nat.zero_lt_one) (by decide) (fun _ => rfl) rfl (by decide) (by omega) dX6_wants_37 (fun H locs hw hS => ?_)
          refine lv_iinc (v := nI (k + 1)) (lv' := [(2, .int (nI (k + 1))), (0, .ref (G.1 16 0)), (1, .int q)]) hx hb dX6_wants_38 hl (k := 2) rfl (nI_add _ _) (by decide) rfl (fun ls hl => ?_)
          refine lv_goto (tgt := 2) hx hb dX6_wants_41 (by decide) ?_
          have hd1 : x_22 = σ 17 0 (306 + k) := by rw [ex_22, ur_k (by decide)]
          first | exact K_2 (k + 1) _ (by first | omega | assumption | rfl) (by rw [us_ur, lev0K_put (by rw [lev0, if_neg (by rw [← hd1, c_24]; decide)]; rfl)]) (by omega) _ _ _ hw hS (lv_sub hl [1, 2, 0] rfl) | exact K_2 (k + 1) _ (by first | omega | assumption | rfl) (by rw [us_ur, lev0K_put (by rw [lev0, if_pos (by rw [← hd1]; exact ((hd1 ▸ hok.2.1 k c_5 : x_22 = 0 ∨ x_22 = 1)).resolve_right c_24), ex_34, ur_k (by decide)])]) (by omega) _ _ _ hw hS (lv_sub hl [1, 2, 0] rfl)
        · refine lv_iconst (v := nI 0) hx hb dX6_wants_27 (by decide) ?_
          refine lv_goto (tgt := 37) hx hb dX6_wants_28 (by decide) ?_
          refine g_ast hx hb hE hw hS (n := 18) (Nat.zero_lt_one) (by decide) (fun _ => rfl) rfl (by decide) (by omega) dX6_wants_37 (fun H locs hw hS => ?_)
          refine lv_iinc (v := nI (k + 1)) (lv' := [(2, .int (nI (k + 1))), (0, .ref (G.1 16 0)), (1, .int q)]) hx hb dX6_wants_38 hl (k := 2) rfl (nI_add _ _) (by decide) rfl (fun ls hl => ?_)
          refine lv_goto (tgt := 2) hx hb dX6_wants_41 (by decide) ?_
          have hd1 : x_22 = σ 17 0 (306 + k) := by rw [ex_22, ur_k (by decide)]
          first | exact K_2 (k + 1) _ (by first | omega | assumption | rfl) (by rw [us_ur, lev0K_put (by rw [lev0, if_neg (by rw [← hd1, c_24]; decide)]; rfl)]) (by omega) _ _ _ hw hS (lv_sub hl [1, 2, 0] rfl) | exact K_2 (k + 1) _ (by first | omega | assumption | rfl) (by rw [us_ur, lev0K_put (by rw [lev0, if_pos (by rw [← hd1]; exact ((hd1 ▸ hok.2.1 k c_5 : x_22 = 0 ∨ x_22 = 1)).resolve_right c_24), ex_34, ur_k (by decide)])]) (by omega) _ _ _ hw hS (lv_sub hl [1, 2, 0] rfl)
  exact K_2 (18 - 0 + 1) 0 _ (by first | omega | assumption | rfl) (by rw [lev0K_0, ur_self rfl]) (Nat.lt_succ_self _) _ _ _ hw hS (lv_sub hl [1, 2, 0] rfl)
set_option maxHeartbeats 4000000 in
set_option maxRecDepth 100000 in
/-- ZonedLightModel.farthest()I -/
theorem c_X6_farthest (l : Launch) (G : GG) (A : Nat → Prop) (σ : St)  (hok : okW (σ 17 0)) : MI l yX6_farthest wsX6_farthest 6 135 G A σ [.ref (G.1 16 0)] (fun r τ => r = gapF (σ 17 0) ∧ τ = ur σ 20 0 (wantF (σ 17 0) (σ 17 0 327))) := by
  refine MI.on (by decide) rfl (Nat.le_of_ble_eq_true rfl) (fun pP eE sS mM args below meth cC ls hx hb hml hr hown hlk hts hE hw hS hl => ?_)
  have hl : lv_has ls 4 [(0, .ref (G.1 16 0))] := hl
  refine lv_aload_n hx hb dX6_farthest_0 rfl (lv_at hl 0 rfl) ?_
  refine lv_aload_n hx hb dX6_farthest_1 rfl (lv_at hl 0 rfl) ?_
  refine gf_X6_all hx hb hE hw (Nat.zero_lt_one) hown (hts (.fieldLink RX6 7 "ZonedLightModel" "all" "[I") (by decide +kernel)) dX6_farthest_2 ?_
  refine lv_sipush (v := nI 327) hx hb dX6_farthest_5 (by decide) ?_
  refine g_ald hx hb hE hw (n := 335) (Nat.zero_lt_one) rfl (by decide) (by omega) dX6_farthest_8 ?_
  refine lv_topi (fun x_8 ex_8 => ?_)
  refine g_Vv (n := 1) (As := [.int x_8]) (rest := []) hx hb hml hown hts hE hw hS gX6_farthest_X6_wants (c_X6_wants l G A _ x_8 (by omega)) rfl (by decide +kernel) ⟨Nat.le_of_ble_eq_true rfl, Nat.le_of_ble_eq_true rfl⟩ (Nat.zero_lt_one) rfl rfl rfl rfl hl.1 rfl (Nat.le_of_ble_eq_true rfl) ⟨Nat.le_of_ble_eq_true rfl, Nat.le_of_ble_eq_true rfl⟩ dX6_farthest_9 (fun τ_9 H locs hp_9 hw hS => ?_)
  have hm : τ_9 = ur σ 20 0 (wantF (σ 17 0) (σ 17 0 327)) := by rw [hp_9, ex_8]
  refine lv_iconst (v := nI 0) hx hb dX6_farthest_12 (by decide) ?_
  refine lv_istore_n (lv' := [(1, .int (nI 0)), (0, .ref (G.1 16 0))]) hx hb dX6_farthest_13 rfl hl (by decide) rfl (fun ls hl => ?_)
  refine lv_iconst (v := nI 0) hx hb dX6_farthest_14 (by decide) ?_
  refine lv_istore_n (lv' := [(2, .int (nI 0)), (1, .int (nI 0)), (0, .ref (G.1 16 0))]) hx hb dX6_farthest_15 rfl hl (by decide) rfl (fun ls hl => ?_)
  have K_16 : ∀ (fuel : Nat) (k : Nat) (acc : Int32), (k ≤ 18) → (acc = gapK (σ 17 0) (wantF (σ 17 0) (σ 17 0 327)) k) → 18 - k < fuel → ∀ (H : Heap) (locs : List Loc) (ls : Array Slot), Wcel G τ_9 H → va_S A sS.heap H locs → lv_has ls 4 [(0, .ref (G.1 16 0)), (1, .int acc), (2, .int (nI k))] → W pP l eE { frames := 6, cells := 0, slots := 0, locals := 135 } sS mM args below meth cC H locs 0 0 (MQ below (va_Qi (fun r τ => r = gapF (σ 17 0) ∧ τ = ur σ 20 0 (wantF (σ 17 0) (σ 17 0 327))) (fun τ t => gP G A τ t) A) args sS 0 0 A) (F0 mM 16 ls []) := by
    intro fuel
    induction fuel with
    | zero =>
      intro k acc hk ha hfu
      exact absurd hfu (Nat.not_lt_zero _)
    | succ fuel K_16 =>
      intro k acc hk ha hfu H locs ls hw hS hl
      refine lv_iload_n hx hb dX6_farthest_16 rfl (lv_at hl 2 rfl) ?_
      refine lv_bipush (v := nI 18) hx hb dX6_farthest_17 (by decide) ?_
      refine n_cmp_ge (tgt := 60) hx hb dX6_farthest_19 (by decide) (by omega) (by omega) (fun c_19 => ?_) (fun c_19 => ?_)
      · refine lv_iload_n hx hb dX6_farthest_60 rfl (lv_at hl 1 rfl) ?_
        refine g_iret hx hb hr hlk hE hw hS dX6_farthest_61 ?_
        exact ⟨by rw [ha, show k = 18 by omega]; rfl, hm⟩
      · refine lv_aload_n hx hb dX6_farthest_22 rfl (lv_at hl 0 rfl) ?_
        refine gf_X6_wanted hx hb hE hw (Nat.zero_lt_one) hown (hts (.fieldLink RX6 19 "ZonedLightModel" "wanted" "[I") (by decide +kernel)) dX6_farthest_23 ?_
        refine lv_iload_n hx hb dX6_farthest_26 rfl (lv_at hl 2 rfl) ?_
        refine g_ald hx hb hE hw (n := 18) (Nat.zero_lt_one) rfl (by decide) (by omega) dX6_farthest_27 ?_
        refine lv_topi (fun x_27 ex_27 => ?_)
        refine lv_aload_n hx hb dX6_farthest_28 rfl (lv_at hl 0 rfl) ?_
        refine gf_X6_all hx hb hE hw (Nat.zero_lt_one) hown (hts (.fieldLink RX6 7 "ZonedLightModel" "all" "[I") (by decide +kernel)) dX6_farthest_29 ?_
        refine lv_sipush (v := nI 288) hx hb dX6_farthest_32 (by decide) ?_
        refine lv_iload_n hx hb dX6_farthest_35 rfl (lv_at hl 2 rfl) ?_
        refine n_iadd hx hb dX6_farthest_36 ?_
        refine g_ald hx hb hE hw (n := 335) (Nat.zero_lt_one) rfl (by decide) (by omega) dX6_farthest_37 ?_
        refine lv_topi (fun x_37 ex_37 => ?_)
        refine lv_isub hx hb dX6_farthest_38 ?_
        refine lv_topi (fun x_38 ex_38 => ?_)
        refine g_Si (n := 1) (As := [.int x_38]) (rest := []) hx hb hml hown hts hE hw hS gX6_farthest_X6_off (c_X6_off l G A _ x_38) rfl (by decide +kernel) ⟨Nat.le_of_ble_eq_true rfl, Nat.le_of_ble_eq_true rfl⟩ rfl hl.1 rfl (Nat.le_of_ble_eq_true rfl) ⟨Nat.le_of_ble_eq_true rfl, Nat.le_of_ble_eq_true rfl⟩ dX6_farthest_39 (fun x_39 τ_39 H locs hp_39 hw hS => ?_)
        obtain ⟨ex_39, hτ_39⟩ := hp_39
        rw [hτ_39] at hw
        have e39 : x_39 = iabs (wantF (σ 17 0) (σ 17 0 327) k - σ 17 0 (288 + k)) := by rw [ex_39, ex_38, ex_27, ex_37, hm, ur_same, ur_k (by decide)]
        refine lv_istore_n (lv' := [(3, .int x_39), (0, .ref (G.1 16 0)), (1, .int acc), (2, .int (nI k))]) hx hb dX6_farthest_42 rfl hl (by decide) rfl (fun ls hl => ?_)
        refine lv_iload_n hx hb dX6_farthest_43 rfl (lv_at hl 0 rfl) ?_
        refine lv_iload_n hx hb dX6_farthest_44 rfl (lv_at hl 2 rfl) ?_
        refine lv_icmp_le (tgt := 52) hx hb dX6_farthest_45 (by decide) (fun c_45 => ?_) (fun c_45 => ?_)
        · refine lv_iload_n hx hb dX6_farthest_52 rfl (lv_at hl 2 rfl) ?_
          refine lv_istore_n (lv' := [(1, .int acc), (3, .int x_39), (0, .ref (G.1 16 0)), (2, .int (nI k))]) hx hb dX6_farthest_53 rfl hl (by decide) rfl (fun ls hl => ?_)
          refine lv_iinc (v := nI (k + 1)) (lv' := [(2, .int (nI (k + 1))), (1, .int acc), (3, .int x_39), (0, .ref (G.1 16 0))]) hx hb dX6_farthest_54 hl (k := 3) rfl (nI_add _ _) (by decide) rfl (fun ls hl => ?_)
          refine lv_goto (tgt := 16) hx hb dX6_farthest_57 (by decide) ?_
          exact K_16 (k + 1) acc (by first | omega | assumption | rfl) (by rw [gapK, ← ha, ← e39]; first | exact imax_gt2 c_45 | exact imax_le2 c_45) (by omega) _ _ _ hw hS (lv_sub hl [3, 1, 0] rfl)
        · refine lv_iload_n hx hb dX6_farthest_48 rfl (lv_at hl 0 rfl) ?_
          refine lv_goto (tgt := 53) hx hb dX6_farthest_49 (by decide) ?_
          refine lv_istore_n (lv' := [(1, .int x_39), (3, .int x_39), (0, .ref (G.1 16 0)), (2, .int (nI k))]) hx hb dX6_farthest_53 rfl hl (by decide) rfl (fun ls hl => ?_)
          refine lv_iinc (v := nI (k + 1)) (lv' := [(2, .int (nI (k + 1))), (1, .int x_39), (3, .int x_39), (0, .ref (G.1 16 0))]) hx hb dX6_farthest_54 hl (k := 3) rfl (nI_add _ _) (by decide) rfl (fun ls hl => ?_)
          refine lv_goto (tgt := 16) hx hb dX6_farthest_57 (by decide) ?_
          exact K_16 (k + 1) x_39 (by first | omega | assumption | rfl) (by rw [gapK, ← ha, ← e39]; first | exact imax_gt2 c_45 | exact imax_le2 c_45) (by omega) _ _ _ hw hS (lv_sub hl [3, 1, 0] rfl)
  exact K_16 (18 - 0 + 1) 0 (nI 0) (by first | omega | assumption | rfl) (by first | omega | assumption | rfl) (Nat.lt_succ_self _) _ _ _ hw hS (lv_sub hl [2, 1, 0] rfl)
set_option maxHeartbeats 4000000 in
set_option maxRecDepth 100000 in
/-- ZonedLightModel.wantedFor(I)I -/
theorem c_X6_wantedFor (l : Launch) (G : GG) (A : Nat → Prop) (σ : St) (z : Nat) (hz : z < 18) (hok : okW (σ 17 0)) : MI l yX6_wantedFor wsX6_wantedFor 6 135 G A σ [.ref (G.1 16 0), .int (nI z)] (fun r τ => r = wantF (σ 17 0) (σ 17 0 327) z ∧ τ = ur σ 20 0 (wantF (σ 17 0) (σ 17 0 327))) := by
  refine MI.on (by decide) rfl (Nat.le_of_ble_eq_true rfl) (fun pP eE sS mM args below meth cC ls hx hb hml hr hown hlk hts hE hw hS hl => ?_)
  have hl : lv_has ls 2 [(0, .ref (G.1 16 0)), (1, .int (nI z))] := hl
  refine lv_aload_n hx hb dX6_wantedFor_0 rfl (lv_at hl 0 rfl) ?_
  refine lv_aload_n hx hb dX6_wantedFor_1 rfl (lv_at hl 0 rfl) ?_
  refine gf_X6_all hx hb hE hw (Nat.zero_lt_one) hown (hts (.fieldLink RX6 7 "ZonedLightModel" "all" "[I") (by decide +kernel)) dX6_wantedFor_2 ?_
  refine lv_sipush (v := nI 327) hx hb dX6_wantedFor_5 (by decide) ?_
  refine g_ald hx hb hE hw (n := 335) (Nat.zero_lt_one) rfl (by decide) (by omega) dX6_wantedFor_8 ?_
  refine lv_topi (fun x_8 ex_8 => ?_)
  refine g_Vv (n := 1) (As := [.int x_8]) (rest := []) hx hb hml hown hts hE hw hS gX6_wantedFor_X6_wants (c_X6_wants l G A _ x_8 (by omega)) rfl (by decide +kernel) ⟨Nat.le_of_ble_eq_true rfl, Nat.le_of_ble_eq_true rfl⟩ (Nat.zero_lt_one) rfl rfl rfl rfl hl.1 rfl (Nat.le_of_ble_eq_true rfl) ⟨Nat.le_of_ble_eq_true rfl, Nat.le_of_ble_eq_true rfl⟩ dX6_wantedFor_9 (fun τ_9 H locs hp_9 hw hS => ?_)
  refine lv_aload_n hx hb dX6_wantedFor_12 rfl (lv_at hl 0 rfl) ?_
  refine gf_X6_wanted hx hb hE hw (Nat.zero_lt_one) hown (hts (.fieldLink RX6 19 "ZonedLightModel" "wanted" "[I") (by decide +kernel)) dX6_wantedFor_13 ?_
  refine lv_iload_n hx hb dX6_wantedFor_16 rfl (lv_at hl 1 rfl) ?_
  refine g_ald hx hb hE hw (n := 18) (Nat.zero_lt_one) rfl (by decide) (by omega) dX6_wantedFor_17 ?_
  refine lv_topi (fun x_17 ex_17 => ?_)
  refine g_iret hx hb hr hlk hE hw hS dX6_wantedFor_18 ?_
  exact ⟨by rw [ex_17, hp_9, ur_same, ex_8], by rw [hp_9, ex_8]⟩
set_option maxHeartbeats 4000000 in
set_option maxRecDepth 100000 in
/-- ZonedLightModel.acts()V -/
theorem c_X6_acts (l : Launch) (G : GG) (A : Nat → Prop) (σ : St) (m : Nat) (hm : m ≤ 4) (em : σ 16 0 2 = nI m) : MV l yX6_acts wsX6_acts 0 0 G A σ [.ref (G.1 16 0)] (fun τ => τ = pushP σ m) := by
  refine MV.on (by decide) rfl (Nat.le_of_ble_eq_true rfl) (fun pP eE sS mM args below meth cC ls hx hb hml hr hown hlk hts hE hw hS hl => ?_)
  have hl : lv_has ls 2 [(0, .ref (G.1 16 0))] := hl
  refine lv_aload_n hx hb dX6_acts_0 rfl (lv_at hl 0 rfl) ?_
  refine gf_X6_historyLong hx hb hE hw (Nat.zero_lt_one) hown (hts (.fieldLink RX6 28 "ZonedLightModel" "historyLong" "I") (by decide +kernel)) dX6_acts_1 ?_
  refine lv_topi (fun x_1 ex_1 => ?_)
  have K_49 : ∀ (h0 : Nat → Int32) (m1 : Nat) (σ2 : St), (m1 ≤ 3) → (σ2 = us (ur σ 18 0 h0) 16 0 2 (nI m1)) → ((m < 4 ∧ m1 = m ∧ h0 = σ 18 0) ∨ (m = 4 ∧ m1 = 3 ∧ h0 = shiftH (σ 18 0) 1005)) → ∀ (H : Heap) (locs : List Loc) (ls : Array Slot), Wcel G σ2 H → va_S A sS.heap H locs → lv_has ls 2 [(0, .ref (G.1 16 0))] → W pP l eE { frames := 0, cells := 0, slots := 0, locals := 0 } sS mM args below meth cC H locs 0 0 (MQ below (va_Qv (fun τ => τ = pushP σ m) (fun τ t => gP G A τ t) A) args sS 0 0 A) (F0 mM 49 ls []) := by
    intro h0 m1 σ2 hm1 h2 hsh H locs ls hw hS hl
    subst h2
    refine lv_iconst (v := nI 0) hx hb dX6_acts_49 (by decide) ?_
    refine lv_istore_n (lv' := [(1, .int (nI 0)), (0, .ref (G.1 16 0))]) hx hb dX6_acts_50 rfl hl (by decide) rfl (fun ls hl => ?_)
    have K_51 : ∀ (fuel : Nat) (k : Nat) (σ2 : St), (k ≤ 335) → (σ2 = us (ur σ 18 0 (layH h0 (σ 17 0) m1 k)) 16 0 2 (nI m1)) → 335 - k < fuel → ∀ (H : Heap) (locs : List Loc) (ls : Array Slot), Wcel G σ2 H → va_S A sS.heap H locs → lv_has ls 2 [(0, .ref (G.1 16 0)), (1, .int (nI k))] → W pP l eE { frames := 0, cells := 0, slots := 0, locals := 0 } sS mM args below meth cC H locs 0 0 (MQ below (va_Qv (fun τ => τ = pushP σ m) (fun τ t => gP G A τ t) A) args sS 0 0 A) (F0 mM 51 ls []) := by
      intro fuel
      induction fuel with
      | zero =>
        intro k σ2 hk h2 hfu
        exact absurd hfu (Nat.not_lt_zero _)
      | succ fuel K_51 =>
        intro k σ2 hk h2 hfu H locs ls hw hS hl
        subst h2
        refine lv_iload_n hx hb dX6_acts_51 rfl (lv_at hl 1 rfl) ?_
        refine lv_sipush (v := nI 335) hx hb dX6_acts_52 (by decide) ?_
        refine n_cmp_ge (tgt := 85) hx hb dX6_acts_55 (by decide) (by omega) (by omega) (fun c_55 => ?_) (fun c_55 => ?_)
        · refine lv_aload_n hx hb dX6_acts_85 rfl (lv_at hl 0 rfl) ?_
          refine lv_dup hx hb dX6_acts_86 rfl ?_
          refine gf_X6_historyLong hx hb hE hw (Nat.zero_lt_one) hown (hts (.fieldLink RX6 28 "ZonedLightModel" "historyLong" "I") (by decide +kernel)) dX6_acts_87 ?_
          refine lv_topi (fun x_87 ex_87 => ?_)
          obtain rfl : x_87 = nI m1 := by rw [ex_87, us_at]
          refine lv_iconst (v := nI 1) hx hb dX6_acts_90 (by decide) ?_
          refine n_iadd hx hb dX6_acts_91 ?_
          refine gp_X6_historyLong hx hb hE hw hS (Nat.zero_lt_one) hown (hts (.fieldLink RX6 28 "ZonedLightModel" "historyLong" "I") (by decide +kernel)) dX6_acts_92 (fun H locs hw hS => ?_)
          refine g_vret hx hb hr hlk hE hw hS dX6_acts_95 ?_
          rw [us_us, show k = 335 by omega, pushP, pushH, sizeH]
          rcases hsh with ⟨g1, g2, g3⟩ | ⟨g1, g2, g3⟩
          · rw [if_neg (by omega), if_neg (by omega), g2, g3]
          · rw [if_pos g1, if_pos g1, g2, g3]
        · refine lv_aload_n hx hb dX6_acts_58 rfl (lv_at hl 0 rfl) ?_
          refine gf_X6_history hx hb hE hw (Nat.zero_lt_one) hown (hts (.fieldLink RX6 13 "ZonedLightModel" "history" "[I") (by decide +kernel)) dX6_acts_59 ?_
          refine lv_sipush (v := nI 335) hx hb dX6_acts_62 (by decide) ?_
          refine lv_aload_n hx hb dX6_acts_65 rfl (lv_at hl 0 rfl) ?_
          refine gf_X6_historyLong hx hb hE hw (Nat.zero_lt_one) hown (hts (.fieldLink RX6 28 "ZonedLightModel" "historyLong" "I") (by decide +kernel)) dX6_acts_66 ?_
          refine lv_topi (fun x_66 ex_66 => ?_)
          obtain rfl : x_66 = nI m1 := by rw [ex_66, us_at]
          refine n_imul hx hb dX6_acts_69 ?_
          refine lv_iload_n hx hb dX6_acts_70 rfl (lv_at hl 1 rfl) ?_
          refine n_iadd hx hb dX6_acts_71 ?_
          refine lv_aload_n hx hb dX6_acts_72 rfl (lv_at hl 0 rfl) ?_
          refine gf_X6_all hx hb hE hw (Nat.zero_lt_one) hown (hts (.fieldLink RX6 7 "ZonedLightModel" "all" "[I") (by decide +kernel)) dX6_acts_73 ?_
          refine lv_iload_n hx hb dX6_acts_76 rfl (lv_at hl 1 rfl) ?_
          refine g_ald hx hb hE hw (n := 335) (Nat.zero_lt_one) rfl (by decide) (by omega) dX6_acts_77 ?_
          refine lv_topi (fun x_77 ex_77 => ?_)
          refine g_ast hx hb hE hw hS (n := 1340) (Nat.zero_lt_one) (by decide) (fun _ => rfl) rfl (by decide) (by omega) dX6_acts_78 (fun H locs hw hS => ?_)
          refine lv_iinc (v := nI (k + 1)) (lv' := [(1, .int (nI (k + 1))), (0, .ref (G.1 16 0))]) hx hb dX6_acts_79 hl (k := 1) rfl (nI_add _ _) (by decide) rfl (fun ls hl => ?_)
          refine lv_goto (tgt := 51) hx hb dX6_acts_82 (by decide) ?_
          exact K_51 (k + 1) _ (by first | omega | assumption | rfl) (by rw [acts_step, layH_put rfl (by rw [ex_77, us_k (by decide), ur_k (by decide)])]) (by omega) _ _ _ hw hS (lv_sub hl [1, 0] rfl)
    exact K_51 (335 - 0 + 1) 0 _ (by first | omega | assumption | rfl) (by rw [layH_0]) (Nat.lt_succ_self _) _ _ _ hw hS (lv_sub hl [1, 0] rfl)
  refine lv_iconst (v := nI 4) hx hb dX6_acts_4 (by decide) ?_
  refine lv_icmp_ne (tgt := 49) hx hb dX6_acts_5 (by decide) (fun c_5 => ?_) (fun c_5 => ?_)
  · have hm4 : m < 4 := by rw [ex_1, em] at c_5; have h4 : ¬ m = 4 := fun g => c_5 (by rw [g]); omega
    exact K_49 (σ 18 0) m _ (by first | omega | assumption | rfl) (by rw [ur_self (σ := σ) (k := 18) rfl, us_self em]) (Or.inl ⟨hm4, rfl, rfl⟩) _ _ _ hw hS (lv_sub hl [0] rfl)
  · have hm4 : m = 4 := by rw [ex_1, em] at c_5; exact (nI_eq (by omega) (by decide)).mp c_5
    refine lv_iconst (v := nI 0) hx hb dX6_acts_8 (by decide) ?_
    refine lv_istore_n (lv' := [(1, .int (nI 0)), (0, .ref (G.1 16 0))]) hx hb dX6_acts_9 rfl hl (by decide) rfl (fun ls hl => ?_)
    have K_10 : ∀ (fuel : Nat) (k : Nat) (σ2 : St), (k ≤ 1005) → (σ2 = ur σ 18 0 (shiftH (σ 18 0) k)) → 1005 - k < fuel → ∀ (H : Heap) (locs : List Loc) (ls : Array Slot), Wcel G σ2 H → va_S A sS.heap H locs → lv_has ls 2 [(0, .ref (G.1 16 0)), (1, .int (nI k))] → W pP l eE { frames := 0, cells := 0, slots := 0, locals := 0 } sS mM args below meth cC H locs 0 0 (MQ below (va_Qv (fun τ => τ = pushP σ m) (fun τ t => gP G A τ t) A) args sS 0 0 A) (F0 mM 10 ls []) := by
      intro fuel
      induction fuel with
      | zero =>
        intro k σ2 hk h2 hfu
        exact absurd hfu (Nat.not_lt_zero _)
      | succ fuel K_10 =>
        intro k σ2 hk h2 hfu H locs ls hw hS hl
        subst h2
        refine lv_iload_n hx hb dX6_acts_10 rfl (lv_at hl 1 rfl) ?_
        refine lv_sipush (v := nI 1005) hx hb dX6_acts_11 (by decide) ?_
        refine n_cmp_ge (tgt := 39) hx hb dX6_acts_14 (by decide) (by omega) (by omega) (fun c_14 => ?_) (fun c_14 => ?_)
        · refine lv_aload_n hx hb dX6_acts_39 rfl (lv_at hl 0 rfl) ?_
          refine lv_dup hx hb dX6_acts_40 rfl ?_
          refine gf_X6_historyLong hx hb hE hw (Nat.zero_lt_one) hown (hts (.fieldLink RX6 28 "ZonedLightModel" "historyLong" "I") (by decide +kernel)) dX6_acts_41 ?_
          refine lv_topi (fun x_41 ex_41 => ?_)
          obtain rfl : x_41 = nI 4 := by rw [ex_41, ur_k (by decide), em, hm4]
          refine lv_iconst (v := nI 1) hx hb dX6_acts_44 (by decide) ?_
          refine n_isub hx hb dX6_acts_45 (by decide) ?_
          refine gp_X6_historyLong hx hb hE hw hS (Nat.zero_lt_one) hown (hts (.fieldLink RX6 28 "ZonedLightModel" "historyLong" "I") (by decide +kernel)) dX6_acts_46 (fun H locs hw hS => ?_)
          exact K_49 (shiftH (σ 18 0) 1005) 3 _ (by first | omega | assumption | rfl) (by rw [show k = 1005 by omega]) (Or.inr ⟨hm4, rfl, rfl⟩) _ _ _ hw hS (lv_sub hl [0] rfl)
        · refine lv_aload_n hx hb dX6_acts_17 rfl (lv_at hl 0 rfl) ?_
          refine gf_X6_history hx hb hE hw (Nat.zero_lt_one) hown (hts (.fieldLink RX6 13 "ZonedLightModel" "history" "[I") (by decide +kernel)) dX6_acts_18 ?_
          refine lv_iload_n hx hb dX6_acts_21 rfl (lv_at hl 1 rfl) ?_
          refine lv_aload_n hx hb dX6_acts_22 rfl (lv_at hl 0 rfl) ?_
          refine gf_X6_history hx hb hE hw (Nat.zero_lt_one) hown (hts (.fieldLink RX6 13 "ZonedLightModel" "history" "[I") (by decide +kernel)) dX6_acts_23 ?_
          refine lv_iload_n hx hb dX6_acts_26 rfl (lv_at hl 1 rfl) ?_
          refine lv_sipush (v := nI 335) hx hb dX6_acts_27 (by decide) ?_
          refine n_iadd hx hb dX6_acts_30 ?_
          refine g_ald hx hb hE hw (n := 1340) (Nat.zero_lt_one) rfl (by decide) (by omega) dX6_acts_31 ?_
          refine lv_topi (fun x_31 ex_31 => ?_)
          refine g_ast hx hb hE hw hS (n := 1340) (Nat.zero_lt_one) (by decide) (fun _ => rfl) rfl (by decide) (by omega) dX6_acts_32 (fun H locs hw hS => ?_)
          refine lv_iinc (v := nI (k + 1)) (lv' := [(1, .int (nI (k + 1))), (0, .ref (G.1 16 0))]) hx hb dX6_acts_33 hl (k := 1) rfl (nI_add _ _) (by decide) rfl (fun ls hl => ?_)
          refine lv_goto (tgt := 10) hx hb dX6_acts_36 (by decide) ?_
          exact K_10 (k + 1) _ (by first | omega | assumption | rfl) (by rw [us_ur, shiftH_put (by rw [ex_31, ur_same])]) (by omega) _ _ _ hw hS (lv_sub hl [1, 0] rfl)
    exact K_10 (1005 - 0 + 1) 0 _ (by first | omega | assumption | rfl) (by rw [shiftH_0, ur_self rfl]) (Nat.lt_succ_self _) _ _ _ hw hS (lv_sub hl [1, 0] rfl)
