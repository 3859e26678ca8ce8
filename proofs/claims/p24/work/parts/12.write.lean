/-! CONTRACTS, laid by program -/
set_option maxHeartbeats 4000000 in
set_option maxRecDepth 100000 in
/-- ZonedLight$Screen.copyFrom(LZonedLight$Screen;)V -/
theorem c_X3_copyFrom (l : Launch) (G : GG) (A : Nat → Prop) (σ : St) (s : Nat) (t : Nat) (hs : s < 7) (ht : t < 7) (hst : ¬ s = t) : MV l yX3_copyFrom wsX3_copyFrom 1 26 G A σ [.ref (G.1 0 s), .ref (G.1 0 t)] (fun τ => scr τ s = scr σ t ∧ eqX σ τ s) := by
  refine MV.on (by decide) rfl (Nat.le_of_ble_eq_true rfl) (fun pP eE sS mM args below meth cC ls hx hb hml hr hown hlk hts hE hw hS hl => ?_)
  have hl : lv_has ls 3 [(0, .ref (G.1 0 s)), (1, .ref (G.1 0 t))] := hl
  refine lv_aload_n hx hb dX3_copyFrom_0 rfl (lv_at hl 1 rfl) ?_
  refine gf_X3_asked hx hb hE hw (show t < 7 by omega) hown (hts (.fieldLink RX3 9 "ZonedLight$Screen" "asked" "[I") (by decide +kernel)) dX3_copyFrom_1 ?_
  refine lv_iconst (v := nI 0) hx hb dX3_copyFrom_4 (by decide) ?_
  refine lv_aload_n hx hb dX3_copyFrom_5 rfl (lv_at hl 0 rfl) ?_
  refine gf_X3_asked hx hb hE hw (show s < 7 by omega) hown (hts (.fieldLink RX3 9 "ZonedLight$Screen" "asked" "[I") (by decide +kernel)) dX3_copyFrom_6 ?_
  refine lv_iconst (v := nI 0) hx hb dX3_copyFrom_9 (by decide) ?_
  refine lv_sipush (v := nI 288) hx hb dX3_copyFrom_10 (by decide) ?_
  refine g_copy hx hb (hml.trans hl.1.symm) hE hw hS hown (hts (.methodLink RX3 38 arraycopyName) (by decide +kernel)) (n := 288) (n0 := 288) (n1 := 288) (show t < 7 by omega) (show s < 7 by omega) rfl (fun _ => rfl) (by decide) rfl rfl (by decide) (by decide) (by decide) (Nat.le_of_ble_eq_true rfl) (Nat.le_of_ble_eq_true rfl) dX3_copyFrom_13 (fun H locs hw hS => ?_)
  refine lv_aload_n hx hb dX3_copyFrom_16 rfl (lv_at hl 1 rfl) ?_
  refine gf_X3_level hx hb hE hw (show t < 7 by omega) hown (hts (.fieldLink RX3 15 "ZonedLight$Screen" "level" "[I") (by decide +kernel)) dX3_copyFrom_17 ?_
  refine lv_iconst (v := nI 0) hx hb dX3_copyFrom_20 (by decide) ?_
  refine lv_aload_n hx hb dX3_copyFrom_21 rfl (lv_at hl 0 rfl) ?_
  refine gf_X3_level hx hb hE hw (show s < 7 by omega) hown (hts (.fieldLink RX3 15 "ZonedLight$Screen" "level" "[I") (by decide +kernel)) dX3_copyFrom_22 ?_
  refine lv_iconst (v := nI 0) hx hb dX3_copyFrom_25 (by decide) ?_
  refine lv_bipush (v := nI 18) hx hb dX3_copyFrom_26 (by decide) ?_
  refine g_copy hx hb (hml.trans hl.1.symm) hE hw hS hown (hts (.methodLink RX3 38 arraycopyName) (by decide +kernel)) (n := 18) (n0 := 18) (n1 := 18) (show t < 7 by omega) (show s < 7 by omega) rfl (fun _ => rfl) (by decide) rfl rfl (by decide) (by decide) (by decide) (Nat.le_of_ble_eq_true rfl) (Nat.le_of_ble_eq_true rfl) dX3_copyFrom_28 (fun H locs hw hS => ?_)
  refine lv_aload_n hx hb dX3_copyFrom_31 rfl (lv_at hl 1 rfl) ?_
  refine gf_X3_setting hx hb hE hw (show t < 7 by omega) hown (hts (.fieldLink RX3 22 "ZonedLight$Screen" "setting" "[I") (by decide +kernel)) dX3_copyFrom_32 ?_
  refine lv_iconst (v := nI 0) hx hb dX3_copyFrom_35 (by decide) ?_
  refine lv_aload_n hx hb dX3_copyFrom_36 rfl (lv_at hl 0 rfl) ?_
  refine gf_X3_setting hx hb hE hw (show s < 7 by omega) hown (hts (.fieldLink RX3 22 "ZonedLight$Screen" "setting" "[I") (by decide +kernel)) dX3_copyFrom_37 ?_
  refine lv_iconst (v := nI 0) hx hb dX3_copyFrom_40 (by decide) ?_
  refine lv_bipush (v := nI 8) hx hb dX3_copyFrom_41 (by decide) ?_
  refine g_copy hx hb (hml.trans hl.1.symm) hE hw hS hown (hts (.methodLink RX3 38 arraycopyName) (by decide +kernel)) (n := 8) (n0 := 8) (n1 := 8) (show t < 7 by omega) (show s < 7 by omega) rfl (fun _ => rfl) (by decide) rfl rfl (by decide) (by decide) (by decide) (Nat.le_of_ble_eq_true rfl) (Nat.le_of_ble_eq_true rfl) dX3_copyFrom_43 (fun H locs hw hS => ?_)
  refine lv_iconst (v := nI 0) hx hb dX3_copyFrom_46 (by decide) ?_
  refine lv_istore_n (lv' := [(2, .int (nI 0)), (0, .ref (G.1 0 s)), (1, .ref (G.1 0 t))]) hx hb dX3_copyFrom_47 rfl hl (by decide) rfl (fun ls hl => ?_)
  have K_48 : ∀ (fuel : Nat) (k : Nat) (σ2 : St), (k ≤ 18) → (copyP σ σ2 s t k) → 18 - k < fuel → ∀ (H : Heap) (locs : List Loc) (ls : Array Slot), Wcel G σ2 H → va_S A sS.heap H locs → lv_has ls 3 [(0, .ref (G.1 0 s)), (1, .ref (G.1 0 t)), (2, .int (nI k))] → W pP l eE { frames := 1, cells := 0, slots := 0, locals := 26 } sS mM args below meth cC H locs 0 0 (MQ below (va_Qv (fun τ => scr τ s = scr σ t ∧ eqX σ τ s) (fun τ t => gP G A τ t) A) args sS 0 0 A) (F0 mM 48 ls []) := by
    intro fuel
    induction fuel with
    | zero =>
      intro k σ2 hk h2 hfu
      exact absurd hfu (Nat.not_lt_zero _)
    | succ fuel K_48 =>
      intro k σ2 hk h2 hfu H locs ls hw hS hl
      refine lv_iload_n hx hb dX3_copyFrom_48 rfl (lv_at hl 2 rfl) ?_
      refine lv_bipush (v := nI 18) hx hb dX3_copyFrom_49 (by decide) ?_
      refine n_cmp_ge (tgt := 72) hx hb dX3_copyFrom_51 (by decide) (by omega) (by omega) (fun c_51 => ?_) (fun c_51 => ?_)
      · refine lv_aload_n hx hb dX3_copyFrom_72 rfl (lv_at hl 0 rfl) ?_
        refine lv_aload_n hx hb dX3_copyFrom_73 rfl (lv_at hl 1 rfl) ?_
        refine gf_X3_frames hx hb hE hw (show t < 7 by omega) hown (hts (.fieldLink RX3 25 "ZonedLight$Screen" "frames" "I") (by decide +kernel)) dX3_copyFrom_74 ?_
        refine lv_topi (fun x_74 ex_74 => ?_)
        refine gp_X3_frames hx hb hE hw hS (show s < 7 by omega) hown (hts (.fieldLink RX3 25 "ZonedLight$Screen" "frames" "I") (by decide +kernel)) dX3_copyFrom_77 (fun H locs hw hS => ?_)
        refine lv_aload_n hx hb dX3_copyFrom_80 rfl (lv_at hl 0 rfl) ?_
        refine lv_aload_n hx hb dX3_copyFrom_81 rfl (lv_at hl 1 rfl) ?_
        refine gf_X3_flicker hx hb hE hw (show t < 7 by omega) hown (hts (.fieldLink RX3 29 "ZonedLight$Screen" "flicker" "I") (by decide +kernel)) dX3_copyFrom_82 ?_
        refine lv_topi (fun x_82 ex_82 => ?_)
        refine gp_X3_flicker hx hb hE hw hS (show s < 7 by omega) hown (hts (.fieldLink RX3 29 "ZonedLight$Screen" "flicker" "I") (by decide +kernel)) dX3_copyFrom_85 (fun H locs hw hS => ?_)
        refine lv_aload_n hx hb dX3_copyFrom_88 rfl (lv_at hl 0 rfl) ?_
        refine lv_aload_n hx hb dX3_copyFrom_89 rfl (lv_at hl 1 rfl) ?_
        refine gf_X3_powerSoFar hx hb hE hw (show t < 7 by omega) hown (hts (.fieldLink RX3 32 "ZonedLight$Screen" "powerSoFar" "I") (by decide +kernel)) dX3_copyFrom_90 ?_
        refine lv_topi (fun x_90 ex_90 => ?_)
        refine gp_X3_powerSoFar hx hb hE hw hS (show s < 7 by omega) hown (hts (.fieldLink RX3 32 "ZonedLight$Screen" "powerSoFar" "I") (by decide +kernel)) dX3_copyFrom_93 (fun H locs hw hS => ?_)
        refine g_vret hx hb hr hlk hE hw hS dX3_copyFrom_96 ?_
        exact copyP_2 hst (by rw [show k = 18 by omega] at h2; exact h2) ex_74 ex_82 ex_90
      · refine lv_aload_n hx hb dX3_copyFrom_54 rfl (lv_at hl 0 rfl) ?_
        refine gf_X3_dead hx hb hE hw (show s < 7 by omega) hown (hts (.fieldLink RX3 18 "ZonedLight$Screen" "dead" "[Z") (by decide +kernel)) dX3_copyFrom_55 ?_
        refine lv_iload_n hx hb dX3_copyFrom_58 rfl (lv_at hl 2 rfl) ?_
        refine lv_aload_n hx hb dX3_copyFrom_59 rfl (lv_at hl 1 rfl) ?_
        refine gf_X3_dead hx hb hE hw (show t < 7 by omega) hown (hts (.fieldLink RX3 18 "ZonedLight$Screen" "dead" "[Z") (by decide +kernel)) dX3_copyFrom_60 ?_
        refine lv_iload_n hx hb dX3_copyFrom_63 rfl (lv_at hl 2 rfl) ?_
        refine g_zald hx hb hE hw (n := 18) (show t < 7 by omega) rfl (by decide) (by omega) dX3_copyFrom_64 ?_
        refine lv_topi (fun x_64 ex_64 => ?_)
        refine g_zast hx hb hE hw hS (n := 18) (show s < 7 by omega) (fun _ => rfl) rfl (by decide) (by omega) (by rw [ex_64]; exact hw.2.2 _ _) dX3_copyFrom_65 (fun H locs hw hS => ?_)
        refine lv_iinc (v := nI (k + 1)) (lv' := [(2, .int (nI (k + 1))), (0, .ref (G.1 0 s)), (1, .ref (G.1 0 t))]) hx hb dX3_copyFrom_66 hl (k := 2) rfl (nI_add _ _) (by decide) rfl (fun ls hl => ?_)
        refine lv_goto (tgt := 48) hx hb dX3_copyFrom_69 (by decide) ?_
        exact K_48 (k + 1) _ (by first | omega | assumption | rfl) (copyP_1 hst h2 ex_64) (by omega) _ _ _ hw hS (lv_sub hl [1, 2, 0] rfl)
  exact K_48 (18 - 0 + 1) 0 _ (by first | omega | assumption | rfl) (copyP_0 hst) (Nat.lt_succ_self _) _ _ _ hw hS (lv_sub hl [1, 2, 0] rfl)
set_option maxHeartbeats 4000000 in
set_option maxRecDepth 100000 in
/-- ZonedLight$Screen.passFrame([I)V -/
theorem c_X3_passFrame (l : Launch) (G : GG) (A : Nat → Prop) (σ : St) (s : Nat) (hs : s < 7) : MV l yX3_passFrame wsX3_passFrame 1 22 G A σ [.ref (G.1 0 s), .ref (G.1 12 0)] (fun τ => scr τ s = frameF (scr σ s) (σ 12 0) ∧ eqX σ τ s) := by
  refine MV.on (by decide) rfl (Nat.le_of_ble_eq_true rfl) (fun pP eE sS mM args below meth cC ls hx hb hml hr hown hlk hts hE hw hS hl => ?_)
  have hl : lv_has ls 5 [(0, .ref (G.1 0 s)), (1, .ref (G.1 12 0))] := hl
  refine lv_iconst (v := nI 0) hx hb dX3_passFrame_0 (by decide) ?_
  refine lv_istore_n (lv' := [(2, .int (nI 0)), (0, .ref (G.1 0 s)), (1, .ref (G.1 12 0))]) hx hb dX3_passFrame_1 rfl hl (by decide) rfl (fun ls hl => ?_)
  have K_2 : ∀ (fuel : Nat) (k : Nat) (σ2 : St), (k ≤ 18) → (passP σ σ2 s k) → 18 - k < fuel → ∀ (H : Heap) (locs : List Loc) (ls : Array Slot), Wcel G σ2 H → va_S A sS.heap H locs → lv_has ls 5 [(0, .ref (G.1 0 s)), (1, .ref (G.1 12 0)), (2, .int (nI k))] → W pP l eE { frames := 1, cells := 0, slots := 0, locals := 22 } sS mM args below meth cC H locs 0 0 (MQ below (va_Qv (fun τ => scr τ s = frameF (scr σ s) (σ 12 0) ∧ eqX σ τ s) (fun τ t => gP G A τ t) A) args sS 0 0 A) (F0 mM 2 ls []) := by
    intro fuel
    induction fuel with
    | zero =>
      intro k σ2 hk h2 hfu
      exact absurd hfu (Nat.not_lt_zero _)
    | succ fuel K_2 =>
      intro k σ2 hk h2 hfu H locs ls hw hS hl
      refine lv_iload_n hx hb dX3_passFrame_2 rfl (lv_at hl 2 rfl) ?_
      refine lv_bipush (v := nI 18) hx hb dX3_passFrame_3 (by decide) ?_
      refine n_cmp_ge (tgt := 83) hx hb dX3_passFrame_5 (by decide) (by omega) (by omega) (fun c_5 => ?_) (fun c_5 => ?_)
      · refine lv_aload_n hx hb dX3_passFrame_83 rfl (lv_at hl 0 rfl) ?_
        refine lv_dup hx hb dX3_passFrame_84 rfl ?_
        refine gf_X3_frames hx hb hE hw (show s < 7 by omega) hown (hts (.fieldLink RX3 25 "ZonedLight$Screen" "frames" "I") (by decide +kernel)) dX3_passFrame_85 ?_
        refine lv_topi (fun x_85 ex_85 => ?_)
        refine lv_iconst (v := nI 1) hx hb dX3_passFrame_88 (by decide) ?_
        refine lv_iadd hx hb dX3_passFrame_89 ?_
        refine lv_topi (fun x_89 ex_89 => ?_)
        refine gp_X3_frames hx hb hE hw hS (show s < 7 by omega) hown (hts (.fieldLink RX3 25 "ZonedLight$Screen" "frames" "I") (by decide +kernel)) dX3_passFrame_90 (fun H locs hw hS => ?_)
        refine lv_aload_n hx hb dX3_passFrame_93 rfl (lv_at hl 0 rfl) ?_
        refine lv_dup hx hb dX3_passFrame_94 rfl ?_
        refine gf_X3_powerSoFar hx hb hE hw (show s < 7 by omega) hown (hts (.fieldLink RX3 32 "ZonedLight$Screen" "powerSoFar" "I") (by decide +kernel)) dX3_passFrame_95 ?_
        refine lv_topi (fun x_95 ex_95 => ?_)
        refine lv_aload_n hx hb dX3_passFrame_98 rfl (lv_at hl 0 rfl) ?_
        refine g_Vi (n := 0) (As := []) (rest := [.int x_95, .ref (G.1 0 s)]) hx hb hml hown hts hE hw hS gX3_passFrame_X3_power (c_X3_power l G A _ s (by omega)) rfl (by decide +kernel) ⟨Nat.le_of_ble_eq_true rfl, Nat.le_of_ble_eq_true rfl⟩ (show s < 7 by omega) rfl rfl rfl rfl hl.1 rfl (Nat.le_of_ble_eq_true rfl) ⟨Nat.le_of_ble_eq_true rfl, Nat.le_of_ble_eq_true rfl⟩ dX3_passFrame_99 (fun x_99 τ_99 H locs hp_99 hw hS => ?_)
        obtain ⟨ex_99, hτ_99⟩ := hp_99
        rw [hτ_99] at hw
        refine lv_iadd hx hb dX3_passFrame_102 ?_
        refine lv_topi (fun x_102 ex_102 => ?_)
        refine gp_X3_powerSoFar hx hb hE hw hS (show s < 7 by omega) hown (hts (.fieldLink RX3 32 "ZonedLight$Screen" "powerSoFar" "I") (by decide +kernel)) dX3_passFrame_103 (fun H locs hw hS => ?_)
        refine g_vret hx hb hr hlk hE hw hS dX3_passFrame_106 ?_
        exact passP_end (by rw [show k = 18 by omega] at h2; exact h2) (by rw [ex_89, ex_85]; rfl) (by rw [ex_102, ex_95, ex_99])
      · refine lv_aload_n hx hb dX3_passFrame_8 rfl (lv_at hl 0 rfl) ?_
        refine gf_X3_dead hx hb hE hw (show s < 7 by omega) hown (hts (.fieldLink RX3 18 "ZonedLight$Screen" "dead" "[Z") (by decide +kernel)) dX3_passFrame_9 ?_
        refine lv_iload_n hx hb dX3_passFrame_12 rfl (lv_at hl 2 rfl) ?_
        refine g_zald hx hb hE hw (n := 18) (show s < 7 by omega) rfl (by decide) (by omega) dX3_passFrame_13 ?_
        refine lv_topi (fun x_13 ex_13 => ?_)
        refine lv_if_ne (tgt := 77) hx hb dX3_passFrame_14 (by decide) (fun c_14 => ?_) (fun c_14 => ?_)
        · refine lv_iinc (v := nI (k + 1)) (lv' := [(2, .int (nI (k + 1))), (0, .ref (G.1 0 s)), (1, .ref (G.1 12 0))]) hx hb dX3_passFrame_77 hl (k := 2) rfl (nI_add _ _) (by decide) rfl (fun ls hl => ?_)
          refine lv_goto (tgt := 2) hx hb dX3_passFrame_80 (by decide) ?_
          have hdd : scr σ s (306 + k) = x_13 := by rw [scr_dead c_5, ex_13, h2, if_neg (by omega), if_neg (by omega)]
          exact K_2 (k + 1) _ (by first | omega | assumption | rfl) (by first | exact passP_dead h2 (by rw [hdd]; exact c_14) | exact passP_live h2 (by rw [ex_61, ex_58, hch]) (by rw [ex_73, ex_65, ex_70, hch]; rfl)) (by omega) _ _ _ hw hS (lv_sub hl [1, 2, 0] rfl)
        · refine lv_aload_n hx hb dX3_passFrame_17 rfl (lv_at hl 1 rfl) ?_
          refine lv_iload_n hx hb dX3_passFrame_18 rfl (lv_at hl 2 rfl) ?_
          refine g_ald hx hb hE hw (n := 18) (Nat.zero_lt_one) rfl (by decide) (by omega) dX3_passFrame_19 ?_
          refine lv_topi (fun x_19 ex_19 => ?_)
          refine lv_aload_n hx hb dX3_passFrame_20 rfl (lv_at hl 0 rfl) ?_
          refine gf_X3_level hx hb hE hw (show s < 7 by omega) hown (hts (.fieldLink RX3 15 "ZonedLight$Screen" "level" "[I") (by decide +kernel)) dX3_passFrame_21 ?_
          refine lv_iload_n hx hb dX3_passFrame_24 rfl (lv_at hl 2 rfl) ?_
          refine g_ald hx hb hE hw (n := 18) (show s < 7 by omega) rfl (by decide) (by omega) dX3_passFrame_25 ?_
          refine lv_topi (fun x_25 ex_25 => ?_)
          refine lv_isub hx hb dX3_passFrame_26 ?_
          refine lv_topi (fun x_26 ex_26 => ?_)
          refine lv_istore_n (lv' := [(3, .int x_26), (0, .ref (G.1 0 s)), (1, .ref (G.1 12 0)), (2, .int (nI k))]) hx hb dX3_passFrame_27 rfl hl (by decide) rfl (fun ls hl => ?_)
          refine lv_aload_n hx hb dX3_passFrame_28 rfl (lv_at hl 1 rfl) ?_
          refine gf_X3_setting hx hb hE hw (show s < 7 by omega) hown (hts (.fieldLink RX3 22 "ZonedLight$Screen" "setting" "[I") (by decide +kernel)) dX3_passFrame_29 ?_
          refine lv_bipush (v := nI 7) hx hb dX3_passFrame_32 (by decide) ?_
          refine g_ald hx hb hE hw (n := 8) (show s < 7 by omega) rfl (by decide) (by omega) dX3_passFrame_34 ?_
          refine lv_topi (fun x_34 ex_34 => ?_)
          refine lv_ineg hx hb dX3_passFrame_35 ?_
          refine lv_topi (fun x_35 ex_35 => ?_)
          refine lv_aload_n hx hb dX3_passFrame_36 rfl (lv_at hl 1 rfl) ?_
          refine gf_X3_setting hx hb hE hw (show s < 7 by omega) hown (hts (.fieldLink RX3 22 "ZonedLight$Screen" "setting" "[I") (by decide +kernel)) dX3_passFrame_37 ?_
          refine lv_bipush (v := nI 7) hx hb dX3_passFrame_40 (by decide) ?_
          refine g_ald hx hb hE hw (n := 8) (show s < 7 by omega) rfl (by decide) (by omega) dX3_passFrame_42 ?_
          refine lv_topi (fun x_42 ex_42 => ?_)
          refine lv_iload_n hx hb dX3_passFrame_43 rfl (lv_at hl 0 rfl) ?_
          refine g_min hx hb (hml.trans hl.1.symm) hE hown (hts (.methodLink RX3 44 Lib.Math.min.name) (by decide +kernel)) ⟨Nat.le_of_ble_eq_true rfl, Nat.le_of_ble_eq_true rfl⟩ ⟨Nat.le_of_ble_eq_true rfl, Nat.le_of_ble_eq_true rfl⟩ dX3_passFrame_44 ?_
          refine lv_topi (fun x_44 ex_44 => ?_)
          refine g_max hx hb (hml.trans hl.1.symm) hE hown (hts (.methodLink RX3 50 Lib.Math.max.name) (by decide +kernel)) ⟨Nat.le_of_ble_eq_true rfl, Nat.le_of_ble_eq_true rfl⟩ ⟨Nat.le_of_ble_eq_true rfl, Nat.le_of_ble_eq_true rfl⟩ dX3_passFrame_47 ?_
          refine lv_topi (fun x_47 ex_47 => ?_)
          have hch : x_47 = chgF (scr σ s) (σ 12 0) k := by
            have e1 : σ2 12 0 k = σ 12 0 k := by rw [h2, if_neg (by omega), if_neg (by omega)]
            have e2 : σ2 2 s k = scr σ s (288 + k) := by rw [h2, if_neg (by omega), if_neg (by omega), scr_level c_5]
            have e3 : σ2 4 s 7 = scr σ s 331 := by rw [h2, if_neg (by omega), if_neg (by omega)]; exact (scr_set (k := 7) (by decide)).symm
            have e4 : scr σ s (306 + k) = 0 := by rw [scr_dead c_5, ← c_14, ex_13, h2, if_neg (by omega), if_neg (by omega)]
            rw [chgF, if_pos e4, ex_47, ex_44, ex_35, ex_34, ex_42, ex_26, ex_19, ex_25, e1, e2, e3]
            rfl
          refine lv_istore (lv' := [(4, .int x_47), (3, .int x_26), (0, .ref (G.1 0 s)), (1, .ref (G.1 12 0)), (2, .int (nI k))]) hx hb dX3_passFrame_50 hl (by decide) rfl (fun ls hl => ?_)
          refine lv_aload_n hx hb dX3_passFrame_52 rfl (lv_at hl 2 rfl) ?_
          refine gf_X3_level hx hb hE hw (show s < 7 by omega) hown (hts (.fieldLink RX3 15 "ZonedLight$Screen" "level" "[I") (by decide +kernel)) dX3_passFrame_53 ?_
          refine lv_iload_n hx hb dX3_passFrame_56 rfl (lv_at hl 4 rfl) ?_
          refine lv_dup2_11 hx hb dX3_passFrame_57 rfl rfl ?_
          refine g_ald hx hb hE hw (n := 18) (show s < 7 by omega) rfl (by decide) (by omega) dX3_passFrame_58 ?_
          refine lv_topi (fun x_58 ex_58 => ?_)
          refine lv_iload hx hb dX3_passFrame_59 (lv_at hl 0 rfl) ?_
          refine lv_iadd hx hb dX3_passFrame_61 ?_
          refine lv_topi (fun x_61 ex_61 => ?_)
          refine g_ast hx hb hE hw hS (n := 18) (show s < 7 by omega) (by decide) (fun _ => rfl) rfl (by decide) (by omega) dX3_passFrame_62 (fun H locs hw hS => ?_)
          refine lv_aload_n hx hb dX3_passFrame_63 rfl (lv_at hl 2 rfl) ?_
          refine lv_dup hx hb dX3_passFrame_64 rfl ?_
          refine gf_X3_flicker hx hb hE hw (show s < 7 by omega) hown (hts (.fieldLink RX3 29 "ZonedLight$Screen" "flicker" "I") (by decide +kernel)) dX3_passFrame_65 ?_
          refine lv_topi (fun x_65 ex_65 => ?_)
          refine lv_iload hx hb dX3_passFrame_68 (lv_at hl 0 rfl) ?_
          refine g_abs hx hb (hml.trans hl.1.symm) hE hown (hts (.methodLink RX3 80 Lib.Math.abs.name) (by decide +kernel)) ⟨Nat.le_of_ble_eq_true rfl, Nat.le_of_ble_eq_true rfl⟩ ⟨Nat.le_of_ble_eq_true rfl, Nat.le_of_ble_eq_true rfl⟩ dX3_passFrame_70 ?_
          refine lv_topi (fun x_70 ex_70 => ?_)
          refine lv_iadd hx hb dX3_passFrame_73 ?_
          refine lv_topi (fun x_73 ex_73 => ?_)
          refine gp_X3_flicker hx hb hE hw hS (show s < 7 by omega) hown (hts (.fieldLink RX3 29 "ZonedLight$Screen" "flicker" "I") (by decide +kernel)) dX3_passFrame_74 (fun H locs hw hS => ?_)
          refine lv_iinc (v := nI (k + 1)) (lv' := [(2, .int (nI (k + 1))), (4, .int x_47), (3, .int x_26), (0, .ref (G.1 0 s)), (1, .ref (G.1 12 0))]) hx hb dX3_passFrame_77 hl (k := 4) rfl (nI_add _ _) (by decide) rfl (fun ls hl => ?_)
          refine lv_goto (tgt := 2) hx hb dX3_passFrame_80 (by decide) ?_
          have hdd : scr σ s (306 + k) = x_13 := by rw [scr_dead c_5, ex_13, h2, if_neg (by omega), if_neg (by omega)]
          exact K_2 (k + 1) _ (by first | omega | assumption | rfl) (by first | exact passP_dead h2 (by rw [hdd]; exact c_14) | exact passP_live h2 (by rw [ex_61, ex_58, hch]) (by rw [ex_73, ex_65, ex_70, hch]; rfl)) (by omega) _ _ _ hw hS (lv_sub hl [3, 4, 0] rfl)
  exact K_2 (18 - 0 + 1) 0 _ (by first | omega | assumption | rfl) passP_0 (Nat.lt_succ_self _) _ _ _ hw hS (lv_sub hl [1, 2, 0] rfl)
set_option maxHeartbeats 4000000 in
set_option maxRecDepth 100000 in
/-- ZonedLight$Tally.clear()V -/
theorem c_X4_clear (l : Launch) (G : GG) (A : Nat → Prop) (σ : St)   : MV l yX4_clear wsX4_clear 0 0 G A σ [.ref (G.1 14 0)] (fun τ => τ = ur σ 14 0 (fun _ => 0)) := by
  refine MV.on (by decide) rfl (Nat.le_of_ble_eq_true rfl) (fun pP eE sS mM args below meth cC ls hx hb hml hr hown hlk hts hE hw hS hl => ?_)
  have hl : lv_has ls 1 [(0, .ref (G.1 14 0))] := hl
  have hcan := hw.2.1 14 0
  refine lv_aload_n hx hb dX4_clear_0 rfl (lv_at hl 0 rfl) ?_
  refine lv_iconst (v := nI 0) hx hb dX4_clear_1 (by decide) ?_
  refine gp_X4_tooDark hx hb hE hw hS (Nat.zero_lt_one) hown (hts (.fieldLink RX4 9 "ZonedLight$Tally" "tooDark" "I") (by decide +kernel)) dX4_clear_2 (fun H locs hw hS => ?_)
  refine lv_aload_n hx hb dX4_clear_5 rfl (lv_at hl 0 rfl) ?_
  refine lv_iconst (v := nI 0) hx hb dX4_clear_6 (by decide) ?_
  refine gp_X4_tooBright hx hb hE hw hS (Nat.zero_lt_one) hown (hts (.fieldLink RX4 15 "ZonedLight$Tally" "tooBright" "I") (by decide +kernel)) dX4_clear_7 (fun H locs hw hS => ?_)
  refine lv_aload_n hx hb dX4_clear_10 rfl (lv_at hl 0 rfl) ?_
  refine lv_iconst (v := nI 0) hx hb dX4_clear_11 (by decide) ?_
  refine gp_X4_off hx hb hE hw hS (Nat.zero_lt_one) hown (hts (.fieldLink RX4 18 "ZonedLight$Tally" "off" "I") (by decide +kernel)) dX4_clear_12 (fun H locs hw hS => ?_)
  refine lv_aload_n hx hb dX4_clear_15 rfl (lv_at hl 0 rfl) ?_
  refine lv_iconst (v := nI 0) hx hb dX4_clear_16 (by decide) ?_
  refine gp_X4_greatestOff hx hb hE hw hS (Nat.zero_lt_one) hown (hts (.fieldLink RX4 21 "ZonedLight$Tally" "greatestOff" "I") (by decide +kernel)) dX4_clear_17 (fun H locs hw hS => ?_)
  refine lv_aload_n hx hb dX4_clear_20 rfl (lv_at hl 0 rfl) ?_
  refine lv_iconst (v := nI 0) hx hb dX4_clear_21 (by decide) ?_
  refine gp_X4_shown hx hb hE hw hS (Nat.zero_lt_one) hown (hts (.fieldLink RX4 24 "ZonedLight$Tally" "shown" "I") (by decide +kernel)) dX4_clear_22 (fun H locs hw hS => ?_)
  refine g_vret hx hb hr hlk hE hw hS dX4_clear_25 ?_
  exact tZero_us hcan
set_option maxHeartbeats 4000000 in
set_option maxRecDepth 100000 in
/-- ZonedLight$Tally.addSpot(II)V -/
theorem c_X4_addSpot (l : Launch) (G : GG) (A : Nat → Prop) (σ : St) (x : Int32) (y : Int32)  : MV l yX4_addSpot wsX4_addSpot 1 21 G A σ [.ref (G.1 14 0), .int x, .int y] (fun τ => τ = ur σ 14 0 (tAdd (σ 14 0) x y)) := by
  refine MV.on (by decide) rfl (Nat.le_of_ble_eq_true rfl) (fun pP eE sS mM args below meth cC ls hx hb hml hr hown hlk hts hE hw hS hl => ?_)
  have hl : lv_has ls 5 [(0, .ref (G.1 14 0)), (1, .int x), (2, .int y)] := hl
  refine lv_iload_n hx hb dX4_addSpot_0 rfl (lv_at hl 1 rfl) ?_
  refine lv_iload_n hx hb dX4_addSpot_1 rfl (lv_at hl 2 rfl) ?_
  refine g_SNi (n := 2) (As := [.int x, .int y]) (rest := []) hx hb hml hown hts hE hw hS gX4_addSpot_X5_verdict_n54 (host := "ZonedLight") (by decide +kernel) (hts (.initialized RX5) (by decide +kernel)) (hts (.static yX5_verdict) (by decide +kernel)) (c_X5_verdict l G A _ x y) rfl (by decide +kernel) ⟨Nat.le_of_ble_eq_true rfl, Nat.le_of_ble_eq_true rfl⟩ rfl hl.1 rfl (Nat.le_of_ble_eq_true rfl) ⟨Nat.le_of_ble_eq_true rfl, Nat.le_of_ble_eq_true rfl⟩ dX4_addSpot_2 (fun x_2 τ_2 H locs hp_2 hw hS => ?_)
  obtain ⟨ex_2, hτ_2⟩ := hp_2
  rw [hτ_2] at hw
  refine lv_istore_n (lv' := [(3, .int x_2), (0, .ref (G.1 14 0)), (1, .int x), (2, .int y)]) hx hb dX4_addSpot_5 rfl hl (by decide) rfl (fun ls hl => ?_)
  have K_39 : ∀ (a1 : Int32) (a2 : Int32) (σ2 : St), (a1 = if verdF x y = 1 then σ 14 0 0 + 1 else σ 14 0 0) → (a2 = if verdF x y = 2 then σ 14 0 1 + 1 else σ 14 0 1) → (σ2 = us (us σ 14 0 0 a1) 14 0 1 a2) → ∀ (H : Heap) (locs : List Loc) (ls : Array Slot), Wcel G σ2 H → va_S A sS.heap H locs → lv_has ls 5 [(0, .ref (G.1 14 0)), (1, .int x), (2, .int y)] → W pP l eE { frames := 1, cells := 0, slots := 0, locals := 21 } sS mM args below meth cC H locs 0 0 (MQ below (va_Qv (fun τ => τ = ur σ 14 0 (tAdd (σ 14 0) x y)) (fun τ t => gP G A τ t) A) args sS 0 0 A) (F0 mM 39 ls []) := by
    intro a1 a2 σ2 h1 h3 h2 H locs ls hw hS hl
    subst h2
    refine lv_iload_n hx hb dX4_addSpot_39 rfl (lv_at hl 2 rfl) ?_
    refine lv_iload_n hx hb dX4_addSpot_40 rfl (lv_at hl 1 rfl) ?_
    refine lv_isub hx hb dX4_addSpot_41 ?_
    refine lv_topi (fun x_41 ex_41 => ?_)
    refine g_abs hx hb (hml.trans hl.1.symm) hE hown (hts (.methodLink RX4 57 Lib.Math.abs.name) (by decide +kernel)) ⟨Nat.le_of_ble_eq_true rfl, Nat.le_of_ble_eq_true rfl⟩ ⟨Nat.le_of_ble_eq_true rfl, Nat.le_of_ble_eq_true rfl⟩ dX4_addSpot_42 ?_
    refine lv_topi (fun x_42 ex_42 => ?_)
    refine lv_istore (lv' := [(4, .int x_42), (0, .ref (G.1 14 0)), (1, .int x), (2, .int y)]) hx hb dX4_addSpot_45 hl (by decide) rfl (fun ls hl => ?_)
    refine lv_aload_n hx hb dX4_addSpot_47 rfl (lv_at hl 1 rfl) ?_
    refine lv_dup hx hb dX4_addSpot_48 rfl ?_
    refine gf_X4_off hx hb hE hw (Nat.zero_lt_one) hown (hts (.fieldLink RX4 18 "ZonedLight$Tally" "off" "I") (by decide +kernel)) dX4_addSpot_49 ?_
    refine lv_topi (fun x_49 ex_49 => ?_)
    refine lv_iload hx hb dX4_addSpot_52 (lv_at hl 0 rfl) ?_
    refine lv_iadd hx hb dX4_addSpot_54 ?_
    refine lv_topi (fun x_54 ex_54 => ?_)
    refine gp_X4_off hx hb hE hw hS (Nat.zero_lt_one) hown (hts (.fieldLink RX4 18 "ZonedLight$Tally" "off" "I") (by decide +kernel)) dX4_addSpot_55 (fun H locs hw hS => ?_)
    refine lv_aload_n hx hb dX4_addSpot_58 rfl (lv_at hl 1 rfl) ?_
    refine lv_aload_n hx hb dX4_addSpot_59 rfl (lv_at hl 1 rfl) ?_
    refine gf_X4_greatestOff hx hb hE hw (Nat.zero_lt_one) hown (hts (.fieldLink RX4 21 "ZonedLight$Tally" "greatestOff" "I") (by decide +kernel)) dX4_addSpot_60 ?_
    refine lv_topi (fun x_60 ex_60 => ?_)
    refine lv_iload hx hb dX4_addSpot_63 (lv_at hl 0 rfl) ?_
    refine g_max hx hb (hml.trans hl.1.symm) hE hown (hts (.methodLink RX4 62 Lib.Math.max.name) (by decide +kernel)) ⟨Nat.le_of_ble_eq_true rfl, Nat.le_of_ble_eq_true rfl⟩ ⟨Nat.le_of_ble_eq_true rfl, Nat.le_of_ble_eq_true rfl⟩ dX4_addSpot_65 ?_
    refine lv_topi (fun x_65 ex_65 => ?_)
    refine gp_X4_greatestOff hx hb hE hw hS (Nat.zero_lt_one) hown (hts (.fieldLink RX4 21 "ZonedLight$Tally" "greatestOff" "I") (by decide +kernel)) dX4_addSpot_68 (fun H locs hw hS => ?_)
    refine lv_aload_n hx hb dX4_addSpot_71 rfl (lv_at hl 1 rfl) ?_
    refine lv_dup hx hb dX4_addSpot_72 rfl ?_
    refine gf_X4_shown hx hb hE hw (Nat.zero_lt_one) hown (hts (.fieldLink RX4 24 "ZonedLight$Tally" "shown" "I") (by decide +kernel)) dX4_addSpot_73 ?_
    refine lv_topi (fun x_73 ex_73 => ?_)
    refine lv_iload_n hx hb dX4_addSpot_76 rfl (lv_at hl 3 rfl) ?_
    refine lv_iadd hx hb dX4_addSpot_77 ?_
    refine lv_topi (fun x_77 ex_77 => ?_)
    refine gp_X4_shown hx hb hE hw hS (Nat.zero_lt_one) hown (hts (.fieldLink RX4 24 "ZonedLight$Tally" "shown" "I") (by decide +kernel)) dX4_addSpot_78 (fun H locs hw hS => ?_)
    refine g_vret hx hb hr hlk hE hw hS dX4_addSpot_81 ?_
    exact tAdd_us h1 h3 (by rw [ex_54, ex_49, ex_42, ex_41, us_not (by decide), us_not (by decide)]; rfl) (by rw [ex_65, ex_60, ex_42, ex_41, us_not (by decide), us_not (by decide), us_not (by decide)]; rfl) (by rw [ex_77, ex_73, us_not (by decide), us_not (by decide), us_not (by decide), us_not (by decide)])
  refine lv_iload_n hx hb dX4_addSpot_6 rfl (lv_at hl 0 rfl) ?_
  refine lv_iconst (v := nI 1) hx hb dX4_addSpot_7 (by decide) ?_
  refine lv_icmp_ne (tgt := 24) hx hb dX4_addSpot_8 (by decide) (fun c_8 => ?_) (fun c_8 => ?_)
  · refine lv_iload_n hx hb dX4_addSpot_24 rfl (lv_at hl 0 rfl) ?_
    refine lv_iconst (v := nI 2) hx hb dX4_addSpot_25 (by decide) ?_
    refine lv_icmp_ne (tgt := 39) hx hb dX4_addSpot_26 (by decide) (fun c_26 => ?_) (fun c_26 => ?_)
    · exact K_39 _ _ _ rfl rfl (by first | (rw [if_pos (show verdF x y = 1 by rw [← ex_2]; exact c_8), if_neg (show ¬ verdF x y = 2 by rw [← ex_2, c_8]; decide), us_self (us_not (by decide)), ex_17, ex_13]; rfl) | (rw [if_neg (show ¬ verdF x y = 1 by rw [← ex_2]; exact c_8), if_pos (show verdF x y = 2 by rw [← ex_2]; exact c_26), us_self rfl, ex_35, ex_31]; rfl) | (rw [if_neg (show ¬ verdF x y = 1 by rw [← ex_2]; exact c_8), if_neg (show ¬ verdF x y = 2 by rw [← ex_2]; exact c_26), us_self rfl, us_self rfl])) _ _ _ hw hS (lv_sub hl [1, 2, 3] rfl)
    · refine lv_aload_n hx hb dX4_addSpot_29 rfl (lv_at hl 1 rfl) ?_
      refine lv_dup hx hb dX4_addSpot_30 rfl ?_
      refine gf_X4_tooBright hx hb hE hw (Nat.zero_lt_one) hown (hts (.fieldLink RX4 15 "ZonedLight$Tally" "tooBright" "I") (by decide +kernel)) dX4_addSpot_31 ?_
      refine lv_topi (fun x_31 ex_31 => ?_)
      refine lv_iconst (v := nI 1) hx hb dX4_addSpot_34 (by decide) ?_
      refine lv_iadd hx hb dX4_addSpot_35 ?_
      refine lv_topi (fun x_35 ex_35 => ?_)
      refine gp_X4_tooBright hx hb hE hw hS (Nat.zero_lt_one) hown (hts (.fieldLink RX4 15 "ZonedLight$Tally" "tooBright" "I") (by decide +kernel)) dX4_addSpot_36 (fun H locs hw hS => ?_)
      exact K_39 _ _ _ rfl rfl (by first | (rw [if_pos (show verdF x y = 1 by rw [← ex_2]; exact c_8), if_neg (show ¬ verdF x y = 2 by rw [← ex_2, c_8]; decide), us_self (us_not (by decide)), ex_17, ex_13]; rfl) | (rw [if_neg (show ¬ verdF x y = 1 by rw [← ex_2]; exact c_8), if_pos (show verdF x y = 2 by rw [← ex_2]; exact c_26), us_self rfl, ex_35, ex_31]; rfl) | (rw [if_neg (show ¬ verdF x y = 1 by rw [← ex_2]; exact c_8), if_neg (show ¬ verdF x y = 2 by rw [← ex_2]; exact c_26), us_self rfl, us_self rfl])) _ _ _ hw hS (lv_sub hl [1, 2, 3] rfl)
  · refine lv_aload_n hx hb dX4_addSpot_11 rfl (lv_at hl 1 rfl) ?_
    refine lv_dup hx hb dX4_addSpot_12 rfl ?_
    refine gf_X4_tooDark hx hb hE hw (Nat.zero_lt_one) hown (hts (.fieldLink RX4 9 "ZonedLight$Tally" "tooDark" "I") (by decide +kernel)) dX4_addSpot_13 ?_
    refine lv_topi (fun x_13 ex_13 => ?_)
    refine lv_iconst (v := nI 1) hx hb dX4_addSpot_16 (by decide) ?_
    refine lv_iadd hx hb dX4_addSpot_17 ?_
    refine lv_topi (fun x_17 ex_17 => ?_)
    refine gp_X4_tooDark hx hb hE hw hS (Nat.zero_lt_one) hown (hts (.fieldLink RX4 9 "ZonedLight$Tally" "tooDark" "I") (by decide +kernel)) dX4_addSpot_18 (fun H locs hw hS => ?_)
    refine lv_goto (tgt := 39) hx hb dX4_addSpot_21 (by decide) ?_
    exact K_39 _ _ _ rfl rfl (by first | (rw [if_pos (show verdF x y = 1 by rw [← ex_2]; exact c_8), if_neg (show ¬ verdF x y = 2 by rw [← ex_2, c_8]; decide), us_self (us_not (by decide)), ex_17, ex_13]; rfl) | (rw [if_neg (show ¬ verdF x y = 1 by rw [← ex_2]; exact c_8), if_pos (show verdF x y = 2 by rw [← ex_2]; exact c_26), us_self rfl, ex_35, ex_31]; rfl) | (rw [if_neg (show ¬ verdF x y = 1 by rw [← ex_2]; exact c_8), if_neg (show ¬ verdF x y = 2 by rw [← ex_2]; exact c_26), us_self rfl, us_self rfl])) _ _ _ hw hS (lv_sub hl [1, 2, 3] rfl)
