/-! THE VIEW of one object: its state now, its snapshot, its text; the contracts in these words -/
def arR : AR → Int32
  | .inl e => e
  | .inr q => q.1
def arA (F : AR) (a : Nat → Int32) : Nat → Int32 := match F with
  | .inl _ => a
  | .inr q => q.2
def Vw (σ : St) (a b : Nat → Int32) (sn : Int32) (t : Nat) (tx : Nat → Int32) : Prop := (∃ o n, o < 4 ∧ n ≤ 4 ∧ σ 6 0 1 = nI o ∧ σ 6 0 2 = nI n) ∧ t ≤ 60 ∧ σ 8 0 1 = nI t ∧ scr σ 0 = a ∧ scr σ 1 = b ∧ σ 5 0 2 = sn ∧ σ 9 0 = tx
theorem MI.mono {l : Launch} {y : MethodName} {ws : List Cond} {fr lo : Nat} {G : GG} {A : Nat → Prop} {σ : St} {av : List Value} {post post' : Int32 → St → Prop} (h : MI l y ws fr lo G A σ av post) (hq : ∀ r τ, post r τ → post' r τ) : MI l y ws fr lo G A σ av post' := by
  intro p e ha hc hk s m args below hf happ hP hK
  obtain ⟨n, o, h1, h2, h3, ⟨⟨r, u, q1, q2, q3⟩, q4⟩, q5⟩ := h p e ha hc hk s m args below hf happ hP hK
  exact ⟨n, o, h1, h2, h3, ⟨⟨r, u, q1, hq r u q2, q3⟩, q4⟩, q5⟩
theorem MDb.mono {l : Launch} {y : MethodName} {ws : List Cond} {fr lo : Nat} {G : GG} {A : Nat → Prop} {σ : St} {av : List Value} {post post' : UInt64 → St → Prop} (h : MDb l y ws fr lo G A σ av post) (hq : ∀ r τ, post r τ → post' r τ) : MDb l y ws fr lo G A σ av post' := by
  intro p e ha hc hk s m args below hf happ hP hK
  obtain ⟨n, o, h1, h2, h3, ⟨⟨r, u, q1, q2, q3⟩, q4⟩, q5⟩ := h p e ha hc hk s m args below hf happ hP hK
  exact ⟨n, o, h1, h2, h3, ⟨⟨r, u, q1, hq r u q2, q3⟩, q4⟩, q5⟩
section VW
variable {σ τ : St} {a b tx : Nat → Int32} {sn : Int32} {t : Nat}
theorem vw_keep (hk : keepC σ τ) (h : Vw σ a b sn t tx) : Vw τ a b sn t tx := by
  obtain ⟨⟨o, n, h1, h2, h3, h4⟩, h5, h6, h7, h8, h9, h10⟩ := h
  have e6 := keepC_row hk (k := 6) (i := 0) (by unfold scrC; omega)
  have e5 := keepC_row hk (k := 5) (i := 0) (by unfold scrC; omega)
  have e9 := keepC_row hk (k := 9) (i := 0) (by unfold scrC; omega)
  have e1 : scr τ 1 = scr σ 1 := sameC_row hk (by decide) (fun _ _ q => q)
  exact ⟨⟨o, n, h1, h2, by rw [e6]; exact h3, by rw [e6]; exact h4⟩, h5, by rw [hk.2]; exact h6, by rw [keepC_now hk]; exact h7, by rw [e1]; exact h8, by rw [e5]; exact h9, by rw [e9]; exact h10⟩
theorem vw_act {r : Int32} {F : AR} {o n : Nat} (h : Vw σ a b sn t tx) (hc : actC σ τ r F o n) : r = arR F ∧ Vw τ (arA F a) b sn t tx := by
  rcases hc with ⟨e, rfl, f2, f3⟩ | ⟨e, a1, rfl, f2, f3, f4⟩
  · exact ⟨f2, vw_keep f3 h⟩
  · obtain ⟨-, h5, h6, h7, h8, h9, h10⟩ := h
    obtain ⟨o', n', k1, k2, k3, k4, k5, k6, k7⟩ := f4
    have e5 : τ 5 0 = σ 5 0 := k7.1 5 0 (by unfold scrC; omega) (by omega)
    have e9 : τ 9 0 = σ 9 0 := k7.1 9 0 (by unfold scrC; omega) (by omega)
    have e1 : scr τ 1 = scr σ 1 := sameC_row k7 (by decide) (fun k q z => by omega)
    exact ⟨f2, ⟨o', n' + 1, k1, by omega, k4, k5⟩, h5, by rw [k7.2]; exact h6, f3, by rw [e1]; exact h8, by rw [e5]; exact h9, by rw [e9]; exact h10⟩
variable (l : Launch) (G : GG) (A : Nat → Prop) (σ : St)
theorem c_X5_countV (w : Int32) (hV : Vw σ a b sn t tx) (hok : okW a) : MI l yX5_count wsX5_count 7 159 G A σ [.ref (G.1 5 0), .int w] (fun r τ => (∃ n, r = countQ a n t w) ∧ Vw τ a b sn t tx) := by
  obtain ⟨⟨o, n, h1, h2, h3, h4⟩, h5, h6, rfl, -⟩ := id hV
  exact MI.mono (c_X5_count l G A σ w n t hok h4 h6) (fun r τ h => ⟨⟨n, h.1⟩, vw_keep h.2 hV⟩)
theorem c_X5_zoneV (z w : Int32) (hV : Vw σ a b sn t tx) (hok : okW a) : MI l yX5_zone wsX5_zone 6 137 G A σ [.ref (G.1 5 0), .int z, .int w] (fun r τ => r = zoneQ a z w ∧ Vw τ a b sn t tx) := by
  obtain ⟨-, -, -, rfl, -⟩ := id hV
  exact MI.mono (c_X5_zone l G A σ z w hok) (fun r τ h => ⟨h.1, vw_keep h.2 hV⟩)
theorem c_X5_spotV (x y w : Int32) (hV : Vw σ a b sn t tx) : MI l yX5_spot wsX5_spot 4 90 G A σ [.ref (G.1 5 0), .int x, .int y, .int w] (fun r τ => r = spotQ a x y w ∧ Vw τ a b sn t tx) := by
  obtain ⟨-, -, -, rfl, -⟩ := id hV
  exact MI.mono (c_X5_spot l G A σ x y w) (fun r τ h => ⟨h.1, by rw [h.2]; exact hV⟩)
theorem c_X5_restsInV (hV : Vw σ a b sn t tx) (hok : okW a) : MI l yX5_restsIn wsX5_restsIn 7 159 G A σ [.ref (G.1 5 0)] (fun r τ => r = restsQ a ∧ Vw τ a b sn t tx) := by
  obtain ⟨-, -, -, rfl, -⟩ := id hV
  exact MI.mono (c_X5_restsIn l G A σ hok) (fun r τ h => ⟨h.1, vw_keep h.2 hV⟩)
theorem c_X5_bestRuleV (hV : Vw σ a b sn t tx) (hok : okW a) : MI l yX5_bestRule wsX5_bestRule 7 157 G A σ [.ref (G.1 5 0)] (fun r τ => r = (bestK a 3).1 ∧ Vw τ a b sn t tx) := by
  obtain ⟨-, -, -, rfl, -⟩ := id hV
  exact MI.mono (c_X5_bestRule l G A σ hok) (fun r τ h => ⟨h.1, vw_keep h.2 hV⟩)
theorem c_X5_leastStepV (f : Int32) (hV : Vw σ a b sn t tx) (hok : okW a) : MI l yX5_leastStep wsX5_leastStep 7 159 G A σ [.ref (G.1 5 0), .int f] (fun r τ => r = stepQ a f ∧ Vw τ a b sn t tx) := by
  obtain ⟨-, -, -, rfl, -⟩ := id hV
  exact MI.mono (c_X5_leastStep l G A σ f hok) (fun r τ h => ⟨h.1, vw_keep h.2 hV⟩)
theorem c_X5_meanShownV (hV : Vw σ a b sn t tx) : MDb l yX5_meanShown wsX5_meanShown 6 137 G A σ [.ref (G.1 5 0)] (fun r τ => r = meanD (tAll a (levO a) 18 4) ∧ Vw τ a b sn t tx) := by
  obtain ⟨-, -, -, rfl, -⟩ := id hV
  exact MDb.mono (c_X5_meanShown l G A σ) (fun r τ h => ⟨h.1, vw_keep h.2 hV⟩)
theorem c_X5_askV (x y v : Int32) (hV : Vw σ a b sn t tx) : MI l yX5_ask wsX5_ask 3 69 G A σ [.ref (G.1 5 0), .int x, .int y, .int v] (fun r τ => r = arR (askF a x y v) ∧ Vw τ (arA (askF a x y v) a) b sn t tx) := by
  obtain ⟨⟨o, n, h1, h2, h3, h4⟩, -, -, rfl, -⟩ := id hV
  exact MI.mono (c_X5_ask l G A σ x y v o n h1 h2 h3 h4) (fun r τ h => vw_act hV h)
theorem c_X5_moveV (w : Int32) (hV : Vw σ a b sn t tx) : MI l yX5_move wsX5_move 3 69 G A σ [.ref (G.1 5 0), .int w] (fun r τ => r = arR (movF a w) ∧ Vw τ (arA (movF a w) a) b sn t tx) := by
  obtain ⟨⟨o, n, h1, h2, h3, h4⟩, -, -, rfl, -⟩ := id hV
  exact MI.mono (c_X5_move l G A σ w o n h1 h2 h3 h4) (fun r τ h => vw_act hV h)
theorem c_X5_killV (z d : Int32) (hV : Vw σ a b sn t tx) (hd : d = 0 ∨ d = 1) : MI l yX5_kill wsX5_kill 3 69 G A σ [.ref (G.1 5 0), .int z, .int d] (fun r τ => r = arR (killF a z d) ∧ Vw τ (arA (killF a z d) a) b sn t tx) := by
  obtain ⟨⟨o, n, h1, h2, h3, h4⟩, -, -, rfl, -⟩ := id hV
  exact MI.mono (c_X5_kill l G A σ z d o n hd h1 h2 h3 h4) (fun r τ h => vw_act hV h)
theorem c_X5_passV (f : Int32) (hV : Vw σ a b sn t tx) (hok : okW a) : MI l yX5_pass wsX5_pass 6 137 G A σ [.ref (G.1 5 0), .int f] (fun r τ => r = arR (pasF a f) ∧ Vw τ (arA (pasF a f) a) b sn t tx) := by
  obtain ⟨⟨o, n, h1, h2, h3, h4⟩, -, -, rfl, -⟩ := id hV
  exact MI.mono (c_X5_pass l G A σ f o n hok h1 h2 h3 h4) (fun r τ h => vw_act hV h)
theorem c_X5_setV (w v : Int32) (hV : Vw σ a b sn t tx) : MI l yX5_set wsX5_set 3 69 G A σ [.ref (G.1 5 0), .int w, .int v] (fun r τ => r = arR (setF a w v) ∧ Vw τ (arA (setF a w v) a) b sn t tx) := by
  obtain ⟨⟨o, n, h1, h2, h3, h4⟩, -, -, rfl, -⟩ := id hV
  exact MI.mono (c_X5_set l G A σ w v o n h1 h2 h3 h4) (fun r τ h => vw_act hV h)
theorem c_X5_restoreV (hV : Vw σ a b sn t tx) : MI l yX5_restore wsX5_restore 3 69 G A σ [.ref (G.1 5 0)] (fun r τ => r = arR (restF sn b) ∧ Vw τ (arA (restF sn b) a) b sn t tx) := by
  obtain ⟨⟨o, n, h1, h2, h3, h4⟩, -, -, rfl, rfl, rfl, -⟩ := id hV
  exact MI.mono (c_X5_restore l G A σ o n h1 h2 h3 h4) (fun r τ h => vw_act hV h)
theorem c_X5_askAllV (hV : Vw σ a b sn t tx) : MI l yX5_askAll wsX5_askAll 3 69 G A σ [.ref (G.1 5 0)] (fun r τ => r = arR (allF a tx t) ∧ Vw τ (arA (allF a tx t) a) b sn t tx) := by
  obtain ⟨⟨o, n, h1, h2, h3, h4⟩, h5, h6, rfl, -, -, rfl⟩ := id hV
  exact MI.mono (c_X5_askAll l G A σ t o n h5 h6 h1 h2 h3 h4) (fun r τ h => vw_act hV h)
theorem c_X5_keepV (hV : Vw σ a b sn t tx) : MI l yX5_keep wsX5_keep 2 48 G A σ [.ref (G.1 5 0)] (fun r τ => r = a 332 ∧ Vw τ a a 1 t tx) := by
  refine MI.mono (c_X5_keep l G A σ) (fun r τ h => ?_)
  obtain ⟨⟨o, n, h1, h2, h3, h4⟩, h5, h6, rfl, h8, h9, h10⟩ := hV
  obtain ⟨g1, g2, g3, g4⟩ := h
  have e6 : τ 6 0 = σ 6 0 := g4.1 6 0 (by unfold scrC; omega) (by omega)
  have e9 : τ 9 0 = σ 9 0 := g4.1 9 0 (by unfold scrC; omega) (by omega)
  have e0 : scr τ 0 = scr σ 0 := sameC_row g4 (by decide) (fun k q z => by omega)
  exact ⟨g1, ⟨o, n, h1, h2, by rw [e6]; exact h3, by rw [e6]; exact h4⟩, h5, by rw [g4.2]; exact h6, e0, g2, g3, by rw [e9]; exact h10⟩
theorem c_X5_typeV (c : Int32) (hV : Vw σ a b sn t tx) (ht : t < 60) (hc : vp_nar .char c = c) : MI l yX5_type wsX5_type 1 21 G A σ [.ref (G.1 5 0), .int c] (fun r τ => r = nI (t + 1) ∧ Vw τ a b sn (t + 1) (upd tx t c)) := by
  obtain ⟨⟨o, n, h1, h2, h3, h4⟩, h5, h6, h7, h8, h9, h10⟩ := id hV
  refine MI.mono (c_X5_type l G A σ t c h5 h6 hc) (fun r τ h => ?_)
  rcases h with ⟨g1, -, -⟩ | ⟨-, g2, rfl⟩
  · omega
  · exact ⟨g2, ⟨o, n, h1, h2, by rw [us_k (by decide), us_k (by decide)]; exact h3, by rw [us_k (by decide), us_k (by decide)]; exact h4⟩, by omega, us_at, by rw [scr_us (by decide), scr_us (by decide)]; exact h7, by rw [scr_us (by decide), scr_us (by decide)]; exact h8, by rw [us_k (by decide), us_k (by decide)]; exact h9, by rw [us_k (by decide), us_same, h10]⟩
theorem c_X5_clearTextV (hV : Vw σ a b sn t tx) : MI l yX5_clearText wsX5_clearText 0 0 G A σ [.ref (G.1 5 0)] (fun r τ => r = nI t ∧ Vw τ a b sn 0 tx) := by
  obtain ⟨⟨o, n, h1, h2, h3, h4⟩, h5, h6, h7, h8, h9, h10⟩ := id hV
  refine MI.mono (c_X5_clearText l G A σ) (fun r τ h => ?_)
  obtain ⟨g1, rfl⟩ := h
  exact ⟨g1.trans h6, ⟨o, n, h1, h2, by rw [us_k (by decide)]; exact h3, by rw [us_k (by decide)]; exact h4⟩, by omega, us_at, by rw [scr_us (by decide)]; exact h7, by rw [scr_us (by decide)]; exact h8, by rw [us_k (by decide)]; exact h9, by rw [us_k (by decide)]; exact h10⟩
theorem c_X5_faultV (hV : Vw σ a b sn t tx) : MI l yX5_fault wsX5_fault 2 49 G A σ [.ref (G.1 5 0)] (fun r τ => r = (rdF tx t).1 ∧ Vw τ a b sn t tx) := by
  obtain ⟨-, h5, h6, -, -, -, rfl⟩ := id hV
  exact MI.mono (c_X5_fault l G A σ t h5 h6) (fun r τ h => ⟨h.1, vw_keep h.2 hV⟩)
end VW
