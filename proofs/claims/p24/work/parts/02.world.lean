/-! THE WORLD: the cells that both objects have once they are made, by kind and number; their numbers as one function -/
abbrev St : Type := Nat → Nat → Nat → Int32
/-- how many cells of a kind -/
def pCnt : Nat → Nat
  | 0 => 7 | 1 => 7 | 2 => 7 | 3 => 7 | 4 => 7
  | 5 => 1 | 6 => 1 | 7 => 1 | 8 => 1 | 9 => 1 | 10 => 1 | 11 => 1 | 12 => 1 | 13 => 1 | 14 => 1 | 15 => 1
  | _ => 0
/-- how many numbers a cell of a kind has -/
def pLen : Nat → Nat
  | 0 => 7 | 1 => 288 | 2 => 18 | 3 => 18 | 4 => 8
  | 5 => 9 | 6 => 3 | 7 => 0 | 8 => 4 | 9 => 60 | 10 => 30 | 11 => 2 | 12 => 18 | 13 => 18 | 14 => 5 | 15 => 288
  | _ => 0
def pAll : List (Nat × Nat) := (List.range 16).flatMap (fun k => (List.range (pCnt k)).map (fun i => (k, i)))
theorem pAll_in {k i : Nat} (h : i < pCnt k) : (k, i) ∈ pAll := by
  have hk : k < 16 := by
    rcases Nat.lt_or_ge k 16 with q | q
    · exact q
    · exfalso
      have : pCnt k = 0 := by
        match k, q with
        | n + 16, _ => rfl
      omega
  exact List.mem_flatMap.mpr ⟨k, List.mem_range.mpr hk, List.mem_map.mpr ⟨i, List.mem_range.mpr h, rfl⟩⟩
theorem pAll_nodup : pAll.Nodup := by decide +kernel
/-- the addresses; the classes' numbers and slots; the array classes of int, char, boolean, Screen -/
abbrev GG : Type := (Nat → Nat → Nat) × va_G × ClassId × ClassId × ClassId × ClassId
abbrev gI (G : GG) : ClassId := G.2.2.1
abbrev gC (G : GG) : ClassId := G.2.2.2.1
abbrev gZ (G : GG) : ClassId := G.2.2.2.2.1
abbrev gQ (G : GG) : ClassId := G.2.2.2.2.2
def shape (G : GG) (k i : Nat) (r : Nat → Int32) : va_E := match k with
  | 0 => .inr (3, [.ref (G.1 1 i), .ref (G.1 2 i), .ref (G.1 3 i), .ref (G.1 4 i), .int (r 4), .int (r 5), .int (r 6)])
  | 1 => .inl (gI G, 288, .inl r)
  | 2 => .inl (gI G, 18, .inl r)
  | 3 => .inl (gZ G, 18, .inl r)
  | 4 => .inl (gI G, 8, .inl r)
  | 5 => .inr (5, [.ref (G.1 0 0), .ref (G.1 0 1), .int (r 2), .ref (G.1 6 0), .ref (G.1 8 0), .ref (G.1 0 2), .ref (G.1 11 0), .ref (G.1 14 0), .ref (G.1 15 0)])
  | 6 => .inr (0, [.ref (G.1 7 0), .int (r 1), .int (r 2)])
  | 7 => .inl (gQ G, 4, .inr (.inr (.inr (.inr (fun j => some (G.1 0 (3 + j)))))))
  | 8 => .inr (1, [.ref (G.1 9 0), .int (r 1), .ref (G.1 10 0), .int (r 3)])
  | 9 => .inl (gC G, 60, .inl r)
  | 10 => .inl (gI G, 30, .inl r)
  | 11 => .inr (2, [.ref (G.1 12 0), .ref (G.1 13 0)])
  | 12 => .inl (gI G, 18, .inl r)
  | 13 => .inl (gI G, 18, .inl r)
  | 14 => .inr (4, [.int (r 0), .int (r 1), .int (r 2), .int (r 3), .int (r 4)])
  | 15 => .inl (gI G, 288, .inl r)
  | _ => .inl (gI G, 5, .inl r)
def wl (G : GG) (σ : St) : va_W := pAll.map (fun q => (G.1 q.1 q.2, shape G q.1 q.2 (σ q.1 q.2)))
/-- one row for another -/
def ur (σ : St) (k i : Nat) (r : Nat → Int32) : St := fun k' i' => if k' = k ∧ i' = i then r else σ k' i'
/-- one number for another -/
def us (σ : St) (k i j : Nat) (v : Int32) : St := ur σ k i (upd (σ k i) j v)
theorem ur_same {σ : St} {k i : Nat} {r : Nat → Int32} : ur σ k i r k i = r := if_pos ⟨rfl, rfl⟩
theorem ur_other {σ : St} {k i k' i' : Nat} {r : Nat → Int32} (h : ¬ (k' = k ∧ i' = i)) : ur σ k i r k' i' = σ k' i' := if_neg h
theorem ur_k {σ : St} {k i k' i' : Nat} {r : Nat → Int32} (h : k' ≠ k) : ur σ k i r k' i' = σ k' i' := if_neg (fun q => h q.1)
theorem us_k {σ : St} {k i k' i' j : Nat} {v : Int32} (h : k' ≠ k) : us σ k i j v k' i' = σ k' i' := if_neg (fun q => h q.1)
theorem us_same {σ : St} {k i j : Nat} {v : Int32} : us σ k i j v k i = upd (σ k i) j v := if_pos ⟨rfl, rfl⟩
theorem us_at {σ : St} {k i j : Nat} {v : Int32} : us σ k i j v k i j = v := by rw [us_same, pk_us]
theorem us_not {σ : St} {k i j j' : Nat} {v : Int32} (h : j' ≠ j) : us σ k i j v k i j' = σ k i j' := by rw [us_same, pk_un h]
/-- behind their end rows hold 0; the dead rows hold 0 and 1 -/
def can (σ : St) : Prop := (∀ k i j, pLen k ≤ j → σ k i j = 0) ∧ ∀ i j, σ 3 i j = 0 ∨ σ 3 i j = 1
theorem can_ur {σ : St} {k i : Nat} {r : Nat → Int32} (h : can σ) (hr : ∀ j, pLen k ≤ j → r j = 0) (h3 : k = 3 → ∀ j, r j = 0 ∨ r j = 1) : can (ur σ k i r) := by
  refine ⟨fun k' i' j hj => ?_, fun i' j => ?_⟩
  · unfold ur
    split
    · rename_i q
      exact hr j (by rw [← q.1]; exact hj)
    · exact h.1 k' i' j hj
  · unfold ur
    split
    · rename_i q
      exact h3 q.1.symm j
    · exact h.2 i' j
theorem can_us {σ : St} {k i j : Nat} {v : Int32} (h : can σ) (hj : j < pLen k) (h3 : k = 3 → v = 0 ∨ v = 1) : can (us σ k i j v) := by
  refine can_ur h (fun j' h' => ?_) (fun e j' => ?_)
  · rw [pk_un (by omega)]
    exact h.1 k i j' h'
  · by_cases q : j' = j
    · subst q
      rw [pk_us]
      exact h3 e
    · rw [pk_un q]
      subst e
      exact h.2 i j'
theorem wl_get (G : GG) (σ : St) {k i : Nat} (h : i < pCnt k) : ∃ q : Nat, pAll[q]? = some (k, i) ∧ (wl G σ)[q]? = some (G.1 k i, shape G k i (σ k i)) := by
  obtain ⟨q, hq⟩ := List.getElem?_of_mem (pAll_in h)
  exact ⟨q, hq, by unfold wl; rw [List.getElem?_map, hq]; rfl⟩
theorem wl_set (G : GG) (σ : St) {k i q : Nat} {r : Nat → Int32} (h : pAll[q]? = some (k, i)) : (wl G σ).set q (G.1 k i, shape G k i r) = wl G (ur σ k i r) := by
  apply List.ext_getElem?
  intro j
  have hl : q < (wl G σ).length := by
    unfold wl
    rw [List.length_map]
    exact (List.getElem?_eq_some_iff.mp h).1
  by_cases e : j = q
  · subst e
    rw [List.getElem?_set_self hl]
    unfold wl
    rw [List.getElem?_map, h]
    show _ = some (G.1 k i, shape G k i (ur σ k i r k i))
    rw [ur_same]
  · rw [List.getElem?_set_ne (Ne.symm e)]
    unfold wl
    rw [List.getElem?_map, List.getElem?_map]
    cases hj : pAll[j]? with
    | none => rfl
    | some z =>
      show some (G.1 z.1 z.2, shape G z.1 z.2 (σ z.1 z.2)) = some (G.1 z.1 z.2, shape G z.1 z.2 (ur σ k i r z.1 z.2))
      rw [ur_other]
      intro hz
      apply e
      have hz2 : pAll[j]? = some (k, i) := by rw [hj, ← hz.1, ← hz.2]
      exact (List.getElem?_inj (List.getElem?_eq_some_iff.mp hj).1 pAll_nodup).mp (hz2.trans h.symm)
theorem wl_D {A : Nat → Prop} {G : GG} {σ τ : St} (h : va_D A (wl G σ)) : va_D A (wl G τ) := by
  have key : ∀ (k : Nat) (q : Nat × va_E), (wl G τ)[k]? = some q → ∃ q0, (wl G σ)[k]? = some q0 ∧ q0.1 = q.1 := by
    intro k q hq
    unfold wl at hq ⊢
    rw [List.getElem?_map] at hq ⊢
    cases hj : pAll[k]? with
    | none => rw [hj] at hq; cases hq
    | some z => rw [hj] at hq; cases hq; exact ⟨_, rfl, rfl⟩
  refine ⟨fun i j x y hi hj hxy => ?_, fun k q hk => ?_⟩
  · obtain ⟨x0, h1, h2⟩ := key i x hi
    obtain ⟨y0, h3, h4⟩ := key j y hj
    exact h.1 i j x0 y0 h1 h3 (by rw [h2, h4]; exact hxy)
  · obtain ⟨q0, h1, h2⟩ := key k q hk
    rw [← h2]
    exact h.2 k q0 h1
/-- the cells hold σ -/
def Wcel (G : GG) (σ : St) (H : Heap) : Prop := va_P G.2.1 vwCl (wl G σ) H ∧ can σ
/-- words that every method may use -/
def tbL : List Cond := wsX00 ++ wsX10 ++ wsX20 ++ wsX30 ++ wsX40 ++ wsX50 ++ [.static Lib.Math.max.name, .static Lib.Math.min.name, .static Lib.Math.abs.name, .initialized "java/lang/Math", .code Lib.Math.max.name Lib.Math.max.code 2 (some .int), .code Lib.Math.min.name Lib.Math.min.code 2 (some .int), .code Lib.Math.abs.name Lib.Math.abs.code 1 (some .int), .native arraycopyName, .static arraycopyName, .initialized "java/lang/System"]
theorem tbL_ok : ∀ w ∈ tbL, (w.onTables && w.keeps) = true := by
  intro w hw
  have h : tbL.all (fun w => w.onTables && w.keeps) = true := by decide +kernel
  exact List.all_eq_true.mp h w hw
abbrev nestW : Type := String × Nat × MethodName × String
def tbN : List nestW := [("ZonedLight$Screen", 53, yX5_spotAt, "ZonedLight"), ("ZonedLight$Screen", 56, yX5_onScreen, "ZonedLight"), ("ZonedLight$Screen", 60, yX5_spotOfZone, "ZonedLight"), ("ZonedLight$Screen", 63, yX5_zonesApart, "ZonedLight"), ("ZonedLight$Plan", 62, yX5_lightOf, "ZonedLight"), ("ZonedLight$Plan", 83, yX5_zonesApart, "ZonedLight"), ("ZonedLight$Plan", 72, yX5_roundedUp, "ZonedLight"), ("ZonedLight$Screen", 70, yX5_lightOf, "ZonedLight"), ("ZonedLight$Screen", 74, yX5_glassFor, "ZonedLight"), ("ZonedLight$Tally", 44, yX5_spotOfZone, "ZonedLight"), ("ZonedLight$Tally", 54, yX5_verdict, "ZonedLight")]
/-- a static array that nobody writes -/
def Wst (A : Nat → Prop) (U : State) (H : Heap) (C n d : String) (ty : FieldType) (N : Nat) (xs : List Int32) : Prop := ∃ t : Nat, va_Z C n d (.ref t) A U H ∧ va_T ty t N (fun j => .int (xs.getD j 0)) A U H
theorem Wst.kept {A : Nat → Prop} {u U : State} {H H1 : Heap} {C n d : String} {ty : FieldType} {N : Nat} {xs : List Int32} (hvm : u.vm.Alike U.vm) (hq : ∀ a : Nat, a < H.size → ¬ A a → H1[a]? = H[a]?) (h : Wst A u H C n d ty N xs) : Wst A U H1 C n d ty N xs := by
  obtain ⟨t, h1, h2⟩ := h
  exact ⟨t, (h1.kept hq).moved hvm, (h2.kept hq).moved hvm⟩
abbrev tab_GREATEST_SETTING : List Int32 := [256, 30, 9, 2, 9, 50, 20, 255]
abbrev tab_LEAST_SETTING : List Int32 := [100, 0, 0, 0, 0, 0, 0, 1]
abbrev tab_FROM_X : List Int32 := [1, -1, 0, 0]
abbrev tab_FROM_Y : List Int32 := [0, 0, 1, -1]
abbrev tab_LEAST : List Int32 := [0, 0, 1, 1, 0]
abbrev tab_GREATEST : List Int32 := [23, 11, 24, 12, 255]
abbrev tab_END : List Int32 := [44, 43, 120, 61, 59]
def Wsts (A : Nat → Prop) (U : State) (H : Heap) : Prop :=
  Wst A U H "ZonedLight" "LEAST_SETTING" "[I" .int 8 tab_LEAST_SETTING ∧ Wst A U H "ZonedLight" "GREATEST_SETTING" "[I" .int 8 tab_GREATEST_SETTING ∧
  Wst A U H "ZonedLight" "FROM_X" "[I" .int 4 tab_FROM_X ∧ Wst A U H "ZonedLight" "FROM_Y" "[I" .int 4 tab_FROM_Y ∧
  Wst A U H "ZonedLight$PictureText" "LEAST" "[I" .int 5 tab_LEAST ∧ Wst A U H "ZonedLight$PictureText" "GREATEST" "[I" .int 5 tab_GREATEST ∧
  Wst A U H "ZonedLight$PictureText" "END" "[C" .char 5 tab_END
/-- what stays of a state: the classes, the addresses, the tables, the static arrays -/
def Wenv (G : GG) (A : Nat → Prop) (U : State) (H : Heap) : Prop :=
  va_K G.2.1 vwCl [(gI G, .int), (gC G, .char), (gZ G, .boolean), (gQ G, .object RX3)] U ∧ va_D A (wl G (fun _ _ _ => 0)) ∧
  (∀ w ∈ tbL, va_Nw w U) ∧ (∀ w ∈ tbN, va_Nw (.methodLinkNest w.1 w.2.1 w.2.2.1 w.2.2.2) U) ∧ Wsts A U H
/-- the world of a state -/
def gP (G : GG) (A : Nat → Prop) (σ : St) (U : State) : Prop := Wenv G A U U.heap ∧ Wcel G σ U.heap
theorem Wenv.go {G : GG} {A : Nat → Prop} {s U : State} {H : Heap} {locs : List Loc} (hE : Wenv G A s s.heap) (hS : va_S A s.heap H locs) (hW : s.WarmedH U.vm) (hU : U.heap = H) : Wenv G A U U.heap := by
  obtain ⟨h1, h2, h3, h4, h5⟩ := hE
  have hq : ∀ a : Nat, a < s.heap.size → ¬ A a → U.heap[a]? = s.heap[a]? := fun a g1 g2 => by rw [hU]; exact hS.2.1 a g1 g2
  refine ⟨va_K.moved hW.alike h1, h2, fun w hw => ?_, fun w hw => va_Nw.warmM hW (h4 w hw), ?_⟩
  · exact word_at hW (Or.inl (tbL_ok w hw)) (h3 w hw)
  · obtain ⟨g1, g2, g3, g4, g5, g6, g7⟩ := h5
    exact ⟨g1.kept hW.alike hq, g2.kept hW.alike hq, g3.kept hW.alike hq, g4.kept hW.alike hq, g5.kept hW.alike hq, g6.kept hW.alike hq, g7.kept hW.alike hq⟩
theorem gP_call {G : GG} {A : Nat → Prop} {σ : St} {U : State} {a : Array Value} {g : JFrame} {mk : MethodId} (h : gP G A σ U) : gP G A σ (U.calling g mk a) := by
  obtain ⟨⟨h1, h2, h3, h4, g1, g2, g3, g4, g5, g6, g7⟩, h6⟩ := h
  have hq : ∀ a : Nat, a < U.heap.size → ¬ A a → U.heap[a]? = U.heap[a]? := fun _ _ _ => rfl
  have al : U.vm.Alike (U.calling g mk a).vm := Vm.Alike.refl U.vm
  refine ⟨⟨va_K.moved al h1, h2, fun w hw => ?_, fun w hw => ?_, ?_⟩, h6⟩
  · exact va_Nw.same (by have := tbL_ok w hw; simp only [Bool.and_eq_true] at this; exact this.1) (rfl : U.vm = (U.calling g mk a).vm) (h3 w hw)
  · exact va_Nw.same rfl (rfl : U.vm = (U.calling g mk a).vm) (h4 w hw)
  · exact ⟨g1.kept al hq, g2.kept al hq, g3.kept al hq, g4.kept al hq, g5.kept al hq, g6.kept al hq, g7.kept al hq⟩
theorem Wenv.D {G : GG} {A : Nat → Prop} {U : State} {H : Heap} (h : Wenv G A U H) (σ : St) : va_D A (wl G σ) := wl_D h.2.1
theorem Wenv.A {G : GG} {A : Nat → Prop} {U : State} {H : Heap} (h : Wenv G A U H) {k i : Nat} (hp : i < pCnt k) : A (G.1 k i) := by
  obtain ⟨q, -, hq⟩ := wl_get G (fun _ _ _ => 0) hp
  exact h.2.1.2 q _ hq
