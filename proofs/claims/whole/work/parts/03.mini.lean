/-! the small memory: shapes, ints, longs, references -/
abbrev Shp : Type := Nat ⊕ (Nat × Nat)
abbrev Mem : Type := List Shp × (Nat → Nat → Int32) × (Nat → Nat → Int64) × (Nat → Nat → Option Nat)
/-- launch, class numbers, array classes, first address, addresses of what was there before (the script; the words' text, its bytes; a formatter), is nothing thrown yet -/
abbrev Gm : Type := Launch × va_G × (Nat → ClassId) × Nat × (Nat → Nat) × Bool
def scr : Nat := 1000000
def gad (Γ : Gm) (i : Nat) : Nat := if scr ≤ i then Γ.2.2.2.2.1 (i - scr) else Γ.2.2.2.1 + i
def grv (Γ : Gm) (v : Value) : Value := match v with
  | .ref a => .ref (gad Γ a)
  | v => v
def gA (Γ : Gm) : Nat → Prop := fun q => Γ.2.2.2.1 ≤ q
def gtys (Γ : Gm) : List (ClassId × FieldType) := [(Γ.2.2.1 0, .int), (Γ.2.2.1 1, .long), (Γ.2.2.1 2, .byte), (Γ.2.2.1 3, .boolean), (Γ.2.2.1 4, .object "HourAgain$Clock")]
def tyX (ci : Nat) : Nat → FieldType := match ci with
  | 0 => tyX0 | 1 => tyX1 | 2 => tyX2 | 3 => tyX3 | 4 => tyX4 | 5 => tyX5 | 6 => tyX6 | 7 => tyX7 | 8 => tyX8 | _ => tyX9
def nfX (ci : Nat) : Nat := (vwCl.getD ci ("", TX0, 0)).2.2
def fkn (ci k : Nat) : Nat := match tyX ci k with
  | .long => 1 | .object _ => 2 | .array _ => 2 | _ => 0
def gI (μ : Mem) (o k : Nat) : Int32 := μ.2.1 o k
def gL (μ : Mem) (o k : Nat) : Int64 := μ.2.2.1 o k
def gR (μ : Mem) (o k : Nat) : Option Nat := μ.2.2.2 o k
def sI (μ : Mem) (o k : Nat) (v : Int32) : Mem := (μ.1, (fun a b => if a = o ∧ b = k then v else μ.2.1 a b), μ.2.2.1, μ.2.2.2)
def sL (μ : Mem) (o k : Nat) (v : Int64) : Mem := (μ.1, μ.2.1, (fun a b => if a = o ∧ b = k then v else μ.2.2.1 a b), μ.2.2.2)
def sR (μ : Mem) (o k : Nat) (v : Option Nat) : Mem := (μ.1, μ.2.1, μ.2.2.1, (fun a b => if a = o ∧ b = k then v else μ.2.2.2 a b))
/-- a new cell -/
def sN (μ : Mem) (x : Shp) : Mem := (μ.1 ++ [x], (fun a b => if a = μ.1.length then 0 else μ.2.1 a b), (fun a b => if a = μ.1.length then 0 else μ.2.2.1 a b), (fun a b => if a = μ.1.length then none else μ.2.2.2 a b))
def fval (Γ : Gm) (μ : Mem) (o ci k : Nat) : Value := match fkn ci k with
  | 0 => .int (gI μ o k)
  | 1 => .long (gL μ o k)
  | _ => va_rf ((gR μ o k).map (gad Γ))
def garr (Γ : Gm) (μ : Mem) (o t : Nat) : (Nat → Int32) ⊕ (Nat → Int64) ⊕ (Nat → UInt32) ⊕ (Nat → UInt64) ⊕ (Nat → Option Nat) := match t with
  | 1 => .inr (.inl (gL μ o))
  | 4 => .inr (.inr (.inr (.inr (fun j => (gR μ o j).map (gad Γ)))))
  | _ => .inl (gI μ o)
def gfs (Γ : Gm) (μ : Mem) (o ci : Nat) : List Value := (List.range (nfX ci)).map (fval Γ μ o ci)
def gcel (Γ : Gm) (μ : Mem) (o : Nat) : va_E := match μ.1[o]? with
  | some (.inl ci) => .inr (ci, gfs Γ μ o ci)
  | some (.inr (t, n)) => .inl (Γ.2.2.1 t, n, garr Γ μ o t)
  | none => .inr (0, [])
def gws (Γ : Gm) (μ : Mem) : va_W := (List.range μ.1.length).map (fun o => (gad Γ o, gcel Γ μ o))
theorem gws_at {Γ : Gm} {μ : Mem} {o : Nat} (h : o < μ.1.length) : (gws Γ μ)[o]? = some (gad Γ o, gcel Γ μ o) := by
  simp [gws, h]
theorem gws_len {Γ : Gm} {μ : Mem} : (gws Γ μ).length = μ.1.length := by simp [gws]
theorem gws_D {Γ : Gm} {μ : Mem} (h : μ.1.length ≤ scr) : va_D (gA Γ) (gws Γ μ) := by
  have key : ∀ (k : Nat) (q : Nat × va_E), (gws Γ μ)[k]? = some q → k < μ.1.length ∧ q.1 = Γ.2.2.2.1 + k := by
    intro k q hk
    have hl : k < (gws Γ μ).length := (List.getElem?_eq_some_iff.mp hk).1
    rw [gws_len] at hl
    rw [gws_at hl] at hk
    cases hk
    refine ⟨hl, ?_⟩
    show gad Γ k = _
    unfold gad
    rw [if_neg (by omega)]
  refine ⟨fun i j p q hi hj e => ?_, fun k q hk => ?_⟩
  · have h1 := (key i p hi).2
    have h2 := (key j q hj).2
    omega
  · show Γ.2.2.2.1 ≤ q.1
    rw [(key k q hk).2]
    omega
theorem gws_set {Γ : Gm} {μ μ' : Mem} {o : Nat} {x : va_E} (h1 : μ'.1 = μ.1) (hx : gcel Γ μ' o = x) (h2 : ∀ j, j ≠ o → gcel Γ μ' j = gcel Γ μ j) : (gws Γ μ).set o (gad Γ o, x) = gws Γ μ' := by
  subst hx
  apply List.ext_getElem?
  intro i
  by_cases hi : i < μ.1.length
  · rw [gws_at (μ := μ') (by rw [h1]; exact hi)]
    by_cases hio : o = i
    · subst hio
      rw [List.getElem?_set_self (by rw [gws_len]; exact hi)]
    · rw [List.getElem?_set_ne hio, gws_at hi, h2 i (fun e => hio e.symm)]
  · rw [List.getElem?_eq_none (by rw [List.length_set, gws_len]; omega), List.getElem?_eq_none (by rw [gws_len, h1]; omega)]
theorem grv_cat {Γ : Gm} (v : Value) : (grv Γ v).category = v.category := by
  cases v <;> rfl
/-! the locals -/
def asc (Γ : Gm) : Nat → List (Option Value) → List (Nat × Value)
  | _, [] => []
  | i, none :: r => asc Γ (i + 1) r
  | i, some v :: r => (i, grv Γ v) :: asc Γ (i + 1) r
theorem asc_mem {Γ : Gm} : ∀ (ls : List (Option Value)) (i : Nat) (q : Nat × Value), q ∈ asc Γ i ls ↔ ∃ (j : Nat) (v : Value), ls[j]? = some (some v) ∧ q = (i + j, grv Γ v) := by
  intro ls
  induction ls with
  | nil => intro i q; simp [asc]
  | cons a r ih =>
    intro i q
    cases a with
    | none =>
      simp only [asc, ih]
      constructor
      · rintro ⟨j, v, h1, h2⟩
        exact ⟨j + 1, v, by simpa using h1, by rw [h2]; congr 1; omega⟩
      · rintro ⟨j, v, h1, h2⟩
        cases j with
        | zero => simp at h1
        | succ j => exact ⟨j, v, by simpa using h1, by rw [h2]; congr 1; omega⟩
    | some w =>
      simp only [asc, List.mem_cons, ih]
      constructor
      · rintro (h | ⟨j, v, h1, h2⟩)
        · exact ⟨0, w, rfl, h⟩
        · exact ⟨j + 1, v, by simpa using h1, by rw [h2]; congr 1; omega⟩
      · rintro ⟨j, v, h1, h2⟩
        cases j with
        | zero =>
          simp at h1
          subst h1
          exact Or.inl h2
        | succ j => exact Or.inr ⟨j, v, by simpa using h1, by rw [h2]; congr 1; omega⟩
def lrel (Γ : Gm) (nL : Nat) (ls : List (Option Value)) (a : Array Slot) : Prop := lv_has a nL (asc Γ 0 ls) ∧ ls.length ≤ nL
theorem lrel.at {Γ : Gm} {nL : Nat} {ls : List (Option Value)} {a : Array Slot} (h : lrel Γ nL ls a) {i : Nat} {v : Value} (hi : ls[i]? = some (some v)) : a[i]? = some (.val (grv Γ v)) :=
  h.1.2.2 (i, grv Γ v) ((asc_mem ls 0 _).mpr ⟨i, v, hi, by simp⟩)
/-- no long ends at place i -/
def okP (ls : List (Option Value)) (i : Nat) : Bool := match i with
  | 0 => true
  | j + 1 => match ls[j]? with
    | some (some v) => v.category != 2
    | _ => true
theorem okP_of {ls : List (Option Value)} {i j : Nat} (h : okP ls i = true) (hj : j + 1 = i) {v : Value} (hv : ls[j]? = some (some v)) : v.category ≠ 2 := by
  subst hj
  simp only [okP, hv] at h
  simpa using h
theorem lrel.store1 {Γ : Gm} {nL : Nat} {ls : List (Option Value)} {a : Array Slot} {i : Nat} {v : Value} (hp : okP ls i = true) (hl : ls.length ≤ nL) (h : lv_has a nL ((i, grv Γ v) :: (asc Γ 0 ls).filter (fun q => !(q.1 == i) && !(q.1 + 1 == i && q.2.category == 2)))) : lrel Γ nL (ls.set i (some v)) a := by
  refine ⟨⟨h.1, h.2.1, fun q hq => ?_⟩, by rw [List.length_set]; exact hl⟩
  obtain ⟨j, w, h1, h2⟩ := (asc_mem _ 0 q).mp hq
  rw [Nat.zero_add] at h2
  subst h2
  by_cases hji : i = j
  · subst hji
    have hlt : i < ls.length := by
      have := (List.getElem?_eq_some_iff.mp h1).1
      simpa using this
    rw [List.getElem?_set_self hlt] at h1
    cases h1
    exact h.2.2 _ List.mem_cons_self
  · rw [List.getElem?_set_ne hji] at h1
    refine h.2.2 _ (List.mem_cons_of_mem _ (List.mem_filter.mpr ⟨(asc_mem ls 0 _).mpr ⟨j, w, h1, by simp⟩, ?_⟩))
    have h3 : ¬ j = i := fun e => hji e.symm
    by_cases h4 : j + 1 = i
    · have h5 := okP_of hp h4 h1
      simp [h3, h4, grv_cat, h5]
    · simp [h3, h4]
theorem lrel.store2 {Γ : Gm} {nL : Nat} {ls : List (Option Value)} {a : Array Slot} {i : Nat} {v : Value} (hp : okP ls i = true) (hl : ls.length ≤ nL) (h : lv_has a nL ((i, grv Γ v) :: (asc Γ 0 ls).filter (fun q => !(q.1 == i) && (!(q.1 == i + 1) && !(q.1 + 1 == i && q.2.category == 2))))) : lrel Γ nL ((ls.set i (some v)).set (i + 1) none) a := by
  refine ⟨⟨h.1, h.2.1, fun q hq => ?_⟩, by rw [List.length_set, List.length_set]; exact hl⟩
  obtain ⟨j, w, h1, h2⟩ := (asc_mem _ 0 q).mp hq
  rw [Nat.zero_add] at h2
  subst h2
  by_cases hj1 : i + 1 = j
  · subst hj1
    have hlt : i + 1 < (ls.set i (some v)).length := by
      have := (List.getElem?_eq_some_iff.mp h1).1
      simpa using this
    rw [List.getElem?_set_self hlt] at h1
    cases h1
  · rw [List.getElem?_set_ne hj1] at h1
    by_cases hji : i = j
    · subst hji
      have hlt : i < ls.length := by
        have := (List.getElem?_eq_some_iff.mp h1).1
        simpa using this
      rw [List.getElem?_set_self hlt] at h1
      cases h1
      exact h.2.2 _ List.mem_cons_self
    · rw [List.getElem?_set_ne hji] at h1
      refine h.2.2 _ (List.mem_cons_of_mem _ (List.mem_filter.mpr ⟨(asc_mem ls 0 _).mpr ⟨j, w, h1, by simp⟩, ?_⟩))
      have h3 : ¬ j = i := fun e => hji e.symm
      have h3' : ¬ j = i + 1 := fun e => hj1 e.symm
      by_cases h4 : j + 1 = i
      · have h5 := okP_of hp h4 h1
        simp [h3, h3', h4, grv_cat, h5]
      · simp [h3, h3', h4]
/-- fewer locals known -/
def lsub : List (Option Value) → List (Option Value) → Prop
  | [], _ => True
  | none :: r, [] => lsub r []
  | some _ :: _, [] => False
  | none :: r, _ :: r' => lsub r r'
  | some v :: r, w :: r' => w = some v ∧ lsub r r'
theorem lsub_at : ∀ (l2 l1 : List (Option Value)), lsub l2 l1 → ∀ (j : Nat) (v : Value), l2[j]? = some (some v) → l1[j]? = some (some v) := by
  intro l2
  induction l2 with
  | nil => intro l1 _ j v h; simp at h
  | cons a r ih =>
    intro l1 hs j v h
    cases l1 with
    | nil =>
      cases a with
      | some w => exact hs.elim
      | none =>
        cases j with
        | zero => simp at h
        | succ j =>
          have := ih [] hs j v (by simpa using h)
          simp at this
    | cons b r' =>
      cases a with
      | none =>
        cases j with
        | zero => simp at h
        | succ j => simpa using ih r' hs j v (by simpa using h)
      | some w =>
        obtain ⟨h1, h2⟩ := hs
        cases j with
        | zero => simp at h ⊢; rw [h1, h]
        | succ j => simpa using ih r' h2 j v (by simpa using h)
theorem lrel.sub {Γ : Gm} {nL : Nat} {ls l2 : List (Option Value)} {a : Array Slot} (h : lrel Γ nL ls a) (hs : lsub l2 ls) (hl : l2.length ≤ ls.length) : lrel Γ nL l2 a := by
  refine ⟨⟨h.1.1, h.1.2.1, fun q hq => ?_⟩, Nat.le_trans hl h.2⟩
  obtain ⟨j, w, h1, h2⟩ := (asc_mem _ 0 q).mp hq
  rw [Nat.zero_add] at h2
  subst h2
  exact h.at (lsub_at _ _ hs j w h1)
/-- the locals at a method's entry -/
def entL : List Value → List (Option Value)
  | [] => []
  | v :: vs => if v.category = 2 then some v :: none :: entL vs else some v :: entL vs
theorem entL_mem {Γ : Gm} : ∀ (vs : List Value) (i : Nat) (q : Nat × Value), q ∈ asc Γ i (entL vs) → q ∈ lv_args i (vs.map (grv Γ)) := by
  intro vs
  induction vs with
  | nil => intro i q h; simp [entL, asc] at h
  | cons v vs ih =>
    intro i q h
    simp only [entL] at h
    by_cases hc : v.category = 2
    · rw [if_pos hc] at h
      simp only [asc, List.mem_cons] at h
      simp only [List.map_cons, lv_args, List.mem_cons]
      rcases h with h | h
      · exact Or.inl h
      · refine Or.inr ?_
        rw [grv_cat, if_pos hc]
        exact ih _ _ h
    · rw [if_neg hc] at h
      simp only [asc, List.mem_cons] at h
      simp only [List.map_cons, lv_args, List.mem_cons]
      rcases h with h | h
      · exact Or.inl h
      · refine Or.inr ?_
        rw [grv_cat, if_neg hc]
        exact ih _ _ h
theorem entL_len : ∀ (vs : List Value) (Γ : Gm), (entL vs).length = (lg_sl (vs.map (grv Γ))).length := by
  intro vs Γ
  induction vs with
  | nil => rfl
  | cons v vs ih =>
    simp only [entL, List.map_cons, lg_sl, List.flatMap_cons, List.length_append, grv_cat]
    rw [show (List.flatMap (fun v => if v.category = 2 then [Slot.val v, Slot.second] else [Slot.val v]) (List.map (grv Γ) vs)).length = (entL vs).length from ih.symm]
    by_cases hc : v.category = 2
    · simp [hc]; omega
    · simp [hc]; omega
theorem lrel_entry {Γ : Gm} {nL : Nat} {vs : List Value} {l2 : List (Option Value)} (h : (entL vs).length ≤ nL) (hs : lsub l2 (entL vs)) (hl : l2.length ≤ nL) : lrel Γ nL l2 ((lg_sl (vs.map (grv Γ)) ++ List.replicate (nL - (lg_sl (vs.map (grv Γ))).length) Slot.unset).toArray) := by
  have h0 := lv_entry (vs.map (grv Γ)) (n := nL) (by rw [← entL_len]; exact h)
  refine ⟨⟨h0.1, h0.2.1, fun q hq => ?_⟩, hl⟩
  obtain ⟨j, w, h1, h2⟩ := (asc_mem _ 0 q).mp hq
  refine h0.2.2 q (entL_mem vs 0 q ((asc_mem _ 0 q).mpr ⟨j, w, lsub_at _ _ hs j w h1, h2⟩))
