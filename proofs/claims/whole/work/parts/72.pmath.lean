/-! the plan: windows of works, sets as bits -/
theorem or_clr {S w : Nat} (h : S.testBit w = true) : clr S w ||| 2 ^ w = S := by
  apply Nat.eq_of_testBit_eq; intro i; rw [Nat.testBit_or, clr_tb, Nat.testBit_two_pow]
  by_cases e : w = i
  · subst e; simp [h]
  · have e2 : ¬ i = w := fun h => e h.symm
    simp [e, e2]
theorem clr_ls {S w : Nat} (h : S.testBit w = true) : clr S w < S := by
  have h1 : clr S w ≤ clr S w ||| 2 ^ w := Nat.left_le_or
  rw [or_clr h] at h1
  have h2 : clr S w ≠ S := by
    intro e
    have h3 : (clr S w).testBit w = false := by rw [clr_tb]; simp
    rw [e, h] at h3; cases h3
  omega
theorem clr_or {S w : Nat} (h : S.testBit w = false) : clr (S ||| 2 ^ w) w = S := by
  apply Nat.eq_of_testBit_eq; intro i; rw [clr_tb, Nat.testBit_or, Nat.testBit_two_pow]
  by_cases e : i = w
  · subst e; simp [h]
  · have e2 : ¬ w = i := fun h => e h.symm
    simp [e, e2]
theorem or_tb {S w i : Nat} : (S ||| 2 ^ w).testBit i = (S.testBit i || decide (w = i)) := by rw [Nat.testBit_or, Nat.testBit_two_pow]
theorem or_ls {S w : Nat} (h : S.testBit w = false) : S < S ||| 2 ^ w := by
  have h1 := clr_ls (S := S ||| 2 ^ w) (w := w) (by rw [or_tb]; simp)
  rwa [clr_or h] at h1
abbrev Wn : Type := (Nat → Nat) × (Nat → Nat) × (Nat → Nat) × (Nat → Nat) × (Nat → Nat)
def okWn (W : Wn) (n : Nat) : Prop := ∀ w, w < n → W.2.1 w ≤ W.2.2.1 w ∧ 1 ≤ W.2.1 w ∧ 1 ≤ W.2.2.2.1 w ∧ W.1 w ≤ 9000000 ∧ W.2.2.1 w ≤ 9000000 ∧ W.2.2.2.1 w ≤ 9000000 ∧ 1 ≤ W.2.2.2.2 w ∧ W.2.2.2.2 w ≤ 1440
def inW (W : Wn) (w s : Nat) : Prop := (W.1 w ≤ s ∧ s < W.2.1 w) ∨ (W.2.2.1 w ≤ s ∧ s < W.2.2.2.1 w)
/-- the earliest begin from t on; the latest so that l is over at x -/
def eb (W : Wn) (w t : Nat) : Option Nat := if max t (W.1 w) < W.2.1 w then some (max t (W.1 w)) else if max t (W.2.2.1 w) < W.2.2.2.1 w then some (max t (W.2.2.1 w)) else none
def lb (W : Wn) (w x l : Nat) : Option Nat := if x < l then none else if W.2.2.1 w ≤ min (x - l) (W.2.2.2.1 w - 1) then some (min (x - l) (W.2.2.2.1 w - 1)) else if W.1 w ≤ min (x - l) (W.2.1 w - 1) then some (min (x - l) (W.2.1 w - 1)) else none
theorem eb_some {W : Wn} {n w t s : Nat} (hW : okWn W n) (hw : w < n) (h : eb W w t = some s) : inW W w s ∧ t ≤ s ∧ ∀ s', inW W w s' → t ≤ s' → s ≤ s' := by
  obtain ⟨a1, a2, a3, -⟩ := hW w hw
  unfold eb at h
  unfold inW
  by_cases c : max t (W.1 w) < W.2.1 w
  · rw [if_pos c] at h; cases h
    exact ⟨Or.inl ⟨by omega, c⟩, by omega, fun s' h1 h2 => by omega⟩
  · rw [if_neg c] at h
    by_cases c2 : max t (W.2.2.1 w) < W.2.2.2.1 w
    · rw [if_pos c2] at h; cases h
      exact ⟨Or.inr ⟨by omega, c2⟩, by omega, fun s' h1 h2 => by omega⟩
    · rw [if_neg c2] at h; cases h
theorem eb_none {W : Wn} {w t : Nat} (h : eb W w t = none) : ∀ s', inW W w s' → ¬ t ≤ s' := by
  unfold eb at h
  intro s' h1 h2
  unfold inW at h1
  by_cases c : max t (W.1 w) < W.2.1 w
  · rw [if_pos c] at h; cases h
  · rw [if_neg c] at h
    by_cases c2 : max t (W.2.2.1 w) < W.2.2.2.1 w
    · rw [if_pos c2] at h; cases h
    · omega
theorem eb_of {W : Wn} {n w t s : Nat} (hW : okWn W n) (hw : w < n) (h1 : inW W w s) (h2 : t ≤ s) (h3 : ∀ s', inW W w s' → t ≤ s' → s ≤ s') : eb W w t = some s := by
  cases h : eb W w t with
  | none => exact absurd h2 (eb_none h s h1)
  | some z =>
    obtain ⟨g1, g2, g3⟩ := eb_some hW hw h
    have := h3 z g1 g2
    have := g3 s h1 h2
    congr 1; omega
theorem eb_no {W : Wn} {n w t : Nat} (hW : okWn W n) (hw : w < n) (h : ∀ s', inW W w s' → ¬ t ≤ s') : eb W w t = none := by
  cases h9 : eb W w t with
  | none => rfl
  | some z =>
    obtain ⟨g1, g2, g3⟩ := eb_some hW hw h9
    exact absurd g2 (h z g1)
theorem inW_le {W : Wn} {n w s : Nat} (hW : okWn W n) (hw : w < n) (h : inW W w s) : s < 9000000 := by
  obtain ⟨a1, a2, a3, a4, a5, a6, -⟩ := hW w hw
  unfold inW at h; omega
theorem eb_le {W : Wn} {n w t s : Nat} (hW : okWn W n) (hw : w < n) (h : eb W w t = some s) : s < 9000000 := inW_le hW hw (eb_some hW hw h).1
theorem lb_iff {W : Wn} {n w x l t : Nat} (hW : okWn W n) (hw : w < n) : (∃ z, lb W w x l = some z ∧ t ≤ z) ↔ ∃ s, inW W w s ∧ t ≤ s ∧ s + l ≤ x := by
  obtain ⟨a1, a2, a3, -⟩ := hW w hw
  unfold lb inW
  by_cases c : x < l
  · rw [if_pos c]
    exact ⟨fun ⟨z, h, _⟩ => (by cases h), fun ⟨s, _, _, h⟩ => (by omega)⟩
  · rw [if_neg c]
    by_cases c1 : W.2.2.1 w ≤ min (x - l) (W.2.2.2.1 w - 1)
    · rw [if_pos c1]
      constructor
      · rintro ⟨z, h, h2⟩; cases h
        exact ⟨min (x - l) (W.2.2.2.1 w - 1), Or.inr ⟨c1, by omega⟩, h2, by omega⟩
      · rintro ⟨s, h1, h2, h3⟩
        exact ⟨_, rfl, by omega⟩
    · rw [if_neg c1]
      by_cases c2 : W.1 w ≤ min (x - l) (W.2.1 w - 1)
      · rw [if_pos c2]
        constructor
        · rintro ⟨z, h, h2⟩; cases h
          exact ⟨min (x - l) (W.2.1 w - 1), Or.inl ⟨c2, by omega⟩, h2, by omega⟩
        · rintro ⟨s, h1, h2, h3⟩
          exact ⟨_, rfl, by omega⟩
      · rw [if_neg c2]
        exact ⟨fun ⟨z, h, _⟩ => (by cases h), fun ⟨s, h1, h2, h3⟩ => (by omega)⟩
theorem lb_eb {W : Wn} {n w x l t : Nat} (hW : okWn W n) (hw : w < n) : (∃ z, lb W w x l = some z ∧ t ≤ z) ↔ ∃ s, eb W w t = some s ∧ s + l ≤ x := by
  rw [lb_iff hW hw]
  constructor
  · rintro ⟨s, h1, h2, h3⟩
    cases h : eb W w t with
    | none => exact absurd h2 (eb_none h s h1)
    | some z => exact ⟨z, rfl, by have := (eb_some hW hw h).2.2 s h1 h2; omega⟩
  · rintro ⟨s, h, h3⟩
    obtain ⟨g1, g2, -⟩ := eb_some hW hw h
    exact ⟨s, g1, g2, h3⟩
theorem lb_le {W : Wn} {n w x l z : Nat} (hW : okWn W n) (hw : w < n) (h : lb W w x l = some z) : z < 9000000 := by
  obtain ⟨s, h1, h2, h3⟩ := (lb_iff (t := z) hW hw).mp ⟨z, h, Nat.le_refl _⟩
  have := inW_le hW hw h1
  omega
def exU (P : Nat → Bool) : Nat → Bool
  | 0 => false
  | k + 1 => exU P k || P k
theorem exU_iff {P : Nat → Bool} : ∀ n, exU P n = true ↔ ∃ k, k < n ∧ P k = true := by
  intro n
  induction n with
  | zero => simp [exU]
  | succ n ih =>
    simp only [exU, Bool.or_eq_true, ih]
    constructor
    · rintro (⟨k, h1, h2⟩ | h)
      · exact ⟨k, by omega, h2⟩
      · exact ⟨n, by omega, h⟩
    · rintro ⟨k, h1, h2⟩
      by_cases e : k = n
      · subst e; exact Or.inr h2
      · exact Or.inl ⟨k, by omega, h2⟩
/-- can all of the set be done from t on -/
def Fg (W : Wn) (n : Nat) : Nat → Nat → Nat → Bool
  | 0, _, _ => false
  | f + 1, S, t => decide (S = 0) || exU (fun w => S.testBit w && (match eb W w t with | none => false | some s => Fg W n f (clr S w) (s + W.2.2.2.2 w))) n
def FF (W : Wn) (n S t : Nat) : Bool := Fg W n (S + 1) S t
theorem Fg_f {W : Wn} {n : Nat} : ∀ S f t, S < f → Fg W n f S t = Fg W n (S + 1) S t := by
  intro S
  induction S using Nat.strongRecOn with
  | ind S ih =>
    intro f t hf
    obtain ⟨g, rfl⟩ : ∃ g, f = g + 1 := ⟨f - 1, by omega⟩
    simp only [Fg]
    congr 1
    congr 1
    funext w
    by_cases h : S.testBit w = true
    · rw [h, Bool.true_and, Bool.true_and]
      have hl := clr_ls h
      cases eb W w t with
      | none => rfl
      | some s =>
        show Fg W n g (clr S w) _ = Fg W n S (clr S w) _
        rw [ih _ hl g _ (by omega), ih _ hl S _ (by omega)]
    · simp [h]
def nxP (W : Wn) (n S t : Nat) : Nat → Bool := fun w => S.testBit w && (match eb W w t with | none => false | some s => FF W n (clr S w) (s + W.2.2.2.2 w))
theorem nxP_iff {W : Wn} {n S t w : Nat} : nxP W n S t w = true ↔ S.testBit w = true ∧ ∃ s, eb W w t = some s ∧ FF W n (clr S w) (s + W.2.2.2.2 w) = true := by
  unfold nxP
  rw [Bool.and_eq_true]
  cases h : eb W w t with
  | none => simp
  | some s => simp
theorem FF_eq {W : Wn} {n S t : Nat} : FF W n S t = (decide (S = 0) || exU (nxP W n S t) n) := by
  unfold FF
  show (decide (S = 0) || exU _ n) = _
  congr 1
  congr 1
  funext w
  unfold nxP
  by_cases h : S.testBit w = true
  · rw [h, Bool.true_and, Bool.true_and]
    cases eb W w t with
    | none => rfl
    | some s => exact Fg_f _ _ _ (clr_ls h)
  · simp [h]
theorem FF_0 {W : Wn} {n t : Nat} : FF W n 0 t = true := by rw [FF_eq]; simp
theorem FF_iff {W : Wn} {n S t : Nat} : FF W n S t = true ↔ S = 0 ∨ ∃ w, w < n ∧ S.testBit w = true ∧ ∃ s, eb W w t = some s ∧ FF W n (clr S w) (s + W.2.2.2.2 w) = true := by
  rw [FF_eq, Bool.or_eq_true, exU_iff, decide_eq_true_eq]
  simp only [nxP_iff]
theorem eb_mono {W : Wn} {n w t t' s : Nat} (hW : okWn W n) (hw : w < n) (h : eb W w t = some s) (ht : t' ≤ t) : ∃ s', eb W w t' = some s' ∧ s' ≤ s := by
  obtain ⟨g1, g2, g3⟩ := eb_some hW hw h
  cases h9 : eb W w t' with
  | none => exact absurd (by omega) (eb_none h9 s g1)
  | some z => exact ⟨z, rfl, (eb_some hW hw h9).2.2 s g1 (by omega)⟩
theorem FF_mono {W : Wn} {n : Nat} (hW : okWn W n) : ∀ S t t', t' ≤ t → FF W n S t = true → FF W n S t' = true := by
  intro S
  induction S using Nat.strongRecOn with
  | ind S ih =>
    intro t t' ht h
    rw [FF_iff] at h ⊢
    rcases h with h | ⟨w, h1, h2, s, h3, h4⟩
    · exact Or.inl h
    · obtain ⟨s', g1, g2⟩ := eb_mono hW h1 h3 ht
      exact Or.inr ⟨w, h1, h2, s', g1, ih _ (clr_ls h2) (s + W.2.2.2.2 w) _ (by omega) h4⟩
/-- what the class keeps of a set: the latest minute from which all can be done -/
def FAR9 : Nat := 99999999
def isLa (W : Wn) (n S : Nat) (z : Option Nat) : Prop := (∀ v, z = some v → v ≤ FAR9) ∧ ∀ t, t ≤ FAR9 → (FF W n S t = true ↔ ∃ v, z = some v ∧ t ≤ v)
def isLk (W : Wn) (n S k : Nat) (z : Option Nat) : Prop := (∀ v, z = some v → v ≤ FAR9) ∧ ∀ t, t ≤ FAR9 → ((∃ w, w < k ∧ nxP W n S t w = true) ↔ ∃ v, z = some v ∧ t ≤ v)
theorem isLa_0 {W : Wn} {n : Nat} : isLa W n 0 (some FAR9) := ⟨fun v h => by cases h; exact Nat.le_refl _, fun t ht => ⟨fun _ => ⟨_, rfl, ht⟩, fun _ => FF_0⟩⟩
theorem isLk_0 {W : Wn} {n S : Nat} : isLk W n S 0 none := ⟨fun v h => (by cases h), fun t _ => ⟨fun ⟨w, h, _⟩ => absurd h (Nat.not_lt_zero _), fun ⟨v, h, _⟩ => (by cases h)⟩⟩
theorem isLk_n {W : Wn} {n S : Nat} {z : Option Nat} (h : isLk W n S n z) (hS : S ≠ 0) : isLa W n S z := by
  refine ⟨h.1, fun t ht => ?_⟩
  rw [FF_eq, Bool.or_eq_true, exU_iff, ← h.2 t ht]
  constructor
  · rintro (h | h)
    · exact absurd (of_decide_eq_true h) hS
    · exact h
  · intro h; exact Or.inr h
def mxO (a b : Option Nat) : Option Nat := match a, b with
  | none, b => b
  | some x, none => some x
  | some x, some y => some (max x y)
theorem mxO_iff {a b : Option Nat} {t : Nat} : (∃ v, mxO a b = some v ∧ t ≤ v) ↔ (∃ v, a = some v ∧ t ≤ v) ∨ (∃ v, b = some v ∧ t ≤ v) := by
  cases a <;> cases b <;> simp [mxO]
  omega
theorem isLk_no {W : Wn} {n S k : Nat} {z : Option Nat} (h : isLk W n S k z) (hb : S.testBit k = false) : isLk W n S (k + 1) z := by
  refine ⟨h.1, fun t ht => ?_⟩
  rw [← h.2 t ht]
  constructor
  · rintro ⟨w, h1, h2⟩
    by_cases e : w = k
    · subst e; rw [nxP_iff, hb] at h2; cases h2.1
    · exact ⟨w, by omega, h2⟩
  · rintro ⟨w, h1, h2⟩; exact ⟨w, by omega, h2⟩
/-- one more work: its latest begin before the rest's latest -/
def lbO (W : Wn) (w : Nat) (z : Option Nat) : Option Nat := match z with
  | none => none
  | some x => lb W w x (W.2.2.2.2 w)
theorem isLk_yes {W : Wn} {n S k : Nat} {z y : Option Nat} (hW : okWn W n) (hk : k < n) (h : isLk W n S k z) (hb : S.testBit k = true) (hy : isLa W n (clr S k) y) : isLk W n S (k + 1) (mxO z (lbO W k y)) := by
  refine ⟨fun v hv => ?_, fun t ht => ?_⟩
  · have h1 : ∃ v', mxO z (lbO W k y) = some v' ∧ v ≤ v' := ⟨v, hv, Nat.le_refl _⟩
    rw [mxO_iff] at h1
    rcases h1 with ⟨u, h2, h3⟩ | ⟨u, h2, h3⟩
    · have := h.1 u h2; omega
    · unfold lbO at h2
      cases y with
      | none => cases h2
      | some x => have := lb_le hW hk h2; unfold FAR9; omega
  · rw [mxO_iff, ← h.2 t ht]
    have key : nxP W n S t k = true ↔ ∃ v, lbO W k y = some v ∧ t ≤ v := by
      rw [nxP_iff]
      cases y with
      | none =>
        constructor
        · rintro ⟨_, s, h1, h2⟩
          have h3 := eb_le hW hk h1
          have h4 := hW k hk
          obtain ⟨v, h5, -⟩ := (hy.2 _ (by unfold FAR9; omega)).mp h2
          cases h5
        · rintro ⟨v, h1, _⟩; cases h1
      | some x =>
        show _ ↔ ∃ v, lb W k x (W.2.2.2.2 k) = some v ∧ t ≤ v
        rw [lb_eb hW hk]
        constructor
        · rintro ⟨_, s, h1, h2⟩
          have h3 := eb_le hW hk h1
          have h4 := hW k hk
          obtain ⟨v, h5, h6⟩ := (hy.2 _ (by unfold FAR9; omega)).mp h2
          cases h5
          exact ⟨s, h1, h6⟩
        · rintro ⟨s, h1, h2⟩
          have h3 := eb_le hW hk h1
          have h4 := hW k hk
          exact ⟨hb, s, h1, (hy.2 _ (by unfold FAR9; omega)).mpr ⟨x, rfl, h2⟩⟩
    constructor
    · rintro ⟨w, h1, h2⟩
      by_cases e : w = k
      · subst e; exact Or.inr (key.mp h2)
      · exact Or.inl ⟨w, by omega, h2⟩
    · rintro (⟨w, h1, h2⟩ | h2)
      · exact ⟨w, by omega, h2⟩
      · exact ⟨k, by omega, key.mpr h2⟩
/-- worths, and the best set -/
def woS (B : Nat → Nat) (S : Nat) : Nat → Nat
  | 0 => 0
  | k + 1 => woS B S k + if S.testBit k = true then B (86 + 5 * k + 4) else 0
theorem woS_le {B : Nat → Nat} {S : Nat} (hW : WB B) : ∀ k, k ≤ B 85 → woS B S k ≤ 999 * k := by
  intro k
  induction k with
  | zero => intro _; exact Nat.le_refl _
  | succ k ih =>
    intro hk
    have h1 := ih (by omega)
    have h2 := (hW.2.2.1.2 k (by omega)).2.2.2.2.2
    simp only [woS]; split <;> omega
theorem woS_0 {B : Nat → Nat} : ∀ k, woS B 0 k = 0 := by
  intro k
  induction k with
  | zero => rfl
  | succ k ih => simp [woS, ih]
/-- of day d -/
def tdB (B : Nat → Nat) (d S : Nat) : Bool := !exU (fun w => S.testBit w && !decide (B (86 + 5 * w) = d)) (B 85)
theorem tdB_iff {B : Nat → Nat} {d S : Nat} : tdB B d S = true ↔ ∀ w, w < B 85 → S.testBit w = true → B (86 + 5 * w) = d := by
  unfold tdB
  rw [Bool.not_eq_true', Bool.eq_false_iff]
  constructor
  · intro h w h1 h2
    refine Classical.byContradiction (fun h3 => h ((exU_iff _).mpr ⟨w, h1, ?_⟩))
    simp [h2, h3]
  · intro h h2
    obtain ⟨w, h3, h4⟩ := (exU_iff _).mp h2
    simp only [Bool.and_eq_true, Bool.not_eq_true', decide_eq_false_iff_not] at h4
    exact h4.2 (h w h3 h4.1)
def feB (B : Nat → Nat) (d : Nat) (W : Wn) (S : Nat) : Bool := tdB B d S && FF W (B 85) S 0
def bsS (B : Nat → Nat) (d : Nat) (W : Wn) : Nat → Nat
  | 0 => 0
  | k + 1 => if feB B d W k = true ∧ woS B (bsS B d W k) (B 85) < woS B k (B 85) then k else bsS B d W k
theorem bsS_fe {B : Nat → Nat} {d : Nat} {W : Wn} : ∀ k, feB B d W (bsS B d W k) = true := by
  intro k
  have h0 : feB B d W 0 = true := by unfold feB; rw [FF_0, Bool.and_true, tdB_iff]; intro w _ h; simp at h
  induction k with
  | zero => exact h0
  | succ k ih =>
    simp only [bsS]
    split
    · next h => exact h.1
    · exact ih
theorem bsS_lt {B : Nat → Nat} {d : Nat} {W : Wn} : ∀ k, 0 < k → bsS B d W k < k := by
  intro k
  induction k with
  | zero => intro h; omega
  | succ k ih =>
    intro _
    simp only [bsS]
    split
    · omega
    · rcases Nat.eq_zero_or_pos k with e | e
      · subst e; simp [bsS]
      · have := ih e; omega
/-- the row -/
def gW (W : Wn) (n S t : Nat) : Nat := nxt (nxP W n S t) n 0
def gS (W : Wn) (n S t : Nat) : Nat := (eb W (gW W n S t) t).getD 0
def sqn (W : Wn) (n : Nat) : Nat → Nat → Nat → Nat × Nat
  | 0, S, t => (S, t)
  | i + 1, S, t => sqn W n i (clr S (gW W n S t)) (gS W n S t + W.2.2.2.2 (gW W n S t))
theorem gW_ok {W : Wn} {n S t : Nat} (h : FF W n S t = true) (hS : S ≠ 0) : gW W n S t < n ∧ S.testBit (gW W n S t) = true ∧ eb W (gW W n S t) t = some (gS W n S t) ∧ FF W n (clr S (gW W n S t)) (gS W n S t + W.2.2.2.2 (gW W n S t)) = true := by
  rw [FF_eq, Bool.or_eq_true, exU_iff] at h
  rcases h with h | ⟨w, h1, h2⟩
  · exact absurd (of_decide_eq_true h) hS
  · have h3 := nxt_sp (P := nxP W n S t) n 0 ⟨w, by omega, by omega, h2⟩
    have h4 := nxP_iff.mp h3.2.2
    obtain ⟨g1, s, g2, g3⟩ := h4
    have e : gS W n S t = s := by unfold gS gW; rw [g2]; rfl
    refine ⟨by unfold gW; omega, g1, ?_, ?_⟩
    · rw [e]; exact g2
    · rw [e]; exact g3
theorem sqn_S {W : Wn} {n : Nat} : ∀ i S t, sqn W n (i + 1) S t = (clr (sqn W n i S t).1 (gW W n (sqn W n i S t).1 (sqn W n i S t).2), gS W n (sqn W n i S t).1 (sqn W n i S t).2 + W.2.2.2.2 (gW W n (sqn W n i S t).1 (sqn W n i S t).2)) := by
  intro i
  induction i with
  | zero => intro S t; rfl
  | succ i ih => intro S t; exact ih _ _
theorem pcn_clr {S w : Nat} (h : S.testBit w = true) : ∀ n, pcn (clr S w) n + (if w < n then 1 else 0) = pcn S n := by
  intro n
  induction n with
  | zero => rfl
  | succ n ih =>
    simp only [pcn]
    rw [clr_tb]
    by_cases e : n = w
    · subst e; simp [h] at ih ⊢; omega
    · have e2 : (w < n + 1) ↔ w < n := by omega
      have e3 : decide (n ≠ w) = true := decide_eq_true e
      rw [e3, Bool.and_true]
      simp only [e2]
      omega
theorem pcn_pos {S n : Nat} (h : 0 < pcn S n) : S ≠ 0 := by
  intro e; subst e
  have : ∀ k, pcn 0 k = 0 := by
    intro k
    induction k with
    | zero => rfl
    | succ k ih => simp [pcn, ih]
  rw [this] at h; omega
theorem pcn_ne {S n : Nat} (hS : S < 2 ^ n) (h : pcn S n = 0) : S = 0 := by
  apply Nat.eq_of_testBit_eq
  intro i
  rw [Nat.zero_testBit]
  have key : ∀ k, pcn S k = 0 → ∀ j, j < k → S.testBit j = false := by
    intro k
    induction k with
    | zero => intro _ j hj; omega
    | succ k ih =>
      intro h j hj
      simp only [pcn] at h
      by_cases e : j = k
      · subst e; cases h9 : S.testBit j with
        | false => rfl
        | true => rw [h9] at h; simp at h
      · exact ih (by omega) j (by omega)
  rcases Nat.lt_or_ge i n with hi | hi
  · exact key n h i hi
  · exact Nat.testBit_lt_two_pow (Nat.lt_of_lt_of_le hS (Nat.pow_le_pow_right (by omega) hi))
/-- the reference's earliest ends, all sets -/
def dnR (B : Nat → Nat) (d : Nat) (W : Wn) (D : Nat → Nat) : Prop := D 0 = 0 ∧ (∀ S w, S < 2 ^ B 85 → w < B 85 → S.testBit w = false → B (86 + 5 * w) = d → D S < 100000000 → ∀ s, eb W w (D S) = some s → D (S ||| 2 ^ w) ≤ s + W.2.2.2.2 w) ∧ (∀ S, S < 2 ^ B 85 → D S < 100000000 → S = 0 ∨ ∃ w, w < B 85 ∧ S.testBit w = true ∧ B (86 + 5 * w) = d ∧ D (clr S w) < 100000000 ∧ ∃ s, eb W w (D (clr S w)) = some s ∧ D S = s + W.2.2.2.2 w)
theorem dn_td {B : Nat → Nat} {d : Nat} {W : Wn} {D : Nat → Nat} (h : dnR B d W D) : ∀ S, S < 2 ^ B 85 → D S < 100000000 → tdB B d S = true := by
  intro S
  induction S using Nat.strongRecOn with
  | ind S ih =>
    intro hS hD
    rw [tdB_iff]
    rcases h.2.2 S hS hD with e | ⟨w, h1, h2, h3, h4, -⟩
    · intro w _ h9; subst e; simp at h9
    · have h5 := tdB_iff.mp (ih _ (clr_ls h2) (Nat.lt_trans (clr_ls h2) hS) h4)
      intro v hv h6
      by_cases e : v = w
      · subst e; exact h3
      · exact h5 v hv (by rw [clr_tb, h6]; simp [e])
theorem dn_A {B : Nat → Nat} {d : Nat} {W : Wn} {D : Nat → Nat} (h : dnR B d W D) : ∀ S, S < 2 ^ B 85 → D S < 100000000 → ∀ R, (∀ i, ¬ (S.testBit i = true ∧ R.testBit i = true)) → FF W (B 85) R (D S) = true → FF W (B 85) (S ||| R) 0 = true := by
  intro S
  induction S using Nat.strongRecOn with
  | ind S ih =>
    intro hS hD R hd hF
    rcases h.2.2 S hS hD with e | ⟨w, h1, h2, h3, h4, s, h5, h6⟩
    · subst e; rw [h.1] at hF; rw [Nat.zero_or]; exact hF
    · have hRw : R.testBit w = false := by
        rw [Bool.eq_false_iff]; intro h9; exact hd w ⟨h2, h9⟩
      have h7 := ih _ (clr_ls h2) (Nat.lt_trans (clr_ls h2) hS) h4 (R ||| 2 ^ w) (fun i h9 => by
        rw [clr_tb, or_tb] at h9
        simp only [Bool.and_eq_true, Bool.or_eq_true, decide_eq_true_eq] at h9
        rcases h9.2 with h8 | h8
        · exact hd i ⟨h9.1.1, h8⟩
        · exact h9.1.2 h8.symm) (by
        rw [FF_iff]
        refine Or.inr ⟨w, h1, by rw [or_tb]; simp, s, h5, ?_⟩
        rw [clr_or hRw, ← h6]; exact hF)
      have e : clr S w ||| (R ||| 2 ^ w) = S ||| R := by
        rw [Nat.or_comm R, ← Nat.or_assoc, or_clr h2]
      rw [e] at h7; exact h7
theorem dn_B {B : Nat → Nat} {d : Nat} {W : Wn} {D : Nat → Nat} (hW : okWn W (B 85)) (h : dnR B d W D) : ∀ R, tdB B d R = true → R < 2 ^ B 85 → ∀ S, S < 2 ^ B 85 → (∀ i, ¬ (S.testBit i = true ∧ R.testBit i = true)) → D S < 100000000 → FF W (B 85) R (D S) = true → D (S ||| R) < 100000000 := by
  intro R
  induction R using Nat.strongRecOn with
  | ind R ih =>
    intro ht hR S hS hd hD hF
    rcases FF_iff.mp hF with e | ⟨w, h1, h2, s, h3, h4⟩
    · subst e; rw [Nat.or_zero]; exact hD
    · have hSw : S.testBit w = false := by
        rw [Bool.eq_false_iff]; intro h9; exact hd w ⟨h9, h2⟩
      have h5 := h.2.1 S w hS h1 hSw (tdB_iff.mp ht w h1 h2) hD s h3
      have h6 := eb_le hW h1 h3
      have h7 := (hW w h1)
      have hw2 : 2 ^ w < 2 ^ B 85 := Nat.pow_lt_pow_right (by omega) h1
      have h8 := ih _ (clr_ls h2) (by
        rw [tdB_iff]; intro v hv h9; rw [clr_tb, Bool.and_eq_true] at h9; exact tdB_iff.mp ht v hv h9.1) (Nat.lt_trans (clr_ls h2) hR) (S ||| 2 ^ w) (Nat.or_lt_two_pow hS hw2) (fun i h9 => by
        rw [clr_tb, or_tb] at h9
        simp only [Bool.and_eq_true, Bool.or_eq_true, decide_eq_true_eq] at h9
        rcases h9.1 with h8 | h8
        · exact hd i ⟨h8, h9.2.1⟩
        · exact h9.2.2 h8.symm) (by omega) (FF_mono hW _ _ _ h5 h4)
      have e : S ||| 2 ^ w ||| clr R w = S ||| R := by
        rw [Nat.or_assoc, Nat.or_comm (2 ^ w), or_clr h2]
      rw [e] at h8; exact h8
theorem dn_fe {B : Nat → Nat} {d S : Nat} {W : Wn} {D : Nat → Nat} (hW : okWn W (B 85)) (h : dnR B d W D) (hS : S < 2 ^ B 85) : D S < 100000000 ↔ feB B d W S = true := by
  unfold feB
  rw [Bool.and_eq_true]
  constructor
  · intro hD
    refine ⟨dn_td h S hS hD, ?_⟩
    have := dn_A h S hS hD 0 (fun i h => by simp at h) FF_0
    rwa [Nat.or_zero] at this
  · rintro ⟨h1, h2⟩
    have := dn_B hW h S h1 hS 0 (Nat.two_pow_pos _) (fun i h => by simp at h) (by rw [h.1]; omega) (by rw [h.1]; exact h2)
    rwa [Nat.zero_or] at this
