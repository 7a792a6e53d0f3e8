/-! a book as flat numbers, and what is true of every book that was read -/
def nB (B : Nat → Nat) (t : Nat) : Nat := B (1 + 25 * t)
def WBt (B : Nat → Nat) : Prop := B 0 ≤ 3 ∧ ∀ t, t < 3 → nB B t ≤ 12 ∧ (∀ k, k < nB B t → B (1 + 25 * t + 1 + 2 * k) ≤ 3649 ∧ 1 ≤ B (1 + 25 * t + 2 + 2 * k) ∧ B (1 + 25 * t + 2 + 2 * k) ≤ 24) ∧ (∀ k, k + 1 < nB B t → B (1 + 25 * t + 1 + 2 * k) < B (1 + 25 * t + 1 + 2 * (k + 1)))
def WBw (B : Nat → Nat) : Prop := (∀ a b, a < 3 → b < 3 → B (76 + 3 * a + b) ≤ 9999 ∧ B (76 + 3 * a + b) = B (76 + 3 * b + a) ∧ (a = b ∨ B 0 ≤ a ∨ B 0 ≤ b → B (76 + 3 * a + b) = 0))
def WBk (B : Nat → Nat) : Prop := B 85 ≤ 8 ∧ ∀ w, w < B 85 → B (86 + 5 * w) ≤ 3649 ∧ B (86 + 5 * w + 1) < B (86 + 5 * w + 2) ∧ B (86 + 5 * w + 2) ≤ 1440 ∧ 1 ≤ B (86 + 5 * w + 3) ∧ B (86 + 5 * w + 3) ≤ 1440 ∧ B (86 + 5 * w + 4) ≤ 999
def WBp (B : Nat → Nat) : Prop := B 126 ≤ 9 ∧ ∀ p s, p < 9 → s ≤ 24 → B (127 + 25 * p + s) ≤ 99
def WBa (B : Nat → Nat) : Prop := B 352 ≤ 12 ∧ ∀ p, p < B 352 → B (353 + 4 * p) < B 0 ∧ B (353 + 4 * p + 1) ≤ 3649 ∧ B (353 + 4 * p + 2) ≤ 1439 ∧ B (353 + 4 * p + 3) ≤ 2
def WBr (B : Nat → Nat) : Prop := B 401 ≤ 16 ∧ ∀ k, k < B 401 → B (402 + 4 * k) ≤ 1 ∧ B (402 + 4 * k + 1) < B 352 ∧ B (402 + 4 * k + 2) < B 352 ∧ B (402 + 4 * k + 1) ≠ B (402 + 4 * k + 2) ∧ B (402 + 4 * k + 3) ≤ 9999
def WB (B : Nat → Nat) : Prop := WBt B ∧ WBw B ∧ WBk B ∧ WBp B ∧ WBa B ∧ WBr B
/-- how many ways are told -/
def wayN (B : Nat → Nat) : Nat := (if 0 < B (76 + 3 * 1 + 0) then 1 else 0) + (if 0 < B (76 + 3 * 2 + 0) then 1 else 0) + (if 0 < B (76 + 3 * 2 + 1) then 1 else 0)
/-- the class's book b holds the flat book B -/
def Rb (μ : Mem) (b : Nat) (B : Nat → Nat) : Prop := isBk μ b ∧ gI μ b 9 = nI (B 0) ∧ (∀ t, t < 3 → clk μ (b + 10 + 2 * t) (mS B t) (nB B t)) ∧ (∀ i, i < 9 → gI μ (b + 2) i = nI (B (76 + i))) ∧ gI μ b 10 = nI (wayN B) ∧ gI μ b 11 = nI (B 85) ∧ (∀ i, i < 5 * B 85 → gI μ (b + 3) i = nI (B (86 + i))) ∧ gI μ b 12 = nI (B 126) ∧ (∀ q s, q < 9 → 1 ≤ s → s ≤ 24 → gI μ (b + 4) (24 * q + s - 1) = nI (B (127 + 25 * q + s))) ∧ gI μ b 13 = nI (B 352) ∧ (∀ i, i < 4 * B 352 → gI μ (b + 5) i = nI (B (353 + i))) ∧ gI μ b 14 = nI (B 401) ∧ (∀ i, i < 4 * B 401 → gI μ (b + 6) i = nI (B (402 + i)))
theorem mTh_none {B : Nat → Nat} {t k : Nat} : mTh B none t k = true := by simp [mTh]
/-- sorted rows with gaps -/
def gap (f : Nat → Nat) (n : Nat) : Prop := ∀ k, k + 1 < n → f k + 60 ≤ f (k + 1)
theorem gap_le {f : Nat → Nat} {n : Nat} (h : gap f n) : ∀ (d i : Nat), i + d < n → f i + 60 * d ≤ f (i + d) := by
  intro d
  induction d with
  | zero => intro i _; simp
  | succ d ih =>
    intro i hi
    have h1 := ih i (by omega)
    have h2 := h (i + d) (by omega)
    rw [show i + (d + 1) = i + d + 1 by omega]
    omega
theorem gap_lt {f : Nat → Nat} {n i j : Nat} (h : gap f n) (hij : i < j) (hj : j < n) : f i + 60 * (j - i) ≤ f j := by
  have := gap_le h (j - i) i (by omega)
  rwa [show i + (j - i) = j by omega] at this
theorem mS_gap {B : Nat → Nat} {t : Nat} (h : WBt B) (ht : t < 3) : gap (mS B t) (nB B t) := by
  intro k hk
  obtain ⟨-, h1, h2⟩ := h.2 t ht
  have a := h1 k (by omega)
  have b := h1 (k + 1) hk
  have c := h2 k hk
  unfold mS
  omega
theorem mS_rng {B : Nat → Nat} {t k : Nat} (h : WBt B) (ht : t < 3) (hk : k < nB B t) : 60 ≤ mS B t k ∧ mS B t k ≤ 5256000 := by
  have a := (h.2 t ht).2.1 k hk
  unfold mS
  omega
/-- what upTo is -/
theorem upTo_spec {f : Nat → Nat} {c : Nat} : ∀ k s, (∀ j, s ≤ j → j < upTo f c k s → f j ≤ c) ∧ (upTo f c k s < s + k → c < f (upTo f c k s)) ∧ s ≤ upTo f c k s := by
  intro k
  induction k with
  | zero => intro s; simp only [upTo]; exact ⟨fun j _ _ => by omega, fun h => by omega, Nat.le_refl s⟩
  | succ k ih =>
    intro s
    simp only [upTo]
    by_cases h : f s ≤ c
    · simp only [h, if_true]
      obtain ⟨a, b, d⟩ := ih (s + 1)
      refine ⟨fun j h1 h2 => ?_, fun h1 => b (by omega), by omega⟩
      by_cases hj : j = s
      · rw [hj]; exact h
      · exact a j (by omega) h2
    · simp only [h, if_false]
      exact ⟨fun j _ _ => by omega, fun _ => by omega, Nat.le_refl s⟩
theorem bks_spec {f : Nat → Nat} {c : Nat} : ∀ k s, (∀ j, s ≤ j → j < bks f c k s → f j + 60 * j ≤ c) ∧ (bks f c k s < s + k → c < f (bks f c k s) + 60 * bks f c k s) ∧ s ≤ bks f c k s := by
  intro k
  induction k with
  | zero => intro s; simp only [bks]; exact ⟨fun j _ _ => by omega, fun h => by omega, Nat.le_refl s⟩
  | succ k ih =>
    intro s
    simp only [bks]
    by_cases h : f s + 60 * s ≤ c
    · simp only [h, if_true]
      obtain ⟨a, b, d⟩ := ih (s + 1)
      refine ⟨fun j h1 h2 => ?_, fun h1 => b (by omega), by omega⟩
      by_cases hj : j = s
      · rw [hj]; exact h
      · exact a j (by omega) h2
    · simp only [h, if_false]
      exact ⟨fun j _ _ => by omega, fun _ => by omega, Nat.le_refl s⟩
theorem mFi_char {B : Nat → Nat} {t c n s : Nat} (hs : s ≤ n) (h1 : ∀ j, j < s → mS B t j ≤ c) (h2 : ∀ j, s ≤ j → j < n → c < mS B t j) : ∀ k, k ≤ n → mFi B none t c k = if k ≤ s then k else s := by
  intro k
  induction k with
  | zero => intro _; simp [mFi]
  | succ k ih =>
    intro hk
    simp only [mFi, mTh_none, true_and]
    rw [ih (by omega)]
    by_cases hks : k < s
    · have := h1 k hks
      rw [if_pos (by omega), if_pos this, if_pos (by omega)]
    · have := h2 k (by omega) (by omega)
      rw [if_neg (by omega : ¬ mS B t k ≤ c), if_neg (by omega : ¬ k + 1 ≤ s)]
      split <;> omega
theorem upTo_mFi {B : Nat → Nat} {t c : Nat} (h : WBt B) (ht : t < 3) : upTo (mS B t) c (nB B t) 0 = mFi B none t c (nB B t) := by
  obtain ⟨a, b, -⟩ := upTo_spec (f := mS B t) (c := c) (nB B t) 0
  have hle := upTo_le (f := mS B t) (t := c) (nB B t) 0
  generalize upTo (mS B t) c (nB B t) 0 = u at *
  rw [mFi_char (s := u) (by omega) (fun j hj => a j (Nat.zero_le _) hj) (fun j h1 h2 => ?_) (nB B t) (Nat.le_refl _)]
  · split <;> omega
  · have := b (by omega)
    by_cases hju : j = u
    · rw [hju]; exact this
    · have := gap_lt (mS_gap h ht) (show u < j by omega) h2
      omega
theorem mBk_char {B : Nat → Nat} {t c n s : Nat} (hg : gap (mS B t) n) (hs : s ≤ n) (h1 : ∀ j, j < s → mS B t j + 60 * j ≤ c) (h2 : s < n → c < mS B t s + 60 * s) : ∀ k, k ≤ n → mBk B none t c k = if k ≤ s then k else s := by
  intro k
  induction k with
  | zero => intro _; simp [mBk]
  | succ k ih =>
    intro hk
    simp only [mBk, mTh_none, true_and]
    rw [ih (by omega)]
    by_cases hks : k < s
    · have := h1 k hks
      rw [if_pos (by omega : k ≤ s), if_pos this, if_pos (by omega)]
    · have := h2 (by omega)
      have hk2 : mS B t s ≤ mS B t k := by
        by_cases hks2 : k = s
        · rw [hks2]; exact Nat.le_refl _
        · have := gap_lt hg (show s < k by omega) (by omega)
          omega
      rw [if_neg (by omega : ¬ k + 1 ≤ s)]
      by_cases hks2 : k ≤ s
      · rw [if_pos hks2, if_neg (by have : k = s := by omega
                                    subst this; omega)]
        omega
      · rw [if_neg hks2, if_neg (by omega)]
        rfl
theorem bks_mBk {B : Nat → Nat} {t c : Nat} (h : WBt B) (ht : t < 3) : bks (mS B t) c (nB B t) 0 = mBk B none t c (nB B t) := by
  obtain ⟨a, b, -⟩ := bks_spec (f := mS B t) (c := c) (nB B t) 0
  have hle := bks_le (f := mS B t) (t := c) (nB B t) 0
  generalize bks (mS B t) c (nB B t) 0 = u at *
  rw [mBk_char (s := u) (mS_gap h ht) (by omega) (fun j hj => a j (Nat.zero_le _) hj) (fun h1 => b (by omega)) (nB B t) (Nat.le_refl _)]
  split <;> omega
theorem mTw_iff {B : Nat → Nat} {t c : Nat} : ∀ n, mTw B none t c n = true ↔ ∃ k, k < n ∧ c < mS B t k ∧ mS B t k ≤ c + 60 := by
  intro n
  induction n with
  | zero => simp [mTw]
  | succ n ih =>
    simp only [mTw, Bool.or_eq_true, ih, mTh_none, Bool.true_and, Bool.and_eq_true, decide_eq_true_eq]
    constructor
    · rintro (⟨k, h1, h2⟩ | h)
      · exact ⟨k, by omega, h2⟩
      · exact ⟨n, by omega, h⟩
    · rintro ⟨k, h1, h2⟩
      by_cases hk : k = n
      · subst hk; exact Or.inr h2
      · exact Or.inl ⟨k, by omega, h2⟩
/-- behind an hour at most one more stroke -/
theorem upTo_60 {B : Nat → Nat} {t c : Nat} (h : WBt B) (ht : t < 3) : upTo (mS B t) (c + 60) (nB B t) 0 = upTo (mS B t) c (nB B t) 0 + if mTw B none t c (nB B t) = true then 1 else 0 := by
  obtain ⟨a, b, -⟩ := upTo_spec (f := mS B t) (c := c) (nB B t) 0
  obtain ⟨a2, b2, -⟩ := upTo_spec (f := mS B t) (c := c + 60) (nB B t) 0
  have hle := upTo_le (f := mS B t) (t := c) (nB B t) 0
  have hle2 := upTo_le (f := mS B t) (t := c + 60) (nB B t) 0
  generalize upTo (mS B t) c (nB B t) 0 = u at *
  generalize upTo (mS B t) (c + 60) (nB B t) 0 = v at *
  have hg := mS_gap h ht
  have huv : u ≤ v := by
    rcases Nat.lt_or_ge v u with hh | hh
    · have := a v (Nat.zero_le _) hh
      have := b2 (by omega)
      omega
    · exact hh
  by_cases htw : mTw B none t c (nB B t) = true
  · rw [if_pos htw]
    obtain ⟨k, k1, k2, k3⟩ := (mTw_iff _).mp htw
    have hku : u ≤ k := by
      rcases Nat.lt_or_ge k u with hh | hh
      · have := a k (Nat.zero_le _) hh; omega
      · exact hh
    have hkv : k < v := by
      rcases Nat.lt_or_ge k v with hh | hh
      · exact hh
      · have h9 := b2 (by omega)
        by_cases hkv : k = v
        · subst hkv; omega
        · have := gap_lt hg (show v < k by omega) k1
          omega
    have hlast := a2 (v - 1) (Nat.zero_le _) (by omega)
    have hfirst := b (by omega)
    rcases Nat.lt_or_ge (u + 1) v with hh | hh
    · have := gap_lt hg (show u < v - 1 by omega) (by omega)
      omega
    · omega
  · rw [if_neg htw]
    rcases Nat.lt_or_ge u v with hh | hh
    · exfalso
      exact htw ((mTw_iff _).mpr ⟨u, by omega, b (by omega), a2 u (Nat.zero_le _) hh⟩)
    · omega
