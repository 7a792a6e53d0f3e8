/-! worlds: of picks that can go together -/
def ptw (B : Nat → Nat) (p : Nat) : Nat := B (353 + 4 * p)
def ptm (B : Nat → Nat) (p : Nat) : Nat := B (353 + 4 * p + 1) * 1440 + B (353 + 4 * p + 2)
def pwh (B : Nat → Nat) (p : Nat) : Nat := B (353 + 4 * p + 3)
/-- the moments of the picks, and may they be -/
def mcB (B : Nat → Nat) (i : Nat) : Nat := if i % 2 = 0 then fst B (ptw B (i / 2)) (ptm B (i / 2)) else lst B (ptw B (i / 2)) (ptm B (i / 2))
def myB (B : Nat → Nat) (i : Nat) : Bool := if i % 2 = 0 then decide (pwh B (i / 2) ≠ 2) else decide (pwh B (i / 2) ≠ 1) && tw B (ptw B (i / 2)) (ptm B (i / 2))
def rlB (B : Nat → Nat) (k x y : Nat) : Bool := if B (402 + 4 * k) = 1 then decide (x ≤ y + B (402 + 4 * k + 3) ∧ y ≤ x + B (402 + 4 * k + 3)) else decide (y + B (402 + 4 * k + 3) ≤ x)
def bad1 (B : Nat → Nat) (k i j : Nat) : Bool := decide (B (402 + 4 * k + 1) = i / 2) && decide (B (402 + 4 * k + 2) = j / 2) && !rlB B k (mcB B i) (mcB B j)
def claB (B : Nat → Nat) : Nat → Nat → Nat → Bool
  | 0, i, j => decide (i = j) && !myB B i
  | k + 1, i, j => claB B k i j || (bad1 B k i j || bad1 B k j i)
def clB (B : Nat → Nat) : Nat → Nat → Bool := claB B (B 401)
/-- of numbers as picks: the first i bits, u -/
def bdr (cl : Nat → Nat → Bool) (mem : Nat → Nat) (u i : Nat) : Nat → Bool
  | 0 => false
  | j + 1 => bdr cl mem u i j || cl (2 * mem j + u / 2 ^ (i - j) % 2) (2 * mem i + u % 2)
def bdu (cl : Nat → Nat → Bool) (mem : Nat → Nat) (u i : Nat) : Bool := bdr cl mem u i (i + 1)
def gdP (cl : Nat → Nat → Bool) (mem : Nat → Nat) : Nat → Nat → Bool
  | 0, _ => true
  | i + 1, u => gdP cl mem i (u / 2) && !bdu cl mem u i
theorem gdP_pre {cl : Nat → Nat → Bool} {mem : Nat → Nat} : ∀ d i w, gdP cl mem (i + d) w = true → gdP cl mem i (w / 2 ^ d) = true := by
  intro d
  induction d with
  | zero => intro i w h; simpa using h
  | succ d ih =>
    intro i w h
    rw [show i + (d + 1) = (i + d) + 1 by omega] at h
    simp only [gdP, Bool.and_eq_true] at h
    have := ih i (w / 2) h.1
    rw [Nat.div_div_eq_div_mul, ← Nat.pow_succ'] at this
    exact this
theorem bdu_no {cl : Nat → Nat → Bool} {mem : Nat → Nat} {n g w : Nat} (hg : g < n) (h : bdu cl mem (w / 2 ^ (n - 1 - g)) g = true) : gdP cl mem n w = false := by
  rw [Bool.eq_false_iff]
  intro h2
  have h3 := gdP_pre (cl := cl) (mem := mem) (n - 1 - g) (g + 1) w (by rw [show g + 1 + (n - 1 - g) = n by omega]; exact h2)
  simp only [gdP, Bool.and_eq_true] at h3
  rw [h] at h3
  simp at h3
theorem or_mask {w s : Nat} : w ||| (2 ^ s - 1) = 2 ^ s * (w / 2 ^ s) + (2 ^ s - 1) := by
  apply Nat.eq_of_testBit_eq
  intro i
  rw [Nat.testBit_or, Nat.testBit_two_pow_sub_one, Nat.testBit_two_pow_mul_add _ (by have := Nat.two_pow_pos s; omega), Nat.testBit_two_pow_sub_one, Nat.testBit_div_two_pow]
  by_cases h : i < s
  · simp [h]
  · simp only [h, decide_false, Bool.or_false, if_false]
    congr 1; omega
theorem skip {α : Type} {F : Nat → α} {lo : Nat} : ∀ d, (∀ w, lo ≤ w → w < lo + d → F (w + 1) = F w) → F (lo + d) = F lo := by
  intro d
  induction d with
  | zero => intro _; rfl
  | succ d ih =>
    intro h
    rw [show lo + (d + 1) = lo + d + 1 by omega, h (lo + d) (by omega) (by omega)]
    exact ih (fun w h1 h2 => h w h1 (by omega))
theorem skip2 {α : Type} {F : Nat → α} {lo hi : Nat} (hl : lo ≤ hi) (h : ∀ w, lo ≤ w → w < hi → F (w + 1) = F w) : F hi = F lo := by
  have := skip (F := F) (lo := lo) (hi - lo) (fun w h1 h2 => h w h1 (by omega))
  rwa [show lo + (hi - lo) = hi by omega] at this
/-- how many there are below v -/
def cvV (V : Nat → Bool) : Nat → Nat
  | 0 => 0
  | v + 1 => cvV V v + if V v = true then 1 else 0
theorem cvV_no {V : Nat → Bool} {v : Nat} (h : V v = false) : cvV V (v + 1) = cvV V v := by simp [cvV, h]
theorem cvV_mono {V : Nat → Bool} {a : Nat} : ∀ b, a ≤ b → cvV V a ≤ cvV V b := by
  intro b
  induction b with
  | zero => intro h; rw [show a = 0 by omega]; exact Nat.le_refl _
  | succ b ih =>
    intro h
    by_cases e : a = b + 1
    · rw [e]; exact Nat.le_refl _
    · have := ih (by omega)
      simp only [cvV]; omega
theorem cvV_lt {V : Nat → Bool} {a b : Nat} (h : V a = true) (hab : a < b) : cvV V a < cvV V b := by
  have h1 : cvV V (a + 1) = cvV V a + 1 := by simp [cvV, h]
  have h2 := cvV_mono (V := V) (a := a + 1) b (by omega)
  omega
theorem cvV_le {V : Nat → Bool} : ∀ v, cvV V v ≤ v := by
  intro v
  induction v with
  | zero => simp [cvV]
  | succ v ih => simp only [cvV]; split <;> omega
/-- the one with n before it -/
def nwV (V : Nat → Bool) (n : Nat) : Nat → Nat
  | 0 => 0
  | v + 1 => if V v = true ∧ cvV V v = n then v else nwV V n v
theorem nwV_eq {V : Nat → Bool} {n x : Nat} (hx : V x = true) (hn : cvV V x = n) : ∀ v, x < v → nwV V n v = x := by
  intro v
  induction v with
  | zero => intro h; omega
  | succ v ih =>
    intro h
    simp only [nwV]
    by_cases e : x = v
    · rw [← e, if_pos ⟨hx, hn⟩]
    · have := cvV_lt hx (show x < v by omega)
      rw [if_neg (fun h9 => by omega)]
      exact ih (by omega)
theorem nwV_ex {V : Nat → Bool} {n : Nat} : ∀ v, n < cvV V v → ∃ x, x < v ∧ V x = true ∧ cvV V x = n := by
  intro v
  induction v with
  | zero => intro h; simp [cvV] at h
  | succ v ih =>
    intro h
    by_cases h2 : n < cvV V v
    · obtain ⟨x, h3, h4⟩ := ih h2
      exact ⟨x, by omega, h4⟩
    · simp only [cvV] at h
      by_cases hv : V v = true
      · rw [if_pos hv] at h; exact ⟨v, by omega, hv, by omega⟩
      · rw [if_neg hv] at h; omega
def pkb (n w p : Nat) : Nat := w / 2 ^ (n - 1 - p) % 2
theorem pkb_lt {n w p : Nat} : pkb n w p < 2 := Nat.mod_lt _ (by omega)
def hcV (V : Nat → Bool) (n c p : Nat) : Nat → Bool
  | 0 => false
  | v + 1 => hcV V n c p v || (V v && decide (pkb n v p = c))
def mtV (V : Nat → Bool) (n i j : Nat) : Nat → Bool
  | 0 => false
  | v + 1 => mtV V n i j v || (V v && (decide (pkb n v (i / 2) = i % 2) && decide (pkb n v (j / 2) = j % 2)))
def rel2 (x y : Nat) : Nat := if x < y then 1 else if x = y then 2 else 4
def lsV (V : Nat → Bool) (n : Nat) (mo : Nat → Nat → Nat) (p : Nat) : Nat → Nat
  | 0 => 0
  | v + 1 => if V v = true then (if cvV V v = 0 ∨ mo p (pkb n v p) < lsV V n mo p v then mo p (pkb n v p) else lsV V n mo p v) else lsV V n mo p v
def msV (V : Nat → Bool) (n : Nat) (mo : Nat → Nat → Nat) (p : Nat) : Nat → Nat
  | 0 => 0
  | v + 1 => if V v = true then (if cvV V v = 0 ∨ msV V n mo p v < mo p (pkb n v p) then mo p (pkb n v p) else msV V n mo p v) else msV V n mo p v
def odV (V : Nat → Bool) (n : Nat) (mo : Nat → Nat → Nat) (a b : Nat) : Nat → Nat
  | 0 => 0
  | v + 1 => if V v = true then odV V n mo a b v ||| rel2 (mo a (pkb n v a)) (mo b (pkb n v b)) else odV V n mo a b v
theorem odV_0 {V : Nat → Bool} {n : Nat} {mo : Nat → Nat → Nat} {a b : Nat} : ∀ v, cvV V v = 0 → odV V n mo a b v = 0 := by
  intro v
  induction v with
  | zero => intro _; rfl
  | succ v ih =>
    intro h
    simp only [cvV] at h
    by_cases hv : V v = true
    · rw [if_pos hv] at h; omega
    · simp only [odV]; rw [if_neg hv]; exact ih (by rw [if_neg hv] at h; exact h)
theorem hc_some {V : Nat → Bool} {n p : Nat} : ∀ v, (0 < cvV V v ↔ hcV V n 0 p v = true ∨ hcV V n 1 p v = true) := by
  intro v
  induction v with
  | zero => simp [cvV, hcV]
  | succ v ih =>
    have hb := pkb_lt (n := n) (w := v) (p := p)
    have hb2 : pkb n v p = 0 ∨ pkb n v p = 1 := by omega
    simp only [cvV, hcV]
    by_cases hv : V v = true
    · rcases hb2 with h | h <;> simp [hv, h]
    · simp only [hv, if_false, Bool.false_and, Bool.or_false]
      simp only [Bool.not_eq_true] at hv
      simp [hv, ih]
theorem ls_hc {V : Nat → Bool} {n p : Nat} {mo : Nat → Nat → Nat} (h01 : mo p 0 < mo p 1) : ∀ v, 0 < cvV V v → lsV V n mo p v = mo p (if hcV V n 0 p v = true then 0 else 1) ∧ msV V n mo p v = mo p (if hcV V n 1 p v = true then 1 else 0) := by
  intro v
  induction v with
  | zero => intro h; simp [cvV] at h
  | succ v ih =>
    intro h
    have hb := pkb_lt (n := n) (w := v) (p := p)
    have hb2 : pkb n v p = 0 ∨ pkb n v p = 1 := by omega
    have hs := hc_some (V := V) (n := n) (p := p) v
    by_cases hv : V v = true
    · simp only [lsV, msV, hcV, hv, if_true, Bool.true_and]
      by_cases h0 : cvV V v = 0
      · have e0 : hcV V n 0 p v = false := by rw [Bool.eq_false_iff]; intro h9; have := hs.mpr (Or.inl h9); omega
        have e1 : hcV V n 1 p v = false := by rw [Bool.eq_false_iff]; intro h9; have := hs.mpr (Or.inr h9); omega
        rcases hb2 with h | h <;> simp [h0, h, e0, e1]
      · obtain ⟨i1, i2⟩ := ih (by omega)
        rw [i1, i2]
        have h5 := hs.mp (by omega)
        rcases hb2 with h | h <;> rw [h] <;> cases e0 : hcV V n 0 p v <;> cases e1 : hcV V n 1 p v <;> simp [h0, e0, e1] at h5 ⊢ <;> omega
    · simp only [Bool.not_eq_true] at hv
      have h2 : 0 < cvV V v := by simpa [cvV, hv] using h
      simpa [lsV, msV, hcV, hv] using ih h2
