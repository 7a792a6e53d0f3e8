/-! the tokens of a text -/
def isLt (c : Nat) : Bool := decide (97 ≤ c) && decide (c ≤ 122)
def isDg (c : Nat) : Bool := decide (48 ≤ c) && decide (c ≤ 57)
def isBl (c : Nat) : Bool := decide (c = 32) || decide (c = 10)
/-- the end of a run from i on -/
def runF (P : Nat → Bool) : Nat → Nat → Nat
  | 0, i => i
  | f + 1, i => if P i = true then runF P f (i + 1) else i
def rnS (s : Tp) (P : Nat → Bool) (i : Nat) : Nat := runF (fun j => P (s.1 j)) (s.2 - i) i
theorem rnS_y {s : Tp} {P : Nat → Bool} {i : Nat} (hi : i < s.2) (h : P (s.1 i) = true) : rnS s P i = rnS s P (i + 1) := by
  unfold rnS
  rw [show s.2 - i = (s.2 - (i + 1)) + 1 by omega]
  simp only [runF]
  rw [if_pos h]
theorem rnS_n {s : Tp} {P : Nat → Bool} {i : Nat} (h : i < s.2 → P (s.1 i) = false) : rnS s P i = i := by
  unfold rnS
  by_cases c : i < s.2
  · rw [show s.2 - i = (s.2 - (i + 1)) + 1 by omega]
    simp only [runF]
    rw [if_neg (by rw [h c]; decide)]
  · rw [show s.2 - i = 0 by omega]; rfl
theorem runF_sp {P : Nat → Bool} : ∀ f i, i ≤ runF P f i ∧ runF P f i ≤ i + f ∧ (∀ j, i ≤ j → j < runF P f i → P j = true) ∧ (runF P f i < i + f → P (runF P f i) = false) := by
  intro f
  induction f with
  | zero => intro i; exact ⟨Nat.le_refl _, Nat.le_refl _, fun j h1 h2 => absurd h2 (by show ¬ j < i; omega), fun h => absurd h (by show ¬ i < i + 0; omega)⟩
  | succ f ih =>
    intro i
    simp only [runF]
    by_cases h : P i = true
    · rw [if_pos h]
      obtain ⟨a, b, c, d⟩ := ih (i + 1)
      refine ⟨by omega, by omega, fun j h1 h2 => ?_, fun h2 => d (by omega)⟩
      by_cases e : j = i
      · rw [e]; exact h
      · exact c j (by omega) h2
    · rw [if_neg h]
      exact ⟨Nat.le_refl _, by omega, fun j h1 h2 => by omega, fun _ => by simpa using h⟩
theorem rnS_sp {s : Tp} {P : Nat → Bool} {i : Nat} (hi : i ≤ s.2) : i ≤ rnS s P i ∧ rnS s P i ≤ s.2 ∧ (∀ j, i ≤ j → j < rnS s P i → P (s.1 j) = true) ∧ (rnS s P i < s.2 → P (s.1 (rnS s P i)) = false) := by
  obtain ⟨a, b, c, d⟩ := runF_sp (P := fun j => P (s.1 j)) (s.2 - i) i
  exact ⟨a, by unfold rnS; omega, c, fun h => d (by unfold rnS at h; omega)⟩
def wcd (s : Tp) (i : Nat) : Nat → Nat
  | 0 => 0
  | k + 1 => wcd s i k * 32 + (s.1 (i + k) - 96)
def nvl (s : Tp) (i : Nat) : Nat → Nat
  | 0 => 0
  | k + 1 => nvl s i k * 10 + s.1 (i + k) - 48
def kwL : List Nat := [671470, 66667, 52, 23609, 769611, 4153, 215533, 655, 409031, 24627848, 542723566, 278194, 16826546, 302, 6605428, 642891204, 1265842, 781852974]
def kw (k : Nat) : Nat := kwL.getD k 0
def kwf (w : Nat) : Nat → Nat → Nat
  | 0, _ => 4
  | f + 1, k => if kw k = w then 5 + k else kwf w f (k + 1)
def kwd (w : Nat) : Nat := kwf w 18 0
theorem kwf_y {w k : Nat} (hk : k < 18) (h : kw k = w) : kwf w (18 - k) k = 5 + k := by
  rw [show 18 - k = (18 - (k + 1)) + 1 by omega]; simp only [kwf]; rw [if_pos h]
theorem kwf_n {w k : Nat} (hk : k < 18) (h : kw k ≠ w) : kwf w (18 - k) k = kwf w (18 - (k + 1)) (k + 1) := by
  rw [show 18 - k = (18 - (k + 1)) + 1 by omega]; simp only [kwf]; rw [if_neg h]
/-- a token from position i on: where it stands, what it is, where the next may begin -/
def tkP (s : Tp) (i : Nat) : Nat := rnS s isBl i
def tkE (s : Tp) (q : Nat) : Nat := if s.2 ≤ q then q else if isLt (s.1 q) = true then rnS s isLt q else if isDg (s.1 q) = true then rnS s isDg q else q + 1
def tkD (s : Tp) (q : Nat) : Nat := if s.2 ≤ q then 0 else if isLt (s.1 q) = true then (if rnS s isLt q - q > 8 then 1 else kwd (wcd s q (rnS s isLt q - q))) else if isDg (s.1 q) = true then (if rnS s isDg q - q > 4 then 1 else 3) else if s.1 q = 59 then 2 else 1
def ps (s : Tp) : Nat → Nat
  | 0 => 0
  | n + 1 => tkE s (tkP s (ps s n))
def pl (s : Tp) (n : Nat) : Nat := tkP s (ps s n)
def kd (s : Tp) (n : Nat) : Nat := tkD s (pl s n)
def vl (s : Tp) (n : Nat) : Nat := nvl s (pl s n) (rnS s isDg (pl s n) - pl s n)
def wd (s : Tp) (n : Nat) : Nat := wcd s (pl s n) (rnS s isLt (pl s n) - pl s n)
theorem ps_S {s : Tp} {n : Nat} : ps s (n + 1) = tkE s (pl s n) := rfl
theorem tkP_le {s : Tp} {i : Nat} (hi : i ≤ s.2) : i ≤ tkP s i ∧ tkP s i ≤ s.2 := ⟨(rnS_sp hi).1, (rnS_sp hi).2.1⟩
theorem tkE_le {s : Tp} {q : Nat} (hq : q ≤ s.2) : q ≤ tkE s q ∧ tkE s q ≤ s.2 := by
  unfold tkE
  by_cases c : s.2 ≤ q
  · rw [if_pos c]; omega
  · rw [if_neg c]
    by_cases c2 : isLt (s.1 q) = true
    · rw [if_pos c2]; exact ⟨(rnS_sp hq).1, (rnS_sp hq).2.1⟩
    · rw [if_neg c2]
      by_cases c3 : isDg (s.1 q) = true
      · rw [if_pos c3]; exact ⟨(rnS_sp hq).1, (rnS_sp hq).2.1⟩
      · rw [if_neg c3]; omega
theorem tkE_lt {s : Tp} {q : Nat} (hq : q < s.2) : q < tkE s q := by
  unfold tkE
  rw [if_neg (by omega)]
  by_cases c2 : isLt (s.1 q) = true
  · rw [if_pos c2, rnS_y hq c2]; have := (rnS_sp (P := isLt) (show q + 1 ≤ s.2 by omega)).1; omega
  · rw [if_neg c2]
    by_cases c3 : isDg (s.1 q) = true
    · rw [if_pos c3, rnS_y hq c3]; have := (rnS_sp (P := isDg) (show q + 1 ≤ s.2 by omega)).1; omega
    · rw [if_neg c3]; omega
theorem ps_le {s : Tp} : ∀ n, ps s n ≤ s.2 := by
  intro n
  induction n with
  | zero => exact Nat.zero_le _
  | succ n ih => exact (tkE_le (tkP_le ih).2).2
theorem pl_le {s : Tp} (n : Nat) : ps s n ≤ pl s n ∧ pl s n ≤ s.2 := tkP_le (ps_le n)
theorem kwf_ge {w : Nat} : ∀ f k, 4 ≤ kwf w f k ∧ kwf w f k ≤ 4 + f + k := by
  intro f
  induction f with
  | zero => intro k; simp only [kwf]; omega
  | succ f ih =>
    intro k
    simp only [kwf]
    split
    · omega
    · have := ih (k + 1); omega
theorem kd_le {s : Tp} {n : Nat} : kd s n ≤ 22 := by
  unfold kd tkD
  have h := (kwf_ge (w := wcd s (pl s n) (rnS s isLt (pl s n) - pl s n)) 18 0).2
  unfold kwd
  split
  · omega
  · split
    · split <;> omega
    · split
      · split <;> omega
      · split <;> omega
theorem kd0 {s : Tp} {n : Nat} : kd s n = 0 ↔ pl s n = s.2 := by
  have hl := (pl_le (s := s) n).2
  unfold kd tkD
  have h := (kwf_ge (w := wcd s (pl s n) (rnS s isLt (pl s n) - pl s n)) 18 0).1
  unfold kwd
  by_cases c : s.2 ≤ pl s n
  · rw [if_pos c]; exact ⟨fun _ => by omega, fun _ => rfl⟩
  · rw [if_neg c]
    refine ⟨fun h9 => ?_, fun h9 => by omega⟩
    split at h9
    · split at h9 <;> omega
    · split at h9
      · split at h9 <;> omega
      · split at h9 <;> omega
/-- a token that is not the end takes a sign at least -/
theorem ps_lt {s : Tp} {n : Nat} (h : kd s n ≠ 0) : ps s n < ps s (n + 1) ∧ pl s n < s.2 ∧ pl s n < pl s (n + 1) := by
  have h1 := pl_le (s := s) n
  have h2 : pl s n < s.2 := by
    rcases Nat.lt_or_ge (pl s n) s.2 with h9 | h9
    · exact h9
    · exact absurd (kd0.mpr (by omega)) h
  have h3 := tkE_lt h2
  have h4 := pl_le (s := s) (n + 1)
  rw [ps_S] at *
  exact ⟨by omega, h2, by omega⟩
theorem kd3 {s : Tp} {n : Nat} (h : kd s n = 3) : pl s n < s.2 ∧ isLt (s.1 (pl s n)) = false ∧ isDg (s.1 (pl s n)) = true ∧ rnS s isDg (pl s n) - pl s n ≤ 4 := by
  unfold kd tkD at h
  have h1 := (kwf_ge (w := wcd s (pl s n) (rnS s isLt (pl s n) - pl s n)) 18 0).1
  unfold kwd at h
  by_cases c : s.2 ≤ pl s n
  · rw [if_pos c] at h; omega
  · rw [if_neg c] at h
    by_cases c2 : isLt (s.1 (pl s n)) = true
    · rw [if_pos c2] at h; split at h <;> omega
    · rw [if_neg c2] at h
      by_cases c3 : isDg (s.1 (pl s n)) = true
      · rw [if_pos c3] at h
        refine ⟨by omega, by simpa using c2, c3, ?_⟩
        split at h <;> omega
      · rw [if_neg c3] at h; split at h <;> omega
theorem kd4 {s : Tp} {n : Nat} (h : 4 ≤ kd s n) : pl s n < s.2 ∧ isLt (s.1 (pl s n)) = true ∧ rnS s isLt (pl s n) - pl s n ≤ 8 ∧ kd s n = kwd (wd s n) := by
  have h0 := h
  unfold kd tkD at h
  by_cases c : s.2 ≤ pl s n
  · rw [if_pos c] at h; omega
  · rw [if_neg c] at h
    by_cases c2 : isLt (s.1 (pl s n)) = true
    · rw [if_pos c2] at h
      by_cases c3 : rnS s isLt (pl s n) - pl s n > 8
      · rw [if_pos c3] at h; omega
      · refine ⟨by omega, c2, by omega, ?_⟩
        unfold kd tkD wd
        rw [if_neg c, if_pos c2, if_neg c3]
    · rw [if_neg c2] at h
      split at h
      · split at h <;> omega
      · split at h <;> omega
/-- numbers of up to four digits, words of up to eight letters -/
theorem nvl_lt {s : Tp} {i : Nat} : ∀ k, (∀ j, j < k → isDg (s.1 (i + j)) = true) → nvl s i k < 10 ^ k := by
  intro k
  induction k with
  | zero => intro _; simp [nvl]
  | succ k ih =>
    intro h
    have h1 := ih (fun j hj => h j (by omega))
    have h2 := h k (by omega)
    simp only [isDg, Bool.and_eq_true, decide_eq_true_eq] at h2
    simp only [nvl]
    rw [Nat.pow_succ]
    omega
theorem vl_lt {s : Tp} {n : Nat} (h : kd s n = 3) : vl s n < 10000 := by
  obtain ⟨h1, h2, h3, h4⟩ := kd3 h
  have h5 := rnS_sp (P := isDg) (show pl s n ≤ s.2 by omega)
  have h6 := nvl_lt (s := s) (i := pl s n) (rnS s isDg (pl s n) - pl s n) (fun j hj => h5.2.2.1 _ (by omega) (by omega))
  have h7 : 10 ^ (rnS s isDg (pl s n) - pl s n) ≤ 10 ^ 4 := Nat.pow_le_pow_right (by omega) h4
  unfold vl
  omega
theorem wcd_lt {s : Tp} {i : Nat} : ∀ k, (∀ j, j < k → isLt (s.1 (i + j)) = true) → wcd s i k < 32 ^ k := by
  intro k
  induction k with
  | zero => intro _; simp [wcd]
  | succ k ih =>
    intro h
    have h1 := ih (fun j hj => h j (by omega))
    have h2 := h k (by omega)
    simp only [isLt, Bool.and_eq_true, decide_eq_true_eq] at h2
    simp only [wcd]
    rw [Nat.pow_succ]
    omega
theorem wd_lt {s : Tp} {n : Nat} (h : 4 ≤ kd s n) : wd s n < 32 ^ 8 := by
  obtain ⟨h1, h2, h3, -⟩ := kd4 h
  have h5 := rnS_sp (P := isLt) (show pl s n ≤ s.2 by omega)
  have h6 := wcd_lt (s := s) (i := pl s n) (rnS s isLt (pl s n) - pl s n) (fun j hj => h5.2.2.1 _ (by omega) (by omega))
  have h7 : 32 ^ (rnS s isLt (pl s n) - pl s n) ≤ 32 ^ 8 := Nat.pow_le_pow_right (by omega) h3
  unfold wd
  omega
/-- the reference's code of a word -/
def phF : Nat → Nat → Nat
  | 0, _ => 0
  | f + 1, v => 37 * phF f (v / 32) + v % 32
theorem phF_inj : ∀ f a b, a < 32 ^ f → b < 32 ^ f → phF f a = phF f b → a = b := by
  intro f
  induction f with
  | zero => intro a b ha hb _; simp at ha hb; omega
  | succ f ih =>
    intro a b ha hb h
    simp only [phF] at h
    rw [Nat.pow_succ] at ha hb
    have h1 : a % 32 = b % 32 := by omega
    have h2 : phF f (a / 32) = phF f (b / 32) := by omega
    have h3 := ih (a / 32) (b / 32) (by omega) (by omega) h2
    omega
theorem phF_0 : ∀ f, phF f 0 = 0 := by
  intro f
  induction f with
  | zero => rfl
  | succ f ih => simp [phF, ih]
theorem phF_more : ∀ k e v, v < 32 ^ k → phF (k + e) v = phF k v := by
  intro k
  induction k with
  | zero => intro e v hv; simp at hv; subst hv; rw [phF_0, phF_0]
  | succ k ih =>
    intro e v hv
    rw [show k + 1 + e = (k + e) + 1 by omega]
    simp only [phF]
    rw [Nat.pow_succ] at hv
    rw [ih e (v / 32) (by omega)]
def phi (v : Nat) : Nat := phF 8 v
theorem phi_inj {a b : Nat} (ha : a < 32 ^ 8) (hb : b < 32 ^ 8) : phi a = phi b ↔ a = b := ⟨fun h => phF_inj 8 a b ha hb h, fun h => by rw [h]⟩
theorem kw_lt : ∀ k, k < 18 → kw k < 32 ^ 8 := by decide
theorem phF_le : ∀ f v, phF f v < 37 ^ f := by
  intro f
  induction f with
  | zero => intro v; simp [phF]
  | succ f ih =>
    intro v
    have h1 := ih (v / 32)
    have h2 : v % 32 < 32 := Nat.mod_lt _ (by omega)
    simp only [phF]
    rw [Nat.pow_succ]
    omega
theorem phi_lt {v : Nat} : phi v < 37 ^ 8 := phF_le 8 v
/-- the reference's words -/
def kmL : List Nat := [1034460, 102797, 57, 31549, 1186231, 5538, 329128, 755, 628896, 43890888, 1119812451, 426554, 30059336, 347, 11726208, 1327079004, 2205662, 1612802819]
theorem km_ok : ∀ k, k < 18 → kmL.getD k 0 = phi (kw k) := by decide
theorem kwf_at {w : Nat} : ∀ f k c, kwf w f k = 5 + c → k ≤ c → kw c = w ∨ 18 ≤ c ∨ k + f ≤ c := by
  intro f
  induction f with
  | zero => intro k c h hc; simp only [kwf] at h; omega
  | succ f ih =>
    intro k c h hc
    simp only [kwf] at h
    by_cases e : kw k = w
    · rw [if_pos e] at h
      have : k = c := by omega
      subst this; exact Or.inl e
    · rw [if_neg e] at h
      by_cases e2 : k = c
      · subst e2
        have := (kwf_ge (w := w) f (k + 1)).1
        have key : ∀ f j, k < j → kwf w f j ≠ 5 + k := by
          intro f
          induction f with
          | zero => intro j hj; simp only [kwf]; omega
          | succ f ih2 =>
            intro j hj
            simp only [kwf]
            split
            · omega
            · exact ih2 (j + 1) (by omega)
        exact absurd h (key f (k + 1) (by omega))
      · have := ih (k + 1) c h (by omega)
        omega
/-- a word is keyword c just when it has its code -/
theorem kwd_iff {w c : Nat} (hc : c < 18) : kwd w = 5 + c ↔ w = kw c := by
  constructor
  · intro h
    rcases kwf_at 18 0 c h (Nat.zero_le _) with h1 | h1 | h1
    · exact h1.symm
    · omega
    · omega
  · intro h
    subst h
    revert c
    decide
theorem kwd_4 {w : Nat} : kwd w = 4 ↔ ∀ c, c < 18 → w ≠ kw c := by
  constructor
  · intro h c hc e
    have := (kwd_iff hc).mpr e
    omega
  · intro h
    have h1 := kwf_ge (w := w) 18 0
    have h2 : 4 ≤ kwd w ∧ kwd w ≤ 22 := h1
    rcases Nat.lt_or_ge (kwd w) 5 with h3 | h3
    · omega
    · have := (kwd_iff (w := w) (c := kwd w - 5) (by omega)).mp (by omega)
      exact absurd this (h _ (by omega))
