/-! the puttings back of some days, in order -/
def Ev : Type := Nat × (Nat → Nat) × (Nat → Nat)
def psI (a : Nat → Nat) (v : Nat) : Nat → Nat
  | 0 => 0
  | n + 1 => if v < a n then psI a v n else n + 1
theorem psI_le {a : Nat → Nat} {v : Nat} : ∀ n, psI a v n ≤ n := by
  intro n
  induction n with
  | zero => simp [psI]
  | succ n ih => simp only [psI]; split <;> omega
def insA (a : Nat → Nat) (p v : Nat) : Nat → Nat := fun j => if j < p then a j else if j = p then v else a (j - 1)
def ins1 (E : Ev) (v t : Nat) : Ev := (E.1 + 1, insA E.2.1 (psI E.2.1 v E.1) v, insA E.2.2 (psI E.2.1 v E.1) t)
def dyI (B : Nat → Nat) (x i : Nat) : Nat := B (1 + 25 * x + 1 + 2 * i)
def evI (B : Nat → Nat) (f g x : Nat) (E : Ev) : Nat → Ev
  | 0 => E
  | i + 1 => if f ≤ dyI B x i ∧ dyI B x i ≤ g then ins1 (evI B f g x E i) (mS B x i + 60 * i) x else evI B f g x E i
def evA (B : Nat → Nat) (f g : Nat) : Nat → Ev
  | 0 => (0, fun _ => 0, fun _ => 0)
  | x + 1 => evI B f g x (evA B f g x) (nB B x)
def okE (B : Nat → Nat) (E : Ev) (N : Nat) : Prop := E.1 ≤ N ∧ ∀ j, j < E.1 → 60 ≤ E.2.1 j ∧ E.2.1 j ≤ 5256720 ∧ E.2.2 j < B 0
theorem okE_ins {B : Nat → Nat} {E : Ev} {N v t : Nat} (h : okE B E N) (hv : 60 ≤ v) (hv2 : v ≤ 5256720) (ht : t < B 0) : okE B (ins1 E v t) (N + 1) := by
  obtain ⟨h1, h2⟩ := h
  have hp := psI_le (a := E.2.1) (v := v) E.1
  refine ⟨by show E.1 + 1 ≤ N + 1; omega, fun j hj => ?_⟩
  have hj2 : j < E.1 + 1 := hj
  show 60 ≤ insA E.2.1 (psI E.2.1 v E.1) v j ∧ insA E.2.1 (psI E.2.1 v E.1) v j ≤ 5256720 ∧ insA E.2.2 (psI E.2.1 v E.1) t j < B 0
  unfold insA
  by_cases c1 : j < psI E.2.1 v E.1
  · rw [if_pos c1, if_pos c1]; exact h2 j (by omega)
  · rw [if_neg c1, if_neg c1]
    by_cases c2 : j = psI E.2.1 v E.1
    · rw [if_pos c2, if_pos c2]; exact ⟨hv, hv2, ht⟩
    · rw [if_neg c2, if_neg c2]; exact h2 (j - 1) (by omega)
theorem okE_I {B : Nat → Nat} {f g x N : Nat} {E : Ev} (hW : WBt B) (hx : x < B 0) (h : okE B E N) : ∀ i, i ≤ nB B x → okE B (evI B f g x E i) (N + i) := by
  intro i
  induction i with
  | zero => intro _; exact h
  | succ i ih =>
    intro hi
    have h3 := hW.1
    have h4 := (hW.2 x (by omega)).1
    have h5 := mS_rng hW (show x < 3 by omega) (show i < nB B x by omega)
    have h6 := ih (by omega)
    simp only [evI]
    split
    · rw [show N + (i + 1) = N + i + 1 by omega]
      exact okE_ins h6 (by omega) (by omega) hx
    · exact ⟨by have := h6.1; omega, h6.2⟩
theorem okE_A {B : Nat → Nat} {f g : Nat} (hW : WBt B) : ∀ x, x ≤ B 0 → okE B (evA B f g x) (12 * x) := by
  intro x
  induction x with
  | zero => intro _; exact ⟨Nat.le_refl _, fun j hj => by have hj2 : j < 0 := hj; omega⟩
  | succ x ih =>
    intro hx
    have h4 := (hW.2 x (by have := hW.1; omega)).1
    have h5 := okE_I (f := f) (g := g) hW (show x < B 0 by omega) (ih (by omega)) (nB B x) (Nat.le_refl _)
    exact ⟨by have := h5.1; show (evI B f g x (evA B f g x) (nB B x)).1 ≤ _; omega, h5.2⟩
def EV (B : Nat → Nat) (f g : Nat) : Ev := evA B f g (B 0)
theorem ok_EV {B : Nat → Nat} {f g : Nat} (hW : WBt B) : okE B (EV B f g) 36 := by
  have h := okE_A (f := f) (g := g) hW (B 0) (Nat.le_refl _)
  exact ⟨by have := h.1; have := hW.1; show (evA B f g (B 0)).1 ≤ 36; omega, h.2⟩
theorem dy_mS {B : Nat → Nat} {x i : Nat} (hW : WBt B) (hx : x < 3) (hi : i < nB B x) : (mS B x i - 1) / 1440 = dyI B x i := by
  have a := (hW.2 x hx).2.1 i hi
  unfold mS dyI
  omega
/-- one can follow the other -/
def cfE (B : Nat → Nat) (E : Ev) (s l : Nat) : Bool := decide (wyF B (E.2.2 s) (E.2.2 l) + E.2.1 s + 120 ≤ E.2.1 l)
def chI (cf : Nat → Nat → Bool) (g : Nat → Nat) (s : Nat) : Nat → Nat
  | 0 => 1
  | d + 1 => if cf s (s + 1 + d) = true ∧ chI cf g s d ≤ g (s + 1 + d) then g (s + 1 + d) + 1 else chI cf g s d
def chT (cf : Nat → Nat → Bool) (n : Nat) : Nat → Nat → Nat
  | 0 => fun _ => 0
  | r + 1 => fun s => if s = n - 1 - r then chI cf (chT cf n r) s r else chT cf n r s
def ch (cf : Nat → Nat → Bool) (n : Nat) : Nat → Nat := chT cf n n
theorem chI_cong {cf : Nat → Nat → Bool} {g h : Nat → Nat} {s : Nat} : ∀ d, (∀ l, s < l → l ≤ s + d → g l = h l) → chI cf g s d = chI cf h s d := by
  intro d
  induction d with
  | zero => intro _; rfl
  | succ d ih =>
    intro hh
    simp only [chI]
    rw [ih (fun l h1 h2 => hh l h1 (by omega)), hh (s + 1 + d) (by omega) (by omega)]
theorem chT_st {cf : Nat → Nat → Bool} {n r s : Nat} (hs : n - r ≤ s) (hn : s < n) : ∀ q, r ≤ q → q ≤ n → chT cf n q s = chT cf n r s := by
  intro q
  induction q with
  | zero => intro h1 _; rw [show r = 0 by omega]
  | succ q ih =>
    intro h1 h2
    by_cases h3 : r = q + 1
    · rw [h3]
    · have h4 : chT cf n (q + 1) s = chT cf n q s := by
        show (if s = n - 1 - q then chI cf (chT cf n q) s q else chT cf n q s) = _
        rw [if_neg (by omega)]
      rw [h4]
      exact ih (by omega) (by omega)
theorem ch_eq {cf : Nat → Nat → Bool} {n s : Nat} (hs : s < n) : ch cf n s = chI cf (ch cf n) s (n - 1 - s) := by
  unfold ch
  rw [chT_st (r := n - 1 - s + 1) (by omega) hs n (by omega) (Nat.le_refl _)]
  show (if s = n - 1 - (n - 1 - s) then chI cf (chT cf n (n - 1 - s)) s (n - 1 - s) else _) = _
  rw [if_pos (by omega)]
  exact chI_cong _ (fun l h1 h2 => (chT_st (by omega) (by omega) n (by omega) (Nat.le_refl _)).symm)
theorem chI_b {cf : Nat → Nat → Bool} {g : Nat → Nat} {s b : Nat} (hb : 1 ≤ b) : ∀ d, (∀ l, s < l → l ≤ s + d → g l + 1 ≤ b) → 1 ≤ chI cf g s d ∧ chI cf g s d ≤ b := by
  intro d
  induction d with
  | zero => intro _; exact ⟨Nat.le_refl _, hb⟩
  | succ d ih =>
    intro h
    have h1 := ih (fun l h1 h2 => h l h1 (by omega))
    have h2 := h (s + 1 + d) (by omega) (by omega)
    simp only [chI]
    split <;> omega
theorem ch_b {cf : Nat → Nat → Bool} {n : Nat} : ∀ r s, s + r = n → 0 < r → 1 ≤ ch cf n s ∧ ch cf n s ≤ r := by
  intro r
  induction r using Nat.strongRecOn with
  | ind r ih =>
    intro s hs hr
    rw [ch_eq (by omega)]
    refine chI_b hr _ (fun l h1 h2 => ?_)
    have := (ih (n - l) (by omega) l (by omega) (by omega)).2
    omega
theorem ch_le {cf : Nat → Nat → Bool} {n s : Nat} (hs : s < n) : 1 ≤ ch cf n s ∧ ch cf n s ≤ n - s := ch_b (n - s) s (by omega) (by omega)
theorem chI_le {cf : Nat → Nat → Bool} {n s d : Nat} (hs : s + d < n) : 1 ≤ chI cf (ch cf n) s d ∧ chI cf (ch cf n) s d ≤ n - s :=
  chI_b (by omega) d (fun l h1 h2 => by have := (ch_le (cf := cf) (show l < n by omega)).2; omega)
/-- a chain goes on -/
theorem chI_ex {cf : Nat → Nat → Bool} {g : Nat → Nat} {s : Nat} : ∀ d, chI cf g s d = 1 ∨ ∃ l, s < l ∧ l ≤ s + d ∧ cf s l = true ∧ chI cf g s d = g l + 1 := by
  intro d
  induction d with
  | zero => exact Or.inl rfl
  | succ d ih =>
    simp only [chI]
    by_cases h : cf s (s + 1 + d) = true ∧ chI cf g s d ≤ g (s + 1 + d)
    · rw [if_pos h]; exact Or.inr ⟨s + 1 + d, by omega, by omega, h.1, rfl⟩
    · rw [if_neg h]
      rcases ih with h1 | ⟨l, h1, h2, h3, h4⟩
      · exact Or.inl h1
      · exact Or.inr ⟨l, h1, by omega, h3, h4⟩
theorem ch_ex {cf : Nat → Nat → Bool} {n s : Nat} (hs : s < n) (h : 2 ≤ ch cf n s) : ∃ l, s < l ∧ l < n ∧ cf s l = true ∧ ch cf n l + 1 = ch cf n s := by
  have e := ch_eq (cf := cf) hs
  rcases chI_ex (cf := cf) (g := ch cf n) (s := s) (n - 1 - s) with h1 | ⟨l, h1, h2, h3, h4⟩
  · omega
  · exact ⟨l, h1, by omega, h3, by omega⟩
def mxU (c : Nat → Nat) : Nat → Nat
  | 0 => 0
  | k + 1 => if mxU c k < c k then c k else mxU c k
def mxD (c : Nat → Nat) (n : Nat) : Nat → Nat
  | 0 => 0
  | r + 1 => if mxD c n r < c (n - 1 - r) then c (n - 1 - r) else mxD c n r
theorem mxU_sp {c : Nat → Nat} : ∀ n, (∀ k, k < n → c k ≤ mxU c n) ∧ (mxU c n = 0 ∨ ∃ k, k < n ∧ c k = mxU c n) := by
  intro n
  induction n with
  | zero => exact ⟨fun k hk => by omega, Or.inl rfl⟩
  | succ n ih =>
    simp only [mxU]
    by_cases h : mxU c n < c n
    · rw [if_pos h]
      refine ⟨fun k hk => ?_, Or.inr ⟨n, by omega, rfl⟩⟩
      by_cases e : k = n
      · rw [e]; exact Nat.le_refl _
      · have := ih.1 k (by omega); omega
    · rw [if_neg h]
      refine ⟨fun k hk => ?_, ?_⟩
      · by_cases e : k = n
        · rw [e]; omega
        · exact ih.1 k (by omega)
      · rcases ih.2 with h1 | ⟨k, h1, h2⟩
        · exact Or.inl h1
        · exact Or.inr ⟨k, by omega, h2⟩
theorem mxD_sp {c : Nat → Nat} {n : Nat} : ∀ r, r ≤ n → (∀ k, n - r ≤ k → k < n → c k ≤ mxD c n r) ∧ (mxD c n r = 0 ∨ ∃ k, k < n ∧ c k = mxD c n r) := by
  intro r
  induction r with
  | zero => intro _; exact ⟨fun k hk hk2 => by omega, Or.inl rfl⟩
  | succ r ih =>
    intro hr
    have ih := ih (by omega)
    simp only [mxD]
    by_cases h : mxD c n r < c (n - 1 - r)
    · rw [if_pos h]
      refine ⟨fun k hk hk2 => ?_, Or.inr ⟨n - 1 - r, by omega, rfl⟩⟩
      by_cases e : k = n - 1 - r
      · rw [e]; exact Nat.le_refl _
      · have := ih.1 k (by omega) hk2; omega
    · rw [if_neg h]
      refine ⟨fun k hk hk2 => ?_, ih.2⟩
      by_cases e : k = n - 1 - r
      · rw [e]; omega
      · exact ih.1 k (by omega) hk2
theorem mx_eq {c : Nat → Nat} {n : Nat} : mxD c n n = mxU c n := by
  have d := mxD_sp (c := c) (n := n) n (Nat.le_refl _)
  have u := mxU_sp (c := c) n
  have h1 : mxD c n n ≤ mxU c n := by
    rcases d.2 with h | ⟨k, h1, h2⟩
    · omega
    · rw [← h2]; exact u.1 k h1
  have h2 : mxU c n ≤ mxD c n n := by
    rcases u.2 with h | ⟨k, h1, h2⟩
    · omega
    · rw [← h2]; exact d.1 k (by omega) h1
  omega
theorem mxD_le {c : Nat → Nat} {n b : Nat} (h : ∀ k, k < n → c k ≤ b) : ∀ r, r ≤ n → mxD c n r ≤ b := by
  intro r hr
  rcases (mxD_sp (c := c) (n := n) r hr).2 with h1 | ⟨k, h1, h2⟩
  · omega
  · rw [← h2]; exact h k h1
theorem mxU_le {c : Nat → Nat} {n b : Nat} (h : ∀ k, k < n → c k ≤ b) : ∀ r, r ≤ n → mxU c r ≤ b := by
  intro r hr
  rcases (mxU_sp (c := c) r).2 with h1 | ⟨k, h1, h2⟩
  · omega
  · rw [← h2]; exact h k (by omega)
def nxt (P : Nat → Bool) : Nat → Nat → Nat
  | 0, s => s
  | q + 1, s => if P s = true then s else nxt P q (s + 1)
theorem nxt_sp {P : Nat → Bool} : ∀ q s, (∃ l, s ≤ l ∧ l < s + q ∧ P l = true) → nxt P q s < s + q ∧ s ≤ nxt P q s ∧ P (nxt P q s) = true := by
  intro q
  induction q with
  | zero => intro s ⟨l, h1, h2, _⟩; omega
  | succ q ih =>
    intro s ⟨l, h1, h2, h3⟩
    simp only [nxt]
    by_cases h : P s = true
    · rw [if_pos h]; exact ⟨by omega, by omega, h⟩
    · rw [if_neg h]
      have := ih (s + 1) ⟨l, by by_cases e : l = s; (rw [e] at h3; exact absurd h3 h); omega, by omega, h3⟩
      exact ⟨by omega, by omega, this.2.2⟩
/-- the row's stops -/
def rwP (cf : Nat → Nat → Bool) (c : Nat → Nat) (L : Nat) (last : Option Nat) (k : Nat) : Nat → Bool := fun s => decide (c s = L - k) && (match last with | none => true | some l => cf l s)
def rwS (cf : Nat → Nat → Bool) (c : Nat → Nat) (n L : Nat) : Nat → Nat
  | 0 => nxt (rwP cf c L none 0) n 0
  | k + 1 => nxt (rwP cf c L (some (rwS cf c n L k)) (k + 1)) (n - (rwS cf c n L k + 1)) (rwS cf c n L k + 1)
def lstO (cf : Nat → Nat → Bool) (c : Nat → Nat) (n L : Nat) : Nat → Option Nat
  | 0 => none
  | k + 1 => some (rwS cf c n L k)
def sttS (cf : Nat → Nat → Bool) (c : Nat → Nat) (n L : Nat) : Nat → Nat
  | 0 => 0
  | k + 1 => rwS cf c n L k + 1
theorem rwS_e {cf : Nat → Nat → Bool} {c : Nat → Nat} {n L : Nat} : ∀ k, rwS cf c n L k = nxt (rwP cf c L (lstO cf c n L k) k) (n - sttS cf c n L k) (sttS cf c n L k) := by
  intro k
  cases k with
  | zero => rfl
  | succ k => rfl
theorem rwS_ok {cf : Nat → Nat → Bool} {n : Nat} : ∀ k, k < mxU (ch cf n) n → rwS cf (ch cf n) n (mxU (ch cf n) n) k < n ∧ ch cf n (rwS cf (ch cf n) n (mxU (ch cf n) n) k) = mxU (ch cf n) n - k := by
  intro k
  induction k with
  | zero =>
    intro h
    rcases (mxU_sp (c := ch cf n) n).2 with h1 | ⟨l, h1, h2⟩
    · omega
    · have := nxt_sp (P := rwP cf (ch cf n) (mxU (ch cf n) n) none 0) n 0 ⟨l, by omega, by omega, by simp [rwP, h2]⟩
      simp only [rwS]
      refine ⟨by omega, ?_⟩
      have h3 := this.2.2
      simp only [rwP, Bool.and_true, decide_eq_true_eq] at h3
      exact h3
  | succ k ih =>
    intro h
    obtain ⟨i1, i2⟩ := ih (by omega)
    obtain ⟨l, l1, l2, l3, l4⟩ := ch_ex (cf := cf) i1 (by omega)
    have := nxt_sp (P := rwP cf (ch cf n) (mxU (ch cf n) n) (some (rwS cf (ch cf n) n (mxU (ch cf n) n) k)) (k + 1)) (n - (rwS cf (ch cf n) n (mxU (ch cf n) n) k + 1)) (rwS cf (ch cf n) n (mxU (ch cf n) n) k + 1) ⟨l, by omega, by omega, by simp only [rwP, l3, Bool.and_true, decide_eq_true_eq]; omega⟩
    rw [rwS]
    refine ⟨by omega, ?_⟩
    have h3 := this.2.2
    simp only [rwP, Bool.and_eq_true, decide_eq_true_eq] at h3
    exact h3.1
theorem nxt_S {P : Nat → Bool} {n s : Nat} (hs : s < n) (h : P s = false) : nxt P (n - s) s = nxt P (n - (s + 1)) (s + 1) := by
  rw [show n - s = (n - (s + 1)) + 1 by omega]
  simp only [nxt]
  rw [if_neg (by rw [h]; decide)]
theorem nxt_Y {P : Nat → Bool} {n s : Nat} (hs : s < n) (h : P s = true) : nxt P (n - s) s = s := by
  rw [show n - s = (n - (s + 1)) + 1 by omega]
  simp only [nxt]
  rw [if_pos h]
/-- all of it, for a book and days -/
def jC (B : Nat → Nat) (f g : Nat) : Nat → Nat := ch (cfE B (EV B f g)) (EV B f g).1
def jL (B : Nat → Nat) (f g : Nat) : Nat := mxU (jC B f g) (EV B f g).1
def jR (B : Nat → Nat) (f g : Nat) : Nat → Nat := rwS (cfE B (EV B f g)) (jC B f g) (EV B f g).1 (jL B f g)
theorem jL_le {B : Nat → Nat} {f g : Nat} (hW : WBt B) : jL B f g ≤ 36 := by
  refine mxU_le (fun k hk => ?_) _ (Nat.le_refl _)
  have h1 := (ch_le (cf := cfE B (EV B f g)) hk).2
  have h2 := (ok_EV (f := f) (g := g) hW).1
  show ch _ _ k ≤ 36
  omega
theorem jR_ok {B : Nat → Nat} {f g k : Nat} (h : k < jL B f g) : jR B f g k < (EV B f g).1 ∧ jC B f g (jR B f g k) = jL B f g - k := rwS_ok k h
def areD (B : Nat → Nat) (f g : Int32) : Bool := decide (0 < B 0) && inR g (nI 0) (nI 3649) && inR f (nI 0) g
def A_most (B : Nat → Nat) (f g : Int32) : Int32 := if areD B f g = true then nI (jL B (tN f) (tN g)) else -1
def A_goes (B : Nat → Nat) (f g k w : Int32) : Int32 := if (areD B f g && inC k (jL B (tN f) (tN g)) && inR w (nI 0) (nI 1)) = true then nI ((if w = nI 0 then (EV B (tN f) (tN g)).2.2 else (EV B (tN f) (tN g)).2.1) (jR B (tN f) (tN g) (tN k))) else -1
theorem areD_n {B : Nat → Nat} {f g : Int32} (h : areD B f g = true) : f = nI (tN f) ∧ g = nI (tN g) ∧ tN f ≤ tN g ∧ tN g ≤ 3649 := by
  simp only [areD, Bool.and_eq_true] at h
  obtain ⟨⟨_, h1⟩, h2⟩ := h
  obtain ⟨g1, g2⟩ := inR_nI (by omega) h1
  have h2' := h2
  rw [g1] at h2'
  obtain ⟨f1, f2⟩ := inR_nI (by omega) h2'
  exact ⟨f1, g1, f2, g2⟩
/-- the days' test, either way -/
theorem areD_m {B : Nat → Nat} {f g : Int32} : areD B f g = (decide (0 < B 0) && inR f (nI 0) (nI 3649) && inR g f (nI 3649)) := by
  unfold areD inR
  simp only [Int32.le_iff_toInt_le, Bool.and_assoc]
  rw [nI_toInt (by omega), nI_toInt (by omega)]
  congr 1
  rw [Bool.eq_iff_iff]
  simp only [Bool.and_eq_true, decide_eq_true_eq]
  omega
