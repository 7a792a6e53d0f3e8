/-! the clock of town 0 through a day, with and without its putting back -/
theorem mFi_pre {B : Nat → Nat} {aw : Option Nat} {t c e n : Nat} (h : ∀ k, k < n → ((mTh B aw t k = true ∧ mS B t k ≤ c) ↔ k < e)) : ∀ k, k ≤ n → mFi B aw t c k = min k e := by
  intro k
  induction k with
  | zero => intro _; simp [mFi]
  | succ k ih =>
    intro hk
    simp only [mFi]
    rw [ih (by omega)]
    have h1 := h k (by omega)
    by_cases c1 : k < e
    · rw [if_pos (h1.mpr c1)]; omega
    · rw [if_neg (fun h9 => c1 (h1.mp h9))]; omega
theorem mBk_pre {B : Nat → Nat} {aw : Option Nat} {t c e n : Nat} (h1 : ∀ k, k < n → k < e → mTh B aw t k = true ∧ mS B t k + 60 * k ≤ c) (h2 : ∀ k, k < n → e ≤ k → ¬ (mTh B aw t k = true ∧ mS B t k + 60 * e ≤ c)) : ∀ k, k ≤ n → mBk B aw t c k = min k e := by
  intro k
  induction k with
  | zero => intro _; simp [mBk]
  | succ k ih =>
    intro hk
    simp only [mBk]
    rw [ih (by omega)]
    by_cases c1 : k < e
    · have h3 := h1 k (by omega) c1
      rw [show min k e = k by omega, if_pos h3]; omega
    · have h3 := h2 k (by omega) (by omega)
      rw [show min k e = e by omega, if_neg h3]; omega
/-- so many strokes are told for days before d -/
def n0P (B : Nat → Nat) (d n0 : Nat) : Prop := n0 ≤ nB B 0 ∧ (∀ j, j < n0 → dyI B 0 j < d) ∧ ∀ j, n0 ≤ j → j < nB B 0 → d ≤ dyI B 0 j
theorem dy_mono {B : Nat → Nat} (hW : WBt B) : ∀ e i, i + e < nB B 0 → dyI B 0 i + e ≤ dyI B 0 (i + e) := by
  intro e
  induction e with
  | zero => intro i _; exact Nat.le_refl _
  | succ e ih =>
    intro i h
    have h1 := ih i (by omega)
    have h2 := (hW.2 0 (by omega)).2.2 (i + e) (by omega)
    have h3 : dyI B 0 (i + e) < dyI B 0 (i + (e + 1)) := h2
    omega
theorem dy_lt {B : Nat → Nat} (hW : WBt B) {i j : Nat} (h : i < j) (hj : j < nB B 0) : dyI B 0 i < dyI B 0 j := by
  have := dy_mono hW (j - i) i (by omega)
  rw [show i + (j - i) = j by omega] at this
  omega
theorem n0_ex {B : Nat → Nat} (hW : WBt B) (d : Nat) : ∃ n0, n0P B d n0 := by
  have key : ∀ k, k ≤ nB B 0 → ∃ n0, n0 ≤ k ∧ (∀ j, j < n0 → dyI B 0 j < d) ∧ ∀ j, n0 ≤ j → j < k → d ≤ dyI B 0 j := by
    intro k
    induction k with
    | zero => intro _; exact ⟨0, Nat.le_refl _, fun j h => by omega, fun j _ h => by omega⟩
    | succ k ih =>
      intro hk
      obtain ⟨n0, h1, h2, h3⟩ := ih (by omega)
      by_cases c : n0 = k ∧ dyI B 0 k < d
      · refine ⟨k + 1, Nat.le_refl _, fun j hj => ?_, fun j h4 h5 => by omega⟩
        by_cases e : j = k
        · rw [e]; exact c.2
        · exact h2 j (by omega)
      · refine ⟨n0, by omega, h2, fun j h4 h5 => ?_⟩
        by_cases e : j = k
        · subst e
          rcases Nat.lt_or_ge n0 j with h6 | h6
          · have := dy_lt hW h6 (by omega)
            have := h3 n0 (Nat.le_refl _) h6
            omega
          · have : n0 = j := by omega
            have : ¬ dyI B 0 j < d := fun h => c ⟨this, h⟩
            omega
        · exact h3 j h4 (by omega)
  exact key _ (Nat.le_refl _)
theorem mS_dy {B : Nat → Nat} (hW : WBt B) {k : Nat} (hk : k < nB B 0) : 1440 * dyI B 0 k + 60 ≤ mS B 0 k ∧ mS B 0 k ≤ 1440 * dyI B 0 k + 1440 := by
  have h := (hW.2 0 (by omega)).2.1 k hk
  have e : dyI B 0 k = B (1 + 25 * 0 + 1 + 2 * k) := rfl
  unfold mS
  omega
theorem sk_cases {B : Nat → Nat} {d n0 : Nat} (hW : WBt B) (h : n0P B d n0) : (skO B d = none ∧ ∀ j, n0 ≤ j → j < nB B 0 → d < dyI B 0 j) ∨ ∃ st, skO B d = some st ∧ n0 < nB B 0 ∧ mS B 0 n0 = 1440 * d + st ∧ dyI B 0 n0 = d ∧ 60 ≤ st ∧ st ≤ 1440 ∧ ∀ j, n0 < j → j < nB B 0 → d < dyI B 0 j := by
  unfold skO
  cases h9 : fnd (mS B 0) d (nB B 0) 0 with
  | none =>
    left
    refine ⟨rfl, fun j h1 h2 => ?_⟩
    have h3 := fnd_none _ _ h9 j (Nat.zero_le _) (by omega)
    have h4 := mS_dy hW h2
    have h5 := h.2.2 j h1 h2
    omega
  | some v =>
    right
    obtain ⟨j, h1, h2, h3, h4⟩ := fnd_some _ _ _ h9
    have h5 := mS_dy hW (show j < nB B 0 by omega)
    have hdj : dyI B 0 j = d := by omega
    have hj : j = n0 := by
      rcases Nat.lt_trichotomy j n0 with h6 | h6 | h6
      · have := h.2.1 j h6; omega
      · exact h6
      · have := dy_lt hW h6 (by omega)
        have := h.2.2 n0 (Nat.le_refl _) (by omega)
        omega
    subst hj
    exact ⟨v - d * 1440, rfl, by omega, by omega, hdj, by omega, by omega, fun i h6 h7 => by have := dy_lt hW h6 h7; omega⟩
def skW (B : Nat → Nat) (d : Nat) (aw : Option Nat) : Option Nat := match aw with
  | none => skO B d
  | some _ => none
def psd (sk : Option Nat) (x : Nat) : Nat := match sk with
  | none => 0
  | some s => if s ≤ x then 60 else 0
theorem mTh_some {B : Nat → Nat} {d k : Nat} : mTh B (some d) 0 k = true ↔ dyI B 0 k ≠ d := by
  unfold mTh
  simp only [Nat.lt_irrefl, decide_false, Bool.false_or, decide_eq_true_eq, ne_eq, Option.some.injEq]
  rfl
theorem fi_n0 {B : Nat → Nat} {d n0 f : Nat} {aw : Option Nat} (hW : WBt B) (h : n0P B d n0) (ha : aw = none ∨ aw = some d) (hf : f ≤ 1439) : 60 * mFi B aw 0 (1440 * d + f) (nB B 0) = 60 * n0 + psd (skW B d aw) f := by
  rcases ha with rfl | rfl
  · rcases sk_cases hW h with ⟨h1, h2⟩ | ⟨st, h1, h2, h3, h4, h5, h6, h7⟩
    · rw [mFi_pre (e := n0) (n := nB B 0) (fun k hk => ?_) _ (Nat.le_refl _)]
      · show _ = 60 * n0 + psd (skO B d) f
        rw [h1]; have := h.1; show _ = 60 * n0 + 0; omega
      · rw [mTh_none]
        have g := mS_dy hW hk
        constructor
        · rintro ⟨_, g2⟩
          rcases Nat.lt_or_ge k n0 with g3 | g3
          · exact g3
          · have := h2 k g3 hk; omega
        · intro g3; have := h.2.1 k g3; exact ⟨rfl, by omega⟩
    · show _ = 60 * n0 + psd (skO B d) f
      rw [h1]
      show _ = 60 * n0 + if st ≤ f then 60 else 0
      by_cases c : st ≤ f
      · rw [mFi_pre (e := n0 + 1) (n := nB B 0) (fun k hk => ?_) _ (Nat.le_refl _), if_pos c]
        · omega
        · rw [mTh_none]
          have g := mS_dy hW hk
          constructor
          · rintro ⟨_, g2⟩
            rcases Nat.lt_or_ge n0 k with g3 | g3
            · have := h7 k g3 hk; omega
            · omega
          · intro g3
            by_cases e : k = n0
            · subst e; exact ⟨rfl, by omega⟩
            · have := h.2.1 k (by omega); exact ⟨rfl, by omega⟩
      · rw [mFi_pre (e := n0) (n := nB B 0) (fun k hk => ?_) _ (Nat.le_refl _), if_neg c]
        · omega
        · rw [mTh_none]
          have g := mS_dy hW hk
          constructor
          · rintro ⟨_, g2⟩
            rcases Nat.lt_trichotomy k n0 with g3 | g3 | g3
            · exact g3
            · subst g3; omega
            · have := h7 k g3 hk; omega
          · intro g3; have := h.2.1 k g3; exact ⟨rfl, by omega⟩
  · show _ = 60 * n0 + 0
    rw [mFi_pre (e := n0) (n := nB B 0) (fun k hk => ?_) _ (Nat.le_refl _)]
    · have := h.1; omega
    · rw [mTh_some]
      have g := mS_dy hW hk
      constructor
      · rintro ⟨g1, g2⟩
        rcases Nat.lt_or_ge k n0 with g3 | g3
        · exact g3
        · have := h.2.2 k g3 hk; omega
      · intro g3; have := h.2.1 k g3; exact ⟨by omega, by omega⟩
theorem bk_n0 {B : Nat → Nat} {d n0 x : Nat} {aw : Option Nat} (hW : WBt B) (h : n0P B d n0) (ha : aw = none ∨ aw = some d) (hx : 1440 * d + 60 * n0 ≤ x) (hx2 : x < 1440 * d + 60 * n0 + 1500) : 60 * mBk B aw 0 x (nB B 0) = 60 * n0 + psd (skW B d aw) (x - (1440 * d + 60 * n0)) := by
  have hn := h.1
  rcases ha with rfl | rfl
  · rcases sk_cases hW h with ⟨h1, h2⟩ | ⟨st, h1, h2, h3, h4, h5, h6, h7⟩
    · rw [mBk_pre (e := n0) (n := nB B 0) (fun k hk g3 => ?_) (fun k hk g3 => ?_) _ (Nat.le_refl _)]
      · show _ = 60 * n0 + psd (skO B d) _
        rw [h1]; show _ = 60 * n0 + 0; omega
      · have g := mS_dy hW hk
        have := h.2.1 k g3; exact ⟨mTh_none, by omega⟩
      · have g := mS_dy hW hk
        have := h2 k g3 hk
        rintro ⟨_, g4⟩; omega
    · show _ = 60 * n0 + psd (skO B d) _
      rw [h1]
      show _ = 60 * n0 + if st ≤ x - (1440 * d + 60 * n0) then 60 else 0
      by_cases c : st ≤ x - (1440 * d + 60 * n0)
      · rw [mBk_pre (e := n0 + 1) (n := nB B 0) (fun k hk g3 => ?_) (fun k hk g3 => ?_) _ (Nat.le_refl _), if_pos c]
        · omega
        · have g := mS_dy hW hk
          by_cases e : k = n0
          · subst e; exact ⟨mTh_none, by omega⟩
          · have := h.2.1 k (by omega); exact ⟨mTh_none, by omega⟩
        · have g := mS_dy hW hk
          have := h7 k (by omega) hk
          rintro ⟨_, g4⟩; omega
      · rw [mBk_pre (e := n0) (n := nB B 0) (fun k hk g3 => ?_) (fun k hk g3 => ?_) _ (Nat.le_refl _), if_neg c]
        · omega
        · have g := mS_dy hW hk
          have := h.2.1 k g3; exact ⟨mTh_none, by omega⟩
        · have g := mS_dy hW hk
          rintro ⟨_, g4⟩
          rcases Nat.lt_or_ge n0 k with g5 | g5
          · have := h7 k g5 hk; omega
          · rw [show k = n0 by omega] at g4; omega
  · show _ = 60 * n0 + 0
    rw [mBk_pre (e := n0) (n := nB B 0) (fun k hk g3 => ?_) (fun k hk g3 => ?_) _ (Nat.le_refl _)]
    · omega
    · have g := mS_dy hW hk
      have := h.2.1 k g3; exact ⟨mTh_some.mpr (by omega), by omega⟩
    · have g := mS_dy hW hk
      have := h.2.2 k g3 hk
      rintro ⟨g4, g5⟩
      have := mTh_some.mp g4
      omega
theorem b0_n0 {B : Nat → Nat} {d n0 : Nat} (hW : WBt B) (h : n0P B d n0) : b0F B d = 1440 * d + 60 * n0 := by
  have h1 := fi_n0 (f := 0) (aw := none) hW h (Or.inl rfl) (by omega)
  have h2 : psd (skW B d none) 0 = 0 := by
    show psd (skO B d) 0 = 0
    cases h9 : skO B d with
    | none => rfl
    | some s => have := skO_ok hW s h9; show (if s ≤ 0 then 60 else 0) = 0; rw [if_neg (by omega)]
  unfold b0F fst fi
  rw [Nat.mul_comm d]
  rw [h2, Nat.add_zero] at h1
  omega
theorem psd_le {sk : Option Nat} (h : ∀ s, sk = some s → 60 ≤ s ∧ s ≤ 1440) (x : Nat) : psd sk x ≤ x ∧ psd sk 0 = 0 := by
  cases sk with
  | none => exact ⟨Nat.zero_le _, rfl⟩
  | some s =>
    have := h s rfl
    constructor
    · show (if s ≤ x then 60 else 0) ≤ x; split <;> omega
    · show (if s ≤ 0 then 60 else 0) = 0; rw [if_neg (by omega)]
theorem skW_ok {B : Nat → Nat} {d : Nat} {aw : Option Nat} (hW : WBt B) : ∀ s, skW B d aw = some s → 60 ≤ s ∧ s ≤ 1440 := by
  intro s h
  cases aw with
  | none => exact skO_ok hW s h
  | some _ => cases h
/-- what the reference's clock says of the day -/
theorem clk_fi {B : Nat → Nat} {d f : Nat} {aw : Option Nat} (hW : WBt B) (ha : aw = none ∨ aw = some d) (hf : f ≤ 1439) : 1440 * d + f + 60 * mFi B aw 0 (1440 * d + f) (nB B 0) = b0F B d + f + psd (skW B d aw) f := by
  obtain ⟨n0, h⟩ := n0_ex hW d
  have h1 := fi_n0 (f := f) hW h ha hf
  have h2 := b0_n0 hW h
  omega
theorem clk_bk {B : Nat → Nat} {d x : Nat} {aw : Option Nat} (hW : WBt B) (ha : aw = none ∨ aw = some d) (hx : b0F B d ≤ x) (hx2 : x < b0F B d + 1500) : 60 * mBk B aw 0 x (nB B 0) + 1440 * d = b0F B d + psd (skW B d aw) (x - b0F B d) := by
  obtain ⟨n0, h⟩ := n0_ex hW d
  have h2 := b0_n0 hW h
  have h1 := bk_n0 (x := x) hW h ha (by omega) (by omega)
  rw [h2]
  omega
theorem inW_clk {B : Nat → Nat} {w b0 x : Nat} {sk : Option Nat} (h : ∀ s, sk = some s → 60 ≤ s ∧ s ≤ 1440) (h1 : B (86 + 5 * w + 1) < B (86 + 5 * w + 2)) (h2 : B (86 + 5 * w + 2) ≤ 1440) (hx : b0 ≤ x) (hx2 : x < b0 + 1500) : inW (WnB B b0 sk) w x ↔ B (86 + 5 * w + 1) ≤ x - b0 - psd sk (x - b0) ∧ x - b0 - psd sk (x - b0) < B (86 + 5 * w + 2) := by
  show (b0 + B (86 + 5 * w + 1) ≤ x ∧ x < b0 + wC1 B sk w) ∨ (b0 + 60 + wO2 B sk w ≤ x ∧ x < b0 + 60 + B (86 + 5 * w + 2)) ↔ _
  cases sk with
  | none => simp only [wC1, wO2, psd]; omega
  | some s =>
    have := h s rfl
    simp only [wC1, wO2, psd]
    by_cases c : s ≤ x - b0
    · rw [if_pos c]; omega
    · rw [if_neg c]; omega
theorem inW_f0 {B : Nat → Nat} {w b0 x : Nat} {sk : Option Nat} (h : ∀ s, sk = some s → 60 ≤ s ∧ s ≤ 1440) (hi : inW (WnB B b0 sk) w x) : b0 + B (86 + 5 * w + 1) + psd sk (B (86 + 5 * w + 1)) ≤ x ∧ x < b0 + 60 + B (86 + 5 * w + 2) := by
  have hi2 : (b0 + B (86 + 5 * w + 1) ≤ x ∧ x < b0 + wC1 B sk w) ∨ (b0 + 60 + wO2 B sk w ≤ x ∧ x < b0 + 60 + B (86 + 5 * w + 2)) := hi
  cases sk with
  | none => simp only [wC1, wO2, psd] at *; omega
  | some s =>
    have := h s rfl
    simp only [wC1, wO2, psd] at *
    split <;> omega
/-- the reference's ends as they grow -/
def enF (W : Wn) (w t : Nat) : Nat := match eb W w t with
  | none => 100000000
  | some s => s + W.2.2.2.2 w
def dnI (B : Nat → Nat) (d : Nat) (W : Wn) (k j : Nat) (D : Nat → Nat) : Prop := D 0 = 0 ∧ (∀ S, D S ≤ 100000000) ∧ (∀ S w, ((S < k ∧ w < B 85) ∨ (S = k ∧ w < j)) → S.testBit w = false → B (86 + 5 * w) = d → D S < 100000000 → ∀ s, eb W w (D S) = some s → D (S ||| 2 ^ w) ≤ s + W.2.2.2.2 w) ∧ (∀ S, D S < 100000000 → S = 0 ∨ ∃ w, w < B 85 ∧ S.testBit w = true ∧ B (86 + 5 * w) = d ∧ clr S w ≤ k ∧ D (clr S w) < 100000000 ∧ ∃ s, eb W w (D (clr S w)) = some s ∧ D S = s + W.2.2.2.2 w)
theorem dnI_0 {B : Nat → Nat} {d : Nat} {W : Wn} : dnI B d W 0 0 (fun S => if S = 0 then 0 else 100000000) := by
  refine ⟨rfl, fun S => by show (if S = 0 then 0 else 100000000) ≤ _; split <;> omega, fun S w h => by omega, fun S h => ?_⟩
  by_cases e : S = 0
  · exact Or.inl e
  · have h2 : (if S = 0 then 0 else 100000000) < 100000000 := h
    rw [if_neg e] at h2; omega
theorem dnI_skip {B : Nat → Nat} {d k j : Nat} {W : Wn} {D : Nat → Nat} (h : dnI B d W k j D) (hs : k.testBit j = true ∨ B (86 + 5 * j) ≠ d) : dnI B d W k (j + 1) D := by
  refine ⟨h.1, h.2.1, fun S w h1 h2 h3 => ?_, h.2.2.2⟩
  by_cases e : S = k ∧ w = j
  · obtain ⟨rfl, rfl⟩ := e
    rcases hs with h4 | h4
    · rw [h4] at h2; cases h2
    · exact absurd h3 h4
  · exact h.2.2.1 S w (by omega) h2 h3
theorem dnI_end {B : Nat → Nat} {d k j : Nat} {W : Wn} {D : Nat → Nat} (h : dnI B d W k j D) (hj : B 85 ≤ j ∨ 100000000 ≤ D k) : dnI B d W (k + 1) 0 D := by
  refine ⟨h.1, h.2.1, fun S w h1 h2 h3 h4 => ?_, fun S h1 => ?_⟩
  · by_cases e : S = k
    · subst e
      rcases hj with h5 | h5
      · exact h.2.2.1 S w (Or.inr ⟨rfl, by omega⟩) h2 h3 h4
      · omega
    · exact h.2.2.1 S w (by omega) h2 h3 h4
  · rcases h.2.2.2 S h1 with h2 | ⟨w, a1, a2, a3, a4, a5⟩
    · exact Or.inl h2
    · exact Or.inr ⟨w, a1, a2, a3, by omega, a5⟩
theorem dnI_up {B : Nat → Nat} {d k j : Nat} {W : Wn} {D : Nat → Nat} (hW : okWn W (B 85)) (h : dnI B d W k j D) (hj : j < B 85) (hb : k.testBit j = false) (hd : B (86 + 5 * j) = d) (hk : D k < 100000000) : dnI B d W k (j + 1) (fun S => if S = k ||| 2 ^ j then min (enF W j (D k)) (D S) else D S) := by
  have hto := or_ls hb
  have hlow : ∀ S, S ≤ k → (if S = k ||| 2 ^ j then min (enF W j (D k)) (D S) else D S) = D S := fun S hS => if_neg (by omega)
  have hle : ∀ S, (if S = k ||| 2 ^ j then min (enF W j (D k)) (D S) else D S) ≤ D S := fun S => by split <;> omega
  refine ⟨?_, fun S => Nat.le_trans (hle S) (h.2.1 S), fun S w h1 h2 h3 h4 s h5 => ?_, fun S h1 => ?_⟩
  · show (if 0 = k ||| 2 ^ j then _ else D 0) = 0
    rw [if_neg (by omega)]; exact h.1
  · have e1 : (fun S => if S = k ||| 2 ^ j then min (enF W j (D k)) (D S) else D S) S = D S := hlow S (by omega)
    rw [e1] at h4 h5
    by_cases e : S = k ∧ w = j
    · obtain ⟨rfl, rfl⟩ := e
      show (if S ||| 2 ^ w = S ||| 2 ^ w then _ else _) ≤ _
      rw [if_pos rfl]
      have : enF W w (D S) = s + W.2.2.2.2 w := by unfold enF; rw [h5]
      omega
    · exact Nat.le_trans (hle _) (h.2.2.1 S w (by omega) h2 h3 h4 s h5)
  · have h1' : (if S = k ||| 2 ^ j then min (enF W j (D k)) (D S) else D S) < 100000000 := h1
    have hfin : D S < 100000000 → (if S = k ||| 2 ^ j then min (enF W j (D k)) (D S) else D S) = D S → S = 0 ∨ ∃ w, w < B 85 ∧ S.testBit w = true ∧ B (86 + 5 * w) = d ∧ clr S w ≤ k ∧ (fun S => if S = k ||| 2 ^ j then min (enF W j (D k)) (D S) else D S) (clr S w) < 100000000 ∧ ∃ s, eb W w ((fun S => if S = k ||| 2 ^ j then min (enF W j (D k)) (D S) else D S) (clr S w)) = some s ∧ (fun S => if S = k ||| 2 ^ j then min (enF W j (D k)) (D S) else D S) S = s + W.2.2.2.2 w := by
      intro g1 g2
      rcases h.2.2.2 S g1 with a | ⟨w, a1, a2, a3, a4, a5, s, a6, a7⟩
      · exact Or.inl a
      · have e2 : (fun S => if S = k ||| 2 ^ j then min (enF W j (D k)) (D S) else D S) (clr S w) = D (clr S w) := hlow _ a4
        exact Or.inr ⟨w, a1, a2, a3, a4, by rw [e2]; exact a5, s, by rw [e2]; exact a6, by show (if S = k ||| 2 ^ j then _ else _) = _; rw [g2]; exact a7⟩
    by_cases e : S = k ||| 2 ^ j
    · rw [if_pos e] at h1'
      rcases Nat.lt_or_ge (enF W j (D k)) (D S) with c | c
      · right
        have hcl : clr S j = k := by rw [e, clr_or hb]
        have e2 : (fun S => if S = k ||| 2 ^ j then min (enF W j (D k)) (D S) else D S) (clr S j) = D k := by rw [hcl]; exact hlow k (Nat.le_refl _)
        have e3 : (fun S => if S = k ||| 2 ^ j then min (enF W j (D k)) (D S) else D S) S = enF W j (D k) := by show (if S = k ||| 2 ^ j then _ else _) = _; rw [if_pos e]; exact Nat.min_eq_left (Nat.le_of_lt c)
        refine ⟨j, hj, by rw [e, or_tb]; simp, hd, by omega, by rw [e2]; exact hk, ?_⟩
        have h9 : enF W j (D k) < 100000000 := by omega
        unfold enF at h9 e3
        cases h8 : eb W j (D k) with
        | none => rw [h8] at h9; exact absurd h9 (Nat.lt_irrefl _)
        | some s =>
          refine ⟨s, by rw [e2]; exact h8, ?_⟩
          have h7 : enF W j (D k) = s + W.2.2.2.2 j := by unfold enF; rw [h8]
          show (if S = k ||| 2 ^ j then _ else _) = _
          rw [if_pos e, h7]; omega
      · exact hfin (by rw [Nat.min_eq_right c] at h1'; exact h1') (by rw [if_pos e]; exact Nat.min_eq_right c)
    · rw [if_neg e] at h1'
      exact hfin h1' (by rw [if_neg e])
theorem dnI_n {B : Nat → Nat} {d : Nat} {W : Wn} {D : Nat → Nat} (h : dnI B d W (2 ^ B 85) 0 D) : dnR B d W D := by
  refine ⟨h.1, fun S w h1 h2 h3 h4 h5 s h6 => h.2.2.1 S w (Or.inl ⟨h1, h2⟩) h3 h4 h5 s h6, fun S h1 h2 => ?_⟩
  rcases h.2.2.2 S h2 with a | ⟨w, a1, a2, a3, a4, a5⟩
  · exact Or.inl a
  · exact Or.inr ⟨w, a1, a2, a3, a5⟩
