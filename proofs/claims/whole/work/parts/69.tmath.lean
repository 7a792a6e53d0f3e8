/-! the reference's worlds: by papers, one after the other -/
def tbF (bits : Nat) : Nat → Bool := fun i => bits.testBit i
theorem szB_t {B : Nat → Nat} {bits : Nat} : szB B bits = cvV (tbF bits) (B 352) := rfl
theorem meB_t {B : Nat → Nat} {bits j : Nat} : meB B bits j = nwV (tbF bits) j (B 352) := rfl
theorem meB_cv {B : Nat → Nat} {bits q : Nat} (hq : q < B 352) (ht : tbF bits q = true) : meB B bits (cvV (tbF bits) q) = q := nwV_eq (V := tbF bits) ht rfl _ hq
/-- is rule k asked at paper p, and does it hold -/
def aqB (B : Nat → Nat) (bits p k : Nat) : Bool := (decide (B (402 + 4 * k + 1) = p) || decide (B (402 + 4 * k + 2) = p)) && (decide (B (402 + 4 * k + 1) ≤ p) && (decide (B (402 + 4 * k + 2) ≤ p) && (tbF bits (B (402 + 4 * k + 1)) && tbF bits (B (402 + 4 * k + 2)))))
def hlB (B : Nat → Nat) (bits p : Nat) (mo : Nat → Nat) : Nat → Bool
  | 0 => true
  | k + 1 => hlB B bits p mo k && (!aqB B bits p k || rlB B k (mo (B (402 + 4 * k + 1))) (mo (B (402 + 4 * k + 2))))
theorem hlB_iff {B : Nat → Nat} {bits p : Nat} {mo : Nat → Nat} : ∀ n, hlB B bits p mo n = false ↔ ∃ k, k < n ∧ aqB B bits p k = true ∧ rlB B k (mo (B (402 + 4 * k + 1))) (mo (B (402 + 4 * k + 2))) = false := by
  intro n
  induction n with
  | zero => simp [hlB]
  | succ n ih =>
    simp only [hlB, Bool.and_eq_false_iff, Bool.or_eq_false_iff, Bool.not_eq_false', ih]
    constructor
    · rintro (⟨k, h1, h2⟩ | h)
      · exact ⟨k, by omega, h2⟩
      · exact ⟨n, by omega, h⟩
    · rintro ⟨k, h1, h2⟩
      by_cases e : k = n
      · subst e; exact Or.inr h2
      · exact Or.inl ⟨k, by omega, h2⟩
theorem bdr_iff {cl : Nat → Nat → Bool} {mem : Nat → Nat} {u i : Nat} : ∀ n, bdr cl mem u i n = true ↔ ∃ j, j < n ∧ cl (2 * mem j + u / 2 ^ (i - j) % 2) (2 * mem i + u % 2) = true := by
  intro n
  induction n with
  | zero => simp [bdr]
  | succ n ih =>
    simp only [bdr, Bool.or_eq_true, ih]
    constructor
    · rintro (⟨k, h1, h2⟩ | h)
      · exact ⟨k, by omega, h2⟩
      · exact ⟨n, by omega, h⟩
    · rintro ⟨k, h1, h2⟩
      by_cases e : k = n
      · subst e; exact Or.inr h2
      · exact Or.inl ⟨k, by omega, h2⟩
theorem claB_iff {B : Nat → Nat} {i j : Nat} : ∀ n, claB B n i j = true ↔ (i = j ∧ myB B i = false) ∨ ∃ k, k < n ∧ (bad1 B k i j = true ∨ bad1 B k j i = true) := by
  intro n
  induction n with
  | zero => simp [claB]
  | succ n ih =>
    simp only [claB, Bool.or_eq_true, ih]
    constructor
    · rintro ((h | ⟨k, h1, h2⟩) | h)
      · exact Or.inl h
      · exact Or.inr ⟨k, by omega, h2⟩
      · exact Or.inr ⟨n, by omega, h⟩
    · rintro (h | ⟨k, h1, h2⟩)
      · exact Or.inl (Or.inl h)
      · by_cases e : k = n
        · subst e; exact Or.inr h2
        · exact Or.inl (Or.inr ⟨k, by omega, h2⟩)
/-- the moment of paper q, of r picks so far -/
def moq (B : Nat → Nat) (bits r u q : Nat) : Nat := mcB B (2 * q + u / 2 ^ (r - 1 - cvV (tbF bits) q) % 2)
theorem bad1_iff {B : Nat → Nat} {k i j : Nat} : bad1 B k i j = true ↔ B (402 + 4 * k + 1) = i / 2 ∧ B (402 + 4 * k + 2) = j / 2 ∧ rlB B k (mcB B i) (mcB B j) = false := by
  simp only [bad1, Bool.and_eq_true, decide_eq_true_eq, Bool.not_eq_true', and_assoc]
theorem tie {B : Nat → Nat} {bits p u : Nat} (hW : WB B) (hp : p < B 352) (ht : tbF bits p = true) : bdu (clB B) (meB B bits) u (cvV (tbF bits) p) = true ↔ myB B (2 * p + u % 2) = false ∨ hlB B bits p (moq B bits (cvV (tbF bits) p + 1) u) (B 401) = false := by
  have hmp := meB_cv hp ht
  unfold bdu
  rw [bdr_iff, hlB_iff]
  generalize hr : cvV (tbF bits) p = r at *
  have key : ∀ j, j < r → ∃ q, q < p ∧ tbF bits q = true ∧ cvV (tbF bits) q = j ∧ meB B bits j = q := by
    intro j hj
    obtain ⟨q, h1, h2, h3⟩ := nwV_ex (V := tbF bits) p (by rw [hr]; exact hj)
    refine ⟨q, h1, h2, h3, ?_⟩
    rw [← h3]; exact meB_cv (by omega) h2
  have hmq : ∀ q, q < p → tbF bits q = true → cvV (tbF bits) q < r ∧ meB B bits (cvV (tbF bits) q) = q := by
    intro q hq h
    have := cvV_lt h hq
    exact ⟨by omega, meB_cv (by omega) h⟩
  have hmo : ∀ q, moq B bits (r + 1) u q = mcB B (2 * q + u / 2 ^ (r - cvV (tbF bits) q) % 2) := by
    intro q
    unfold moq
    rw [show r + 1 - 1 - cvV (tbF bits) q = r - cvV (tbF bits) q by omega]
  have hmop : moq B bits (r + 1) u p = mcB B (2 * p + u % 2) := by
    rw [hmo, hr, Nat.sub_self, Nat.pow_zero, Nat.div_one]
  constructor
  · rintro ⟨j, hj, hc⟩
    rw [hmp] at hc
    rcases (claB_iff _).mp hc with ⟨h1, h2⟩ | ⟨k, hk, h⟩
    · left; rw [← h1]; exact h2
    · right
      have hne := (hW.2.2.2.2.2.2 k hk).2.2.2.1
      rcases h with h | h
      · obtain ⟨h1, h2, h3⟩ := bad1_iff.mp h
        rw [show (2 * meB B bits j + u / 2 ^ (r - j) % 2) / 2 = meB B bits j by omega] at h1
        rw [show (2 * p + u % 2) / 2 = p by omega] at h2
        have hjr : j < r := by
          rcases Nat.lt_or_ge j r with h9 | h9
          · exact h9
          · rw [show j = r by omega, hmp] at h1; omega
        obtain ⟨q, q1, q2, q3, q4⟩ := key j hjr
        rw [q4] at h1 h3
        refine ⟨k, hk, ?_, ?_⟩
        · unfold aqB; rw [h1, h2]; simp [q2, ht]; omega
        · rw [h1, h2, hmop, hmo, q3]; exact h3
      · obtain ⟨h1, h2, h3⟩ := bad1_iff.mp h
        rw [show (2 * meB B bits j + u / 2 ^ (r - j) % 2) / 2 = meB B bits j by omega] at h2
        rw [show (2 * p + u % 2) / 2 = p by omega] at h1
        have hjr : j < r := by
          rcases Nat.lt_or_ge j r with h9 | h9
          · exact h9
          · rw [show j = r by omega, hmp] at h2; omega
        obtain ⟨q, q1, q2, q3, q4⟩ := key j hjr
        rw [q4] at h2 h3
        refine ⟨k, hk, ?_, ?_⟩
        · unfold aqB; rw [h1, h2]; simp [q2, ht]; omega
        · rw [h1, h2, hmop, hmo, q3]; exact h3
  · rintro (h | ⟨k, hk, h1, h2⟩)
    · refine ⟨r, by omega, (claB_iff _).mpr (Or.inl ?_)⟩
      rw [Nat.sub_self, Nat.pow_zero, Nat.div_one, hmp]
      exact ⟨rfl, h⟩
    · have hne := (hW.2.2.2.2.2.2 k hk).2.2.2.1
      simp only [aqB, Bool.and_eq_true, Bool.or_eq_true, decide_eq_true_eq] at h1
      obtain ⟨hab, ha, hb, ta, tb⟩ := h1
      rcases hab with e | e
      · obtain ⟨c1, c2⟩ := hmq _ (by omega) tb
        refine ⟨cvV (tbF bits) (B (402 + 4 * k + 2)), by omega, (claB_iff _).mpr (Or.inr ⟨k, hk, Or.inr (bad1_iff.mpr ?_)⟩)⟩
        rw [hmp, c2]
        refine ⟨by omega, by omega, ?_⟩
        rw [e, hmop, hmo] at h2; exact h2
      · obtain ⟨c1, c2⟩ := hmq _ (by omega) ta
        refine ⟨cvV (tbF bits) (B (402 + 4 * k + 1)), by omega, (claB_iff _).mpr (Or.inr ⟨k, hk, Or.inl (bad1_iff.mpr ?_)⟩)⟩
        rw [hmp, c2]
        refine ⟨by omega, by omega, ?_⟩
        rw [e, hmop, hmo] at h2; exact h2
/-- the stretch of worlds under a prefix -/
theorem str_no {cl : Nat → Nat → Bool} {mem : Nat → Nat} {n r u w : Nat} (hr : r < n) (h : bdu cl mem u r = true) (h1 : u * 2 ^ (n - (r + 1)) ≤ w) (h2 : w < (u + 1) * 2 ^ (n - (r + 1))) : gdP cl mem n w = false := by
  refine bdu_no hr ?_
  rw [show n - 1 - r = n - (r + 1) by omega, Nat.div_eq_of_lt_le h1 h2]
  exact h
theorem str_2 {n r u : Nat} (hr : r < n) : u * 2 ^ (n - r) = (2 * u) * 2 ^ (n - (r + 1)) := by
  rw [show n - r = (n - (r + 1)) + 1 by omega, Nat.pow_succ, Nat.mul_comm 2 u, Nat.mul_assoc u 2, Nat.mul_comm 2 (2 ^ _)]
def moF (B : Nat → Nat) (p c : Nat) : Nat := mcB B (2 * p + c)
/-- what was noted of the worlds below v -/
def NT (μ : Mem) (m : Nat) (B : Nat → Nat) (v : Nat) : Prop := 0 < cvV (VF B) v → ∀ a, a < B 352 → gI μ (m + 11) a = nI (lsV (VF B) (B 352) (moF B) a v) ∧ gI μ (m + 12) a = nI (msV (VF B) (B 352) (moF B) a v) ∧ ∀ b, b < B 352 → gI μ (m + 13) (12 * a + b) = nI (odV (VF B) (B 352) (moF B) a b v)
theorem NT_skip {μ : Mem} {m : Nat} {B : Nat → Nat} {v v2 : Nat} (h : NT μ m B v) (hl : v ≤ v2) (hs : ∀ x, v ≤ x → x < v2 → VF B x = false) : NT μ m B v2 := by
  intro h0 a ha
  have e : cvV (VF B) v2 = cvV (VF B) v := skip2 (F := cvV (VF B)) hl (fun x h1 h2 => cvV_no (hs x h1 h2))
  have e1 : lsV (VF B) (B 352) (moF B) a v2 = lsV (VF B) (B 352) (moF B) a v := skip2 (F := lsV (VF B) (B 352) (moF B) a) hl (fun x h1 h2 => by simp [lsV, hs x h1 h2])
  have e2 : msV (VF B) (B 352) (moF B) a v2 = msV (VF B) (B 352) (moF B) a v := skip2 (F := msV (VF B) (B 352) (moF B) a) hl (fun x h1 h2 => by simp [msV, hs x h1 h2])
  obtain ⟨g1, g2, g3⟩ := h (by omega) a ha
  refine ⟨by rw [e1]; exact g1, by rw [e2]; exact g2, fun b hb => ?_⟩
  have e3 : odV (VF B) (B 352) (moF B) a b v2 = odV (VF B) (B 352) (moF B) a b v := skip2 (F := odV (VF B) (B 352) (moF B) a b) hl (fun x h1 h2 => by simp [odV, hs x h1 h2])
  rw [e3]; exact g3 b hb
theorem ls_lt {V : Nat → Bool} {n p K : Nat} {mo : Nat → Nat → Nat} (h : ∀ c, c < 2 → mo p c < K) (hK : 0 < K) : ∀ v, lsV V n mo p v < K ∧ msV V n mo p v < K := by
  intro v
  induction v with
  | zero => exact ⟨hK, hK⟩
  | succ v ih =>
    have hb := h (pkb n v p) pkb_lt
    simp only [lsV, msV]
    refine ⟨?_, ?_⟩
    · split
      · split
        · exact hb
        · exact ih.1
      · exact ih.1
    · split
      · split
        · exact hb
        · exact ih.2
      · exact ih.2
theorem moF_lt {B : Nat → Nat} (hW : WB B) {a c : Nat} (ha : a < B 352) (hc : c < 2) : moF B a c < 2 ^ 30 := mcB_le hW (by omega)
theorem odV_lt {V : Nat → Bool} {n a b : Nat} {mo : Nat → Nat → Nat} : ∀ v, odV V n mo a b v < 8 := by
  intro v
  induction v with
  | zero => simp [odV]
  | succ v ih =>
    simp only [odV]
    split
    · refine Nat.or_lt_two_pow (n := 3) ih ?_
      unfold rel2; split
      · omega
      · split <;> omega
    · exact ih
/-- what the reference keeps while it seeks; lo: the worlds below are seen -/
def TP (μ : Mem) (m : Nat) (B : Nat → Nat) (bits : Nat) (ask : Option Nat) (v : Nat) : Prop := gI μ m 18 = nI (cvV (VS B bits) v) ∧ gI μ m 19 = oI ask ∧ (∀ a, ask = some a → cvV (VS B bits) v ≤ a ∧ a < 2 ^ 31) ∧ (bits = FB B ∨ ask = some 0) ∧ (bits = FB B → NT μ m B v)
theorem TP_skip {μ : Mem} {m : Nat} {B : Nat → Nat} {bits v v2 : Nat} {ask : Option Nat} (h : TP μ m B bits ask v) (hl : v ≤ v2) (hs : ∀ x, v ≤ x → x < v2 → VS B bits x = false) : TP μ m B bits ask v2 := by
  have e : cvV (VS B bits) v2 = cvV (VS B bits) v := skip2 (F := cvV (VS B bits)) hl (fun x h1 h2 => cvV_no (hs x h1 h2))
  obtain ⟨h1, h2, h3, h4, h5⟩ := h
  refine ⟨by rw [e]; exact h1, h2, fun a ha => by rw [e]; exact h3 a ha, h4, fun hb => ?_⟩
  have := h5 hb
  subst hb
  exact NT_skip this hl hs
def ST (m : Nat) : Nat → Nat → Prop := fun o k => o = m + 10 ∨ o = m + 11 ∨ o = m + 12 ∨ o = m + 13 ∨ (o = m ∧ k = 18)
theorem TP_same {S : Nat → Nat → Prop} {μ ν : Mem} {m : Nat} {B : Nat → Nat} {bits v : Nat} {ask : Option Nat} (h : TP μ m B bits ask v) (hs : same S μ ν) (h18 : ¬ S m 18) (h19 : ¬ S m 19) (h11 : ∀ k, ¬ S (m + 11) k) (h12 : ∀ k, ¬ S (m + 12) k) (h13 : ∀ k, ¬ S (m + 13) k) : TP ν m B bits ask v := by
  obtain ⟨g1, g2, g3, g4, g5⟩ := h
  refine ⟨by rw [(hs.2.2 _ _ h18).1]; exact g1, by rw [(hs.2.2 _ _ h19).1]; exact g2, g3, g4, fun hb h0 a ha => ?_⟩
  obtain ⟨f1, f2, f3⟩ := g5 hb h0 a ha
  exact ⟨by rw [(hs.2.2 _ _ (h11 a)).1]; exact f1, by rw [(hs.2.2 _ _ (h12 a)).1]; exact f2, fun b hb2 => by rw [(hs.2.2 _ _ (h13 _)).1]; exact f3 b hb2⟩
/-- the moments of the papers before p -/
def MOQ (μ : Mem) (m : Nat) (B : Nat → Nat) (bits p r u : Nat) : Prop := ∀ q, q < p → tbF bits q = true → gI μ (m + 10) q = nI (moq B bits r u q)
theorem moq_S {B : Nat → Nat} {bits p u c q : Nat} (hq : q < p) (ht : tbF bits q = true) (hc : c < 2) : moq B bits (cvV (tbF bits) p + 1) (2 * u + c) q = moq B bits (cvV (tbF bits) p) u q := by
  have := cvV_lt ht hq
  unfold moq
  rw [show cvV (tbF bits) p + 1 - 1 - cvV (tbF bits) q = (cvV (tbF bits) p - 1 - cvV (tbF bits) q) + 1 by omega, Nat.pow_succ', ← Nat.div_div_eq_div_mul, show (2 * u + c) / 2 = u by omega]
theorem moq_p {B : Nat → Nat} {bits p u c : Nat} (hc : c < 2) : moq B bits (cvV (tbF bits) p + 1) (2 * u + c) p = mcB B (2 * p + c) := by
  unfold moq
  rw [show cvV (tbF bits) p + 1 - 1 - cvV (tbF bits) p = 0 by omega, Nat.pow_zero, Nat.div_one, show (2 * u + c) % 2 = c by omega]
theorem moq_F {B : Nat → Nat} {u q : Nat} (hq : q < B 352) : moq B (FB B) (szB B (FB B)) u q = moF B q (pkb (B 352) u q) := by
  unfold moq moF pkb
  rw [szB_F, show cvV (tbF (FB B)) q = q from cv_FB q (by omega)]
theorem moq_lt {B : Nat → Nat} (hW : WB B) {bits r u q : Nat} (hq : q < B 352) : moq B bits r u q < 2 ^ 30 := mcB_le hW (by have : u / 2 ^ (r - 1 - cvV (tbF bits) q) % 2 < 2 := Nat.mod_lt _ (by omega); omega)
