def bw (f : Nat → Bool) : Nat → Nat
  | 0 => 0
  | n + 1 => bw f n + if f n = true then 2 ^ n else 0
theorem bw_lt {f : Nat → Bool} : ∀ n, bw f n < 2 ^ n := by
  intro n
  induction n with
  | zero => simp [bw]
  | succ n ih => simp only [bw]; rw [Nat.pow_succ]; split <;> omega
theorem bw_tb {f : Nat → Bool} : ∀ n i, (bw f n).testBit i = (decide (i < n) && f i) := by
  intro n
  induction n with
  | zero => intro i; simp [bw]
  | succ n ih =>
    intro i
    simp only [bw]
    by_cases h : f n = true
    · rw [if_pos h, Nat.add_comm, show 2 ^ n + bw f n = 2 ^ n * 1 + bw f n by omega, Nat.testBit_two_pow_mul_add _ (bw_lt n)]
      by_cases c : i < n
      · rw [if_pos c, ih]; simp [c, show i < n + 1 by omega]
      · rw [if_neg c]
        by_cases e : i = n
        · subst e; simp [h]
        · have h9 : (1 : Nat).testBit (i - n) = false := by
            cases h9 : (1 : Nat).testBit (i - n) with
            | false => rfl
            | true => exact absurd (Nat.testBit_one_eq_true_iff_self_eq_zero.mp h9) (by omega)
          rw [h9]; simp [show ¬ i < n + 1 by omega]
    · rw [if_neg h, Nat.add_zero, ih]
      by_cases e : i = n
      · subst e; simp [h]
      · have : (i < n + 1) ↔ i < n := by omega
        simp [this]
theorem bw_S {f : Nat → Bool} {n : Nat} : bw f (n + 1) = if f n = true then bw f n ||| 2 ^ n else bw f n := by
  apply Nat.eq_of_testBit_eq
  intro i
  rw [bw_tb]
  by_cases h : f n = true
  · rw [if_pos h, Nat.testBit_or, bw_tb, Nat.testBit_two_pow]
    by_cases e : n = i
    · subst e; simp [h]
    · have : (i < n + 1) ↔ i < n := by omega
      simp [this, e]
  · rw [if_neg h, bw_tb]
    by_cases e : i = n
    · subst e; simp [h]
    · have : (i < n + 1) ↔ i < n := by omega
      simp [this]
theorem or_nI {a b : Nat} (ha : a < 2 ^ 31) (hb : b < 2 ^ 31) : nI a ||| nI b = nI (a ||| b) := by
  apply b_ext
  intro i hi
  rw [b_or, bt_nI (by omega) hi, bt_nI (by omega) hi, bt_nI (by have := Nat.or_lt_two_pow ha hb; omega) hi, Nat.testBit_or]
theorem shl_nI {i : Nat} (hi : i < 31) : nI 1 <<< (nI i &&& 31) = nI (2 ^ i) := by
  apply b_ext
  intro j hj
  have h31 : (2 : Nat) ^ i < 2 ^ 31 := Nat.pow_lt_pow_right (by omega) hi
  rw [b_shl i (by omega) _ hj, bt_nI (by omega) hj, Nat.testBit_two_pow, bt_nI (by omega) (by omega)]
  by_cases e : i = j
  · subst e; simp
  · rcases Nat.lt_or_ge j i with h2 | h2
    · simp [e, Nat.not_le.mpr h2]
    · have h3 : (1 : Nat).testBit (j - i) = false := by
        cases h9 : (1 : Nat).testBit (j - i) with
        | false => rfl
        | true => exact absurd (Nat.testBit_one_eq_true_iff_self_eq_zero.mp h9) (by omega)
      simp [e, h3]
theorem tb_dm {w i : Nat} : (if w.testBit i = true then 1 else 0 : Nat) = w / 2 ^ i % 2 := by
  rw [Nat.testBit_eq_decide_div_mod_eq]
  have : w / 2 ^ i % 2 = 0 ∨ w / 2 ^ i % 2 = 1 := by omega
  rcases this with h | h <;> simp [h]
theorem od_mt {V : Nat → Bool} {n : Nat} {mo : Nat → Nat → Nat} {a b : Nat} : ∀ v, odV V n mo a b v = ((((if mtV V n (2 * a) (2 * b) v = true then rel2 (mo a 0) (mo b 0) else 0) ||| (if mtV V n (2 * a) (2 * b + 1) v = true then rel2 (mo a 0) (mo b 1) else 0)) ||| (if mtV V n (2 * a + 1) (2 * b) v = true then rel2 (mo a 1) (mo b 0) else 0)) ||| (if mtV V n (2 * a + 1) (2 * b + 1) v = true then rel2 (mo a 1) (mo b 1) else 0)) := by
  intro v
  induction v with
  | zero => simp [odV, mtV]
  | succ v ih =>
    have e1 : 2 * a / 2 = a := by omega
    have e2 : (2 * a + 1) / 2 = a := by omega
    have e3 : 2 * b / 2 = b := by omega
    have e4 : (2 * b + 1) / 2 = b := by omega
    have e5 : 2 * a % 2 = 0 := by omega
    have e6 : (2 * a + 1) % 2 = 1 := by omega
    have e7 : 2 * b % 2 = 0 := by omega
    have e8 : (2 * b + 1) % 2 = 1 := by omega
    simp only [odV, mtV, e1, e2, e3, e4, e5, e6, e7, e8]
    by_cases hv : V v = true
    · rw [if_pos hv, ih]
      have ha : pkb n v a = 0 ∨ pkb n v a = 1 := by have := pkb_lt (n := n) (w := v) (p := a); omega
      have hb : pkb n v b = 0 ∨ pkb n v b = 1 := by have := pkb_lt (n := n) (w := v) (p := b); omega
      have key : ∀ x : Nat, x ||| x = x := fun x => Nat.or_self x
      rcases ha with h1 | h1 <;> rcases hb with h2 | h2 <;> simp only [hv, h1, h2, Bool.true_and, decide_true, Bool.and_true, Bool.or_true, if_true, Nat.zero_ne_one, Nat.one_ne_zero, decide_false, Bool.and_false, Bool.or_false, Bool.false_and] <;> generalize mtV V n (2 * a) (2 * b) v = m1 <;> generalize mtV V n (2 * a) (2 * b + 1) v = m2 <;> generalize mtV V n (2 * a + 1) (2 * b) v = m3 <;> generalize mtV V n (2 * a + 1) (2 * b + 1) v = m4 <;> generalize rel2 (mo a 0) (mo b 0) = r1 <;> generalize rel2 (mo a 0) (mo b 1) = r2 <;> generalize rel2 (mo a 1) (mo b 0) = r3 <;> generalize rel2 (mo a 1) (mo b 1) = r4 <;> (apply Nat.eq_of_testBit_eq; intro i; cases m1 <;> cases m2 <;> cases m3 <;> cases m4 <;> simp only [if_true, if_false, Bool.false_eq_true, Bool.true_eq_false, Nat.testBit_or, Nat.zero_testBit, Bool.or_false, Bool.false_or] <;> generalize r1.testBit i = t1 <;> generalize r2.testBit i = t2 <;> generalize r3.testBit i = t3 <;> generalize r4.testBit i = t4 <;> revert t1 t2 t3 t4 <;> decide)
    · rw [if_neg hv, ih]
      simp [hv]
theorem mt_hc {V : Nat → Bool} {n c q : Nat} (hc : c < 2) : ∀ v, mtV V n (2 * q + c) (2 * q + c) v = hcV V n c q v := by
  intro v
  induction v with
  | zero => rfl
  | succ v ih =>
    simp only [mtV, hcV]
    rw [ih, show (2 * q + c) / 2 = q by omega, show (2 * q + c) % 2 = c by omega, Bool.and_self]
theorem mt_l {V : Nat → Bool} {n i j : Nat} : ∀ v, mtV V n i j v = true → mtV V n i i v = true := by
  intro v
  induction v with
  | zero => intro h; simp [mtV] at h
  | succ v ih =>
    intro h
    simp only [mtV, Bool.or_eq_true, Bool.and_eq_true] at h ⊢
    rcases h with h | h
    · exact Or.inl (ih h)
    · exact Or.inr ⟨h.1, h.2.1, h.2.1⟩
/-- popcount by bytes -/
def pcn (x : Nat) : Nat → Nat
  | 0 => 0
  | k + 1 => pcn x k + if x.testBit k = true then 1 else 0
theorem pcn_k {x k : Nat} : pcn x (k + 1) = pcn x k + (if x.testBit k = true then 1 else 0) := rfl
def mkN (c : Nat) : Nat → Nat
  | 0 => 0
  | n + 1 => 256 * mkN c n + c
theorem and_sp {a c m k : Nat} (hc : c < 256) (hk : k < 256) : (256 * a + c) &&& (256 * m + k) = 256 * (a &&& m) + (c &&& k) := by
  apply Nat.eq_of_testBit_eq
  intro i
  have h8 : (256 : Nat) = 2 ^ 8 := rfl
  have hck : c &&& k < 2 ^ 8 := Nat.lt_of_le_of_lt Nat.and_le_left hc
  rw [Nat.testBit_and, h8, Nat.testBit_two_pow_mul_add _ hc, Nat.testBit_two_pow_mul_add _ hk, Nat.testBit_two_pow_mul_add _ hck]
  by_cases h : i < 8
  · simp [h, Nat.testBit_and]
  · simp [h, Nat.testBit_and]
def q1 (n x : Nat) : Nat := x - ((x / 2) &&& mkN 85 n)
def q2 (n x : Nat) : Nat := (x &&& mkN 51 n) + ((x / 4) &&& mkN 51 n)
def q3 (n x : Nat) : Nat := (x + x / 16) &&& mkN 15 n
def o1 (b : Nat) : Nat := b - ((b / 2) &&& 85)
def o2 (b : Nat) : Nat := (b &&& 51) + ((b / 4) &&& 51)
theorem k1 : ∀ r, r < 2 → ∀ b, b < 256 → (128 * r + b / 2) &&& 85 = (b / 2) &&& 85 := by decide +kernel
theorem k2 : ∀ r, r < 4 → ∀ b, b < 256 → (64 * r + b / 4) &&& 51 = (b / 4) &&& 51 := by decide +kernel
theorem k3 : ∀ b, b < 256 → o1 b < 256 ∧ o2 (o1 b) < 69 ∧ o2 (o1 b) % 16 ≤ 4 ∧ (o2 (o1 b) + o2 (o1 b) / 16) % 16 = pcn b 8 := by decide +kernel
theorem k4 : ∀ r, r < 5 → ∀ e, e < 69 → (e + e / 16 + 16 * r) &&& 15 = (e + e / 16) % 16 := by decide +kernel
theorem q1_S {n q b : Nat} (hb : b < 256) : q1 (n + 1) (256 * q + b) = 256 * q1 n q + o1 b := by
  unfold q1 o1
  have e : (256 * q + b) / 2 = 256 * (q / 2) + (128 * (q % 2) + b / 2) := by omega
  rw [e, show mkN 85 (n + 1) = 256 * mkN 85 n + 85 from rfl, and_sp (by omega) (by omega), k1 _ (by omega) _ hb]
  have h1 : q / 2 &&& mkN 85 n ≤ q / 2 := Nat.and_le_left
  have h2 : b / 2 &&& 85 ≤ b / 2 := Nat.and_le_left
  omega
theorem q2_S {n q b : Nat} (hb : b < 256) : q2 (n + 1) (256 * q + b) = 256 * q2 n q + o2 b := by
  unfold q2 o2
  have e : (256 * q + b) / 4 = 256 * (q / 4) + (64 * (q % 4) + b / 4) := by omega
  rw [e, show mkN 51 (n + 1) = 256 * mkN 51 n + 51 from rfl, and_sp hb (by omega), and_sp (by omega) (by omega), k2 _ (by omega) _ hb]
  omega
theorem q3_S {n q e : Nat} (he : e < 69) (hq : q % 16 ≤ 4) : q3 (n + 1) (256 * q + e) = 256 * q3 n q + (e + e / 16) % 16 := by
  unfold q3
  have h : 256 * q + e + (256 * q + e) / 16 = 256 * (q + q / 16) + (e + e / 16 + 16 * (q % 16)) := by omega
  rw [h, show mkN 15 (n + 1) = 256 * mkN 15 n + 15 from rfl, and_sp (by omega) (by omega), k4 _ (by omega) _ he]
def Q (n x : Nat) : Nat := q3 n (q2 n (q1 n x))
theorem q2_lo {n : Nat} : ∀ x, x < 256 ^ n → q2 n (q1 n x) % 16 ≤ 4 := by
  intro x hx
  cases n with
  | zero => simp [q2, q1, mkN]
  | succ n =>
    have e : x = 256 * (x / 256) + x % 256 := by omega
    have hb : x % 256 < 256 := Nat.mod_lt _ (by omega)
    have h3 := k3 _ hb
    rw [e, q1_S hb, q2_S h3.1]
    omega
theorem Q_S {n q b : Nat} (hb : b < 256) (hq : q < 256 ^ n) : Q (n + 1) (256 * q + b) = 256 * Q n q + pcn b 8 := by
  have h3 := k3 _ hb
  unfold Q
  rw [q1_S hb, q2_S h3.1, q3_S h3.2.1 (q2_lo q hq), h3.2.2.2]
theorem pcn_le {x : Nat} : ∀ n, pcn x n ≤ n := by
  intro n
  induction n with
  | zero => simp [pcn]
  | succ n ih => simp only [pcn]; split <;> omega
theorem pcn_sp {q b : Nat} (hb : b < 256) : ∀ n, pcn (256 * q + b) (8 + n) = pcn b 8 + pcn q n := by
  have ht : ∀ i, (256 * q + b).testBit i = if i < 8 then b.testBit i else q.testBit (i - 8) := fun i => Nat.testBit_two_pow_mul_add (i := 8) q hb i
  have h8 : ∀ k, k ≤ 8 → pcn (256 * q + b) k = pcn b k := by
    intro k
    induction k with
    | zero => intro _; rfl
    | succ k ih => intro hk; rw [pcn_k, pcn_k, ih (by omega), ht k]; simp [show k < 8 by omega]
  intro n
  induction n with
  | zero => rw [Nat.add_zero, h8 8 (Nat.le_refl _)]; rfl
  | succ n ih =>
    rw [← Nat.add_assoc, pcn_k (x := 256 * q + b) (k := 8 + n), pcn_k (x := q) (k := n), ih, ht (8 + n), show 8 + n - 8 = n by omega]
    simp only [show ¬ 8 + n < 8 by omega, if_false]
    omega
/-- the sum of the bytes -/
theorem Q_sum {x : Nat} (hx : x < 2 ^ 64) : ∃ c0 c1 c2 c3 c4 c5 c6 c7, c0 ≤ 8 ∧ c1 ≤ 8 ∧ c2 ≤ 8 ∧ c3 ≤ 8 ∧ c4 ≤ 8 ∧ c5 ≤ 8 ∧ c6 ≤ 8 ∧ c7 ≤ 8 ∧ Q 8 x = 256 * (256 * (256 * (256 * (256 * (256 * (256 * c7 + c6) + c5) + c4) + c3) + c2) + c1) + c0 ∧ pcn x 64 = c0 + c1 + c2 + c3 + c4 + c5 + c6 + c7 := by
  have st : ∀ n x, x < 256 ^ (n + 1) → ∃ c, c ≤ 8 ∧ x / 256 < 256 ^ n ∧ Q (n + 1) x = 256 * Q n (x / 256) + c ∧ ∀ m, pcn x (8 + m) = c + pcn (x / 256) m := by
    intro n x hx
    have hb : x % 256 < 256 := Nat.mod_lt _ (by omega)
    have hq : x / 256 < 256 ^ n := by rw [Nat.pow_succ] at hx; omega
    have e : x = 256 * (x / 256) + x % 256 := by omega
    refine ⟨pcn (x % 256) 8, pcn_le 8, hq, ?_, fun m => ?_⟩
    · have := Q_S hb hq; rw [← e] at this; exact this
    · have := pcn_sp (q := x / 256) hb m; rw [← e] at this; exact this
  obtain ⟨c0, a0, b0, d0, e0⟩ := st 7 x hx
  obtain ⟨c1, a1, b1, d1, e1⟩ := st 6 _ b0
  obtain ⟨c2, a2, b2, d2, e2⟩ := st 5 _ b1
  obtain ⟨c3, a3, b3, d3, e3⟩ := st 4 _ b2
  obtain ⟨c4, a4, b4, d4, e4⟩ := st 3 _ b3
  obtain ⟨c5, a5, b5, d5, e5⟩ := st 2 _ b4
  obtain ⟨c6, a6, b6, d6, e6⟩ := st 1 _ b5
  obtain ⟨c7, a7, b7, d7, e7⟩ := st 0 _ b6
  refine ⟨c0, c1, c2, c3, c4, c5, c6, c7, a0, a1, a2, a3, a4, a5, a6, a7, ?_, ?_⟩
  · rw [d0, d1, d2, d3, d4, d5, d6, d7]
    have : Q 0 (x / 256 / 256 / 256 / 256 / 256 / 256 / 256 / 256) = 0 := by simp [Q, q3, mkN]
    rw [this, Nat.mul_zero, Nat.zero_add]
  · rw [show (64 : Nat) = 8 + 56 from rfl, e0, show (56 : Nat) = 8 + 48 from rfl, e1, show (48 : Nat) = 8 + 40 from rfl, e2, show (40 : Nat) = 8 + 32 from rfl, e3, show (32 : Nat) = 8 + 24 from rfl, e4, show (24 : Nat) = 8 + 16 from rfl, e5, show (16 : Nat) = 8 + 8 from rfl, e6, show (8 : Nat) = 8 + 0 from rfl, e7]
    simp only [pcn]
    omega
theorem pop_d {z A1 A2 A3 c0 c1 c2 : Nat} (h0 : c0 ≤ 8) (h1 : c1 ≤ 8) (h2 : c2 ≤ 8) (hz : z = 65536 * A2 + (256 * c1 + c0)) (h1z : A1 = 65536 * A3 + (256 * c2 + c1)) : (z + A1) / 65536 = A2 + A3 := by
  have e : z + A1 = 65536 * (A2 + A3) + (256 * c1 + c0 + 256 * c2 + c1) := by omega
  rw [e, Nat.mul_add_div (by omega), Nat.div_eq_of_lt (by omega)]; rfl
theorem pop_e {u K s : Nat} (hu : u = 4294967296 * K + s) (hs : s < 4294967296) : u / 4294967296 = K := by
  rw [hu, Nat.mul_add_div (by omega), Nat.div_eq_of_lt hs]; rfl
theorem pop_f {u K s : Nat} (hu : u = 256 * K + s) (hs : s < 128) : u % 128 = s := by
  rw [hu, show 256 * K + s = 128 * (2 * K) + s by omega, Nat.mul_add_mod, Nat.mod_eq_of_lt hs]
set_option maxHeartbeats 1000000 in
theorem pop_h {z A1 A2 A3 A4 A5 A6 A7 c0 c1 c2 c3 c4 c5 c6 : Nat} (a0 : c0 ≤ 8) (a1 : c1 ≤ 8) (a2 : c2 ≤ 8) (a3 : c3 ≤ 8) (a4 : c4 ≤ 8) (a5 : c5 ≤ 8) (a6 : c6 ≤ 8) (a7 : A7 ≤ 8) (h0 : z = 256 * A1 + c0) (h1 : A1 = 256 * A2 + c1) (h2 : A2 = 256 * A3 + c2) (h3 : A3 = 256 * A4 + c3) (h4 : A4 = 256 * A5 + c4) (h5 : A5 = 256 * A6 + c5) (h6 : A6 = 256 * A7 + c6) : (z + z / 256 + (z + z / 256) / 65536 + (z + z / 256 + (z + z / 256) / 65536) / 4294967296) % 128 = c0 + c1 + c2 + c3 + c4 + c5 + c6 + A7 := by
  have e1 : z / 256 = A1 := by rw [h0, Nat.mul_add_div (by omega), Nat.div_eq_of_lt (by omega)]; rfl
  have e2 : (z + A1) / 65536 = A2 + A3 := pop_d (c0 := c0) (c1 := c1) (c2 := c2) a0 a1 a2 (by omega) (by omega)
  have e3 : (z + A1 + (A2 + A3)) / 4294967296 = A4 + A5 + A6 + A7 := by
    refine pop_e (s := (16777216 * c3 + 65536 * c2 + 256 * c1 + c0) + (16777216 * c4 + 65536 * c3 + 256 * c2 + c1) + (16777216 * c5 + 65536 * c4 + 256 * c3 + c2) + (16777216 * c6 + 65536 * c5 + 256 * c4 + c3)) ?_ ?_
    · have g0 : z = 4294967296 * A4 + (16777216 * c3 + 65536 * c2 + 256 * c1 + c0) := by clear e1 e2; subst h0 h1 h2 h3; clear h4 h5 h6; omega
      have g1 : A1 = 4294967296 * A5 + (16777216 * c4 + 65536 * c3 + 256 * c2 + c1) := by clear e1 e2 g0 h0 h5 h6; subst h1 h2 h3 h4; omega
      have g2 : A2 = 4294967296 * A6 + (16777216 * c5 + 65536 * c4 + 256 * c3 + c2) := by clear e1 e2 g0 g1 h0 h1 h6; subst h2 h3 h4 h5; omega
      have g3 : A3 = 4294967296 * A7 + (16777216 * c6 + 65536 * c5 + 256 * c4 + c3) := by clear e1 e2 g0 g1 g2 h0 h1 h2; subst h3 h4 h5 h6; omega
      clear h0 h1 h2 h3 h4 h5 h6 e1 e2
      generalize 16777216 * c3 + 65536 * c2 + 256 * c1 + c0 = s0 at *
      generalize 16777216 * c4 + 65536 * c3 + 256 * c2 + c1 = s1 at *
      generalize 16777216 * c5 + 65536 * c4 + 256 * c3 + c2 = s2 at *
      generalize 16777216 * c6 + 65536 * c5 + 256 * c4 + c3 = s3 at *
      omega
    · clear h0 h1 h2 h3 h4 h5 h6 e1 e2; omega
  rw [e1, e2, e3]
  refine pop_f (K := A1 + A2 + A3 + A4 + A5 + A6 + A7) ?_ (by clear h0 h1 h2 h3 h4 h5 h6 e1 e2 e3; omega)
  clear e1 e2 e3 a0 a1 a2 a3 a4 a5 a6 a7
  omega
theorem pop64 {x : Nat} (hx : x < 2 ^ 64) : ∃ z, Q 8 x = z ∧ z < 2 ^ 60 ∧ (z + z / 256 + (z + z / 256) / 65536 + (z + z / 256 + (z + z / 256) / 65536) / 4294967296) % 128 = pcn x 64 := by
  obtain ⟨c0, c1, c2, c3, c4, c5, c6, c7, a0, a1, a2, a3, a4, a5, a6, a7, hz, hp⟩ := Q_sum hx
  refine ⟨_, rfl, ?_, ?_⟩
  · rw [hz]; clear hz hp; omega
  · rw [hp]
    exact pop_h a0 a1 a2 a3 a4 a5 a6 a7 hz rfl rfl rfl rfl rfl rfl
