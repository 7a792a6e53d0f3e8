/-- a clock of the class: its row of strokes lies behind it -/
def isClk (μ : Mem) (c : Nat) : Prop := μ.1[c]? = some (.inl 1) ∧ gR μ c 0 = some (c + 1) ∧ μ.1[c + 1]? = some (.inr (0, 12))
def clk (μ : Mem) (c : Nat) (f : Nat → Nat) (n : Nat) : Prop := isClk μ c ∧ gI μ c 1 = nI n ∧ n ≤ 12 ∧ ∀ k, k < n → gI μ (c + 1) k = nI (f k) ∧ f k ≤ 6000000
theorem loopU {P : Nat → Prop} (n : Nat) (h : ∀ s, s ≤ n → (s < n → P (s + 1)) → P s) : ∀ s, s ≤ n → P s := by
  have h1 : ∀ m s, s ≤ n → n - s ≤ m → P s := by
    intro m
    induction m with
    | zero => intro s hs hm; exact h s hs (fun hlt => by omega)
    | succ m ih => intro s hs hm; exact h s hs (fun hlt => ih (s + 1) (by omega) (by omega))
  exact fun s hs => h1 (n - s) s hs (Nat.le_refl _)
/-- how many strokes, from place s on, are no later than t -/
def upTo (f : Nat → Nat) (t : Nat) : Nat → Nat → Nat
  | 0, s => s
  | k + 1, s => if f s ≤ t then upTo f t k (s + 1) else s
def bks (f : Nat → Nat) (m : Nat) : Nat → Nat → Nat
  | 0, s => s
  | k + 1, s => if f s + 60 * s ≤ m then bks f m k (s + 1) else s
theorem upTo_e {f : Nat → Nat} {t n s : Nat} (h : n ≤ s) : upTo f t (n - s) s = s := by
  rw [Nat.sub_eq_zero_of_le h]; rfl
theorem upTo_t {f : Nat → Nat} {t n s : Nat} (h : s < n) (hf : f s ≤ t) : upTo f t (n - s) s = upTo f t (n - (s + 1)) (s + 1) := by
  rw [show n - s = (n - (s + 1)) + 1 by omega]
  simp [upTo, hf]
theorem upTo_f {f : Nat → Nat} {t n s : Nat} (h : s < n) (hf : t < f s) : upTo f t (n - s) s = s := by
  rw [show n - s = (n - (s + 1)) + 1 by omega]
  simp [upTo, Nat.not_le.mpr hf]
theorem upTo_le {f : Nat → Nat} {t : Nat} : ∀ k s, upTo f t k s ≤ s + k := by
  intro k
  induction k with
  | zero => intro s; simp [upTo]
  | succ k ih =>
    intro s
    simp only [upTo]
    split
    · have := ih (s + 1); omega
    · omega
theorem bks_e {f : Nat → Nat} {t n s : Nat} (h : n ≤ s) : bks f t (n - s) s = s := by
  rw [Nat.sub_eq_zero_of_le h]; rfl
theorem bks_t {f : Nat → Nat} {t n s : Nat} (h : s < n) (hf : f s + 60 * s ≤ t) : bks f t (n - s) s = bks f t (n - (s + 1)) (s + 1) := by
  rw [show n - s = (n - (s + 1)) + 1 by omega]
  simp [bks, hf]
theorem bks_f {f : Nat → Nat} {t n s : Nat} (h : s < n) (hf : t < f s + 60 * s) : bks f t (n - s) s = s := by
  rw [show n - s = (n - (s + 1)) + 1 by omega]
  simp [bks, Nat.not_le.mpr hf]
theorem bks_le {f : Nat → Nat} {t : Nat} : ∀ k s, bks f t k s ≤ s + k := by
  intro k
  induction k with
  | zero => intro s; simp [bks]
  | succ k ih =>
    intro s
    simp only [bks]
    split
    · have := ih (s + 1); omega
    · omega
set_option maxHeartbeats 1000000 in
theorem s_upTo (Γ : Gm) (μ : Mem) (f : Nat → Nat) (n c t : Nat) (hc : clk μ c f n) (ht : t ≤ 20000000) : SpI Γ MX1_strokesUpTo 0 0 0 [.ref c, .int (nI t)] μ (fun r μ2 => r = nI (upTo f t n 0) ∧ μ2 = μ) := by
  refine SpI.of okX1_strokesUpTo rfl [some (.ref c), some (.int (nI t)), none] ⟨rfl, rfl, trivial⟩ (leb rfl) (leb rfl) (fun X hX hE hnm => ?_)
  have hn := hc.2.2.1
  have loop : ∀ s, s ≤ n → upTo f t n 0 = upTo f t (n - s) s → WP Γ X 0 0 2 [some (.ref c), some (.int (nI t)), some (.int (nI s))] [] μ := by
    refine loopU n ?_
    intro s hs ih hv
    have hfs : s < n → f s ≤ 6000000 := fun h => (hc.2.2.2 s h).2
    refine w_iload_n (i := 2) hX dX1_strokesUpTo_2 rfl rfl ?_
    refine w_aload_n (i := 0) hX dX1_strokesUpTo_3 rfl rfl ?_
    refine w_getI hX dX1_strokesUpTo_4 fo_RX1_15 rfl hc.1.1 ?_
    refine w_top (y := nI n) hc.2.1 ?_
    refine wn_icmp_ge (tgt := 26) hX dX1_strokesUpTo_7 (by decide) (by omega) (by omega) (fun c1 => ?_) (fun c1 => ?_)
    · refine w_iload_n (i := 2) hX dX1_strokesUpTo_26 rfl rfl ?_
      exact w_iret hX hE dX1_strokesUpTo_27 (Or.inl rfl) rfl ⟨by rw [hv]; rw [upTo_e (by omega)], rfl⟩
    · refine w_aload_n (i := 0) hX dX1_strokesUpTo_10 rfl rfl ?_
      refine w_getR (q := c + 1) hX dX1_strokesUpTo_11 fo_RX1_11 rfl hc.1.1 hc.1.2.1 ?_
      refine w_iload_n (i := 2) hX dX1_strokesUpTo_14 rfl rfl ?_
      refine w_ialdN hX dX1_strokesUpTo_15 hc.1.2.2 (by have := hc.2.2.1; omega) (by omega) ?_
      refine w_top (y := nI (f s)) (hc.2.2.2 s (by omega)).1 ?_
      refine w_iload_n (i := 1) hX dX1_strokesUpTo_16 rfl rfl ?_
      refine wn_icmp_gt (tgt := 26) hX dX1_strokesUpTo_17 (by decide) (by omega) (by omega) (fun c2 => ?_) (fun c2 => ?_)
      · refine w_iload_n (i := 2) hX dX1_strokesUpTo_26 rfl rfl ?_
        exact w_iret hX hE dX1_strokesUpTo_27 (Or.inl rfl) rfl ⟨by rw [hv]; rw [upTo_f (by omega) (by omega)], rfl⟩
      · refine w_iincN (w := 1) (l2 := [some (.ref c), some (.int (nI t)), some (.int (nI (s + 1)))]) hX dX1_strokesUpTo_20 rfl kI_1 rfl rfl ?_
        refine w_goto (tgt := 2) hX dX1_strokesUpTo_23 (by decide) ?_
        exact ih (by omega) (by rw [hv]; exact upTo_t (by omega) (by omega))
  refine w_iconst hX dX1_strokesUpTo_0 kI_0 ?_
  refine w_istore_n (i := 2) (l2 := [some (.ref c), some (.int (nI t)), some (.int (nI 0))]) hX dX1_strokesUpTo_1 rfl (ltb rfl) rfl rfl ?_
  exact loop 0 (Nat.zero_le n) (by rw [Nat.sub_zero])
