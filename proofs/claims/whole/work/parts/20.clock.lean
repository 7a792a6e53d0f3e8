def clk (μ : Mem) (c : Nat) (f : Nat → Nat) (n : Nat) : Prop := isClk μ c ∧ gI μ c 1 = nI n ∧ n ≤ 12 ∧ ∀ k, k < n → gI μ (c + 1) k = nI (f k) ∧ 60 ≤ f k ∧ f k ≤ 6000000
theorem loopU {P : Nat → Prop} (n : Nat) (h : ∀ s, s ≤ n → (s < n → P (s + 1)) → P s) : ∀ s, s ≤ n → P s := by
  have h1 : ∀ m s, s ≤ n → n - s ≤ m → P s := by
    intro m
    induction m with
    | zero => intro s hs hm; exact h s hs (fun hlt => by omega)
    | succ m ih => intro s hs hm; exact h s hs (fun hlt => ih (s + 1) (by omega) (by omega))
  exact fun s hs => h1 (n - s) s hs (Nat.le_refl _)
/-- how many strokes, from place s on, are no later than t -/
def upTo (f : Nat → Nat) (t : Nat) : Nat → Nat → Nat
  | 0, s => s
  | k + 1, s => if f s ≤ t then upTo f t k (s + 1) else s
def bks (f : Nat → Nat) (m : Nat) : Nat → Nat → Nat
  | 0, s => s
  | k + 1, s => if f s + 60 * s ≤ m then bks f m k (s + 1) else s
theorem upTo_e {f : Nat → Nat} {t n s : Nat} (h : n ≤ s) : upTo f t (n - s) s = s := by
  rw [Nat.sub_eq_zero_of_le h]; rfl
theorem upTo_t {f : Nat → Nat} {t n s : Nat} (h : s < n) (hf : f s ≤ t) : upTo f t (n - s) s = upTo f t (n - (s + 1)) (s + 1) := by
  rw [show n - s = (n - (s + 1)) + 1 by omega]
  simp [upTo, hf]
theorem upTo_f {f : Nat → Nat} {t n s : Nat} (h : s < n) (hf : t < f s) : upTo f t (n - s) s = s := by
  rw [show n - s = (n - (s + 1)) + 1 by omega]
  simp [upTo, Nat.not_le.mpr hf]
theorem upTo_le {f : Nat → Nat} {t : Nat} : ∀ k s, upTo f t k s ≤ s + k := by
  intro k
  induction k with
  | zero => intro s; simp [upTo]
  | succ k ih =>
    intro s
    simp only [upTo]
    split
    · have := ih (s + 1); omega
    · omega
theorem bks_e {f : Nat → Nat} {t n s : Nat} (h : n ≤ s) : bks f t (n - s) s = s := by
  rw [Nat.sub_eq_zero_of_le h]; rfl
theorem bks_t {f : Nat → Nat} {t n s : Nat} (h : s < n) (hf : f s + 60 * s ≤ t) : bks f t (n - s) s = bks f t (n - (s + 1)) (s + 1) := by
  rw [show n - s = (n - (s + 1)) + 1 by omega]
  simp [bks, hf]
theorem bks_f {f : Nat → Nat} {t n s : Nat} (h : s < n) (hf : t < f s + 60 * s) : bks f t (n - s) s = s := by
  rw [show n - s = (n - (s + 1)) + 1 by omega]
  simp [bks, Nat.not_le.mpr hf]
theorem bks_le {f : Nat → Nat} {t : Nat} : ∀ k s, bks f t k s ≤ s + k := by
  intro k
  induction k with
  | zero => intro s; simp [bks]
  | succ k ih =>
    intro s
    simp only [bks]
    split
    · have := ih (s + 1); omega
    · omega
set_option maxHeartbeats 1000000 in
theorem s_upTo (Γ : Gm) (μ : Mem) (f : Nat → Nat) (n c t : Nat) (hc : clk μ c f n) (ht : t ≤ 20000000) : SpI Γ MX1_strokesUpTo 0 0 0 [.ref c, .int (nI t)] μ (fun r μ2 => r = nI (upTo f t n 0) ∧ μ2 = μ) := by
  refine SpI.of okX1_strokesUpTo rfl [some (.ref c), some (.int (nI t)), none] ⟨rfl, rfl, trivial⟩ (leb rfl) (leb rfl) (fun X hX hE hnm => ?_)
  have hn := hc.2.2.1
  have loop : ∀ s, s ≤ n → upTo f t n 0 = upTo f t (n - s) s → WP Γ X 0 0 2 [some (.ref c), some (.int (nI t)), some (.int (nI s))] [] μ := by
    refine loopU n ?_
    intro s hs ih hv
    have hfs : s < n → f s ≤ 6000000 := fun h => (hc.2.2.2 s h).2.2
    refine w_iload_n (i := 2) hX dX1_strokesUpTo_2 rfl rfl ?_
    refine w_aload_n (i := 0) hX dX1_strokesUpTo_3 rfl rfl ?_
    refine w_getI hX dX1_strokesUpTo_4 fo_RX1_15 rfl hc.1.1 ?_
    refine w_top (y := nI n) hc.2.1 ?_
    refine wn_icmp_ge (tgt := 26) hX dX1_strokesUpTo_7 (by decide) (by omega) (by omega) (fun c1 => ?_) (fun c1 => ?_)
    · refine w_iload_n (i := 2) hX dX1_strokesUpTo_26 rfl rfl ?_
      exact w_iret hX hE dX1_strokesUpTo_27 (Or.inl rfl) rfl ⟨by rw [hv]; rw [upTo_e (by omega)], rfl⟩
    · refine w_aload_n (i := 0) hX dX1_strokesUpTo_10 rfl rfl ?_
      refine w_getR (q := c + 1) hX dX1_strokesUpTo_11 fo_RX1_11 rfl hc.1.1 hc.1.2.1 ?_
      refine w_iload_n (i := 2) hX dX1_strokesUpTo_14 rfl rfl ?_
      refine w_ialdN hX dX1_strokesUpTo_15 hc.1.2.2 (by have := hc.2.2.1; omega) (by omega) ?_
      refine w_top (y := nI (f s)) (hc.2.2.2 s (by omega)).1 ?_
      refine w_iload_n (i := 1) hX dX1_strokesUpTo_16 rfl rfl ?_
      refine wn_icmp_gt (tgt := 26) hX dX1_strokesUpTo_17 (by decide) (by omega) (by omega) (fun c2 => ?_) (fun c2 => ?_)
      · refine w_iload_n (i := 2) hX dX1_strokesUpTo_26 rfl rfl ?_
        exact w_iret hX hE dX1_strokesUpTo_27 (Or.inl rfl) rfl ⟨by rw [hv]; rw [upTo_f (by omega) (by omega)], rfl⟩
      · refine w_iincN (w := 1) (l2 := [some (.ref c), some (.int (nI t)), some (.int (nI (s + 1)))]) hX dX1_strokesUpTo_20 rfl kI_1 rfl rfl ?_
        refine w_goto (tgt := 2) hX dX1_strokesUpTo_23 (by decide) ?_
        exact ih (by omega) (by rw [hv]; exact upTo_t (by omega) (by omega))
  refine w_iconst hX dX1_strokesUpTo_0 kI_0 ?_
  refine w_istore_n (i := 2) (l2 := [some (.ref c), some (.int (nI t)), some (.int (nI 0))]) hX dX1_strokesUpTo_1 rfl (ltb rfl) rfl rfl ?_
  exact loop 0 (Nat.zero_le n) (by rw [Nat.sub_zero])
def oI (o : Option Nat) : Int32 := match o with
  | none => -1
  | some v => nI v
/-- the stroke told for a day -/
def fnd (f : Nat → Nat) (d : Nat) : Nat → Nat → Option Nat
  | 0, _ => none
  | k + 1, s => if (f s - 1) / 1440 = d then some (f s) else fnd f d k (s + 1)
theorem fnd_e {f : Nat → Nat} {d n s : Nat} (h : n ≤ s) : fnd f d (n - s) s = none := by
  rw [Nat.sub_eq_zero_of_le h]; rfl
theorem fnd_t {f : Nat → Nat} {d n s : Nat} (h : s < n) (hf : (f s - 1) / 1440 = d) : fnd f d (n - s) s = some (f s) := by
  rw [show n - s = (n - (s + 1)) + 1 by omega]
  simp [fnd, hf]
theorem fnd_f {f : Nat → Nat} {d n s : Nat} (h : s < n) (hf : (f s - 1) / 1440 ≠ d) : fnd f d (n - s) s = fnd f d (n - (s + 1)) (s + 1) := by
  rw [show n - s = (n - (s + 1)) + 1 by omega]
  simp [fnd, hf]
/-- where a stroke comes to stand -/
def posI (f : Nat → Nat) (v : Nat) : Nat → Nat
  | 0 => 0
  | a + 1 => if v < f a then posI f v a else a + 1
def insF (f : Nat → Nat) (v a : Nat) : Nat → Nat := fun j => if j < a then f j else if j = a then v else f (j - 1)
theorem posI_le {f : Nat → Nat} {v : Nat} : ∀ a, posI f v a ≤ a := by
  intro a
  induction a with
  | zero => simp [posI]
  | succ a ih => simp only [posI]; split <;> omega
set_option maxHeartbeats 1000000 in
theorem s_minuteOf (Γ : Gm) (μ : Mem) (f : Nat → Nat) (n c i : Nat) (hc : clk μ c f n) (hi : i < n) : SpI Γ MX1_minuteOf 0 0 0 [.ref c, .int (nI i)] μ (fun r μ2 => r = nI (f i + (60 * i)) ∧ μ2 = μ) := by
  refine SpI.of okX1_minuteOf rfl [some (.ref c), some (.int (nI i))] ⟨rfl, rfl, trivial⟩ (leb rfl) (leb rfl) (fun X hX hE hnm => ?_)
  refine w_aload_n (i := 0) hX dX1_minuteOf_0 rfl rfl ?_
  refine w_getR (q := c + 1) hX dX1_minuteOf_1 fo_RX1_11 rfl hc.1.1 hc.1.2.1 ?_
  refine w_iload_n (i := 1) hX dX1_minuteOf_4 rfl rfl ?_
  refine w_ialdN hX dX1_minuteOf_5 hc.1.2.2 (by have := hc.2.2.1; omega) (by omega) ?_
  refine w_top (y := nI (f i)) (hc.2.2.2 i hi).1 ?_
  refine w_bipush hX dX1_minuteOf_6 kB_60 ?_
  refine w_iload_n (i := 1) hX dX1_minuteOf_8 rfl rfl ?_
  refine w_imulN hX dX1_minuteOf_9 ?_
  refine w_iaddN hX dX1_minuteOf_10 ?_
  exact w_iret hX hE dX1_minuteOf_11 (Or.inl rfl) rfl ⟨rfl, rfl⟩
set_option maxHeartbeats 1000000 in
theorem s_bks (Γ : Gm) (μ : Mem) (f : Nat → Nat) (n c t : Nat) (hc : clk μ c f n) (ht : t ≤ 20000000) : SpI Γ MX1_backsBy 1 0 0 [.ref c, .int (nI t)] μ (fun r μ2 => r = nI (bks f t n 0) ∧ μ2 = μ) := by
  refine SpI.of okX1_backsBy rfl [some (.ref c), some (.int (nI t)), none] ⟨rfl, rfl, trivial⟩ (leb rfl) (leb rfl) (fun X hX hE hnm => ?_)
  have hn := hc.2.2.1
  have loop : ∀ s, s ≤ n → bks f t n 0 = bks f t (n - s) s → WP Γ X 0 0 2 [some (.ref c), some (.int (nI t)), some (.int (nI s))] [] μ := by
    refine loopU n ?_
    intro s hs ih hv
    have hfs : s < n → f s ≤ 6000000 := fun h => (hc.2.2.2 s h).2.2
    refine w_iload_n (i := 2) hX dX1_backsBy_2 rfl rfl ?_
    refine w_aload_n (i := 0) hX dX1_backsBy_3 rfl rfl ?_
    refine w_getI hX dX1_backsBy_4 fo_RX1_15 rfl hc.1.1 ?_
    refine w_top (y := nI n) hc.2.1 ?_
    refine wn_icmp_ge (tgt := 25) hX dX1_backsBy_7 (by decide) (by omega) (by omega) (fun c1 => ?_) (fun c1 => ?_)
    · refine w_iload_n (i := 2) hX dX1_backsBy_25 rfl rfl ?_
      exact w_iret hX hE dX1_backsBy_26 (Or.inl rfl) rfl ⟨by rw [hv]; rw [bks_e (by omega)], rfl⟩
    · refine w_aload_n (i := 0) hX dX1_backsBy_10 rfl rfl ?_
      refine w_iload_n (i := 2) hX dX1_backsBy_11 rfl rfl ?_
      refine w_callVI (As := [.int (nI s)]) (rest := []) (ci := 1) (o := c) (k2 := 0) (n2 := 0) hX dX1_backsBy_12 (s_minuteOf Γ μ f n c s hc (by omega)) okX1_minuteOf (ltb rfl) hc.1.1 ml_RX1_23 imX1_minuteOf seX1_minuteOf rfl (leb rfl) (leb rfl) rfl rfl (fun r9 μ9 hq9 => ?_)
      obtain ⟨hr9, hm9⟩ := hq9; rw [hr9, hm9]; clear hr9 hm9 r9 μ9
      refine w_iload_n (i := 1) hX dX1_backsBy_15 rfl rfl ?_
      refine wn_icmp_gt (tgt := 25) hX dX1_backsBy_16 (by decide) (by omega) (by omega) (fun c2 => ?_) (fun c2 => ?_)
      · refine w_iload_n (i := 2) hX dX1_backsBy_25 rfl rfl ?_
        exact w_iret hX hE dX1_backsBy_26 (Or.inl rfl) rfl ⟨by rw [hv]; rw [bks_f (by omega) (by omega)], rfl⟩
      · refine w_iincN (w := 1) (l2 := [some (.ref c), some (.int (nI t)), some (.int (nI (s + 1)))]) hX dX1_backsBy_19 rfl kI_1 rfl rfl ?_
        refine w_goto (tgt := 2) hX dX1_backsBy_22 (by decide) ?_
        exact ih (by omega) (by rw [hv]; exact bks_t (by omega) (by omega))
  refine w_iconst hX dX1_backsBy_0 kI_0 ?_
  refine w_istore_n (i := 2) (l2 := [some (.ref c), some (.int (nI t)), some (.int (nI 0))]) hX dX1_backsBy_1 rfl (ltb rfl) rfl rfl ?_
  exact loop 0 (Nat.zero_le n) (by rw [Nat.sub_zero])
set_option maxHeartbeats 1000000 in
theorem s_showsAt (Γ : Gm) (μ : Mem) (f : Nat → Nat) (n c t : Nat) (hc : clk μ c f n) (ht : t ≤ 20000000) : SpI Γ MX1_showsAt 2 0 0 [.ref c, .int (nI t)] μ (fun r μ2 => r = (nI t) - (nI (60 * (bks f t n 0))) ∧ μ2 = μ) := by
  refine SpI.of okX1_showsAt rfl [some (.ref c), some (.int (nI t))] ⟨rfl, rfl, trivial⟩ (leb rfl) (leb rfl) (fun X hX hE hnm => ?_)
  refine w_iload_n (i := 1) hX dX1_showsAt_0 rfl rfl ?_
  refine w_bipush hX dX1_showsAt_1 kB_60 ?_
  refine w_aload_n (i := 0) hX dX1_showsAt_3 rfl rfl ?_
  refine w_iload_n (i := 1) hX dX1_showsAt_4 rfl rfl ?_
  refine w_callVI (As := [.int (nI t)]) (rest := [.int (nI 60), .int (nI t)]) (ci := 1) (o := c) (k2 := 0) (n2 := 0) hX dX1_showsAt_5 (s_bks Γ μ f n c t hc ht) okX1_backsBy (ltb rfl) hc.1.1 ml_RX1_26 imX1_backsBy seX1_backsBy rfl (leb rfl) (leb rfl) rfl rfl (fun r9 μ9 hq9 => ?_)
  obtain ⟨hr9, hm9⟩ := hq9; rw [hr9, hm9]; clear hr9 hm9 r9 μ9
  refine w_imulN hX dX1_showsAt_8 ?_
  refine w_isub hX dX1_showsAt_9 ?_
  exact w_iret hX hE dX1_showsAt_10 (Or.inl rfl) rfl ⟨rfl, rfl⟩
set_option maxHeartbeats 1000000 in
theorem s_firstOf (Γ : Gm) (μ : Mem) (f : Nat → Nat) (n c t : Nat) (hc : clk μ c f n) (ht : t ≤ 20000000) : SpI Γ MX1_firstOf 1 0 0 [.ref c, .int (nI t)] μ (fun r μ2 => r = nI (t + (60 * (upTo f t n 0))) ∧ μ2 = μ) := by
  refine SpI.of okX1_firstOf rfl [some (.ref c), some (.int (nI t))] ⟨rfl, rfl, trivial⟩ (leb rfl) (leb rfl) (fun X hX hE hnm => ?_)
  refine w_iload_n (i := 1) hX dX1_firstOf_0 rfl rfl ?_
  refine w_bipush hX dX1_firstOf_1 kB_60 ?_
  refine w_aload_n (i := 0) hX dX1_firstOf_3 rfl rfl ?_
  refine w_iload_n (i := 1) hX dX1_firstOf_4 rfl rfl ?_
  refine w_callVI (As := [.int (nI t)]) (rest := [.int (nI 60), .int (nI t)]) (ci := 1) (o := c) (k2 := 0) (n2 := 0) hX dX1_firstOf_5 (s_upTo Γ μ f n c t hc (by omega)) okX1_strokesUpTo (ltb rfl) hc.1.1 ml_RX1_29 imX1_strokesUpTo seX1_strokesUpTo rfl (leb rfl) (leb rfl) rfl rfl (fun r9 μ9 hq9 => ?_)
  obtain ⟨hr9, hm9⟩ := hq9; rw [hr9, hm9]; clear hr9 hm9 r9 μ9
  refine w_imulN hX dX1_firstOf_8 ?_
  refine w_iaddN hX dX1_firstOf_9 ?_
  exact w_iret hX hE dX1_firstOf_10 (Or.inl rfl) rfl ⟨rfl, rfl⟩
set_option maxHeartbeats 1000000 in
theorem s_lastOf (Γ : Gm) (μ : Mem) (f : Nat → Nat) (n c t : Nat) (hc : clk μ c f n) (ht : t ≤ 19000000) : SpI Γ MX1_lastOf 1 0 0 [.ref c, .int (nI t)] μ (fun r μ2 => r = nI (t + (60 * (upTo f (t + 60) n 0))) ∧ μ2 = μ) := by
  refine SpI.of okX1_lastOf rfl [some (.ref c), some (.int (nI t))] ⟨rfl, rfl, trivial⟩ (leb rfl) (leb rfl) (fun X hX hE hnm => ?_)
  refine w_iload_n (i := 1) hX dX1_lastOf_0 rfl rfl ?_
  refine w_bipush hX dX1_lastOf_1 kB_60 ?_
  refine w_aload_n (i := 0) hX dX1_lastOf_3 rfl rfl ?_
  refine w_iload_n (i := 1) hX dX1_lastOf_4 rfl rfl ?_
  refine w_bipush hX dX1_lastOf_5 kB_60 ?_
  refine w_iaddN hX dX1_lastOf_7 ?_
  refine w_callVI (As := [.int (nI (t + 60))]) (rest := [.int (nI 60), .int (nI t)]) (ci := 1) (o := c) (k2 := 0) (n2 := 0) hX dX1_lastOf_8 (s_upTo Γ μ f n c (t + 60) hc (by omega)) okX1_strokesUpTo (ltb rfl) hc.1.1 ml_RX1_29 imX1_strokesUpTo seX1_strokesUpTo rfl (leb rfl) (leb rfl) rfl rfl (fun r9 μ9 hq9 => ?_)
  obtain ⟨hr9, hm9⟩ := hq9; rw [hr9, hm9]; clear hr9 hm9 r9 μ9
  refine w_imulN hX dX1_lastOf_11 ?_
  refine w_iaddN hX dX1_lastOf_12 ?_
  exact w_iret hX hE dX1_lastOf_13 (Or.inl rfl) rfl ⟨rfl, rfl⟩
set_option maxHeartbeats 1000000 in
theorem s_hasTwice (Γ : Gm) (μ : Mem) (f : Nat → Nat) (n c t : Nat) (hc : clk μ c f n) (ht : t ≤ 19000000) : SpI Γ MX1_hasTwice 1 0 0 [.ref c, .int (nI t)] μ (fun r μ2 => r = bI (decide (upTo f t n 0 < upTo f (t + 60) n 0)) ∧ μ2 = μ) := by
  refine SpI.of okX1_hasTwice rfl [some (.ref c), some (.int (nI t))] ⟨rfl, rfl, trivial⟩ (leb rfl) (leb rfl) (fun X hX hE hnm => ?_)
  refine w_aload_n (i := 0) hX dX1_hasTwice_0 rfl rfl ?_
  refine w_iload_n (i := 1) hX dX1_hasTwice_1 rfl rfl ?_
  refine w_bipush hX dX1_hasTwice_2 kB_60 ?_
  refine w_iaddN hX dX1_hasTwice_4 ?_
  refine w_callVI (As := [.int (nI (t + 60))]) (rest := []) (ci := 1) (o := c) (k2 := 0) (n2 := 0) hX dX1_hasTwice_5 (s_upTo Γ μ f n c (t + 60) hc (by omega)) okX1_strokesUpTo (ltb rfl) hc.1.1 ml_RX1_29 imX1_strokesUpTo seX1_strokesUpTo rfl (leb rfl) (leb rfl) rfl rfl (fun r9 μ9 hq9 => ?_)
  obtain ⟨hr9, hm9⟩ := hq9; rw [hr9, hm9]; clear hr9 hm9 r9 μ9
  refine w_aload_n (i := 0) hX dX1_hasTwice_8 rfl rfl ?_
  refine w_iload_n (i := 1) hX dX1_hasTwice_9 rfl rfl ?_
  refine w_callVI (As := [.int (nI t)]) (rest := [.int (nI (upTo f (t + 60) n 0))]) (ci := 1) (o := c) (k2 := 0) (n2 := 0) hX dX1_hasTwice_10 (s_upTo Γ μ f n c t hc (by omega)) okX1_strokesUpTo (ltb rfl) hc.1.1 ml_RX1_29 imX1_strokesUpTo seX1_strokesUpTo rfl (leb rfl) (leb rfl) rfl rfl (fun r9 μ9 hq9 => ?_)
  obtain ⟨hr9, hm9⟩ := hq9; rw [hr9, hm9]; clear hr9 hm9 r9 μ9
  refine wn_icmp_le (tgt := 20) hX dX1_hasTwice_13 (by decide) (by have := upTo_le (f := f) (t := t) n 0; have := upTo_le (f := f) (t := t + 60) n 0; have := hc.2.2.1; omega) (by have := upTo_le (f := f) (t := t) n 0; have := upTo_le (f := f) (t := t + 60) n 0; have := hc.2.2.1; omega) (fun c1 => ?_) (fun c1 => ?_)
  · refine w_iconst hX dX1_hasTwice_20 kI_0 ?_
    exact w_iret hX hE dX1_hasTwice_21 (Or.inl rfl) rfl ⟨bI_2 (by simp only [decide_eq_true_eq, decide_eq_false_iff_not]; omega), rfl⟩
  · refine w_iconst hX dX1_hasTwice_16 kI_1 ?_
    refine w_goto (tgt := 21) hX dX1_hasTwice_17 (by decide) ?_
    exact w_iret hX hE dX1_hasTwice_21 (Or.inl rfl) rfl ⟨bI_1 (by simp only [decide_eq_true_eq, decide_eq_false_iff_not]; omega), rfl⟩
set_option maxHeartbeats 1000000 in
theorem s_dayOf (Γ : Gm) (μ : Mem) (v : Nat) (hv : 1 ≤ v) (hv2 : v ≤ 6000000) : SpI Γ MX1_dayOf 0 0 0 [.int (nI v)] μ (fun r μ2 => r = nI ((v - 1) / 1440) ∧ μ2 = μ) := by
  refine SpI.of okX1_dayOf rfl [some (.int (nI v))] ⟨rfl, trivial⟩ (leb rfl) (leb rfl) (fun X hX hE hnm => ?_)
  refine w_iload_n (i := 0) hX dX1_dayOf_0 rfl rfl ?_
  refine w_iconst hX dX1_dayOf_1 kI_1 ?_
  refine w_isubN hX dX1_dayOf_2 hv ?_
  refine w_sipush hX dX1_dayOf_3 kS_1440 ?_
  refine w_idivN hX dX1_dayOf_6 (by omega) (by omega) ?_
  exact w_iret hX hE dX1_dayOf_7 (Or.inl rfl) rfl ⟨rfl, rfl⟩
set_option maxHeartbeats 1000000 in
theorem s_strokeOn (Γ : Gm) (μ : Mem) (f : Nat → Nat) (n c t : Nat) (hc : clk μ c f n) (ht : t ≤ 20000000) : SpI Γ MX1_strokeOn 1 0 0 [.ref c, .int (nI t)] μ (fun r μ2 => r = oI (fnd f t n 0) ∧ μ2 = μ) := by
  refine SpI.of okX1_strokeOn rfl [some (.ref c), some (.int (nI t)), none] ⟨rfl, rfl, trivial⟩ (leb rfl) (leb rfl) (fun X hX hE hnm => ?_)
  have hn := hc.2.2.1
  have loop : ∀ s, s ≤ n → fnd f t n 0 = fnd f t (n - s) s → WP Γ X 0 0 2 [some (.ref c), some (.int (nI t)), some (.int (nI s))] [] μ := by
    refine loopU n ?_
    intro s hs ih hv
    have hfs : s < n → 60 ≤ f s ∧ f s ≤ 6000000 := fun h => (hc.2.2.2 s h).2
    refine w_iload_n (i := 2) hX dX1_strokeOn_2 rfl rfl ?_
    refine w_aload_n (i := 0) hX dX1_strokeOn_3 rfl rfl ?_
    refine w_getI hX dX1_strokeOn_4 fo_RX1_15 rfl hc.1.1 ?_
    refine w_top (y := nI n) hc.2.1 ?_
    refine wn_icmp_ge (tgt := 36) hX dX1_strokeOn_7 (by decide) (by have := hfs; omega) (by have := hfs; omega) (fun c1 => ?_) (fun c1 => ?_)
    · refine w_iconst hX dX1_strokeOn_36 kI_m1 ?_
      exact w_iret hX hE dX1_strokeOn_37 (Or.inl rfl) rfl ⟨by rw [hv, fnd_e (by omega)]; rfl, rfl⟩
    · refine w_aload_n (i := 0) hX dX1_strokeOn_10 rfl rfl ?_
      refine w_getR (q := c + 1) hX dX1_strokeOn_11 fo_RX1_11 rfl hc.1.1 hc.1.2.1 ?_
      refine w_iload_n (i := 2) hX dX1_strokeOn_14 rfl rfl ?_
      refine w_ialdN hX dX1_strokeOn_15 hc.1.2.2 (by omega) (by omega) ?_
      refine w_top (y := nI (f s)) (hc.2.2.2 s (by omega)).1 ?_
      refine w_callSI (As := [.int (nI (f s))]) (rest := []) (k2 := 0) (n2 := 0) hX dX1_strokeOn_16 (s_dayOf Γ μ (f s) (by have := hfs (by omega); omega) (by have := hfs (by omega); omega)) okX1_dayOf ml_RX1_19 stX1_dayOf rfl (leb rfl) (leb rfl) rfl rfl (fun r9 μ9 hq9 => ?_)
      obtain ⟨hr9, hm9⟩ := hq9; rw [hr9, hm9]; clear hr9 hm9 r9 μ9
      refine w_iload_n (i := 1) hX dX1_strokeOn_19 rfl rfl ?_
      refine wn_icmp_ne (tgt := 30) hX dX1_strokeOn_20 (by decide) (by have := hfs; omega) (by have := hfs; omega) (fun c2 => ?_) (fun c2 => ?_)
      · refine w_iincN (w := 1) (l2 := [some (.ref c), some (.int (nI t)), some (.int (nI (s + 1)))]) hX dX1_strokeOn_30 rfl kI_1 rfl rfl ?_
        refine w_goto (tgt := 2) hX dX1_strokeOn_33 (by decide) ?_
        exact ih (by omega) (by rw [hv]; exact fnd_f (by omega) (by omega))
      · refine w_aload_n (i := 0) hX dX1_strokeOn_23 rfl rfl ?_
        refine w_getR (q := c + 1) hX dX1_strokeOn_24 fo_RX1_11 rfl hc.1.1 hc.1.2.1 ?_
        refine w_iload_n (i := 2) hX dX1_strokeOn_27 rfl rfl ?_
        refine w_ialdN hX dX1_strokeOn_28 hc.1.2.2 (by omega) (by omega) ?_
        refine w_top (y := nI (f s)) (hc.2.2.2 s (by omega)).1 ?_
        exact w_iret hX hE dX1_strokeOn_29 (Or.inl rfl) rfl ⟨by rw [hv, fnd_t (by omega) (by omega)]; rfl, rfl⟩
  refine w_iconst hX dX1_strokeOn_0 kI_0 ?_
  refine w_istore_n (i := 2) (l2 := [some (.ref c), some (.int (nI t)), some (.int (nI 0))]) hX dX1_strokeOn_1 rfl (ltb rfl) rfl rfl ?_
  exact loop 0 (Nat.zero_le n) (by rw [Nat.sub_zero])
set_option maxHeartbeats 1000000 in
theorem s_add (Γ : Gm) (μ : Mem) (f : Nat → Nat) (n c v : Nat) (hc : clk μ c f n) (hn12 : n < 12) (hv : v ≤ 6000000) : SpV Γ MX1_add 0 0 0 [.ref c, .int (nI v)] μ (fun μ2 => same (fun o k => (o = c ∧ k = 1) ∨ o = c + 1) μ μ2 ∧ gI μ2 c 1 = nI (n + 1) ∧ ∀ j, j < n + 1 → gI μ2 (c + 1) j = nI (insF f v (posI f v n) j)) := by
  refine SpV.of okX1_add rfl [some (.ref c), some (.int (nI v)), none] ⟨rfl, rfl, trivial⟩ (leb rfl) (leb rfl) (fun X hX hE hnm => ?_)
  have hn := hc.2.2.1
  have hfs : ∀ s, s < n → 60 ≤ f s ∧ f s ≤ 6000000 := fun s h => (hc.2.2.2 s h).2
  have loop : ∀ (a : Nat) (ν : Mem), a ≤ n → posI f v n = posI f v a → same (fun o k => (o = c ∧ k = 1) ∨ o = c + 1) μ ν → gI ν c 1 = nI n → (∀ j, j < a → gI ν (c + 1) j = nI (f j)) → (∀ j, a < j → j ≤ n → gI ν (c + 1) j = nI (f (j - 1))) → WP Γ X 0 0 15 [some (.ref c), some (.int (nI v)), some (.int (nI a))] [] ν := by
    intro a
    induction a using Nat.strongRecOn with
    | ind a ih =>
      intro ν ha hp hsm hcnt hlo hhi
      have hck := hsm.isClk hc.1
      have hfa : 0 < a → 60 ≤ f (a - 1) ∧ f (a - 1) ≤ 6000000 := fun h => hfs (a - 1) (by omega)
      refine w_iload_n (i := 2) hX dX1_add_15 rfl rfl ?_
      refine wn_if_le (tgt := 51) hX dX1_add_16 (by decide) (by have := hfa; omega) (fun c1 => ?_) (fun c1 => ?_)
      · refine w_aload_n (i := 0) hX dX1_add_51 rfl rfl ?_
        refine w_getR (q := c + 1) hX dX1_add_52 fo_RX1_11 rfl hck.1 hck.2.1 ?_
        refine w_iload_n (i := 2) hX dX1_add_55 rfl rfl ?_
        refine w_iload_n (i := 1) hX dX1_add_56 rfl rfl ?_
        refine w_iastN hX dX1_add_57 hck.2.2 (by omega) (by omega) ?_
        refine w_aload_n (i := 0) hX dX1_add_58 rfl rfl ?_
        refine w_dup hX dX1_add_59 rfl ?_
        refine w_getI hX dX1_add_60 fo_RX1_15 rfl hck.1 ?_
        refine w_top (y := nI n) (by rw [gI_no (by omega)]; exact hcnt) ?_
        refine w_iconst hX dX1_add_63 kI_1 ?_
        refine w_iaddN hX dX1_add_64 ?_
        refine w_putI hX dX1_add_65 fo_RX1_15 rfl rfl rfl rfl hck.1 ?_
        have hpa : posI f v n = a := hp.trans (by rw [show a = 0 by omega]; rfl)
        refine w_vret hX hE dX1_add_68 (Or.inl rfl) ⟨(hsm.sI (Or.inr rfl)).sI (Or.inl ⟨rfl, rfl⟩), gI_same, fun j hj => ?_⟩
        rw [gI_no (by omega), hpa]; unfold insF
        by_cases h1 : j < a
        · rw [if_pos h1, gI_nk (by omega)]; exact hlo j h1
        · rw [if_neg h1]
          by_cases h2 : j = a
          · rw [if_pos h2, h2, gI_same]
          · rw [if_neg h2, gI_nk h2]; exact hhi j (by omega) (by omega)
      · refine w_aload_n (i := 0) hX dX1_add_19 rfl rfl ?_
        refine w_getR (q := c + 1) hX dX1_add_20 fo_RX1_11 rfl hck.1 hck.2.1 ?_
        refine w_iload_n (i := 2) hX dX1_add_23 rfl rfl ?_
        refine w_iconst hX dX1_add_24 kI_1 ?_
        refine w_isubN hX dX1_add_25 (by omega) ?_
        refine w_ialdN hX dX1_add_26 hck.2.2 (by omega) (by omega) ?_
        refine w_top (y := nI (f (a - 1))) (hlo (a - 1) (by omega)) ?_
        refine w_iload_n (i := 1) hX dX1_add_27 rfl rfl ?_
        refine wn_icmp_le (tgt := 51) hX dX1_add_28 (by decide) (by have := hfa; omega) (by have := hfa; omega) (fun c2 => ?_) (fun c2 => ?_)
        · refine w_aload_n (i := 0) hX dX1_add_51 rfl rfl ?_
          refine w_getR (q := c + 1) hX dX1_add_52 fo_RX1_11 rfl hck.1 hck.2.1 ?_
          refine w_iload_n (i := 2) hX dX1_add_55 rfl rfl ?_
          refine w_iload_n (i := 1) hX dX1_add_56 rfl rfl ?_
          refine w_iastN hX dX1_add_57 hck.2.2 (by omega) (by omega) ?_
          refine w_aload_n (i := 0) hX dX1_add_58 rfl rfl ?_
          refine w_dup hX dX1_add_59 rfl ?_
          refine w_getI hX dX1_add_60 fo_RX1_15 rfl hck.1 ?_
          refine w_top (y := nI n) (by rw [gI_no (by omega)]; exact hcnt) ?_
          refine w_iconst hX dX1_add_63 kI_1 ?_
          refine w_iaddN hX dX1_add_64 ?_
          refine w_putI hX dX1_add_65 fo_RX1_15 rfl rfl rfl rfl hck.1 ?_
          have hpa : posI f v n = a := hp.trans (by rw [show a = (a - 1) + 1 by omega]; simp only [posI]; rw [if_neg (by omega)])
          refine w_vret hX hE dX1_add_68 (Or.inl rfl) ⟨(hsm.sI (Or.inr rfl)).sI (Or.inl ⟨rfl, rfl⟩), gI_same, fun j hj => ?_⟩
          rw [gI_no (by omega), hpa]; unfold insF
          by_cases h1 : j < a
          · rw [if_pos h1, gI_nk (by omega)]; exact hlo j h1
          · rw [if_neg h1]
            by_cases h2 : j = a
            · rw [if_pos h2, h2, gI_same]
            · rw [if_neg h2, gI_nk h2]; exact hhi j (by omega) (by omega)
        · refine w_aload_n (i := 0) hX dX1_add_31 rfl rfl ?_
          refine w_getR (q := c + 1) hX dX1_add_32 fo_RX1_11 rfl hck.1 hck.2.1 ?_
          refine w_iload_n (i := 2) hX dX1_add_35 rfl rfl ?_
          refine w_aload_n (i := 0) hX dX1_add_36 rfl rfl ?_
          refine w_getR (q := c + 1) hX dX1_add_37 fo_RX1_11 rfl hck.1 hck.2.1 ?_
          refine w_iload_n (i := 2) hX dX1_add_40 rfl rfl ?_
          refine w_iconst hX dX1_add_41 kI_1 ?_
          refine w_isubN hX dX1_add_42 (by omega) ?_
          refine w_ialdN hX dX1_add_43 hck.2.2 (by omega) (by omega) ?_
          refine w_top (y := nI (f (a - 1))) (hlo (a - 1) (by omega)) ?_
          refine w_iastN hX dX1_add_44 hck.2.2 (by omega) (by omega) ?_
          refine w_iincM (l2 := [some (.ref c), some (.int (nI v)), some (.int (nI (a - 1)))]) hX dX1_add_45 rfl kI_m1 (by omega) rfl rfl ?_
          refine w_goto (tgt := 15) hX dX1_add_48 (by decide) ?_
          refine ih (a - 1) (by omega) _ (by omega) ?_ (hsm.sI (Or.inr rfl)) ?_ ?_ ?_
          · rw [hp, show a = (a - 1) + 1 by omega]; simp only [posI]; rw [if_pos (by omega)]; rfl
          · rw [gI_no (by omega)]; exact hcnt
          · intro j hj; rw [gI_nk (by omega)]; exact hlo j (by omega)
          · intro j hj hj2
            by_cases hja : j = a
            · subst hja; rw [gI_same]
            · rw [gI_nk hja]; exact hhi j (by omega) hj2
  refine w_aload_n (i := 0) hX dX1_add_0 rfl rfl ?_
  refine w_getI hX dX1_add_1 fo_RX1_15 rfl hc.1.1 ?_
  refine w_top (y := nI n) hc.2.1 ?_
  refine w_bipush hX dX1_add_4 kB_12 ?_
  refine wn_icmp_lt (tgt := 10) hX dX1_add_6 (by decide) (by omega) (by omega) (fun c3 => ?_) (fun c3 => ?_)
  · refine w_aload_n (i := 0) hX dX1_add_10 rfl rfl ?_
    refine w_getI hX dX1_add_11 fo_RX1_15 rfl hc.1.1 ?_
    refine w_top (y := nI n) hc.2.1 ?_
    refine w_istore_n (i := 2) (l2 := [some (.ref c), some (.int (nI v)), some (.int (nI n))]) hX dX1_add_14 rfl (ltb rfl) rfl rfl ?_
    exact loop n μ (Nat.le_refl n) rfl same.rf hc.2.1 (fun j hj => (hc.2.2.2 j hj).1) (fun j h1 h2 => by omega)
  · omega
