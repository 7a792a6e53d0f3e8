theorem oI_nI {d : Nat} {a : Option Nat} (hd : d < 2 ^ 31) (ha : ∀ v, a = some v → v < 2 ^ 31) : nI d = oI a ↔ some d = a := by
  cases a with
  | none =>
    constructor
    · intro h
      have h1 : (nI d).toInt = (-1 : Int32).toInt := by rw [h]; rfl
      rw [nI_toInt hd] at h1
      have h2 : (-1 : Int32).toInt = -1 := rfl
      omega
    · intro h; cases h
  | some v =>
    show nI d = nI v ↔ _
    rw [nI_eq hd (ha v rfl)]
    constructor
    · intro h; rw [h]
    · intro h; exact Option.some.inj h
/-- the reference's book -/
def mb (μ : Mem) (m : Nat) (B : Nat → Nat) : Prop := isMod μ m ∧ ∀ j, j < 480 → gI μ (m + 6) j = nI (B j) ∧ B j ≤ 9999
/-- the day that is passed over -/
def maw (μ : Mem) (m : Nat) (aw : Option Nat) : Prop := gI μ m 16 = oI aw ∧ ∀ v, aw = some v → v ≤ 9999
def mS (B : Nat → Nat) (t k : Nat) : Nat := 1440 * B (1 + 25 * t + 1 + 2 * k) + 60 * B (1 + 25 * t + 2 + 2 * k)
def mTh (B : Nat → Nat) (aw : Option Nat) (t k : Nat) : Bool := decide (0 < t) || decide (some (B (1 + 25 * t + 1 + 2 * k)) ≠ aw)
def mBk (B : Nat → Nat) (aw : Option Nat) (t mi : Nat) : Nat → Nat
  | 0 => 0
  | k + 1 => mBk B aw t mi k + if mTh B aw t k = true ∧ mS B t k + 60 * mBk B aw t mi k ≤ mi then 1 else 0
def mFi (B : Nat → Nat) (aw : Option Nat) (t c : Nat) : Nat → Nat
  | 0 => 0
  | k + 1 => mFi B aw t c k + if mTh B aw t k = true ∧ mS B t k ≤ c then 1 else 0
def mTw (B : Nat → Nat) (aw : Option Nat) (t c : Nat) : Nat → Bool
  | 0 => false
  | k + 1 => mTw B aw t c k || (mTh B aw t k && (decide (c < mS B t k) && decide (mS B t k ≤ c + 60)))
theorem mBk_le {B : Nat → Nat} {aw : Option Nat} {t mi : Nat} : ∀ k, mBk B aw t mi k ≤ k := by
  intro k
  induction k with
  | zero => simp [mBk]
  | succ k ih => simp only [mBk]; split <;> omega
theorem mFi_le {B : Nat → Nat} {aw : Option Nat} {t mi : Nat} : ∀ k, mFi B aw t mi k ≤ k := by
  intro k
  induction k with
  | zero => simp [mFi]
  | succ k ih => simp only [mFi]; split <;> omega
theorem mS_le {μ : Mem} {m : Nat} {B : Nat → Nat} (h : mb μ m B) {t k : Nat} (ht : t < 3) (hk : k < 12) : mS B t k ≤ 15000000 := by
  have h1 := (h.2 (1 + 25 * t + 1 + 2 * k) (by omega)).2
  have h2 := (h.2 (1 + 25 * t + 2 + 2 * k) (by omega)).2
  unfold mS
  omega
set_option maxHeartbeats 1000000 in
theorem s_m_towns (Γ : Gm) (μ : Mem) (m : Nat) (B : Nat → Nat) (hb : mb μ m B) : SpI Γ MX9_towns 0 0 0 [.ref m] μ (fun r μ2 => r = nI (B 0) ∧ μ2 = μ) := by
  refine SpI.of okX9_towns rfl [some (.ref m)] ⟨rfl, trivial⟩ (leb rfl) (leb rfl) (fun X hX hE hnm => ?_)
  refine w_aload_n (i := 0) hX dX9_towns_0 rfl rfl ?_
  refine w_getR (q := m + 6) hX dX9_towns_1 fo_RX9_73 rfl (mod_s hb.1) (mod_r10 hb.1) ?_
  refine w_iconst hX dX9_towns_4 kI_0 ?_
  refine w_ialdN hX dX9_towns_5 (mod_a6 hb.1) (by omega) (by omega) ?_
  refine w_top (y := nI (B 0)) (hb.2 _ (by omega)).1 ?_
  exact w_iret hX hE dX9_towns_6 (Or.inl rfl) rfl ⟨rfl, rfl⟩
set_option maxHeartbeats 1000000 in
theorem s_m_backsOf (Γ : Gm) (μ : Mem) (m : Nat) (B : Nat → Nat) (hb : mb μ m B) (t : Nat) (ht : t < 3) : SpI Γ MX9_backsOf 0 0 0 [.ref m, .int (nI t)] μ (fun r μ2 => r = nI (B (1 + (25 * t))) ∧ μ2 = μ) := by
  refine SpI.of okX9_backsOf rfl [some (.ref m), some (.int (nI t))] ⟨rfl, rfl, trivial⟩ (leb rfl) (leb rfl) (fun X hX hE hnm => ?_)
  refine w_aload_n (i := 0) hX dX9_backsOf_0 rfl rfl ?_
  refine w_getR (q := m + 6) hX dX9_backsOf_1 fo_RX9_73 rfl (mod_s hb.1) (mod_r10 hb.1) ?_
  refine w_iconst hX dX9_backsOf_4 kI_1 ?_
  refine w_bipush hX dX9_backsOf_5 kB_25 ?_
  refine w_iload_n (i := 1) hX dX9_backsOf_7 rfl rfl ?_
  refine w_imulN hX dX9_backsOf_8 ?_
  refine w_iaddN hX dX9_backsOf_9 ?_
  refine w_ialdN hX dX9_backsOf_10 (mod_a6 hb.1) (by omega) (by omega) ?_
  refine w_top (y := nI (B (1 + (25 * t)))) (hb.2 _ (by omega)).1 ?_
  exact w_iret hX hE dX9_backsOf_11 (Or.inl rfl) rfl ⟨rfl, rfl⟩
set_option maxHeartbeats 1000000 in
theorem s_m_dayOf (Γ : Gm) (μ : Mem) (m : Nat) (B : Nat → Nat) (hb : mb μ m B) (t : Nat) (ht : t < 3) (k : Nat) (hk : k < 12) : SpI Γ MX9_dayOf 0 0 0 [.ref m, .int (nI t), .int (nI k)] μ (fun r μ2 => r = nI (B (1 + (25 * t) + 1 + (2 * k))) ∧ μ2 = μ) := by
  refine SpI.of okX9_dayOf rfl [some (.ref m), some (.int (nI t)), some (.int (nI k))] ⟨rfl, rfl, rfl, trivial⟩ (leb rfl) (leb rfl) (fun X hX hE hnm => ?_)
  refine w_aload_n (i := 0) hX dX9_dayOf_0 rfl rfl ?_
  refine w_getR (q := m + 6) hX dX9_dayOf_1 fo_RX9_73 rfl (mod_s hb.1) (mod_r10 hb.1) ?_
  refine w_iconst hX dX9_dayOf_4 kI_1 ?_
  refine w_bipush hX dX9_dayOf_5 kB_25 ?_
  refine w_iload_n (i := 1) hX dX9_dayOf_7 rfl rfl ?_
  refine w_imulN hX dX9_dayOf_8 ?_
  refine w_iaddN hX dX9_dayOf_9 ?_
  refine w_iconst hX dX9_dayOf_10 kI_1 ?_
  refine w_iaddN hX dX9_dayOf_11 ?_
  refine w_iconst hX dX9_dayOf_12 kI_2 ?_
  refine w_iload_n (i := 2) hX dX9_dayOf_13 rfl rfl ?_
  refine w_imulN hX dX9_dayOf_14 ?_
  refine w_iaddN hX dX9_dayOf_15 ?_
  refine w_ialdN hX dX9_dayOf_16 (mod_a6 hb.1) (by omega) (by omega) ?_
  refine w_top (y := nI (B (1 + (25 * t) + 1 + (2 * k)))) (hb.2 _ (by omega)).1 ?_
  exact w_iret hX hE dX9_dayOf_17 (Or.inl rfl) rfl ⟨rfl, rfl⟩
set_option maxHeartbeats 1000000 in
theorem s_m_strokeOf (Γ : Gm) (μ : Mem) (m : Nat) (B : Nat → Nat) (hb : mb μ m B) (t : Nat) (ht : t < 3) (k : Nat) (hk : k < 12) : SpI Γ MX9_strokeOf 1 0 0 [.ref m, .int (nI t), .int (nI k)] μ (fun r μ2 => r = nI (mS B t k) ∧ μ2 = μ) := by
  refine SpI.of okX9_strokeOf rfl [some (.ref m), some (.int (nI t)), some (.int (nI k))] ⟨rfl, rfl, rfl, trivial⟩ (leb rfl) (leb rfl) (fun X hX hE hnm => ?_)
  refine w_sipush hX dX9_strokeOf_0 kS_1440 ?_
  refine w_aload_n (i := 0) hX dX9_strokeOf_3 rfl rfl ?_
  refine w_iload_n (i := 1) hX dX9_strokeOf_4 rfl rfl ?_
  refine w_iload_n (i := 2) hX dX9_strokeOf_5 rfl rfl ?_
  refine w_callVI (As := [.int (nI t), .int (nI k)]) (rest := [.int (nI 1440)]) (ci := 9) (o := m) (k2 := 0) (n2 := 0) hX dX9_strokeOf_6 (s_m_dayOf Γ μ m B hb t ht k hk) okX9_dayOf (ltb rfl) (mod_s hb.1) ml_RX9_240 imX9_dayOf seX9_dayOf rfl (leb rfl) (leb rfl) rfl rfl (fun r9 μ9 hq9 => ?_)
  obtain ⟨hr9, hm9⟩ := hq9; rw [hr9, hm9]; clear hr9 hm9 r9 μ9
  refine w_imulN hX dX9_strokeOf_9 ?_
  refine w_bipush hX dX9_strokeOf_10 kB_60 ?_
  refine w_aload_n (i := 0) hX dX9_strokeOf_12 rfl rfl ?_
  refine w_getR (q := m + 6) hX dX9_strokeOf_13 fo_RX9_73 rfl (mod_s hb.1) (mod_r10 hb.1) ?_
  refine w_iconst hX dX9_strokeOf_16 kI_1 ?_
  refine w_bipush hX dX9_strokeOf_17 kB_25 ?_
  refine w_iload_n (i := 1) hX dX9_strokeOf_19 rfl rfl ?_
  refine w_imulN hX dX9_strokeOf_20 ?_
  refine w_iaddN hX dX9_strokeOf_21 ?_
  refine w_iconst hX dX9_strokeOf_22 kI_2 ?_
  refine w_iaddN hX dX9_strokeOf_23 ?_
  refine w_iconst hX dX9_strokeOf_24 kI_2 ?_
  refine w_iload_n (i := 2) hX dX9_strokeOf_25 rfl rfl ?_
  refine w_imulN hX dX9_strokeOf_26 ?_
  refine w_iaddN hX dX9_strokeOf_27 ?_
  refine w_ialdN hX dX9_strokeOf_28 (mod_a6 hb.1) (by omega) (by omega) ?_
  refine w_top (y := nI (B (1 + (25 * t) + 2 + (2 * k)))) (hb.2 _ (by omega)).1 ?_
  refine w_imulN hX dX9_strokeOf_29 ?_
  refine w_iaddN hX dX9_strokeOf_30 ?_
  exact w_iret hX hE dX9_strokeOf_31 (Or.inl rfl) rfl ⟨rfl, rfl⟩
set_option maxHeartbeats 1000000 in
theorem s_m_isThere (Γ : Gm) (μ : Mem) (m : Nat) (B : Nat → Nat) (hb : mb μ m B) (aw : Option Nat) (ha : maw μ m aw) (t : Nat) (ht : t < 3) (k : Nat) (hk : k < 12) : SpI Γ MX9_isThere 1 0 0 [.ref m, .int (nI t), .int (nI k)] μ (fun r μ2 => r = bI (mTh B aw t k) ∧ μ2 = μ) := by
  refine SpI.of okX9_isThere rfl [some (.ref m), some (.int (nI t)), some (.int (nI k))] ⟨rfl, rfl, rfl, trivial⟩ (leb rfl) (leb rfl) (fun X hX hE hnm => ?_)
  refine w_iload_n (i := 1) hX dX9_isThere_0 rfl rfl ?_
  refine wn_if_gt (tgt := 17) hX dX9_isThere_1 (by decide) (by omega) (fun c1 => ?_) (fun c1 => ?_)
  · refine w_iconst hX dX9_isThere_17 kI_1 ?_
    refine w_goto (tgt := 22) hX dX9_isThere_18 (by decide) ?_
    exact w_iret hX hE dX9_isThere_22 (Or.inl rfl) rfl ⟨bI_1 (by have hB9 := (hb.2 (1 + 25 * t + 1 + 2 * k) (by omega)).2; have e9 := oI_nI (d := B (1 + 25 * t + 1 + 2 * k)) (a := aw) (by omega) (fun v hv => by have := ha.2 v hv; omega); simp only [mTh, Bool.or_eq_true, Bool.or_eq_false_iff, decide_eq_true_eq, decide_eq_false_iff_not, Decidable.not_not, ne_eq] at *; first | omega | (rw [← e9]; first | exact Or.inr ‹_› | exact ⟨by omega, ‹_›⟩)), rfl⟩
  · refine w_aload_n (i := 0) hX dX9_isThere_4 rfl rfl ?_
    refine w_iload_n (i := 1) hX dX9_isThere_5 rfl rfl ?_
    refine w_iload_n (i := 2) hX dX9_isThere_6 rfl rfl ?_
    refine w_callVI (As := [.int (nI t), .int (nI k)]) (rest := []) (ci := 9) (o := m) (k2 := 0) (n2 := 0) hX dX9_isThere_7 (s_m_dayOf Γ μ m B hb t ht k hk) okX9_dayOf (ltb rfl) (mod_s hb.1) ml_RX9_240 imX9_dayOf seX9_dayOf rfl (leb rfl) (leb rfl) rfl rfl (fun r9 μ9 hq9 => ?_)
    obtain ⟨hr9, hm9⟩ := hq9; rw [hr9, hm9]; clear hr9 hm9 r9 μ9
    refine w_aload_n (i := 0) hX dX9_isThere_10 rfl rfl ?_
    refine w_getI hX dX9_isThere_11 fo_RX9_85 rfl (mod_s hb.1) ?_
    refine w_top (y := oI aw) ha.1 ?_
    refine wc_icmp_eq (tgt := 21) hX dX9_isThere_14 (by decide) (fun c2 => ?_) (fun c2 => ?_)
    · refine w_iconst hX dX9_isThere_21 kI_0 ?_
      exact w_iret hX hE dX9_isThere_22 (Or.inl rfl) rfl ⟨bI_2 (by have hB9 := (hb.2 (1 + 25 * t + 1 + 2 * k) (by omega)).2; have e9 := oI_nI (d := B (1 + 25 * t + 1 + 2 * k)) (a := aw) (by omega) (fun v hv => by have := ha.2 v hv; omega); simp only [mTh, Bool.or_eq_true, Bool.or_eq_false_iff, decide_eq_true_eq, decide_eq_false_iff_not, Decidable.not_not, ne_eq] at *; first | omega | (rw [← e9]; first | exact Or.inr ‹_› | exact ⟨by omega, ‹_›⟩)), rfl⟩
    · refine w_iconst hX dX9_isThere_17 kI_1 ?_
      refine w_goto (tgt := 22) hX dX9_isThere_18 (by decide) ?_
      exact w_iret hX hE dX9_isThere_22 (Or.inl rfl) rfl ⟨bI_1 (by have hB9 := (hb.2 (1 + 25 * t + 1 + 2 * k) (by omega)).2; have e9 := oI_nI (d := B (1 + 25 * t + 1 + 2 * k)) (a := aw) (by omega) (fun v hv => by have := ha.2 v hv; omega); simp only [mTh, Bool.or_eq_true, Bool.or_eq_false_iff, decide_eq_true_eq, decide_eq_false_iff_not, Decidable.not_not, ne_eq] at *; first | omega | (rw [← e9]; first | exact Or.inr ‹_› | exact ⟨by omega, ‹_›⟩)), rfl⟩
set_option maxHeartbeats 1000000 in
theorem s_m_firstOf (Γ : Gm) (μ : Mem) (m : Nat) (B : Nat → Nat) (hb : mb μ m B) (aw : Option Nat) (ha : maw μ m aw) (t : Nat) (ht : t < 3) (hn : B (1 + 25 * t) ≤ 12) (c : Nat) (hc : c ≤ 20000000) : SpI Γ MX9_firstOf 2 0 0 [.ref m, .int (nI t), .int (nI c)] μ (fun r μ2 => r = nI (c + 60 * mFi B aw t c (B (1 + 25 * t))) ∧ μ2 = μ) := by
  refine SpI.of okX9_firstOf rfl [some (.ref m), some (.int (nI t)), some (.int (nI c)), none, none] ⟨rfl, rfl, rfl, trivial⟩ (leb rfl) (leb rfl) (fun X hX hE hnm => ?_)
  have loop : ∀ k, k ≤ B (1 + 25 * t) → WP Γ X 0 0 5 [some (.ref m), some (.int (nI t)), some (.int (nI c)), some (.int (nI (mFi B aw t c k))), some (.int (nI k))] [] μ := by
    refine loopU (B (1 + 25 * t)) ?_
    intro k hk ih
    have hS9 : k < 12 → mS B t k ≤ 15000000 := fun h => mS_le hb ht h
    have hB9 := (hb.2 (1 + 25 * t) (by omega)).2
    refine w_iload hX dX9_firstOf_5 rfl ?_
    refine w_aload_n (i := 0) hX dX9_firstOf_7 rfl rfl ?_
    refine w_iload_n (i := 1) hX dX9_firstOf_8 rfl rfl ?_
    refine w_callVI (As := [.int (nI t)]) (rest := [.int (nI k)]) (ci := 9) (o := m) (k2 := 0) (n2 := 0) hX dX9_firstOf_9 (s_m_backsOf Γ μ m B hb t ht) okX9_backsOf (ltb rfl) (mod_s hb.1) ml_RX9_243 imX9_backsOf seX9_backsOf rfl (leb rfl) (leb rfl) rfl rfl (fun r9 μ9 hq9 => ?_)
    obtain ⟨hr9, hm9⟩ := hq9; rw [hr9, hm9]; clear hr9 hm9 r9 μ9
    refine wn_icmp_ge (tgt := 50) hX dX9_firstOf_12 (by decide) (by have := hS9; have := mFi_le (B := B) (aw := aw) (t := t) (mi := c) k; omega) (by have := hS9; have := mFi_le (B := B) (aw := aw) (t := t) (mi := c) k; omega) (fun c1 => ?_) (fun c1 => ?_)
    · refine w_iload_n (i := 2) hX dX9_firstOf_50 rfl rfl ?_
      refine w_bipush hX dX9_firstOf_51 kB_60 ?_
      refine w_iload_n (i := 3) hX dX9_firstOf_53 rfl rfl ?_
      refine w_imulN hX dX9_firstOf_54 ?_
      refine w_iaddN hX dX9_firstOf_55 ?_
      exact w_iret hX hE dX9_firstOf_56 (Or.inl rfl) rfl ⟨by rw [show k = B (1 + 25 * t) by omega], rfl⟩
    · refine w_iload_n (i := 3) hX dX9_firstOf_15 rfl rfl ?_
      refine w_aload_n (i := 0) hX dX9_firstOf_16 rfl rfl ?_
      refine w_iload_n (i := 1) hX dX9_firstOf_17 rfl rfl ?_
      refine w_iload hX dX9_firstOf_18 rfl ?_
      refine w_callVI (As := [.int (nI t), .int (nI k)]) (rest := [.int (nI (mFi B aw t c k))]) (ci := 9) (o := m) (k2 := 0) (n2 := 0) hX dX9_firstOf_20 (s_m_isThere Γ μ m B hb aw ha t ht k (by omega)) okX9_isThere (ltb rfl) (mod_s hb.1) ml_RX9_246 imX9_isThere seX9_isThere rfl (leb rfl) (leb rfl) rfl rfl (fun r9 μ9 hq9 => ?_)
      obtain ⟨hr9, hm9⟩ := hq9; rw [hr9, hm9]; clear hr9 hm9 r9 μ9
      refine wb_eq (tgt := 41) hX dX9_firstOf_23 (by decide) (fun c2 => ?_) (fun c2 => ?_)
      · refine w_iconst hX dX9_firstOf_41 kI_0 ?_
        refine w_iaddN hX dX9_firstOf_42 ?_
        refine w_istore_n (i := 3) (l2 := [some (.ref m), some (.int (nI t)), some (.int (nI c)), some (.int (nI (mFi B aw t c k + 0))), some (.int (nI k))]) hX dX9_firstOf_43 rfl (ltb rfl) rfl rfl ?_
        refine w_iincN (w := 1) (l2 := [some (.ref m), some (.int (nI t)), some (.int (nI c)), some (.int (nI (mFi B aw t c k + 0))), some (.int (nI (k + 1)))]) hX dX9_firstOf_44 rfl kI_1 rfl rfl ?_
        refine w_goto (tgt := 5) hX dX9_firstOf_47 (by decide) ?_
        have e9 : mFi B aw t c k + 0 = mFi B aw t c (k + 1) := by
          simp only [mFi]; rw [if_neg (by simp [c2])]
        rw [e9]
        exact ih (by omega)
      · refine w_aload_n (i := 0) hX dX9_firstOf_26 rfl rfl ?_
        refine w_iload_n (i := 1) hX dX9_firstOf_27 rfl rfl ?_
        refine w_iload hX dX9_firstOf_28 rfl ?_
        refine w_callVI (As := [.int (nI t), .int (nI k)]) (rest := [.int (nI (mFi B aw t c k))]) (ci := 9) (o := m) (k2 := 0) (n2 := 0) hX dX9_firstOf_30 (s_m_strokeOf Γ μ m B hb t ht k (by omega)) okX9_strokeOf (ltb rfl) (mod_s hb.1) ml_RX9_250 imX9_strokeOf seX9_strokeOf rfl (leb rfl) (leb rfl) rfl rfl (fun r9 μ9 hq9 => ?_)
        obtain ⟨hr9, hm9⟩ := hq9; rw [hr9, hm9]; clear hr9 hm9 r9 μ9
        refine w_iload_n (i := 2) hX dX9_firstOf_33 rfl rfl ?_
        refine wn_icmp_gt (tgt := 41) hX dX9_firstOf_34 (by decide) (by have := hS9; have := mFi_le (B := B) (aw := aw) (t := t) (mi := c) k; omega) (by have := hS9; have := mFi_le (B := B) (aw := aw) (t := t) (mi := c) k; omega) (fun c3 => ?_) (fun c3 => ?_)
        · refine w_iconst hX dX9_firstOf_41 kI_0 ?_
          refine w_iaddN hX dX9_firstOf_42 ?_
          refine w_istore_n (i := 3) (l2 := [some (.ref m), some (.int (nI t)), some (.int (nI c)), some (.int (nI (mFi B aw t c k + 0))), some (.int (nI k))]) hX dX9_firstOf_43 rfl (ltb rfl) rfl rfl ?_
          refine w_iincN (w := 1) (l2 := [some (.ref m), some (.int (nI t)), some (.int (nI c)), some (.int (nI (mFi B aw t c k + 0))), some (.int (nI (k + 1)))]) hX dX9_firstOf_44 rfl kI_1 rfl rfl ?_
          refine w_goto (tgt := 5) hX dX9_firstOf_47 (by decide) ?_
          have e9 : mFi B aw t c k + 0 = mFi B aw t c (k + 1) := by
            simp only [mFi]; rw [if_neg (by omega)]
          rw [e9]
          exact ih (by omega)
        · refine w_iconst hX dX9_firstOf_37 kI_1 ?_
          refine w_goto (tgt := 42) hX dX9_firstOf_38 (by decide) ?_
          refine w_iaddN hX dX9_firstOf_42 ?_
          refine w_istore_n (i := 3) (l2 := [some (.ref m), some (.int (nI t)), some (.int (nI c)), some (.int (nI (mFi B aw t c k + 1))), some (.int (nI k))]) hX dX9_firstOf_43 rfl (ltb rfl) rfl rfl ?_
          refine w_iincN (w := 1) (l2 := [some (.ref m), some (.int (nI t)), some (.int (nI c)), some (.int (nI (mFi B aw t c k + 1))), some (.int (nI (k + 1)))]) hX dX9_firstOf_44 rfl kI_1 rfl rfl ?_
          refine w_goto (tgt := 5) hX dX9_firstOf_47 (by decide) ?_
          have e9 : mFi B aw t c k + 1 = mFi B aw t c (k + 1) := by
            simp only [mFi]; rw [if_pos ⟨c2, by omega⟩]
          rw [e9]
          exact ih (by omega)
  refine w_iconst hX dX9_firstOf_0 kI_0 ?_
  refine w_istore_n (i := 3) (l2 := [some (.ref m), some (.int (nI t)), some (.int (nI c)), some (.int (nI 0)), none]) hX dX9_firstOf_1 rfl (ltb rfl) rfl rfl ?_
  refine w_iconst hX dX9_firstOf_2 kI_0 ?_
  refine w_istore (l2 := [some (.ref m), some (.int (nI t)), some (.int (nI c)), some (.int (nI 0)), some (.int (nI 0))]) hX dX9_firstOf_3 (ltb rfl) rfl rfl ?_
  exact loop 0 (Nat.zero_le _)
set_option maxHeartbeats 1000000 in
theorem s_m_backsBy (Γ : Gm) (μ : Mem) (m : Nat) (B : Nat → Nat) (hb : mb μ m B) (aw : Option Nat) (ha : maw μ m aw) (t : Nat) (ht : t < 3) (hn : B (1 + 25 * t) ≤ 12) (c : Nat) (hc : c ≤ 20000000) : SpI Γ MX9_backsBy 2 0 0 [.ref m, .int (nI t), .int (nI c)] μ (fun r μ2 => r = nI (mBk B aw t c (B (1 + 25 * t))) ∧ μ2 = μ) := by
  refine SpI.of okX9_backsBy rfl [some (.ref m), some (.int (nI t)), some (.int (nI c)), none, none] ⟨rfl, rfl, rfl, trivial⟩ (leb rfl) (leb rfl) (fun X hX hE hnm => ?_)
  have loop : ∀ k, k ≤ B (1 + 25 * t) → WP Γ X 0 0 5 [some (.ref m), some (.int (nI t)), some (.int (nI c)), some (.int (nI (mBk B aw t c k))), some (.int (nI k))] [] μ := by
    refine loopU (B (1 + 25 * t)) ?_
    intro k hk ih
    have hS9 : k < 12 → mS B t k ≤ 15000000 := fun h => mS_le hb ht h
    have hB9 := (hb.2 (1 + 25 * t) (by omega)).2
    refine w_iload hX dX9_backsBy_5 rfl ?_
    refine w_aload_n (i := 0) hX dX9_backsBy_7 rfl rfl ?_
    refine w_iload_n (i := 1) hX dX9_backsBy_8 rfl rfl ?_
    refine w_callVI (As := [.int (nI t)]) (rest := [.int (nI k)]) (ci := 9) (o := m) (k2 := 0) (n2 := 0) hX dX9_backsBy_9 (s_m_backsOf Γ μ m B hb t ht) okX9_backsOf (ltb rfl) (mod_s hb.1) ml_RX9_243 imX9_backsOf seX9_backsOf rfl (leb rfl) (leb rfl) rfl rfl (fun r9 μ9 hq9 => ?_)
    obtain ⟨hr9, hm9⟩ := hq9; rw [hr9, hm9]; clear hr9 hm9 r9 μ9
    refine wn_icmp_ge (tgt := 55) hX dX9_backsBy_12 (by decide) (by have := hS9; have := mBk_le (B := B) (aw := aw) (t := t) (mi := c) k; omega) (by have := hS9; have := mBk_le (B := B) (aw := aw) (t := t) (mi := c) k; omega) (fun c1 => ?_) (fun c1 => ?_)
    · refine w_iload_n (i := 3) hX dX9_backsBy_55 rfl rfl ?_
      exact w_iret hX hE dX9_backsBy_56 (Or.inl rfl) rfl ⟨by rw [show k = B (1 + 25 * t) by omega], rfl⟩
    · refine w_iload_n (i := 3) hX dX9_backsBy_15 rfl rfl ?_
      refine w_aload_n (i := 0) hX dX9_backsBy_16 rfl rfl ?_
      refine w_iload_n (i := 1) hX dX9_backsBy_17 rfl rfl ?_
      refine w_iload hX dX9_backsBy_18 rfl ?_
      refine w_callVI (As := [.int (nI t), .int (nI k)]) (rest := [.int (nI (mBk B aw t c k))]) (ci := 9) (o := m) (k2 := 0) (n2 := 0) hX dX9_backsBy_20 (s_m_isThere Γ μ m B hb aw ha t ht k (by omega)) okX9_isThere (ltb rfl) (mod_s hb.1) ml_RX9_246 imX9_isThere seX9_isThere rfl (leb rfl) (leb rfl) rfl rfl (fun r9 μ9 hq9 => ?_)
      obtain ⟨hr9, hm9⟩ := hq9; rw [hr9, hm9]; clear hr9 hm9 r9 μ9
      refine wb_eq (tgt := 46) hX dX9_backsBy_23 (by decide) (fun c2 => ?_) (fun c2 => ?_)
      · refine w_iconst hX dX9_backsBy_46 kI_0 ?_
        refine w_iaddN hX dX9_backsBy_47 ?_
        refine w_istore_n (i := 3) (l2 := [some (.ref m), some (.int (nI t)), some (.int (nI c)), some (.int (nI (mBk B aw t c k + 0))), some (.int (nI k))]) hX dX9_backsBy_48 rfl (ltb rfl) rfl rfl ?_
        refine w_iincN (w := 1) (l2 := [some (.ref m), some (.int (nI t)), some (.int (nI c)), some (.int (nI (mBk B aw t c k + 0))), some (.int (nI (k + 1)))]) hX dX9_backsBy_49 rfl kI_1 rfl rfl ?_
        refine w_goto (tgt := 5) hX dX9_backsBy_52 (by decide) ?_
        have e9 : mBk B aw t c k + 0 = mBk B aw t c (k + 1) := by
          simp only [mBk]; rw [if_neg (by simp [c2])]
        rw [e9]
        exact ih (by omega)
      · refine w_aload_n (i := 0) hX dX9_backsBy_26 rfl rfl ?_
        refine w_iload_n (i := 1) hX dX9_backsBy_27 rfl rfl ?_
        refine w_iload hX dX9_backsBy_28 rfl ?_
        refine w_callVI (As := [.int (nI t), .int (nI k)]) (rest := [.int (nI (mBk B aw t c k))]) (ci := 9) (o := m) (k2 := 0) (n2 := 0) hX dX9_backsBy_30 (s_m_strokeOf Γ μ m B hb t ht k (by omega)) okX9_strokeOf (ltb rfl) (mod_s hb.1) ml_RX9_250 imX9_strokeOf seX9_strokeOf rfl (leb rfl) (leb rfl) rfl rfl (fun r9 μ9 hq9 => ?_)
        obtain ⟨hr9, hm9⟩ := hq9; rw [hr9, hm9]; clear hr9 hm9 r9 μ9
        refine w_bipush hX dX9_backsBy_33 kB_60 ?_
        refine w_iload_n (i := 3) hX dX9_backsBy_35 rfl rfl ?_
        refine w_imulN hX dX9_backsBy_36 ?_
        refine w_iaddN hX dX9_backsBy_37 ?_
        refine w_iload_n (i := 2) hX dX9_backsBy_38 rfl rfl ?_
        refine wn_icmp_gt (tgt := 46) hX dX9_backsBy_39 (by decide) (by have := hS9; have := mBk_le (B := B) (aw := aw) (t := t) (mi := c) k; omega) (by have := hS9; have := mBk_le (B := B) (aw := aw) (t := t) (mi := c) k; omega) (fun c3 => ?_) (fun c3 => ?_)
        · refine w_iconst hX dX9_backsBy_46 kI_0 ?_
          refine w_iaddN hX dX9_backsBy_47 ?_
          refine w_istore_n (i := 3) (l2 := [some (.ref m), some (.int (nI t)), some (.int (nI c)), some (.int (nI (mBk B aw t c k + 0))), some (.int (nI k))]) hX dX9_backsBy_48 rfl (ltb rfl) rfl rfl ?_
          refine w_iincN (w := 1) (l2 := [some (.ref m), some (.int (nI t)), some (.int (nI c)), some (.int (nI (mBk B aw t c k + 0))), some (.int (nI (k + 1)))]) hX dX9_backsBy_49 rfl kI_1 rfl rfl ?_
          refine w_goto (tgt := 5) hX dX9_backsBy_52 (by decide) ?_
          have e9 : mBk B aw t c k + 0 = mBk B aw t c (k + 1) := by
            simp only [mBk]; rw [if_neg (by omega)]
          rw [e9]
          exact ih (by omega)
        · refine w_iconst hX dX9_backsBy_42 kI_1 ?_
          refine w_goto (tgt := 47) hX dX9_backsBy_43 (by decide) ?_
          refine w_iaddN hX dX9_backsBy_47 ?_
          refine w_istore_n (i := 3) (l2 := [some (.ref m), some (.int (nI t)), some (.int (nI c)), some (.int (nI (mBk B aw t c k + 1))), some (.int (nI k))]) hX dX9_backsBy_48 rfl (ltb rfl) rfl rfl ?_
          refine w_iincN (w := 1) (l2 := [some (.ref m), some (.int (nI t)), some (.int (nI c)), some (.int (nI (mBk B aw t c k + 1))), some (.int (nI (k + 1)))]) hX dX9_backsBy_49 rfl kI_1 rfl rfl ?_
          refine w_goto (tgt := 5) hX dX9_backsBy_52 (by decide) ?_
          have e9 : mBk B aw t c k + 1 = mBk B aw t c (k + 1) := by
            simp only [mBk]; rw [if_pos ⟨c2, by omega⟩]
          rw [e9]
          exact ih (by omega)
  refine w_iconst hX dX9_backsBy_0 kI_0 ?_
  refine w_istore_n (i := 3) (l2 := [some (.ref m), some (.int (nI t)), some (.int (nI c)), some (.int (nI 0)), none]) hX dX9_backsBy_1 rfl (ltb rfl) rfl rfl ?_
  refine w_iconst hX dX9_backsBy_2 kI_0 ?_
  refine w_istore (l2 := [some (.ref m), some (.int (nI t)), some (.int (nI c)), some (.int (nI 0)), some (.int (nI 0))]) hX dX9_backsBy_3 (ltb rfl) rfl rfl ?_
  exact loop 0 (Nat.zero_le _)
set_option maxHeartbeats 1000000 in
theorem s_m_isTwice (Γ : Gm) (μ : Mem) (m : Nat) (B : Nat → Nat) (hb : mb μ m B) (aw : Option Nat) (ha : maw μ m aw) (t : Nat) (ht : t < 3) (hn : B (1 + 25 * t) ≤ 12) (c : Nat) (hc : c ≤ 20000000) (hS0 : ∀ k, k < B (1 + 25 * t) → 60 ≤ mS B t k) : SpI Γ MX9_isTwice 2 0 0 [.ref m, .int (nI t), .int (nI c)] μ (fun r μ2 => r = bI (mTw B aw t c (B (1 + 25 * t))) ∧ μ2 = μ) := by
  refine SpI.of okX9_isTwice rfl [some (.ref m), some (.int (nI t)), some (.int (nI c)), none, none] ⟨rfl, rfl, rfl, trivial⟩ (leb rfl) (leb rfl) (fun X hX hE hnm => ?_)
  have loop : ∀ k, k ≤ B (1 + 25 * t) → WP Γ X 0 0 5 [some (.ref m), some (.int (nI t)), some (.int (nI c)), some (.int (bI (mTw B aw t c k))), some (.int (nI k))] [] μ := by
    refine loopU (B (1 + 25 * t)) ?_
    intro k hk ih
    have hS9 : k < 12 → mS B t k ≤ 15000000 := fun h => mS_le hb ht h
    have hB9 := (hb.2 (1 + 25 * t) (by omega)).2
    refine w_iload hX dX9_isTwice_5 rfl ?_
    refine w_aload_n (i := 0) hX dX9_isTwice_7 rfl rfl ?_
    refine w_iload_n (i := 1) hX dX9_isTwice_8 rfl rfl ?_
    refine w_callVI (As := [.int (nI t)]) (rest := [.int (nI k)]) (ci := 9) (o := m) (k2 := 0) (n2 := 0) hX dX9_isTwice_9 (s_m_backsOf Γ μ m B hb t ht) okX9_backsOf (ltb rfl) (mod_s hb.1) ml_RX9_243 imX9_backsOf seX9_backsOf rfl (leb rfl) (leb rfl) rfl rfl (fun r9 μ9 hq9 => ?_)
    obtain ⟨hr9, hm9⟩ := hq9; rw [hr9, hm9]; clear hr9 hm9 r9 μ9
    refine wn_icmp_ge (tgt := 66) hX dX9_isTwice_12 (by decide) (by have := hS9; omega) (by have := hS9; omega) (fun c1 => ?_) (fun c1 => ?_)
    · refine w_iload_n (i := 3) hX dX9_isTwice_66 rfl rfl ?_
      exact w_iret hX hE dX9_isTwice_67 (Or.inl rfl) (bI_nar _) ⟨by rw [show k = B (1 + 25 * t) by omega], rfl⟩
    · refine w_iload_n (i := 3) hX dX9_isTwice_15 rfl rfl ?_
      refine wb_ne (tgt := 54) hX dX9_isTwice_16 (by decide) (fun c2 => ?_) (fun c2 => ?_)
      · refine w_iconst hX dX9_isTwice_54 kI_1 ?_
        refine w_goto (tgt := 59) hX dX9_isTwice_55 (by decide) ?_
        refine w_istore_n (i := 3) (l2 := [some (.ref m), some (.int (nI t)), some (.int (nI c)), some (.int (nI 1)), some (.int (nI k))]) hX dX9_isTwice_59 rfl (ltb rfl) rfl rfl ?_
        refine w_iincN (w := 1) (l2 := [some (.ref m), some (.int (nI t)), some (.int (nI c)), some (.int (nI 1)), some (.int (nI (k + 1)))]) hX dX9_isTwice_60 rfl kI_1 rfl rfl ?_
        refine w_goto (tgt := 5) hX dX9_isTwice_63 (by decide) ?_
        have e9 : true = mTw B aw t c (k + 1) := by
          simp only [mTw]; simp [c2] <;> omega
        have e10 : nI 1 = bI (mTw B aw t c (k + 1)) := by rw [← e9]; rfl
        rw [e10]
        exact ih (by omega)
      · refine w_aload_n (i := 0) hX dX9_isTwice_19 rfl rfl ?_
        refine w_iload_n (i := 1) hX dX9_isTwice_20 rfl rfl ?_
        refine w_iload hX dX9_isTwice_21 rfl ?_
        refine w_callVI (As := [.int (nI t), .int (nI k)]) (rest := []) (ci := 9) (o := m) (k2 := 0) (n2 := 0) hX dX9_isTwice_23 (s_m_isThere Γ μ m B hb aw ha t ht k (by omega)) okX9_isThere (ltb rfl) (mod_s hb.1) ml_RX9_246 imX9_isThere seX9_isThere rfl (leb rfl) (leb rfl) rfl rfl (fun r9 μ9 hq9 => ?_)
        obtain ⟨hr9, hm9⟩ := hq9; rw [hr9, hm9]; clear hr9 hm9 r9 μ9
        refine wb_eq (tgt := 58) hX dX9_isTwice_26 (by decide) (fun c3 => ?_) (fun c3 => ?_)
        · refine w_iconst hX dX9_isTwice_58 kI_0 ?_
          refine w_istore_n (i := 3) (l2 := [some (.ref m), some (.int (nI t)), some (.int (nI c)), some (.int (nI 0)), some (.int (nI k))]) hX dX9_isTwice_59 rfl (ltb rfl) rfl rfl ?_
          refine w_iincN (w := 1) (l2 := [some (.ref m), some (.int (nI t)), some (.int (nI c)), some (.int (nI 0)), some (.int (nI (k + 1)))]) hX dX9_isTwice_60 rfl kI_1 rfl rfl ?_
          refine w_goto (tgt := 5) hX dX9_isTwice_63 (by decide) ?_
          have e9 : false = mTw B aw t c (k + 1) := by
            simp only [mTw]; simp [c2, c3] <;> omega
          have e10 : nI 0 = bI (mTw B aw t c (k + 1)) := by rw [← e9]; rfl
          rw [e10]
          exact ih (by omega)
        · refine w_aload_n (i := 0) hX dX9_isTwice_29 rfl rfl ?_
          refine w_iload_n (i := 1) hX dX9_isTwice_30 rfl rfl ?_
          refine w_iload hX dX9_isTwice_31 rfl ?_
          refine w_callVI (As := [.int (nI t), .int (nI k)]) (rest := []) (ci := 9) (o := m) (k2 := 0) (n2 := 0) hX dX9_isTwice_33 (s_m_strokeOf Γ μ m B hb t ht k (by omega)) okX9_strokeOf (ltb rfl) (mod_s hb.1) ml_RX9_250 imX9_strokeOf seX9_strokeOf rfl (leb rfl) (leb rfl) rfl rfl (fun r9 μ9 hq9 => ?_)
          obtain ⟨hr9, hm9⟩ := hq9; rw [hr9, hm9]; clear hr9 hm9 r9 μ9
          refine w_iload_n (i := 2) hX dX9_isTwice_36 rfl rfl ?_
          refine wn_icmp_le (tgt := 58) hX dX9_isTwice_37 (by decide) (by have := hS9; omega) (by have := hS9; omega) (fun c4 => ?_) (fun c4 => ?_)
          · refine w_iconst hX dX9_isTwice_58 kI_0 ?_
            refine w_istore_n (i := 3) (l2 := [some (.ref m), some (.int (nI t)), some (.int (nI c)), some (.int (nI 0)), some (.int (nI k))]) hX dX9_isTwice_59 rfl (ltb rfl) rfl rfl ?_
            refine w_iincN (w := 1) (l2 := [some (.ref m), some (.int (nI t)), some (.int (nI c)), some (.int (nI 0)), some (.int (nI (k + 1)))]) hX dX9_isTwice_60 rfl kI_1 rfl rfl ?_
            refine w_goto (tgt := 5) hX dX9_isTwice_63 (by decide) ?_
            have e9 : false = mTw B aw t c (k + 1) := by
              simp only [mTw]; simp [c2, c3, c4] <;> omega
            have e10 : nI 0 = bI (mTw B aw t c (k + 1)) := by rw [← e9]; rfl
            rw [e10]
            exact ih (by omega)
          · refine w_aload_n (i := 0) hX dX9_isTwice_40 rfl rfl ?_
            refine w_iload_n (i := 1) hX dX9_isTwice_41 rfl rfl ?_
            refine w_iload hX dX9_isTwice_42 rfl ?_
            refine w_callVI (As := [.int (nI t), .int (nI k)]) (rest := []) (ci := 9) (o := m) (k2 := 0) (n2 := 0) hX dX9_isTwice_44 (s_m_strokeOf Γ μ m B hb t ht k (by omega)) okX9_strokeOf (ltb rfl) (mod_s hb.1) ml_RX9_250 imX9_strokeOf seX9_strokeOf rfl (leb rfl) (leb rfl) rfl rfl (fun r9 μ9 hq9 => ?_)
            obtain ⟨hr9, hm9⟩ := hq9; rw [hr9, hm9]; clear hr9 hm9 r9 μ9
            refine w_bipush hX dX9_isTwice_47 kB_60 ?_
            refine w_isubN hX dX9_isTwice_49 (hS0 k (by omega)) ?_
            refine w_iload_n (i := 2) hX dX9_isTwice_50 rfl rfl ?_
            refine wn_icmp_gt (tgt := 58) hX dX9_isTwice_51 (by decide) (by have := hS9; omega) (by have := hS9; omega) (fun c5 => ?_) (fun c5 => ?_)
            · refine w_iconst hX dX9_isTwice_58 kI_0 ?_
              refine w_istore_n (i := 3) (l2 := [some (.ref m), some (.int (nI t)), some (.int (nI c)), some (.int (nI 0)), some (.int (nI k))]) hX dX9_isTwice_59 rfl (ltb rfl) rfl rfl ?_
              refine w_iincN (w := 1) (l2 := [some (.ref m), some (.int (nI t)), some (.int (nI c)), some (.int (nI 0)), some (.int (nI (k + 1)))]) hX dX9_isTwice_60 rfl kI_1 rfl rfl ?_
              refine w_goto (tgt := 5) hX dX9_isTwice_63 (by decide) ?_
              have e9 : false = mTw B aw t c (k + 1) := by
                simp only [mTw]; simp [c2, c3, c4, c5] <;> omega
              have e10 : nI 0 = bI (mTw B aw t c (k + 1)) := by rw [← e9]; rfl
              rw [e10]
              exact ih (by omega)
            · refine w_iconst hX dX9_isTwice_54 kI_1 ?_
              refine w_goto (tgt := 59) hX dX9_isTwice_55 (by decide) ?_
              refine w_istore_n (i := 3) (l2 := [some (.ref m), some (.int (nI t)), some (.int (nI c)), some (.int (nI 1)), some (.int (nI k))]) hX dX9_isTwice_59 rfl (ltb rfl) rfl rfl ?_
              refine w_iincN (w := 1) (l2 := [some (.ref m), some (.int (nI t)), some (.int (nI c)), some (.int (nI 1)), some (.int (nI (k + 1)))]) hX dX9_isTwice_60 rfl kI_1 rfl rfl ?_
              refine w_goto (tgt := 5) hX dX9_isTwice_63 (by decide) ?_
              have e9 : true = mTw B aw t c (k + 1) := by
                simp only [mTw]; simp [c2, c3, c4, c5] <;> omega
              have e10 : nI 1 = bI (mTw B aw t c (k + 1)) := by rw [← e9]; rfl
              rw [e10]
              exact ih (by omega)
  refine w_iconst hX dX9_isTwice_0 kI_0 ?_
  refine w_istore_n (i := 3) (l2 := [some (.ref m), some (.int (nI t)), some (.int (nI c)), some (.int (nI 0)), none]) hX dX9_isTwice_1 rfl (ltb rfl) rfl rfl ?_
  refine w_iconst hX dX9_isTwice_2 kI_0 ?_
  refine w_istore (l2 := [some (.ref m), some (.int (nI t)), some (.int (nI c)), some (.int (nI 0)), some (.int (nI 0))]) hX dX9_isTwice_3 (ltb rfl) rfl rfl ?_
  exact loop 0 (Nat.zero_le _)
