theorem mb_f {μ : Mem} {m k : Nat} {v : Int32} {B : Nat → Nat} (h : mb μ m B) : mb (sI μ m k v) m B := ⟨h.1, fun j hj => by rw [gI_no (by omega)]; exact h.2 j hj⟩
theorem maw_f {μ : Mem} {m k : Nat} {v : Int32} {aw : Option Nat} (h : maw μ m aw) (hk : 16 ≠ k) : maw (sI μ m k v) m aw := ⟨by rw [gI_nk hk]; exact h.1, h.2⟩
def thr (o : Option Int32) : Int32 := if o.isNone = true then nI 1 else nI 0
def HM (μ : Mem) (m : Nat) (B : Nat → Nat) : Prop := mb μ m B ∧ maw μ m none ∧ WBt B
theorem HM.f {μ : Mem} {m k : Nat} {v : Int32} {B : Nat → Nat} (h : HM μ m B) (hk : 16 ≠ k) : HM (sI μ m k v) m B := ⟨mb_f h.1, maw_f h.2.1 hk, h.2.2⟩
theorem i_sub {x y : Int32} (h1 : -2147483648 ≤ x.toInt - y.toInt) (h2 : x.toInt - y.toInt < 2147483648) : (x - y).toInt = x.toInt - y.toInt := by
  rw [Int32.toInt_sub]
  simp only [Int.bmod]
  split <;> omega
set_option maxHeartbeats 1000000 in
theorem s_m_isIn (Γ : Gm) (μ : Mem) (v lo hi : Int32) : SpI Γ MX9_isIn 0 0 0 [.int v, .int lo, .int hi] μ (fun r μ2 => r = bI (inR v lo hi) ∧ μ2 = μ) := by
  refine SpI.of okX9_isIn rfl [some (.int v), some (.int lo), some (.int hi)] ⟨rfl, rfl, rfl, trivial⟩ (leb rfl) (leb rfl) (fun X hX hE hnm => ?_)
  refine w_iload_n (i := 0) hX dX9_isIn_0 rfl rfl ?_
  refine w_iload_n (i := 1) hX dX9_isIn_1 rfl rfl ?_
  refine wc_icmp_lt (tgt := 14) hX dX9_isIn_2 (by decide) (fun c1 => ?_) (fun c1 => ?_)
  · refine w_iconst hX dX9_isIn_14 kI_0 ?_
    exact w_iret hX hE dX9_isIn_15 (Or.inl rfl) rfl ⟨bI_2 (by simp only [inR, Bool.and_eq_true, Bool.and_eq_false_iff, decide_eq_true_eq, decide_eq_false_iff_not, Int32.le_iff_toInt_le, Int32.lt_iff_toInt_lt] at *; omega), rfl⟩
  · refine w_iload_n (i := 0) hX dX9_isIn_5 rfl rfl ?_
    refine w_iload_n (i := 2) hX dX9_isIn_6 rfl rfl ?_
    refine wc_icmp_gt (tgt := 14) hX dX9_isIn_7 (by decide) (fun c2 => ?_) (fun c2 => ?_)
    · refine w_iconst hX dX9_isIn_14 kI_0 ?_
      exact w_iret hX hE dX9_isIn_15 (Or.inl rfl) rfl ⟨bI_2 (by simp only [inR, Bool.and_eq_true, Bool.and_eq_false_iff, decide_eq_true_eq, decide_eq_false_iff_not, Int32.le_iff_toInt_le, Int32.lt_iff_toInt_lt] at *; omega), rfl⟩
    · refine w_iconst hX dX9_isIn_10 kI_1 ?_
      refine w_goto (tgt := 15) hX dX9_isIn_11 (by decide) ?_
      exact w_iret hX hE dX9_isIn_15 (Or.inl rfl) rfl ⟨bI_1 (by simp only [inR, Bool.and_eq_true, Bool.and_eq_false_iff, decide_eq_true_eq, decide_eq_false_iff_not, Int32.le_iff_toInt_le, Int32.lt_iff_toInt_lt] at *; omega), rfl⟩
set_option maxHeartbeats 1000000 in
theorem s_m_isMinute (Γ : Gm) (μ : Mem) (q : Int32) : SpI Γ MX9_isMinute 1 0 0 [.int q] μ (fun r μ2 => r = bI (inR q (nI 0) (nI 9999999)) ∧ μ2 = μ) := by
  refine SpI.of okX9_isMinute rfl [some (.int q)] ⟨rfl, trivial⟩ (leb rfl) (leb rfl) (fun X hX hE hnm => ?_)
  refine w_iload_n (i := 0) hX dX9_isMinute_0 rfl rfl ?_
  refine w_iconst hX dX9_isMinute_1 kI_0 ?_
  refine w_ldcw hX dX9_isMinute_2 ki_RX9_266 ?_
  refine w_top (y := nI 9999999) rfl ?_
  refine w_callSI (As := [.int q, .int (nI 0), .int (nI 9999999)]) (rest := []) (k2 := 0) (n2 := 0) hX dX9_isMinute_5 (s_m_isIn Γ μ q (nI 0) (nI 9999999)) okX9_isIn ml_RX9_262 stX9_isIn rfl (leb rfl) (leb rfl) rfl rfl (fun r9 μ9 hq9 => ?_)
  obtain ⟨hr9, hm9⟩ := hq9; rw [hr9, hm9]; clear hr9 hm9 r9 μ9
  exact w_iret hX hE dX9_isMinute_8 (Or.inl rfl) (bI_nar _) ⟨rfl, rfl⟩
set_option maxHeartbeats 1000000 in
theorem s_m_isClock (Γ : Gm) (μ : Mem) (d q : Int32) : SpI Γ MX9_isClock 1 0 0 [.int d, .int q] μ (fun r μ2 => r = bI (vC d q) ∧ μ2 = μ) := by
  refine SpI.of okX9_isClock rfl [some (.int d), some (.int q)] ⟨rfl, rfl, trivial⟩ (leb rfl) (leb rfl) (fun X hX hE hnm => ?_)
  refine w_iload_n (i := 0) hX dX9_isClock_0 rfl rfl ?_
  refine w_iconst hX dX9_isClock_1 kI_0 ?_
  refine w_sipush hX dX9_isClock_2 kS_3649 ?_
  refine w_callSI (As := [.int d, .int (nI 0), .int (nI 3649)]) (rest := []) (k2 := 0) (n2 := 0) hX dX9_isClock_5 (s_m_isIn Γ μ d (nI 0) (nI 3649)) okX9_isIn ml_RX9_262 stX9_isIn rfl (leb rfl) (leb rfl) rfl rfl (fun r9 μ9 hq9 => ?_)
  obtain ⟨hr9, hm9⟩ := hq9; rw [hr9, hm9]; clear hr9 hm9 r9 μ9
  refine wb_eq (tgt := 26) hX dX9_isClock_8 (by decide) (fun c1 => ?_) (fun c1 => ?_)
  · refine w_iconst hX dX9_isClock_26 kI_0 ?_
    exact w_iret hX hE dX9_isClock_27 (Or.inl rfl) rfl ⟨bI_2 (by simp [vC, *]), rfl⟩
  · refine w_iload_n (i := 1) hX dX9_isClock_11 rfl rfl ?_
    refine w_iconst hX dX9_isClock_12 kI_0 ?_
    refine w_sipush hX dX9_isClock_13 kS_1439 ?_
    refine w_callSI (As := [.int q, .int (nI 0), .int (nI 1439)]) (rest := []) (k2 := 0) (n2 := 0) hX dX9_isClock_16 (s_m_isIn Γ μ q (nI 0) (nI 1439)) okX9_isIn ml_RX9_262 stX9_isIn rfl (leb rfl) (leb rfl) rfl rfl (fun r9 μ9 hq9 => ?_)
    obtain ⟨hr9, hm9⟩ := hq9; rw [hr9, hm9]; clear hr9 hm9 r9 μ9
    refine wb_eq (tgt := 26) hX dX9_isClock_19 (by decide) (fun c2 => ?_) (fun c2 => ?_)
    · refine w_iconst hX dX9_isClock_26 kI_0 ?_
      exact w_iret hX hE dX9_isClock_27 (Or.inl rfl) rfl ⟨bI_2 (by simp [vC, *]), rfl⟩
    · refine w_iconst hX dX9_isClock_22 kI_1 ?_
      refine w_goto (tgt := 27) hX dX9_isClock_23 (by decide) ?_
      exact w_iret hX hE dX9_isClock_27 (Or.inl rfl) rfl ⟨bI_1 (by simp [vC, *]), rfl⟩
set_option maxHeartbeats 1000000 in
theorem s_m_isTown (Γ : Gm) (μ : Mem) (m : Nat) (B : Nat → Nat) (hm : HM μ m B) (t : Int32) : SpI Γ MX9_isTown 1 0 0 [.ref m, .int t] μ (fun r μ2 => r = bI (isT B t) ∧ μ2 = μ) := by
  refine SpI.of okX9_isTown rfl [some (.ref m), some (.int t)] ⟨rfl, rfl, trivial⟩ (leb rfl) (leb rfl) (fun X hX hE hnm => ?_)
  refine w_iload_n (i := 1) hX dX9_isTown_0 rfl rfl ?_
  refine wc_if_lt (tgt := 16) hX dX9_isTown_1 (by decide) (fun c1 => ?_) (fun c1 => ?_)
  · refine w_iconst hX dX9_isTown_16 kI_0 ?_
    exact w_iret hX hE dX9_isTown_17 (Or.inl rfl) rfl ⟨bI_2 (by simp only [isT, Bool.and_eq_true, Bool.and_eq_false_iff, decide_eq_true_eq, decide_eq_false_iff_not, Int32.le_iff_toInt_le, Int32.lt_iff_toInt_lt] at *; omega), rfl⟩
  · refine w_iload_n (i := 1) hX dX9_isTown_4 rfl rfl ?_
    refine w_aload_n (i := 0) hX dX9_isTown_5 rfl rfl ?_
    refine w_callVI (As := []) (rest := [.int t]) (ci := 9) (o := m) (k2 := 0) (n2 := 0) hX dX9_isTown_6 (s_m_towns Γ μ m B hm.1) okX9_towns (ltb rfl) (mod_s hm.1.1) ml_RX9_236 imX9_towns seX9_towns rfl (leb rfl) (leb rfl) rfl rfl (fun r9 μ9 hq9 => ?_)
    obtain ⟨hr9, hm9⟩ := hq9; rw [hr9, hm9]; clear hr9 hm9 r9 μ9
    refine wc_icmp_ge (tgt := 16) hX dX9_isTown_9 (by decide) (fun c2 => ?_) (fun c2 => ?_)
    · refine w_iconst hX dX9_isTown_16 kI_0 ?_
      exact w_iret hX hE dX9_isTown_17 (Or.inl rfl) rfl ⟨bI_2 (by simp only [isT, Bool.and_eq_true, Bool.and_eq_false_iff, decide_eq_true_eq, decide_eq_false_iff_not, Int32.le_iff_toInt_le, Int32.lt_iff_toInt_lt] at *; omega), rfl⟩
    · refine w_iconst hX dX9_isTown_12 kI_1 ?_
      refine w_goto (tgt := 17) hX dX9_isTown_13 (by decide) ?_
      exact w_iret hX hE dX9_isTown_17 (Or.inl rfl) rfl ⟨bI_1 (by simp only [isT, Bool.and_eq_true, Bool.and_eq_false_iff, decide_eq_true_eq, decide_eq_false_iff_not, Int32.le_iff_toInt_le, Int32.lt_iff_toInt_lt] at *; omega), rfl⟩
theorem s_n_firstOf (Γ : Gm) (μ : Mem) (m : Nat) (B : Nat → Nat) (hm : HM μ m B) (t c : Nat) (ht : t < 3) (hc : c ≤ 20000000) : SpI Γ MX9_firstOf 2 0 0 [.ref m, .int (nI t), .int (nI c)] μ (fun r μ2 => r = nI (fst B t c) ∧ μ2 = μ) := s_m_firstOf Γ μ m B hm.1 none hm.2.1 t ht (nB_le hm.2.2 ht) c hc
theorem s_n_isTwice (Γ : Gm) (μ : Mem) (m : Nat) (B : Nat → Nat) (hm : HM μ m B) (t c : Nat) (ht : t < 3) (hc : c ≤ 20000000) : SpI Γ MX9_isTwice 2 0 0 [.ref m, .int (nI t), .int (nI c)] μ (fun r μ2 => r = bI (tw B t c) ∧ μ2 = μ) := s_m_isTwice Γ μ m B hm.1 none hm.2.1 t ht (nB_le hm.2.2 ht) c hc (fun k hk => (mS_rng hm.2.2 ht hk).1)
theorem s_n_backsBy (Γ : Gm) (μ : Mem) (m : Nat) (B : Nat → Nat) (hm : HM μ m B) (t c : Nat) (ht : t < 3) (hc : c ≤ 20000000) : SpI Γ MX9_backsBy 2 0 0 [.ref m, .int (nI t), .int (nI c)] μ (fun r μ2 => r = nI (bk B t c) ∧ μ2 = μ) := s_m_backsBy Γ μ m B hm.1 none hm.2.1 t ht (nB_le hm.2.2 ht) c hc
set_option maxHeartbeats 1000000 in
theorem s_n_lastOf (Γ : Gm) (μ : Mem) (m : Nat) (B : Nat → Nat) (hm : HM μ m B) (t c : Nat) (ht : t < 3) (hc : c ≤ 20000000) : SpI Γ MX9_lastOf 3 0 0 [.ref m, .int (nI t), .int (nI c)] μ (fun r μ2 => r = nI (lst B t c) ∧ μ2 = μ) := by
  refine SpI.of okX9_lastOf rfl [some (.ref m), some (.int (nI t)), some (.int (nI c))] ⟨rfl, rfl, rfl, trivial⟩ (leb rfl) (leb rfl) (fun X hX hE hnm => ?_)
  refine w_aload_n (i := 0) hX dX9_lastOf_0 rfl rfl ?_
  refine w_iload_n (i := 1) hX dX9_lastOf_1 rfl rfl ?_
  refine w_iload_n (i := 2) hX dX9_lastOf_2 rfl rfl ?_
  refine w_callVI (As := [.int (nI t), .int (nI c)]) (rest := []) (ci := 9) (o := m) (k2 := 0) (n2 := 0) hX dX9_lastOf_3 (s_n_firstOf Γ μ m B hm t c (by omega) (by omega)) okX9_firstOf (ltb rfl) (mod_s hm.1.1) ml_RX9_256 imX9_firstOf seX9_firstOf rfl (leb rfl) (leb rfl) rfl rfl (fun r9 μ9 hq9 => ?_)
  obtain ⟨hr9, hm9⟩ := hq9; rw [hr9, hm9]; clear hr9 hm9 r9 μ9
  refine w_aload_n (i := 0) hX dX9_lastOf_6 rfl rfl ?_
  refine w_iload_n (i := 1) hX dX9_lastOf_7 rfl rfl ?_
  refine w_iload_n (i := 2) hX dX9_lastOf_8 rfl rfl ?_
  refine w_callVI (As := [.int (nI t), .int (nI c)]) (rest := [.int (nI (fst B t c))]) (ci := 9) (o := m) (k2 := 0) (n2 := 0) hX dX9_lastOf_9 (s_n_isTwice Γ μ m B hm t c (by omega) (by omega)) okX9_isTwice (ltb rfl) (mod_s hm.1.1) ml_RX9_259 imX9_isTwice seX9_isTwice rfl (leb rfl) (leb rfl) rfl rfl (fun r9 μ9 hq9 => ?_)
  obtain ⟨hr9, hm9⟩ := hq9; rw [hr9, hm9]; clear hr9 hm9 r9 μ9
  refine wb_eq (tgt := 20) hX dX9_lastOf_12 (by decide) (fun c1 => ?_) (fun c1 => ?_)
  · refine w_iconst hX dX9_lastOf_20 kI_0 ?_
    refine w_iaddN hX dX9_lastOf_21 ?_
    exact w_iret hX hE dX9_lastOf_22 (Or.inl rfl) rfl ⟨by unfold lst; rw [if_neg (by rw [c1]; decide)]; rfl, rfl⟩
  · refine w_bipush hX dX9_lastOf_15 kB_60 ?_
    refine w_goto (tgt := 21) hX dX9_lastOf_17 (by decide) ?_
    refine w_iaddN hX dX9_lastOf_21 ?_
    exact w_iret hX hE dX9_lastOf_22 (Or.inl rfl) rfl ⟨by unfold lst; rw [if_pos c1]; rfl, rfl⟩
set_option maxHeartbeats 1000000 in
theorem s_n_shownAt (Γ : Gm) (μ : Mem) (m : Nat) (B : Nat → Nat) (hm : HM μ m B) (t c : Nat) (ht : t < 3) (hc : c ≤ 20000000) : SpI Γ MX9_shownAt 3 0 0 [.ref m, .int (nI t), .int (nI c)] μ (fun r μ2 => r = (nI c) - (nI (60 * (bk B t c))) ∧ μ2 = μ) := by
  refine SpI.of okX9_shownAt rfl [some (.ref m), some (.int (nI t)), some (.int (nI c))] ⟨rfl, rfl, rfl, trivial⟩ (leb rfl) (leb rfl) (fun X hX hE hnm => ?_)
  refine w_iload_n (i := 2) hX dX9_shownAt_0 rfl rfl ?_
  refine w_bipush hX dX9_shownAt_1 kB_60 ?_
  refine w_aload_n (i := 0) hX dX9_shownAt_3 rfl rfl ?_
  refine w_iload_n (i := 1) hX dX9_shownAt_4 rfl rfl ?_
  refine w_iload_n (i := 2) hX dX9_shownAt_5 rfl rfl ?_
  refine w_callVI (As := [.int (nI t), .int (nI c)]) (rest := [.int (nI 60), .int (nI c)]) (ci := 9) (o := m) (k2 := 0) (n2 := 0) hX dX9_shownAt_6 (s_n_backsBy Γ μ m B hm t c (by omega) (by omega)) okX9_backsBy (ltb rfl) (mod_s hm.1.1) ml_RX9_253 imX9_backsBy seX9_backsBy rfl (leb rfl) (leb rfl) rfl rfl (fun r9 μ9 hq9 => ?_)
  obtain ⟨hr9, hm9⟩ := hq9; rw [hr9, hm9]; clear hr9 hm9 r9 μ9
  refine w_imulN hX dX9_shownAt_9 ?_
  refine w_isub hX dX9_shownAt_10 ?_
  exact w_iret hX hE dX9_shownAt_11 (Or.inl rfl) rfl ⟨rfl, rfl⟩
set_option maxHeartbeats 1000000 in
theorem s_m_shown (Γ : Gm) (μ : Mem) (m : Nat) (B : Nat → Nat) (hm : HM μ m B) (t q : Int32) : SpI Γ MX9_shown 5 0 0 [.ref m, .int t, .int q] μ (fun r μ2 => r = (A_shown B t q).getD (nI 0) ∧ μ2 = sI μ m 0 (thr (A_shown B t q))) := by
  refine SpI.of okX9_shown rfl [some (.ref m), some (.int t), some (.int q)] ⟨rfl, rfl, rfl, trivial⟩ (leb rfl) (leb rfl) (fun X hX hE hnm => ?_)
  refine w_aload_n (i := 0) hX dX9_shown_0 rfl rfl ?_
  refine w_aload_n (i := 0) hX dX9_shown_1 rfl rfl ?_
  refine w_iload_n (i := 1) hX dX9_shown_2 rfl rfl ?_
  refine w_callVI (As := [.int t]) (rest := [.ref m]) (ci := 9) (o := m) (k2 := 0) (n2 := 0) hX dX9_shown_3 (s_m_isTown Γ μ m B hm t) okX9_isTown (ltb rfl) (mod_s hm.1.1) ml_RX9_267 imX9_isTown seX9_isTown rfl (leb rfl) (leb rfl) rfl rfl (fun r9 μ9 hq9 => ?_)
  obtain ⟨hr9, hm9⟩ := hq9; rw [hr9, hm9]; clear hr9 hm9 r9 μ9
  refine wb_eq (tgt := 20) hX dX9_shown_6 (by decide) (fun hT => ?_) (fun hT => ?_)
  · refine w_iconst hX dX9_shown_20 kI_1 ?_
    refine w_putI hX dX9_shown_21 fo_RX9_1 rfl rfl rfl rfl (mod_s hm.1.1) ?_
    refine w_aload_n (i := 0) hX dX9_shown_24 rfl rfl ?_
    refine w_getI hX dX9_shown_25 fo_RX9_1 rfl (mod_s hm.1.1) ?_
    refine w_top (y := nI 1) gI_same ?_
    refine wn_if_le (tgt := 35) hX dX9_shown_28 (by decide) (by omega) (fun c2 => ?_) (fun c2 => ?_)
    · exact absurd c2 (by decide)
    · refine w_iconst hX dX9_shown_31 kI_0 ?_
      refine w_goto (tgt := 41) hX dX9_shown_32 (by decide) ?_
      exact w_iret hX hE dX9_shown_41 (Or.inl rfl) rfl ⟨by simp [A_shown, *], by simp [A_shown, thr, hT]⟩
  · refine w_iload_n (i := 2) hX dX9_shown_9 rfl rfl ?_
    refine w_callSI (As := [.int q]) (rest := [.ref m]) (k2 := 0) (n2 := 0) hX dX9_shown_10 (s_m_isMinute Γ μ q) okX9_isMinute ml_RX9_270 stX9_isMinute rfl (leb rfl) (leb rfl) rfl rfl (fun r9 μ9 hq9 => ?_)
    obtain ⟨hr9, hm9⟩ := hq9; rw [hr9, hm9]; clear hr9 hm9 r9 μ9
    refine wb_eq (tgt := 20) hX dX9_shown_13 (by decide) (fun hQ => ?_) (fun hQ => ?_)
    · refine w_iconst hX dX9_shown_20 kI_1 ?_
      refine w_putI hX dX9_shown_21 fo_RX9_1 rfl rfl rfl rfl (mod_s hm.1.1) ?_
      refine w_aload_n (i := 0) hX dX9_shown_24 rfl rfl ?_
      refine w_getI hX dX9_shown_25 fo_RX9_1 rfl (mod_s hm.1.1) ?_
      refine w_top (y := nI 1) gI_same ?_
      refine wn_if_le (tgt := 35) hX dX9_shown_28 (by decide) (by omega) (fun c4 => ?_) (fun c4 => ?_)
      · exact absurd c4 (by decide)
      · refine w_iconst hX dX9_shown_31 kI_0 ?_
        refine w_goto (tgt := 41) hX dX9_shown_32 (by decide) ?_
        exact w_iret hX hE dX9_shown_41 (Or.inl rfl) rfl ⟨by simp [A_shown, *], by simp [A_shown, thr, hT, hQ]⟩
    · refine w_iconst hX dX9_shown_16 kI_0 ?_
      refine w_goto (tgt := 21) hX dX9_shown_17 (by decide) ?_
      refine w_putI hX dX9_shown_21 fo_RX9_1 rfl rfl rfl rfl (mod_s hm.1.1) ?_
      refine w_aload_n (i := 0) hX dX9_shown_24 rfl rfl ?_
      refine w_getI hX dX9_shown_25 fo_RX9_1 rfl (mod_s hm.1.1) ?_
      refine w_top (y := nI 0) gI_same ?_
      refine wn_if_le (tgt := 35) hX dX9_shown_28 (by decide) (by omega) (fun c5 => ?_) (fun c5 => ?_)
      · have hqb := (inR_nI (by omega) hQ).2; have htb := (isT_nI hm.2.2.1 hT).2; have ht3 := hm.2.2.1
        refine w_aload_n (i := 0) hX dX9_shown_35 rfl rfl ?_
        refine w_iload_n (i := 1) hX dX9_shown_36 rfl rfl ?_
        refine w_top (y := nI (tN t)) (isT_nI hm.2.2.1 hT).1 ?_
        refine w_iload_n (i := 2) hX dX9_shown_37 rfl rfl ?_
        refine w_top (y := nI (tN q)) (inR_nI (by omega) hQ).1 ?_
        refine w_callVI (As := [.int (nI (tN t)), .int (nI (tN q))]) (rest := []) (ci := 9) (o := m) (k2 := 0) (n2 := 0) hX dX9_shown_38 (s_n_shownAt Γ (sI μ m 0 (nI 0)) m B (hm.f (by omega)) (tN t) (tN q) (by omega) (by omega)) okX9_shownAt (ltb rfl) (mod_s hm.1.1) ml_RX9_273 imX9_shownAt seX9_shownAt rfl (leb rfl) (leb rfl) rfl rfl (fun r9 μ9 hq9 => ?_)
        obtain ⟨hr9, hm9⟩ := hq9; rw [hr9, hm9]; clear hr9 hm9 r9 μ9
        exact w_iret hX hE dX9_shown_41 (Or.inl rfl) rfl ⟨by simp [A_shown, *], by simp [A_shown, thr, hT, hQ]⟩
      · exact absurd c5 (by decide)
set_option maxHeartbeats 1000000 in
theorem s_m_backs (Γ : Gm) (μ : Mem) (m : Nat) (B : Nat → Nat) (hm : HM μ m B) (t q : Int32) : SpI Γ MX9_backs 5 0 0 [.ref m, .int t, .int q] μ (fun r μ2 => r = (A_backs B t q).getD (nI 0) ∧ μ2 = sI μ m 0 (thr (A_backs B t q))) := by
  refine SpI.of okX9_backs rfl [some (.ref m), some (.int t), some (.int q)] ⟨rfl, rfl, rfl, trivial⟩ (leb rfl) (leb rfl) (fun X hX hE hnm => ?_)
  refine w_aload_n (i := 0) hX dX9_backs_0 rfl rfl ?_
  refine w_aload_n (i := 0) hX dX9_backs_1 rfl rfl ?_
  refine w_iload_n (i := 1) hX dX9_backs_2 rfl rfl ?_
  refine w_callVI (As := [.int t]) (rest := [.ref m]) (ci := 9) (o := m) (k2 := 0) (n2 := 0) hX dX9_backs_3 (s_m_isTown Γ μ m B hm t) okX9_isTown (ltb rfl) (mod_s hm.1.1) ml_RX9_267 imX9_isTown seX9_isTown rfl (leb rfl) (leb rfl) rfl rfl (fun r9 μ9 hq9 => ?_)
  obtain ⟨hr9, hm9⟩ := hq9; rw [hr9, hm9]; clear hr9 hm9 r9 μ9
  refine wb_eq (tgt := 20) hX dX9_backs_6 (by decide) (fun hT => ?_) (fun hT => ?_)
  · refine w_iconst hX dX9_backs_20 kI_1 ?_
    refine w_putI hX dX9_backs_21 fo_RX9_1 rfl rfl rfl rfl (mod_s hm.1.1) ?_
    refine w_aload_n (i := 0) hX dX9_backs_24 rfl rfl ?_
    refine w_getI hX dX9_backs_25 fo_RX9_1 rfl (mod_s hm.1.1) ?_
    refine w_top (y := nI 1) gI_same ?_
    refine wn_if_le (tgt := 35) hX dX9_backs_28 (by decide) (by omega) (fun c2 => ?_) (fun c2 => ?_)
    · exact absurd c2 (by decide)
    · refine w_iconst hX dX9_backs_31 kI_0 ?_
      refine w_goto (tgt := 41) hX dX9_backs_32 (by decide) ?_
      exact w_iret hX hE dX9_backs_41 (Or.inl rfl) rfl ⟨by simp [A_backs, *], by simp [A_backs, thr, hT]⟩
  · refine w_iload_n (i := 2) hX dX9_backs_9 rfl rfl ?_
    refine w_callSI (As := [.int q]) (rest := [.ref m]) (k2 := 0) (n2 := 0) hX dX9_backs_10 (s_m_isMinute Γ μ q) okX9_isMinute ml_RX9_270 stX9_isMinute rfl (leb rfl) (leb rfl) rfl rfl (fun r9 μ9 hq9 => ?_)
    obtain ⟨hr9, hm9⟩ := hq9; rw [hr9, hm9]; clear hr9 hm9 r9 μ9
    refine wb_eq (tgt := 20) hX dX9_backs_13 (by decide) (fun hQ => ?_) (fun hQ => ?_)
    · refine w_iconst hX dX9_backs_20 kI_1 ?_
      refine w_putI hX dX9_backs_21 fo_RX9_1 rfl rfl rfl rfl (mod_s hm.1.1) ?_
      refine w_aload_n (i := 0) hX dX9_backs_24 rfl rfl ?_
      refine w_getI hX dX9_backs_25 fo_RX9_1 rfl (mod_s hm.1.1) ?_
      refine w_top (y := nI 1) gI_same ?_
      refine wn_if_le (tgt := 35) hX dX9_backs_28 (by decide) (by omega) (fun c4 => ?_) (fun c4 => ?_)
      · exact absurd c4 (by decide)
      · refine w_iconst hX dX9_backs_31 kI_0 ?_
        refine w_goto (tgt := 41) hX dX9_backs_32 (by decide) ?_
        exact w_iret hX hE dX9_backs_41 (Or.inl rfl) rfl ⟨by simp [A_backs, *], by simp [A_backs, thr, hT, hQ]⟩
    · refine w_iconst hX dX9_backs_16 kI_0 ?_
      refine w_goto (tgt := 21) hX dX9_backs_17 (by decide) ?_
      refine w_putI hX dX9_backs_21 fo_RX9_1 rfl rfl rfl rfl (mod_s hm.1.1) ?_
      refine w_aload_n (i := 0) hX dX9_backs_24 rfl rfl ?_
      refine w_getI hX dX9_backs_25 fo_RX9_1 rfl (mod_s hm.1.1) ?_
      refine w_top (y := nI 0) gI_same ?_
      refine wn_if_le (tgt := 35) hX dX9_backs_28 (by decide) (by omega) (fun c5 => ?_) (fun c5 => ?_)
      · have hqb := (inR_nI (by omega) hQ).2; have htb := (isT_nI hm.2.2.1 hT).2; have ht3 := hm.2.2.1
        refine w_aload_n (i := 0) hX dX9_backs_35 rfl rfl ?_
        refine w_iload_n (i := 1) hX dX9_backs_36 rfl rfl ?_
        refine w_top (y := nI (tN t)) (isT_nI hm.2.2.1 hT).1 ?_
        refine w_iload_n (i := 2) hX dX9_backs_37 rfl rfl ?_
        refine w_top (y := nI (tN q)) (inR_nI (by omega) hQ).1 ?_
        refine w_callVI (As := [.int (nI (tN t)), .int (nI (tN q))]) (rest := []) (ci := 9) (o := m) (k2 := 0) (n2 := 0) hX dX9_backs_38 (s_n_backsBy Γ (sI μ m 0 (nI 0)) m B (hm.f (by omega)) (tN t) (tN q) (by omega) (by omega)) okX9_backsBy (ltb rfl) (mod_s hm.1.1) ml_RX9_253 imX9_backsBy seX9_backsBy rfl (leb rfl) (leb rfl) rfl rfl (fun r9 μ9 hq9 => ?_)
        obtain ⟨hr9, hm9⟩ := hq9; rw [hr9, hm9]; clear hr9 hm9 r9 μ9
        exact w_iret hX hE dX9_backs_41 (Or.inl rfl) rfl ⟨by simp [A_backs, *], by simp [A_backs, thr, hT, hQ]⟩
      · exact absurd c5 (by decide)
set_option maxHeartbeats 1000000 in
theorem s_m_deed (Γ : Gm) (μ : Mem) (m : Nat) (B : Nat → Nat) (hm : HM μ m B) (t q l t2 : Int32) : SpI Γ MX9_deed 5 0 0 [.ref m, .int t, .int q, .int l, .int t2] μ (fun r μ2 => r = (A_deed B t q l t2).getD (nI 0) ∧ μ2 = sI μ m 0 (thr (A_deed B t q l t2))) := by
  refine SpI.of okX9_deed rfl [some (.ref m), some (.int t), some (.int q), some (.int l), some (.int t2)] ⟨rfl, rfl, rfl, rfl, rfl, trivial⟩ (leb rfl) (leb rfl) (fun X hX hE hnm => ?_)
  refine w_aload_n (i := 0) hX dX9_deed_0 rfl rfl ?_
  refine w_aload_n (i := 0) hX dX9_deed_1 rfl rfl ?_
  refine w_iload_n (i := 1) hX dX9_deed_2 rfl rfl ?_
  refine w_callVI (As := [.int t]) (rest := [.ref m]) (ci := 9) (o := m) (k2 := 0) (n2 := 0) hX dX9_deed_3 (s_m_isTown Γ μ m B hm t) okX9_isTown (ltb rfl) (mod_s hm.1.1) ml_RX9_267 imX9_isTown seX9_isTown rfl (leb rfl) (leb rfl) rfl rfl (fun r9 μ9 hq9 => ?_)
  obtain ⟨hr9, hm9⟩ := hq9; rw [hr9, hm9]; clear hr9 hm9 r9 μ9
  refine wb_eq (tgt := 40) hX dX9_deed_6 (by decide) (fun hT => ?_) (fun hT => ?_)
  · refine w_iconst hX dX9_deed_40 kI_1 ?_
    refine w_putI hX dX9_deed_41 fo_RX9_1 rfl rfl rfl rfl (mod_s hm.1.1) ?_
    refine w_aload_n (i := 0) hX dX9_deed_44 rfl rfl ?_
    refine w_getI hX dX9_deed_45 fo_RX9_1 rfl (mod_s hm.1.1) ?_
    refine w_top (y := nI 1) gI_same ?_
    refine wn_if_le (tgt := 55) hX dX9_deed_48 (by decide) (by omega) (fun c2 => ?_) (fun c2 => ?_)
    · exact absurd c2 (by decide)
    · refine w_iconst hX dX9_deed_51 kI_0 ?_
      refine w_goto (tgt := 71) hX dX9_deed_52 (by decide) ?_
      exact w_iret hX hE dX9_deed_71 (Or.inl rfl) rfl ⟨by simp [A_deed, *], by simp [A_deed, thr, hT]⟩
  · refine w_aload_n (i := 0) hX dX9_deed_9 rfl rfl ?_
    refine w_iload hX dX9_deed_10 rfl ?_
    refine w_callVI (As := [.int t2]) (rest := [.ref m]) (ci := 9) (o := m) (k2 := 0) (n2 := 0) hX dX9_deed_12 (s_m_isTown Γ μ m B hm t2) okX9_isTown (ltb rfl) (mod_s hm.1.1) ml_RX9_267 imX9_isTown seX9_isTown rfl (leb rfl) (leb rfl) rfl rfl (fun r9 μ9 hq9 => ?_)
    obtain ⟨hr9, hm9⟩ := hq9; rw [hr9, hm9]; clear hr9 hm9 r9 μ9
    refine wb_eq (tgt := 40) hX dX9_deed_15 (by decide) (fun hU => ?_) (fun hU => ?_)
    · refine w_iconst hX dX9_deed_40 kI_1 ?_
      refine w_putI hX dX9_deed_41 fo_RX9_1 rfl rfl rfl rfl (mod_s hm.1.1) ?_
      refine w_aload_n (i := 0) hX dX9_deed_44 rfl rfl ?_
      refine w_getI hX dX9_deed_45 fo_RX9_1 rfl (mod_s hm.1.1) ?_
      refine w_top (y := nI 1) gI_same ?_
      refine wn_if_le (tgt := 55) hX dX9_deed_48 (by decide) (by omega) (fun c4 => ?_) (fun c4 => ?_)
      · exact absurd c4 (by decide)
      · refine w_iconst hX dX9_deed_51 kI_0 ?_
        refine w_goto (tgt := 71) hX dX9_deed_52 (by decide) ?_
        exact w_iret hX hE dX9_deed_71 (Or.inl rfl) rfl ⟨by simp [A_deed, *], by simp [A_deed, thr, hT, hU]⟩
    · refine w_iload_n (i := 2) hX dX9_deed_18 rfl rfl ?_
      refine w_callSI (As := [.int q]) (rest := [.ref m]) (k2 := 0) (n2 := 0) hX dX9_deed_19 (s_m_isMinute Γ μ q) okX9_isMinute ml_RX9_270 stX9_isMinute rfl (leb rfl) (leb rfl) rfl rfl (fun r9 μ9 hq9 => ?_)
      obtain ⟨hr9, hm9⟩ := hq9; rw [hr9, hm9]; clear hr9 hm9 r9 μ9
      refine wb_eq (tgt := 40) hX dX9_deed_22 (by decide) (fun hQ => ?_) (fun hQ => ?_)
      · refine w_iconst hX dX9_deed_40 kI_1 ?_
        refine w_putI hX dX9_deed_41 fo_RX9_1 rfl rfl rfl rfl (mod_s hm.1.1) ?_
        refine w_aload_n (i := 0) hX dX9_deed_44 rfl rfl ?_
        refine w_getI hX dX9_deed_45 fo_RX9_1 rfl (mod_s hm.1.1) ?_
        refine w_top (y := nI 1) gI_same ?_
        refine wn_if_le (tgt := 55) hX dX9_deed_48 (by decide) (by omega) (fun c6 => ?_) (fun c6 => ?_)
        · exact absurd c6 (by decide)
        · refine w_iconst hX dX9_deed_51 kI_0 ?_
          refine w_goto (tgt := 71) hX dX9_deed_52 (by decide) ?_
          exact w_iret hX hE dX9_deed_71 (Or.inl rfl) rfl ⟨by simp [A_deed, *], by simp [A_deed, thr, hT, hU, hQ]⟩
      · refine w_iload_n (i := 3) hX dX9_deed_25 rfl rfl ?_
        refine w_iconst hX dX9_deed_26 kI_0 ?_
        refine w_sipush hX dX9_deed_27 kS_9999 ?_
        refine w_callSI (As := [.int l, .int (nI 0), .int (nI 9999)]) (rest := [.ref m]) (k2 := 0) (n2 := 0) hX dX9_deed_30 (s_m_isIn Γ μ l (nI 0) (nI 9999)) okX9_isIn ml_RX9_262 stX9_isIn rfl (leb rfl) (leb rfl) rfl rfl (fun r9 μ9 hq9 => ?_)
        obtain ⟨hr9, hm9⟩ := hq9; rw [hr9, hm9]; clear hr9 hm9 r9 μ9
        refine wb_eq (tgt := 40) hX dX9_deed_33 (by decide) (fun hL => ?_) (fun hL => ?_)
        · refine w_iconst hX dX9_deed_40 kI_1 ?_
          refine w_putI hX dX9_deed_41 fo_RX9_1 rfl rfl rfl rfl (mod_s hm.1.1) ?_
          refine w_aload_n (i := 0) hX dX9_deed_44 rfl rfl ?_
          refine w_getI hX dX9_deed_45 fo_RX9_1 rfl (mod_s hm.1.1) ?_
          refine w_top (y := nI 1) gI_same ?_
          refine wn_if_le (tgt := 55) hX dX9_deed_48 (by decide) (by omega) (fun c8 => ?_) (fun c8 => ?_)
          · exact absurd c8 (by decide)
          · refine w_iconst hX dX9_deed_51 kI_0 ?_
            refine w_goto (tgt := 71) hX dX9_deed_52 (by decide) ?_
            exact w_iret hX hE dX9_deed_71 (Or.inl rfl) rfl ⟨by simp [A_deed, *], by simp [A_deed, thr, hT, hU, hQ, hL]⟩
        · refine w_iconst hX dX9_deed_36 kI_0 ?_
          refine w_goto (tgt := 41) hX dX9_deed_37 (by decide) ?_
          refine w_putI hX dX9_deed_41 fo_RX9_1 rfl rfl rfl rfl (mod_s hm.1.1) ?_
          refine w_aload_n (i := 0) hX dX9_deed_44 rfl rfl ?_
          refine w_getI hX dX9_deed_45 fo_RX9_1 rfl (mod_s hm.1.1) ?_
          refine w_top (y := nI 0) gI_same ?_
          refine wn_if_le (tgt := 55) hX dX9_deed_48 (by decide) (by omega) (fun c9 => ?_) (fun c9 => ?_)
          · have htb := (isT_nI hm.2.2.1 hT).2; have ht3 := hm.2.2.1
            have hqb := (inR_nI (by omega) hQ).2; have hlb := (inR_nI (by omega) hL).2; have hub := (isT_nI hm.2.2.1 hU).2
            refine w_aload_n (i := 0) hX dX9_deed_55 rfl rfl ?_
            refine w_iload hX dX9_deed_56 rfl ?_
            refine w_top (y := nI (tN t2)) (isT_nI hm.2.2.1 hU).1 ?_
            refine w_iload_n (i := 2) hX dX9_deed_58 rfl rfl ?_
            refine w_top (y := nI (tN q)) (inR_nI (by omega) hQ).1 ?_
            refine w_iload_n (i := 3) hX dX9_deed_59 rfl rfl ?_
            refine w_top (y := nI (tN l)) (inR_nI (by omega) hL).1 ?_
            refine w_iaddN hX dX9_deed_60 ?_
            refine w_callVI (As := [.int (nI (tN t2)), .int (nI (tN q + (tN l)))]) (rest := []) (ci := 9) (o := m) (k2 := 0) (n2 := 0) hX dX9_deed_61 (s_n_shownAt Γ (sI μ m 0 (nI 0)) m B (hm.f (by omega)) (tN t2) (tN q + (tN l)) (by omega) (by omega)) okX9_shownAt (ltb rfl) (mod_s hm.1.1) ml_RX9_273 imX9_shownAt seX9_shownAt rfl (leb rfl) (leb rfl) rfl rfl (fun r9 μ9 hq9 => ?_)
            obtain ⟨hr9, hm9⟩ := hq9; rw [hr9, hm9]; clear hr9 hm9 r9 μ9
            refine w_aload_n (i := 0) hX dX9_deed_64 rfl rfl ?_
            refine w_iload_n (i := 1) hX dX9_deed_65 rfl rfl ?_
            refine w_top (y := nI (tN t)) (isT_nI hm.2.2.1 hT).1 ?_
            refine w_iload_n (i := 2) hX dX9_deed_66 rfl rfl ?_
            refine w_top (y := nI (tN q)) (inR_nI (by omega) hQ).1 ?_
            refine w_callVI (As := [.int (nI (tN t)), .int (nI (tN q))]) (rest := [.int (nI (tN q + (tN l)) - nI (60 * bk B (tN t2) (tN q + (tN l))))]) (ci := 9) (o := m) (k2 := 0) (n2 := 0) hX dX9_deed_67 (s_n_shownAt Γ (sI μ m 0 (nI 0)) m B (hm.f (by omega)) (tN t) (tN q) (by omega) (by omega)) okX9_shownAt (ltb rfl) (mod_s hm.1.1) ml_RX9_273 imX9_shownAt seX9_shownAt rfl (leb rfl) (leb rfl) rfl rfl (fun r9 μ9 hq9 => ?_)
            obtain ⟨hr9, hm9⟩ := hq9; rw [hr9, hm9]; clear hr9 hm9 r9 μ9
            refine w_isub hX dX9_deed_70 ?_
            exact w_iret hX hE dX9_deed_71 (Or.inl rfl) rfl ⟨by simp [A_deed, *], by simp [A_deed, thr, hT, hU, hQ, hL]⟩
          · exact absurd c9 (by decide)
theorem vC_nI {d q : Int32} (h : vC d q = true) : (d = nI (tN d) ∧ tN d ≤ 3649) ∧ (q = nI (tN q) ∧ tN q ≤ 1439) := by
  simp only [vC, Bool.and_eq_true] at h
  exact ⟨inR_nI (by omega) h.1, inR_nI (by omega) h.2⟩
theorem ct_eq (d q : Int32) : nI (1440 * tN d + tN q) = nI (ctN d q) := by unfold ctN; rw [Nat.mul_comm]
theorem ct_le {d q : Int32} (h : vC d q = true) : ctN d q ≤ 5255999 := by
  have := vC_nI h
  unfold ctN; omega
theorem btw_eq {f1 f2 l1 l2 a b : Nat} (h1 : l1 = f1 + 60 * a) (h2 : l2 = f2 + 60 * b) (ha : a ≤ 1) (hb : b ≤ 1) (hf1 : f1 ≤ 20000000) (hf2 : f2 ≤ 20000000) : (nI l2 - nI f1 - (nI f2 - nI l1)) / nI 60 + nI 1 = nI (1 + a + b) := by
  have e1 : (nI l2 - nI f1).toInt = l2 - f1 := pk_sub_toInt (by omega) (by omega)
  have e2 : (nI f2 - nI l1).toInt = f2 - l1 := pk_sub_toInt (by omega) (by omega)
  have e3 : nI l2 - nI f1 - (nI f2 - nI l1) = nI (60 * (a + b)) := by
    apply Int32.toInt_inj.mp
    rw [i_sub (by omega) (by omega), e1, e2, nI_toInt (by omega)]
    omega
  rw [e3, pk_div (by omega) (by omega) (by omega), nI_add]
  congr 1
  omega
theorem w2 {w : Int32} (h : inR w (nI 0) (nI 2) = true) (h0 : w ≠ nI 0) (h1 : w ≠ nI 1) : w = nI 2 := by
  obtain ⟨e, hl⟩ := inR_nI (by omega) h
  rw [e] at h0 h1 ⊢
  have : tN w = 0 ∨ tN w = 1 ∨ tN w = 2 := by omega
  rcases this with h9 | h9 | h9
  · rw [h9] at h0; exact absurd rfl h0
  · rw [h9] at h1; exact absurd rfl h1
  · rw [h9]
theorem w3 {w : Int32} (h : inR w (nI 0) (nI 3) = true) (h0 : w ≠ nI 0) (h1 : w ≠ nI 1) (h2 : w ≠ nI 2) : w = nI 3 := by
  obtain ⟨e, hl⟩ := inR_nI (by omega) h
  rw [e] at h0 h1 h2 ⊢
  have : tN w = 0 ∨ tN w = 1 ∨ tN w = 2 ∨ tN w = 3 := by omega
  rcases this with h9 | h9 | h9 | h9
  · rw [h9] at h0; exact absurd rfl h0
  · rw [h9] at h1; exact absurd rfl h1
  · rw [h9] at h2; exact absurd rfl h2
  · rw [h9]
theorem wNot {w : Int32} (h : inR w (nI 0) (nI 2) = false) : w ≠ nI 0 ∧ w ≠ nI 1 ∧ w ≠ nI 2 := by
  refine ⟨?_, ?_, ?_⟩ <;> (rintro rfl; revert h; decide)
set_option maxHeartbeats 1000000 in
theorem s_m_moment (Γ : Gm) (μ : Mem) (m : Nat) (B : Nat → Nat) (hm : HM μ m B) (t d q w : Int32) : SpI Γ MX9_moment 5 0 0 [.ref m, .int t, .int d, .int q, .int w] μ (fun r μ2 => r = A_moment B t d q w ∧ μ2 = sI μ m 0 (nI 0)) := by
  refine SpI.of okX9_moment rfl [some (.ref m), some (.int t), some (.int d), some (.int q), some (.int w), none] ⟨rfl, rfl, rfl, rfl, rfl, trivial⟩ (leb rfl) (leb rfl) (fun X hX hE hnm => ?_)
  refine w_aload_n (i := 0) hX dX9_moment_0 rfl rfl ?_
  refine w_iconst hX dX9_moment_1 kI_0 ?_
  refine w_putI hX dX9_moment_2 fo_RX9_1 rfl rfl rfl rfl (mod_s hm.1.1) ?_
  refine w_aload_n (i := 0) hX dX9_moment_5 rfl rfl ?_
  refine w_iload_n (i := 1) hX dX9_moment_6 rfl rfl ?_
  refine w_callVI (As := [.int t]) (rest := []) (ci := 9) (o := m) (k2 := 0) (n2 := 0) hX dX9_moment_7 (s_m_isTown Γ (sI μ m 0 (nI 0)) m B (hm.f (by omega)) t) okX9_isTown (ltb rfl) (mod_s hm.1.1) ml_RX9_267 imX9_isTown seX9_isTown rfl (leb rfl) (leb rfl) rfl rfl (fun r9 μ9 hq9 => ?_)
  obtain ⟨hr9, hm9⟩ := hq9; rw [hr9, hm9]; clear hr9 hm9 r9 μ9
  refine wb_eq (tgt := 31) hX dX9_moment_10 (by decide) (fun hT => ?_) (fun hT => ?_)
  · refine w_iconst hX dX9_moment_31 kI_m1 ?_
    exact w_iret hX hE dX9_moment_32 (Or.inl rfl) rfl ⟨by simp [A_moment, *], rfl⟩
  · refine w_iload_n (i := 2) hX dX9_moment_13 rfl rfl ?_
    refine w_iload_n (i := 3) hX dX9_moment_14 rfl rfl ?_
    refine w_callSI (As := [.int d, .int q]) (rest := []) (k2 := 0) (n2 := 0) hX dX9_moment_15 (s_m_isClock Γ (sI μ m 0 (nI 0)) d q) okX9_isClock ml_RX9_276 stX9_isClock rfl (leb rfl) (leb rfl) rfl rfl (fun r9 μ9 hq9 => ?_)
    obtain ⟨hr9, hm9⟩ := hq9; rw [hr9, hm9]; clear hr9 hm9 r9 μ9
    refine wb_eq (tgt := 31) hX dX9_moment_18 (by decide) (fun hC => ?_) (fun hC => ?_)
    · refine w_iconst hX dX9_moment_31 kI_m1 ?_
      exact w_iret hX hE dX9_moment_32 (Or.inl rfl) rfl ⟨by simp [A_moment, *], rfl⟩
    · refine w_iload hX dX9_moment_21 rfl ?_
      refine w_iconst hX dX9_moment_23 kI_0 ?_
      refine w_iconst hX dX9_moment_24 kI_2 ?_
      refine w_callSI (As := [.int w, .int (nI 0), .int (nI 2)]) (rest := []) (k2 := 0) (n2 := 0) hX dX9_moment_25 (s_m_isIn Γ (sI μ m 0 (nI 0)) w (nI 0) (nI 2)) okX9_isIn ml_RX9_262 stX9_isIn rfl (leb rfl) (leb rfl) rfl rfl (fun r9 μ9 hq9 => ?_)
      obtain ⟨hr9, hm9⟩ := hq9; rw [hr9, hm9]; clear hr9 hm9 r9 μ9
      refine wb_ne (tgt := 33) hX dX9_moment_28 (by decide) (fun hV => ?_) (fun hV => ?_)
      · have htb := (isT_nI hm.2.2.1 hT).2; have ht3 := hm.2.2.1
        have hcb := ct_le hC
        refine w_sipush hX dX9_moment_33 kS_1440 ?_
        refine w_iload_n (i := 2) hX dX9_moment_36 rfl rfl ?_
        refine w_top (y := nI (tN d)) (vC_nI hC).1.1 ?_
        refine w_imulN hX dX9_moment_37 ?_
        refine w_iload_n (i := 3) hX dX9_moment_38 rfl rfl ?_
        refine w_top (y := nI (tN q)) (vC_nI hC).2.1 ?_
        refine w_iaddN hX dX9_moment_39 ?_
        refine w_top (y := nI (ctN d q)) (ct_eq d q) ?_
        refine w_istore (l2 := [some (.ref m), some (.int t), some (.int d), some (.int q), some (.int w), some (.int (nI (ctN d q)))]) hX dX9_moment_40 (ltb rfl) rfl rfl ?_
        refine w_iload hX dX9_moment_42 rfl ?_
        refine wc_if_ne (tgt := 63) hX dX9_moment_44 (by decide) (fun c4 => ?_) (fun c4 => ?_)
        · refine w_iload hX dX9_moment_63 rfl ?_
          refine w_iconst hX dX9_moment_65 kI_1 ?_
          refine wc_icmp_ne (tgt := 79) hX dX9_moment_66 (by decide) (fun c5 => ?_) (fun c5 => ?_)
          · refine w_aload_n (i := 0) hX dX9_moment_79 rfl rfl ?_
            refine w_iload_n (i := 1) hX dX9_moment_80 rfl rfl ?_
            refine w_top (y := nI (tN t)) (isT_nI hm.2.2.1 hT).1 ?_
            refine w_iload hX dX9_moment_81 rfl ?_
            refine w_callVI (As := [.int (nI (tN t)), .int (nI (ctN d q))]) (rest := []) (ci := 9) (o := m) (k2 := 0) (n2 := 0) hX dX9_moment_83 (s_n_isTwice Γ (sI μ m 0 (nI 0)) m B (hm.f (by omega)) (tN t) (ctN d q) (by omega) (by omega)) okX9_isTwice (ltb rfl) (mod_s hm.1.1) ml_RX9_259 imX9_isTwice seX9_isTwice rfl (leb rfl) (leb rfl) rfl rfl (fun r9 μ9 hq9 => ?_)
            obtain ⟨hr9, hm9⟩ := hq9; rw [hr9, hm9]; clear hr9 hm9 r9 μ9
            refine wb_eq (tgt := 99) hX dX9_moment_86 (by decide) (fun c6 => ?_) (fun c6 => ?_)
            · refine w_iconst hX dX9_moment_99 kI_m1 ?_
              exact w_iret hX hE dX9_moment_100 (Or.inl rfl) rfl ⟨by unfold A_moment; rw [if_pos (by simp [hT, hC]), if_neg c4, if_neg c5, if_pos (w2 hV c4 c5)]; simp [c6], rfl⟩
            · refine w_aload_n (i := 0) hX dX9_moment_89 rfl rfl ?_
              refine w_iload_n (i := 1) hX dX9_moment_90 rfl rfl ?_
              refine w_top (y := nI (tN t)) (isT_nI hm.2.2.1 hT).1 ?_
              refine w_iload hX dX9_moment_91 rfl ?_
              refine w_callVI (As := [.int (nI (tN t)), .int (nI (ctN d q))]) (rest := []) (ci := 9) (o := m) (k2 := 0) (n2 := 0) hX dX9_moment_93 (s_n_lastOf Γ (sI μ m 0 (nI 0)) m B (hm.f (by omega)) (tN t) (ctN d q) (by omega) (by omega)) okX9_lastOf (ltb rfl) (mod_s hm.1.1) ml_RX9_279 imX9_lastOf seX9_lastOf rfl (leb rfl) (leb rfl) rfl rfl (fun r9 μ9 hq9 => ?_)
              obtain ⟨hr9, hm9⟩ := hq9; rw [hr9, hm9]; clear hr9 hm9 r9 μ9
              refine w_goto (tgt := 100) hX dX9_moment_96 (by decide) ?_
              exact w_iret hX hE dX9_moment_100 (Or.inl rfl) rfl ⟨by unfold A_moment; rw [if_pos (by simp [hT, hC]), if_neg c4, if_neg c5, if_pos (w2 hV c4 c5)]; simp [c6], rfl⟩
          · refine w_aload_n (i := 0) hX dX9_moment_69 rfl rfl ?_
            refine w_iload_n (i := 1) hX dX9_moment_70 rfl rfl ?_
            refine w_top (y := nI (tN t)) (isT_nI hm.2.2.1 hT).1 ?_
            refine w_iload hX dX9_moment_71 rfl ?_
            refine w_callVI (As := [.int (nI (tN t)), .int (nI (ctN d q))]) (rest := []) (ci := 9) (o := m) (k2 := 0) (n2 := 0) hX dX9_moment_73 (s_n_firstOf Γ (sI μ m 0 (nI 0)) m B (hm.f (by omega)) (tN t) (ctN d q) (by omega) (by omega)) okX9_firstOf (ltb rfl) (mod_s hm.1.1) ml_RX9_256 imX9_firstOf seX9_firstOf rfl (leb rfl) (leb rfl) rfl rfl (fun r9 μ9 hq9 => ?_)
            obtain ⟨hr9, hm9⟩ := hq9; rw [hr9, hm9]; clear hr9 hm9 r9 μ9
            refine w_goto (tgt := 100) hX dX9_moment_76 (by decide) ?_
            exact w_iret hX hE dX9_moment_100 (Or.inl rfl) rfl ⟨by unfold A_moment; rw [if_pos (by simp [hT, hC]), if_neg c4, if_pos c5], rfl⟩
        · refine w_aload_n (i := 0) hX dX9_moment_47 rfl rfl ?_
          refine w_iload_n (i := 1) hX dX9_moment_48 rfl rfl ?_
          refine w_top (y := nI (tN t)) (isT_nI hm.2.2.1 hT).1 ?_
          refine w_iload hX dX9_moment_49 rfl ?_
          refine w_callVI (As := [.int (nI (tN t)), .int (nI (ctN d q))]) (rest := []) (ci := 9) (o := m) (k2 := 0) (n2 := 0) hX dX9_moment_51 (s_n_isTwice Γ (sI μ m 0 (nI 0)) m B (hm.f (by omega)) (tN t) (ctN d q) (by omega) (by omega)) okX9_isTwice (ltb rfl) (mod_s hm.1.1) ml_RX9_259 imX9_isTwice seX9_isTwice rfl (leb rfl) (leb rfl) rfl rfl (fun r9 μ9 hq9 => ?_)
          obtain ⟨hr9, hm9⟩ := hq9; rw [hr9, hm9]; clear hr9 hm9 r9 μ9
          refine wb_eq (tgt := 61) hX dX9_moment_54 (by decide) (fun c7 => ?_) (fun c7 => ?_)
          · refine w_iconst hX dX9_moment_61 kI_1 ?_
            exact w_iret hX hE dX9_moment_62 (Or.inl rfl) rfl ⟨by unfold A_moment; rw [if_pos (by simp [hT, hC]), if_pos c4]; simp [c7], rfl⟩
          · refine w_iconst hX dX9_moment_57 kI_2 ?_
            refine w_goto (tgt := 62) hX dX9_moment_58 (by decide) ?_
            exact w_iret hX hE dX9_moment_62 (Or.inl rfl) rfl ⟨by unfold A_moment; rw [if_pos (by simp [hT, hC]), if_pos c4]; simp [c7], rfl⟩
      · refine w_iconst hX dX9_moment_31 kI_m1 ?_
        exact w_iret hX hE dX9_moment_32 (Or.inl rfl) rfl ⟨by unfold A_moment; rw [if_pos (by simp [hT, hC]), if_neg (wNot hV).1, if_neg (wNot hV).2.1, if_neg (wNot hV).2.2], rfl⟩
set_option maxHeartbeats 1000000 in
theorem s_m_between (Γ : Gm) (μ : Mem) (m : Nat) (B : Nat → Nat) (hm : HM μ m B) (t d q d2 q2 w : Int32) : SpI Γ MX9_between 5 0 0 [.ref m, .int t, .int d, .int q, .int d2, .int q2, .int w] μ (fun r μ2 => r = (A_between B t d q d2 q2 w).getD (nI 0) ∧ μ2 = sI μ m 0 (thr (A_between B t d q d2 q2 w))) := by
  refine SpI.of okX9_between rfl [some (.ref m), some (.int t), some (.int d), some (.int q), some (.int d2), some (.int q2), some (.int w), none, none, none, none] ⟨rfl, rfl, rfl, rfl, rfl, rfl, rfl, trivial⟩ (leb rfl) (leb rfl) (fun X hX hE hnm => ?_)
  refine w_aload_n (i := 0) hX dX9_between_0 rfl rfl ?_
  refine w_aload_n (i := 0) hX dX9_between_1 rfl rfl ?_
  refine w_iload_n (i := 1) hX dX9_between_2 rfl rfl ?_
  refine w_callVI (As := [.int t]) (rest := [.ref m]) (ci := 9) (o := m) (k2 := 0) (n2 := 0) hX dX9_between_3 (s_m_isTown Γ μ m B hm t) okX9_isTown (ltb rfl) (mod_s hm.1.1) ml_RX9_267 imX9_isTown seX9_isTown rfl (leb rfl) (leb rfl) rfl rfl (fun r9 μ9 hq9 => ?_)
  obtain ⟨hr9, hm9⟩ := hq9; rw [hr9, hm9]; clear hr9 hm9 r9 μ9
  refine wb_eq (tgt := 41) hX dX9_between_6 (by decide) (fun hT => ?_) (fun hT => ?_)
  · refine w_iconst hX dX9_between_41 kI_1 ?_
    refine w_putI hX dX9_between_42 fo_RX9_1 rfl rfl rfl rfl (mod_s hm.1.1) ?_
    refine w_aload_n (i := 0) hX dX9_between_45 rfl rfl ?_
    refine w_getI hX dX9_between_46 fo_RX9_1 rfl (mod_s hm.1.1) ?_
    refine w_top (y := nI 1) gI_same ?_
    refine wn_if_le (tgt := 54) hX dX9_between_49 (by decide) (by omega) (fun c2 => ?_) (fun c2 => ?_)
    · exact absurd c2 (by decide)
    · refine w_iconst hX dX9_between_52 kI_0 ?_
      exact w_iret hX hE dX9_between_53 (Or.inl rfl) rfl ⟨by simp [A_between, *], by simp [A_between, thr, hT]⟩
  · refine w_iload_n (i := 2) hX dX9_between_9 rfl rfl ?_
    refine w_iload_n (i := 3) hX dX9_between_10 rfl rfl ?_
    refine w_callSI (As := [.int d, .int q]) (rest := [.ref m]) (k2 := 0) (n2 := 0) hX dX9_between_11 (s_m_isClock Γ μ d q) okX9_isClock ml_RX9_276 stX9_isClock rfl (leb rfl) (leb rfl) rfl rfl (fun r9 μ9 hq9 => ?_)
    obtain ⟨hr9, hm9⟩ := hq9; rw [hr9, hm9]; clear hr9 hm9 r9 μ9
    refine wb_eq (tgt := 41) hX dX9_between_14 (by decide) (fun hC => ?_) (fun hC => ?_)
    · refine w_iconst hX dX9_between_41 kI_1 ?_
      refine w_putI hX dX9_between_42 fo_RX9_1 rfl rfl rfl rfl (mod_s hm.1.1) ?_
      refine w_aload_n (i := 0) hX dX9_between_45 rfl rfl ?_
      refine w_getI hX dX9_between_46 fo_RX9_1 rfl (mod_s hm.1.1) ?_
      refine w_top (y := nI 1) gI_same ?_
      refine wn_if_le (tgt := 54) hX dX9_between_49 (by decide) (by omega) (fun c4 => ?_) (fun c4 => ?_)
      · exact absurd c4 (by decide)
      · refine w_iconst hX dX9_between_52 kI_0 ?_
        exact w_iret hX hE dX9_between_53 (Or.inl rfl) rfl ⟨by simp [A_between, *], by simp [A_between, thr, hT, hC]⟩
    · refine w_iload hX dX9_between_17 rfl ?_
      refine w_iload hX dX9_between_19 rfl ?_
      refine w_callSI (As := [.int d2, .int q2]) (rest := [.ref m]) (k2 := 0) (n2 := 0) hX dX9_between_21 (s_m_isClock Γ μ d2 q2) okX9_isClock ml_RX9_276 stX9_isClock rfl (leb rfl) (leb rfl) rfl rfl (fun r9 μ9 hq9 => ?_)
      obtain ⟨hr9, hm9⟩ := hq9; rw [hr9, hm9]; clear hr9 hm9 r9 μ9
      refine wb_eq (tgt := 41) hX dX9_between_24 (by decide) (fun hD => ?_) (fun hD => ?_)
      · refine w_iconst hX dX9_between_41 kI_1 ?_
        refine w_putI hX dX9_between_42 fo_RX9_1 rfl rfl rfl rfl (mod_s hm.1.1) ?_
        refine w_aload_n (i := 0) hX dX9_between_45 rfl rfl ?_
        refine w_getI hX dX9_between_46 fo_RX9_1 rfl (mod_s hm.1.1) ?_
        refine w_top (y := nI 1) gI_same ?_
        refine wn_if_le (tgt := 54) hX dX9_between_49 (by decide) (by omega) (fun c6 => ?_) (fun c6 => ?_)
        · exact absurd c6 (by decide)
        · refine w_iconst hX dX9_between_52 kI_0 ?_
          exact w_iret hX hE dX9_between_53 (Or.inl rfl) rfl ⟨by simp [A_between, *], by simp [A_between, thr, hT, hC, hD]⟩
      · refine w_iload hX dX9_between_27 rfl ?_
        refine w_iconst hX dX9_between_29 kI_0 ?_
        refine w_iconst hX dX9_between_30 kI_2 ?_
        refine w_callSI (As := [.int w, .int (nI 0), .int (nI 2)]) (rest := [.ref m]) (k2 := 0) (n2 := 0) hX dX9_between_31 (s_m_isIn Γ μ w (nI 0) (nI 2)) okX9_isIn ml_RX9_262 stX9_isIn rfl (leb rfl) (leb rfl) rfl rfl (fun r9 μ9 hq9 => ?_)
        obtain ⟨hr9, hm9⟩ := hq9; rw [hr9, hm9]; clear hr9 hm9 r9 μ9
        refine wb_eq (tgt := 41) hX dX9_between_34 (by decide) (fun hV => ?_) (fun hV => ?_)
        · refine w_iconst hX dX9_between_41 kI_1 ?_
          refine w_putI hX dX9_between_42 fo_RX9_1 rfl rfl rfl rfl (mod_s hm.1.1) ?_
          refine w_aload_n (i := 0) hX dX9_between_45 rfl rfl ?_
          refine w_getI hX dX9_between_46 fo_RX9_1 rfl (mod_s hm.1.1) ?_
          refine w_top (y := nI 1) gI_same ?_
          refine wn_if_le (tgt := 54) hX dX9_between_49 (by decide) (by omega) (fun c8 => ?_) (fun c8 => ?_)
          · exact absurd c8 (by decide)
          · refine w_iconst hX dX9_between_52 kI_0 ?_
            exact w_iret hX hE dX9_between_53 (Or.inl rfl) rfl ⟨by simp [A_between, *], by simp [A_between, thr, hT, hC, hD, hV]⟩
        · refine w_iconst hX dX9_between_37 kI_0 ?_
          refine w_goto (tgt := 42) hX dX9_between_38 (by decide) ?_
          refine w_putI hX dX9_between_42 fo_RX9_1 rfl rfl rfl rfl (mod_s hm.1.1) ?_
          refine w_aload_n (i := 0) hX dX9_between_45 rfl rfl ?_
          refine w_getI hX dX9_between_46 fo_RX9_1 rfl (mod_s hm.1.1) ?_
          refine w_top (y := nI 0) gI_same ?_
          refine wn_if_le (tgt := 54) hX dX9_between_49 (by decide) (by omega) (fun c9 => ?_) (fun c9 => ?_)
          · have htb := (isT_nI hm.2.2.1 hT).2; have ht3 := hm.2.2.1
            have hcb := ct_le hC; have hdb := ct_le hD
            refine w_sipush hX dX9_between_54 kS_1440 ?_
            refine w_iload_n (i := 2) hX dX9_between_57 rfl rfl ?_
            refine w_top (y := nI (tN d)) (vC_nI hC).1.1 ?_
            refine w_imulN hX dX9_between_58 ?_
            refine w_iload_n (i := 3) hX dX9_between_59 rfl rfl ?_
            refine w_top (y := nI (tN q)) (vC_nI hC).2.1 ?_
            refine w_iaddN hX dX9_between_60 ?_
            refine w_top (y := nI (ctN d q)) (ct_eq d q) ?_
            refine w_istore (l2 := [some (.ref m), some (.int t), some (.int d), some (.int q), some (.int d2), some (.int q2), some (.int w), some (.int (nI (ctN d q))), none, none, none]) hX dX9_between_61 (ltb rfl) rfl rfl ?_
            refine w_sipush hX dX9_between_63 kS_1440 ?_
            refine w_iload hX dX9_between_66 rfl ?_
            refine w_top (y := nI (tN d2)) (vC_nI hD).1.1 ?_
            refine w_imulN hX dX9_between_68 ?_
            refine w_iload hX dX9_between_69 rfl ?_
            refine w_top (y := nI (tN q2)) (vC_nI hD).2.1 ?_
            refine w_iaddN hX dX9_between_71 ?_
            refine w_top (y := nI (ctN d2 q2)) (ct_eq d2 q2) ?_
            refine w_istore (l2 := [some (.ref m), some (.int t), some (.int d), some (.int q), some (.int d2), some (.int q2), some (.int w), some (.int (nI (ctN d q))), some (.int (nI (ctN d2 q2))), none, none]) hX dX9_between_72 (ltb rfl) rfl rfl ?_
            refine w_aload_n (i := 0) hX dX9_between_74 rfl rfl ?_
            refine w_iload_n (i := 1) hX dX9_between_75 rfl rfl ?_
            refine w_top (y := nI (tN t)) (isT_nI hm.2.2.1 hT).1 ?_
            refine w_iload hX dX9_between_76 rfl ?_
            refine w_callVI (As := [.int (nI (tN t)), .int (nI (ctN d2 q2))]) (rest := []) (ci := 9) (o := m) (k2 := 0) (n2 := 0) hX dX9_between_78 (s_n_firstOf Γ (sI μ m 0 (nI 0)) m B (hm.f (by omega)) (tN t) (ctN d2 q2) (by omega) (by omega)) okX9_firstOf (ltb rfl) (mod_s hm.1.1) ml_RX9_256 imX9_firstOf seX9_firstOf rfl (leb rfl) (leb rfl) rfl rfl (fun r9 μ9 hq9 => ?_)
            obtain ⟨hr9, hm9⟩ := hq9; rw [hr9, hm9]; clear hr9 hm9 r9 μ9
            refine w_aload_n (i := 0) hX dX9_between_81 rfl rfl ?_
            refine w_iload_n (i := 1) hX dX9_between_82 rfl rfl ?_
            refine w_top (y := nI (tN t)) (isT_nI hm.2.2.1 hT).1 ?_
            refine w_iload hX dX9_between_83 rfl ?_
            refine w_callVI (As := [.int (nI (tN t)), .int (nI (ctN d q))]) (rest := [.int (nI (fst B (tN t) (ctN d2 q2)))]) (ci := 9) (o := m) (k2 := 0) (n2 := 0) hX dX9_between_85 (s_n_lastOf Γ (sI μ m 0 (nI 0)) m B (hm.f (by omega)) (tN t) (ctN d q) (by omega) (by omega)) okX9_lastOf (ltb rfl) (mod_s hm.1.1) ml_RX9_279 imX9_lastOf seX9_lastOf rfl (leb rfl) (leb rfl) rfl rfl (fun r9 μ9 hq9 => ?_)
            obtain ⟨hr9, hm9⟩ := hq9; rw [hr9, hm9]; clear hr9 hm9 r9 μ9
            refine w_isub hX dX9_between_88 ?_
            refine w_istore (l2 := [some (.ref m), some (.int t), some (.int d), some (.int q), some (.int d2), some (.int q2), some (.int w), some (.int (nI (ctN d q))), some (.int (nI (ctN d2 q2))), some (.int ((nI (fst B (tN t) (ctN d2 q2))) - (nI (lst B (tN t) (ctN d q))))), none]) hX dX9_between_89 (ltb rfl) rfl rfl ?_
            refine w_aload_n (i := 0) hX dX9_between_91 rfl rfl ?_
            refine w_iload_n (i := 1) hX dX9_between_92 rfl rfl ?_
            refine w_top (y := nI (tN t)) (isT_nI hm.2.2.1 hT).1 ?_
            refine w_iload hX dX9_between_93 rfl ?_
            refine w_callVI (As := [.int (nI (tN t)), .int (nI (ctN d2 q2))]) (rest := []) (ci := 9) (o := m) (k2 := 0) (n2 := 0) hX dX9_between_95 (s_n_lastOf Γ (sI μ m 0 (nI 0)) m B (hm.f (by omega)) (tN t) (ctN d2 q2) (by omega) (by omega)) okX9_lastOf (ltb rfl) (mod_s hm.1.1) ml_RX9_279 imX9_lastOf seX9_lastOf rfl (leb rfl) (leb rfl) rfl rfl (fun r9 μ9 hq9 => ?_)
            obtain ⟨hr9, hm9⟩ := hq9; rw [hr9, hm9]; clear hr9 hm9 r9 μ9
            refine w_aload_n (i := 0) hX dX9_between_98 rfl rfl ?_
            refine w_iload_n (i := 1) hX dX9_between_99 rfl rfl ?_
            refine w_top (y := nI (tN t)) (isT_nI hm.2.2.1 hT).1 ?_
            refine w_iload hX dX9_between_100 rfl ?_
            refine w_callVI (As := [.int (nI (tN t)), .int (nI (ctN d q))]) (rest := [.int (nI (lst B (tN t) (ctN d2 q2)))]) (ci := 9) (o := m) (k2 := 0) (n2 := 0) hX dX9_between_102 (s_n_firstOf Γ (sI μ m 0 (nI 0)) m B (hm.f (by omega)) (tN t) (ctN d q) (by omega) (by omega)) okX9_firstOf (ltb rfl) (mod_s hm.1.1) ml_RX9_256 imX9_firstOf seX9_firstOf rfl (leb rfl) (leb rfl) rfl rfl (fun r9 μ9 hq9 => ?_)
            obtain ⟨hr9, hm9⟩ := hq9; rw [hr9, hm9]; clear hr9 hm9 r9 μ9
            refine w_isub hX dX9_between_105 ?_
            refine w_istore (l2 := [some (.ref m), some (.int t), some (.int d), some (.int q), some (.int d2), some (.int q2), some (.int w), some (.int (nI (ctN d q))), some (.int (nI (ctN d2 q2))), some (.int ((nI (fst B (tN t) (ctN d2 q2))) - (nI (lst B (tN t) (ctN d q))))), some (.int ((nI (lst B (tN t) (ctN d2 q2))) - (nI (fst B (tN t) (ctN d q)))))]) hX dX9_between_106 (ltb rfl) rfl rfl ?_
            refine w_iload hX dX9_between_108 rfl ?_
            refine wc_if_ne (tgt := 118) hX dX9_between_110 (by decide) (fun c10 => ?_) (fun c10 => ?_)
            · refine w_iload hX dX9_between_118 rfl ?_
              refine w_iconst hX dX9_between_120 kI_1 ?_
              refine wc_icmp_ne (tgt := 129) hX dX9_between_121 (by decide) (fun c11 => ?_) (fun c11 => ?_)
              · refine w_iload hX dX9_between_129 rfl ?_
                refine w_iload hX dX9_between_131 rfl ?_
                refine w_isub hX dX9_between_133 ?_
                refine w_bipush hX dX9_between_134 kB_60 ?_
                refine w_idiv hX dX9_between_136 (nI_ne0 (by omega) (by omega)) ?_
                refine w_iconst hX dX9_between_137 kI_1 ?_
                refine w_iadd hX dX9_between_138 ?_
                exact w_iret hX hE dX9_between_139 (Or.inl rfl) rfl ⟨by unfold A_between; rw [if_pos (by simp [hT, hC, hD, hV]), if_neg c10, if_neg c11]; exact btw_eq (a := if tw B (tN t) (ctN d q) = true then 1 else 0) (b := if tw B (tN t) (ctN d2 q2) = true then 1 else 0) (by unfold lst fst; split <;> omega) (by unfold lst fst; split <;> omega) (by split <;> omega) (by split <;> omega) (by have := fst_le (c := ctN d q) hm.2.2 (show tN t < 3 by omega); omega) (by have := fst_le (c := ctN d2 q2) hm.2.2 (show tN t < 3 by omega); omega), by simp [A_between, thr, hT, hC, hD, hV]⟩
              · refine w_iload hX dX9_between_124 rfl ?_
                refine w_goto (tgt := 139) hX dX9_between_126 (by decide) ?_
                exact w_iret hX hE dX9_between_139 (Or.inl rfl) rfl ⟨by unfold A_between; rw [if_pos (by simp [hT, hC, hD, hV]), if_neg c10, if_pos c11]; rfl, by simp [A_between, thr, hT, hC, hD, hV]⟩
            · refine w_iload hX dX9_between_113 rfl ?_
              refine w_goto (tgt := 139) hX dX9_between_115 (by decide) ?_
              exact w_iret hX hE dX9_between_139 (Or.inl rfl) rfl ⟨by unfold A_between; rw [if_pos (by simp [hT, hC, hD, hV]), if_pos c10]; rfl, by simp [A_between, thr, hT, hC, hD, hV]⟩
          · exact absurd c9 (by decide)
set_option maxHeartbeats 1000000 in
theorem s_m_wage (Γ : Gm) (μ : Mem) (m : Nat) (B : Nat → Nat) (hm : HM μ m B) (t d q d2 q2 rt w : Int32) : SpI Γ MX9_wage 5 0 0 [.ref m, .int t, .int d, .int q, .int d2, .int q2, .int rt, .int w] μ (fun r μ2 => r = (A_wage B t d q d2 q2 rt w).getD (nI 0) ∧ μ2 = sI μ m 0 (thr (A_wage B t d q d2 q2 rt w))) := by
  refine SpI.of okX9_wage rfl [some (.ref m), some (.int t), some (.int d), some (.int q), some (.int d2), some (.int q2), some (.int rt), some (.int w), none, none, none] ⟨rfl, rfl, rfl, rfl, rfl, rfl, rfl, rfl, trivial⟩ (leb rfl) (leb rfl) (fun X hX hE hnm => ?_)
  refine w_aload_n (i := 0) hX dX9_wage_0 rfl rfl ?_
  refine w_aload_n (i := 0) hX dX9_wage_1 rfl rfl ?_
  refine w_iload_n (i := 1) hX dX9_wage_2 rfl rfl ?_
  refine w_callVI (As := [.int t]) (rest := [.ref m]) (ci := 9) (o := m) (k2 := 0) (n2 := 0) hX dX9_wage_3 (s_m_isTown Γ μ m B hm t) okX9_isTown (ltb rfl) (mod_s hm.1.1) ml_RX9_267 imX9_isTown seX9_isTown rfl (leb rfl) (leb rfl) rfl rfl (fun r9 μ9 hq9 => ?_)
  obtain ⟨hr9, hm9⟩ := hq9; rw [hr9, hm9]; clear hr9 hm9 r9 μ9
  refine wb_eq (tgt := 53) hX dX9_wage_6 (by decide) (fun hT => ?_) (fun hT => ?_)
  · refine w_iconst hX dX9_wage_53 kI_1 ?_
    refine w_putI hX dX9_wage_54 fo_RX9_1 rfl rfl rfl rfl (mod_s hm.1.1) ?_
    refine w_aload_n (i := 0) hX dX9_wage_57 rfl rfl ?_
    refine w_getI hX dX9_wage_58 fo_RX9_1 rfl (mod_s hm.1.1) ?_
    refine w_top (y := nI 1) gI_same ?_
    refine wn_if_le (tgt := 66) hX dX9_wage_61 (by decide) (by omega) (fun c2 => ?_) (fun c2 => ?_)
    · exact absurd c2 (by decide)
    · refine w_iconst hX dX9_wage_64 kI_0 ?_
      exact w_iret hX hE dX9_wage_65 (Or.inl rfl) rfl ⟨by simp [A_wage, *], by simp [A_wage, thr, *]⟩
  · refine w_iload_n (i := 2) hX dX9_wage_9 rfl rfl ?_
    refine w_iload_n (i := 3) hX dX9_wage_10 rfl rfl ?_
    refine w_callSI (As := [.int d, .int q]) (rest := [.ref m]) (k2 := 0) (n2 := 0) hX dX9_wage_11 (s_m_isClock Γ μ d q) okX9_isClock ml_RX9_276 stX9_isClock rfl (leb rfl) (leb rfl) rfl rfl (fun r9 μ9 hq9 => ?_)
    obtain ⟨hr9, hm9⟩ := hq9; rw [hr9, hm9]; clear hr9 hm9 r9 μ9
    refine wb_eq (tgt := 53) hX dX9_wage_14 (by decide) (fun hC => ?_) (fun hC => ?_)
    · refine w_iconst hX dX9_wage_53 kI_1 ?_
      refine w_putI hX dX9_wage_54 fo_RX9_1 rfl rfl rfl rfl (mod_s hm.1.1) ?_
      refine w_aload_n (i := 0) hX dX9_wage_57 rfl rfl ?_
      refine w_getI hX dX9_wage_58 fo_RX9_1 rfl (mod_s hm.1.1) ?_
      refine w_top (y := nI 1) gI_same ?_
      refine wn_if_le (tgt := 66) hX dX9_wage_61 (by decide) (by omega) (fun c4 => ?_) (fun c4 => ?_)
      · exact absurd c4 (by decide)
      · refine w_iconst hX dX9_wage_64 kI_0 ?_
        exact w_iret hX hE dX9_wage_65 (Or.inl rfl) rfl ⟨by simp [A_wage, *], by simp [A_wage, thr, *]⟩
    · refine w_iload hX dX9_wage_17 rfl ?_
      refine w_iload hX dX9_wage_19 rfl ?_
      refine w_callSI (As := [.int d2, .int q2]) (rest := [.ref m]) (k2 := 0) (n2 := 0) hX dX9_wage_21 (s_m_isClock Γ μ d2 q2) okX9_isClock ml_RX9_276 stX9_isClock rfl (leb rfl) (leb rfl) rfl rfl (fun r9 μ9 hq9 => ?_)
      obtain ⟨hr9, hm9⟩ := hq9; rw [hr9, hm9]; clear hr9 hm9 r9 μ9
      refine wb_eq (tgt := 53) hX dX9_wage_24 (by decide) (fun hD => ?_) (fun hD => ?_)
      · refine w_iconst hX dX9_wage_53 kI_1 ?_
        refine w_putI hX dX9_wage_54 fo_RX9_1 rfl rfl rfl rfl (mod_s hm.1.1) ?_
        refine w_aload_n (i := 0) hX dX9_wage_57 rfl rfl ?_
        refine w_getI hX dX9_wage_58 fo_RX9_1 rfl (mod_s hm.1.1) ?_
        refine w_top (y := nI 1) gI_same ?_
        refine wn_if_le (tgt := 66) hX dX9_wage_61 (by decide) (by omega) (fun c6 => ?_) (fun c6 => ?_)
        · exact absurd c6 (by decide)
        · refine w_iconst hX dX9_wage_64 kI_0 ?_
          exact w_iret hX hE dX9_wage_65 (Or.inl rfl) rfl ⟨by simp [A_wage, *], by simp [A_wage, thr, *]⟩
      · refine w_iload hX dX9_wage_27 rfl ?_
        refine w_iconst hX dX9_wage_29 kI_0 ?_
        refine w_sipush hX dX9_wage_30 kS_999 ?_
        refine w_callSI (As := [.int rt, .int (nI 0), .int (nI 999)]) (rest := [.ref m]) (k2 := 0) (n2 := 0) hX dX9_wage_33 (s_m_isIn Γ μ rt (nI 0) (nI 999)) okX9_isIn ml_RX9_262 stX9_isIn rfl (leb rfl) (leb rfl) rfl rfl (fun r9 μ9 hq9 => ?_)
        obtain ⟨hr9, hm9⟩ := hq9; rw [hr9, hm9]; clear hr9 hm9 r9 μ9
        refine wb_eq (tgt := 53) hX dX9_wage_36 (by decide) (fun hr9 => ?_) (fun hr9 => ?_)
        · refine w_iconst hX dX9_wage_53 kI_1 ?_
          refine w_putI hX dX9_wage_54 fo_RX9_1 rfl rfl rfl rfl (mod_s hm.1.1) ?_
          refine w_aload_n (i := 0) hX dX9_wage_57 rfl rfl ?_
          refine w_getI hX dX9_wage_58 fo_RX9_1 rfl (mod_s hm.1.1) ?_
          refine w_top (y := nI 1) gI_same ?_
          refine wn_if_le (tgt := 66) hX dX9_wage_61 (by decide) (by omega) (fun c8 => ?_) (fun c8 => ?_)
          · exact absurd c8 (by decide)
          · refine w_iconst hX dX9_wage_64 kI_0 ?_
            exact w_iret hX hE dX9_wage_65 (Or.inl rfl) rfl ⟨by simp [A_wage, *], by simp [A_wage, thr, *]⟩
        · refine w_iload hX dX9_wage_39 rfl ?_
          refine w_iconst hX dX9_wage_41 kI_0 ?_
          refine w_iconst hX dX9_wage_42 kI_3 ?_
          refine w_callSI (As := [.int w, .int (nI 0), .int (nI 3)]) (rest := [.ref m]) (k2 := 0) (n2 := 0) hX dX9_wage_43 (s_m_isIn Γ μ w (nI 0) (nI 3)) okX9_isIn ml_RX9_262 stX9_isIn rfl (leb rfl) (leb rfl) rfl rfl (fun r9 μ9 hq9 => ?_)
          obtain ⟨hr9, hm9⟩ := hq9; rw [hr9, hm9]; clear hr9 hm9 r9 μ9
          refine wb_eq (tgt := 53) hX dX9_wage_46 (by decide) (fun hV => ?_) (fun hV => ?_)
          · refine w_iconst hX dX9_wage_53 kI_1 ?_
            refine w_putI hX dX9_wage_54 fo_RX9_1 rfl rfl rfl rfl (mod_s hm.1.1) ?_
            refine w_aload_n (i := 0) hX dX9_wage_57 rfl rfl ?_
            refine w_getI hX dX9_wage_58 fo_RX9_1 rfl (mod_s hm.1.1) ?_
            refine w_top (y := nI 1) gI_same ?_
            refine wn_if_le (tgt := 66) hX dX9_wage_61 (by decide) (by omega) (fun c10 => ?_) (fun c10 => ?_)
            · exact absurd c10 (by decide)
            · refine w_iconst hX dX9_wage_64 kI_0 ?_
              exact w_iret hX hE dX9_wage_65 (Or.inl rfl) rfl ⟨by simp [A_wage, *], by simp [A_wage, thr, *]⟩
          · refine w_iconst hX dX9_wage_49 kI_0 ?_
            refine w_goto (tgt := 54) hX dX9_wage_50 (by decide) ?_
            refine w_putI hX dX9_wage_54 fo_RX9_1 rfl rfl rfl rfl (mod_s hm.1.1) ?_
            refine w_aload_n (i := 0) hX dX9_wage_57 rfl rfl ?_
            refine w_getI hX dX9_wage_58 fo_RX9_1 rfl (mod_s hm.1.1) ?_
            refine w_top (y := nI 0) gI_same ?_
            refine wn_if_le (tgt := 66) hX dX9_wage_61 (by decide) (by omega) (fun c11 => ?_) (fun c11 => ?_)
            · have htb := (isT_nI hm.2.2.1 hT).2; have ht3 := hm.2.2.1
              have hcb := ct_le hC; have hdb := ct_le hD
              refine w_sipush hX dX9_wage_66 kS_1440 ?_
              refine w_iload_n (i := 2) hX dX9_wage_69 rfl rfl ?_
              refine w_top (y := nI (tN d)) (vC_nI hC).1.1 ?_
              refine w_imulN hX dX9_wage_70 ?_
              refine w_iload_n (i := 3) hX dX9_wage_71 rfl rfl ?_
              refine w_top (y := nI (tN q)) (vC_nI hC).2.1 ?_
              refine w_iaddN hX dX9_wage_72 ?_
              refine w_top (y := nI (ctN d q)) (ct_eq d q) ?_
              refine w_istore (l2 := [some (.ref m), some (.int t), some (.int d), some (.int q), some (.int d2), some (.int q2), some (.int rt), some (.int w), some (.int (nI (ctN d q))), none, none]) hX dX9_wage_73 (ltb rfl) rfl rfl ?_
              refine w_sipush hX dX9_wage_75 kS_1440 ?_
              refine w_iload hX dX9_wage_78 rfl ?_
              refine w_top (y := nI (tN d2)) (vC_nI hD).1.1 ?_
              refine w_imulN hX dX9_wage_80 ?_
              refine w_iload hX dX9_wage_81 rfl ?_
              refine w_top (y := nI (tN q2)) (vC_nI hD).2.1 ?_
              refine w_iaddN hX dX9_wage_83 ?_
              refine w_top (y := nI (ctN d2 q2)) (ct_eq d2 q2) ?_
              refine w_istore (l2 := [some (.ref m), some (.int t), some (.int d), some (.int q), some (.int d2), some (.int q2), some (.int rt), some (.int w), some (.int (nI (ctN d q))), some (.int (nI (ctN d2 q2))), none]) hX dX9_wage_84 (ltb rfl) rfl rfl ?_
              refine w_iload hX dX9_wage_86 rfl ?_
              refine wc_if_ne (tgt := 99) hX dX9_wage_88 (by decide) (fun c12 => ?_) (fun c12 => ?_)
              · refine w_iload hX dX9_wage_99 rfl ?_
                refine w_iconst hX dX9_wage_101 kI_1 ?_
                refine wc_icmp_ne (tgt := 123) hX dX9_wage_102 (by decide) (fun c13 => ?_) (fun c13 => ?_)
                · refine w_iload hX dX9_wage_123 rfl ?_
                  refine w_iconst hX dX9_wage_125 kI_2 ?_
                  refine wc_icmp_ne (tgt := 147) hX dX9_wage_126 (by decide) (fun c14 => ?_) (fun c14 => ?_)
                  · refine w_aload_n (i := 0) hX dX9_wage_147 rfl rfl ?_
                    refine w_iload_n (i := 1) hX dX9_wage_148 rfl rfl ?_
                    refine w_top (y := nI (tN t)) (isT_nI hm.2.2.1 hT).1 ?_
                    refine w_iload hX dX9_wage_149 rfl ?_
                    refine w_callVI (As := [.int (nI (tN t)), .int (nI (ctN d2 q2))]) (rest := []) (ci := 9) (o := m) (k2 := 0) (n2 := 0) hX dX9_wage_151 (s_n_firstOf Γ (sI μ m 0 (nI 0)) m B (hm.f (by omega)) (tN t) (ctN d2 q2) (by omega) (by omega)) okX9_firstOf (ltb rfl) (mod_s hm.1.1) ml_RX9_256 imX9_firstOf seX9_firstOf rfl (leb rfl) (leb rfl) rfl rfl (fun r9 μ9 hq9 => ?_)
                    obtain ⟨hr9, hm9⟩ := hq9; rw [hr9, hm9]; clear hr9 hm9 r9 μ9
                    refine w_aload_n (i := 0) hX dX9_wage_154 rfl rfl ?_
                    refine w_iload_n (i := 1) hX dX9_wage_155 rfl rfl ?_
                    refine w_top (y := nI (tN t)) (isT_nI hm.2.2.1 hT).1 ?_
                    refine w_iload hX dX9_wage_156 rfl ?_
                    refine w_callVI (As := [.int (nI (tN t)), .int (nI (ctN d q))]) (rest := [.int (nI (fst B (tN t) (ctN d2 q2)))]) (ci := 9) (o := m) (k2 := 0) (n2 := 0) hX dX9_wage_158 (s_n_lastOf Γ (sI μ m 0 (nI 0)) m B (hm.f (by omega)) (tN t) (ctN d q) (by omega) (by omega)) okX9_lastOf (ltb rfl) (mod_s hm.1.1) ml_RX9_279 imX9_lastOf seX9_lastOf rfl (leb rfl) (leb rfl) rfl rfl (fun r9 μ9 hq9 => ?_)
                    obtain ⟨hr9, hm9⟩ := hq9; rw [hr9, hm9]; clear hr9 hm9 r9 μ9
                    refine w_isub hX dX9_wage_161 ?_
                    refine w_istore (l2 := [some (.ref m), some (.int t), some (.int d), some (.int q), some (.int d2), some (.int q2), some (.int rt), some (.int w), some (.int (nI (ctN d q))), some (.int (nI (ctN d2 q2))), some (.int ((nI (fst B (tN t) (ctN d2 q2))) - (nI (lst B (tN t) (ctN d q)))))]) hX dX9_wage_162 (ltb rfl) rfl rfl ?_
                    refine w_iload hX dX9_wage_164 rfl ?_
                    refine wc_if_ge (tgt := 173) hX dX9_wage_166 (by decide) (fun c15 => ?_) (fun c15 => ?_)
                    · refine w_iload hX dX9_wage_173 rfl ?_
                      refine w_i2l hX dX9_wage_175 ?_
                      refine w_iload hX dX9_wage_176 rfl ?_
                      refine w_i2l hX dX9_wage_178 ?_
                      refine w_lmul hX dX9_wage_179 ?_
                      refine w_ldc2 hX dX9_wage_180 kl_RX9_282 ?_
                      refine w_ldiv hX dX9_wage_183 (by decide) ?_
                      refine w_l2i hX dX9_wage_184 ?_
                      have e9 : paidM B (tN t) (ctN d q) (ctN d2 q2) w = (nI (fst B (tN t) (ctN d2 q2))) - (nI (lst B (tN t) (ctN d q))) := by unfold paidM; rw [if_neg c12, if_neg c13, if_neg c14]
                      have e8 : ¬ paidM B (tN t) (ctN d q) (ctN d2 q2) w < nI 0 := by rw [e9]; exact Int32.not_lt.mpr c15
                      have e7 : A_wage B t d q d2 q2 rt w = some ((((((nI (fst B (tN t) (ctN d2 q2))) - (nI (lst B (tN t) (ctN d q)))).toInt64) * rt.toInt64) / ((60 : Int64))).toInt32) := by unfold A_wage; rw [if_pos (by simp [hT, hC, hD, hr9, hV]), if_neg e8, e9]
                      exact w_iret hX hE dX9_wage_185 (Or.inl rfl) rfl ⟨by rw [e7]; rfl, by rw [e7]; rfl⟩
                    · refine w_iconst hX dX9_wage_169 kI_0 ?_
                      refine w_goto (tgt := 185) hX dX9_wage_170 (by decide) ?_
                      have e9 : paidM B (tN t) (ctN d q) (ctN d2 q2) w = (nI (fst B (tN t) (ctN d2 q2))) - (nI (lst B (tN t) (ctN d q))) := by unfold paidM; rw [if_neg c12, if_neg c13, if_neg c14]
                      have e8 : paidM B (tN t) (ctN d q) (ctN d2 q2) w < nI 0 := by rw [e9]; exact c15
                      have e7 : A_wage B t d q d2 q2 rt w = some (nI 0) := by unfold A_wage; rw [if_pos (by simp [hT, hC, hD, hr9, hV]), if_pos e8]
                      exact w_iret hX hE dX9_wage_185 (Or.inl rfl) rfl ⟨by rw [e7]; rfl, by rw [e7]; rfl⟩
                  · refine w_aload_n (i := 0) hX dX9_wage_129 rfl rfl ?_
                    refine w_iload_n (i := 1) hX dX9_wage_130 rfl rfl ?_
                    refine w_top (y := nI (tN t)) (isT_nI hm.2.2.1 hT).1 ?_
                    refine w_iload hX dX9_wage_131 rfl ?_
                    refine w_callVI (As := [.int (nI (tN t)), .int (nI (ctN d2 q2))]) (rest := []) (ci := 9) (o := m) (k2 := 0) (n2 := 0) hX dX9_wage_133 (s_n_lastOf Γ (sI μ m 0 (nI 0)) m B (hm.f (by omega)) (tN t) (ctN d2 q2) (by omega) (by omega)) okX9_lastOf (ltb rfl) (mod_s hm.1.1) ml_RX9_279 imX9_lastOf seX9_lastOf rfl (leb rfl) (leb rfl) rfl rfl (fun r9 μ9 hq9 => ?_)
                    obtain ⟨hr9, hm9⟩ := hq9; rw [hr9, hm9]; clear hr9 hm9 r9 μ9
                    refine w_aload_n (i := 0) hX dX9_wage_136 rfl rfl ?_
                    refine w_iload_n (i := 1) hX dX9_wage_137 rfl rfl ?_
                    refine w_top (y := nI (tN t)) (isT_nI hm.2.2.1 hT).1 ?_
                    refine w_iload hX dX9_wage_138 rfl ?_
                    refine w_callVI (As := [.int (nI (tN t)), .int (nI (ctN d q))]) (rest := [.int (nI (lst B (tN t) (ctN d2 q2)))]) (ci := 9) (o := m) (k2 := 0) (n2 := 0) hX dX9_wage_140 (s_n_firstOf Γ (sI μ m 0 (nI 0)) m B (hm.f (by omega)) (tN t) (ctN d q) (by omega) (by omega)) okX9_firstOf (ltb rfl) (mod_s hm.1.1) ml_RX9_256 imX9_firstOf seX9_firstOf rfl (leb rfl) (leb rfl) rfl rfl (fun r9 μ9 hq9 => ?_)
                    obtain ⟨hr9, hm9⟩ := hq9; rw [hr9, hm9]; clear hr9 hm9 r9 μ9
                    refine w_isub hX dX9_wage_143 ?_
                    refine w_goto (tgt := 162) hX dX9_wage_144 (by decide) ?_
                    refine w_istore (l2 := [some (.ref m), some (.int t), some (.int d), some (.int q), some (.int d2), some (.int q2), some (.int rt), some (.int w), some (.int (nI (ctN d q))), some (.int (nI (ctN d2 q2))), some (.int ((nI (lst B (tN t) (ctN d2 q2))) - (nI (fst B (tN t) (ctN d q)))))]) hX dX9_wage_162 (ltb rfl) rfl rfl ?_
                    refine w_iload hX dX9_wage_164 rfl ?_
                    refine wc_if_ge (tgt := 173) hX dX9_wage_166 (by decide) (fun c16 => ?_) (fun c16 => ?_)
                    · refine w_iload hX dX9_wage_173 rfl ?_
                      refine w_i2l hX dX9_wage_175 ?_
                      refine w_iload hX dX9_wage_176 rfl ?_
                      refine w_i2l hX dX9_wage_178 ?_
                      refine w_lmul hX dX9_wage_179 ?_
                      refine w_ldc2 hX dX9_wage_180 kl_RX9_282 ?_
                      refine w_ldiv hX dX9_wage_183 (by decide) ?_
                      refine w_l2i hX dX9_wage_184 ?_
                      have e9 : paidM B (tN t) (ctN d q) (ctN d2 q2) w = (nI (lst B (tN t) (ctN d2 q2))) - (nI (fst B (tN t) (ctN d q))) := by unfold paidM; rw [if_neg c12, if_neg c13, if_pos c14]
                      have e8 : ¬ paidM B (tN t) (ctN d q) (ctN d2 q2) w < nI 0 := by rw [e9]; exact Int32.not_lt.mpr c16
                      have e7 : A_wage B t d q d2 q2 rt w = some ((((((nI (lst B (tN t) (ctN d2 q2))) - (nI (fst B (tN t) (ctN d q)))).toInt64) * rt.toInt64) / ((60 : Int64))).toInt32) := by unfold A_wage; rw [if_pos (by simp [hT, hC, hD, hr9, hV]), if_neg e8, e9]
                      exact w_iret hX hE dX9_wage_185 (Or.inl rfl) rfl ⟨by rw [e7]; rfl, by rw [e7]; rfl⟩
                    · refine w_iconst hX dX9_wage_169 kI_0 ?_
                      refine w_goto (tgt := 185) hX dX9_wage_170 (by decide) ?_
                      have e9 : paidM B (tN t) (ctN d q) (ctN d2 q2) w = (nI (lst B (tN t) (ctN d2 q2))) - (nI (fst B (tN t) (ctN d q))) := by unfold paidM; rw [if_neg c12, if_neg c13, if_pos c14]
                      have e8 : paidM B (tN t) (ctN d q) (ctN d2 q2) w < nI 0 := by rw [e9]; exact c16
                      have e7 : A_wage B t d q d2 q2 rt w = some (nI 0) := by unfold A_wage; rw [if_pos (by simp [hT, hC, hD, hr9, hV]), if_pos e8]
                      exact w_iret hX hE dX9_wage_185 (Or.inl rfl) rfl ⟨by rw [e7]; rfl, by rw [e7]; rfl⟩
                · refine w_aload_n (i := 0) hX dX9_wage_105 rfl rfl ?_
                  refine w_iload_n (i := 1) hX dX9_wage_106 rfl rfl ?_
                  refine w_top (y := nI (tN t)) (isT_nI hm.2.2.1 hT).1 ?_
                  refine w_iload hX dX9_wage_107 rfl ?_
                  refine w_callVI (As := [.int (nI (tN t)), .int (nI (ctN d2 q2))]) (rest := []) (ci := 9) (o := m) (k2 := 0) (n2 := 0) hX dX9_wage_109 (s_n_firstOf Γ (sI μ m 0 (nI 0)) m B (hm.f (by omega)) (tN t) (ctN d2 q2) (by omega) (by omega)) okX9_firstOf (ltb rfl) (mod_s hm.1.1) ml_RX9_256 imX9_firstOf seX9_firstOf rfl (leb rfl) (leb rfl) rfl rfl (fun r9 μ9 hq9 => ?_)
                  obtain ⟨hr9, hm9⟩ := hq9; rw [hr9, hm9]; clear hr9 hm9 r9 μ9
                  refine w_aload_n (i := 0) hX dX9_wage_112 rfl rfl ?_
                  refine w_iload_n (i := 1) hX dX9_wage_113 rfl rfl ?_
                  refine w_top (y := nI (tN t)) (isT_nI hm.2.2.1 hT).1 ?_
                  refine w_iload hX dX9_wage_114 rfl ?_
                  refine w_callVI (As := [.int (nI (tN t)), .int (nI (ctN d q))]) (rest := [.int (nI (fst B (tN t) (ctN d2 q2)))]) (ci := 9) (o := m) (k2 := 0) (n2 := 0) hX dX9_wage_116 (s_n_firstOf Γ (sI μ m 0 (nI 0)) m B (hm.f (by omega)) (tN t) (ctN d q) (by omega) (by omega)) okX9_firstOf (ltb rfl) (mod_s hm.1.1) ml_RX9_256 imX9_firstOf seX9_firstOf rfl (leb rfl) (leb rfl) rfl rfl (fun r9 μ9 hq9 => ?_)
                  obtain ⟨hr9, hm9⟩ := hq9; rw [hr9, hm9]; clear hr9 hm9 r9 μ9
                  refine w_isub hX dX9_wage_119 ?_
                  refine w_goto (tgt := 162) hX dX9_wage_120 (by decide) ?_
                  refine w_istore (l2 := [some (.ref m), some (.int t), some (.int d), some (.int q), some (.int d2), some (.int q2), some (.int rt), some (.int w), some (.int (nI (ctN d q))), some (.int (nI (ctN d2 q2))), some (.int ((nI (fst B (tN t) (ctN d2 q2))) - (nI (fst B (tN t) (ctN d q)))))]) hX dX9_wage_162 (ltb rfl) rfl rfl ?_
                  refine w_iload hX dX9_wage_164 rfl ?_
                  refine wc_if_ge (tgt := 173) hX dX9_wage_166 (by decide) (fun c17 => ?_) (fun c17 => ?_)
                  · refine w_iload hX dX9_wage_173 rfl ?_
                    refine w_i2l hX dX9_wage_175 ?_
                    refine w_iload hX dX9_wage_176 rfl ?_
                    refine w_i2l hX dX9_wage_178 ?_
                    refine w_lmul hX dX9_wage_179 ?_
                    refine w_ldc2 hX dX9_wage_180 kl_RX9_282 ?_
                    refine w_ldiv hX dX9_wage_183 (by decide) ?_
                    refine w_l2i hX dX9_wage_184 ?_
                    have e9 : paidM B (tN t) (ctN d q) (ctN d2 q2) w = (nI (fst B (tN t) (ctN d2 q2))) - (nI (fst B (tN t) (ctN d q))) := by unfold paidM; rw [if_neg c12, if_pos c13]
                    have e8 : ¬ paidM B (tN t) (ctN d q) (ctN d2 q2) w < nI 0 := by rw [e9]; exact Int32.not_lt.mpr c17
                    have e7 : A_wage B t d q d2 q2 rt w = some ((((((nI (fst B (tN t) (ctN d2 q2))) - (nI (fst B (tN t) (ctN d q)))).toInt64) * rt.toInt64) / ((60 : Int64))).toInt32) := by unfold A_wage; rw [if_pos (by simp [hT, hC, hD, hr9, hV]), if_neg e8, e9]
                    exact w_iret hX hE dX9_wage_185 (Or.inl rfl) rfl ⟨by rw [e7]; rfl, by rw [e7]; rfl⟩
                  · refine w_iconst hX dX9_wage_169 kI_0 ?_
                    refine w_goto (tgt := 185) hX dX9_wage_170 (by decide) ?_
                    have e9 : paidM B (tN t) (ctN d q) (ctN d2 q2) w = (nI (fst B (tN t) (ctN d2 q2))) - (nI (fst B (tN t) (ctN d q))) := by unfold paidM; rw [if_neg c12, if_pos c13]
                    have e8 : paidM B (tN t) (ctN d q) (ctN d2 q2) w < nI 0 := by rw [e9]; exact c17
                    have e7 : A_wage B t d q d2 q2 rt w = some (nI 0) := by unfold A_wage; rw [if_pos (by simp [hT, hC, hD, hr9, hV]), if_pos e8]
                    exact w_iret hX hE dX9_wage_185 (Or.inl rfl) rfl ⟨by rw [e7]; rfl, by rw [e7]; rfl⟩
              · refine w_iload hX dX9_wage_91 rfl ?_
                refine w_iload hX dX9_wage_93 rfl ?_
                refine w_isub hX dX9_wage_95 ?_
                refine w_goto (tgt := 162) hX dX9_wage_96 (by decide) ?_
                refine w_istore (l2 := [some (.ref m), some (.int t), some (.int d), some (.int q), some (.int d2), some (.int q2), some (.int rt), some (.int w), some (.int (nI (ctN d q))), some (.int (nI (ctN d2 q2))), some (.int ((nI (ctN d2 q2)) - (nI (ctN d q))))]) hX dX9_wage_162 (ltb rfl) rfl rfl ?_
                refine w_iload hX dX9_wage_164 rfl ?_
                refine wc_if_ge (tgt := 173) hX dX9_wage_166 (by decide) (fun c18 => ?_) (fun c18 => ?_)
                · refine w_iload hX dX9_wage_173 rfl ?_
                  refine w_i2l hX dX9_wage_175 ?_
                  refine w_iload hX dX9_wage_176 rfl ?_
                  refine w_i2l hX dX9_wage_178 ?_
                  refine w_lmul hX dX9_wage_179 ?_
                  refine w_ldc2 hX dX9_wage_180 kl_RX9_282 ?_
                  refine w_ldiv hX dX9_wage_183 (by decide) ?_
                  refine w_l2i hX dX9_wage_184 ?_
                  have e9 : paidM B (tN t) (ctN d q) (ctN d2 q2) w = (nI (ctN d2 q2)) - (nI (ctN d q)) := by unfold paidM; rw [if_pos c12]
                  have e8 : ¬ paidM B (tN t) (ctN d q) (ctN d2 q2) w < nI 0 := by rw [e9]; exact Int32.not_lt.mpr c18
                  have e7 : A_wage B t d q d2 q2 rt w = some ((((((nI (ctN d2 q2)) - (nI (ctN d q))).toInt64) * rt.toInt64) / ((60 : Int64))).toInt32) := by unfold A_wage; rw [if_pos (by simp [hT, hC, hD, hr9, hV]), if_neg e8, e9]
                  exact w_iret hX hE dX9_wage_185 (Or.inl rfl) rfl ⟨by rw [e7]; rfl, by rw [e7]; rfl⟩
                · refine w_iconst hX dX9_wage_169 kI_0 ?_
                  refine w_goto (tgt := 185) hX dX9_wage_170 (by decide) ?_
                  have e9 : paidM B (tN t) (ctN d q) (ctN d2 q2) w = (nI (ctN d2 q2)) - (nI (ctN d q)) := by unfold paidM; rw [if_pos c12]
                  have e8 : paidM B (tN t) (ctN d q) (ctN d2 q2) w < nI 0 := by rw [e9]; exact c18
                  have e7 : A_wage B t d q d2 q2 rt w = some (nI 0) := by unfold A_wage; rw [if_pos (by simp [hT, hC, hD, hr9, hV]), if_pos e8]
                  exact w_iret hX hE dX9_wage_185 (Or.inl rfl) rfl ⟨by rw [e7]; rfl, by rw [e7]; rfl⟩
            · exact absurd c11 (by decide)
