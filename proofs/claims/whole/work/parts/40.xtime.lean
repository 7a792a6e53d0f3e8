def tN (t : Int32) : Nat := t.toNatClampNeg
def inR (v lo hi : Int32) : Bool := decide (lo ≤ v) && decide (v ≤ hi)
theorem inR_nI {v : Int32} {hi : Nat} (hh : hi < 2 ^ 31) (h : inR v (nI 0) (nI hi) = true) : v = nI (tN v) ∧ tN v ≤ hi := by
  simp only [inR, Bool.and_eq_true, decide_eq_true_eq] at h
  have h0 : ¬ v < 0 := Int32.not_lt.mpr h.1
  obtain ⟨j, hj, rfl⟩ := nI_of h0
  have e : tN (nI j) = j := nI_clamp hj
  rw [e]
  exact ⟨rfl, (nI_leI hj hh).mp h.2⟩
theorem inR_lo {v : Int32} {lo hi : Nat} (hh : hi < 2 ^ 31) (hl : lo < 2 ^ 31) (h : inR v (nI lo) (nI hi) = true) : v = nI (tN v) ∧ lo ≤ tN v ∧ tN v ≤ hi := by
  simp only [inR, Bool.and_eq_true, decide_eq_true_eq] at h
  have h9 : (0 : Int32) ≤ nI lo := nI_pos' hl
  have h0 : ¬ v < 0 := Int32.not_lt.mpr (Int32.le_trans h9 h.1)
  obtain ⟨j, hj, rfl⟩ := nI_of h0
  have e : tN (nI j) = j := nI_clamp hj
  rw [e]
  exact ⟨rfl, (nI_leI hl hj).mp h.1, (nI_leI hj hh).mp h.2⟩
theorem tN_nI {j : Nat} (h : j < 2 ^ 31) : tN (nI j) = j := nI_clamp h
/-- a town that is told -/
def isT (B : Nat → Nat) (t : Int32) : Bool := decide (nI 0 ≤ t) && decide (t < nI (B 0))
theorem isT_inR {B : Nat → Nat} (h : B 0 ≤ 3) (t : Int32) : inR t (nI 0) (nI (B 0) - nI 1) = isT B t := by
  have e : ∀ x : Nat, x ≤ 3 → (decide (t ≤ nI x - nI 1)) = decide (t < nI x) := by
    intro x hx
    congr 1
    rw [Int32.le_iff_toInt_le, Int32.lt_iff_toInt_lt, pk_sub_toInt (by omega) (by omega), nI_toInt (by omega)]
    apply propext
    omega
  unfold inR isT
  rw [e _ h]
theorem isT_nI {B : Nat → Nat} (h : B 0 ≤ 3) {t : Int32} (ht : isT B t = true) : t = nI (tN t) ∧ tN t < B 0 := by
  simp only [isT, Bool.and_eq_true, decide_eq_true_eq] at ht
  have h0 : ¬ t < 0 := Int32.not_lt.mpr ht.1
  obtain ⟨j, hj, rfl⟩ := nI_of h0
  have e : tN (nI j) = j := nI_clamp hj
  rw [e]
  exact ⟨rfl, (nI_ltI hj (by omega)).mp ht.2⟩
/-- a clock time -/
def vC (d q : Int32) : Bool := inR d (nI 0) (nI 3649) && inR q (nI 0) (nI 1439)
def ctN (d q : Int32) : Nat := tN d * 1440 + tN q
/-- the object: its parts are where its constructor lays them -/
def isX (μ : Mem) (b c : Nat) : Prop := μ.1[0]? = some (.inl 8) ∧ gR μ 0 0 = some 1 ∧ gR μ 0 1 = some 3 ∧ gR μ 0 2 = some 6 ∧ gR μ 0 3 = some 12 ∧ gR μ 0 4 = some 18 ∧ gR μ 0 5 = some 20 ∧ gR μ 0 6 = some b ∧ gR μ 0 7 = some c
theorem same.isX {S : Nat → Nat → Prop} {μ μ2 : Mem} {b c : Nat} (h : same S μ μ2) (hm : isX μ b c) : isX μ2 b c := by
  obtain ⟨s, i, l, r⟩ := μ
  obtain ⟨s2, i2, l2, r2⟩ := μ2
  obtain ⟨h1, h2, -⟩ := h
  cases h1; cases h2; exact hm
set_option maxHeartbeats 1000000 in
theorem s_within (Γ : Gm) (μ : Mem) (v lo hi : Int32) : SpI Γ MX8_within 0 0 0 [.int v, .int lo, .int hi] μ (fun r μ2 => r = bI (inR v lo hi) ∧ μ2 = μ) := by
  refine SpI.of okX8_within rfl [some (.int v), some (.int lo), some (.int hi)] ⟨rfl, rfl, rfl, trivial⟩ (leb rfl) (leb rfl) (fun X hX hE hnm => ?_)
  refine w_iload_n (i := 0) hX dX8_within_0 rfl rfl ?_
  refine w_iload_n (i := 1) hX dX8_within_1 rfl rfl ?_
  refine wc_icmp_lt (tgt := 14) hX dX8_within_2 (by decide) (fun c1 => ?_) (fun c1 => ?_)
  · refine w_iconst hX dX8_within_14 kI_0 ?_
    exact w_iret hX hE dX8_within_15 (Or.inl rfl) rfl ⟨bI_2 (by simp only [inR, Bool.and_eq_true, Bool.and_eq_false_iff, decide_eq_true_eq, decide_eq_false_iff_not, Int32.le_iff_toInt_le, Int32.lt_iff_toInt_lt] at *; omega), rfl⟩
  · refine w_iload_n (i := 0) hX dX8_within_5 rfl rfl ?_
    refine w_iload_n (i := 2) hX dX8_within_6 rfl rfl ?_
    refine wc_icmp_gt (tgt := 14) hX dX8_within_7 (by decide) (fun c2 => ?_) (fun c2 => ?_)
    · refine w_iconst hX dX8_within_14 kI_0 ?_
      exact w_iret hX hE dX8_within_15 (Or.inl rfl) rfl ⟨bI_2 (by simp only [inR, Bool.and_eq_true, Bool.and_eq_false_iff, decide_eq_true_eq, decide_eq_false_iff_not, Int32.le_iff_toInt_le, Int32.lt_iff_toInt_lt] at *; omega), rfl⟩
    · refine w_iconst hX dX8_within_10 kI_1 ?_
      refine w_goto (tgt := 15) hX dX8_within_11 (by decide) ?_
      exact w_iret hX hE dX8_within_15 (Or.inl rfl) rfl ⟨bI_1 (by simp only [inR, Bool.and_eq_true, Bool.and_eq_false_iff, decide_eq_true_eq, decide_eq_false_iff_not, Int32.le_iff_toInt_le, Int32.lt_iff_toInt_lt] at *; omega), rfl⟩
set_option maxHeartbeats 1000000 in
theorem s_clockTime (Γ : Gm) (μ : Mem) (d q : Int32) : SpI Γ MX8_clockTime 1 0 0 [.int d, .int q] μ (fun r μ2 => (r = nI (ctN d q) ∧ vC d q = true ∧ ctN d q ≤ 5255999 ∧ μ2 = μ) ∨ (r = (-1 : Int32) ∧ vC d q = false ∧ μ2 = μ)) := by
  refine SpI.of okX8_clockTime rfl [some (.int d), some (.int q)] ⟨rfl, rfl, trivial⟩ (leb rfl) (leb rfl) (fun X hX hE hnm => ?_)
  refine w_iload_n (i := 0) hX dX8_clockTime_0 rfl rfl ?_
  refine w_iconst hX dX8_clockTime_1 kI_0 ?_
  refine w_sipush hX dX8_clockTime_2 kS_3649 ?_
  refine w_callSI (As := [.int d, .int (nI 0), .int (nI 3649)]) (rest := []) (k2 := 0) (n2 := 0) hX dX8_clockTime_5 (s_within Γ μ d (nI 0) (nI 3649)) okX8_within ml_RX8_81 stX8_within rfl (leb rfl) (leb rfl) rfl rfl (fun r9 μ9 hq9 => ?_)
  obtain ⟨hr9, hm9⟩ := hq9; rw [hr9, hm9]; clear hr9 hm9 r9 μ9
  refine wb_eq (tgt := 32) hX dX8_clockTime_8 (by decide) (fun c1 => ?_) (fun c1 => ?_)
  · refine w_iconst hX dX8_clockTime_32 kI_m1 ?_
    exact w_iret hX hE dX8_clockTime_33 (Or.inl rfl) rfl (Or.inr ⟨rfl, by simp [vC, c1], rfl⟩)
  · refine w_iload_n (i := 1) hX dX8_clockTime_11 rfl rfl ?_
    refine w_iconst hX dX8_clockTime_12 kI_0 ?_
    refine w_sipush hX dX8_clockTime_13 kS_1439 ?_
    refine w_callSI (As := [.int q, .int (nI 0), .int (nI 1439)]) (rest := []) (k2 := 0) (n2 := 0) hX dX8_clockTime_16 (s_within Γ μ q (nI 0) (nI 1439)) okX8_within ml_RX8_81 stX8_within rfl (leb rfl) (leb rfl) rfl rfl (fun r9 μ9 hq9 => ?_)
    obtain ⟨hr9, hm9⟩ := hq9; rw [hr9, hm9]; clear hr9 hm9 r9 μ9
    refine wb_eq (tgt := 32) hX dX8_clockTime_19 (by decide) (fun c2 => ?_) (fun c2 => ?_)
    · refine w_iconst hX dX8_clockTime_32 kI_m1 ?_
      exact w_iret hX hE dX8_clockTime_33 (Or.inl rfl) rfl (Or.inr ⟨rfl, by simp [vC, c1, c2], rfl⟩)
    · refine w_iload_n (i := 0) hX dX8_clockTime_22 rfl rfl ?_
      refine w_top (y := nI (tN d)) (inR_nI (by omega) c1).1 ?_
      refine w_sipush hX dX8_clockTime_23 kS_1440 ?_
      refine w_imulN hX dX8_clockTime_26 ?_
      refine w_iload_n (i := 1) hX dX8_clockTime_27 rfl rfl ?_
      refine w_top (y := nI (tN q)) (inR_nI (by omega) c2).1 ?_
      refine w_iaddN hX dX8_clockTime_28 ?_
      refine w_goto (tgt := 33) hX dX8_clockTime_29 (by decide) ?_
      exact w_iret hX hE dX8_clockTime_33 (Or.inl rfl) rfl (Or.inl ⟨rfl, by simp [vC, c1, c2], by have := (inR_nI (by omega) c1).2; have := (inR_nI (by omega) c2).2; unfold ctN; omega, rfl⟩)
set_option maxHeartbeats 1000000 in
theorem s_clockOf (Γ : Gm) (μ : Mem) (b c9 : Nat) (B : Nat → Nat) (hx : isX μ b c9) (hR : Rb μ b B) (hW : WBt B) (t : Int32) : SpQ Γ MX8_clockOf 1 0 0 [.ref 0, .int t] μ (fun r μ2 => (r = some (b + 10 + 2 * tN t) ∧ isT B t = true ∧ tN t < B 0 ∧ μ2 = μ) ∨ (r = none ∧ isT B t = false ∧ μ2 = μ)) := by
  refine SpQ.of okX8_clockOf ⟨_, rfl⟩ [some (.ref 0), some (.int t)] ⟨rfl, rfl, trivial⟩ (leb rfl) (leb rfl) (fun X hX hE hnm => ?_)
  refine w_iload_n (i := 1) hX dX8_clockOf_0 rfl rfl ?_
  refine w_iconst hX dX8_clockOf_1 kI_0 ?_
  refine w_aload_n (i := 0) hX dX8_clockOf_2 rfl rfl ?_
  refine w_getR (q := b) hX dX8_clockOf_3 fo_RX8_54 rfl hx.1 hx.2.2.2.2.2.2.2.1 ?_
  refine w_getI hX dX8_clockOf_6 fo_RX8_191 rfl (bk_s hR.1) ?_
  refine w_top (y := nI (B 0)) hR.2.1 ?_
  refine w_iconst hX dX8_clockOf_9 kI_1 ?_
  refine w_isub hX dX8_clockOf_10 ?_
  refine w_callSI (As := [.int t, .int (nI 0), .int ((nI (B 0)) - (nI 1))]) (rest := []) (k2 := 0) (n2 := 0) hX dX8_clockOf_11 (s_within Γ μ t (nI 0) (nI (B 0) - nI 1)) okX8_within ml_RX8_81 stX8_within rfl (leb rfl) (leb rfl) rfl rfl (fun r9 μ9 hq9 => ?_)
  obtain ⟨hr9, hm9⟩ := hq9; rw [hr9, hm9, isT_inR hW.1]; clear hr9 hm9 r9 μ9
  refine wb_eq (tgt := 29) hX dX8_clockOf_14 (by decide) (fun c1 => ?_) (fun c1 => ?_)
  · refine w_null hX dX8_clockOf_29 ?_
    exact w_aretN hX hE dX8_clockOf_30 (Or.inl rfl) (Or.inr ⟨rfl, c1, rfl⟩)
  · refine w_aload_n (i := 0) hX dX8_clockOf_17 rfl rfl ?_
    refine w_getR (q := b) hX dX8_clockOf_18 fo_RX8_54 rfl hx.1 hx.2.2.2.2.2.2.2.1 ?_
    refine w_getR (q := b + 1) hX dX8_clockOf_21 fo_RX8_231 rfl (bk_s hR.1) (bk_r0 hR.1) ?_
    refine w_iload_n (i := 1) hX dX8_clockOf_24 rfl rfl ?_
    refine w_top (y := nI (tN t)) (isT_nI hW.1 c1).1 ?_
    refine w_aaldN (q := b + 10 + 2 * (tN t)) hX dX8_clockOf_25 (bk_a1 hR.1) (by have := (isT_nI hW.1 c1).2; have := hW.1; omega) (by omega) (bk_c hR.1 (by have := (isT_nI hW.1 c1).2; have := hW.1; omega)).1 ?_
    refine w_goto (tgt := 30) hX dX8_clockOf_26 (by decide) ?_
    exact w_aret hX hE dX8_clockOf_30 (Or.inl rfl) (Or.inl ⟨rfl, c1, (isT_nI hW.1 c1).2, rfl⟩)
def A_shown (B : Nat → Nat) (t q : Int32) : Option Int32 := if (isT B t && inR q (nI 0) (nI 9999999)) = true then some (nI (tN q) - nI (60 * bk B (tN t) (tN q))) else none
def A_backs (B : Nat → Nat) (t q : Int32) : Option Int32 := if (isT B t && inR q (nI 0) (nI 9999999)) = true then some (nI (bk B (tN t) (tN q))) else none
def A_between (B : Nat → Nat) (t d q d2 q2 w : Int32) : Option Int32 := if (isT B t && vC d q && vC d2 q2 && inR w (nI 0) (nI 2)) = true then some (if w = nI 0 then nI (fst B (tN t) (ctN d2 q2)) - nI (lst B (tN t) (ctN d q)) else if w = nI 1 then nI (lst B (tN t) (ctN d2 q2)) - nI (fst B (tN t) (ctN d q)) else nI (1 + (if tw B (tN t) (ctN d q) = true then 1 else 0) + (if tw B (tN t) (ctN d2 q2) = true then 1 else 0))) else none
def paidM (B : Nat → Nat) (t c c2 : Nat) (w : Int32) : Int32 := if w = nI 0 then nI c2 - nI c else if w = nI 1 then nI (fst B t c2) - nI (fst B t c) else if w = nI 2 then nI (lst B t c2) - nI (fst B t c) else nI (fst B t c2) - nI (lst B t c)
def A_wage (B : Nat → Nat) (t d q d2 q2 rt w : Int32) : Option Int32 := if (isT B t && vC d q && vC d2 q2 && inR rt (nI 0) (nI 999) && inR w (nI 0) (nI 3)) = true then some (if paidM B (tN t) (ctN d q) (ctN d2 q2) w < nI 0 then nI 0 else ((paidM B (tN t) (ctN d q) (ctN d2 q2) w).toInt64 * rt.toInt64 / 60).toInt32) else none
def A_deed (B : Nat → Nat) (t q l t2 : Int32) : Option Int32 := if (isT B t && isT B t2 && inR q (nI 0) (nI 9999999) && inR l (nI 0) (nI 9999)) = true then some (nI (tN q + tN l) - nI (60 * bk B (tN t2) (tN q + tN l)) - (nI (tN q) - nI (60 * bk B (tN t) (tN q)))) else none
def A_moment (B : Nat → Nat) (t d q w : Int32) : Int32 := if (isT B t && vC d q) = true then (if w = nI 0 then (if tw B (tN t) (ctN d q) = true then nI 2 else nI 1) else if w = nI 1 then nI (fst B (tN t) (ctN d q)) else if w = nI 2 then (if tw B (tN t) (ctN d q) = true then nI (lst B (tN t) (ctN d q)) else -1) else -1) else -1
set_option maxHeartbeats 1000000 in
theorem s_x_shown (Γ : Gm) (hfr : Γ.2.2.2.2.2 = false) (μ : Mem) (b c9 : Nat) (B : Nat → Nat) (hx : isX μ b c9) (hR : Rb μ b B) (hW : WBt B) (t q : Int32) : SpX Γ MX8_shown 7 1 6 [.ref 0, .int t, .int q] μ (fun r μ2 => A_shown B t q = some r ∧ μ2 = μ) (fun μ2 => A_shown B t q = none ∧ μ2 = μ) := by
  refine SpX.of hfr okX8_shown rfl [some (.ref 0), some (.int t), some (.int q), none] ⟨rfl, rfl, rfl, trivial⟩ (leb rfl) (leb rfl) (fun X hX hE hnm => ?_)
  refine w_aload_n (i := 0) hX dX8_shown_0 rfl rfl ?_
  refine w_iload_n (i := 1) hX dX8_shown_1 rfl rfl ?_
  refine w_callVQ (As := [.int t]) (rest := []) (ci := 8) (o := 0) (k2 := 1) (n2 := 6) hX dX8_shown_2 (s_clockOf Γ μ b c9 B hx hR hW t) okX8_clockOf (ltb rfl) hx.1 ml_RX8_76 imX8_clockOf seX8_clockOf rfl (leb rfl) (leb rfl) rfl rfl (fun r9 μ9 hq9 => ?_)
  rcases hq9 with ⟨hr9, hT, hTb, hm9⟩ | ⟨hr9, hT, hm9⟩
  · rw [hr9, hm9]; clear hr9 hm9 r9 μ9
    have hTc : tN t < 3 := by have := hW.1; omega
    refine w_astore_n (i := 3) (l2 := [some (.ref 0), some (.int t), some (.int q), some (.ref (b + 10 + 2 * tN t))]) hX dX8_shown_5 rfl (ltb rfl) rfl rfl ?_
    refine w_aload_n (i := 3) hX dX8_shown_6 rfl rfl ?_
    refine w_ifnull hX dX8_shown_7 ?_
    refine w_iload_n (i := 2) hX dX8_shown_10 rfl rfl ?_
    refine w_iconst hX dX8_shown_11 kI_0 ?_
    refine w_ldc hX dX8_shown_12 ki_RX8_80 ?_
    refine w_top (y := nI 9999999) rfl ?_
    refine w_callSI (As := [.int q, .int (nI 0), .int (nI 9999999)]) (rest := []) (k2 := 1) (n2 := 6) hX dX8_shown_14 (s_within Γ μ q (nI 0) (nI 9999999)) okX8_within ml_RX8_81 stX8_within rfl (leb rfl) (leb rfl) rfl rfl (fun r9 μ9 hq9 => ?_)
    obtain ⟨hr9, hm9⟩ := hq9; rw [hr9, hm9]; clear hr9 hm9 r9 μ9
    refine wb_ne (tgt := 28) hX dX8_shown_17 (by decide) (fun c1 => ?_) (fun c1 => ?_)
    · have hqb := (inR_nI (by omega) c1).2
      refine w_aload_n (i := 3) hX dX8_shown_28 rfl rfl ?_
      refine w_iload_n (i := 2) hX dX8_shown_29 rfl rfl ?_
      refine w_top (y := nI (tN q)) (inR_nI (by omega) c1).1 ?_
      refine w_callVI (As := [.int (nI (tN q))]) (rest := []) (ci := 1) (o := b + 10 + 2 * tN t) (k2 := 1) (n2 := 6) hX dX8_shown_30 (s_b_showsAt Γ μ b B hR hW (tN t) (by omega) (tN q) (by omega)) okX1_showsAt (ltb rfl) (bk_c hR.1 (by omega)).2.1 ml_RX8_88 imX1_showsAt seX1_showsAt rfl (leb rfl) (leb rfl) rfl rfl (fun r9 μ9 hq9 => ?_)
      obtain ⟨hr9, hm9⟩ := hq9; rw [hr9, hm9]; clear hr9 hm9 r9 μ9
      exact w_iretX hX hE dX8_shown_33 rfl ⟨by simp [A_shown, *], rfl⟩
    · exact w_throw hX hE dX8_shown_20 dX8_shown_23 dX8_shown_24 dX8_shown_27 cl_RX8_85 ini_NS (leb rfl) ⟨by simp [A_shown, *], rfl⟩
  · rw [hr9, hm9]; clear hr9 hm9 r9 μ9
    refine w_astore_nN (i := 3) (l2 := [some (.ref 0), some (.int t), some (.int q), some (.null)]) hX dX8_shown_5 rfl (ltb rfl) rfl rfl ?_
    refine w_aload_nN (i := 3) hX dX8_shown_6 rfl rfl ?_
    refine w_ifnullN (tgt := 20) hX dX8_shown_7 (by decide) ?_
    exact w_throw hX hE dX8_shown_20 dX8_shown_23 dX8_shown_24 dX8_shown_27 cl_RX8_85 ini_NS (leb rfl) ⟨by simp [A_shown, *], rfl⟩
set_option maxHeartbeats 1000000 in
theorem s_x_backs (Γ : Gm) (hfr : Γ.2.2.2.2.2 = false) (μ : Mem) (b c9 : Nat) (B : Nat → Nat) (hx : isX μ b c9) (hR : Rb μ b B) (hW : WBt B) (t q : Int32) : SpX Γ MX8_backs 7 1 6 [.ref 0, .int t, .int q] μ (fun r μ2 => A_backs B t q = some r ∧ μ2 = μ) (fun μ2 => A_backs B t q = none ∧ μ2 = μ) := by
  refine SpX.of hfr okX8_backs rfl [some (.ref 0), some (.int t), some (.int q), none] ⟨rfl, rfl, rfl, trivial⟩ (leb rfl) (leb rfl) (fun X hX hE hnm => ?_)
  refine w_aload_n (i := 0) hX dX8_backs_0 rfl rfl ?_
  refine w_iload_n (i := 1) hX dX8_backs_1 rfl rfl ?_
  refine w_callVQ (As := [.int t]) (rest := []) (ci := 8) (o := 0) (k2 := 1) (n2 := 6) hX dX8_backs_2 (s_clockOf Γ μ b c9 B hx hR hW t) okX8_clockOf (ltb rfl) hx.1 ml_RX8_76 imX8_clockOf seX8_clockOf rfl (leb rfl) (leb rfl) rfl rfl (fun r9 μ9 hq9 => ?_)
  rcases hq9 with ⟨hr9, hT, hTb, hm9⟩ | ⟨hr9, hT, hm9⟩
  · rw [hr9, hm9]; clear hr9 hm9 r9 μ9
    have hTc : tN t < 3 := by have := hW.1; omega
    refine w_astore_n (i := 3) (l2 := [some (.ref 0), some (.int t), some (.int q), some (.ref (b + 10 + 2 * tN t))]) hX dX8_backs_5 rfl (ltb rfl) rfl rfl ?_
    refine w_aload_n (i := 3) hX dX8_backs_6 rfl rfl ?_
    refine w_ifnull hX dX8_backs_7 ?_
    refine w_iload_n (i := 2) hX dX8_backs_10 rfl rfl ?_
    refine w_iconst hX dX8_backs_11 kI_0 ?_
    refine w_ldc hX dX8_backs_12 ki_RX8_80 ?_
    refine w_top (y := nI 9999999) rfl ?_
    refine w_callSI (As := [.int q, .int (nI 0), .int (nI 9999999)]) (rest := []) (k2 := 1) (n2 := 6) hX dX8_backs_14 (s_within Γ μ q (nI 0) (nI 9999999)) okX8_within ml_RX8_81 stX8_within rfl (leb rfl) (leb rfl) rfl rfl (fun r9 μ9 hq9 => ?_)
    obtain ⟨hr9, hm9⟩ := hq9; rw [hr9, hm9]; clear hr9 hm9 r9 μ9
    refine wb_ne (tgt := 28) hX dX8_backs_17 (by decide) (fun c1 => ?_) (fun c1 => ?_)
    · have hqb := (inR_nI (by omega) c1).2
      refine w_aload_n (i := 3) hX dX8_backs_28 rfl rfl ?_
      refine w_iload_n (i := 2) hX dX8_backs_29 rfl rfl ?_
      refine w_top (y := nI (tN q)) (inR_nI (by omega) c1).1 ?_
      refine w_callVI (As := [.int (nI (tN q))]) (rest := []) (ci := 1) (o := b + 10 + 2 * tN t) (k2 := 1) (n2 := 6) hX dX8_backs_30 (s_b_backsBy Γ μ b B hR hW (tN t) (by omega) (tN q) (by omega)) okX1_backsBy (ltb rfl) (bk_c hR.1 (by omega)).2.1 ml_RX8_108 imX1_backsBy seX1_backsBy rfl (leb rfl) (leb rfl) rfl rfl (fun r9 μ9 hq9 => ?_)
      obtain ⟨hr9, hm9⟩ := hq9; rw [hr9, hm9]; clear hr9 hm9 r9 μ9
      exact w_iretX hX hE dX8_backs_33 rfl ⟨by simp [A_backs, *], rfl⟩
    · exact w_throw hX hE dX8_backs_20 dX8_backs_23 dX8_backs_24 dX8_backs_27 cl_RX8_85 ini_NS (leb rfl) ⟨by simp [A_backs, *], rfl⟩
  · rw [hr9, hm9]; clear hr9 hm9 r9 μ9
    refine w_astore_nN (i := 3) (l2 := [some (.ref 0), some (.int t), some (.int q), some (.null)]) hX dX8_backs_5 rfl (ltb rfl) rfl rfl ?_
    refine w_aload_nN (i := 3) hX dX8_backs_6 rfl rfl ?_
    refine w_ifnullN (tgt := 20) hX dX8_backs_7 (by decide) ?_
    exact w_throw hX hE dX8_backs_20 dX8_backs_23 dX8_backs_24 dX8_backs_27 cl_RX8_85 ini_NS (leb rfl) ⟨by simp [A_backs, *], rfl⟩
set_option maxHeartbeats 1000000 in
theorem s_x_deed (Γ : Gm) (hfr : Γ.2.2.2.2.2 = false) (μ : Mem) (b c9 : Nat) (B : Nat → Nat) (hx : isX μ b c9) (hR : Rb μ b B) (hW : WBt B) (t q l t2 : Int32) : SpX Γ MX8_deed 7 1 6 [.ref 0, .int t, .int q, .int l, .int t2] μ (fun r μ2 => A_deed B t q l t2 = some r ∧ μ2 = μ) (fun μ2 => A_deed B t q l t2 = none ∧ μ2 = μ) := by
  refine SpX.of hfr okX8_deed rfl [some (.ref 0), some (.int t), some (.int q), some (.int l), some (.int t2), none, none] ⟨rfl, rfl, rfl, rfl, rfl, trivial⟩ (leb rfl) (leb rfl) (fun X hX hE hnm => ?_)
  refine w_aload_n (i := 0) hX dX8_deed_0 rfl rfl ?_
  refine w_iload_n (i := 1) hX dX8_deed_1 rfl rfl ?_
  refine w_callVQ (As := [.int t]) (rest := []) (ci := 8) (o := 0) (k2 := 1) (n2 := 6) hX dX8_deed_2 (s_clockOf Γ μ b c9 B hx hR hW t) okX8_clockOf (ltb rfl) hx.1 ml_RX8_76 imX8_clockOf seX8_clockOf rfl (leb rfl) (leb rfl) rfl rfl (fun r9 μ9 hq9 => ?_)
  rcases hq9 with ⟨hr9, hT, hTb, hm9⟩ | ⟨hr9, hT, hm9⟩
  · rw [hr9, hm9]; clear hr9 hm9 r9 μ9
    have hTc : tN t < 3 := by have := hW.1; omega
    refine w_astore (l2 := [some (.ref 0), some (.int t), some (.int q), some (.int l), some (.int t2), some (.ref (b + 10 + 2 * tN t)), none]) hX dX8_deed_5 (ltb rfl) rfl rfl ?_
    refine w_aload_n (i := 0) hX dX8_deed_7 rfl rfl ?_
    refine w_iload hX dX8_deed_8 rfl ?_
    refine w_callVQ (As := [.int t2]) (rest := []) (ci := 8) (o := 0) (k2 := 1) (n2 := 6) hX dX8_deed_10 (s_clockOf Γ μ b c9 B hx hR hW t2) okX8_clockOf (ltb rfl) hx.1 ml_RX8_76 imX8_clockOf seX8_clockOf rfl (leb rfl) (leb rfl) rfl rfl (fun r9 μ9 hq9 => ?_)
    rcases hq9 with ⟨hr9, hU, hUb, hm9⟩ | ⟨hr9, hU, hm9⟩
    · rw [hr9, hm9]; clear hr9 hm9 r9 μ9
      have hUc : tN t2 < 3 := by have := hW.1; omega
      refine w_astore (l2 := [some (.ref 0), some (.int t), some (.int q), some (.int l), some (.int t2), some (.ref (b + 10 + 2 * tN t)), some (.ref (b + 10 + 2 * tN t2))]) hX dX8_deed_13 (ltb rfl) rfl rfl ?_
      refine w_aload hX dX8_deed_15 rfl ?_
      refine w_ifnull hX dX8_deed_17 ?_
      refine w_aload hX dX8_deed_20 rfl ?_
      refine w_ifnull hX dX8_deed_22 ?_
      refine w_iload_n (i := 2) hX dX8_deed_25 rfl rfl ?_
      refine w_iconst hX dX8_deed_26 kI_0 ?_
      refine w_ldc hX dX8_deed_27 ki_RX8_80 ?_
      refine w_top (y := nI 9999999) rfl ?_
      refine w_callSI (As := [.int q, .int (nI 0), .int (nI 9999999)]) (rest := []) (k2 := 1) (n2 := 6) hX dX8_deed_29 (s_within Γ μ q (nI 0) (nI 9999999)) okX8_within ml_RX8_81 stX8_within rfl (leb rfl) (leb rfl) rfl rfl (fun r9 μ9 hq9 => ?_)
      obtain ⟨hr9, hm9⟩ := hq9; rw [hr9, hm9]; clear hr9 hm9 r9 μ9
      refine wb_eq (tgt := 46) hX dX8_deed_32 (by decide) (fun c1 => ?_) (fun c1 => ?_)
      · exact w_throw hX hE dX8_deed_46 dX8_deed_49 dX8_deed_50 dX8_deed_53 cl_RX8_85 ini_NS (leb rfl) ⟨by simp [A_deed, *], rfl⟩
      · refine w_iload_n (i := 3) hX dX8_deed_35 rfl rfl ?_
        refine w_iconst hX dX8_deed_36 kI_0 ?_
        refine w_sipush hX dX8_deed_37 kS_9999 ?_
        refine w_callSI (As := [.int l, .int (nI 0), .int (nI 9999)]) (rest := []) (k2 := 1) (n2 := 6) hX dX8_deed_40 (s_within Γ μ l (nI 0) (nI 9999)) okX8_within ml_RX8_81 stX8_within rfl (leb rfl) (leb rfl) rfl rfl (fun r9 μ9 hq9 => ?_)
        obtain ⟨hr9, hm9⟩ := hq9; rw [hr9, hm9]; clear hr9 hm9 r9 μ9
        refine wb_ne (tgt := 54) hX dX8_deed_43 (by decide) (fun c2 => ?_) (fun c2 => ?_)
        · have hqb := (inR_nI (by omega) c1).2
          have hlb := (inR_nI (by omega) c2).2
          refine w_aload hX dX8_deed_54 rfl ?_
          refine w_iload_n (i := 2) hX dX8_deed_56 rfl rfl ?_
          refine w_top (y := nI (tN q)) (inR_nI (by omega) c1).1 ?_
          refine w_iload_n (i := 3) hX dX8_deed_57 rfl rfl ?_
          refine w_top (y := nI (tN l)) (inR_nI (by omega) c2).1 ?_
          refine w_iaddN hX dX8_deed_58 ?_
          refine w_callVI (As := [.int (nI (tN q + (tN l)))]) (rest := []) (ci := 1) (o := b + 10 + 2 * tN t2) (k2 := 1) (n2 := 6) hX dX8_deed_59 (s_b_showsAt Γ μ b B hR hW (tN t2) (by omega) (tN q + (tN l)) (by omega)) okX1_showsAt (ltb rfl) (bk_c hR.1 (by omega)).2.1 ml_RX8_88 imX1_showsAt seX1_showsAt rfl (leb rfl) (leb rfl) rfl rfl (fun r9 μ9 hq9 => ?_)
          obtain ⟨hr9, hm9⟩ := hq9; rw [hr9, hm9]; clear hr9 hm9 r9 μ9
          refine w_aload hX dX8_deed_62 rfl ?_
          refine w_iload_n (i := 2) hX dX8_deed_64 rfl rfl ?_
          refine w_top (y := nI (tN q)) (inR_nI (by omega) c1).1 ?_
          refine w_callVI (As := [.int (nI (tN q))]) (rest := [.int (nI (tN q + (tN l)) - nI (60 * bk B (tN t2) (tN q + (tN l))))]) (ci := 1) (o := b + 10 + 2 * tN t) (k2 := 1) (n2 := 6) hX dX8_deed_65 (s_b_showsAt Γ μ b B hR hW (tN t) (by omega) (tN q) (by omega)) okX1_showsAt (ltb rfl) (bk_c hR.1 (by omega)).2.1 ml_RX8_88 imX1_showsAt seX1_showsAt rfl (leb rfl) (leb rfl) rfl rfl (fun r9 μ9 hq9 => ?_)
          obtain ⟨hr9, hm9⟩ := hq9; rw [hr9, hm9]; clear hr9 hm9 r9 μ9
          refine w_isub hX dX8_deed_68 ?_
          exact w_iretX hX hE dX8_deed_69 rfl ⟨by simp [A_deed, *], rfl⟩
        · exact w_throw hX hE dX8_deed_46 dX8_deed_49 dX8_deed_50 dX8_deed_53 cl_RX8_85 ini_NS (leb rfl) ⟨by simp [A_deed, *], rfl⟩
    · rw [hr9, hm9]; clear hr9 hm9 r9 μ9
      refine w_astoreN (l2 := [some (.ref 0), some (.int t), some (.int q), some (.int l), some (.int t2), some (.ref (b + 10 + 2 * tN t)), some (.null)]) hX dX8_deed_13 (ltb rfl) rfl rfl ?_
      refine w_aload hX dX8_deed_15 rfl ?_
      refine w_ifnull hX dX8_deed_17 ?_
      refine w_aloadN hX dX8_deed_20 rfl ?_
      refine w_ifnullN (tgt := 46) hX dX8_deed_22 (by decide) ?_
      exact w_throw hX hE dX8_deed_46 dX8_deed_49 dX8_deed_50 dX8_deed_53 cl_RX8_85 ini_NS (leb rfl) ⟨by simp [A_deed, *], rfl⟩
  · rw [hr9, hm9]; clear hr9 hm9 r9 μ9
    refine w_astoreN (l2 := [some (.ref 0), some (.int t), some (.int q), some (.int l), some (.int t2), some (.null), none]) hX dX8_deed_5 (ltb rfl) rfl rfl ?_
    refine w_aload_n (i := 0) hX dX8_deed_7 rfl rfl ?_
    refine w_iload hX dX8_deed_8 rfl ?_
    refine w_callVQ (As := [.int t2]) (rest := []) (ci := 8) (o := 0) (k2 := 1) (n2 := 6) hX dX8_deed_10 (s_clockOf Γ μ b c9 B hx hR hW t2) okX8_clockOf (ltb rfl) hx.1 ml_RX8_76 imX8_clockOf seX8_clockOf rfl (leb rfl) (leb rfl) rfl rfl (fun r9 μ9 hq9 => ?_)
    rcases hq9 with ⟨hr9, hU, hUb, hm9⟩ | ⟨hr9, hU, hm9⟩
    · rw [hr9, hm9]; clear hr9 hm9 r9 μ9
      have hUc : tN t2 < 3 := by have := hW.1; omega
      refine w_astore (l2 := [some (.ref 0), some (.int t), some (.int q), some (.int l), some (.int t2), some (.null), some (.ref (b + 10 + 2 * tN t2))]) hX dX8_deed_13 (ltb rfl) rfl rfl ?_
      refine w_aloadN hX dX8_deed_15 rfl ?_
      refine w_ifnullN (tgt := 46) hX dX8_deed_17 (by decide) ?_
      exact w_throw hX hE dX8_deed_46 dX8_deed_49 dX8_deed_50 dX8_deed_53 cl_RX8_85 ini_NS (leb rfl) ⟨by simp [A_deed, *], rfl⟩
    · rw [hr9, hm9]; clear hr9 hm9 r9 μ9
      refine w_astoreN (l2 := [some (.ref 0), some (.int t), some (.int q), some (.int l), some (.int t2), some (.null), some (.null)]) hX dX8_deed_13 (ltb rfl) rfl rfl ?_
      refine w_aloadN hX dX8_deed_15 rfl ?_
      refine w_ifnullN (tgt := 46) hX dX8_deed_17 (by decide) ?_
      exact w_throw hX hE dX8_deed_46 dX8_deed_49 dX8_deed_50 dX8_deed_53 cl_RX8_85 ini_NS (leb rfl) ⟨by simp [A_deed, *], rfl⟩
set_option maxHeartbeats 1000000 in
theorem s_x_between (Γ : Gm) (hfr : Γ.2.2.2.2.2 = false) (μ : Mem) (b c9 : Nat) (B : Nat → Nat) (hx : isX μ b c9) (hR : Rb μ b B) (hW : WBt B) (t d q d2 q2 w : Int32) : SpX Γ MX8_between 7 1 6 [.ref 0, .int t, .int d, .int q, .int d2, .int q2, .int w] μ (fun r μ2 => A_between B t d q d2 q2 w = some r ∧ μ2 = μ) (fun μ2 => A_between B t d q d2 q2 w = none ∧ μ2 = μ) := by
  refine SpX.of hfr okX8_between rfl [some (.ref 0), some (.int t), some (.int d), some (.int q), some (.int d2), some (.int q2), some (.int w), none, none, none] ⟨rfl, rfl, rfl, rfl, rfl, rfl, rfl, trivial⟩ (leb rfl) (leb rfl) (fun X hX hE hnm => ?_)
  refine w_aload_n (i := 0) hX dX8_between_0 rfl rfl ?_
  refine w_iload_n (i := 1) hX dX8_between_1 rfl rfl ?_
  refine w_callVQ (As := [.int t]) (rest := []) (ci := 8) (o := 0) (k2 := 1) (n2 := 6) hX dX8_between_2 (s_clockOf Γ μ b c9 B hx hR hW t) okX8_clockOf (ltb rfl) hx.1 ml_RX8_76 imX8_clockOf seX8_clockOf rfl (leb rfl) (leb rfl) rfl rfl (fun r9 μ9 hq9 => ?_)
  rcases hq9 with ⟨hr9, hT, hTb, hm9⟩ | ⟨hr9, hT, hm9⟩
  · rw [hr9, hm9]; clear hr9 hm9 r9 μ9
    have hTc : tN t < 3 := by have := hW.1; omega
    refine w_astore (l2 := [some (.ref 0), some (.int t), some (.int d), some (.int q), some (.int d2), some (.int q2), some (.int w), some (.ref (b + 10 + 2 * tN t)), none, none]) hX dX8_between_5 (ltb rfl) rfl rfl ?_
    refine w_iload_n (i := 2) hX dX8_between_7 rfl rfl ?_
    refine w_iload_n (i := 3) hX dX8_between_8 rfl rfl ?_
    refine w_callSI (As := [.int d, .int q]) (rest := []) (k2 := 1) (n2 := 6) hX dX8_between_9 (s_clockTime Γ μ d q) okX8_clockTime ml_RX8_94 stX8_clockTime rfl (leb rfl) (leb rfl) rfl rfl (fun r9 μ9 hq9 => ?_)
    rcases hq9 with ⟨hr9, hC, hCb, hm9⟩ | ⟨hr9, hC, hm9⟩
    · rw [hr9, hm9]; clear hr9 hm9 r9 μ9
      refine w_istore (l2 := [some (.ref 0), some (.int t), some (.int d), some (.int q), some (.int d2), some (.int q2), some (.int w), some (.ref (b + 10 + 2 * tN t)), some (.int (nI (ctN d q))), none]) hX dX8_between_12 (ltb rfl) rfl rfl ?_
      refine w_iload hX dX8_between_14 rfl ?_
      refine w_iload hX dX8_between_16 rfl ?_
      refine w_callSI (As := [.int d2, .int q2]) (rest := []) (k2 := 1) (n2 := 6) hX dX8_between_18 (s_clockTime Γ μ d2 q2) okX8_clockTime ml_RX8_94 stX8_clockTime rfl (leb rfl) (leb rfl) rfl rfl (fun r9 μ9 hq9 => ?_)
      rcases hq9 with ⟨hr9, hD, hDb, hm9⟩ | ⟨hr9, hD, hm9⟩
      · rw [hr9, hm9]; clear hr9 hm9 r9 μ9
        refine w_istore (l2 := [some (.ref 0), some (.int t), some (.int d), some (.int q), some (.int d2), some (.int q2), some (.int w), some (.ref (b + 10 + 2 * tN t)), some (.int (nI (ctN d q))), some (.int (nI (ctN d2 q2)))]) hX dX8_between_21 (ltb rfl) rfl rfl ?_
        refine w_aload hX dX8_between_23 rfl ?_
        refine w_ifnull hX dX8_between_25 ?_
        refine w_iload hX dX8_between_28 rfl ?_
        refine w_iconst hX dX8_between_30 kI_m1 ?_
        refine wc_icmp_eq (tgt := 50) hX dX8_between_31 (by decide) (fun c1 => ?_) (fun c1 => ?_)
        · exact absurd c1 (nI_m1 (by omega))
        · refine w_iload hX dX8_between_34 rfl ?_
          refine w_iconst hX dX8_between_36 kI_m1 ?_
          refine wc_icmp_eq (tgt := 50) hX dX8_between_37 (by decide) (fun c2 => ?_) (fun c2 => ?_)
          · exact absurd c2 (nI_m1 (by omega))
          · refine w_iload hX dX8_between_40 rfl ?_
            refine w_iconst hX dX8_between_42 kI_0 ?_
            refine w_iconst hX dX8_between_43 kI_2 ?_
            refine w_callSI (As := [.int w, .int (nI 0), .int (nI 2)]) (rest := []) (k2 := 1) (n2 := 6) hX dX8_between_44 (s_within Γ μ w (nI 0) (nI 2)) okX8_within ml_RX8_81 stX8_within rfl (leb rfl) (leb rfl) rfl rfl (fun r9 μ9 hq9 => ?_)
            obtain ⟨hr9, hm9⟩ := hq9; rw [hr9, hm9]; clear hr9 hm9 r9 μ9
            refine wb_ne (tgt := 58) hX dX8_between_47 (by decide) (fun c3 => ?_) (fun c3 => ?_)
            · refine w_iload hX dX8_between_58 rfl ?_
              refine wc_if_ne (tgt := 79) hX dX8_between_60 (by decide) (fun c4 => ?_) (fun c4 => ?_)
              · refine w_iload hX dX8_between_79 rfl ?_
                refine w_iconst hX dX8_between_81 kI_1 ?_
                refine wc_icmp_ne (tgt := 101) hX dX8_between_82 (by decide) (fun c5 => ?_) (fun c5 => ?_)
                · refine w_iconst hX dX8_between_101 kI_1 ?_
                  refine w_aload hX dX8_between_102 rfl ?_
                  refine w_iload hX dX8_between_104 rfl ?_
                  refine w_callVI (As := [.int (nI (ctN d q))]) (rest := [.int (nI 1)]) (ci := 1) (o := b + 10 + 2 * tN t) (k2 := 1) (n2 := 6) hX dX8_between_106 (s_b_hasTwice Γ μ b B hR hW (tN t) (by omega) (ctN d q) (by omega)) okX1_hasTwice (ltb rfl) (bk_c hR.1 (by omega)).2.1 ml_RX8_98 imX1_hasTwice seX1_hasTwice rfl (leb rfl) (leb rfl) rfl rfl (fun r9 μ9 hq9 => ?_)
                  obtain ⟨hr9, hm9⟩ := hq9; rw [hr9, hm9]; clear hr9 hm9 r9 μ9
                  refine wb_eq (tgt := 116) hX dX8_between_109 (by decide) (fun c6 => ?_) (fun c6 => ?_)
                  · refine w_iconst hX dX8_between_116 kI_0 ?_
                    refine w_iaddN hX dX8_between_117 ?_
                    refine w_aload hX dX8_between_118 rfl ?_
                    refine w_iload hX dX8_between_120 rfl ?_
                    refine w_callVI (As := [.int (nI (ctN d2 q2))]) (rest := [.int (nI (1 + 0))]) (ci := 1) (o := b + 10 + 2 * tN t) (k2 := 1) (n2 := 6) hX dX8_between_122 (s_b_hasTwice Γ μ b B hR hW (tN t) (by omega) (ctN d2 q2) (by omega)) okX1_hasTwice (ltb rfl) (bk_c hR.1 (by omega)).2.1 ml_RX8_98 imX1_hasTwice seX1_hasTwice rfl (leb rfl) (leb rfl) rfl rfl (fun r9 μ9 hq9 => ?_)
                    obtain ⟨hr9, hm9⟩ := hq9; rw [hr9, hm9]; clear hr9 hm9 r9 μ9
                    refine wb_eq (tgt := 132) hX dX8_between_125 (by decide) (fun c7 => ?_) (fun c7 => ?_)
                    · refine w_iconst hX dX8_between_132 kI_0 ?_
                      refine w_iaddN hX dX8_between_133 ?_
                      exact w_iretX hX hE dX8_between_134 rfl ⟨by unfold A_between; rw [if_pos (by simp [hT, hC, hD, c3]), if_neg c4, if_neg c5]; simp [c6, c7], rfl⟩
                    · refine w_iconst hX dX8_between_128 kI_1 ?_
                      refine w_goto (tgt := 133) hX dX8_between_129 (by decide) ?_
                      refine w_iaddN hX dX8_between_133 ?_
                      exact w_iretX hX hE dX8_between_134 rfl ⟨by unfold A_between; rw [if_pos (by simp [hT, hC, hD, c3]), if_neg c4, if_neg c5]; simp [c6, c7], rfl⟩
                  · refine w_iconst hX dX8_between_112 kI_1 ?_
                    refine w_goto (tgt := 117) hX dX8_between_113 (by decide) ?_
                    refine w_iaddN hX dX8_between_117 ?_
                    refine w_aload hX dX8_between_118 rfl ?_
                    refine w_iload hX dX8_between_120 rfl ?_
                    refine w_callVI (As := [.int (nI (ctN d2 q2))]) (rest := [.int (nI (1 + 1))]) (ci := 1) (o := b + 10 + 2 * tN t) (k2 := 1) (n2 := 6) hX dX8_between_122 (s_b_hasTwice Γ μ b B hR hW (tN t) (by omega) (ctN d2 q2) (by omega)) okX1_hasTwice (ltb rfl) (bk_c hR.1 (by omega)).2.1 ml_RX8_98 imX1_hasTwice seX1_hasTwice rfl (leb rfl) (leb rfl) rfl rfl (fun r9 μ9 hq9 => ?_)
                    obtain ⟨hr9, hm9⟩ := hq9; rw [hr9, hm9]; clear hr9 hm9 r9 μ9
                    refine wb_eq (tgt := 132) hX dX8_between_125 (by decide) (fun c8 => ?_) (fun c8 => ?_)
                    · refine w_iconst hX dX8_between_132 kI_0 ?_
                      refine w_iaddN hX dX8_between_133 ?_
                      exact w_iretX hX hE dX8_between_134 rfl ⟨by unfold A_between; rw [if_pos (by simp [hT, hC, hD, c3]), if_neg c4, if_neg c5]; simp [c6, c8], rfl⟩
                    · refine w_iconst hX dX8_between_128 kI_1 ?_
                      refine w_goto (tgt := 133) hX dX8_between_129 (by decide) ?_
                      refine w_iaddN hX dX8_between_133 ?_
                      exact w_iretX hX hE dX8_between_134 rfl ⟨by unfold A_between; rw [if_pos (by simp [hT, hC, hD, c3]), if_neg c4, if_neg c5]; simp [c6, c8], rfl⟩
                · refine w_aload hX dX8_between_85 rfl ?_
                  refine w_iload hX dX8_between_87 rfl ?_
                  refine w_callVI (As := [.int (nI (ctN d2 q2))]) (rest := []) (ci := 1) (o := b + 10 + 2 * tN t) (k2 := 1) (n2 := 6) hX dX8_between_89 (s_b_lastOf Γ μ b B hR hW (tN t) (by omega) (ctN d2 q2) (by omega)) okX1_lastOf (ltb rfl) (bk_c hR.1 (by omega)).2.1 ml_RX8_105 imX1_lastOf seX1_lastOf rfl (leb rfl) (leb rfl) rfl rfl (fun r9 μ9 hq9 => ?_)
                  obtain ⟨hr9, hm9⟩ := hq9; rw [hr9, hm9]; clear hr9 hm9 r9 μ9
                  refine w_aload hX dX8_between_92 rfl ?_
                  refine w_iload hX dX8_between_94 rfl ?_
                  refine w_callVI (As := [.int (nI (ctN d q))]) (rest := [.int (nI (lst B (tN t) (ctN d2 q2)))]) (ci := 1) (o := b + 10 + 2 * tN t) (k2 := 1) (n2 := 6) hX dX8_between_96 (s_b_firstOf Γ μ b B hR hW (tN t) (by omega) (ctN d q) (by omega)) okX1_firstOf (ltb rfl) (bk_c hR.1 (by omega)).2.1 ml_RX8_102 imX1_firstOf seX1_firstOf rfl (leb rfl) (leb rfl) rfl rfl (fun r9 μ9 hq9 => ?_)
                  obtain ⟨hr9, hm9⟩ := hq9; rw [hr9, hm9]; clear hr9 hm9 r9 μ9
                  refine w_isub hX dX8_between_99 ?_
                  exact w_iretX hX hE dX8_between_100 rfl ⟨by unfold A_between; rw [if_pos (by simp [hT, hC, hD, c3]), if_neg c4, if_pos c5], rfl⟩
              · refine w_aload hX dX8_between_63 rfl ?_
                refine w_iload hX dX8_between_65 rfl ?_
                refine w_callVI (As := [.int (nI (ctN d2 q2))]) (rest := []) (ci := 1) (o := b + 10 + 2 * tN t) (k2 := 1) (n2 := 6) hX dX8_between_67 (s_b_firstOf Γ μ b B hR hW (tN t) (by omega) (ctN d2 q2) (by omega)) okX1_firstOf (ltb rfl) (bk_c hR.1 (by omega)).2.1 ml_RX8_102 imX1_firstOf seX1_firstOf rfl (leb rfl) (leb rfl) rfl rfl (fun r9 μ9 hq9 => ?_)
                obtain ⟨hr9, hm9⟩ := hq9; rw [hr9, hm9]; clear hr9 hm9 r9 μ9
                refine w_aload hX dX8_between_70 rfl ?_
                refine w_iload hX dX8_between_72 rfl ?_
                refine w_callVI (As := [.int (nI (ctN d q))]) (rest := [.int (nI (fst B (tN t) (ctN d2 q2)))]) (ci := 1) (o := b + 10 + 2 * tN t) (k2 := 1) (n2 := 6) hX dX8_between_74 (s_b_lastOf Γ μ b B hR hW (tN t) (by omega) (ctN d q) (by omega)) okX1_lastOf (ltb rfl) (bk_c hR.1 (by omega)).2.1 ml_RX8_105 imX1_lastOf seX1_lastOf rfl (leb rfl) (leb rfl) rfl rfl (fun r9 μ9 hq9 => ?_)
                obtain ⟨hr9, hm9⟩ := hq9; rw [hr9, hm9]; clear hr9 hm9 r9 μ9
                refine w_isub hX dX8_between_77 ?_
                exact w_iretX hX hE dX8_between_78 rfl ⟨by unfold A_between; rw [if_pos (by simp [hT, hC, hD, c3]), if_pos c4], rfl⟩
            · exact w_throw hX hE dX8_between_50 dX8_between_53 dX8_between_54 dX8_between_57 cl_RX8_85 ini_NS (leb rfl) ⟨by simp [A_between, *], rfl⟩
      · rw [hr9, hm9]; clear hr9 hm9 r9 μ9
        refine w_istore (l2 := [some (.ref 0), some (.int t), some (.int d), some (.int q), some (.int d2), some (.int q2), some (.int w), some (.ref (b + 10 + 2 * tN t)), some (.int (nI (ctN d q))), some (.int ((-1 : Int32)))]) hX dX8_between_21 (ltb rfl) rfl rfl ?_
        refine w_aload hX dX8_between_23 rfl ?_
        refine w_ifnull hX dX8_between_25 ?_
        refine w_iload hX dX8_between_28 rfl ?_
        refine w_iconst hX dX8_between_30 kI_m1 ?_
        refine wc_icmp_eq (tgt := 50) hX dX8_between_31 (by decide) (fun c9 => ?_) (fun c9 => ?_)
        · exact absurd c9 (nI_m1 (by omega))
        · refine w_iload hX dX8_between_34 rfl ?_
          refine w_iconst hX dX8_between_36 kI_m1 ?_
          refine wc_icmp_eq (tgt := 50) hX dX8_between_37 (by decide) (fun c10 => ?_) (fun c10 => ?_)
          · exact w_throw hX hE dX8_between_50 dX8_between_53 dX8_between_54 dX8_between_57 cl_RX8_85 ini_NS (leb rfl) ⟨by simp [A_between, *], rfl⟩
          · exact absurd rfl c10
    · rw [hr9, hm9]; clear hr9 hm9 r9 μ9
      refine w_istore (l2 := [some (.ref 0), some (.int t), some (.int d), some (.int q), some (.int d2), some (.int q2), some (.int w), some (.ref (b + 10 + 2 * tN t)), some (.int ((-1 : Int32))), none]) hX dX8_between_12 (ltb rfl) rfl rfl ?_
      refine w_iload hX dX8_between_14 rfl ?_
      refine w_iload hX dX8_between_16 rfl ?_
      refine w_callSI (As := [.int d2, .int q2]) (rest := []) (k2 := 1) (n2 := 6) hX dX8_between_18 (s_clockTime Γ μ d2 q2) okX8_clockTime ml_RX8_94 stX8_clockTime rfl (leb rfl) (leb rfl) rfl rfl (fun r9 μ9 hq9 => ?_)
      rcases hq9 with ⟨hr9, hD, hDb, hm9⟩ | ⟨hr9, hD, hm9⟩
      · rw [hr9, hm9]; clear hr9 hm9 r9 μ9
        refine w_istore (l2 := [some (.ref 0), some (.int t), some (.int d), some (.int q), some (.int d2), some (.int q2), some (.int w), some (.ref (b + 10 + 2 * tN t)), some (.int ((-1 : Int32))), some (.int (nI (ctN d2 q2)))]) hX dX8_between_21 (ltb rfl) rfl rfl ?_
        refine w_aload hX dX8_between_23 rfl ?_
        refine w_ifnull hX dX8_between_25 ?_
        refine w_iload hX dX8_between_28 rfl ?_
        refine w_iconst hX dX8_between_30 kI_m1 ?_
        refine wc_icmp_eq (tgt := 50) hX dX8_between_31 (by decide) (fun c11 => ?_) (fun c11 => ?_)
        · exact w_throw hX hE dX8_between_50 dX8_between_53 dX8_between_54 dX8_between_57 cl_RX8_85 ini_NS (leb rfl) ⟨by simp [A_between, *], rfl⟩
        · exact absurd rfl c11
      · rw [hr9, hm9]; clear hr9 hm9 r9 μ9
        refine w_istore (l2 := [some (.ref 0), some (.int t), some (.int d), some (.int q), some (.int d2), some (.int q2), some (.int w), some (.ref (b + 10 + 2 * tN t)), some (.int ((-1 : Int32))), some (.int ((-1 : Int32)))]) hX dX8_between_21 (ltb rfl) rfl rfl ?_
        refine w_aload hX dX8_between_23 rfl ?_
        refine w_ifnull hX dX8_between_25 ?_
        refine w_iload hX dX8_between_28 rfl ?_
        refine w_iconst hX dX8_between_30 kI_m1 ?_
        refine wc_icmp_eq (tgt := 50) hX dX8_between_31 (by decide) (fun c12 => ?_) (fun c12 => ?_)
        · exact w_throw hX hE dX8_between_50 dX8_between_53 dX8_between_54 dX8_between_57 cl_RX8_85 ini_NS (leb rfl) ⟨by simp [A_between, *], rfl⟩
        · exact absurd rfl c12
  · rw [hr9, hm9]; clear hr9 hm9 r9 μ9
    refine w_astoreN (l2 := [some (.ref 0), some (.int t), some (.int d), some (.int q), some (.int d2), some (.int q2), some (.int w), some (.null), none, none]) hX dX8_between_5 (ltb rfl) rfl rfl ?_
    refine w_iload_n (i := 2) hX dX8_between_7 rfl rfl ?_
    refine w_iload_n (i := 3) hX dX8_between_8 rfl rfl ?_
    refine w_callSI (As := [.int d, .int q]) (rest := []) (k2 := 1) (n2 := 6) hX dX8_between_9 (s_clockTime Γ μ d q) okX8_clockTime ml_RX8_94 stX8_clockTime rfl (leb rfl) (leb rfl) rfl rfl (fun r9 μ9 hq9 => ?_)
    rcases hq9 with ⟨hr9, hC, hCb, hm9⟩ | ⟨hr9, hC, hm9⟩
    · rw [hr9, hm9]; clear hr9 hm9 r9 μ9
      refine w_istore (l2 := [some (.ref 0), some (.int t), some (.int d), some (.int q), some (.int d2), some (.int q2), some (.int w), some (.null), some (.int (nI (ctN d q))), none]) hX dX8_between_12 (ltb rfl) rfl rfl ?_
      refine w_iload hX dX8_between_14 rfl ?_
      refine w_iload hX dX8_between_16 rfl ?_
      refine w_callSI (As := [.int d2, .int q2]) (rest := []) (k2 := 1) (n2 := 6) hX dX8_between_18 (s_clockTime Γ μ d2 q2) okX8_clockTime ml_RX8_94 stX8_clockTime rfl (leb rfl) (leb rfl) rfl rfl (fun r9 μ9 hq9 => ?_)
      rcases hq9 with ⟨hr9, hD, hDb, hm9⟩ | ⟨hr9, hD, hm9⟩
      · rw [hr9, hm9]; clear hr9 hm9 r9 μ9
        refine w_istore (l2 := [some (.ref 0), some (.int t), some (.int d), some (.int q), some (.int d2), some (.int q2), some (.int w), some (.null), some (.int (nI (ctN d q))), some (.int (nI (ctN d2 q2)))]) hX dX8_between_21 (ltb rfl) rfl rfl ?_
        refine w_aloadN hX dX8_between_23 rfl ?_
        refine w_ifnullN (tgt := 50) hX dX8_between_25 (by decide) ?_
        exact w_throw hX hE dX8_between_50 dX8_between_53 dX8_between_54 dX8_between_57 cl_RX8_85 ini_NS (leb rfl) ⟨by simp [A_between, *], rfl⟩
      · rw [hr9, hm9]; clear hr9 hm9 r9 μ9
        refine w_istore (l2 := [some (.ref 0), some (.int t), some (.int d), some (.int q), some (.int d2), some (.int q2), some (.int w), some (.null), some (.int (nI (ctN d q))), some (.int ((-1 : Int32)))]) hX dX8_between_21 (ltb rfl) rfl rfl ?_
        refine w_aloadN hX dX8_between_23 rfl ?_
        refine w_ifnullN (tgt := 50) hX dX8_between_25 (by decide) ?_
        exact w_throw hX hE dX8_between_50 dX8_between_53 dX8_between_54 dX8_between_57 cl_RX8_85 ini_NS (leb rfl) ⟨by simp [A_between, *], rfl⟩
    · rw [hr9, hm9]; clear hr9 hm9 r9 μ9
      refine w_istore (l2 := [some (.ref 0), some (.int t), some (.int d), some (.int q), some (.int d2), some (.int q2), some (.int w), some (.null), some (.int ((-1 : Int32))), none]) hX dX8_between_12 (ltb rfl) rfl rfl ?_
      refine w_iload hX dX8_between_14 rfl ?_
      refine w_iload hX dX8_between_16 rfl ?_
      refine w_callSI (As := [.int d2, .int q2]) (rest := []) (k2 := 1) (n2 := 6) hX dX8_between_18 (s_clockTime Γ μ d2 q2) okX8_clockTime ml_RX8_94 stX8_clockTime rfl (leb rfl) (leb rfl) rfl rfl (fun r9 μ9 hq9 => ?_)
      rcases hq9 with ⟨hr9, hD, hDb, hm9⟩ | ⟨hr9, hD, hm9⟩
      · rw [hr9, hm9]; clear hr9 hm9 r9 μ9
        refine w_istore (l2 := [some (.ref 0), some (.int t), some (.int d), some (.int q), some (.int d2), some (.int q2), some (.int w), some (.null), some (.int ((-1 : Int32))), some (.int (nI (ctN d2 q2)))]) hX dX8_between_21 (ltb rfl) rfl rfl ?_
        refine w_aloadN hX dX8_between_23 rfl ?_
        refine w_ifnullN (tgt := 50) hX dX8_between_25 (by decide) ?_
        exact w_throw hX hE dX8_between_50 dX8_between_53 dX8_between_54 dX8_between_57 cl_RX8_85 ini_NS (leb rfl) ⟨by simp [A_between, *], rfl⟩
      · rw [hr9, hm9]; clear hr9 hm9 r9 μ9
        refine w_istore (l2 := [some (.ref 0), some (.int t), some (.int d), some (.int q), some (.int d2), some (.int q2), some (.int w), some (.null), some (.int ((-1 : Int32))), some (.int ((-1 : Int32)))]) hX dX8_between_21 (ltb rfl) rfl rfl ?_
        refine w_aloadN hX dX8_between_23 rfl ?_
        refine w_ifnullN (tgt := 50) hX dX8_between_25 (by decide) ?_
        exact w_throw hX hE dX8_between_50 dX8_between_53 dX8_between_54 dX8_between_57 cl_RX8_85 ini_NS (leb rfl) ⟨by simp [A_between, *], rfl⟩
theorem sw3 (x : Int32) : x = nI 0 ∨ x = nI 1 ∨ x = nI 2 ∨ (x.toInt < 0 ∨ 2 < x.toInt) := by
  by_cases h : x.toInt < 0 ∨ 2 < x.toInt
  · exact Or.inr (Or.inr (Or.inr h))
  · have h1 : x.toInt = 0 ∨ x.toInt = 1 ∨ x.toInt = 2 := by omega
    rcases h1 with h1 | h1 | h1
    · exact Or.inl (Int32.toInt_inj.mp h1)
    · exact Or.inr (Or.inl (Int32.toInt_inj.mp h1))
    · exact Or.inr (Or.inr (Or.inl (Int32.toInt_inj.mp h1)))
set_option maxHeartbeats 1000000 in
theorem s_paid (Γ : Gm) (μ : Mem) (b : Nat) (B : Nat → Nat) (hR : Rb μ b B) (hW : WBt B) (t c c2 : Nat) (ht : t < 3) (hc : c ≤ 6000000) (hc2 : c2 ≤ 6000000) (w : Int32) : SpI Γ MX8_paidMinutes 2 0 0 [.ref (b + 10 + 2 * t), .int (nI c), .int (nI c2), .int w] μ (fun r μ2 => r = paidM B t c c2 w ∧ μ2 = μ) := by
  refine SpI.of okX8_paidMinutes rfl [some (.ref (b + 10 + 2 * t)), some (.int (nI c)), some (.int (nI c2)), some (.int w)] ⟨rfl, rfl, rfl, rfl, trivial⟩ (leb rfl) (leb rfl) (fun X hX hE hnm => ?_)
  refine w_iload_n (i := 3) hX dX8_paidMinutes_0 rfl rfl ?_
  rcases sw3 w with c1 | c1 | c1 | c1
  · refine w_tableIn (tgt := 28) hX dX8_paidMinutes_1 (by rw [c1]; decide) (by rw [c1]; decide) (by rw [c1]; rfl) (by decide) ?_
    refine w_iload_n (i := 2) hX dX8_paidMinutes_28 rfl rfl ?_
    refine w_iload_n (i := 1) hX dX8_paidMinutes_29 rfl rfl ?_
    refine w_isub hX dX8_paidMinutes_30 ?_
    exact w_iret hX hE dX8_paidMinutes_31 (Or.inl rfl) rfl ⟨by unfold paidM; rw [if_pos c1], rfl⟩
  · refine w_tableIn (tgt := 32) hX dX8_paidMinutes_1 (by rw [c1]; decide) (by rw [c1]; decide) (by rw [c1]; rfl) (by decide) ?_
    refine w_aload_n (i := 0) hX dX8_paidMinutes_32 rfl rfl ?_
    refine w_iload_n (i := 2) hX dX8_paidMinutes_33 rfl rfl ?_
    refine w_callVI (As := [.int (nI c2)]) (rest := []) (ci := 1) (o := b + 10 + 2 * t) (k2 := 0) (n2 := 0) hX dX8_paidMinutes_34 (s_b_firstOf Γ μ b B hR hW t (by omega) c2 (by omega)) okX1_firstOf (ltb rfl) (bk_c hR.1 (by omega)).2.1 ml_RX8_102 imX1_firstOf seX1_firstOf rfl (leb rfl) (leb rfl) rfl rfl (fun r9 μ9 hq9 => ?_)
    obtain ⟨hr9, hm9⟩ := hq9; rw [hr9, hm9]; clear hr9 hm9 r9 μ9
    refine w_aload_n (i := 0) hX dX8_paidMinutes_37 rfl rfl ?_
    refine w_iload_n (i := 1) hX dX8_paidMinutes_38 rfl rfl ?_
    refine w_callVI (As := [.int (nI c)]) (rest := [.int (nI (fst B t c2))]) (ci := 1) (o := b + 10 + 2 * t) (k2 := 0) (n2 := 0) hX dX8_paidMinutes_39 (s_b_firstOf Γ μ b B hR hW t (by omega) c (by omega)) okX1_firstOf (ltb rfl) (bk_c hR.1 (by omega)).2.1 ml_RX8_102 imX1_firstOf seX1_firstOf rfl (leb rfl) (leb rfl) rfl rfl (fun r9 μ9 hq9 => ?_)
    obtain ⟨hr9, hm9⟩ := hq9; rw [hr9, hm9]; clear hr9 hm9 r9 μ9
    refine w_isub hX dX8_paidMinutes_42 ?_
    exact w_iret hX hE dX8_paidMinutes_43 (Or.inl rfl) rfl ⟨by unfold paidM; rw [if_neg (by rw [c1]; decide), if_pos c1], rfl⟩
  · refine w_tableIn (tgt := 44) hX dX8_paidMinutes_1 (by rw [c1]; decide) (by rw [c1]; decide) (by rw [c1]; rfl) (by decide) ?_
    refine w_aload_n (i := 0) hX dX8_paidMinutes_44 rfl rfl ?_
    refine w_iload_n (i := 2) hX dX8_paidMinutes_45 rfl rfl ?_
    refine w_callVI (As := [.int (nI c2)]) (rest := []) (ci := 1) (o := b + 10 + 2 * t) (k2 := 0) (n2 := 0) hX dX8_paidMinutes_46 (s_b_lastOf Γ μ b B hR hW t (by omega) c2 (by omega)) okX1_lastOf (ltb rfl) (bk_c hR.1 (by omega)).2.1 ml_RX8_105 imX1_lastOf seX1_lastOf rfl (leb rfl) (leb rfl) rfl rfl (fun r9 μ9 hq9 => ?_)
    obtain ⟨hr9, hm9⟩ := hq9; rw [hr9, hm9]; clear hr9 hm9 r9 μ9
    refine w_aload_n (i := 0) hX dX8_paidMinutes_49 rfl rfl ?_
    refine w_iload_n (i := 1) hX dX8_paidMinutes_50 rfl rfl ?_
    refine w_callVI (As := [.int (nI c)]) (rest := [.int (nI (lst B t c2))]) (ci := 1) (o := b + 10 + 2 * t) (k2 := 0) (n2 := 0) hX dX8_paidMinutes_51 (s_b_firstOf Γ μ b B hR hW t (by omega) c (by omega)) okX1_firstOf (ltb rfl) (bk_c hR.1 (by omega)).2.1 ml_RX8_102 imX1_firstOf seX1_firstOf rfl (leb rfl) (leb rfl) rfl rfl (fun r9 μ9 hq9 => ?_)
    obtain ⟨hr9, hm9⟩ := hq9; rw [hr9, hm9]; clear hr9 hm9 r9 μ9
    refine w_isub hX dX8_paidMinutes_54 ?_
    exact w_iret hX hE dX8_paidMinutes_55 (Or.inl rfl) rfl ⟨by unfold paidM; rw [if_neg (by rw [c1]; decide), if_neg (by rw [c1]; decide), if_pos c1], rfl⟩
  · refine w_tableOut (tgt := 56) hX dX8_paidMinutes_1 c1 (by decide) ?_
    refine w_aload_n (i := 0) hX dX8_paidMinutes_56 rfl rfl ?_
    refine w_iload_n (i := 2) hX dX8_paidMinutes_57 rfl rfl ?_
    refine w_callVI (As := [.int (nI c2)]) (rest := []) (ci := 1) (o := b + 10 + 2 * t) (k2 := 0) (n2 := 0) hX dX8_paidMinutes_58 (s_b_firstOf Γ μ b B hR hW t (by omega) c2 (by omega)) okX1_firstOf (ltb rfl) (bk_c hR.1 (by omega)).2.1 ml_RX8_102 imX1_firstOf seX1_firstOf rfl (leb rfl) (leb rfl) rfl rfl (fun r9 μ9 hq9 => ?_)
    obtain ⟨hr9, hm9⟩ := hq9; rw [hr9, hm9]; clear hr9 hm9 r9 μ9
    refine w_aload_n (i := 0) hX dX8_paidMinutes_61 rfl rfl ?_
    refine w_iload_n (i := 1) hX dX8_paidMinutes_62 rfl rfl ?_
    refine w_callVI (As := [.int (nI c)]) (rest := [.int (nI (fst B t c2))]) (ci := 1) (o := b + 10 + 2 * t) (k2 := 0) (n2 := 0) hX dX8_paidMinutes_63 (s_b_lastOf Γ μ b B hR hW t (by omega) c (by omega)) okX1_lastOf (ltb rfl) (bk_c hR.1 (by omega)).2.1 ml_RX8_105 imX1_lastOf seX1_lastOf rfl (leb rfl) (leb rfl) rfl rfl (fun r9 μ9 hq9 => ?_)
    obtain ⟨hr9, hm9⟩ := hq9; rw [hr9, hm9]; clear hr9 hm9 r9 μ9
    refine w_isub hX dX8_paidMinutes_66 ?_
    exact w_iret hX hE dX8_paidMinutes_67 (Or.inl rfl) rfl ⟨by unfold paidM; rw [if_neg (fun e => by rw [e] at c1; revert c1; decide), if_neg (fun e => by rw [e] at c1; revert c1; decide), if_neg (fun e => by rw [e] at c1; revert c1; decide)], rfl⟩
theorem wage_eq (x r : Int32) : (((if nI 0 < x then x else nI 0).toInt64 * r.toInt64) / 60).toInt32 = if x < nI 0 then nI 0 else (x.toInt64 * r.toInt64 / 60).toInt32 := by
  by_cases h : x < nI 0
  · rw [if_pos h, if_neg (by rw [Int32.not_lt]; exact Int32.le_of_lt h)]
    have e : (nI 0).toInt64 * r.toInt64 = 0 := by
      rw [show (nI 0).toInt64 = 0 from rfl]
      exact Int64.zero_mul
    rw [e]
    rfl
  · rw [if_neg h]
    by_cases h2 : nI 0 < x
    · rw [if_pos h2]
    · rw [if_neg h2]
      have : x = nI 0 := Int32.le_antisymm (Int32.not_lt.mp h2) (Int32.not_lt.mp h)
      rw [this]
theorem oI_m1 {o : Option Nat} (h : ∀ v, o = some v → v < 2 ^ 31) : oI o = (-1 : Int32) ↔ o = none := by
  cases o with
  | none => simp [oI]
  | some v =>
    constructor
    · intro e; exact absurd e (nI_m1 (h v rfl))
    · intro e; cases e
theorem fnd_some {f : Nat → Nat} {d : Nat} : ∀ k s v, fnd f d k s = some v → ∃ j, s ≤ j ∧ j < s + k ∧ f j = v ∧ (f j - 1) / 1440 = d := by
  intro k
  induction k with
  | zero => intro s v h; simp [fnd] at h
  | succ k ih =>
    intro s v h
    simp only [fnd] at h
    by_cases h1 : (f s - 1) / 1440 = d
    · rw [if_pos h1] at h
      cases h
      exact ⟨s, Nat.le_refl s, by omega, rfl, h1⟩
    · rw [if_neg h1] at h
      obtain ⟨j, a, b, c⟩ := ih (s + 1) v h
      exact ⟨j, by omega, by omega, c⟩
theorem fnd_none {f : Nat → Nat} {d : Nat} : ∀ k s, fnd f d k s = none → ∀ j, s ≤ j → j < s + k → (f j - 1) / 1440 ≠ d := by
  intro k
  induction k with
  | zero => intro s _ j h1 h2; omega
  | succ k ih =>
    intro s h j h1 h2
    simp only [fnd] at h
    by_cases h3 : (f s - 1) / 1440 = d
    · rw [if_pos h3] at h; cases h
    · rw [if_neg h3] at h
      by_cases hj : j = s
      · rw [hj]; exact h3
      · exact ih (s + 1) h j (by omega) (by omega)
theorem fnd_day {B : Nat → Nat} {t d v : Nat} (hW : WBt B) (ht : t < 3) (h : fnd (mS B t) d (nB B t) 0 = some v) : v < 2 ^ 31 := by
  obtain ⟨j, -, hj, rfl, -⟩ := fnd_some _ _ _ h
  have := mS_rng hW ht (show j < nB B t by omega)
  omega
def noneN (B : Nat → Nat) (t d l : Nat) : Nat := if l = 0 then 1440 else if l ≤ 60 ∧ fnd (mS B t) d (nB B t) 0 ≠ none then l else 0
def A_none (B : Nat → Nat) (t d l : Int32) : Int32 := if (isT B t && inR d (nI 0) (nI 3649) && inR l (nI 0) (nI 9999)) = true then nI (noneN B (tN t) (tN d) (tN l)) else -1
set_option maxHeartbeats 1000000 in
theorem s_x_wage (Γ : Gm) (hfr : Γ.2.2.2.2.2 = false) (μ : Mem) (b c9 : Nat) (B : Nat → Nat) (hx : isX μ b c9) (hR : Rb μ b B) (hW : WBt B) (t d q d2 q2 rt w : Int32) : SpX Γ MX8_wage 7 1 6 [.ref 0, .int t, .int d, .int q, .int d2, .int q2, .int rt, .int w] μ (fun r μ2 => A_wage B t d q d2 q2 rt w = some r ∧ μ2 = μ) (fun μ2 => A_wage B t d q d2 q2 rt w = none ∧ μ2 = μ) := by
  refine SpX.of hfr okX8_wage rfl [some (.ref 0), some (.int t), some (.int d), some (.int q), some (.int d2), some (.int q2), some (.int rt), some (.int w), none, none, none, none, none] ⟨rfl, rfl, rfl, rfl, rfl, rfl, rfl, rfl, trivial⟩ (leb rfl) (leb rfl) (fun X hX hE hnm => ?_)
  refine w_aload_n (i := 0) hX dX8_wage_0 rfl rfl ?_
  refine w_iload_n (i := 1) hX dX8_wage_1 rfl rfl ?_
  refine w_callVQ (As := [.int t]) (rest := []) (ci := 8) (o := 0) (k2 := 1) (n2 := 6) hX dX8_wage_2 (s_clockOf Γ μ b c9 B hx hR hW t) okX8_clockOf (ltb rfl) hx.1 ml_RX8_76 imX8_clockOf seX8_clockOf rfl (leb rfl) (leb rfl) rfl rfl (fun r9 μ9 hq9 => ?_)
  rcases hq9 with ⟨hr9, hT, hTb, hm9⟩ | ⟨hr9, hT, hm9⟩
  · rw [hr9, hm9]; clear hr9 hm9 r9 μ9
    have hTc : tN t < 3 := by have := hW.1; omega
    refine w_astore (l2 := [some (.ref 0), some (.int t), some (.int d), some (.int q), some (.int d2), some (.int q2), some (.int rt), some (.int w), some (.ref (b + 10 + 2 * tN t)), none, none, none, none]) hX dX8_wage_5 (ltb rfl) rfl rfl ?_
    refine w_iload_n (i := 2) hX dX8_wage_7 rfl rfl ?_
    refine w_iload_n (i := 3) hX dX8_wage_8 rfl rfl ?_
    refine w_callSI (As := [.int d, .int q]) (rest := []) (k2 := 1) (n2 := 6) hX dX8_wage_9 (s_clockTime Γ μ d q) okX8_clockTime ml_RX8_94 stX8_clockTime rfl (leb rfl) (leb rfl) rfl rfl (fun r9 μ9 hq9 => ?_)
    rcases hq9 with ⟨hr9, hC, hCb, hm9⟩ | ⟨hr9, hC, hm9⟩
    · rw [hr9, hm9]; clear hr9 hm9 r9 μ9
      refine w_istore (l2 := [some (.ref 0), some (.int t), some (.int d), some (.int q), some (.int d2), some (.int q2), some (.int rt), some (.int w), some (.ref (b + 10 + 2 * tN t)), some (.int (nI (ctN d q))), none, none, none]) hX dX8_wage_12 (ltb rfl) rfl rfl ?_
      refine w_iload hX dX8_wage_14 rfl ?_
      refine w_iload hX dX8_wage_16 rfl ?_
      refine w_callSI (As := [.int d2, .int q2]) (rest := []) (k2 := 1) (n2 := 6) hX dX8_wage_18 (s_clockTime Γ μ d2 q2) okX8_clockTime ml_RX8_94 stX8_clockTime rfl (leb rfl) (leb rfl) rfl rfl (fun r9 μ9 hq9 => ?_)
      rcases hq9 with ⟨hr9, hD, hDb, hm9⟩ | ⟨hr9, hD, hm9⟩
      · rw [hr9, hm9]; clear hr9 hm9 r9 μ9
        refine w_istore (l2 := [some (.ref 0), some (.int t), some (.int d), some (.int q), some (.int d2), some (.int q2), some (.int rt), some (.int w), some (.ref (b + 10 + 2 * tN t)), some (.int (nI (ctN d q))), some (.int (nI (ctN d2 q2))), none, none]) hX dX8_wage_21 (ltb rfl) rfl rfl ?_
        refine w_aload hX dX8_wage_23 rfl ?_
        refine w_ifnull hX dX8_wage_25 ?_
        refine w_iload hX dX8_wage_28 rfl ?_
        refine w_iconst hX dX8_wage_30 kI_m1 ?_
        refine wc_icmp_eq (tgt := 62) hX dX8_wage_31 (by decide) (fun c1 => ?_) (fun c1 => ?_)
        · exact absurd c1 (nI_m1 (by omega))
        · refine w_iload hX dX8_wage_34 rfl ?_
          refine w_iconst hX dX8_wage_36 kI_m1 ?_
          refine wc_icmp_eq (tgt := 62) hX dX8_wage_37 (by decide) (fun c2 => ?_) (fun c2 => ?_)
          · exact absurd c2 (nI_m1 (by omega))
          · refine w_iload hX dX8_wage_40 rfl ?_
            refine w_iconst hX dX8_wage_42 kI_0 ?_
            refine w_sipush hX dX8_wage_43 kS_999 ?_
            refine w_callSI (As := [.int rt, .int (nI 0), .int (nI 999)]) (rest := []) (k2 := 1) (n2 := 6) hX dX8_wage_46 (s_within Γ μ rt (nI 0) (nI 999)) okX8_within ml_RX8_81 stX8_within rfl (leb rfl) (leb rfl) rfl rfl (fun r9 μ9 hq9 => ?_)
            obtain ⟨hr9, hm9⟩ := hq9; rw [hr9, hm9]; clear hr9 hm9 r9 μ9
            refine wb_eq (tgt := 62) hX dX8_wage_49 (by decide) (fun c3 => ?_) (fun c3 => ?_)
            · exact w_throw hX hE dX8_wage_62 dX8_wage_65 dX8_wage_66 dX8_wage_69 cl_RX8_85 ini_NS (leb rfl) ⟨by simp [A_wage, *], rfl⟩
            · refine w_iload hX dX8_wage_52 rfl ?_
              refine w_iconst hX dX8_wage_54 kI_0 ?_
              refine w_iconst hX dX8_wage_55 kI_3 ?_
              refine w_callSI (As := [.int w, .int (nI 0), .int (nI 3)]) (rest := []) (k2 := 1) (n2 := 6) hX dX8_wage_56 (s_within Γ μ w (nI 0) (nI 3)) okX8_within ml_RX8_81 stX8_within rfl (leb rfl) (leb rfl) rfl rfl (fun r9 μ9 hq9 => ?_)
              obtain ⟨hr9, hm9⟩ := hq9; rw [hr9, hm9]; clear hr9 hm9 r9 μ9
              refine wb_ne (tgt := 70) hX dX8_wage_59 (by decide) (fun c4 => ?_) (fun c4 => ?_)
              · refine w_iconst hX dX8_wage_70 kI_0 ?_
                refine w_aload hX dX8_wage_71 rfl ?_
                refine w_iload hX dX8_wage_73 rfl ?_
                refine w_iload hX dX8_wage_75 rfl ?_
                refine w_iload hX dX8_wage_77 rfl ?_
                refine w_callSI (As := [.ref (b + 10 + 2 * tN t), .int (nI (ctN d q)), .int (nI (ctN d2 q2)), .int w]) (rest := [.int (nI 0)]) (k2 := 1) (n2 := 6) hX dX8_wage_79 (s_paid Γ μ b B hR hW (tN t) (ctN d q) (ctN d2 q2) (by omega) (by omega) (by omega) w) okX8_paidMinutes ml_RX8_197 stX8_paidMinutes rfl (leb rfl) (leb rfl) rfl rfl (fun r9 μ9 hq9 => ?_)
                obtain ⟨hr9, hm9⟩ := hq9; rw [hr9, hm9]; clear hr9 hm9 r9 μ9
                refine w_max hX dX8_wage_82 ml_RX8_201 (leb rfl) (leb rfl) ?_
                refine w_i2l hX dX8_wage_85 ?_
                refine w_lstore (l2 := [some (.ref 0), some (.int t), some (.int d), some (.int q), some (.int d2), some (.int q2), some (.int rt), some (.int w), some (.ref (b + 10 + 2 * tN t)), some (.int (nI (ctN d q))), some (.int (nI (ctN d2 q2))), some (.long ((if (nI 0) < (paidM B (tN t) (ctN d q) (ctN d2 q2) w) then (paidM B (tN t) (ctN d q) (ctN d2 q2) w) else (nI 0)).toInt64)), none]) hX dX8_wage_86 (ltb rfl) rfl rfl ?_
                refine w_lload hX dX8_wage_88 rfl ?_
                refine w_iload hX dX8_wage_90 rfl ?_
                refine w_i2l hX dX8_wage_92 ?_
                refine w_lmul hX dX8_wage_93 ?_
                refine w_ldc2 hX dX8_wage_94 kl_RX8_206 ?_
                refine w_ldiv hX dX8_wage_97 (by decide) ?_
                refine w_l2i hX dX8_wage_98 ?_
                exact w_iretX hX hE dX8_wage_99 rfl ⟨by unfold A_wage; rw [if_pos (by simp [hT, hC, hD, c3, c4]), wage_eq], rfl⟩
              · exact w_throw hX hE dX8_wage_62 dX8_wage_65 dX8_wage_66 dX8_wage_69 cl_RX8_85 ini_NS (leb rfl) ⟨by simp [A_wage, *], rfl⟩
      · rw [hr9, hm9]; clear hr9 hm9 r9 μ9
        refine w_istore (l2 := [some (.ref 0), some (.int t), some (.int d), some (.int q), some (.int d2), some (.int q2), some (.int rt), some (.int w), some (.ref (b + 10 + 2 * tN t)), some (.int (nI (ctN d q))), some (.int ((-1 : Int32))), none, none]) hX dX8_wage_21 (ltb rfl) rfl rfl ?_
        refine w_aload hX dX8_wage_23 rfl ?_
        refine w_ifnull hX dX8_wage_25 ?_
        refine w_iload hX dX8_wage_28 rfl ?_
        refine w_iconst hX dX8_wage_30 kI_m1 ?_
        refine wc_icmp_eq (tgt := 62) hX dX8_wage_31 (by decide) (fun c5 => ?_) (fun c5 => ?_)
        · exact absurd c5 (nI_m1 (by omega))
        · refine w_iload hX dX8_wage_34 rfl ?_
          refine w_iconst hX dX8_wage_36 kI_m1 ?_
          refine wc_icmp_eq (tgt := 62) hX dX8_wage_37 (by decide) (fun c6 => ?_) (fun c6 => ?_)
          · exact w_throw hX hE dX8_wage_62 dX8_wage_65 dX8_wage_66 dX8_wage_69 cl_RX8_85 ini_NS (leb rfl) ⟨by simp [A_wage, *], rfl⟩
          · exact absurd rfl c6
    · rw [hr9, hm9]; clear hr9 hm9 r9 μ9
      refine w_istore (l2 := [some (.ref 0), some (.int t), some (.int d), some (.int q), some (.int d2), some (.int q2), some (.int rt), some (.int w), some (.ref (b + 10 + 2 * tN t)), some (.int ((-1 : Int32))), none, none, none]) hX dX8_wage_12 (ltb rfl) rfl rfl ?_
      refine w_iload hX dX8_wage_14 rfl ?_
      refine w_iload hX dX8_wage_16 rfl ?_
      refine w_callSI (As := [.int d2, .int q2]) (rest := []) (k2 := 1) (n2 := 6) hX dX8_wage_18 (s_clockTime Γ μ d2 q2) okX8_clockTime ml_RX8_94 stX8_clockTime rfl (leb rfl) (leb rfl) rfl rfl (fun r9 μ9 hq9 => ?_)
      rcases hq9 with ⟨hr9, hD, hDb, hm9⟩ | ⟨hr9, hD, hm9⟩
      · rw [hr9, hm9]; clear hr9 hm9 r9 μ9
        refine w_istore (l2 := [some (.ref 0), some (.int t), some (.int d), some (.int q), some (.int d2), some (.int q2), some (.int rt), some (.int w), some (.ref (b + 10 + 2 * tN t)), some (.int ((-1 : Int32))), some (.int (nI (ctN d2 q2))), none, none]) hX dX8_wage_21 (ltb rfl) rfl rfl ?_
        refine w_aload hX dX8_wage_23 rfl ?_
        refine w_ifnull hX dX8_wage_25 ?_
        refine w_iload hX dX8_wage_28 rfl ?_
        refine w_iconst hX dX8_wage_30 kI_m1 ?_
        refine wc_icmp_eq (tgt := 62) hX dX8_wage_31 (by decide) (fun c7 => ?_) (fun c7 => ?_)
        · exact w_throw hX hE dX8_wage_62 dX8_wage_65 dX8_wage_66 dX8_wage_69 cl_RX8_85 ini_NS (leb rfl) ⟨by simp [A_wage, *], rfl⟩
        · exact absurd rfl c7
      · rw [hr9, hm9]; clear hr9 hm9 r9 μ9
        refine w_istore (l2 := [some (.ref 0), some (.int t), some (.int d), some (.int q), some (.int d2), some (.int q2), some (.int rt), some (.int w), some (.ref (b + 10 + 2 * tN t)), some (.int ((-1 : Int32))), some (.int ((-1 : Int32))), none, none]) hX dX8_wage_21 (ltb rfl) rfl rfl ?_
        refine w_aload hX dX8_wage_23 rfl ?_
        refine w_ifnull hX dX8_wage_25 ?_
        refine w_iload hX dX8_wage_28 rfl ?_
        refine w_iconst hX dX8_wage_30 kI_m1 ?_
        refine wc_icmp_eq (tgt := 62) hX dX8_wage_31 (by decide) (fun c8 => ?_) (fun c8 => ?_)
        · exact w_throw hX hE dX8_wage_62 dX8_wage_65 dX8_wage_66 dX8_wage_69 cl_RX8_85 ini_NS (leb rfl) ⟨by simp [A_wage, *], rfl⟩
        · exact absurd rfl c8
  · rw [hr9, hm9]; clear hr9 hm9 r9 μ9
    refine w_astoreN (l2 := [some (.ref 0), some (.int t), some (.int d), some (.int q), some (.int d2), some (.int q2), some (.int rt), some (.int w), some (.null), none, none, none, none]) hX dX8_wage_5 (ltb rfl) rfl rfl ?_
    refine w_iload_n (i := 2) hX dX8_wage_7 rfl rfl ?_
    refine w_iload_n (i := 3) hX dX8_wage_8 rfl rfl ?_
    refine w_callSI (As := [.int d, .int q]) (rest := []) (k2 := 1) (n2 := 6) hX dX8_wage_9 (s_clockTime Γ μ d q) okX8_clockTime ml_RX8_94 stX8_clockTime rfl (leb rfl) (leb rfl) rfl rfl (fun r9 μ9 hq9 => ?_)
    rcases hq9 with ⟨hr9, hC, hCb, hm9⟩ | ⟨hr9, hC, hm9⟩
    · rw [hr9, hm9]; clear hr9 hm9 r9 μ9
      refine w_istore (l2 := [some (.ref 0), some (.int t), some (.int d), some (.int q), some (.int d2), some (.int q2), some (.int rt), some (.int w), some (.null), some (.int (nI (ctN d q))), none, none, none]) hX dX8_wage_12 (ltb rfl) rfl rfl ?_
      refine w_iload hX dX8_wage_14 rfl ?_
      refine w_iload hX dX8_wage_16 rfl ?_
      refine w_callSI (As := [.int d2, .int q2]) (rest := []) (k2 := 1) (n2 := 6) hX dX8_wage_18 (s_clockTime Γ μ d2 q2) okX8_clockTime ml_RX8_94 stX8_clockTime rfl (leb rfl) (leb rfl) rfl rfl (fun r9 μ9 hq9 => ?_)
      rcases hq9 with ⟨hr9, hD, hDb, hm9⟩ | ⟨hr9, hD, hm9⟩
      · rw [hr9, hm9]; clear hr9 hm9 r9 μ9
        refine w_istore (l2 := [some (.ref 0), some (.int t), some (.int d), some (.int q), some (.int d2), some (.int q2), some (.int rt), some (.int w), some (.null), some (.int (nI (ctN d q))), some (.int (nI (ctN d2 q2))), none, none]) hX dX8_wage_21 (ltb rfl) rfl rfl ?_
        refine w_aloadN hX dX8_wage_23 rfl ?_
        refine w_ifnullN (tgt := 62) hX dX8_wage_25 (by decide) ?_
        exact w_throw hX hE dX8_wage_62 dX8_wage_65 dX8_wage_66 dX8_wage_69 cl_RX8_85 ini_NS (leb rfl) ⟨by simp [A_wage, *], rfl⟩
      · rw [hr9, hm9]; clear hr9 hm9 r9 μ9
        refine w_istore (l2 := [some (.ref 0), some (.int t), some (.int d), some (.int q), some (.int d2), some (.int q2), some (.int rt), some (.int w), some (.null), some (.int (nI (ctN d q))), some (.int ((-1 : Int32))), none, none]) hX dX8_wage_21 (ltb rfl) rfl rfl ?_
        refine w_aloadN hX dX8_wage_23 rfl ?_
        refine w_ifnullN (tgt := 62) hX dX8_wage_25 (by decide) ?_
        exact w_throw hX hE dX8_wage_62 dX8_wage_65 dX8_wage_66 dX8_wage_69 cl_RX8_85 ini_NS (leb rfl) ⟨by simp [A_wage, *], rfl⟩
    · rw [hr9, hm9]; clear hr9 hm9 r9 μ9
      refine w_istore (l2 := [some (.ref 0), some (.int t), some (.int d), some (.int q), some (.int d2), some (.int q2), some (.int rt), some (.int w), some (.null), some (.int ((-1 : Int32))), none, none, none]) hX dX8_wage_12 (ltb rfl) rfl rfl ?_
      refine w_iload hX dX8_wage_14 rfl ?_
      refine w_iload hX dX8_wage_16 rfl ?_
      refine w_callSI (As := [.int d2, .int q2]) (rest := []) (k2 := 1) (n2 := 6) hX dX8_wage_18 (s_clockTime Γ μ d2 q2) okX8_clockTime ml_RX8_94 stX8_clockTime rfl (leb rfl) (leb rfl) rfl rfl (fun r9 μ9 hq9 => ?_)
      rcases hq9 with ⟨hr9, hD, hDb, hm9⟩ | ⟨hr9, hD, hm9⟩
      · rw [hr9, hm9]; clear hr9 hm9 r9 μ9
        refine w_istore (l2 := [some (.ref 0), some (.int t), some (.int d), some (.int q), some (.int d2), some (.int q2), some (.int rt), some (.int w), some (.null), some (.int ((-1 : Int32))), some (.int (nI (ctN d2 q2))), none, none]) hX dX8_wage_21 (ltb rfl) rfl rfl ?_
        refine w_aloadN hX dX8_wage_23 rfl ?_
        refine w_ifnullN (tgt := 62) hX dX8_wage_25 (by decide) ?_
        exact w_throw hX hE dX8_wage_62 dX8_wage_65 dX8_wage_66 dX8_wage_69 cl_RX8_85 ini_NS (leb rfl) ⟨by simp [A_wage, *], rfl⟩
      · rw [hr9, hm9]; clear hr9 hm9 r9 μ9
        refine w_istore (l2 := [some (.ref 0), some (.int t), some (.int d), some (.int q), some (.int d2), some (.int q2), some (.int rt), some (.int w), some (.null), some (.int ((-1 : Int32))), some (.int ((-1 : Int32))), none, none]) hX dX8_wage_21 (ltb rfl) rfl rfl ?_
        refine w_aloadN hX dX8_wage_23 rfl ?_
        refine w_ifnullN (tgt := 62) hX dX8_wage_25 (by decide) ?_
        exact w_throw hX hE dX8_wage_62 dX8_wage_65 dX8_wage_66 dX8_wage_69 cl_RX8_85 ini_NS (leb rfl) ⟨by simp [A_wage, *], rfl⟩
set_option maxHeartbeats 1000000 in
theorem s_x_moment (Γ : Gm) (μ : Mem) (b c9 : Nat) (B : Nat → Nat) (hx : isX μ b c9) (hR : Rb μ b B) (hW : WBt B) (t d q w : Int32) : SpI Γ MX8_moment 3 0 0 [.ref 0, .int t, .int d, .int q, .int w] μ (fun r μ2 => r = A_moment B t d q w ∧ μ2 = μ) := by
  refine SpI.of okX8_moment rfl [some (.ref 0), some (.int t), some (.int d), some (.int q), some (.int w), none, none] ⟨rfl, rfl, rfl, rfl, rfl, trivial⟩ (leb rfl) (leb rfl) (fun X hX hE hnm => ?_)
  refine w_aload_n (i := 0) hX dX8_moment_0 rfl rfl ?_
  refine w_iload_n (i := 1) hX dX8_moment_1 rfl rfl ?_
  refine w_callVQ (As := [.int t]) (rest := []) (ci := 8) (o := 0) (k2 := 0) (n2 := 0) hX dX8_moment_2 (s_clockOf Γ μ b c9 B hx hR hW t) okX8_clockOf (ltb rfl) hx.1 ml_RX8_76 imX8_clockOf seX8_clockOf rfl (leb rfl) (leb rfl) rfl rfl (fun r9 μ9 hq9 => ?_)
  rcases hq9 with ⟨hr9, hT, hTb, hm9⟩ | ⟨hr9, hT, hm9⟩
  · rw [hr9, hm9]; clear hr9 hm9 r9 μ9
    have hTc : tN t < 3 := by have := hW.1; omega
    refine w_astore (l2 := [some (.ref 0), some (.int t), some (.int d), some (.int q), some (.int w), some (.ref (b + 10 + 2 * tN t)), none]) hX dX8_moment_5 (ltb rfl) rfl rfl ?_
    refine w_iload_n (i := 2) hX dX8_moment_7 rfl rfl ?_
    refine w_iload_n (i := 3) hX dX8_moment_8 rfl rfl ?_
    refine w_callSI (As := [.int d, .int q]) (rest := []) (k2 := 0) (n2 := 0) hX dX8_moment_9 (s_clockTime Γ μ d q) okX8_clockTime ml_RX8_94 stX8_clockTime rfl (leb rfl) (leb rfl) rfl rfl (fun r9 μ9 hq9 => ?_)
    rcases hq9 with ⟨hr9, hC, hCb, hm9⟩ | ⟨hr9, hC, hm9⟩
    · rw [hr9, hm9]; clear hr9 hm9 r9 μ9
      refine w_istore (l2 := [some (.ref 0), some (.int t), some (.int d), some (.int q), some (.int w), some (.ref (b + 10 + 2 * tN t)), some (.int (nI (ctN d q)))]) hX dX8_moment_12 (ltb rfl) rfl rfl ?_
      refine w_aload hX dX8_moment_14 rfl ?_
      refine w_ifnull hX dX8_moment_16 ?_
      refine w_iload hX dX8_moment_19 rfl ?_
      refine w_iconst hX dX8_moment_21 kI_m1 ?_
      refine wc_icmp_ne (tgt := 27) hX dX8_moment_22 (by decide) (fun c1 => ?_) (fun c1 => ?_)
      · refine w_iload hX dX8_moment_27 rfl ?_
        rcases sw3 w with c2 | c2 | c2 | c2
        · refine w_tableIn (tgt := 56) hX dX8_moment_29 (by rw [c2]; decide) (by rw [c2]; decide) (by rw [c2]; rfl) (by decide) ?_
          refine w_aload hX dX8_moment_56 rfl ?_
          refine w_iload hX dX8_moment_58 rfl ?_
          refine w_callVI (As := [.int (nI (ctN d q))]) (rest := []) (ci := 1) (o := b + 10 + 2 * tN t) (k2 := 0) (n2 := 0) hX dX8_moment_60 (s_b_hasTwice Γ μ b B hR hW (tN t) (by omega) (ctN d q) (by omega)) okX1_hasTwice (ltb rfl) (bk_c hR.1 (by omega)).2.1 ml_RX8_98 imX1_hasTwice seX1_hasTwice rfl (leb rfl) (leb rfl) rfl rfl (fun r9 μ9 hq9 => ?_)
          obtain ⟨hr9, hm9⟩ := hq9; rw [hr9, hm9]; clear hr9 hm9 r9 μ9
          refine wb_eq (tgt := 70) hX dX8_moment_63 (by decide) (fun c3 => ?_) (fun c3 => ?_)
          · refine w_iconst hX dX8_moment_70 kI_1 ?_
            exact w_iret hX hE dX8_moment_71 (Or.inl rfl) rfl ⟨by unfold A_moment; rw [if_pos (by simp [hT, hC]), if_pos c2]; simp [c3], rfl⟩
          · refine w_iconst hX dX8_moment_66 kI_2 ?_
            refine w_goto (tgt := 71) hX dX8_moment_67 (by decide) ?_
            exact w_iret hX hE dX8_moment_71 (Or.inl rfl) rfl ⟨by unfold A_moment; rw [if_pos (by simp [hT, hC]), if_pos c2]; simp [c3], rfl⟩
        · refine w_tableIn (tgt := 72) hX dX8_moment_29 (by rw [c2]; decide) (by rw [c2]; decide) (by rw [c2]; rfl) (by decide) ?_
          refine w_aload hX dX8_moment_72 rfl ?_
          refine w_iload hX dX8_moment_74 rfl ?_
          refine w_callVI (As := [.int (nI (ctN d q))]) (rest := []) (ci := 1) (o := b + 10 + 2 * tN t) (k2 := 0) (n2 := 0) hX dX8_moment_76 (s_b_firstOf Γ μ b B hR hW (tN t) (by omega) (ctN d q) (by omega)) okX1_firstOf (ltb rfl) (bk_c hR.1 (by omega)).2.1 ml_RX8_102 imX1_firstOf seX1_firstOf rfl (leb rfl) (leb rfl) rfl rfl (fun r9 μ9 hq9 => ?_)
          obtain ⟨hr9, hm9⟩ := hq9; rw [hr9, hm9]; clear hr9 hm9 r9 μ9
          exact w_iret hX hE dX8_moment_79 (Or.inl rfl) rfl ⟨by unfold A_moment; rw [if_pos (by simp [hT, hC]), if_neg (by rw [c2]; decide), if_pos c2], rfl⟩
        · refine w_tableIn (tgt := 80) hX dX8_moment_29 (by rw [c2]; decide) (by rw [c2]; decide) (by rw [c2]; rfl) (by decide) ?_
          refine w_aload hX dX8_moment_80 rfl ?_
          refine w_iload hX dX8_moment_82 rfl ?_
          refine w_callVI (As := [.int (nI (ctN d q))]) (rest := []) (ci := 1) (o := b + 10 + 2 * tN t) (k2 := 0) (n2 := 0) hX dX8_moment_84 (s_b_hasTwice Γ μ b B hR hW (tN t) (by omega) (ctN d q) (by omega)) okX1_hasTwice (ltb rfl) (bk_c hR.1 (by omega)).2.1 ml_RX8_98 imX1_hasTwice seX1_hasTwice rfl (leb rfl) (leb rfl) rfl rfl (fun r9 μ9 hq9 => ?_)
          obtain ⟨hr9, hm9⟩ := hq9; rw [hr9, hm9]; clear hr9 hm9 r9 μ9
          refine wb_eq (tgt := 100) hX dX8_moment_87 (by decide) (fun c4 => ?_) (fun c4 => ?_)
          · refine w_iconst hX dX8_moment_100 kI_m1 ?_
            exact w_iret hX hE dX8_moment_101 (Or.inl rfl) rfl ⟨by unfold A_moment; rw [if_pos (by simp [hT, hC]), if_neg (by rw [c2]; decide), if_neg (by rw [c2]; decide), if_pos c2]; simp [c4], rfl⟩
          · refine w_aload hX dX8_moment_90 rfl ?_
            refine w_iload hX dX8_moment_92 rfl ?_
            refine w_callVI (As := [.int (nI (ctN d q))]) (rest := []) (ci := 1) (o := b + 10 + 2 * tN t) (k2 := 0) (n2 := 0) hX dX8_moment_94 (s_b_lastOf Γ μ b B hR hW (tN t) (by omega) (ctN d q) (by omega)) okX1_lastOf (ltb rfl) (bk_c hR.1 (by omega)).2.1 ml_RX8_105 imX1_lastOf seX1_lastOf rfl (leb rfl) (leb rfl) rfl rfl (fun r9 μ9 hq9 => ?_)
            obtain ⟨hr9, hm9⟩ := hq9; rw [hr9, hm9]; clear hr9 hm9 r9 μ9
            refine w_goto (tgt := 101) hX dX8_moment_97 (by decide) ?_
            exact w_iret hX hE dX8_moment_101 (Or.inl rfl) rfl ⟨by unfold A_moment; rw [if_pos (by simp [hT, hC]), if_neg (by rw [c2]; decide), if_neg (by rw [c2]; decide), if_pos c2]; simp [c4], rfl⟩
        · refine w_tableOut (tgt := 102) hX dX8_moment_29 c2 (by decide) ?_
          refine w_iconst hX dX8_moment_102 kI_m1 ?_
          exact w_iret hX hE dX8_moment_103 (Or.inl rfl) rfl ⟨by unfold A_moment; rw [if_pos (by simp [hT, hC]), if_neg (fun e => by rw [e] at c2; revert c2; decide), if_neg (fun e => by rw [e] at c2; revert c2; decide), if_neg (fun e => by rw [e] at c2; revert c2; decide)], rfl⟩
      · exact absurd c1 (nI_m1 (by omega))
    · rw [hr9, hm9]; clear hr9 hm9 r9 μ9
      refine w_istore (l2 := [some (.ref 0), some (.int t), some (.int d), some (.int q), some (.int w), some (.ref (b + 10 + 2 * tN t)), some (.int ((-1 : Int32)))]) hX dX8_moment_12 (ltb rfl) rfl rfl ?_
      refine w_aload hX dX8_moment_14 rfl ?_
      refine w_ifnull hX dX8_moment_16 ?_
      refine w_iload hX dX8_moment_19 rfl ?_
      refine w_iconst hX dX8_moment_21 kI_m1 ?_
      refine wc_icmp_ne (tgt := 27) hX dX8_moment_22 (by decide) (fun c5 => ?_) (fun c5 => ?_)
      · exact absurd rfl c5
      · refine w_iconst hX dX8_moment_25 kI_m1 ?_
        exact w_iret hX hE dX8_moment_26 (Or.inl rfl) rfl ⟨by simp [A_moment, *], rfl⟩
  · rw [hr9, hm9]; clear hr9 hm9 r9 μ9
    refine w_astoreN (l2 := [some (.ref 0), some (.int t), some (.int d), some (.int q), some (.int w), some (.null), none]) hX dX8_moment_5 (ltb rfl) rfl rfl ?_
    refine w_iload_n (i := 2) hX dX8_moment_7 rfl rfl ?_
    refine w_iload_n (i := 3) hX dX8_moment_8 rfl rfl ?_
    refine w_callSI (As := [.int d, .int q]) (rest := []) (k2 := 0) (n2 := 0) hX dX8_moment_9 (s_clockTime Γ μ d q) okX8_clockTime ml_RX8_94 stX8_clockTime rfl (leb rfl) (leb rfl) rfl rfl (fun r9 μ9 hq9 => ?_)
    rcases hq9 with ⟨hr9, hC, hCb, hm9⟩ | ⟨hr9, hC, hm9⟩
    · rw [hr9, hm9]; clear hr9 hm9 r9 μ9
      refine w_istore (l2 := [some (.ref 0), some (.int t), some (.int d), some (.int q), some (.int w), some (.null), some (.int (nI (ctN d q)))]) hX dX8_moment_12 (ltb rfl) rfl rfl ?_
      refine w_aloadN hX dX8_moment_14 rfl ?_
      refine w_ifnullN (tgt := 25) hX dX8_moment_16 (by decide) ?_
      refine w_iconst hX dX8_moment_25 kI_m1 ?_
      exact w_iret hX hE dX8_moment_26 (Or.inl rfl) rfl ⟨by simp [A_moment, *], rfl⟩
    · rw [hr9, hm9]; clear hr9 hm9 r9 μ9
      refine w_istore (l2 := [some (.ref 0), some (.int t), some (.int d), some (.int q), some (.int w), some (.null), some (.int ((-1 : Int32)))]) hX dX8_moment_12 (ltb rfl) rfl rfl ?_
      refine w_aloadN hX dX8_moment_14 rfl ?_
      refine w_ifnullN (tgt := 25) hX dX8_moment_16 (by decide) ?_
      refine w_iconst hX dX8_moment_25 kI_m1 ?_
      exact w_iret hX hE dX8_moment_26 (Or.inl rfl) rfl ⟨by simp [A_moment, *], rfl⟩
set_option maxHeartbeats 1000000 in
theorem s_x_none (Γ : Gm) (μ : Mem) (b c9 : Nat) (B : Nat → Nat) (hx : isX μ b c9) (hR : Rb μ b B) (hW : WBt B) (t d l : Int32) : SpI Γ MX8_none 3 0 0 [.ref 0, .int t, .int d, .int l] μ (fun r μ2 => r = A_none B t d l ∧ μ2 = μ) := by
  refine SpI.of okX8_none rfl [some (.ref 0), some (.int t), some (.int d), some (.int l), none] ⟨rfl, rfl, rfl, rfl, trivial⟩ (leb rfl) (leb rfl) (fun X hX hE hnm => ?_)
  refine w_aload_n (i := 0) hX dX8_none_0 rfl rfl ?_
  refine w_iload_n (i := 1) hX dX8_none_1 rfl rfl ?_
  refine w_callVQ (As := [.int t]) (rest := []) (ci := 8) (o := 0) (k2 := 0) (n2 := 0) hX dX8_none_2 (s_clockOf Γ μ b c9 B hx hR hW t) okX8_clockOf (ltb rfl) hx.1 ml_RX8_76 imX8_clockOf seX8_clockOf rfl (leb rfl) (leb rfl) rfl rfl (fun r9 μ9 hq9 => ?_)
  rcases hq9 with ⟨hr9, hT, hTb, hm9⟩ | ⟨hr9, hT, hm9⟩
  · rw [hr9, hm9]; clear hr9 hm9 r9 μ9
    have hTc : tN t < 3 := by have := hW.1; omega
    refine w_astore (l2 := [some (.ref 0), some (.int t), some (.int d), some (.int l), some (.ref (b + 10 + 2 * tN t))]) hX dX8_none_5 (ltb rfl) rfl rfl ?_
    refine w_aload hX dX8_none_7 rfl ?_
    refine w_ifnull hX dX8_none_9 ?_
    refine w_iload_n (i := 2) hX dX8_none_12 rfl rfl ?_
    refine w_iconst hX dX8_none_13 kI_0 ?_
    refine w_sipush hX dX8_none_14 kS_3649 ?_
    refine w_callSI (As := [.int d, .int (nI 0), .int (nI 3649)]) (rest := []) (k2 := 0) (n2 := 0) hX dX8_none_17 (s_within Γ μ d (nI 0) (nI 3649)) okX8_within ml_RX8_81 stX8_within rfl (leb rfl) (leb rfl) rfl rfl (fun r9 μ9 hq9 => ?_)
    obtain ⟨hr9, hm9⟩ := hq9; rw [hr9, hm9]; clear hr9 hm9 r9 μ9
    refine wb_eq (tgt := 34) hX dX8_none_20 (by decide) (fun c1 => ?_) (fun c1 => ?_)
    · refine w_iconst hX dX8_none_34 kI_m1 ?_
      exact w_iret hX hE dX8_none_35 (Or.inl rfl) rfl ⟨by simp [A_none, *], rfl⟩
    · refine w_iload_n (i := 3) hX dX8_none_23 rfl rfl ?_
      refine w_iconst hX dX8_none_24 kI_0 ?_
      refine w_sipush hX dX8_none_25 kS_9999 ?_
      refine w_callSI (As := [.int l, .int (nI 0), .int (nI 9999)]) (rest := []) (k2 := 0) (n2 := 0) hX dX8_none_28 (s_within Γ μ l (nI 0) (nI 9999)) okX8_within ml_RX8_81 stX8_within rfl (leb rfl) (leb rfl) rfl rfl (fun r9 μ9 hq9 => ?_)
      obtain ⟨hr9, hm9⟩ := hq9; rw [hr9, hm9]; clear hr9 hm9 r9 μ9
      refine wb_ne (tgt := 36) hX dX8_none_31 (by decide) (fun c2 => ?_) (fun c2 => ?_)
      · refine w_iload_n (i := 3) hX dX8_none_36 rfl rfl ?_
        refine w_top (y := nI (tN l)) (inR_nI (by omega) c2).1 ?_
        refine wn_if_ne (tgt := 44) hX dX8_none_37 (by decide) (by have := (inR_nI (by omega) c2).2; omega) (fun c3 => ?_) (fun c3 => ?_)
        · refine w_iload_n (i := 3) hX dX8_none_44 rfl rfl ?_
          refine w_top (y := nI (tN l)) (inR_nI (by omega) c2).1 ?_
          refine w_bipush hX dX8_none_45 kB_60 ?_
          refine wn_icmp_gt (tgt := 64) hX dX8_none_47 (by decide) (by have := (inR_nI (by omega) c2).2; omega) (by have := (inR_nI (by omega) c2).2; omega) (fun c4 => ?_) (fun c4 => ?_)
          · refine w_iconst hX dX8_none_64 kI_0 ?_
            exact w_iret hX hE dX8_none_65 (Or.inl rfl) rfl ⟨by unfold A_none; rw [if_pos (by simp [hT, c1, c2])]; unfold noneN; rw [if_neg c3, if_neg (by omega)], rfl⟩
          · refine w_aload hX dX8_none_50 rfl ?_
            refine w_iload_n (i := 2) hX dX8_none_52 rfl rfl ?_
            refine w_top (y := nI (tN d)) (inR_nI (by omega) c1).1 ?_
            refine w_callVI (As := [.int (nI (tN d))]) (rest := []) (ci := 1) (o := b + 10 + 2 * tN t) (k2 := 0) (n2 := 0) hX dX8_none_53 (s_strokeOn Γ μ (mS B (tN t)) (nB B (tN t)) _ (tN d) (hR.2.2.1 (tN t) (by omega)) (by have := (inR_nI (by omega) c1).2; omega)) okX1_strokeOn (ltb rfl) (bk_c hR.1 (by omega)).2.1 ml_RX8_208 imX1_strokeOn seX1_strokeOn rfl (leb rfl) (leb rfl) rfl rfl (fun r9 μ9 hq9 => ?_)
            obtain ⟨hr9, hm9⟩ := hq9; rw [hr9, hm9]; clear hr9 hm9 r9 μ9
            refine w_iconst hX dX8_none_56 kI_m1 ?_
            refine wc_icmp_eq (tgt := 64) hX dX8_none_57 (by decide) (fun c5 => ?_) (fun c5 => ?_)
            · refine w_iconst hX dX8_none_64 kI_0 ?_
              exact w_iret hX hE dX8_none_65 (Or.inl rfl) rfl ⟨by unfold A_none; rw [if_pos (by simp [hT, c1, c2])]; unfold noneN; rw [if_neg c3]; have e9 := oI_m1 (o := fnd (mS B (tN t)) (tN d) (nB B (tN t)) 0) (fun v hv => fnd_day hW (by omega) hv); rw [if_neg (fun e => e.2 (e9.mp c5))], rfl⟩
            · refine w_iload_n (i := 3) hX dX8_none_60 rfl rfl ?_
              refine w_top (y := nI (tN l)) (inR_nI (by omega) c2).1 ?_
              refine w_goto (tgt := 65) hX dX8_none_61 (by decide) ?_
              exact w_iret hX hE dX8_none_65 (Or.inl rfl) rfl ⟨by unfold A_none; rw [if_pos (by simp [hT, c1, c2])]; unfold noneN; rw [if_neg c3]; have e9 := oI_m1 (o := fnd (mS B (tN t)) (tN d) (nB B (tN t)) 0) (fun v hv => fnd_day hW (by omega) hv); rw [if_pos ⟨c4, fun e => c5 (e9.mpr e)⟩], rfl⟩
        · refine w_sipush hX dX8_none_40 kS_1440 ?_
          exact w_iret hX hE dX8_none_43 (Or.inl rfl) rfl ⟨by unfold A_none; rw [if_pos (by simp [hT, c1, c2])]; unfold noneN; rw [if_pos c3], rfl⟩
      · refine w_iconst hX dX8_none_34 kI_m1 ?_
        exact w_iret hX hE dX8_none_35 (Or.inl rfl) rfl ⟨by simp [A_none, *], rfl⟩
  · rw [hr9, hm9]; clear hr9 hm9 r9 μ9
    refine w_astoreN (l2 := [some (.ref 0), some (.int t), some (.int d), some (.int l), some (.null)]) hX dX8_none_5 (ltb rfl) rfl rfl ?_
    refine w_aloadN hX dX8_none_7 rfl ?_
    refine w_ifnullN (tgt := 34) hX dX8_none_9 (by decide) ?_
    refine w_iconst hX dX8_none_34 kI_m1 ?_
    exact w_iret hX hE dX8_none_35 (Or.inl rfl) rfl ⟨by simp [A_none, *], rfl⟩
