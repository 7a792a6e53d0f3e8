/-- a number that counts things: 0 up to n - 1 -/
def inC (v : Int32) (n : Nat) : Bool := decide (nI 0 ≤ v) && decide (v < nI n)
theorem inC_inR {v : Int32} {n : Nat} (h : n < 2 ^ 30) : inR v (nI 0) (nI n - nI 1) = inC v n := by
  have e : (decide (v ≤ nI n - nI 1)) = decide (v < nI n) := by
    congr 1
    rw [Int32.le_iff_toInt_le, Int32.lt_iff_toInt_lt, pk_sub_toInt h (by omega), nI_toInt (by omega)]
    apply propext
    omega
  unfold inR inC
  rw [e]
theorem inC_nI {v : Int32} {n : Nat} (h : n < 2 ^ 31) (hv : inC v n = true) : v = nI (tN v) ∧ tN v < n := by
  simp only [inC, Bool.and_eq_true, decide_eq_true_eq] at hv
  have h0 : ¬ v < 0 := Int32.not_lt.mpr hv.1
  obtain ⟨j, hj, rfl⟩ := nI_of h0
  have e : tN (nI j) = j := nI_clamp hj
  rw [e]
  exact ⟨rfl, (nI_ltI hj h).mp hv.2⟩
def A_paper (B : Nat → Nat) (p w : Int32) : Int32 := if (inC p (B 352) && inR w (nI 0) (nI 3)) = true then nI (B (353 + 4 * tN p + tN w)) else -1
def A_work (B : Nat → Nat) (p w : Int32) : Int32 := if (inC p (B 85) && inR w (nI 0) (nI 4)) = true then nI (B (86 + 5 * tN p + tN w)) else -1
def wsh (B : Nat → Nat) (p s : Nat) : Nat := B (127 + 25 * p + s)
def A_wish (B : Nat → Nat) (p s : Int32) : Int32 := if (inC p (B 126) && inR s (nI 1) (nI 24)) = true then nI (wsh B (tN p) (tN s)) else -1
/-- persons to whom s is worth more than o, of the first k -/
def frn (B : Nat → Nat) (s o : Nat) : Nat → Nat
  | 0 => 0
  | k + 1 => frn B s o k + if wsh B k o < wsh B k s then 1 else 0
theorem frn_le {B : Nat → Nat} {s o : Nat} : ∀ k, frn B s o k ≤ k := by
  intro k
  induction k with
  | zero => simp [frn]
  | succ k ih => simp only [frn]; split <;> omega
def A_prefers (B : Nat → Nat) (s o : Int32) : Int32 := if (inR s (nI 1) (nI 24) && inR o (nI 1) (nI 24)) = true then nI (frn B (tN s) (tN o) (B 126)) else -1
theorem wsh_le {B : Nat → Nat} (h : WB B) {p s : Nat} (hp : p < 9) (hs : s ≤ 24) : wsh B p s ≤ 99 := h.2.2.2.1.2 p s hp hs
set_option maxHeartbeats 1000000 in
theorem s_x_paper (Γ : Gm) (μ : Mem) (b c9 : Nat) (B : Nat → Nat) (hx : isX μ b c9) (hR : Rb μ b B) (hW : WB B) (p w : Int32) : SpI Γ MX8_paper 1 0 0 [.ref 0, .int p, .int w] μ (fun r μ2 => r = A_paper B p w ∧ μ2 = μ) := by
  refine SpI.of okX8_paper rfl [some (.ref 0), some (.int p), some (.int w)] ⟨rfl, rfl, rfl, trivial⟩ (leb rfl) (leb rfl) (fun X hX hE hnm => ?_)
  refine w_iload_n (i := 1) hX dX8_paper_0 rfl rfl ?_
  refine w_iconst hX dX8_paper_1 kI_0 ?_
  refine w_aload_n (i := 0) hX dX8_paper_2 rfl rfl ?_
  refine w_getR (q := b) hX dX8_paper_3 fo_RX8_54 rfl hx.1 hx.2.2.2.2.2.2.2.1 ?_
  refine w_getI hX dX8_paper_6 fo_RX8_111 rfl (bk_s hR.1) ?_
  refine w_top (y := nI (B 352)) hR.2.2.2.2.2.2.2.2.2.1 ?_
  refine w_iconst hX dX8_paper_9 kI_1 ?_
  refine w_isub hX dX8_paper_10 ?_
  refine w_callSI (As := [.int p, .int (nI 0), .int ((nI (B 352)) - (nI 1))]) (rest := []) (k2 := 0) (n2 := 0) hX dX8_paper_11 (s_within Γ μ p (nI 0) (nI (B 352) - nI 1)) okX8_within ml_RX8_81 stX8_within rfl (leb rfl) (leb rfl) rfl rfl (fun r9 μ9 hq9 => ?_)
  obtain ⟨hr9, hm9⟩ := hq9; rw [hr9, hm9, inC_inR (by have := hW.2.2.2.2.1.1; omega)]; clear hr9 hm9 r9 μ9
  refine wb_eq (tgt := 26) hX dX8_paper_14 (by decide) (fun hP => ?_) (fun hP => ?_)
  · refine w_iconst hX dX8_paper_26 kI_m1 ?_
    exact w_iret hX hE dX8_paper_27 (Or.inl rfl) rfl ⟨by simp [A_paper, *], rfl⟩
  · refine w_iload_n (i := 2) hX dX8_paper_17 rfl rfl ?_
    refine w_iconst hX dX8_paper_18 kI_0 ?_
    refine w_iconst hX dX8_paper_19 kI_3 ?_
    refine w_callSI (As := [.int w, .int (nI 0), .int (nI 3)]) (rest := []) (k2 := 0) (n2 := 0) hX dX8_paper_20 (s_within Γ μ w (nI 0) (nI 3)) okX8_within ml_RX8_81 stX8_within rfl (leb rfl) (leb rfl) rfl rfl (fun r9 μ9 hq9 => ?_)
    obtain ⟨hr9, hm9⟩ := hq9; rw [hr9, hm9]; clear hr9 hm9 r9 μ9
    refine wb_ne (tgt := 28) hX dX8_paper_23 (by decide) (fun hV => ?_) (fun hV => ?_)
    · have hl9 := hW.2.2.2.2.1.1
      have h9b := (inC_nI (by omega) hP).2; have h9w := (inR_nI (by omega) hV).2
      refine w_aload_n (i := 0) hX dX8_paper_28 rfl rfl ?_
      refine w_getR (q := b) hX dX8_paper_29 fo_RX8_54 rfl hx.1 hx.2.2.2.2.2.2.2.1 ?_
      refine w_getR (q := b + 5) hX dX8_paper_32 fo_RX8_114 rfl (bk_s hR.1) (bk_r4 hR.1) ?_
      refine w_iload_n (i := 1) hX dX8_paper_35 rfl rfl ?_
      refine w_top (y := nI (tN p)) (inC_nI (by have := hW.2.2.2.2.1.1; omega) hP).1 ?_
      refine w_iconst hX dX8_paper_36 kI_4 ?_
      refine w_imulN hX dX8_paper_37 ?_
      refine w_iload_n (i := 2) hX dX8_paper_38 rfl rfl ?_
      refine w_top (y := nI (tN w)) (inR_nI (by omega) hV).1 ?_
      refine w_iaddN hX dX8_paper_39 ?_
      refine w_ialdN hX dX8_paper_40 (bk_a5 hR.1) (by omega) (by omega) ?_
      refine w_top (y := nI (B (353 + 4 * tN p + tN w))) (by rw [hR.2.2.2.2.2.2.2.2.2.2.1 _ (by omega)]; congr 2; omega) ?_
      exact w_iret hX hE dX8_paper_41 (Or.inl rfl) rfl ⟨by simp [A_paper, *], rfl⟩
    · refine w_iconst hX dX8_paper_26 kI_m1 ?_
      exact w_iret hX hE dX8_paper_27 (Or.inl rfl) rfl ⟨by simp [A_paper, *], rfl⟩
set_option maxHeartbeats 1000000 in
theorem s_x_work (Γ : Gm) (μ : Mem) (b c9 : Nat) (B : Nat → Nat) (hx : isX μ b c9) (hR : Rb μ b B) (hW : WB B) (p w : Int32) : SpI Γ MX8_work 1 0 0 [.ref 0, .int p, .int w] μ (fun r μ2 => r = A_work B p w ∧ μ2 = μ) := by
  refine SpI.of okX8_work rfl [some (.ref 0), some (.int p), some (.int w)] ⟨rfl, rfl, rfl, trivial⟩ (leb rfl) (leb rfl) (fun X hX hE hnm => ?_)
  refine w_iload_n (i := 1) hX dX8_work_0 rfl rfl ?_
  refine w_iconst hX dX8_work_1 kI_0 ?_
  refine w_aload_n (i := 0) hX dX8_work_2 rfl rfl ?_
  refine w_getR (q := b) hX dX8_work_3 fo_RX8_54 rfl hx.1 hx.2.2.2.2.2.2.2.1 ?_
  refine w_getI hX dX8_work_6 fo_RX8_141 rfl (bk_s hR.1) ?_
  refine w_top (y := nI (B 85)) hR.2.2.2.2.2.1 ?_
  refine w_iconst hX dX8_work_9 kI_1 ?_
  refine w_isub hX dX8_work_10 ?_
  refine w_callSI (As := [.int p, .int (nI 0), .int ((nI (B 85)) - (nI 1))]) (rest := []) (k2 := 0) (n2 := 0) hX dX8_work_11 (s_within Γ μ p (nI 0) (nI (B 85) - nI 1)) okX8_within ml_RX8_81 stX8_within rfl (leb rfl) (leb rfl) rfl rfl (fun r9 μ9 hq9 => ?_)
  obtain ⟨hr9, hm9⟩ := hq9; rw [hr9, hm9, inC_inR (by have := hW.2.2.1.1; omega)]; clear hr9 hm9 r9 μ9
  refine wb_eq (tgt := 26) hX dX8_work_14 (by decide) (fun hP => ?_) (fun hP => ?_)
  · refine w_iconst hX dX8_work_26 kI_m1 ?_
    exact w_iret hX hE dX8_work_27 (Or.inl rfl) rfl ⟨by simp [A_work, *], rfl⟩
  · refine w_iload_n (i := 2) hX dX8_work_17 rfl rfl ?_
    refine w_iconst hX dX8_work_18 kI_0 ?_
    refine w_iconst hX dX8_work_19 kI_4 ?_
    refine w_callSI (As := [.int w, .int (nI 0), .int (nI 4)]) (rest := []) (k2 := 0) (n2 := 0) hX dX8_work_20 (s_within Γ μ w (nI 0) (nI 4)) okX8_within ml_RX8_81 stX8_within rfl (leb rfl) (leb rfl) rfl rfl (fun r9 μ9 hq9 => ?_)
    obtain ⟨hr9, hm9⟩ := hq9; rw [hr9, hm9]; clear hr9 hm9 r9 μ9
    refine wb_ne (tgt := 28) hX dX8_work_23 (by decide) (fun hV => ?_) (fun hV => ?_)
    · have hl9 := hW.2.2.1.1
      have h9b := (inC_nI (by omega) hP).2; have h9w := (inR_nI (by omega) hV).2
      refine w_aload_n (i := 0) hX dX8_work_28 rfl rfl ?_
      refine w_getR (q := b) hX dX8_work_29 fo_RX8_54 rfl hx.1 hx.2.2.2.2.2.2.2.1 ?_
      refine w_getR (q := b + 3) hX dX8_work_32 fo_RX8_144 rfl (bk_s hR.1) (bk_r2 hR.1) ?_
      refine w_iload_n (i := 1) hX dX8_work_35 rfl rfl ?_
      refine w_top (y := nI (tN p)) (inC_nI (by have := hW.2.2.1.1; omega) hP).1 ?_
      refine w_iconst hX dX8_work_36 kI_5 ?_
      refine w_imulN hX dX8_work_37 ?_
      refine w_iload_n (i := 2) hX dX8_work_38 rfl rfl ?_
      refine w_top (y := nI (tN w)) (inR_nI (by omega) hV).1 ?_
      refine w_iaddN hX dX8_work_39 ?_
      refine w_ialdN hX dX8_work_40 (bk_a3 hR.1) (by omega) (by omega) ?_
      refine w_top (y := nI (B (86 + 5 * tN p + tN w))) (by rw [hR.2.2.2.2.2.2.1 _ (by omega)]; congr 2; omega) ?_
      exact w_iret hX hE dX8_work_41 (Or.inl rfl) rfl ⟨by simp [A_work, *], rfl⟩
    · refine w_iconst hX dX8_work_26 kI_m1 ?_
      exact w_iret hX hE dX8_work_27 (Or.inl rfl) rfl ⟨by simp [A_work, *], rfl⟩
set_option maxHeartbeats 1000000 in
theorem s_b_worthOf (Γ : Gm) (μ : Mem) (b : Nat) (B : Nat → Nat) (hR : Rb μ b B) (q s : Nat) (hq : q < 9) (hs : 1 ≤ s) (hs2 : s ≤ 24) : SpI Γ MX0_worthOf 0 0 0 [.ref b, .int (nI q), .int (nI s)] μ (fun r μ2 => r = nI (wsh B q s) ∧ μ2 = μ) := by
  refine SpI.of okX0_worthOf rfl [some (.ref b), some (.int (nI q)), some (.int (nI s))] ⟨rfl, rfl, rfl, trivial⟩ (leb rfl) (leb rfl) (fun X hX hE hnm => ?_)
  refine w_aload_n (i := 0) hX dX0_worthOf_0 rfl rfl ?_
  refine w_getR (q := b + 4) hX dX0_worthOf_1 fo_RX0_24 rfl (bk_s hR.1) (bk_r3 hR.1) ?_
  refine w_iload_n (i := 1) hX dX0_worthOf_4 rfl rfl ?_
  refine w_bipush hX dX0_worthOf_5 kB_24 ?_
  refine w_imulN hX dX0_worthOf_7 ?_
  refine w_iload_n (i := 2) hX dX0_worthOf_8 rfl rfl ?_
  refine w_iaddN hX dX0_worthOf_9 ?_
  refine w_iconst hX dX0_worthOf_10 kI_1 ?_
  refine w_isubN hX dX0_worthOf_11 (by omega) ?_
  refine w_ialdN hX dX0_worthOf_12 (bk_a4 hR.1) (by omega) (by omega) ?_
  refine w_top (y := nI (wsh B q s)) (by rw [show q * 24 + s - 1 = 24 * q + s - 1 by omega]; exact hR.2.2.2.2.2.2.2.2.1 q s hq hs hs2) ?_
  exact w_iret hX hE dX0_worthOf_13 (Or.inl rfl) rfl ⟨rfl, rfl⟩
set_option maxHeartbeats 1000000 in
theorem s_b_friendsOf (Γ : Gm) (μ : Mem) (b : Nat) (B : Nat → Nat) (hR : Rb μ b B) (hW : WB B) (s o : Nat) (hs : 1 ≤ s) (hs2 : s ≤ 24) (ho : 1 ≤ o) (ho2 : o ≤ 24) : SpI Γ MX0_friendsOf 1 0 0 [.ref b, .int (nI s), .int (nI o)] μ (fun r μ2 => r = nI (frn B s o (B 126)) ∧ μ2 = μ) := by
  refine SpI.of okX0_friendsOf rfl [some (.ref b), some (.int (nI s)), some (.int (nI o)), none, none] ⟨rfl, rfl, rfl, trivial⟩ (leb rfl) (leb rfl) (fun X hX hE hnm => ?_)
  have hn := hW.2.2.2.1.1
  have loop : ∀ k, k ≤ B 126 → WP Γ X 0 0 5 [some (.ref b), some (.int (nI s)), some (.int (nI o)), some (.int (nI (frn B s o k))), some (.int (nI k))] [] μ := by
    refine loopU (B 126) ?_
    intro k hk ih
    have hw1 : k < 9 → wsh B k s ≤ 99 := fun h => wsh_le hW h hs2
    have hw2 : k < 9 → wsh B k o ≤ 99 := fun h => wsh_le hW h ho2
    refine w_iload hX dX0_friendsOf_5 rfl ?_
    refine w_aload_n (i := 0) hX dX0_friendsOf_7 rfl rfl ?_
    refine w_getI hX dX0_friendsOf_8 fo_RX0_63 rfl (bk_s hR.1) ?_
    refine w_top (y := nI (B 126)) hR.2.2.2.2.2.2.2.1 ?_
    refine wn_icmp_ge (tgt := 40) hX dX0_friendsOf_11 (by decide) (by have := hw1; have := hw2; omega) (by have := hw1; have := hw2; omega) (fun c1 => ?_) (fun c1 => ?_)
    · refine w_iload_n (i := 3) hX dX0_friendsOf_40 rfl rfl ?_
      exact w_iret hX hE dX0_friendsOf_41 (Or.inl rfl) rfl ⟨by rw [show k = B 126 by omega], rfl⟩
    · refine w_aload_n (i := 0) hX dX0_friendsOf_14 rfl rfl ?_
      refine w_iload hX dX0_friendsOf_15 rfl ?_
      refine w_iload_n (i := 1) hX dX0_friendsOf_17 rfl rfl ?_
      refine w_callVI (As := [.int (nI k), .int (nI s)]) (rest := []) (ci := 0) (o := b) (k2 := 0) (n2 := 0) hX dX0_friendsOf_18 (s_b_worthOf Γ μ b B hR k s (by omega) (by omega) (by omega)) okX0_worthOf (ltb rfl) (bk_s hR.1) ml_RX0_85 imX0_worthOf seX0_worthOf rfl (leb rfl) (leb rfl) rfl rfl (fun r9 μ9 hq9 => ?_)
      obtain ⟨hr9, hm9⟩ := hq9; rw [hr9, hm9]; clear hr9 hm9 r9 μ9
      refine w_aload_n (i := 0) hX dX0_friendsOf_21 rfl rfl ?_
      refine w_iload hX dX0_friendsOf_22 rfl ?_
      refine w_iload_n (i := 2) hX dX0_friendsOf_24 rfl rfl ?_
      refine w_callVI (As := [.int (nI k), .int (nI o)]) (rest := [.int (nI (wsh B k s))]) (ci := 0) (o := b) (k2 := 0) (n2 := 0) hX dX0_friendsOf_25 (s_b_worthOf Γ μ b B hR k o (by omega) (by omega) (by omega)) okX0_worthOf (ltb rfl) (bk_s hR.1) ml_RX0_85 imX0_worthOf seX0_worthOf rfl (leb rfl) (leb rfl) rfl rfl (fun r9 μ9 hq9 => ?_)
      obtain ⟨hr9, hm9⟩ := hq9; rw [hr9, hm9]; clear hr9 hm9 r9 μ9
      refine wn_icmp_le (tgt := 34) hX dX0_friendsOf_28 (by decide) (by have := hw1; have := hw2; omega) (by have := hw1; have := hw2; omega) (fun c2 => ?_) (fun c2 => ?_)
      · refine w_iincN (w := 1) (l2 := [some (.ref b), some (.int (nI s)), some (.int (nI o)), some (.int (nI (frn B s o k))), some (.int (nI (k + 1)))]) hX dX0_friendsOf_34 rfl kI_1 rfl rfl ?_
        refine w_goto (tgt := 5) hX dX0_friendsOf_37 (by decide) ?_
        have e9 : frn B s o k = frn B s o (k + 1) := by simp only [frn]; rw [if_neg (by omega), Nat.add_zero]
        rw [e9]
        exact ih (by omega)
      · refine w_iincN (w := 1) (l2 := [some (.ref b), some (.int (nI s)), some (.int (nI o)), some (.int (nI (frn B s o k + 1))), some (.int (nI k))]) hX dX0_friendsOf_31 rfl kI_1 rfl rfl ?_
        refine w_iincN (w := 1) (l2 := [some (.ref b), some (.int (nI s)), some (.int (nI o)), some (.int (nI (frn B s o k + 1))), some (.int (nI (k + 1)))]) hX dX0_friendsOf_34 rfl kI_1 rfl rfl ?_
        refine w_goto (tgt := 5) hX dX0_friendsOf_37 (by decide) ?_
        have e9 : frn B s o k + 1 = frn B s o (k + 1) := by simp only [frn]; rw [if_pos c2]
        rw [e9]
        exact ih (by omega)
  refine w_iconst hX dX0_friendsOf_0 kI_0 ?_
  refine w_istore_n (i := 3) (l2 := [some (.ref b), some (.int (nI s)), some (.int (nI o)), some (.int (nI 0)), none]) hX dX0_friendsOf_1 rfl (ltb rfl) rfl rfl ?_
  refine w_iconst hX dX0_friendsOf_2 kI_0 ?_
  refine w_istore (l2 := [some (.ref b), some (.int (nI s)), some (.int (nI o)), some (.int (nI 0)), some (.int (nI 0))]) hX dX0_friendsOf_3 (ltb rfl) rfl rfl ?_
  exact loop 0 (Nat.zero_le _)
set_option maxHeartbeats 1000000 in
theorem s_x_wish (Γ : Gm) (μ : Mem) (b c9 : Nat) (B : Nat → Nat) (hx : isX μ b c9) (hR : Rb μ b B) (hW : WB B) (p s : Int32) : SpI Γ MX8_wish 1 0 0 [.ref 0, .int p, .int s] μ (fun r μ2 => r = A_wish B p s ∧ μ2 = μ) := by
  refine SpI.of okX8_wish rfl [some (.ref 0), some (.int p), some (.int s)] ⟨rfl, rfl, rfl, trivial⟩ (leb rfl) (leb rfl) (fun X hX hE hnm => ?_)
  refine w_iload_n (i := 1) hX dX8_wish_0 rfl rfl ?_
  refine w_iconst hX dX8_wish_1 kI_0 ?_
  refine w_aload_n (i := 0) hX dX8_wish_2 rfl rfl ?_
  refine w_getR (q := b) hX dX8_wish_3 fo_RX8_54 rfl hx.1 hx.2.2.2.2.2.2.2.1 ?_
  refine w_getI hX dX8_wish_6 fo_RX8_166 rfl (bk_s hR.1) ?_
  refine w_top (y := nI (B 126)) hR.2.2.2.2.2.2.2.1 ?_
  refine w_iconst hX dX8_wish_9 kI_1 ?_
  refine w_isub hX dX8_wish_10 ?_
  refine w_callSI (As := [.int p, .int (nI 0), .int ((nI (B 126)) - (nI 1))]) (rest := []) (k2 := 0) (n2 := 0) hX dX8_wish_11 (s_within Γ μ p (nI 0) (nI (B 126) - nI 1)) okX8_within ml_RX8_81 stX8_within rfl (leb rfl) (leb rfl) rfl rfl (fun r9 μ9 hq9 => ?_)
  obtain ⟨hr9, hm9⟩ := hq9; rw [hr9, hm9, inC_inR (by have := hW.2.2.2.1.1; omega)]; clear hr9 hm9 r9 μ9
  refine wb_eq (tgt := 27) hX dX8_wish_14 (by decide) (fun hP => ?_) (fun hP => ?_)
  · refine w_iconst hX dX8_wish_27 kI_m1 ?_
    exact w_iret hX hE dX8_wish_28 (Or.inl rfl) rfl ⟨by simp [A_wish, *], rfl⟩
  · refine w_iload_n (i := 2) hX dX8_wish_17 rfl rfl ?_
    refine w_iconst hX dX8_wish_18 kI_1 ?_
    refine w_bipush hX dX8_wish_19 kB_24 ?_
    refine w_callSI (As := [.int s, .int (nI 1), .int (nI 24)]) (rest := []) (k2 := 0) (n2 := 0) hX dX8_wish_21 (s_within Γ μ s (nI 1) (nI 24)) okX8_within ml_RX8_81 stX8_within rfl (leb rfl) (leb rfl) rfl rfl (fun r9 μ9 hq9 => ?_)
    obtain ⟨hr9, hm9⟩ := hq9; rw [hr9, hm9]; clear hr9 hm9 r9 μ9
    refine wb_ne (tgt := 29) hX dX8_wish_24 (by decide) (fun hV => ?_) (fun hV => ?_)
    · have hl9 := hW.2.2.2.1.1
      have h9b := (inC_nI (by omega) hP).2; have h9w := (inR_lo (by omega) (by omega) hV).2
      refine w_aload_n (i := 0) hX dX8_wish_29 rfl rfl ?_
      refine w_getR (q := b) hX dX8_wish_30 fo_RX8_54 rfl hx.1 hx.2.2.2.2.2.2.2.1 ?_
      refine w_iload_n (i := 1) hX dX8_wish_33 rfl rfl ?_
      refine w_top (y := nI (tN p)) (inC_nI (by have := hW.2.2.2.1.1; omega) hP).1 ?_
      refine w_iload_n (i := 2) hX dX8_wish_34 rfl rfl ?_
      refine w_top (y := nI (tN s)) (inR_lo (by omega) (by omega) hV).1 ?_
      refine w_callVI (As := [.int (nI (tN p)), .int (nI (tN s))]) (rest := []) (ci := 0) (o := b) (k2 := 0) (n2 := 0) hX dX8_wish_35 (s_b_worthOf Γ μ b B hR (tN p) (tN s) (by omega) (by omega) (by omega)) okX0_worthOf (ltb rfl) (bk_s hR.1) ml_RX8_169 imX0_worthOf seX0_worthOf rfl (leb rfl) (leb rfl) rfl rfl (fun r9 μ9 hq9 => ?_)
      obtain ⟨hr9, hm9⟩ := hq9; rw [hr9, hm9]; clear hr9 hm9 r9 μ9
      exact w_iret hX hE dX8_wish_38 (Or.inl rfl) rfl ⟨by simp [A_wish, *], rfl⟩
    · refine w_iconst hX dX8_wish_27 kI_m1 ?_
      exact w_iret hX hE dX8_wish_28 (Or.inl rfl) rfl ⟨by simp [A_wish, *], rfl⟩
set_option maxHeartbeats 1000000 in
theorem s_x_prefers (Γ : Gm) (μ : Mem) (b c9 : Nat) (B : Nat → Nat) (hx : isX μ b c9) (hR : Rb μ b B) (hW : WB B) (s o : Int32) : SpI Γ MX8_prefers 2 0 0 [.ref 0, .int s, .int o] μ (fun r μ2 => r = A_prefers B s o ∧ μ2 = μ) := by
  refine SpI.of okX8_prefers rfl [some (.ref 0), some (.int s), some (.int o)] ⟨rfl, rfl, rfl, trivial⟩ (leb rfl) (leb rfl) (fun X hX hE hnm => ?_)
  refine w_iload_n (i := 1) hX dX8_prefers_0 rfl rfl ?_
  refine w_iconst hX dX8_prefers_1 kI_1 ?_
  refine w_bipush hX dX8_prefers_2 kB_24 ?_
  refine w_callSI (As := [.int s, .int (nI 1), .int (nI 24)]) (rest := []) (k2 := 0) (n2 := 0) hX dX8_prefers_4 (s_within Γ μ s (nI 1) (nI 24)) okX8_within ml_RX8_81 stX8_within rfl (leb rfl) (leb rfl) rfl rfl (fun r9 μ9 hq9 => ?_)
  obtain ⟨hr9, hm9⟩ := hq9; rw [hr9, hm9]; clear hr9 hm9 r9 μ9
  refine wb_eq (tgt := 20) hX dX8_prefers_7 (by decide) (fun hP => ?_) (fun hP => ?_)
  · refine w_iconst hX dX8_prefers_20 kI_m1 ?_
    exact w_iret hX hE dX8_prefers_21 (Or.inl rfl) rfl ⟨by simp [A_prefers, *], rfl⟩
  · refine w_iload_n (i := 2) hX dX8_prefers_10 rfl rfl ?_
    refine w_iconst hX dX8_prefers_11 kI_1 ?_
    refine w_bipush hX dX8_prefers_12 kB_24 ?_
    refine w_callSI (As := [.int o, .int (nI 1), .int (nI 24)]) (rest := []) (k2 := 0) (n2 := 0) hX dX8_prefers_14 (s_within Γ μ o (nI 1) (nI 24)) okX8_within ml_RX8_81 stX8_within rfl (leb rfl) (leb rfl) rfl rfl (fun r9 μ9 hq9 => ?_)
    obtain ⟨hr9, hm9⟩ := hq9; rw [hr9, hm9]; clear hr9 hm9 r9 μ9
    refine wb_ne (tgt := 22) hX dX8_prefers_17 (by decide) (fun hV => ?_) (fun hV => ?_)
    · have h9b := (inR_lo (by omega) (by omega) hP).2; have h9w := (inR_lo (by omega) (by omega) hV).2
      refine w_aload_n (i := 0) hX dX8_prefers_22 rfl rfl ?_
      refine w_getR (q := b) hX dX8_prefers_23 fo_RX8_54 rfl hx.1 hx.2.2.2.2.2.2.2.1 ?_
      refine w_iload_n (i := 1) hX dX8_prefers_26 rfl rfl ?_
      refine w_top (y := nI (tN s)) (inR_lo (by omega) (by omega) hP).1 ?_
      refine w_iload_n (i := 2) hX dX8_prefers_27 rfl rfl ?_
      refine w_top (y := nI (tN o)) (inR_lo (by omega) (by omega) hV).1 ?_
      refine w_callVI (As := [.int (nI (tN s)), .int (nI (tN o))]) (rest := []) (ci := 0) (o := b) (k2 := 0) (n2 := 0) hX dX8_prefers_28 (s_b_friendsOf Γ μ b B hR hW (tN s) (tN o) (by omega) (by omega) (by omega) (by omega)) okX0_friendsOf (ltb rfl) (bk_s hR.1) ml_RX8_176 imX0_friendsOf seX0_friendsOf rfl (leb rfl) (leb rfl) rfl rfl (fun r9 μ9 hq9 => ?_)
      obtain ⟨hr9, hm9⟩ := hq9; rw [hr9, hm9]; clear hr9 hm9 r9 μ9
      exact w_iret hX hE dX8_prefers_31 (Or.inl rfl) rfl ⟨by simp [A_prefers, *], rfl⟩
    · refine w_iconst hX dX8_prefers_20 kI_m1 ?_
      exact w_iret hX hE dX8_prefers_21 (Or.inl rfl) rfl ⟨by simp [A_prefers, *], rfl⟩
set_option maxHeartbeats 1000000 in
theorem s_m_papers (Γ : Gm) (μ : Mem) (m : Nat) (B : Nat → Nat) (hm : HM μ m B) (hW : WB B)  : SpI Γ MX9_papers 0 0 0 [.ref m] μ (fun r μ2 => r = nI (B 352) ∧ μ2 = μ) := by
  refine SpI.of okX9_papers rfl [some (.ref m)] ⟨rfl, trivial⟩ (leb rfl) (leb rfl) (fun X hX hE hnm => ?_)
  refine w_aload_n (i := 0) hX dX9_papers_0 rfl rfl ?_
  refine w_getR (q := m + 6) hX dX9_papers_1 fo_RX9_73 rfl (mod_s hm.1.1) (mod_r10 hm.1.1) ?_
  refine w_sipush hX dX9_papers_4 kS_352 ?_
  refine w_ialdN hX dX9_papers_7 (mod_a6 hm.1.1) (by omega) (by omega) ?_
  refine w_top (y := nI (B 352)) (hm.1.2 _ (by omega)).1 ?_
  exact w_iret hX hE dX9_papers_8 (Or.inl rfl) rfl ⟨rfl, rfl⟩
set_option maxHeartbeats 1000000 in
theorem s_m_works (Γ : Gm) (μ : Mem) (m : Nat) (B : Nat → Nat) (hm : HM μ m B) (hW : WB B)  : SpI Γ MX9_works 0 0 0 [.ref m] μ (fun r μ2 => r = nI (B 85) ∧ μ2 = μ) := by
  refine SpI.of okX9_works rfl [some (.ref m)] ⟨rfl, trivial⟩ (leb rfl) (leb rfl) (fun X hX hE hnm => ?_)
  refine w_aload_n (i := 0) hX dX9_works_0 rfl rfl ?_
  refine w_getR (q := m + 6) hX dX9_works_1 fo_RX9_73 rfl (mod_s hm.1.1) (mod_r10 hm.1.1) ?_
  refine w_bipush hX dX9_works_4 kB_85 ?_
  refine w_ialdN hX dX9_works_6 (mod_a6 hm.1.1) (by omega) (by omega) ?_
  refine w_top (y := nI (B 85)) (hm.1.2 _ (by omega)).1 ?_
  exact w_iret hX hE dX9_works_7 (Or.inl rfl) rfl ⟨rfl, rfl⟩
set_option maxHeartbeats 1000000 in
theorem s_m_persons (Γ : Gm) (μ : Mem) (m : Nat) (B : Nat → Nat) (hm : HM μ m B) (hW : WB B)  : SpI Γ MX9_persons 0 0 0 [.ref m] μ (fun r μ2 => r = nI (B 126) ∧ μ2 = μ) := by
  refine SpI.of okX9_persons rfl [some (.ref m)] ⟨rfl, trivial⟩ (leb rfl) (leb rfl) (fun X hX hE hnm => ?_)
  refine w_aload_n (i := 0) hX dX9_persons_0 rfl rfl ?_
  refine w_getR (q := m + 6) hX dX9_persons_1 fo_RX9_73 rfl (mod_s hm.1.1) (mod_r10 hm.1.1) ?_
  refine w_bipush hX dX9_persons_4 kB_126 ?_
  refine w_ialdN hX dX9_persons_6 (mod_a6 hm.1.1) (by omega) (by omega) ?_
  refine w_top (y := nI (B 126)) (hm.1.2 _ (by omega)).1 ?_
  exact w_iret hX hE dX9_persons_7 (Or.inl rfl) rfl ⟨rfl, rfl⟩
set_option maxHeartbeats 1000000 in
theorem s_m_paperOf (Γ : Gm) (μ : Mem) (m : Nat) (B : Nat → Nat) (hm : HM μ m B) (hW : WB B) (q w : Nat) (hq : q < 12) (hw : w < 4) : SpI Γ MX9_paperOf 0 0 0 [.ref m, .int (nI q), .int (nI w)] μ (fun r μ2 => r = nI (B (353 + (4 * q) + w)) ∧ μ2 = μ) := by
  refine SpI.of okX9_paperOf rfl [some (.ref m), some (.int (nI q)), some (.int (nI w))] ⟨rfl, rfl, rfl, trivial⟩ (leb rfl) (leb rfl) (fun X hX hE hnm => ?_)
  refine w_aload_n (i := 0) hX dX9_paperOf_0 rfl rfl ?_
  refine w_getR (q := m + 6) hX dX9_paperOf_1 fo_RX9_73 rfl (mod_s hm.1.1) (mod_r10 hm.1.1) ?_
  refine w_sipush hX dX9_paperOf_4 kS_353 ?_
  refine w_iconst hX dX9_paperOf_7 kI_4 ?_
  refine w_iload_n (i := 1) hX dX9_paperOf_8 rfl rfl ?_
  refine w_imulN hX dX9_paperOf_9 ?_
  refine w_iaddN hX dX9_paperOf_10 ?_
  refine w_iload_n (i := 2) hX dX9_paperOf_11 rfl rfl ?_
  refine w_iaddN hX dX9_paperOf_12 ?_
  refine w_ialdN hX dX9_paperOf_13 (mod_a6 hm.1.1) (by omega) (by omega) ?_
  refine w_top (y := nI (B (353 + (4 * q) + w))) (hm.1.2 _ (by omega)).1 ?_
  exact w_iret hX hE dX9_paperOf_14 (Or.inl rfl) rfl ⟨rfl, rfl⟩
set_option maxHeartbeats 1000000 in
theorem s_m_workOf (Γ : Gm) (μ : Mem) (m : Nat) (B : Nat → Nat) (hm : HM μ m B) (hW : WB B) (q w : Nat) (hq : q < 8) (hw : w < 5) : SpI Γ MX9_workOf 0 0 0 [.ref m, .int (nI q), .int (nI w)] μ (fun r μ2 => r = nI (B (86 + (5 * q) + w)) ∧ μ2 = μ) := by
  refine SpI.of okX9_workOf rfl [some (.ref m), some (.int (nI q)), some (.int (nI w))] ⟨rfl, rfl, rfl, trivial⟩ (leb rfl) (leb rfl) (fun X hX hE hnm => ?_)
  refine w_aload_n (i := 0) hX dX9_workOf_0 rfl rfl ?_
  refine w_getR (q := m + 6) hX dX9_workOf_1 fo_RX9_73 rfl (mod_s hm.1.1) (mod_r10 hm.1.1) ?_
  refine w_bipush hX dX9_workOf_4 kB_86 ?_
  refine w_iconst hX dX9_workOf_6 kI_5 ?_
  refine w_iload_n (i := 1) hX dX9_workOf_7 rfl rfl ?_
  refine w_imulN hX dX9_workOf_8 ?_
  refine w_iaddN hX dX9_workOf_9 ?_
  refine w_iload_n (i := 2) hX dX9_workOf_10 rfl rfl ?_
  refine w_iaddN hX dX9_workOf_11 ?_
  refine w_ialdN hX dX9_workOf_12 (mod_a6 hm.1.1) (by omega) (by omega) ?_
  refine w_top (y := nI (B (86 + (5 * q) + w))) (hm.1.2 _ (by omega)).1 ?_
  exact w_iret hX hE dX9_workOf_13 (Or.inl rfl) rfl ⟨rfl, rfl⟩
set_option maxHeartbeats 1000000 in
theorem s_m_wishOf (Γ : Gm) (μ : Mem) (m : Nat) (B : Nat → Nat) (hm : HM μ m B) (hW : WB B) (q s : Nat) (hq : q < 9) (hs : s ≤ 24) : SpI Γ MX9_wishOf 0 0 0 [.ref m, .int (nI q), .int (nI s)] μ (fun r μ2 => r = nI (wsh B q s) ∧ μ2 = μ) := by
  refine SpI.of okX9_wishOf rfl [some (.ref m), some (.int (nI q)), some (.int (nI s))] ⟨rfl, rfl, rfl, trivial⟩ (leb rfl) (leb rfl) (fun X hX hE hnm => ?_)
  refine w_aload_n (i := 0) hX dX9_wishOf_0 rfl rfl ?_
  refine w_getR (q := m + 6) hX dX9_wishOf_1 fo_RX9_73 rfl (mod_s hm.1.1) (mod_r10 hm.1.1) ?_
  refine w_bipush hX dX9_wishOf_4 kB_127 ?_
  refine w_bipush hX dX9_wishOf_6 kB_25 ?_
  refine w_iload_n (i := 1) hX dX9_wishOf_8 rfl rfl ?_
  refine w_imulN hX dX9_wishOf_9 ?_
  refine w_iaddN hX dX9_wishOf_10 ?_
  refine w_iload_n (i := 2) hX dX9_wishOf_11 rfl rfl ?_
  refine w_iaddN hX dX9_wishOf_12 ?_
  refine w_ialdN hX dX9_wishOf_13 (mod_a6 hm.1.1) (by omega) (by omega) ?_
  refine w_top (y := nI (B (127 + (25 * q) + s))) (hm.1.2 _ (by omega)).1 ?_
  exact w_iret hX hE dX9_wishOf_14 (Or.inl rfl) rfl ⟨rfl, rfl⟩
set_option maxHeartbeats 1000000 in
theorem s_m_isPaper (Γ : Gm) (μ : Mem) (m : Nat) (B : Nat → Nat) (hm : HM μ m B) (hW : WB B) (p : Int32) : SpI Γ MX9_isPaper 1 0 0 [.ref m, .int p] μ (fun r μ2 => r = bI (inC p (B 352)) ∧ μ2 = μ) := by
  refine SpI.of okX9_isPaper rfl [some (.ref m), some (.int p)] ⟨rfl, rfl, trivial⟩ (leb rfl) (leb rfl) (fun X hX hE hnm => ?_)
  refine w_iload_n (i := 1) hX dX9_isPaper_0 rfl rfl ?_
  refine wc_if_lt (tgt := 16) hX dX9_isPaper_1 (by decide) (fun c1 => ?_) (fun c1 => ?_)
  · refine w_iconst hX dX9_isPaper_16 kI_0 ?_
    exact w_iret hX hE dX9_isPaper_17 (Or.inl rfl) rfl ⟨bI_2 (by simp only [inC, Bool.and_eq_true, Bool.and_eq_false_iff, decide_eq_true_eq, decide_eq_false_iff_not, Int32.le_iff_toInt_le, Int32.lt_iff_toInt_lt] at *; omega), rfl⟩
  · refine w_iload_n (i := 1) hX dX9_isPaper_4 rfl rfl ?_
    refine w_aload_n (i := 0) hX dX9_isPaper_5 rfl rfl ?_
    refine w_callVI (As := []) (rest := [.int p]) (ci := 9) (o := m) (k2 := 0) (n2 := 0) hX dX9_isPaper_6 (s_m_papers Γ μ m B hm hW) okX9_papers (ltb rfl) (mod_s hm.1.1) ml_RX9_284 imX9_papers seX9_papers rfl (leb rfl) (leb rfl) rfl rfl (fun r9 μ9 hq9 => ?_)
    obtain ⟨hr9, hm9⟩ := hq9; rw [hr9, hm9]; clear hr9 hm9 r9 μ9
    refine wc_icmp_ge (tgt := 16) hX dX9_isPaper_9 (by decide) (fun c2 => ?_) (fun c2 => ?_)
    · refine w_iconst hX dX9_isPaper_16 kI_0 ?_
      exact w_iret hX hE dX9_isPaper_17 (Or.inl rfl) rfl ⟨bI_2 (by simp only [inC, Bool.and_eq_true, Bool.and_eq_false_iff, decide_eq_true_eq, decide_eq_false_iff_not, Int32.le_iff_toInt_le, Int32.lt_iff_toInt_lt] at *; omega), rfl⟩
    · refine w_iconst hX dX9_isPaper_12 kI_1 ?_
      refine w_goto (tgt := 17) hX dX9_isPaper_13 (by decide) ?_
      exact w_iret hX hE dX9_isPaper_17 (Or.inl rfl) rfl ⟨bI_1 (by simp only [inC, Bool.and_eq_true, Bool.and_eq_false_iff, decide_eq_true_eq, decide_eq_false_iff_not, Int32.le_iff_toInt_le, Int32.lt_iff_toInt_lt] at *; omega), rfl⟩
set_option maxHeartbeats 1000000 in
theorem s_m_paper (Γ : Gm) (μ : Mem) (m : Nat) (B : Nat → Nat) (hm : HM μ m B) (hW : WB B) (p w : Int32) : SpI Γ MX9_paper 2 0 0 [.ref m, .int p, .int w] μ (fun r μ2 => r = A_paper B p w ∧ μ2 = sI μ m 0 (nI 0)) := by
  refine SpI.of okX9_paper rfl [some (.ref m), some (.int p), some (.int w)] ⟨rfl, rfl, rfl, trivial⟩ (leb rfl) (leb rfl) (fun X hX hE hnm => ?_)
  refine w_aload_n (i := 0) hX dX9_paper_0 rfl rfl ?_
  refine w_iconst hX dX9_paper_1 kI_0 ?_
  refine w_putI hX dX9_paper_2 fo_RX9_1 rfl rfl rfl rfl (mod_s hm.1.1) ?_
  refine w_aload_n (i := 0) hX dX9_paper_5 rfl rfl ?_
  refine w_iload_n (i := 1) hX dX9_paper_6 rfl rfl ?_
  refine w_callVI (As := [.int p]) (rest := []) (ci := 9) (o := m) (k2 := 0) (n2 := 0) hX dX9_paper_7 (s_m_isPaper Γ (sI μ m 0 (nI 0)) m B (hm.f (by omega)) hW p) okX9_isPaper (ltb rfl) (mod_s hm.1.1) ml_RX9_287 imX9_isPaper seX9_isPaper rfl (leb rfl) (leb rfl) rfl rfl (fun r9 μ9 hq9 => ?_)
  obtain ⟨hr9, hm9⟩ := hq9; rw [hr9, hm9]; clear hr9 hm9 r9 μ9
  refine wb_eq (tgt := 31) hX dX9_paper_10 (by decide) (fun hP => ?_) (fun hP => ?_)
  · refine w_iconst hX dX9_paper_31 kI_m1 ?_
    exact w_iret hX hE dX9_paper_32 (Or.inl rfl) rfl ⟨by simp [A_paper, *], rfl⟩
  · refine w_iload_n (i := 2) hX dX9_paper_13 rfl rfl ?_
    refine w_iconst hX dX9_paper_14 kI_0 ?_
    refine w_iconst hX dX9_paper_15 kI_3 ?_
    refine w_callSI (As := [.int w, .int (nI 0), .int (nI 3)]) (rest := []) (k2 := 0) (n2 := 0) hX dX9_paper_16 (s_m_isIn Γ (sI μ m 0 (nI 0)) w (nI 0) (nI 3)) okX9_isIn ml_RX9_262 stX9_isIn rfl (leb rfl) (leb rfl) rfl rfl (fun r9 μ9 hq9 => ?_)
    obtain ⟨hr9, hm9⟩ := hq9; rw [hr9, hm9]; clear hr9 hm9 r9 μ9
    refine wb_eq (tgt := 31) hX dX9_paper_19 (by decide) (fun hV => ?_) (fun hV => ?_)
    · refine w_iconst hX dX9_paper_31 kI_m1 ?_
      exact w_iret hX hE dX9_paper_32 (Or.inl rfl) rfl ⟨by simp [A_paper, *], rfl⟩
    · have hl9 := hW.2.2.2.2.1.1
      have h9b := (inC_nI (by omega) hP).2; have h9w := (inR_nI (by omega) hV).2
      refine w_aload_n (i := 0) hX dX9_paper_22 rfl rfl ?_
      refine w_iload_n (i := 1) hX dX9_paper_23 rfl rfl ?_
      refine w_top (y := nI (tN p)) (inC_nI (by omega) hP).1 ?_
      refine w_iload_n (i := 2) hX dX9_paper_24 rfl rfl ?_
      refine w_top (y := nI (tN w)) (inR_nI (by omega) hV).1 ?_
      refine w_callVI (As := [.int (nI (tN p)), .int (nI (tN w))]) (rest := []) (ci := 9) (o := m) (k2 := 0) (n2 := 0) hX dX9_paper_25 (s_m_paperOf Γ (sI μ m 0 (nI 0)) m B (hm.f (by omega)) hW (tN p) (tN w) (by omega) (by omega)) okX9_paperOf (ltb rfl) (mod_s hm.1.1) ml_RX9_290 imX9_paperOf seX9_paperOf rfl (leb rfl) (leb rfl) rfl rfl (fun r9 μ9 hq9 => ?_)
      obtain ⟨hr9, hm9⟩ := hq9; rw [hr9, hm9]; clear hr9 hm9 r9 μ9
      refine w_goto (tgt := 32) hX dX9_paper_28 (by decide) ?_
      exact w_iret hX hE dX9_paper_32 (Or.inl rfl) rfl ⟨by simp [A_paper, *], rfl⟩
set_option maxHeartbeats 1000000 in
theorem s_m_work (Γ : Gm) (μ : Mem) (m : Nat) (B : Nat → Nat) (hm : HM μ m B) (hW : WB B) (p w : Int32) : SpI Γ MX9_work 2 0 0 [.ref m, .int p, .int w] μ (fun r μ2 => r = A_work B p w ∧ μ2 = sI μ m 0 (nI 0)) := by
  refine SpI.of okX9_work rfl [some (.ref m), some (.int p), some (.int w)] ⟨rfl, rfl, rfl, trivial⟩ (leb rfl) (leb rfl) (fun X hX hE hnm => ?_)
  refine w_aload_n (i := 0) hX dX9_work_0 rfl rfl ?_
  refine w_iconst hX dX9_work_1 kI_0 ?_
  refine w_putI hX dX9_work_2 fo_RX9_1 rfl rfl rfl rfl (mod_s hm.1.1) ?_
  refine w_iload_n (i := 1) hX dX9_work_5 rfl rfl ?_
  refine wc_if_lt (tgt := 35) hX dX9_work_6 (by decide) (fun c1 => ?_) (fun c1 => ?_)
  · refine w_iconst hX dX9_work_35 kI_m1 ?_
    have hP : inC p (B 85) = false := by simp only [inC, Bool.and_eq_false_iff, decide_eq_false_iff_not, Int32.le_iff_toInt_le, Int32.lt_iff_toInt_lt] at *; omega
    exact w_iret hX hE dX9_work_36 (Or.inl rfl) rfl ⟨by simp [A_work, hP], rfl⟩
  · refine w_iload_n (i := 1) hX dX9_work_9 rfl rfl ?_
    refine w_aload_n (i := 0) hX dX9_work_10 rfl rfl ?_
    refine w_callVI (As := []) (rest := [.int p]) (ci := 9) (o := m) (k2 := 0) (n2 := 0) hX dX9_work_11 (s_m_works Γ (sI μ m 0 (nI 0)) m B (hm.f (by omega)) hW) okX9_works (ltb rfl) (mod_s hm.1.1) ml_RX9_317 imX9_works seX9_works rfl (leb rfl) (leb rfl) rfl rfl (fun r9 μ9 hq9 => ?_)
    obtain ⟨hr9, hm9⟩ := hq9; rw [hr9, hm9]; clear hr9 hm9 r9 μ9
    refine wc_icmp_ge (tgt := 35) hX dX9_work_14 (by decide) (fun c2 => ?_) (fun c2 => ?_)
    · refine w_iconst hX dX9_work_35 kI_m1 ?_
      have hP : inC p (B 85) = false := by simp only [inC, Bool.and_eq_false_iff, decide_eq_false_iff_not, Int32.le_iff_toInt_le, Int32.lt_iff_toInt_lt] at *; omega
      exact w_iret hX hE dX9_work_36 (Or.inl rfl) rfl ⟨by simp [A_work, hP], rfl⟩
    · refine w_iload_n (i := 2) hX dX9_work_17 rfl rfl ?_
      refine w_iconst hX dX9_work_18 kI_0 ?_
      refine w_iconst hX dX9_work_19 kI_4 ?_
      refine w_callSI (As := [.int w, .int (nI 0), .int (nI 4)]) (rest := []) (k2 := 0) (n2 := 0) hX dX9_work_20 (s_m_isIn Γ (sI μ m 0 (nI 0)) w (nI 0) (nI 4)) okX9_isIn ml_RX9_262 stX9_isIn rfl (leb rfl) (leb rfl) rfl rfl (fun r9 μ9 hq9 => ?_)
      obtain ⟨hr9, hm9⟩ := hq9; rw [hr9, hm9]; clear hr9 hm9 r9 μ9
      refine wb_eq (tgt := 35) hX dX9_work_23 (by decide) (fun hV => ?_) (fun hV => ?_)
      · refine w_iconst hX dX9_work_35 kI_m1 ?_
        exact w_iret hX hE dX9_work_36 (Or.inl rfl) rfl ⟨by simp [A_work, hV], rfl⟩
      · have hl9 := hW.2.2.1.1
        have hP : inC p (B 85) = true := by simp only [inC, Bool.and_eq_true, decide_eq_true_eq]; exact ⟨c1, c2⟩
        have h9b := (inC_nI (by omega) hP).2; have h9w := (inR_nI (by omega) hV).2
        refine w_aload_n (i := 0) hX dX9_work_26 rfl rfl ?_
        refine w_iload_n (i := 1) hX dX9_work_27 rfl rfl ?_
        refine w_top (y := nI (tN p)) (inC_nI (by omega) hP).1 ?_
        refine w_iload_n (i := 2) hX dX9_work_28 rfl rfl ?_
        refine w_top (y := nI (tN w)) (inR_nI (by omega) hV).1 ?_
        refine w_callVI (As := [.int (nI (tN p)), .int (nI (tN w))]) (rest := []) (ci := 9) (o := m) (k2 := 0) (n2 := 0) hX dX9_work_29 (s_m_workOf Γ (sI μ m 0 (nI 0)) m B (hm.f (by omega)) hW (tN p) (tN w) (by omega) (by omega)) okX9_workOf (ltb rfl) (mod_s hm.1.1) ml_RX9_320 imX9_workOf seX9_workOf rfl (leb rfl) (leb rfl) rfl rfl (fun r9 μ9 hq9 => ?_)
        obtain ⟨hr9, hm9⟩ := hq9; rw [hr9, hm9]; clear hr9 hm9 r9 μ9
        refine w_goto (tgt := 36) hX dX9_work_32 (by decide) ?_
        exact w_iret hX hE dX9_work_36 (Or.inl rfl) rfl ⟨by simp [A_work, hP, hV], rfl⟩
set_option maxHeartbeats 1000000 in
theorem s_m_isStroke (Γ : Gm) (μ : Mem) (s : Int32) : SpI Γ MX9_isStroke 1 0 0 [.int s] μ (fun r μ2 => r = bI (inR s (nI 1) (nI 24)) ∧ μ2 = μ) := by
  refine SpI.of okX9_isStroke rfl [some (.int s)] ⟨rfl, trivial⟩ (leb rfl) (leb rfl) (fun X hX hE hnm => ?_)
  refine w_iload_n (i := 0) hX dX9_isStroke_0 rfl rfl ?_
  refine w_iconst hX dX9_isStroke_1 kI_1 ?_
  refine w_bipush hX dX9_isStroke_2 kB_24 ?_
  refine w_callSI (As := [.int s, .int (nI 1), .int (nI 24)]) (rest := []) (k2 := 0) (n2 := 0) hX dX9_isStroke_4 (s_m_isIn Γ μ s (nI 1) (nI 24)) okX9_isIn ml_RX9_262 stX9_isIn rfl (leb rfl) (leb rfl) rfl rfl (fun r9 μ9 hq9 => ?_)
  obtain ⟨hr9, hm9⟩ := hq9; rw [hr9, hm9]; clear hr9 hm9 r9 μ9
  exact w_iret hX hE dX9_isStroke_7 (Or.inl rfl) (bI_nar _) ⟨rfl, rfl⟩
set_option maxHeartbeats 1000000 in
theorem s_m_wish (Γ : Gm) (μ : Mem) (m : Nat) (B : Nat → Nat) (hm : HM μ m B) (hW : WB B) (p s : Int32) : SpI Γ MX9_wish 2 0 0 [.ref m, .int p, .int s] μ (fun r μ2 => r = A_wish B p s ∧ μ2 = sI μ m 0 (nI 0)) := by
  refine SpI.of okX9_wish rfl [some (.ref m), some (.int p), some (.int s)] ⟨rfl, rfl, rfl, trivial⟩ (leb rfl) (leb rfl) (fun X hX hE hnm => ?_)
  refine w_aload_n (i := 0) hX dX9_wish_0 rfl rfl ?_
  refine w_iconst hX dX9_wish_1 kI_0 ?_
  refine w_putI hX dX9_wish_2 fo_RX9_1 rfl rfl rfl rfl (mod_s hm.1.1) ?_
  refine w_iload_n (i := 1) hX dX9_wish_5 rfl rfl ?_
  refine wc_if_lt (tgt := 33) hX dX9_wish_6 (by decide) (fun c1 => ?_) (fun c1 => ?_)
  · refine w_iconst hX dX9_wish_33 kI_m1 ?_
    have hP : inC p (B 126) = false := by simp only [inC, Bool.and_eq_false_iff, decide_eq_false_iff_not, Int32.le_iff_toInt_le, Int32.lt_iff_toInt_lt] at *; omega
    exact w_iret hX hE dX9_wish_34 (Or.inl rfl) rfl ⟨by simp [A_wish, hP], rfl⟩
  · refine w_iload_n (i := 1) hX dX9_wish_9 rfl rfl ?_
    refine w_aload_n (i := 0) hX dX9_wish_10 rfl rfl ?_
    refine w_callVI (As := []) (rest := [.int p]) (ci := 9) (o := m) (k2 := 0) (n2 := 0) hX dX9_wish_11 (s_m_persons Γ (sI μ m 0 (nI 0)) m B (hm.f (by omega)) hW) okX9_persons (ltb rfl) (mod_s hm.1.1) ml_RX9_348 imX9_persons seX9_persons rfl (leb rfl) (leb rfl) rfl rfl (fun r9 μ9 hq9 => ?_)
    obtain ⟨hr9, hm9⟩ := hq9; rw [hr9, hm9]; clear hr9 hm9 r9 μ9
    refine wc_icmp_ge (tgt := 33) hX dX9_wish_14 (by decide) (fun c2 => ?_) (fun c2 => ?_)
    · refine w_iconst hX dX9_wish_33 kI_m1 ?_
      have hP : inC p (B 126) = false := by simp only [inC, Bool.and_eq_false_iff, decide_eq_false_iff_not, Int32.le_iff_toInt_le, Int32.lt_iff_toInt_lt] at *; omega
      exact w_iret hX hE dX9_wish_34 (Or.inl rfl) rfl ⟨by simp [A_wish, hP], rfl⟩
    · refine w_iload_n (i := 2) hX dX9_wish_17 rfl rfl ?_
      refine w_callSI (As := [.int s]) (rest := []) (k2 := 0) (n2 := 0) hX dX9_wish_18 (s_m_isStroke Γ (sI μ m 0 (nI 0)) s) okX9_isStroke ml_RX9_351 stX9_isStroke rfl (leb rfl) (leb rfl) rfl rfl (fun r9 μ9 hq9 => ?_)
      obtain ⟨hr9, hm9⟩ := hq9; rw [hr9, hm9]; clear hr9 hm9 r9 μ9
      refine wb_eq (tgt := 33) hX dX9_wish_21 (by decide) (fun hV => ?_) (fun hV => ?_)
      · refine w_iconst hX dX9_wish_33 kI_m1 ?_
        exact w_iret hX hE dX9_wish_34 (Or.inl rfl) rfl ⟨by simp [A_wish, hV], rfl⟩
      · have hl9 := hW.2.2.2.1.1
        have hP : inC p (B 126) = true := by simp only [inC, Bool.and_eq_true, decide_eq_true_eq]; exact ⟨c1, c2⟩
        have h9b := (inC_nI (by omega) hP).2; have h9w := (inR_lo (by omega) (by omega) hV).2
        refine w_aload_n (i := 0) hX dX9_wish_24 rfl rfl ?_
        refine w_iload_n (i := 1) hX dX9_wish_25 rfl rfl ?_
        refine w_top (y := nI (tN p)) (inC_nI (by omega) hP).1 ?_
        refine w_iload_n (i := 2) hX dX9_wish_26 rfl rfl ?_
        refine w_top (y := nI (tN s)) (inR_lo (by omega) (by omega) hV).1 ?_
        refine w_callVI (As := [.int (nI (tN p)), .int (nI (tN s))]) (rest := []) (ci := 9) (o := m) (k2 := 0) (n2 := 0) hX dX9_wish_27 (s_m_wishOf Γ (sI μ m 0 (nI 0)) m B (hm.f (by omega)) hW (tN p) (tN s) (by omega) (by omega)) okX9_wishOf (ltb rfl) (mod_s hm.1.1) ml_RX9_354 imX9_wishOf seX9_wishOf rfl (leb rfl) (leb rfl) rfl rfl (fun r9 μ9 hq9 => ?_)
        obtain ⟨hr9, hm9⟩ := hq9; rw [hr9, hm9]; clear hr9 hm9 r9 μ9
        refine w_goto (tgt := 34) hX dX9_wish_30 (by decide) ?_
        exact w_iret hX hE dX9_wish_34 (Or.inl rfl) rfl ⟨by simp [A_wish, hP, hV], rfl⟩
set_option maxHeartbeats 1000000 in
theorem s_m_prefer (Γ : Gm) (μ : Mem) (m : Nat) (B : Nat → Nat) (hm : HM μ m B) (hW : WB B) (s o : Nat) (hs2 : s ≤ 24) (ho2 : o ≤ 24) : SpI Γ MX9_prefer 1 0 0 [.ref m, .int (nI s), .int (nI o)] μ (fun r μ2 => r = nI (frn B s o (B 126)) ∧ μ2 = μ) := by
  refine SpI.of okX9_prefer rfl [some (.ref m), some (.int (nI s)), some (.int (nI o)), none, none] ⟨rfl, rfl, rfl, trivial⟩ (leb rfl) (leb rfl) (fun X hX hE hnm => ?_)
  have hn := hW.2.2.2.1.1
  have loop : ∀ k, k ≤ B 126 → WP Γ X 0 0 5 [some (.ref m), some (.int (nI s)), some (.int (nI o)), some (.int (nI (frn B s o k))), some (.int (nI k))] [] μ := by
    refine loopU (B 126) ?_
    intro k hk ih
    have hw1 : k < 9 → wsh B k s ≤ 99 := fun h => wsh_le hW h hs2
    have hw2 : k < 9 → wsh B k o ≤ 99 := fun h => wsh_le hW h ho2
    refine w_iload hX dX9_prefer_5 rfl ?_
    refine w_aload_n (i := 0) hX dX9_prefer_7 rfl rfl ?_
    refine w_callVI (As := []) (rest := [.int (nI k)]) (ci := 9) (o := m) (k2 := 0) (n2 := 0) hX dX9_prefer_8 (s_m_persons Γ μ m B hm hW) okX9_persons (ltb rfl) (mod_s hm.1.1) ml_RX9_348 imX9_persons seX9_persons rfl (leb rfl) (leb rfl) rfl rfl (fun r9 μ9 hq9 => ?_)
    obtain ⟨hr9, hm9⟩ := hq9; rw [hr9, hm9]; clear hr9 hm9 r9 μ9
    refine wn_icmp_ge (tgt := 45) hX dX9_prefer_11 (by decide) (by have := hw1; have := hw2; omega) (by have := hw1; have := hw2; omega) (fun c1 => ?_) (fun c1 => ?_)
    · refine w_iload_n (i := 3) hX dX9_prefer_45 rfl rfl ?_
      exact w_iret hX hE dX9_prefer_46 (Or.inl rfl) rfl ⟨by rw [show k = B 126 by omega], rfl⟩
    · refine w_iload_n (i := 3) hX dX9_prefer_14 rfl rfl ?_
      refine w_aload_n (i := 0) hX dX9_prefer_15 rfl rfl ?_
      refine w_iload hX dX9_prefer_16 rfl ?_
      refine w_iload_n (i := 1) hX dX9_prefer_18 rfl rfl ?_
      refine w_callVI (As := [.int (nI k), .int (nI s)]) (rest := [.int (nI (frn B s o k))]) (ci := 9) (o := m) (k2 := 0) (n2 := 0) hX dX9_prefer_19 (s_m_wishOf Γ μ m B hm hW k s (by omega) (by omega)) okX9_wishOf (ltb rfl) (mod_s hm.1.1) ml_RX9_354 imX9_wishOf seX9_wishOf rfl (leb rfl) (leb rfl) rfl rfl (fun r9 μ9 hq9 => ?_)
      obtain ⟨hr9, hm9⟩ := hq9; rw [hr9, hm9]; clear hr9 hm9 r9 μ9
      refine w_aload_n (i := 0) hX dX9_prefer_22 rfl rfl ?_
      refine w_iload hX dX9_prefer_23 rfl ?_
      refine w_iload_n (i := 2) hX dX9_prefer_25 rfl rfl ?_
      refine w_callVI (As := [.int (nI k), .int (nI o)]) (rest := [.int (nI (wsh B k s)), .int (nI (frn B s o k))]) (ci := 9) (o := m) (k2 := 0) (n2 := 0) hX dX9_prefer_26 (s_m_wishOf Γ μ m B hm hW k o (by omega) (by omega)) okX9_wishOf (ltb rfl) (mod_s hm.1.1) ml_RX9_354 imX9_wishOf seX9_wishOf rfl (leb rfl) (leb rfl) rfl rfl (fun r9 μ9 hq9 => ?_)
      obtain ⟨hr9, hm9⟩ := hq9; rw [hr9, hm9]; clear hr9 hm9 r9 μ9
      refine wn_icmp_le (tgt := 36) hX dX9_prefer_29 (by decide) (by have := hw1; have := hw2; omega) (by have := hw1; have := hw2; omega) (fun c2 => ?_) (fun c2 => ?_)
      · refine w_iconst hX dX9_prefer_36 kI_0 ?_
        refine w_iaddN hX dX9_prefer_37 ?_
        refine w_istore_n (i := 3) (l2 := [some (.ref m), some (.int (nI s)), some (.int (nI o)), some (.int (nI (frn B s o k + 0))), some (.int (nI k))]) hX dX9_prefer_38 rfl (ltb rfl) rfl rfl ?_
        refine w_iincN (w := 1) (l2 := [some (.ref m), some (.int (nI s)), some (.int (nI o)), some (.int (nI (frn B s o k + 0))), some (.int (nI (k + 1)))]) hX dX9_prefer_39 rfl kI_1 rfl rfl ?_
        refine w_goto (tgt := 5) hX dX9_prefer_42 (by decide) ?_
        have e9 : frn B s o k + 0 = frn B s o (k + 1) := by simp only [frn]; rw [if_neg (by omega)]
        rw [e9]
        exact ih (by omega)
      · refine w_iconst hX dX9_prefer_32 kI_1 ?_
        refine w_goto (tgt := 37) hX dX9_prefer_33 (by decide) ?_
        refine w_iaddN hX dX9_prefer_37 ?_
        refine w_istore_n (i := 3) (l2 := [some (.ref m), some (.int (nI s)), some (.int (nI o)), some (.int (nI (frn B s o k + 1))), some (.int (nI k))]) hX dX9_prefer_38 rfl (ltb rfl) rfl rfl ?_
        refine w_iincN (w := 1) (l2 := [some (.ref m), some (.int (nI s)), some (.int (nI o)), some (.int (nI (frn B s o k + 1))), some (.int (nI (k + 1)))]) hX dX9_prefer_39 rfl kI_1 rfl rfl ?_
        refine w_goto (tgt := 5) hX dX9_prefer_42 (by decide) ?_
        have e9 : frn B s o k + 1 = frn B s o (k + 1) := by simp only [frn]; rw [if_pos c2]
        rw [e9]
        exact ih (by omega)
  refine w_iconst hX dX9_prefer_0 kI_0 ?_
  refine w_istore_n (i := 3) (l2 := [some (.ref m), some (.int (nI s)), some (.int (nI o)), some (.int (nI 0)), none]) hX dX9_prefer_1 rfl (ltb rfl) rfl rfl ?_
  refine w_iconst hX dX9_prefer_2 kI_0 ?_
  refine w_istore (l2 := [some (.ref m), some (.int (nI s)), some (.int (nI o)), some (.int (nI 0)), some (.int (nI 0))]) hX dX9_prefer_3 (ltb rfl) rfl rfl ?_
  exact loop 0 (Nat.zero_le _)
set_option maxHeartbeats 1000000 in
theorem s_m_prefers (Γ : Gm) (μ : Mem) (m : Nat) (B : Nat → Nat) (hm : HM μ m B) (hW : WB B) (s o : Int32) : SpI Γ MX9_prefers 2 0 0 [.ref m, .int s, .int o] μ (fun r μ2 => r = A_prefers B s o ∧ μ2 = sI μ m 0 (nI 0)) := by
  refine SpI.of okX9_prefers rfl [some (.ref m), some (.int s), some (.int o)] ⟨rfl, rfl, rfl, trivial⟩ (leb rfl) (leb rfl) (fun X hX hE hnm => ?_)
  refine w_aload_n (i := 0) hX dX9_prefers_0 rfl rfl ?_
  refine w_iconst hX dX9_prefers_1 kI_0 ?_
  refine w_putI hX dX9_prefers_2 fo_RX9_1 rfl rfl rfl rfl (mod_s hm.1.1) ?_
  refine w_iload_n (i := 1) hX dX9_prefers_5 rfl rfl ?_
  refine w_callSI (As := [.int s]) (rest := []) (k2 := 0) (n2 := 0) hX dX9_prefers_6 (s_m_isStroke Γ (sI μ m 0 (nI 0)) s) okX9_isStroke ml_RX9_351 stX9_isStroke rfl (leb rfl) (leb rfl) rfl rfl (fun r9 μ9 hq9 => ?_)
  obtain ⟨hr9, hm9⟩ := hq9; rw [hr9, hm9]; clear hr9 hm9 r9 μ9
  refine wb_eq (tgt := 28) hX dX9_prefers_9 (by decide) (fun hP => ?_) (fun hP => ?_)
  · refine w_iconst hX dX9_prefers_28 kI_m1 ?_
    exact w_iret hX hE dX9_prefers_29 (Or.inl rfl) rfl ⟨by simp [A_prefers, *], rfl⟩
  · refine w_iload_n (i := 2) hX dX9_prefers_12 rfl rfl ?_
    refine w_callSI (As := [.int o]) (rest := []) (k2 := 0) (n2 := 0) hX dX9_prefers_13 (s_m_isStroke Γ (sI μ m 0 (nI 0)) o) okX9_isStroke ml_RX9_351 stX9_isStroke rfl (leb rfl) (leb rfl) rfl rfl (fun r9 μ9 hq9 => ?_)
    obtain ⟨hr9, hm9⟩ := hq9; rw [hr9, hm9]; clear hr9 hm9 r9 μ9
    refine wb_eq (tgt := 28) hX dX9_prefers_16 (by decide) (fun hV => ?_) (fun hV => ?_)
    · refine w_iconst hX dX9_prefers_28 kI_m1 ?_
      exact w_iret hX hE dX9_prefers_29 (Or.inl rfl) rfl ⟨by simp [A_prefers, *], rfl⟩
    · have h9b := (inR_lo (by omega) (by omega) hP).2; have h9w := (inR_lo (by omega) (by omega) hV).2
      refine w_aload_n (i := 0) hX dX9_prefers_19 rfl rfl ?_
      refine w_iload_n (i := 1) hX dX9_prefers_20 rfl rfl ?_
      refine w_top (y := nI (tN s)) (inR_lo (by omega) (by omega) hP).1 ?_
      refine w_iload_n (i := 2) hX dX9_prefers_21 rfl rfl ?_
      refine w_top (y := nI (tN o)) (inR_lo (by omega) (by omega) hV).1 ?_
      refine w_callVI (As := [.int (nI (tN s)), .int (nI (tN o))]) (rest := []) (ci := 9) (o := m) (k2 := 0) (n2 := 0) hX dX9_prefers_22 (s_m_prefer Γ (sI μ m 0 (nI 0)) m B (hm.f (by omega)) hW (tN s) (tN o) (by omega) (by omega)) okX9_prefer (ltb rfl) (mod_s hm.1.1) ml_RX9_357 imX9_prefer seX9_prefer rfl (leb rfl) (leb rfl) rfl rfl (fun r9 μ9 hq9 => ?_)
      obtain ⟨hr9, hm9⟩ := hq9; rw [hr9, hm9]; clear hr9 hm9 r9 μ9
      refine w_goto (tgt := 29) hX dX9_prefers_25 (by decide) ?_
      exact w_iret hX hE dX9_prefers_29 (Or.inl rfl) rfl ⟨by simp [A_prefers, *], rfl⟩
