theorem bw_or {f g : Nat → Bool} {n : Nat} : bw f n ||| bw g n = bw (fun i => f i || g i) n := by
  apply Nat.eq_of_testBit_eq
  intro i
  rw [Nat.testBit_or, bw_tb, bw_tb, bw_tb]
  cases decide (i < n) <;> simp
theorem bw_c {f g : Nat → Bool} {n : Nat} (h : ∀ i, i < n → f i = g i) : bw f n = bw g n := by
  apply Nat.eq_of_testBit_eq
  intro i
  rw [bw_tb, bw_tb]
  by_cases c : i < n
  · simp [c, h i c]
  · simp [c]
theorem bw_31 {f : Nat → Bool} {n : Nat} (h : n ≤ 24) : bw f n < 2 ^ 24 := Nat.lt_of_lt_of_le (bw_lt n) (Nat.pow_le_pow_right (by omega) h)
theorem mask_nI {s : Nat} (hs : s < 31) : (nI 1 <<< (nI s &&& 31)) - nI 1 = nI (2 ^ s - 1) := by
  rw [shl_nI hs, pk_sub (Nat.one_le_two_pow)]
/-- what is barred by the first j picks -/
def brd (cl : Nat → Nat → Bool) (mem : Nat → Nat) (n w : Nat) : Nat → Nat → Bool
  | 0, _ => false
  | j + 1, t => brd cl mem n w j t || cl (2 * mem j + w / 2 ^ (n - 1 - j) % 2) t
theorem brd_bdr {cl : Nat → Nat → Bool} {mem : Nat → Nat} {n w i : Nat} (hi : i < n) : ∀ j, j ≤ i + 1 → brd cl mem n w j (2 * mem i + w / 2 ^ (n - 1 - i) % 2) = bdr cl mem (w / 2 ^ (n - 1 - i)) i j := by
  intro j
  induction j with
  | zero => intro _; rfl
  | succ j ih =>
    intro hj
    simp only [brd, bdr]
    rw [ih (by omega), Nat.div_div_eq_div_mul, ← Nat.pow_add, show n - 1 - i + (i - j) = n - 1 - j by omega]
theorem gdP_S {cl : Nat → Nat → Bool} {mem : Nat → Nat} {n w i : Nat} (hi : i < n) (h : gdP cl mem i (w / 2 ^ (n - i)) = true) (hb : bdu cl mem (w / 2 ^ (n - 1 - i)) i = false) : gdP cl mem (i + 1) (w / 2 ^ (n - (i + 1))) = true := by
  simp only [gdP, Bool.and_eq_true]
  rw [Nat.div_div_eq_div_mul, ← Nat.pow_succ, show (n - (i + 1)).succ = n - i by omega, show n - (i + 1) = n - 1 - i by omega]
  exact ⟨h, by rw [hb]; rfl⟩
set_option maxHeartbeats 1000000 in
theorem s_w_pickOf (Γ : Gm) (μ : Mem) (w q b : Nat) (hw : w < 2 ^ 31) (hb : b < 31) : SpI Γ MX7_pickOf 0 0 0 [.int (nI w), .int (nI q), .int (nI b)] μ (fun r μ2 => r = nI (2 * q + w / 2 ^ b % 2) ∧ μ2 = μ) := by
  refine SpI.of okX7_pickOf rfl [some (.int (nI w)), some (.int (nI q)), some (.int (nI b))] ⟨rfl, rfl, rfl, trivial⟩ (leb rfl) (leb rfl) (fun X hX hE hnm => ?_)
  refine w_iconst hX dX7_pickOf_0 kI_2 ?_
  refine w_iload_n (i := 1) hX dX7_pickOf_1 rfl rfl ?_
  refine w_imulN hX dX7_pickOf_2 ?_
  refine w_iload_n (i := 0) hX dX7_pickOf_3 rfl rfl ?_
  refine w_iload_n (i := 2) hX dX7_pickOf_4 rfl rfl ?_
  refine w_ishr hX dX7_pickOf_5 ?_
  refine w_iconst hX dX7_pickOf_6 kI_1 ?_
  refine w_iand hX dX7_pickOf_7 ?_
  refine w_top (y := nI (w / 2 ^ b % 2)) ((bit31 hw hb).trans (congrArg nI tb_dm)) ?_
  refine w_iaddN hX dX7_pickOf_8 ?_
  exact w_iret hX hE dX7_pickOf_9 (Or.inl rfl) rfl ⟨rfl, rfl⟩
set_option maxHeartbeats 1000000 in
theorem s_w_alike (Γ : Gm) (μ : Mem) (n g : Nat) (hn : n ≤ 12) (hg : g < n) : SpI Γ MX7_alikeBelow 0 0 0 [.int (nI n), .int (nI g)] μ (fun r μ2 => r = nI (2 ^ (n - 1 - g) - 1) ∧ μ2 = μ) := by
  refine SpI.of okX7_alikeBelow rfl [some (.int (nI n)), some (.int (nI g))] ⟨rfl, rfl, trivial⟩ (leb rfl) (leb rfl) (fun X hX hE hnm => ?_)
  refine w_iconst hX dX7_alikeBelow_0 kI_1 ?_
  refine w_iload_n (i := 0) hX dX7_alikeBelow_1 rfl rfl ?_
  refine w_iconst hX dX7_alikeBelow_2 kI_1 ?_
  refine w_isubN hX dX7_alikeBelow_3 (by omega) ?_
  refine w_iload_n (i := 1) hX dX7_alikeBelow_4 rfl rfl ?_
  refine w_isubN hX dX7_alikeBelow_5 (by omega) ?_
  refine w_ishl hX dX7_alikeBelow_6 ?_
  refine w_iconst hX dX7_alikeBelow_7 kI_1 ?_
  refine w_isub hX dX7_alikeBelow_8 ?_
  refine w_top (y := nI (2 ^ (n - 1 - g) - 1)) (mask_nI (by omega)) ?_
  exact w_iret hX hE dX7_alikeBelow_9 (Or.inl rfl) rfl ⟨rfl, rfl⟩
set_option maxHeartbeats 1000000 in
theorem s_w_select (Γ : Gm) (μ : Mem) (w : Nat) (hw : isWd μ w) (Pn : Nat) (hP : gI μ w 6 = nI Pn) (hP12 : Pn ≤ 12) (bits : Nat) (hb : bits < 2 ^ 31) : SpI Γ MX7_selectMembers 0 0 0 [.ref w, .int (nI bits)] μ (fun r μ2 => r = nI (cvV (fun i => bits.testBit i) Pn) ∧ (∀ i, i < cvV (fun i => bits.testBit i) Pn → gI μ2 (w + 5) i = nI (nwV (fun i => bits.testBit i) i Pn)) ∧ same (fun o _ => o = w + 5) μ μ2) := by
  refine SpI.of okX7_selectMembers rfl [some (.ref w), some (.int (nI bits)), none, none] ⟨rfl, rfl, trivial⟩ (leb rfl) (leb rfl) (fun X hX hE hnm => ?_)
  refine w_iconst hX dX7_selectMembers_0 kI_0 ?_
  refine w_istore_n (i := 2) (l2 := [some (.ref w), some (.int (nI bits)), some (.int (nI 0)), none]) hX dX7_selectMembers_1 rfl (ltb rfl) rfl rfl ?_
  refine w_iconst hX dX7_selectMembers_2 kI_0 ?_
  refine w_istore_n (i := 3) (l2 := [some (.ref w), some (.int (nI bits)), some (.int (nI 0)), some (.int (nI 0))]) hX dX7_selectMembers_3 rfl (ltb rfl) rfl rfl ?_
  have loop : ∀ k, k ≤ Pn → ∀ ν : Mem, (same (fun o _ => o = w + 5) μ ν) → (∀ i, i < cvV (fun i => bits.testBit i) k → gI ν (w + 5) i = nI (nwV (fun i => bits.testBit i) i Pn)) → WP Γ X 0 0 4 [some (.ref w), some (.int (nI bits)), some (.int (nI (cvV (fun i => bits.testBit i) k))), some (.int (nI k))] [] ν := by
    refine loopU (Pn) ?_
    intro k hk ih ν hsm hme
    have hwk := hsm.isWd hw
    have hcl := cvV_le (V := (fun i => bits.testBit i)) k
    refine w_iload_n (i := 3) hX dX7_selectMembers_4 rfl rfl ?_
    refine w_aload_n (i := 0) hX dX7_selectMembers_5 rfl rfl ?_
    refine w_getI hX dX7_selectMembers_6 fo_RX7_38 rfl (wd_s hwk) ?_
    refine w_top (y := nI Pn) (by rw [(hsm.2.2 _ _ (fun h => by omega)).1]; exact hP) ?_
    refine wn_icmp_ge (tgt := 37) hX dX7_selectMembers_9 (by decide) (by first | omega | (split <;> omega)) (by first | omega | (split <;> omega)) (fun c1 => ?_) (fun c1 => ?_)
    · refine w_iload_n (i := 2) hX dX7_selectMembers_37 rfl rfl ?_
      exact w_iret hX hE dX7_selectMembers_38 (Or.inl rfl) rfl ⟨by rw [show k = Pn by omega], fun i hi => hme i (by rw [show k = Pn by omega]; exact hi), hsm⟩
    · refine w_iload_n (i := 1) hX dX7_selectMembers_12 rfl rfl ?_
      refine w_iload_n (i := 3) hX dX7_selectMembers_13 rfl rfl ?_
      refine w_ishr hX dX7_selectMembers_14 ?_
      refine w_iconst hX dX7_selectMembers_15 kI_1 ?_
      refine w_iand hX dX7_selectMembers_16 ?_
      refine w_top (y := nI (if bits.testBit k = true then 1 else 0)) (bit31 hb (by omega)) ?_
      refine w_iconst hX dX7_selectMembers_17 kI_1 ?_
      refine wn_icmp_ne (tgt := 31) hX dX7_selectMembers_18 (by decide) (by first | omega | (split <;> omega)) (by first | omega | (split <;> omega)) (fun c2 => ?_) (fun c2 => ?_)
      · refine w_iincN (w := 1) (l2 := [some (.ref w), some (.int (nI bits)), some (.int (nI (cvV (fun i => bits.testBit i) k))), some (.int (nI (k + 1)))]) hX dX7_selectMembers_31 rfl kI_1 rfl rfl ?_
        refine w_goto (tgt := 4) hX dX7_selectMembers_34 (by decide) ?_
        have hk0 : bits.testBit k = false := by rw [Bool.eq_false_iff]; intro h9; rw [if_pos h9] at c2; exact absurd rfl c2
        have e9 : cvV (fun i => bits.testBit i) (k + 1) = cvV (fun i => bits.testBit i) k := cvV_no hk0
        refine w_locs (ls2 := [some (.ref w), some (.int (nI bits)), some (.int (nI (cvV (fun i => bits.testBit i) (k + 1)))), some (.int (nI (k + 1)))]) (by rw [e9]) ?_
        exact ih (by omega) ν hsm (fun i hi => hme i (by omega))
      · refine w_aload_n (i := 0) hX dX7_selectMembers_21 rfl rfl ?_
        refine w_getR (q := w + 5) hX dX7_selectMembers_22 fo_RX7_27 rfl (wd_s hwk) (wd_r4 hwk) ?_
        refine w_iload_n (i := 2) hX dX7_selectMembers_25 rfl rfl ?_
        refine w_iload_n (i := 3) hX dX7_selectMembers_26 rfl rfl ?_
        refine w_iastN hX dX7_selectMembers_27 (wd_a5 hwk) (by omega) (by omega) ?_
        refine w_iincN (w := 1) (l2 := [some (.ref w), some (.int (nI bits)), some (.int (nI (cvV (fun i => bits.testBit i) k + 1))), some (.int (nI k))]) hX dX7_selectMembers_28 rfl kI_1 rfl rfl ?_
        refine w_iincN (w := 1) (l2 := [some (.ref w), some (.int (nI bits)), some (.int (nI (cvV (fun i => bits.testBit i) k + 1))), some (.int (nI (k + 1)))]) hX dX7_selectMembers_31 rfl kI_1 rfl rfl ?_
        refine w_goto (tgt := 4) hX dX7_selectMembers_34 (by decide) ?_
        have hk1 : bits.testBit k = true := by by_cases h9 : bits.testBit k = true; exact h9; rw [if_neg h9] at c2; omega
        have e9 : cvV (fun i => bits.testBit i) (k + 1) = cvV (fun i => bits.testBit i) k + 1 := by simp [cvV, hk1]
        refine w_locs (ls2 := [some (.ref w), some (.int (nI bits)), some (.int (nI (cvV (fun i => bits.testBit i) (k + 1)))), some (.int (nI (k + 1)))]) (by rw [e9]) ?_
        refine ih (by omega) _ (hsm.sI rfl) (fun i hi => ?_)
        by_cases e : i = cvV (fun i => bits.testBit i) k
        · rw [e, gI_same, nwV_eq (V := (fun i => bits.testBit i)) hk1 rfl Pn (by omega)]
        · rw [gI_nk e]; exact hme i (by omega)
  exact loop 0 (Nat.zero_le _) μ same.rf (fun i hi => absurd hi (Nat.not_lt_zero i))
set_option maxHeartbeats 1000000 in
theorem s_w_good (Γ : Gm) (μ : Mem) (w : Nat) (hw : isWd μ w) (n W : Nat) (hn : n ≤ 12) (hW9 : W < 2 ^ 31) (cl : Nat → Nat → Bool) (mem : Nat → Nat) (Pn : Nat) (hP12 : Pn ≤ 12) (hm12 : ∀ i, i < n → mem i < Pn) (hmem : ∀ i, i < n → gI μ (w + 5) i = nI (mem i)) (hcl : ∀ i, i < 2 * Pn → gI μ (w + 2) i = nI (bw (cl i) 24)) : SpI Γ MX7_goodMembers 1 0 0 [.ref w, .int (nI W), .int (nI n)] μ (fun r μ2 => ∃ g, r = nI g ∧ μ2 = μ ∧ ((g = n ∧ gdP cl mem n W = true) ∨ (g < n ∧ bdu cl mem (W / 2 ^ (n - 1 - g)) g = true))) := by
  refine SpI.of okX7_goodMembers rfl [some (.ref w), some (.int (nI W)), some (.int (nI n)), none, none, none] ⟨rfl, rfl, rfl, trivial⟩ (leb rfl) (leb rfl) (fun X hX hE hnm => ?_)
  refine w_iconst hX dX7_goodMembers_0 kI_0 ?_
  refine w_istore_n (i := 3) (l2 := [some (.ref w), some (.int (nI W)), some (.int (nI n)), some (.int (nI 0)), none, none]) hX dX7_goodMembers_1 rfl (ltb rfl) rfl rfl ?_
  refine w_iconst hX dX7_goodMembers_2 kI_0 ?_
  refine w_istore (l2 := [some (.ref w), some (.int (nI W)), some (.int (nI n)), some (.int (nI 0)), some (.int (nI 0)), none]) hX dX7_goodMembers_3 (ltb rfl) rfl rfl ?_
  have loop : ∀ k, k ≤ n → gdP cl mem k (W / 2 ^ (n - k)) = true → WP Γ X 0 0 5 [some (.ref w), some (.int (nI W)), some (.int (nI n)), some (.int (nI (bw (brd cl mem n W k) 24))), some (.int (nI k)), none] [] μ := by
    refine loopU n ?_
    intro k hk ih hgd
    have hml : k < n → mem k < Pn := fun h => hm12 k h
    have hpk : W / 2 ^ (n - 1 - k) % 2 < 2 := Nat.mod_lt _ (by omega)
    refine w_iload hX dX7_goodMembers_5 rfl ?_
    refine w_iload_n (i := 2) hX dX7_goodMembers_7 rfl rfl ?_
    refine wn_icmp_ge (tgt := 59) hX dX7_goodMembers_8 (by decide) (by first | omega | (split <;> omega)) (by first | omega | (split <;> omega)) (fun c1 => ?_) (fun c1 => ?_)
    · refine w_iload_n (i := 2) hX dX7_goodMembers_59 rfl rfl ?_
      exact w_iret hX hE dX7_goodMembers_60 (Or.inl rfl) rfl ⟨n, rfl, rfl, Or.inl ⟨rfl, by rw [show k = n by omega, Nat.sub_self] at hgd; simpa using hgd⟩⟩
    · refine w_iload_n (i := 1) hX dX7_goodMembers_11 rfl rfl ?_
      refine w_aload_n (i := 0) hX dX7_goodMembers_12 rfl rfl ?_
      refine w_getR (q := w + 5) hX dX7_goodMembers_13 fo_RX7_27 rfl (wd_s hw) (wd_r4 hw) ?_
      refine w_iload hX dX7_goodMembers_16 rfl ?_
      refine w_ialdN hX dX7_goodMembers_18 (wd_a5 hw) (by omega) (by omega) ?_
      refine w_top (y := nI (mem k)) (hmem k (by omega)) ?_
      refine w_iload_n (i := 2) hX dX7_goodMembers_19 rfl rfl ?_
      refine w_iconst hX dX7_goodMembers_20 kI_1 ?_
      refine w_isubN hX dX7_goodMembers_21 (by omega) ?_
      refine w_iload hX dX7_goodMembers_22 rfl ?_
      refine w_isubN hX dX7_goodMembers_24 (by omega) ?_
      refine w_callSI (As := [.int (nI W), .int (nI (mem k)), .int (nI (n - 1 - k))]) (rest := []) (k2 := 0) (n2 := 0) hX dX7_goodMembers_25 (s_w_pickOf Γ μ W (mem k) (n - 1 - k) (by omega) (by omega)) okX7_pickOf ml_RX7_70 stX7_pickOf rfl (leb rfl) (leb rfl) rfl rfl (fun r9 μ9 hq9 => ?_)
      obtain ⟨hr9, hm9⟩ := hq9; rw [hr9, hm9]; clear hr9 hm9 r9 μ9
      refine w_istore (l2 := [some (.ref w), some (.int (nI W)), some (.int (nI n)), some (.int (nI (bw (brd cl mem n W k) 24))), some (.int (nI k)), some (.int (nI (2 * (mem k) + W / 2 ^ (n - 1 - k) % 2)))]) hX dX7_goodMembers_28 (ltb rfl) rfl rfl ?_
      refine w_iload_n (i := 3) hX dX7_goodMembers_30 rfl rfl ?_
      refine w_aload_n (i := 0) hX dX7_goodMembers_31 rfl rfl ?_
      refine w_getR (q := w + 2) hX dX7_goodMembers_32 fo_RX7_17 rfl (wd_s hw) (wd_r1 hw) ?_
      refine w_iload hX dX7_goodMembers_35 rfl ?_
      refine w_ialdN hX dX7_goodMembers_37 (wd_a2 hw) (by omega) (by omega) ?_
      refine w_top (y := nI (bw (cl (2 * mem k + W / 2 ^ (n - 1 - k) % 2)) 24)) (hcl _ (by omega)) ?_
      refine w_ior hX dX7_goodMembers_38 ?_
      refine w_top (y := nI (bw (brd cl mem n W (k + 1)) 24)) ((fa_or _ _).trans (congrArg nI bw_or)) ?_
      refine w_istore_n (i := 3) (l2 := [some (.ref w), some (.int (nI W)), some (.int (nI n)), some (.int (nI (bw (brd cl mem n W (k + 1)) 24))), some (.int (nI k)), some (.int (nI (2 * (mem k) + W / 2 ^ (n - 1 - k) % 2)))]) hX dX7_goodMembers_39 rfl (ltb rfl) rfl rfl ?_
      refine w_iload_n (i := 3) hX dX7_goodMembers_40 rfl rfl ?_
      refine w_iload hX dX7_goodMembers_41 rfl ?_
      refine w_ishr hX dX7_goodMembers_43 ?_
      refine w_iconst hX dX7_goodMembers_44 kI_1 ?_
      refine w_iand hX dX7_goodMembers_45 ?_
      refine w_top (y := nI (if bdu cl mem (W / 2 ^ (n - 1 - k)) k = true then 1 else 0)) ((bit31 (by have := bw_31 (f := brd cl mem n W (k + 1)) (Nat.le_refl 24); omega) (by omega)).trans (congrArg nI (by rw [bw_tb, brd_bdr (by omega) (k + 1) (Nat.le_refl _)]; simp only [show 2 * mem k + W / 2 ^ (n - 1 - k) % 2 < 24 by omega, decide_true, Bool.true_and]; rfl))) ?_
      refine w_iconst hX dX7_goodMembers_46 kI_1 ?_
      refine wn_icmp_ne (tgt := 53) hX dX7_goodMembers_47 (by decide) (by first | omega | (split <;> omega)) (by first | omega | (split <;> omega)) (fun c2 => ?_) (fun c2 => ?_)
      · refine w_iincN (w := 1) (l2 := [some (.ref w), some (.int (nI W)), some (.int (nI n)), some (.int (nI (bw (brd cl mem n W (k + 1)) 24))), some (.int (nI (k + 1))), some (.int (nI (2 * (mem k) + W / 2 ^ (n - 1 - k) % 2)))]) hX dX7_goodMembers_53 rfl kI_1 rfl rfl ?_
        refine w_goto (tgt := 5) hX dX7_goodMembers_56 (by decide) ?_
        have hb0 : bdu cl mem (W / 2 ^ (n - 1 - k)) k = false := by rw [Bool.eq_false_iff]; intro h9; rw [if_pos h9] at c2; exact absurd rfl c2
        refine w_sub (l2 := [some (.ref w), some (.int (nI W)), some (.int (nI n)), some (.int (nI (bw (brd cl mem n W (k + 1)) 24))), some (.int (nI (k + 1))), none]) (by simp [lsub]) (leb rfl) ?_
        exact ih (by omega) (gdP_S (by omega) hgd hb0)
      · refine w_iload hX dX7_goodMembers_50 rfl ?_
        have hb1 : bdu cl mem (W / 2 ^ (n - 1 - k)) k = true := by by_cases h9 : bdu cl mem (W / 2 ^ (n - 1 - k)) k = true; exact h9; rw [if_neg h9] at c2; omega
        exact w_iret hX hE dX7_goodMembers_52 (Or.inl rfl) rfl ⟨k, rfl, rfl, Or.inr ⟨by omega, hb1⟩⟩
  refine w_locs (ls2 := [some (.ref w), some (.int (nI W)), some (.int (nI n)), some (.int (nI (bw (brd cl mem n W 0) 24))), some (.int (nI 0)), none]) (by rw [show bw (brd cl mem n W 0) 24 = 0 from by simp [bw, brd]]) ?_
  exact loop 0 (Nat.zero_le _) rfl
def szB (B : Nat → Nat) (bits : Nat) : Nat := cvV (fun i => bits.testBit i) (B 352)
def meB (B : Nat → Nat) (bits : Nat) : Nat → Nat := fun i => nwV (fun i => bits.testBit i) i (B 352)
def VS (B : Nat → Nat) (bits : Nat) : Nat → Bool := gdP (clB B) (meB B bits) (szB B bits)
def exB (B : Nat → Nat) (bits : Nat) : Bool := decide (0 < cvV (VS B bits) (2 ^ szB B bits))
theorem nwV_lt {V : Nat → Bool} {n : Nat} : ∀ v, n < cvV V v → nwV V n v < v := by
  intro v h
  obtain ⟨x, h1, h2, h3⟩ := nwV_ex v h
  rw [nwV_eq h2 h3 v h1]; exact h1
theorem meB_lt {B : Nat → Nat} {bits i : Nat} (h : i < szB B bits) : meB B bits i < B 352 := nwV_lt _ h
theorem szB_le {B : Nat → Nat} {bits : Nat} (h : WB B) : szB B bits ≤ 12 := Nat.le_trans (cvV_le _) h.2.2.2.2.1.1
/-- a bad one: all up to its mask are bad -/
theorem VS_skip {cl : Nat → Nat → Bool} {mem : Nat → Nat} {n g v : Nat} (hg : g < n) (h : bdu cl mem (v / 2 ^ (n - 1 - g)) g = true) : v ≤ v ||| (2 ^ (n - 1 - g) - 1) ∧ ∀ w, v ≤ w → w < (v ||| (2 ^ (n - 1 - g) - 1)) + 1 → gdP cl mem n w = false := by
  rw [or_mask]
  have hp := Nat.two_pow_pos (n - 1 - g)
  have e := Nat.div_add_mod v (2 ^ (n - 1 - g))
  have hm := Nat.mod_lt v hp
  refine ⟨by omega, fun w h1 h2 => bdu_no hg ?_⟩
  have e3 : w / 2 ^ (n - 1 - g) = v / 2 ^ (n - 1 - g) := by
    apply Nat.le_antisymm
    · rw [← Nat.lt_succ_iff, Nat.div_lt_iff_lt_mul hp]
      rw [Nat.succ_mul, Nat.mul_comm]; omega
    · exact Nat.div_le_div_right h1
  rw [e3]; exact h
theorem or_lt {v n g : Nat} (hv : v < 2 ^ n) (hg : g < n) : v ||| (2 ^ (n - 1 - g) - 1) < 2 ^ n := by
  refine Nat.or_lt_two_pow hv ?_
  have h1 : 2 ^ (n - 1 - g) ≤ 2 ^ n := Nat.pow_le_pow_right (by omega) (by omega)
  have h2 := Nat.two_pow_pos (n - 1 - g)
  omega
theorem p12 {n : Nat} (h : n ≤ 12) : 2 ^ n ≤ 4096 := Nat.pow_le_pow_right (n := 2) (by omega) h
set_option maxHeartbeats 1000000 in
theorem s_w_canStand (Γ : Gm) (μ : Mem) (w : Nat) (hw : isWd μ w) (B : Nat → Nat) (hW : WB B) (hP : gI μ w 6 = nI (B 352)) (hP12 : B 352 ≤ 12) (hcl : ∀ i, i < 2 * B 352 → gI μ (w + 2) i = nI (bw (clB B i) 24)) (bits : Nat) (hbits : bits < 2 ^ 31) : SpI Γ MX7_canStand 2 0 0 [.ref w, .int (nI bits)] μ (fun r μ2 => r = bI (exB B bits) ∧ same (fun o _ => o = w + 5) μ μ2) := by
  refine SpI.of okX7_canStand rfl [some (.ref w), some (.int (nI bits)), none, none, none] ⟨rfl, rfl, trivial⟩ (leb rfl) (leb rfl) (fun X hX hE hnm => ?_)
  refine w_aload_n (i := 0) hX dX7_canStand_0 rfl rfl ?_
  refine w_iload_n (i := 1) hX dX7_canStand_1 rfl rfl ?_
  refine w_callVI (As := [.int (nI bits)]) (rest := []) (ci := 7) (o := w) (k2 := 0) (n2 := 0) hX dX7_canStand_2 (s_w_select Γ μ w hw (B 352) hP hP12 bits (by omega)) okX7_selectMembers (ltb rfl) (wd_s hw) ml_RX7_122 imX7_selectMembers seX7_selectMembers rfl (leb rfl) (leb rfl) rfl rfl (fun r9 ν hq9 => ?_)
  obtain ⟨hr9, hme, hs⟩ := hq9; rw [hr9]
  have hws := hs.isWd hw
  have hsz := szB_le (bits := bits) hW
  have h4096 := p12 hsz
  refine w_istore_n (i := 2) (l2 := [some (.ref w), some (.int (nI bits)), some (.int (nI (szB B bits))), none, none]) hX dX7_canStand_5 rfl (ltb rfl) rfl rfl ?_
  refine w_iconst hX dX7_canStand_6 kI_0 ?_
  refine w_istore_n (i := 3) (l2 := [some (.ref w), some (.int (nI bits)), some (.int (nI (szB B bits))), some (.int (nI 0)), none]) hX dX7_canStand_7 rfl (ltb rfl) rfl rfl ?_
  have hcl2 : ∀ i, i < 2 * B 352 → gI ν (w + 2) i = nI (bw (clB B i) 24) := fun i hi => by rw [(hs.2.2 _ _ (fun h => by omega)).1]; exact hcl i hi
  have loop : ∀ q, q ≤ 2 ^ szB B bits → ∀ v, v = 2 ^ szB B bits - q → cvV (VS B bits) v = 0 → WP Γ X 0 0 8 [some (.ref w), some (.int (nI bits)), some (.int (nI (szB B bits))), some (.int (nI v)), none] [] ν := by
    intro q
    induction q using Nat.strongRecOn with
    | ind q ih =>
      intro hq v hv h0
      refine w_iload_n (i := 3) hX dX7_canStand_8 rfl rfl ?_
      refine w_iconst hX dX7_canStand_9 kI_1 ?_
      refine w_iload_n (i := 2) hX dX7_canStand_10 rfl rfl ?_
      refine w_ishl hX dX7_canStand_11 ?_
      refine w_top (y := nI (2 ^ szB B bits)) (shl_nI (by omega)) ?_
      refine wn_icmp_ge (tgt := 46) hX dX7_canStand_12 (by decide) (by first | omega | (rcases hg with h | h <;> omega)) (by first | omega | (rcases hg with h | h <;> omega)) (fun c1 => ?_) (fun c1 => ?_)
      · refine w_iconst hX dX7_canStand_46 kI_0 ?_
        exact w_iret hX hE dX7_canStand_47 (Or.inl rfl) rfl ⟨bI_2 (decide_eq_false (by rw [show 2 ^ szB B bits = v by omega, h0]; omega)), hs⟩
      · refine w_aload_n (i := 0) hX dX7_canStand_15 rfl rfl ?_
        refine w_iload_n (i := 3) hX dX7_canStand_16 rfl rfl ?_
        refine w_iload_n (i := 2) hX dX7_canStand_17 rfl rfl ?_
        refine w_callVI (As := [.int (nI v), .int (nI (szB B bits))]) (rest := []) (ci := 7) (o := w) (k2 := 0) (n2 := 0) hX dX7_canStand_18 (s_w_good Γ ν w hws (szB B bits) v hsz (by omega) (clB B) (meB B bits) (B 352) hP12 (fun i hi => meB_lt hi) hme hcl2) okX7_goodMembers (ltb rfl) (wd_s hws) ml_RX7_125 imX7_goodMembers seX7_goodMembers rfl (leb rfl) (leb rfl) rfl rfl (fun r9 μ9 hq9 => ?_)
        obtain ⟨g, hr9, hm9, hg⟩ := hq9; rw [hr9, hm9]
        clear hr9 hm9 r9 μ9
        refine w_istore (l2 := [some (.ref w), some (.int (nI bits)), some (.int (nI (szB B bits))), some (.int (nI v)), some (.int (nI g))]) hX dX7_canStand_21 (ltb rfl) rfl rfl ?_
        refine w_iload hX dX7_canStand_23 rfl ?_
        refine w_iload_n (i := 2) hX dX7_canStand_25 rfl rfl ?_
        have hgn : g ≤ szB B bits := by rcases hg with h | h <;> omega
        refine wn_icmp_ne (tgt := 31) hX dX7_canStand_26 (by decide) (by first | omega | (rcases hg with h | h <;> omega)) (by first | omega | (rcases hg with h | h <;> omega)) (fun c2 => ?_) (fun c2 => ?_)
        · refine w_iload_n (i := 3) hX dX7_canStand_31 rfl rfl ?_
          refine w_iload_n (i := 2) hX dX7_canStand_32 rfl rfl ?_
          refine w_iload hX dX7_canStand_33 rfl ?_
          have hgn2 : g < szB B bits := by omega
          refine w_callSI (As := [.int (nI (szB B bits)), .int (nI g)]) (rest := [.int (nI v)]) (k2 := 0) (n2 := 0) hX dX7_canStand_35 (s_w_alike Γ ν (szB B bits) g hsz (by omega)) okX7_alikeBelow ml_RX7_132 stX7_alikeBelow rfl (leb rfl) (leb rfl) rfl rfl (fun r9 μ9 hq9 => ?_)
          obtain ⟨hr9, hm9⟩ := hq9; rw [hr9, hm9]; clear hr9 hm9 r9 μ9
          refine w_ior hX dX7_canStand_38 ?_
          refine w_top (y := nI ((v ||| (2 ^ (szB B bits - 1 - g) - 1)))) (fa_or _ _) ?_
          refine w_istore_n (i := 3) (l2 := [some (.ref w), some (.int (nI bits)), some (.int (nI (szB B bits))), some (.int (nI ((v ||| (2 ^ (szB B bits - 1 - g) - 1))))), some (.int (nI g))]) hX dX7_canStand_39 rfl (ltb rfl) rfl rfl ?_
          refine w_iincN (w := 1) (l2 := [some (.ref w), some (.int (nI bits)), some (.int (nI (szB B bits))), some (.int (nI ((v ||| (2 ^ (szB B bits - 1 - g) - 1)) + 1))), some (.int (nI g))]) hX dX7_canStand_40 rfl kI_1 rfl rfl ?_
          refine w_goto (tgt := 8) hX dX7_canStand_43 (by decide) ?_
          have hgb : g < szB B bits ∧ bdu (clB B) (meB B bits) (v / 2 ^ (szB B bits - 1 - g)) g = true := by rcases hg with h | h; (exact absurd h.1 (by omega)); exact h
          have hsk := VS_skip hgb.1 hgb.2
          have hol := or_lt (v := v) (n := szB B bits) (by omega) hgb.1
          refine w_sub (l2 := [some (.ref w), some (.int (nI bits)), some (.int (nI (szB B bits))), some (.int (nI ((v ||| (2 ^ (szB B bits - 1 - g) - 1)) + 1))), none]) (by simp [lsub]) (leb rfl) ?_
          refine ih (2 ^ szB B bits - ((v ||| (2 ^ (szB B bits - 1 - g) - 1)) + 1)) (by omega) (by omega) _ (by omega) ?_
          rw [← h0]
          exact skip2 (F := cvV (VS B bits)) (by omega) (fun w h1 h2 => cvV_no (hsk.2 w h1 h2))
        · refine w_iconst hX dX7_canStand_29 kI_1 ?_
          have hgv : VS B bits v = true := by rcases hg with h | h; (exact h.2); exact absurd h.1 (by omega)
          have hlt := cvV_lt hgv (show v < 2 ^ szB B bits by omega)
          exact w_iret hX hE dX7_canStand_30 (Or.inl rfl) rfl ⟨bI_1 (decide_eq_true (by omega)), hs⟩
  exact loop (2 ^ szB B bits) (Nat.le_refl _) 0 (by omega) rfl
