theorem cmp1 {x b : Nat} (hx : x < 2 ^ 64) (hb : b < 64) : lg_cmp (((lN x).toUInt64 >>> ((nI b).toInt64.toUInt64 &&& Int64.toUInt64 63)).toInt64 &&& (1 : Int64)) (1 : Int64) = nI 0 ↔ x.testBit b = true := by
  rw [lM_ushr hx hb, show (1 : Int64) = lN 1 from rfl, lM_and]
  have h1 : x / 2 ^ b &&& 1 = if x.testBit b = true then 1 else 0 := by rw [Nat.and_one_is_mod, tb_dm]
  rw [h1]
  by_cases h : x.testBit b = true
  · rw [if_pos h]; exact ⟨fun _ => h, fun _ => by decide⟩
  · rw [if_neg h]; exact ⟨fun e => absurd e (by decide), fun e => absurd e h⟩
theorem cv_pcn {V : Nat → Bool} {v k : Nat} : ∀ b, b ≤ 64 → 64 * k + b ≤ v → cvV V (64 * k + b) = cvV V (64 * k) + pcn (wdF V v k) b := by
  intro b
  induction b with
  | zero => intro _ _; rfl
  | succ b ih =>
    intro hb hv
    rw [show 64 * k + (b + 1) = 64 * k + b + 1 by omega, pcn_k]
    simp only [cvV]
    rw [ih (by omega) (by omega)]
    have : (wdF V v k).testBit b = V (64 * k + b) := by unfold wdF; rw [bw_tb]; simp [show b < 64 by omega, show 64 * k + b < v by omega]
    rw [this]; omega
theorem wdF_lt {V : Nat → Bool} {v k : Nat} : wdF V v k < 2 ^ 64 := bw_lt 64
set_option maxHeartbeats 1000000 in
theorem s_w_nthBit (Γ : Gm) (μ : Mem) (x n : Nat) (hx : x < 2 ^ 64) (hn : n < pcn x 64) : SpI Γ MX7_nthBit 0 0 0 [.long (lN x), .int (nI n)] μ (fun r μ2 => ∃ b, r = nI b ∧ μ2 = μ ∧ b < 64 ∧ x.testBit b = true ∧ pcn x b = n) := by
  refine SpI.of okX7_nthBit rfl [some (.long (lN x)), none, some (.int (nI n)), none, none] ⟨rfl, rfl, trivial⟩ (leb rfl) (leb rfl) (fun X hX hE hnm => ?_)
  refine w_iload_n (i := 2) hX dX7_nthBit_0 rfl rfl ?_
  refine w_istore_n (i := 3) (l2 := [some (.long (lN x)), none, some (.int (nI n)), some (.int (nI n)), none]) hX dX7_nthBit_1 rfl (ltb rfl) rfl rfl ?_
  refine w_iconst hX dX7_nthBit_2 kI_0 ?_
  refine w_istore (l2 := [some (.long (lN x)), none, some (.int (nI n)), some (.int (nI n)), some (.int (nI 0))]) hX dX7_nthBit_3 (ltb rfl) rfl rfl ?_
  have loop : ∀ k, k ≤ 64 → pcn x k ≤ n → WP Γ X 0 0 5 [some (.long (lN x)), none, some (.int (nI n)), some (.int (nI (n - pcn x k))), some (.int (nI k))] [] μ := by
    refine loopU 64 ?_
    intro k hk ih hle
    have hpl := pcn_le (x := x) 64
    refine w_iload hX dX7_nthBit_5 rfl ?_
    refine w_bipush hX dX7_nthBit_7 kB_64 ?_
    refine wn_icmp_ge (tgt := 39) hX dX7_nthBit_9 (by decide) (by omega) (by omega) (fun c1 => ?_) (fun c1 => ?_)
    · refine w_iconst hX dX7_nthBit_39 kI_0 ?_
      rw [show k = 64 by omega] at hle; exact absurd hn (by omega)
    · refine w_lload_n (i := 0) hX dX7_nthBit_12 rfl rfl ?_
      refine w_iload hX dX7_nthBit_13 rfl ?_
      refine w_lushr hX dX7_nthBit_15 ?_
      refine w_lconst (v := 1) hX dX7_nthBit_16 rfl ?_
      refine w_land hX dX7_nthBit_17 ?_
      refine w_lconst (v := 1) hX dX7_nthBit_18 rfl ?_
      refine w_lcmp hX dX7_nthBit_19 ?_
      refine wc_if_ne (tgt := 33) hX dX7_nthBit_20 (by decide) (fun c2 => ?_) (fun c2 => ?_)
      · refine w_iincN (w := 1) (l2 := [some (.long (lN x)), none, some (.int (nI n)), some (.int (nI (n - pcn x k))), some (.int (nI (k + 1)))]) hX dX7_nthBit_33 rfl kI_1 rfl rfl ?_
        refine w_goto (tgt := 5) hX dX7_nthBit_36 (by decide) ?_
        have ht : ¬ x.testBit k = true := fun h9 => c2 ((cmp1 hx (show k < 64 by omega)).mpr h9)
        have e9 : pcn x (k + 1) = pcn x k := by rw [pcn_k, if_neg ht]; rfl
        refine w_locs (ls2 := [some (.long (lN x)), none, some (.int (nI n)), some (.int (nI (n - pcn x (k + 1)))), some (.int (nI (k + 1)))]) (by rw [e9]) ?_
        exact ih (by omega) (by omega)
      · refine w_iload_n (i := 3) hX dX7_nthBit_23 rfl rfl ?_
        refine wn_if_ne (tgt := 30) hX dX7_nthBit_24 (by decide) (by omega) (fun c3 => ?_) (fun c3 => ?_)
        · refine w_iincM (l2 := [some (.long (lN x)), none, some (.int (nI n)), some (.int (nI (n - pcn x k - 1))), some (.int (nI k))]) hX dX7_nthBit_30 rfl kI_m1 (by omega) rfl rfl ?_
          refine w_iincN (w := 1) (l2 := [some (.long (lN x)), none, some (.int (nI n)), some (.int (nI (n - pcn x k - 1))), some (.int (nI (k + 1)))]) hX dX7_nthBit_33 rfl kI_1 rfl rfl ?_
          refine w_goto (tgt := 5) hX dX7_nthBit_36 (by decide) ?_
          have ht := (cmp1 hx (show k < 64 by omega)).mp c2
          have e9 : pcn x (k + 1) = pcn x k + 1 := by rw [pcn_k, if_pos ht]
          refine w_locs (ls2 := [some (.long (lN x)), none, some (.int (nI n)), some (.int (nI (n - pcn x (k + 1)))), some (.int (nI (k + 1)))]) (by rw [e9, Nat.sub_sub]) ?_
          exact ih (by omega) (by omega)
        · refine w_iload hX dX7_nthBit_27 rfl ?_
          exact w_iret hX hE dX7_nthBit_29 (Or.inl rfl) rfl ⟨k, rfl, rfl, by omega, (cmp1 hx (show k < 64 by omega)).mp c2, by omega⟩
  exact loop 0 (Nat.zero_le _) (Nat.zero_le _)
def ctV (V : Nat → Bool) (N : Nat) : Nat → Bool := fun x => decide (x < N) && V x
theorem ct_pcn {V : Nat → Bool} {N k : Nat} : ∀ b, b ≤ 64 → cvV (ctV V N) (64 * k + b) = cvV (ctV V N) (64 * k) + pcn (wdF V N k) b := by
  intro b
  induction b with
  | zero => intro _; rfl
  | succ b ih =>
    intro hb
    rw [show 64 * k + (b + 1) = 64 * k + b + 1 by omega, pcn_k]
    simp only [cvV]
    rw [ih (by omega)]
    have : (wdF V N k).testBit b = ctV V N (64 * k + b) := by unfold wdF ctV; rw [bw_tb]; simp [show b < 64 by omega]
    rw [this]; omega
theorem ctv_e {V : Nat → Bool} {N : Nat} : ∀ x, x ≤ N → cvV (ctV V N) x = cvV V x := by
  intro x
  induction x with
  | zero => intro _; rfl
  | succ x ih => intro h; simp only [cvV]; rw [ih (by omega)]; simp [ctV, show x < N by omega]
set_option maxHeartbeats 1000000 in
theorem s_w_nth (Γ : Gm) (μ : Mem) (w : Nat) (B : Nat → Nat) (hw : isWd μ w) (hW : WB B) (hc : wCon μ w B) (n : Nat) (hn : n < cvV (VF B) (2 ^ B 352)) : SpI Γ MX7_nthWorld 1 0 0 [.ref w, .int (nI n)] μ (fun r μ2 => ∃ x, r = nI x ∧ μ2 = μ ∧ x < (2 ^ B 352) ∧ VF B x = true ∧ cvV (VF B) x = n) := by
  refine SpI.of okX7_nthWorld rfl [some (.ref w), some (.int (nI n)), none, none, none] ⟨rfl, rfl, trivial⟩ (leb rfl) (leb rfl) (fun X hX hE hnm => ?_)
  refine w_iload_n (i := 1) hX dX7_nthWorld_0 rfl rfl ?_
  refine w_istore_n (i := 2) (l2 := [some (.ref w), some (.int (nI n)), some (.int (nI n)), none, none]) hX dX7_nthWorld_1 rfl (ltb rfl) rfl rfl ?_
  refine w_iconst hX dX7_nthWorld_2 kI_0 ?_
  refine w_istore_n (i := 3) (l2 := [some (.ref w), some (.int (nI n)), some (.int (nI n)), some (.int (nI 0)), none]) hX dX7_nthWorld_3 rfl (ltb rfl) rfl rfl ?_
  have h4096 := p12 hW.2.2.2.2.1.1
  have hcn := cvV_le (V := (VF B)) (2 ^ B 352)
  have loop : ∀ k, k ≤ 64 → cvV (ctV (VF B) (2 ^ B 352)) (64 * k) ≤ n → WP Γ X 0 0 4 [some (.ref w), some (.int (nI n)), some (.int (nI (n - cvV (ctV (VF B) (2 ^ B 352)) (64 * k)))), some (.int (nI k)), none] [] μ := by
    refine loopU 64 ?_
    intro k hk ih hle
    have hpl := pcn_le (x := wdF (VF B) (2 ^ B 352) k) 64
    have hst := ct_pcn (V := (VF B)) (N := (2 ^ B 352)) (k := k) 64 (by omega)
    refine w_iload_n (i := 3) hX dX7_nthWorld_4 rfl rfl ?_
    refine w_aload_n (i := 0) hX dX7_nthWorld_5 rfl rfl ?_
    refine w_getR (q := w + 4) hX dX7_nthWorld_6 fo_RX7_23 rfl (wd_s hw) (wd_r3 hw) ?_
    refine w_alen (len := 64) hX (ltb rfl) dX7_nthWorld_9 (wd_a4 hw) ?_
    refine wn_icmp_ge (tgt := 57) hX dX7_nthWorld_10 (by decide) (by omega) (by omega) (fun c1 => ?_) (fun c1 => ?_)
    · refine w_iconst hX dX7_nthWorld_57 kI_0 ?_
      have h7 := cvV_mono (V := (ctV (VF B) (2 ^ B 352))) (a := (2 ^ B 352)) (64 * k) (by omega)
      rw [ctv_e _ (Nat.le_refl _)] at h7
      exact absurd hn (by omega)
    · refine w_aload_n (i := 0) hX dX7_nthWorld_13 rfl rfl ?_
      refine w_getR (q := w + 4) hX dX7_nthWorld_14 fo_RX7_23 rfl (wd_s hw) (wd_r3 hw) ?_
      refine w_iload_n (i := 3) hX dX7_nthWorld_17 rfl rfl ?_
      refine w_laldN hX dX7_nthWorld_18 (wd_a4 hw) (by omega) (by omega) ?_
      refine w_topL (y := lN (wdF (VF B) (2 ^ B 352) k)) (hc.2.2.2.1.1 k (by omega)) ?_
      refine w_callSI (As := [.long (lN (wdF (VF B) (2 ^ B 352) k))]) (rest := []) (k2 := 0) (n2 := 0) hX dX7_nthWorld_19 (s_bcL Γ μ (wdF (VF B) (2 ^ B 352) k) wdF_lt) okJ13_bitCount_95d88 ml_RX7_135 stJ13_bitCount_95d88 rfl (leb rfl) (leb rfl) rfl rfl (fun r9 μ9 hq9 => ?_)
      obtain ⟨hr9, hm9⟩ := hq9; rw [hr9, hm9]; clear hr9 hm9 r9 μ9
      refine w_istore (l2 := [some (.ref w), some (.int (nI n)), some (.int (nI (n - cvV (ctV (VF B) (2 ^ B 352)) (64 * k)))), some (.int (nI k)), some (.int (nI (pcn (wdF (VF B) (2 ^ B 352) k) 64)))]) hX dX7_nthWorld_22 (ltb rfl) rfl rfl ?_
      refine w_iload_n (i := 2) hX dX7_nthWorld_24 rfl rfl ?_
      refine w_iload hX dX7_nthWorld_25 rfl ?_
      refine wn_icmp_ge (tgt := 46) hX dX7_nthWorld_27 (by decide) (by omega) (by omega) (fun c2 => ?_) (fun c2 => ?_)
      · refine w_iload_n (i := 2) hX dX7_nthWorld_46 rfl rfl ?_
        refine w_iload hX dX7_nthWorld_47 rfl ?_
        refine w_isubN hX dX7_nthWorld_49 (by omega) ?_
        refine w_istore_n (i := 2) (l2 := [some (.ref w), some (.int (nI n)), some (.int (nI (n - cvV (ctV (VF B) (2 ^ B 352)) (64 * k) - (pcn (wdF (VF B) (2 ^ B 352) k) 64)))), some (.int (nI k)), some (.int (nI (pcn (wdF (VF B) (2 ^ B 352) k) 64)))]) hX dX7_nthWorld_50 rfl (ltb rfl) rfl rfl ?_
        refine w_iincN (w := 1) (l2 := [some (.ref w), some (.int (nI n)), some (.int (nI (n - cvV (ctV (VF B) (2 ^ B 352)) (64 * k) - (pcn (wdF (VF B) (2 ^ B 352) k) 64)))), some (.int (nI (k + 1))), some (.int (nI (pcn (wdF (VF B) (2 ^ B 352) k) 64)))]) hX dX7_nthWorld_51 rfl kI_1 rfl rfl ?_
        refine w_goto (tgt := 4) hX dX7_nthWorld_54 (by decide) ?_
        refine w_sub (l2 := [some (.ref w), some (.int (nI n)), some (.int (nI (n - cvV (ctV (VF B) (2 ^ B 352)) (64 * k) - (pcn (wdF (VF B) (2 ^ B 352) k) 64)))), some (.int (nI (k + 1))), none]) (by simp [lsub]) (leb rfl) ?_
        refine w_locs (ls2 := [some (.ref w), some (.int (nI n)), some (.int (nI (n - cvV (ctV (VF B) (2 ^ B 352)) (64 * (k + 1))))), some (.int (nI (k + 1))), none]) (by rw [show n - cvV (ctV (VF B) (2 ^ B 352)) (64 * k) - pcn (wdF (VF B) (2 ^ B 352) k) 64 = n - cvV (ctV (VF B) (2 ^ B 352)) (64 * (k + 1)) by rw [show 64 * (k + 1) = 64 * k + 64 by omega]; omega]) ?_
        exact ih (by omega) (by rw [show 64 * (k + 1) = 64 * k + 64 by omega]; omega)
      · refine w_iload_n (i := 3) hX dX7_nthWorld_30 rfl rfl ?_
        refine w_bipush hX dX7_nthWorld_31 kB_64 ?_
        refine w_imulN hX dX7_nthWorld_33 ?_
        refine w_aload_n (i := 0) hX dX7_nthWorld_34 rfl rfl ?_
        refine w_getR (q := w + 4) hX dX7_nthWorld_35 fo_RX7_23 rfl (wd_s hw) (wd_r3 hw) ?_
        refine w_iload_n (i := 3) hX dX7_nthWorld_38 rfl rfl ?_
        refine w_laldN hX dX7_nthWorld_39 (wd_a4 hw) (by omega) (by omega) ?_
        refine w_topL (y := lN (wdF (VF B) (2 ^ B 352) k)) (hc.2.2.2.1.1 k (by omega)) ?_
        refine w_iload_n (i := 2) hX dX7_nthWorld_40 rfl rfl ?_
        refine w_callSI (As := [.long (lN (wdF (VF B) (2 ^ B 352) k)), .int (nI (n - cvV (ctV (VF B) (2 ^ B 352)) (64 * k)))]) (rest := [.int (nI (k * 64))]) (k2 := 0) (n2 := 0) hX dX7_nthWorld_41 (s_w_nthBit Γ μ (wdF (VF B) (2 ^ B 352) k) (n - cvV (ctV (VF B) (2 ^ B 352)) (64 * k)) wdF_lt (by omega)) okX7_nthBit ml_RX7_140 stX7_nthBit rfl (leb rfl) (leb rfl) rfl rfl (fun r9 μ9 hq9 => ?_)
        obtain ⟨b9, hr9, hm9, hb1, hb2, hb3⟩ := hq9; rw [hr9, hm9]
        clear hr9 hm9 r9 μ9
        refine w_iaddN hX dX7_nthWorld_44 ?_
        have hx := ct_pcn (V := (VF B)) (N := (2 ^ B 352)) (k := k) b9 (by omega)
        have hv : ctV (VF B) (2 ^ B 352) (64 * k + b9) = true := by rw [← hb2]; unfold wdF ctV; rw [bw_tb]; simp [hb1]
        have hv2 := hv; simp only [ctV, Bool.and_eq_true, decide_eq_true_eq] at hv2
        exact w_iret hX hE dX7_nthWorld_45 (Or.inl rfl) rfl ⟨64 * k + b9, by rw [Nat.mul_comm], rfl, hv2.1, hv2.2, by rw [← ctv_e (N := (2 ^ B 352)) _ (Nat.le_of_lt hv2.1)]; omega⟩
  refine w_locs (ls2 := [some (.ref w), some (.int (nI n)), some (.int (nI (n - cvV (ctV (VF B) (2 ^ B 352)) (64 * 0)))), some (.int (nI 0)), none]) (by rfl) ?_
  exact loop 0 (Nat.zero_le _) (Nat.zero_le _)
