theorem mt_ne0 {B : Nat → Nat} {v q c : Nat} (hc : c < 2) (hq : q < B 352) : mtF B v (2 * q + c) ≠ 0 ↔ hcV (VF B) (B 352) c q v = true := by
  rw [← mt_hc hc]
  constructor
  · intro h
    refine Classical.byContradiction (fun h2 => h ?_)
    refine bw_none _ (fun j => ?_)
    rw [Bool.eq_false_iff]
    exact fun h3 => h2 (mt_l v h3)
  · intro h h0
    have h1 : (mtF B v (2 * q + c)).testBit (2 * q + c) = true := by unfold mtF; rw [bw_tb, h]; simp; omega
    rw [h0] at h1
    simp at h1
def h01 (B : Nat → Nat) (c q : Nat) : Bool := hcV (VF B) (B 352) c q (2 ^ B 352)
def E_sure (B : Nat → Nat) (q : Nat) : Int32 := if h01 B 0 q = h01 B 1 q then -1 else nI (mcB B (2 * q + if h01 B 0 q = true then 0 else 1))
set_option maxHeartbeats 1000000 in
theorem s_w_momentIn (Γ : Gm) (μ : Mem) (w : Nat) (B : Nat → Nat) (hw : isWd μ w) (hW : WB B) (hc : wCon μ w B) (n q : Nat) (hn : n < cvV (VF B) (2 ^ B 352)) (hq : q < B 352) : SpI Γ MX7_momentIn 2 0 0 [.ref w, .int (nI n), .int (nI q)] μ (fun r μ2 => r = nI (mcB B (2 * q + pkb (B 352) (nwV (VF B) n (2 ^ B 352)) q)) ∧ μ2 = μ) := by
  refine SpI.of okX7_momentIn rfl [some (.ref w), some (.int (nI n)), some (.int (nI q)), none] ⟨rfl, rfl, rfl, trivial⟩ (leb rfl) (leb rfl) (fun X hX hE hnm => ?_)
  refine w_aload_n (i := 0) hX dX7_momentIn_0 rfl rfl ?_
  refine w_iload_n (i := 1) hX dX7_momentIn_1 rfl rfl ?_
  refine w_callVI (As := [.int (nI n)]) (rest := []) (ci := 7) (o := w) (k2 := 0) (n2 := 0) hX dX7_momentIn_2 (s_w_nth Γ μ w B hw hW hc n hn) okX7_nthWorld (ltb rfl) (wd_s hw) ml_RX7_66 imX7_nthWorld seX7_nthWorld rfl (leb rfl) (leb rfl) rfl rfl (fun r9 μ9 hq9 => ?_)
  obtain ⟨x9, hr9, hm9, hx1, hx2, hx3⟩ := hq9; rw [hr9, hm9]
  clear hr9 hm9 r9 μ9
  have hP12 := hW.2.2.2.2.1.1
  have h4096 := p12 hP12
  have hnw := nwV_eq hx2 hx3 _ hx1
  refine w_istore_n (i := 3) (l2 := [some (.ref w), some (.int (nI n)), some (.int (nI q)), some (.int (nI x9))]) hX dX7_momentIn_5 rfl (ltb rfl) rfl rfl ?_
  refine w_aload_n (i := 0) hX dX7_momentIn_6 rfl rfl ?_
  refine w_getR (q := w + 1) hX dX7_momentIn_7 fo_RX7_13 rfl (wd_s hw) (wd_r0 hw) ?_
  refine w_iload_n (i := 3) hX dX7_momentIn_10 rfl rfl ?_
  refine w_iload_n (i := 2) hX dX7_momentIn_11 rfl rfl ?_
  refine w_aload_n (i := 0) hX dX7_momentIn_12 rfl rfl ?_
  refine w_getI hX dX7_momentIn_13 fo_RX7_38 rfl (wd_s hw) ?_
  refine w_top (y := nI (B 352)) hc.1 ?_
  refine w_iconst hX dX7_momentIn_16 kI_1 ?_
  refine w_isubN hX dX7_momentIn_17 (by omega) ?_
  refine w_iload_n (i := 2) hX dX7_momentIn_18 rfl rfl ?_
  refine w_isubN hX dX7_momentIn_19 (by omega) ?_
  refine w_callSI (As := [.int (nI x9), .int (nI q), .int (nI (B 352 - 1 - q))]) (rest := [.ref (w + 1)]) (k2 := 0) (n2 := 0) hX dX7_momentIn_20 (s_w_pickOf Γ μ x9 q (B 352 - 1 - q) (by omega) (by omega)) okX7_pickOf ml_RX7_70 stX7_pickOf rfl (leb rfl) (leb rfl) rfl rfl (fun r9 μ9 hq9 => ?_)
  obtain ⟨hr9, hm9⟩ := hq9; rw [hr9, hm9]; clear hr9 hm9 r9 μ9
  refine w_ialdN hX dX7_momentIn_23 (wd_a1 hw) (by have : x9 / 2 ^ (B 352 - 1 - q) % 2 < 2 := Nat.mod_lt _ (by omega); omega) (by omega) ?_
  refine w_top (y := nI (mcB B (2 * q + pkb (B 352) (nwV (VF B) n (2 ^ B 352)) q))) (by rw [hnw]; exact hc.2.1 _ (by have : x9 / 2 ^ (B 352 - 1 - q) % 2 < 2 := Nat.mod_lt _ (by omega); omega)) ?_
  exact w_iret hX hE dX7_momentIn_24 (Or.inl rfl) rfl ⟨rfl, rfl⟩
set_option maxHeartbeats 1000000 in
theorem s_w_sure (Γ : Gm) (μ : Mem) (w : Nat) (B : Nat → Nat) (hw : isWd μ w) (hW : WB B) (hc : wCon μ w B) (q : Nat) (hq : q < B 352) : SpI Γ MX7_sureMoment 0 0 0 [.ref w, .int (nI q)] μ (fun r μ2 => r = E_sure B q ∧ μ2 = μ) := by
  refine SpI.of okX7_sureMoment rfl [some (.ref w), some (.int (nI q)), none, none] ⟨rfl, rfl, trivial⟩ (leb rfl) (leb rfl) (fun X hX hE hnm => ?_)
  have hP12 := hW.2.2.2.2.1.1
  have m0 := mt_ne0 (B := B) (v := (2 ^ B 352)) (c := 0) (by omega) hq; have m1 := mt_ne0 (B := B) (v := (2 ^ B 352)) (c := 1) (by omega) hq
  have l0 : mtF B (2 ^ B 352) (2 * q) < 2 ^ 24 := bw_31 (by omega); have l1 : mtF B (2 ^ B 352) (2 * q + 1) < 2 ^ 24 := bw_31 (by omega)
  refine w_aload_n (i := 0) hX dX7_sureMoment_0 rfl rfl ?_
  refine w_getR (q := w + 3) hX dX7_sureMoment_1 fo_RX7_20 rfl (wd_s hw) (wd_r2 hw) ?_
  refine w_iconst hX dX7_sureMoment_4 kI_2 ?_
  refine w_iload_n (i := 1) hX dX7_sureMoment_5 rfl rfl ?_
  refine w_imulN hX dX7_sureMoment_6 ?_
  refine w_ialdN hX dX7_sureMoment_7 (wd_a3 hw) (by omega) (by omega) ?_
  refine w_top (y := nI (mtF B (2 ^ B 352) (2 * q))) (hc.2.2.2.1.2.2 _ (by omega)) ?_
  refine wn_if_eq (tgt := 15) hX dX7_sureMoment_8 (by decide) (by omega) (fun c1 => ?_) (fun c1 => ?_)
  · refine w_iconst hX dX7_sureMoment_15 kI_0 ?_
    refine w_istore_n (i := 2) (l2 := [some (.ref w), some (.int (nI q)), some (.int (nI 0)), none]) hX dX7_sureMoment_16 rfl (ltb rfl) rfl rfl ?_
    refine w_aload_n (i := 0) hX dX7_sureMoment_17 rfl rfl ?_
    refine w_getR (q := w + 3) hX dX7_sureMoment_18 fo_RX7_20 rfl (wd_s hw) (wd_r2 hw) ?_
    refine w_iconst hX dX7_sureMoment_21 kI_2 ?_
    refine w_iload_n (i := 1) hX dX7_sureMoment_22 rfl rfl ?_
    refine w_imulN hX dX7_sureMoment_23 ?_
    refine w_iconst hX dX7_sureMoment_24 kI_1 ?_
    refine w_iaddN hX dX7_sureMoment_25 ?_
    refine w_ialdN hX dX7_sureMoment_26 (wd_a3 hw) (by omega) (by omega) ?_
    refine w_top (y := nI (mtF B (2 ^ B 352) (2 * q + 1))) (hc.2.2.2.1.2.2 _ (by omega)) ?_
    refine wn_if_eq (tgt := 34) hX dX7_sureMoment_27 (by decide) (by omega) (fun c2 => ?_) (fun c2 => ?_)
    · refine w_iconst hX dX7_sureMoment_34 kI_0 ?_
      refine w_istore_n (i := 3) (l2 := [some (.ref w), some (.int (nI q)), some (.int (nI 0)), some (.int (nI 0))]) hX dX7_sureMoment_35 rfl (ltb rfl) rfl rfl ?_
      refine w_iload_n (i := 2) hX dX7_sureMoment_36 rfl rfl ?_
      refine w_iload_n (i := 3) hX dX7_sureMoment_37 rfl rfl ?_
      refine wn_icmp_ne (tgt := 43) hX dX7_sureMoment_38 (by decide) (by omega) (by omega) (fun c3 => ?_) (fun c3 => ?_)
      · exact absurd c3 (by decide)
      · refine w_iconst hX dX7_sureMoment_41 kI_m1 ?_
        refine w_iret hX hE dX7_sureMoment_42 (Or.inl rfl) rfl ⟨?_, rfl⟩
        unfold E_sure h01
        have q0 : hcV (VF B) (B 352) 0 q (2 ^ B 352) = decide (mtF B (2 ^ B 352) (2 * q) ≠ 0) := by rw [Bool.eq_iff_iff, ← m0]; simp
        have q1 : hcV (VF B) (B 352) 1 q (2 ^ B 352) = decide (mtF B (2 ^ B 352) (2 * q + 1) ≠ 0) := by rw [Bool.eq_iff_iff, ← m1]; simp
        rw [q0, q1]; simp [c1, c2]
    · refine w_iconst hX dX7_sureMoment_30 kI_1 ?_
      refine w_goto (tgt := 35) hX dX7_sureMoment_31 (by decide) ?_
      refine w_istore_n (i := 3) (l2 := [some (.ref w), some (.int (nI q)), some (.int (nI 0)), some (.int (nI 1))]) hX dX7_sureMoment_35 rfl (ltb rfl) rfl rfl ?_
      refine w_iload_n (i := 2) hX dX7_sureMoment_36 rfl rfl ?_
      refine w_iload_n (i := 3) hX dX7_sureMoment_37 rfl rfl ?_
      refine wn_icmp_ne (tgt := 43) hX dX7_sureMoment_38 (by decide) (by omega) (by omega) (fun c4 => ?_) (fun c4 => ?_)
      · refine w_aload_n (i := 0) hX dX7_sureMoment_43 rfl rfl ?_
        refine w_getR (q := w + 1) hX dX7_sureMoment_44 fo_RX7_13 rfl (wd_s hw) (wd_r0 hw) ?_
        refine w_iload_n (i := 2) hX dX7_sureMoment_47 rfl rfl ?_
        refine wn_if_eq (tgt := 57) hX dX7_sureMoment_48 (by decide) (by omega) (fun c5 => ?_) (fun c5 => ?_)
        · refine w_iconst hX dX7_sureMoment_57 kI_2 ?_
          refine w_iload_n (i := 1) hX dX7_sureMoment_58 rfl rfl ?_
          refine w_imulN hX dX7_sureMoment_59 ?_
          refine w_iconst hX dX7_sureMoment_60 kI_1 ?_
          refine w_iaddN hX dX7_sureMoment_61 ?_
          refine w_ialdN hX dX7_sureMoment_62 (wd_a1 hw) (by omega) (by omega) ?_
          refine w_top (y := nI (mcB B (2 * q + 1))) (hc.2.1 _ (by omega)) ?_
          refine w_iret hX hE dX7_sureMoment_63 (Or.inl rfl) rfl ⟨?_, rfl⟩
          unfold E_sure h01
          have q0 : hcV (VF B) (B 352) 0 q (2 ^ B 352) = decide (mtF B (2 ^ B 352) (2 * q) ≠ 0) := by rw [Bool.eq_iff_iff, ← m0]; simp
          have q1 : hcV (VF B) (B 352) 1 q (2 ^ B 352) = decide (mtF B (2 ^ B 352) (2 * q + 1) ≠ 0) := by rw [Bool.eq_iff_iff, ← m1]; simp
          rw [q0, q1]; simp [c1, c2]
        · exact absurd c5 (by decide)
      · exact absurd c4 (by decide)
  · refine w_iconst hX dX7_sureMoment_11 kI_1 ?_
    refine w_goto (tgt := 16) hX dX7_sureMoment_12 (by decide) ?_
    refine w_istore_n (i := 2) (l2 := [some (.ref w), some (.int (nI q)), some (.int (nI 1)), none]) hX dX7_sureMoment_16 rfl (ltb rfl) rfl rfl ?_
    refine w_aload_n (i := 0) hX dX7_sureMoment_17 rfl rfl ?_
    refine w_getR (q := w + 3) hX dX7_sureMoment_18 fo_RX7_20 rfl (wd_s hw) (wd_r2 hw) ?_
    refine w_iconst hX dX7_sureMoment_21 kI_2 ?_
    refine w_iload_n (i := 1) hX dX7_sureMoment_22 rfl rfl ?_
    refine w_imulN hX dX7_sureMoment_23 ?_
    refine w_iconst hX dX7_sureMoment_24 kI_1 ?_
    refine w_iaddN hX dX7_sureMoment_25 ?_
    refine w_ialdN hX dX7_sureMoment_26 (wd_a3 hw) (by omega) (by omega) ?_
    refine w_top (y := nI (mtF B (2 ^ B 352) (2 * q + 1))) (hc.2.2.2.1.2.2 _ (by omega)) ?_
    refine wn_if_eq (tgt := 34) hX dX7_sureMoment_27 (by decide) (by omega) (fun c6 => ?_) (fun c6 => ?_)
    · refine w_iconst hX dX7_sureMoment_34 kI_0 ?_
      refine w_istore_n (i := 3) (l2 := [some (.ref w), some (.int (nI q)), some (.int (nI 1)), some (.int (nI 0))]) hX dX7_sureMoment_35 rfl (ltb rfl) rfl rfl ?_
      refine w_iload_n (i := 2) hX dX7_sureMoment_36 rfl rfl ?_
      refine w_iload_n (i := 3) hX dX7_sureMoment_37 rfl rfl ?_
      refine wn_icmp_ne (tgt := 43) hX dX7_sureMoment_38 (by decide) (by omega) (by omega) (fun c7 => ?_) (fun c7 => ?_)
      · refine w_aload_n (i := 0) hX dX7_sureMoment_43 rfl rfl ?_
        refine w_getR (q := w + 1) hX dX7_sureMoment_44 fo_RX7_13 rfl (wd_s hw) (wd_r0 hw) ?_
        refine w_iload_n (i := 2) hX dX7_sureMoment_47 rfl rfl ?_
        refine wn_if_eq (tgt := 57) hX dX7_sureMoment_48 (by decide) (by omega) (fun c8 => ?_) (fun c8 => ?_)
        · exact absurd c8 (by decide)
        · refine w_iconst hX dX7_sureMoment_51 kI_2 ?_
          refine w_iload_n (i := 1) hX dX7_sureMoment_52 rfl rfl ?_
          refine w_imulN hX dX7_sureMoment_53 ?_
          refine w_goto (tgt := 62) hX dX7_sureMoment_54 (by decide) ?_
          refine w_ialdN hX dX7_sureMoment_62 (wd_a1 hw) (by omega) (by omega) ?_
          refine w_top (y := nI (mcB B (2 * q))) (hc.2.1 _ (by omega)) ?_
          refine w_iret hX hE dX7_sureMoment_63 (Or.inl rfl) rfl ⟨?_, rfl⟩
          unfold E_sure h01
          have q0 : hcV (VF B) (B 352) 0 q (2 ^ B 352) = decide (mtF B (2 ^ B 352) (2 * q) ≠ 0) := by rw [Bool.eq_iff_iff, ← m0]; simp
          have q1 : hcV (VF B) (B 352) 1 q (2 ^ B 352) = decide (mtF B (2 ^ B 352) (2 * q + 1) ≠ 0) := by rw [Bool.eq_iff_iff, ← m1]; simp
          rw [q0, q1]; simp [c1, c6]
      · exact absurd c7 (by decide)
    · refine w_iconst hX dX7_sureMoment_30 kI_1 ?_
      refine w_goto (tgt := 35) hX dX7_sureMoment_31 (by decide) ?_
      refine w_istore_n (i := 3) (l2 := [some (.ref w), some (.int (nI q)), some (.int (nI 1)), some (.int (nI 1))]) hX dX7_sureMoment_35 rfl (ltb rfl) rfl rfl ?_
      refine w_iload_n (i := 2) hX dX7_sureMoment_36 rfl rfl ?_
      refine w_iload_n (i := 3) hX dX7_sureMoment_37 rfl rfl ?_
      refine wn_icmp_ne (tgt := 43) hX dX7_sureMoment_38 (by decide) (by omega) (by omega) (fun c9 => ?_) (fun c9 => ?_)
      · exact absurd c9 (by decide)
      · refine w_iconst hX dX7_sureMoment_41 kI_m1 ?_
        refine w_iret hX hE dX7_sureMoment_42 (Or.inl rfl) rfl ⟨?_, rfl⟩
        unfold E_sure h01
        have q0 : hcV (VF B) (B 352) 0 q (2 ^ B 352) = decide (mtF B (2 ^ B 352) (2 * q) ≠ 0) := by rw [Bool.eq_iff_iff, ← m0]; simp
        have q1 : hcV (VF B) (B 352) 1 q (2 ^ B 352) = decide (mtF B (2 ^ B 352) (2 * q + 1) ≠ 0) := by rw [Bool.eq_iff_iff, ← m1]; simp
        rw [q0, q1]; simp [c1, c6]
set_option maxHeartbeats 1000000 in
theorem s_w_rel (Γ : Gm) (μ : Mem) (x y : Nat) (hx : x < 2 ^ 31) (hy : y < 2 ^ 31) : SpI Γ MX7_relation 0 0 0 [.int (nI x), .int (nI y)] μ (fun r μ2 => r = nI (rel2 x y) ∧ μ2 = μ) := by
  refine SpI.of okX7_relation rfl [some (.int (nI x)), some (.int (nI y))] ⟨rfl, rfl, trivial⟩ (leb rfl) (leb rfl) (fun X hX hE hnm => ?_)
  refine w_iload_n (i := 0) hX dX7_relation_0 rfl rfl ?_
  refine w_iload_n (i := 1) hX dX7_relation_1 rfl rfl ?_
  refine wn_icmp_ne (tgt := 7) hX dX7_relation_2 (by decide) (by omega) (by omega) (fun c1 => ?_) (fun c1 => ?_)
  · refine w_iload_n (i := 0) hX dX7_relation_7 rfl rfl ?_
    refine w_iload_n (i := 1) hX dX7_relation_8 rfl rfl ?_
    refine wn_icmp_ge (tgt := 16) hX dX7_relation_9 (by decide) (by omega) (by omega) (fun c2 => ?_) (fun c2 => ?_)
    · refine w_iconst hX dX7_relation_16 kI_4 ?_
      exact w_iret hX hE dX7_relation_17 (Or.inl rfl) rfl ⟨by unfold rel2; rw [if_neg (by omega), if_neg (by omega)], rfl⟩
    · refine w_iconst hX dX7_relation_12 kI_1 ?_
      refine w_goto (tgt := 17) hX dX7_relation_13 (by decide) ?_
      exact w_iret hX hE dX7_relation_17 (Or.inl rfl) rfl ⟨by unfold rel2; rw [if_pos (by omega)], rfl⟩
  · refine w_iconst hX dX7_relation_5 kI_2 ?_
    exact w_iret hX hE dX7_relation_6 (Or.inl rfl) rfl ⟨by unfold rel2; rw [if_neg (by omega), if_pos (by omega)], rfl⟩
def rbt (B : Nat → Nat) (a b c d : Nat) : Nat := if mtV (VF B) (B 352) (2 * a + c) (2 * b + d) (2 ^ B 352) = true then rel2 (mcB B (2 * a + c)) (mcB B (2 * b + d)) else 0
def E_bef (B : Nat → Nat) (a b : Nat) : Nat := ((rbt B a b 0 0 ||| rbt B a b 0 1) ||| rbt B a b 1 0) ||| rbt B a b 1 1
theorem rel2_le {x y : Nat} : rel2 x y < 8 := by unfold rel2; split; omega; split <;> omega
theorem rbt_le {B : Nat → Nat} {a b c d : Nat} : rbt B a b c d < 8 := by unfold rbt; split; exact rel2_le; omega
