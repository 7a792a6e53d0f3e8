theorem mt_ne0 {B : Nat → Nat} {v q c : Nat} (hc : c < 2) (hq : q < B 352) : mtF B v (2 * q + c) ≠ 0 ↔ hcV (VF B) (B 352) c q v = true := by
  rw [← mt_hc hc]
  constructor
  · intro h
    refine Classical.byContradiction (fun h2 => h ?_)
    refine bw_none _ (fun j => ?_)
    rw [Bool.eq_false_iff]
    exact fun h3 => h2 (mt_l v h3)
  · intro h h0
    have h1 : (mtF B v (2 * q + c)).testBit (2 * q + c) = true := by unfold mtF; rw [bw_tb, h]; simp; omega
    rw [h0] at h1
    simp at h1
def h01 (B : Nat → Nat) (c q : Nat) : Bool := hcV (VF B) (B 352) c q (2 ^ B 352)
def E_sure (B : Nat → Nat) (q : Nat) : Int32 := if h01 B 0 q = h01 B 1 q then -1 else nI (mcB B (2 * q + if h01 B 0 q = true then 0 else 1))
set_option maxHeartbeats 1000000 in
theorem s_w_momentIn (Γ : Gm) (μ : Mem) (w : Nat) (B : Nat → Nat) (hw : isWd μ w) (hW : WB B) (hc : wCon μ w B) (n q : Nat) (hn : n < cvV (VF B) (2 ^ B 352)) (hq : q < B 352) : SpI Γ MX7_momentIn 2 0 0 [.ref w, .int (nI n), .int (nI q)] μ (fun r μ2 => r = nI (mcB B (2 * q + pkb (B 352) (nwV (VF B) n (2 ^ B 352)) q)) ∧ μ2 = μ) := by
  refine SpI.of okX7_momentIn rfl [some (.ref w), some (.int (nI n)), some (.int (nI q)), none] ⟨rfl, rfl, rfl, trivial⟩ (leb rfl) (leb rfl) (fun X hX hE hnm => ?_)
  refine w_aload_n (i := 0) hX dX7_momentIn_0 rfl rfl ?_
  refine w_iload_n (i := 1) hX dX7_momentIn_1 rfl rfl ?_
  refine w_callVI (As := [.int (nI n)]) (rest := []) (ci := 7) (o := w) (k2 := 0) (n2 := 0) hX dX7_momentIn_2 (s_w_nth Γ μ w B hw hW hc n hn) okX7_nthWorld (ltb rfl) (wd_s hw) ml_RX7_66 imX7_nthWorld seX7_nthWorld rfl (leb rfl) (leb rfl) rfl rfl (fun r9 μ9 hq9 => ?_)
  obtain ⟨x9, hr9, hm9, hx1, hx2, hx3⟩ := hq9; rw [hr9, hm9]
  clear hr9 hm9 r9 μ9
  have hP12 := hW.2.2.2.2.1.1
  have h4096 := p12 hP12
  have hnw := nwV_eq hx2 hx3 _ hx1
  refine w_istore_n (i := 3) (l2 := [some (.ref w), some (.int (nI n)), some (.int (nI q)), some (.int (nI x9))]) hX dX7_momentIn_5 rfl (ltb rfl) rfl rfl ?_
  refine w_aload_n (i := 0) hX dX7_momentIn_6 rfl rfl ?_
  refine w_getR (q := w + 1) hX dX7_momentIn_7 fo_RX7_13 rfl (wd_s hw) (wd_r0 hw) ?_
  refine w_iload_n (i := 3) hX dX7_momentIn_10 rfl rfl ?_
  refine w_iload_n (i := 2) hX dX7_momentIn_11 rfl rfl ?_
  refine w_aload_n (i := 0) hX dX7_momentIn_12 rfl rfl ?_
  refine w_getI hX dX7_momentIn_13 fo_RX7_38 rfl (wd_s hw) ?_
  refine w_top (y := nI (B 352)) hc.1 ?_
  refine w_iconst hX dX7_momentIn_16 kI_1 ?_
  refine w_isubN hX dX7_momentIn_17 (by omega) ?_
  refine w_iload_n (i := 2) hX dX7_momentIn_18 rfl rfl ?_
  refine w_isubN hX dX7_momentIn_19 (by omega) ?_
  refine w_callSI (As := [.int (nI x9), .int (nI q), .int (nI (B 352 - 1 - q))]) (rest := [.ref (w + 1)]) (k2 := 0) (n2 := 0) hX dX7_momentIn_20 (s_w_pickOf Γ μ x9 q (B 352 - 1 - q) (by omega) (by omega)) okX7_pickOf ml_RX7_70 stX7_pickOf rfl (leb rfl) (leb rfl) rfl rfl (fun r9 μ9 hq9 => ?_)
  obtain ⟨hr9, hm9⟩ := hq9; rw [hr9, hm9]; clear hr9 hm9 r9 μ9
  refine w_ialdN hX dX7_momentIn_23 (wd_a1 hw) (by have : x9 / 2 ^ (B 352 - 1 - q) % 2 < 2 := Nat.mod_lt _ (by omega); omega) (by omega) ?_
  refine w_top (y := nI (mcB B (2 * q + pkb (B 352) (nwV (VF B) n (2 ^ B 352)) q))) (by rw [hnw]; exact hc.2.1 _ (by have : x9 / 2 ^ (B 352 - 1 - q) % 2 < 2 := Nat.mod_lt _ (by omega); omega)) ?_
  exact w_iret hX hE dX7_momentIn_24 (Or.inl rfl) rfl ⟨rfl, rfl⟩
set_option maxHeartbeats 1000000 in
theorem s_w_sure (Γ : Gm) (μ : Mem) (w : Nat) (B : Nat → Nat) (hw : isWd μ w) (hW : WB B) (hc : wCon μ w B) (q : Nat) (hq : q < B 352) : SpI Γ MX7_sureMoment 0 0 0 [.ref w, .int (nI q)] μ (fun r μ2 => r = E_sure B q ∧ μ2 = μ) := by
  refine SpI.of okX7_sureMoment rfl [some (.ref w), some (.int (nI q)), none, none] ⟨rfl, rfl, trivial⟩ (leb rfl) (leb rfl) (fun X hX hE hnm => ?_)
  have hP12 := hW.2.2.2.2.1.1
  have m0 := mt_ne0 (B := B) (v := (2 ^ B 352)) (c := 0) (by omega) hq; have m1 := mt_ne0 (B := B) (v := (2 ^ B 352)) (c := 1) (by omega) hq
  have l0 : mtF B (2 ^ B 352) (2 * q) < 2 ^ 24 := bw_31 (by omega); have l1 : mtF B (2 ^ B 352) (2 * q + 1) < 2 ^ 24 := bw_31 (by omega)
  refine w_aload_n (i := 0) hX dX7_sureMoment_0 rfl rfl ?_
  refine w_getR (q := w + 3) hX dX7_sureMoment_1 fo_RX7_20 rfl (wd_s hw) (wd_r2 hw) ?_
  refine w_iconst hX dX7_sureMoment_4 kI_2 ?_
  refine w_iload_n (i := 1) hX dX7_sureMoment_5 rfl rfl ?_
  refine w_imulN hX dX7_sureMoment_6 ?_
  refine w_ialdN hX dX7_sureMoment_7 (wd_a3 hw) (by omega) (by omega) ?_
  refine w_top (y := nI (mtF B (2 ^ B 352) (2 * q))) (hc.2.2.2.1.2.2 _ (by omega)) ?_
  refine wn_if_eq (tgt := 15) hX dX7_sureMoment_8 (by decide) (by omega) (fun c1 => ?_) (fun c1 => ?_)
  · refine w_iconst hX dX7_sureMoment_15 kI_0 ?_
    refine w_istore_n (i := 2) (l2 := [some (.ref w), some (.int (nI q)), some (.int (nI 0)), none]) hX dX7_sureMoment_16 rfl (ltb rfl) rfl rfl ?_
    refine w_aload_n (i := 0) hX dX7_sureMoment_17 rfl rfl ?_
    refine w_getR (q := w + 3) hX dX7_sureMoment_18 fo_RX7_20 rfl (wd_s hw) (wd_r2 hw) ?_
    refine w_iconst hX dX7_sureMoment_21 kI_2 ?_
    refine w_iload_n (i := 1) hX dX7_sureMoment_22 rfl rfl ?_
    refine w_imulN hX dX7_sureMoment_23 ?_
    refine w_iconst hX dX7_sureMoment_24 kI_1 ?_
    refine w_iaddN hX dX7_sureMoment_25 ?_
    refine w_ialdN hX dX7_sureMoment_26 (wd_a3 hw) (by omega) (by omega) ?_
    refine w_top (y := nI (mtF B (2 ^ B 352) (2 * q + 1))) (hc.2.2.2.1.2.2 _ (by omega)) ?_
    refine wn_if_eq (tgt := 34) hX dX7_sureMoment_27 (by decide) (by omega) (fun c2 => ?_) (fun c2 => ?_)
    · refine w_iconst hX dX7_sureMoment_34 kI_0 ?_
      refine w_istore_n (i := 3) (l2 := [some (.ref w), some (.int (nI q)), some (.int (nI 0)), some (.int (nI 0))]) hX dX7_sureMoment_35 rfl (ltb rfl) rfl rfl ?_
      refine w_iload_n (i := 2) hX dX7_sureMoment_36 rfl rfl ?_
      refine w_iload_n (i := 3) hX dX7_sureMoment_37 rfl rfl ?_
      refine wn_icmp_ne (tgt := 43) hX dX7_sureMoment_38 (by decide) (by omega) (by omega) (fun c3 => ?_) (fun c3 => ?_)
      · exact absurd c3 (by decide)
      · refine w_iconst hX dX7_sureMoment_41 kI_m1 ?_
        refine w_iret hX hE dX7_sureMoment_42 (Or.inl rfl) rfl ⟨?_, rfl⟩
        unfold E_sure h01
        have q0 : hcV (VF B) (B 352) 0 q (2 ^ B 352) = decide (mtF B (2 ^ B 352) (2 * q) ≠ 0) := by rw [Bool.eq_iff_iff, ← m0]; simp
        have q1 : hcV (VF B) (B 352) 1 q (2 ^ B 352) = decide (mtF B (2 ^ B 352) (2 * q + 1) ≠ 0) := by rw [Bool.eq_iff_iff, ← m1]; simp
        rw [q0, q1]; simp [c1, c2]
    · refine w_iconst hX dX7_sureMoment_30 kI_1 ?_
      refine w_goto (tgt := 35) hX dX7_sureMoment_31 (by decide) ?_
      refine w_istore_n (i := 3) (l2 := [some (.ref w), some (.int (nI q)), some (.int (nI 0)), some (.int (nI 1))]) hX dX7_sureMoment_35 rfl (ltb rfl) rfl rfl ?_
      refine w_iload_n (i := 2) hX dX7_sureMoment_36 rfl rfl ?_
      refine w_iload_n (i := 3) hX dX7_sureMoment_37 rfl rfl ?_
      refine wn_icmp_ne (tgt := 43) hX dX7_sureMoment_38 (by decide) (by omega) (by omega) (fun c4 => ?_) (fun c4 => ?_)
      · refine w_aload_n (i := 0) hX dX7_sureMoment_43 rfl rfl ?_
        refine w_getR (q := w + 1) hX dX7_sureMoment_44 fo_RX7_13 rfl (wd_s hw) (wd_r0 hw) ?_
        refine w_iload_n (i := 2) hX dX7_sureMoment_47 rfl rfl ?_
        refine wn_if_eq (tgt := 57) hX dX7_sureMoment_48 (by decide) (by omega) (fun c5 => ?_) (fun c5 => ?_)
        · refine w_iconst hX dX7_sureMoment_57 kI_2 ?_
          refine w_iload_n (i := 1) hX dX7_sureMoment_58 rfl rfl ?_
          refine w_imulN hX dX7_sureMoment_59 ?_
          refine w_iconst hX dX7_sureMoment_60 kI_1 ?_
          refine w_iaddN hX dX7_sureMoment_61 ?_
          refine w_ialdN hX dX7_sureMoment_62 (wd_a1 hw) (by omega) (by omega) ?_
          refine w_top (y := nI (mcB B (2 * q + 1))) (hc.2.1 _ (by omega)) ?_
          refine w_iret hX hE dX7_sureMoment_63 (Or.inl rfl) rfl ⟨?_, rfl⟩
          unfold E_sure h01
          have q0 : hcV (VF B) (B 352) 0 q (2 ^ B 352) = decide (mtF B (2 ^ B 352) (2 * q) ≠ 0) := by rw [Bool.eq_iff_iff, ← m0]; simp
          have q1 : hcV (VF B) (B 352) 1 q (2 ^ B 352) = decide (mtF B (2 ^ B 352) (2 * q + 1) ≠ 0) := by rw [Bool.eq_iff_iff, ← m1]; simp
          rw [q0, q1]; simp [c1, c2]
        · exact absurd c5 (by decide)
      · exact absurd c4 (by decide)
  · refine w_iconst hX dX7_sureMoment_11 kI_1 ?_
    refine w_goto (tgt := 16) hX dX7_sureMoment_12 (by decide) ?_
    refine w_istore_n (i := 2) (l2 := [some (.ref w), some (.int (nI q)), some (.int (nI 1)), none]) hX dX7_sureMoment_16 rfl (ltb rfl) rfl rfl ?_
    refine w_aload_n (i := 0) hX dX7_sureMoment_17 rfl rfl ?_
    refine w_getR (q := w + 3) hX dX7_sureMoment_18 fo_RX7_20 rfl (wd_s hw) (wd_r2 hw) ?_
    refine w_iconst hX dX7_sureMoment_21 kI_2 ?_
    refine w_iload_n (i := 1) hX dX7_sureMoment_22 rfl rfl ?_
    refine w_imulN hX dX7_sureMoment_23 ?_
    refine w_iconst hX dX7_sureMoment_24 kI_1 ?_
    refine w_iaddN hX dX7_sureMoment_25 ?_
    refine w_ialdN hX dX7_sureMoment_26 (wd_a3 hw) (by omega) (by omega) ?_
    refine w_top (y := nI (mtF B (2 ^ B 352) (2 * q + 1))) (hc.2.2.2.1.2.2 _ (by omega)) ?_
    refine wn_if_eq (tgt := 34) hX dX7_sureMoment_27 (by decide) (by omega) (fun c6 => ?_) (fun c6 => ?_)
    · refine w_iconst hX dX7_sureMoment_34 kI_0 ?_
      refine w_istore_n (i := 3) (l2 := [some (.ref w), some (.int (nI q)), some (.int (nI 1)), some (.int (nI 0))]) hX dX7_sureMoment_35 rfl (ltb rfl) rfl rfl ?_
      refine w_iload_n (i := 2) hX dX7_sureMoment_36 rfl rfl ?_
      refine w_iload_n (i := 3) hX dX7_sureMoment_37 rfl rfl ?_
      refine wn_icmp_ne (tgt := 43) hX dX7_sureMoment_38 (by decide) (by omega) (by omega) (fun c7 => ?_) (fun c7 => ?_)
      · refine w_aload_n (i := 0) hX dX7_sureMoment_43 rfl rfl ?_
        refine w_getR (q := w + 1) hX dX7_sureMoment_44 fo_RX7_13 rfl (wd_s hw) (wd_r0 hw) ?_
        refine w_iload_n (i := 2) hX dX7_sureMoment_47 rfl rfl ?_
        refine wn_if_eq (tgt := 57) hX dX7_sureMoment_48 (by decide) (by omega) (fun c8 => ?_) (fun c8 => ?_)
        · exact absurd c8 (by decide)
        · refine w_iconst hX dX7_sureMoment_51 kI_2 ?_
          refine w_iload_n (i := 1) hX dX7_sureMoment_52 rfl rfl ?_
          refine w_imulN hX dX7_sureMoment_53 ?_
          refine w_goto (tgt := 62) hX dX7_sureMoment_54 (by decide) ?_
          refine w_ialdN hX dX7_sureMoment_62 (wd_a1 hw) (by omega) (by omega) ?_
          refine w_top (y := nI (mcB B (2 * q))) (hc.2.1 _ (by omega)) ?_
          refine w_iret hX hE dX7_sureMoment_63 (Or.inl rfl) rfl ⟨?_, rfl⟩
          unfold E_sure h01
          have q0 : hcV (VF B) (B 352) 0 q (2 ^ B 352) = decide (mtF B (2 ^ B 352) (2 * q) ≠ 0) := by rw [Bool.eq_iff_iff, ← m0]; simp
          have q1 : hcV (VF B) (B 352) 1 q (2 ^ B 352) = decide (mtF B (2 ^ B 352) (2 * q + 1) ≠ 0) := by rw [Bool.eq_iff_iff, ← m1]; simp
          rw [q0, q1]; simp [c1, c6]
      · exact absurd c7 (by decide)
    · refine w_iconst hX dX7_sureMoment_30 kI_1 ?_
      refine w_goto (tgt := 35) hX dX7_sureMoment_31 (by decide) ?_
      refine w_istore_n (i := 3) (l2 := [some (.ref w), some (.int (nI q)), some (.int (nI 1)), some (.int (nI 1))]) hX dX7_sureMoment_35 rfl (ltb rfl) rfl rfl ?_
      refine w_iload_n (i := 2) hX dX7_sureMoment_36 rfl rfl ?_
      refine w_iload_n (i := 3) hX dX7_sureMoment_37 rfl rfl ?_
      refine wn_icmp_ne (tgt := 43) hX dX7_sureMoment_38 (by decide) (by omega) (by omega) (fun c9 => ?_) (fun c9 => ?_)
      · exact absurd c9 (by decide)
      · refine w_iconst hX dX7_sureMoment_41 kI_m1 ?_
        refine w_iret hX hE dX7_sureMoment_42 (Or.inl rfl) rfl ⟨?_, rfl⟩
        unfold E_sure h01
        have q0 : hcV (VF B) (B 352) 0 q (2 ^ B 352) = decide (mtF B (2 ^ B 352) (2 * q) ≠ 0) := by rw [Bool.eq_iff_iff, ← m0]; simp
        have q1 : hcV (VF B) (B 352) 1 q (2 ^ B 352) = decide (mtF B (2 ^ B 352) (2 * q + 1) ≠ 0) := by rw [Bool.eq_iff_iff, ← m1]; simp
        rw [q0, q1]; simp [c1, c6]
set_option maxHeartbeats 1000000 in
theorem s_w_rel (Γ : Gm) (μ : Mem) (x y : Nat) (hx : x < 2 ^ 31) (hy : y < 2 ^ 31) : SpI Γ MX7_relation 0 0 0 [.int (nI x), .int (nI y)] μ (fun r μ2 => r = nI (rel2 x y) ∧ μ2 = μ) := by
  refine SpI.of okX7_relation rfl [some (.int (nI x)), some (.int (nI y))] ⟨rfl, rfl, trivial⟩ (leb rfl) (leb rfl) (fun X hX hE hnm => ?_)
  refine w_iload_n (i := 0) hX dX7_relation_0 rfl rfl ?_
  refine w_iload_n (i := 1) hX dX7_relation_1 rfl rfl ?_
  refine wn_icmp_ne (tgt := 7) hX dX7_relation_2 (by decide) (by omega) (by omega) (fun c1 => ?_) (fun c1 => ?_)
  · refine w_iload_n (i := 0) hX dX7_relation_7 rfl rfl ?_
    refine w_iload_n (i := 1) hX dX7_relation_8 rfl rfl ?_
    refine wn_icmp_ge (tgt := 16) hX dX7_relation_9 (by decide) (by omega) (by omega) (fun c2 => ?_) (fun c2 => ?_)
    · refine w_iconst hX dX7_relation_16 kI_4 ?_
      exact w_iret hX hE dX7_relation_17 (Or.inl rfl) rfl ⟨by unfold rel2; rw [if_neg (by omega), if_neg (by omega)], rfl⟩
    · refine w_iconst hX dX7_relation_12 kI_1 ?_
      refine w_goto (tgt := 17) hX dX7_relation_13 (by decide) ?_
      exact w_iret hX hE dX7_relation_17 (Or.inl rfl) rfl ⟨by unfold rel2; rw [if_pos (by omega)], rfl⟩
  · refine w_iconst hX dX7_relation_5 kI_2 ?_
    exact w_iret hX hE dX7_relation_6 (Or.inl rfl) rfl ⟨by unfold rel2; rw [if_neg (by omega), if_pos (by omega)], rfl⟩
def rbt (B : Nat → Nat) (a b c d : Nat) : Nat := if mtV (VF B) (B 352) (2 * a + c) (2 * b + d) (2 ^ B 352) = true then rel2 (mcB B (2 * a + c)) (mcB B (2 * b + d)) else 0
def E_bef (B : Nat → Nat) (a b : Nat) : Nat := ((rbt B a b 0 0 ||| rbt B a b 0 1) ||| rbt B a b 1 0) ||| rbt B a b 1 1
theorem rel2_le {x y : Nat} : rel2 x y < 8 := by unfold rel2; split; omega; split <;> omega
theorem rbt_le {B : Nat → Nat} {a b c d : Nat} : rbt B a b c d < 8 := by unfold rbt; split; exact rel2_le; omega
set_option maxHeartbeats 1000000 in
theorem s_w_canBe (Γ : Gm) (μ : Mem) (w : Nat) (B : Nat → Nat) (hw : isWd μ w) (hW : WB B) (hc : wCon μ w B) (a b : Nat) (ha : a < B 352) (hb : b < B 352) : SpI Γ MX7_canBe 1 0 0 [.ref w, .int (nI a), .int (nI b)] μ (fun r μ2 => r = nI (E_bef B a b) ∧ μ2 = μ) := by
  refine SpI.of okX7_canBe rfl [some (.ref w), some (.int (nI a)), some (.int (nI b)), none, none, none] ⟨rfl, rfl, rfl, trivial⟩ (leb rfl) (leb rfl) (fun X hX hE hnm => ?_)
  have hP12 := hW.2.2.2.2.1.1
  refine w_iconst hX dX7_canBe_0 kI_0 ?_
  refine w_istore_n (i := 3) (l2 := [some (.ref w), some (.int (nI a)), some (.int (nI b)), some (.int (nI 0)), none, none]) hX dX7_canBe_1 rfl (ltb rfl) rfl rfl ?_
  refine w_iconst hX dX7_canBe_2 kI_2 ?_
  refine w_iload_n (i := 1) hX dX7_canBe_3 rfl rfl ?_
  refine w_imulN hX dX7_canBe_4 ?_
  refine w_istore (l2 := [some (.ref w), some (.int (nI a)), some (.int (nI b)), some (.int (nI 0)), some (.int (nI (2 * a))), none]) hX dX7_canBe_5 (ltb rfl) rfl rfl ?_
  refine w_iload hX dX7_canBe_7 rfl ?_
  refine w_iconst hX dX7_canBe_9 kI_2 ?_
  refine w_iload_n (i := 1) hX dX7_canBe_10 rfl rfl ?_
  refine w_imulN hX dX7_canBe_11 ?_
  refine w_iconst hX dX7_canBe_12 kI_1 ?_
  refine w_iaddN hX dX7_canBe_13 ?_
  refine wn_icmp_gt (tgt := 80) hX dX7_canBe_14 (by decide) (by first | omega | (split <;> omega)) (by first | omega | (split <;> omega)) (fun c1 => ?_) (fun c1 => ?_)
  · exact absurd c1 (by omega)
  · refine w_iconst hX dX7_canBe_17 kI_2 ?_
    refine w_iload_n (i := 2) hX dX7_canBe_18 rfl rfl ?_
    refine w_imulN hX dX7_canBe_19 ?_
    refine w_istore (l2 := [some (.ref w), some (.int (nI a)), some (.int (nI b)), some (.int (nI 0)), some (.int (nI (2 * a))), some (.int (nI (2 * b)))]) hX dX7_canBe_20 (ltb rfl) rfl rfl ?_
    refine w_iload hX dX7_canBe_22 rfl ?_
    refine w_iconst hX dX7_canBe_24 kI_2 ?_
    refine w_iload_n (i := 2) hX dX7_canBe_25 rfl rfl ?_
    refine w_imulN hX dX7_canBe_26 ?_
    refine w_iconst hX dX7_canBe_27 kI_1 ?_
    refine w_iaddN hX dX7_canBe_28 ?_
    refine wn_icmp_gt (tgt := 74) hX dX7_canBe_29 (by decide) (by first | omega | (split <;> omega)) (by first | omega | (split <;> omega)) (fun c2 => ?_) (fun c2 => ?_)
    · exact absurd c2 (by omega)
    · refine w_aload_n (i := 0) hX dX7_canBe_32 rfl rfl ?_
      refine w_getR (q := w + 3) hX dX7_canBe_33 fo_RX7_20 rfl (wd_s hw) (wd_r2 hw) ?_
      refine w_iload hX dX7_canBe_36 rfl ?_
      refine w_ialdN hX dX7_canBe_38 (wd_a3 hw) (by omega) (by omega) ?_
      refine w_top (y := nI (mtF B (2 ^ B 352) (2 * a))) (hc.2.2.2.1.2.2 _ (by omega)) ?_
      refine w_iload hX dX7_canBe_39 rfl ?_
      refine w_ishr hX dX7_canBe_41 ?_
      refine w_iconst hX dX7_canBe_42 kI_1 ?_
      refine w_iand hX dX7_canBe_43 ?_
      refine w_top (y := nI (if mtV (VF B) (B 352) (2 * a) (2 * b) (2 ^ B 352) = true then 1 else 0)) ((bit31 (by have : mtF B (2 ^ B 352) (2 * a) < 2 ^ 24 := bw_31 (by omega); omega) (by omega)).trans (congrArg nI (by unfold mtF; rw [bw_tb]; simp only [show 2 * b < 2 * B 352 by omega, decide_true, Bool.true_and]))) ?_
      refine w_iconst hX dX7_canBe_44 kI_1 ?_
      refine wn_icmp_ne (tgt := 68) hX dX7_canBe_45 (by decide) (by first | omega | (split <;> omega)) (by first | omega | (split <;> omega)) (fun c3 => ?_) (fun c3 => ?_)
      · have t0 : mtV (VF B) (B 352) (2 * a) (2 * b) (2 ^ B 352) = false := by rw [Bool.eq_false_iff]; intro h9; rw [if_pos h9] at c3; exact absurd rfl c3
        refine w_iincN (w := 1) (l2 := [some (.ref w), some (.int (nI a)), some (.int (nI b)), some (.int (nI 0)), some (.int (nI (2 * a))), some (.int (nI (2 * b + 1)))]) hX dX7_canBe_68 rfl kI_1 rfl rfl ?_
        refine w_goto (tgt := 22) hX dX7_canBe_71 (by decide) ?_
        refine w_iload hX dX7_canBe_22 rfl ?_
        refine w_iconst hX dX7_canBe_24 kI_2 ?_
        refine w_iload_n (i := 2) hX dX7_canBe_25 rfl rfl ?_
        refine w_imulN hX dX7_canBe_26 ?_
        refine w_iconst hX dX7_canBe_27 kI_1 ?_
        refine w_iaddN hX dX7_canBe_28 ?_
        refine wn_icmp_gt (tgt := 74) hX dX7_canBe_29 (by decide) (by first | omega | (split <;> omega)) (by first | omega | (split <;> omega)) (fun c4 => ?_) (fun c4 => ?_)
        · exact absurd c4 (by omega)
        · refine w_aload_n (i := 0) hX dX7_canBe_32 rfl rfl ?_
          refine w_getR (q := w + 3) hX dX7_canBe_33 fo_RX7_20 rfl (wd_s hw) (wd_r2 hw) ?_
          refine w_iload hX dX7_canBe_36 rfl ?_
          refine w_ialdN hX dX7_canBe_38 (wd_a3 hw) (by omega) (by omega) ?_
          refine w_top (y := nI (mtF B (2 ^ B 352) (2 * a))) (hc.2.2.2.1.2.2 _ (by omega)) ?_
          refine w_iload hX dX7_canBe_39 rfl ?_
          refine w_ishr hX dX7_canBe_41 ?_
          refine w_iconst hX dX7_canBe_42 kI_1 ?_
          refine w_iand hX dX7_canBe_43 ?_
          refine w_top (y := nI (if mtV (VF B) (B 352) (2 * a) (2 * b + 1) (2 ^ B 352) = true then 1 else 0)) ((bit31 (by have : mtF B (2 ^ B 352) (2 * a) < 2 ^ 24 := bw_31 (by omega); omega) (by omega)).trans (congrArg nI (by unfold mtF; rw [bw_tb]; simp only [show 2 * b + 1 < 2 * B 352 by omega, decide_true, Bool.true_and]))) ?_
          refine w_iconst hX dX7_canBe_44 kI_1 ?_
          refine wn_icmp_ne (tgt := 68) hX dX7_canBe_45 (by decide) (by first | omega | (split <;> omega)) (by first | omega | (split <;> omega)) (fun c5 => ?_) (fun c5 => ?_)
          · have t1 : mtV (VF B) (B 352) (2 * a) (2 * b + 1) (2 ^ B 352) = false := by rw [Bool.eq_false_iff]; intro h9; rw [if_pos h9] at c5; exact absurd rfl c5
            refine w_iincN (w := 1) (l2 := [some (.ref w), some (.int (nI a)), some (.int (nI b)), some (.int (nI 0)), some (.int (nI (2 * a))), some (.int (nI (2 * b + 1 + 1)))]) hX dX7_canBe_68 rfl kI_1 rfl rfl ?_
            refine w_goto (tgt := 22) hX dX7_canBe_71 (by decide) ?_
            refine w_iload hX dX7_canBe_22 rfl ?_
            refine w_iconst hX dX7_canBe_24 kI_2 ?_
            refine w_iload_n (i := 2) hX dX7_canBe_25 rfl rfl ?_
            refine w_imulN hX dX7_canBe_26 ?_
            refine w_iconst hX dX7_canBe_27 kI_1 ?_
            refine w_iaddN hX dX7_canBe_28 ?_
            refine wn_icmp_gt (tgt := 74) hX dX7_canBe_29 (by decide) (by first | omega | (split <;> omega)) (by first | omega | (split <;> omega)) (fun c6 => ?_) (fun c6 => ?_)
            · refine w_iincN (w := 1) (l2 := [some (.ref w), some (.int (nI a)), some (.int (nI b)), some (.int (nI 0)), some (.int (nI (2 * a + 1))), some (.int (nI (2 * b + 1 + 1)))]) hX dX7_canBe_74 rfl kI_1 rfl rfl ?_
              refine w_goto (tgt := 7) hX dX7_canBe_77 (by decide) ?_
              refine w_iload hX dX7_canBe_7 rfl ?_
              refine w_iconst hX dX7_canBe_9 kI_2 ?_
              refine w_iload_n (i := 1) hX dX7_canBe_10 rfl rfl ?_
              refine w_imulN hX dX7_canBe_11 ?_
              refine w_iconst hX dX7_canBe_12 kI_1 ?_
              refine w_iaddN hX dX7_canBe_13 ?_
              refine wn_icmp_gt (tgt := 80) hX dX7_canBe_14 (by decide) (by first | omega | (split <;> omega)) (by first | omega | (split <;> omega)) (fun c7 => ?_) (fun c7 => ?_)
              · exact absurd c7 (by omega)
              · refine w_iconst hX dX7_canBe_17 kI_2 ?_
                refine w_iload_n (i := 2) hX dX7_canBe_18 rfl rfl ?_
                refine w_imulN hX dX7_canBe_19 ?_
                refine w_istore (l2 := [some (.ref w), some (.int (nI a)), some (.int (nI b)), some (.int (nI 0)), some (.int (nI (2 * a + 1))), some (.int (nI (2 * b)))]) hX dX7_canBe_20 (ltb rfl) rfl rfl ?_
                refine w_iload hX dX7_canBe_22 rfl ?_
                refine w_iconst hX dX7_canBe_24 kI_2 ?_
                refine w_iload_n (i := 2) hX dX7_canBe_25 rfl rfl ?_
                refine w_imulN hX dX7_canBe_26 ?_
                refine w_iconst hX dX7_canBe_27 kI_1 ?_
                refine w_iaddN hX dX7_canBe_28 ?_
                refine wn_icmp_gt (tgt := 74) hX dX7_canBe_29 (by decide) (by first | omega | (split <;> omega)) (by first | omega | (split <;> omega)) (fun c8 => ?_) (fun c8 => ?_)
                · exact absurd c8 (by omega)
                · refine w_aload_n (i := 0) hX dX7_canBe_32 rfl rfl ?_
                  refine w_getR (q := w + 3) hX dX7_canBe_33 fo_RX7_20 rfl (wd_s hw) (wd_r2 hw) ?_
                  refine w_iload hX dX7_canBe_36 rfl ?_
                  refine w_ialdN hX dX7_canBe_38 (wd_a3 hw) (by omega) (by omega) ?_
                  refine w_top (y := nI (mtF B (2 ^ B 352) (2 * a + 1))) (hc.2.2.2.1.2.2 _ (by omega)) ?_
                  refine w_iload hX dX7_canBe_39 rfl ?_
                  refine w_ishr hX dX7_canBe_41 ?_
                  refine w_iconst hX dX7_canBe_42 kI_1 ?_
                  refine w_iand hX dX7_canBe_43 ?_
                  refine w_top (y := nI (if mtV (VF B) (B 352) (2 * a + 1) (2 * b) (2 ^ B 352) = true then 1 else 0)) ((bit31 (by have : mtF B (2 ^ B 352) (2 * a + 1) < 2 ^ 24 := bw_31 (by omega); omega) (by omega)).trans (congrArg nI (by unfold mtF; rw [bw_tb]; simp only [show 2 * b < 2 * B 352 by omega, decide_true, Bool.true_and]))) ?_
                  refine w_iconst hX dX7_canBe_44 kI_1 ?_
                  refine wn_icmp_ne (tgt := 68) hX dX7_canBe_45 (by decide) (by first | omega | (split <;> omega)) (by first | omega | (split <;> omega)) (fun c9 => ?_) (fun c9 => ?_)
                  · have t2 : mtV (VF B) (B 352) (2 * a + 1) (2 * b) (2 ^ B 352) = false := by rw [Bool.eq_false_iff]; intro h9; rw [if_pos h9] at c9; exact absurd rfl c9
                    refine w_iincN (w := 1) (l2 := [some (.ref w), some (.int (nI a)), some (.int (nI b)), some (.int (nI 0)), some (.int (nI (2 * a + 1))), some (.int (nI (2 * b + 1)))]) hX dX7_canBe_68 rfl kI_1 rfl rfl ?_
                    refine w_goto (tgt := 22) hX dX7_canBe_71 (by decide) ?_
                    refine w_iload hX dX7_canBe_22 rfl ?_
                    refine w_iconst hX dX7_canBe_24 kI_2 ?_
                    refine w_iload_n (i := 2) hX dX7_canBe_25 rfl rfl ?_
                    refine w_imulN hX dX7_canBe_26 ?_
                    refine w_iconst hX dX7_canBe_27 kI_1 ?_
                    refine w_iaddN hX dX7_canBe_28 ?_
                    refine wn_icmp_gt (tgt := 74) hX dX7_canBe_29 (by decide) (by first | omega | (split <;> omega)) (by first | omega | (split <;> omega)) (fun c10 => ?_) (fun c10 => ?_)
                    · exact absurd c10 (by omega)
                    · refine w_aload_n (i := 0) hX dX7_canBe_32 rfl rfl ?_
                      refine w_getR (q := w + 3) hX dX7_canBe_33 fo_RX7_20 rfl (wd_s hw) (wd_r2 hw) ?_
                      refine w_iload hX dX7_canBe_36 rfl ?_
                      refine w_ialdN hX dX7_canBe_38 (wd_a3 hw) (by omega) (by omega) ?_
                      refine w_top (y := nI (mtF B (2 ^ B 352) (2 * a + 1))) (hc.2.2.2.1.2.2 _ (by omega)) ?_
                      refine w_iload hX dX7_canBe_39 rfl ?_
                      refine w_ishr hX dX7_canBe_41 ?_
                      refine w_iconst hX dX7_canBe_42 kI_1 ?_
                      refine w_iand hX dX7_canBe_43 ?_
                      refine w_top (y := nI (if mtV (VF B) (B 352) (2 * a + 1) (2 * b + 1) (2 ^ B 352) = true then 1 else 0)) ((bit31 (by have : mtF B (2 ^ B 352) (2 * a + 1) < 2 ^ 24 := bw_31 (by omega); omega) (by omega)).trans (congrArg nI (by unfold mtF; rw [bw_tb]; simp only [show 2 * b + 1 < 2 * B 352 by omega, decide_true, Bool.true_and]))) ?_
                      refine w_iconst hX dX7_canBe_44 kI_1 ?_
                      refine wn_icmp_ne (tgt := 68) hX dX7_canBe_45 (by decide) (by first | omega | (split <;> omega)) (by first | omega | (split <;> omega)) (fun c11 => ?_) (fun c11 => ?_)
                      · have t3 : mtV (VF B) (B 352) (2 * a + 1) (2 * b + 1) (2 ^ B 352) = false := by rw [Bool.eq_false_iff]; intro h9; rw [if_pos h9] at c11; exact absurd rfl c11
                        refine w_iincN (w := 1) (l2 := [some (.ref w), some (.int (nI a)), some (.int (nI b)), some (.int (nI 0)), some (.int (nI (2 * a + 1))), some (.int (nI (2 * b + 1 + 1)))]) hX dX7_canBe_68 rfl kI_1 rfl rfl ?_
                        refine w_goto (tgt := 22) hX dX7_canBe_71 (by decide) ?_
                        refine w_iload hX dX7_canBe_22 rfl ?_
                        refine w_iconst hX dX7_canBe_24 kI_2 ?_
                        refine w_iload_n (i := 2) hX dX7_canBe_25 rfl rfl ?_
                        refine w_imulN hX dX7_canBe_26 ?_
                        refine w_iconst hX dX7_canBe_27 kI_1 ?_
                        refine w_iaddN hX dX7_canBe_28 ?_
                        refine wn_icmp_gt (tgt := 74) hX dX7_canBe_29 (by decide) (by first | omega | (split <;> omega)) (by first | omega | (split <;> omega)) (fun c12 => ?_) (fun c12 => ?_)
                        · refine w_iincN (w := 1) (l2 := [some (.ref w), some (.int (nI a)), some (.int (nI b)), some (.int (nI 0)), some (.int (nI (2 * a + 1 + 1))), some (.int (nI (2 * b + 1 + 1)))]) hX dX7_canBe_74 rfl kI_1 rfl rfl ?_
                          refine w_goto (tgt := 7) hX dX7_canBe_77 (by decide) ?_
                          refine w_iload hX dX7_canBe_7 rfl ?_
                          refine w_iconst hX dX7_canBe_9 kI_2 ?_
                          refine w_iload_n (i := 1) hX dX7_canBe_10 rfl rfl ?_
                          refine w_imulN hX dX7_canBe_11 ?_
                          refine w_iconst hX dX7_canBe_12 kI_1 ?_
                          refine w_iaddN hX dX7_canBe_13 ?_
                          refine wn_icmp_gt (tgt := 80) hX dX7_canBe_14 (by decide) (by first | omega | (split <;> omega)) (by first | omega | (split <;> omega)) (fun c13 => ?_) (fun c13 => ?_)
                          · refine w_iload_n (i := 3) hX dX7_canBe_80 rfl rfl ?_
                            exact w_iret hX hE dX7_canBe_81 (Or.inl rfl) rfl ⟨by simp [E_bef, rbt, t0, t1, t2, t3], rfl⟩
                          · exact absurd c13 (by omega)
                        · exact absurd c12 (by omega)
                      · have t3 : mtV (VF B) (B 352) (2 * a + 1) (2 * b + 1) (2 ^ B 352) = true := by by_cases h9 : mtV (VF B) (B 352) (2 * a + 1) (2 * b + 1) (2 ^ B 352) = true; exact h9; rw [if_neg h9] at c11; omega
                        refine w_iload_n (i := 3) hX dX7_canBe_48 rfl rfl ?_
                        refine w_aload_n (i := 0) hX dX7_canBe_49 rfl rfl ?_
                        refine w_getR (q := w + 1) hX dX7_canBe_50 fo_RX7_13 rfl (wd_s hw) (wd_r0 hw) ?_
                        refine w_iload hX dX7_canBe_53 rfl ?_
                        refine w_ialdN hX dX7_canBe_55 (wd_a1 hw) (by omega) (by omega) ?_
                        refine w_top (y := nI (mcB B (2 * a + 1))) (hc.2.1 _ (by omega)) ?_
                        refine w_aload_n (i := 0) hX dX7_canBe_56 rfl rfl ?_
                        refine w_getR (q := w + 1) hX dX7_canBe_57 fo_RX7_13 rfl (wd_s hw) (wd_r0 hw) ?_
                        refine w_iload hX dX7_canBe_60 rfl ?_
                        refine w_ialdN hX dX7_canBe_62 (wd_a1 hw) (by omega) (by omega) ?_
                        refine w_top (y := nI (mcB B (2 * b + 1))) (hc.2.1 _ (by omega)) ?_
                        refine w_callSI (As := [.int (nI (mcB B (2 * a + 1))), .int (nI (mcB B (2 * b + 1)))]) (rest := [.int (nI 0)]) (k2 := 0) (n2 := 0) hX dX7_canBe_63 (s_w_rel Γ μ (mcB B (2 * a + 1)) (mcB B (2 * b + 1)) (by have := mcB_le hW (show 2 * a + 1 < 2 * B 352 by omega); omega) (by have := mcB_le hW (show 2 * b + 1 < 2 * B 352 by omega); omega)) okX7_relation ml_RX7_77 stX7_relation rfl (leb rfl) (leb rfl) rfl rfl (fun r9 μ9 hq9 => ?_)
                        obtain ⟨hr9, hm9⟩ := hq9; rw [hr9, hm9]; clear hr9 hm9 r9 μ9
                        refine w_ior hX dX7_canBe_66 ?_
                        refine w_top (y := nI (0 ||| rel2 (mcB B (2 * a + 1)) (mcB B (2 * b + 1)))) (fa_or _ _) ?_
                        refine w_istore_n (i := 3) (l2 := [some (.ref w), some (.int (nI a)), some (.int (nI b)), some (.int (nI (0 ||| rel2 (mcB B (2 * a + 1)) (mcB B (2 * b + 1))))), some (.int (nI (2 * a + 1))), some (.int (nI (2 * b + 1)))]) hX dX7_canBe_67 rfl (ltb rfl) rfl rfl ?_
                        refine w_iincN (w := 1) (l2 := [some (.ref w), some (.int (nI a)), some (.int (nI b)), some (.int (nI (0 ||| rel2 (mcB B (2 * a + 1)) (mcB B (2 * b + 1))))), some (.int (nI (2 * a + 1))), some (.int (nI (2 * b + 1 + 1)))]) hX dX7_canBe_68 rfl kI_1 rfl rfl ?_
                        refine w_goto (tgt := 22) hX dX7_canBe_71 (by decide) ?_
                        refine w_iload hX dX7_canBe_22 rfl ?_
                        refine w_iconst hX dX7_canBe_24 kI_2 ?_
                        refine w_iload_n (i := 2) hX dX7_canBe_25 rfl rfl ?_
                        refine w_imulN hX dX7_canBe_26 ?_
                        refine w_iconst hX dX7_canBe_27 kI_1 ?_
                        refine w_iaddN hX dX7_canBe_28 ?_
                        refine wn_icmp_gt (tgt := 74) hX dX7_canBe_29 (by decide) (by first | omega | (split <;> omega)) (by first | omega | (split <;> omega)) (fun c14 => ?_) (fun c14 => ?_)
                        · refine w_iincN (w := 1) (l2 := [some (.ref w), some (.int (nI a)), some (.int (nI b)), some (.int (nI (0 ||| rel2 (mcB B (2 * a + 1)) (mcB B (2 * b + 1))))), some (.int (nI (2 * a + 1 + 1))), some (.int (nI (2 * b + 1 + 1)))]) hX dX7_canBe_74 rfl kI_1 rfl rfl ?_
                          refine w_goto (tgt := 7) hX dX7_canBe_77 (by decide) ?_
                          refine w_iload hX dX7_canBe_7 rfl ?_
                          refine w_iconst hX dX7_canBe_9 kI_2 ?_
                          refine w_iload_n (i := 1) hX dX7_canBe_10 rfl rfl ?_
                          refine w_imulN hX dX7_canBe_11 ?_
                          refine w_iconst hX dX7_canBe_12 kI_1 ?_
                          refine w_iaddN hX dX7_canBe_13 ?_
                          refine wn_icmp_gt (tgt := 80) hX dX7_canBe_14 (by decide) (by first | omega | (split <;> omega)) (by first | omega | (split <;> omega)) (fun c15 => ?_) (fun c15 => ?_)
                          · refine w_iload_n (i := 3) hX dX7_canBe_80 rfl rfl ?_
                            exact w_iret hX hE dX7_canBe_81 (Or.inl rfl) rfl ⟨by simp [E_bef, rbt, t0, t1, t2, t3], rfl⟩
                          · exact absurd c15 (by omega)
                        · exact absurd c14 (by omega)
                  · have t2 : mtV (VF B) (B 352) (2 * a + 1) (2 * b) (2 ^ B 352) = true := by by_cases h9 : mtV (VF B) (B 352) (2 * a + 1) (2 * b) (2 ^ B 352) = true; exact h9; rw [if_neg h9] at c9; omega
                    refine w_iload_n (i := 3) hX dX7_canBe_48 rfl rfl ?_
                    refine w_aload_n (i := 0) hX dX7_canBe_49 rfl rfl ?_
                    refine w_getR (q := w + 1) hX dX7_canBe_50 fo_RX7_13 rfl (wd_s hw) (wd_r0 hw) ?_
                    refine w_iload hX dX7_canBe_53 rfl ?_
                    refine w_ialdN hX dX7_canBe_55 (wd_a1 hw) (by omega) (by omega) ?_
                    refine w_top (y := nI (mcB B (2 * a + 1))) (hc.2.1 _ (by omega)) ?_
                    refine w_aload_n (i := 0) hX dX7_canBe_56 rfl rfl ?_
                    refine w_getR (q := w + 1) hX dX7_canBe_57 fo_RX7_13 rfl (wd_s hw) (wd_r0 hw) ?_
                    refine w_iload hX dX7_canBe_60 rfl ?_
                    refine w_ialdN hX dX7_canBe_62 (wd_a1 hw) (by omega) (by omega) ?_
                    refine w_top (y := nI (mcB B (2 * b))) (hc.2.1 _ (by omega)) ?_
                    refine w_callSI (As := [.int (nI (mcB B (2 * a + 1))), .int (nI (mcB B (2 * b)))]) (rest := [.int (nI 0)]) (k2 := 0) (n2 := 0) hX dX7_canBe_63 (s_w_rel Γ μ (mcB B (2 * a + 1)) (mcB B (2 * b)) (by have := mcB_le hW (show 2 * a + 1 < 2 * B 352 by omega); omega) (by have := mcB_le hW (show 2 * b < 2 * B 352 by omega); omega)) okX7_relation ml_RX7_77 stX7_relation rfl (leb rfl) (leb rfl) rfl rfl (fun r9 μ9 hq9 => ?_)
                    obtain ⟨hr9, hm9⟩ := hq9; rw [hr9, hm9]; clear hr9 hm9 r9 μ9
                    refine w_ior hX dX7_canBe_66 ?_
                    refine w_top (y := nI (0 ||| rel2 (mcB B (2 * a + 1)) (mcB B (2 * b)))) (fa_or _ _) ?_
                    refine w_istore_n (i := 3) (l2 := [some (.ref w), some (.int (nI a)), some (.int (nI b)), some (.int (nI (0 ||| rel2 (mcB B (2 * a + 1)) (mcB B (2 * b))))), some (.int (nI (2 * a + 1))), some (.int (nI (2 * b)))]) hX dX7_canBe_67 rfl (ltb rfl) rfl rfl ?_
                    refine w_iincN (w := 1) (l2 := [some (.ref w), some (.int (nI a)), some (.int (nI b)), some (.int (nI (0 ||| rel2 (mcB B (2 * a + 1)) (mcB B (2 * b))))), some (.int (nI (2 * a + 1))), some (.int (nI (2 * b + 1)))]) hX dX7_canBe_68 rfl kI_1 rfl rfl ?_
                    refine w_goto (tgt := 22) hX dX7_canBe_71 (by decide) ?_
                    refine w_iload hX dX7_canBe_22 rfl ?_
                    refine w_iconst hX dX7_canBe_24 kI_2 ?_
                    refine w_iload_n (i := 2) hX dX7_canBe_25 rfl rfl ?_
                    refine w_imulN hX dX7_canBe_26 ?_
                    refine w_iconst hX dX7_canBe_27 kI_1 ?_
                    refine w_iaddN hX dX7_canBe_28 ?_
                    refine wn_icmp_gt (tgt := 74) hX dX7_canBe_29 (by decide) (by first | omega | (split <;> omega)) (by first | omega | (split <;> omega)) (fun c16 => ?_) (fun c16 => ?_)
                    · exact absurd c16 (by omega)
                    · refine w_aload_n (i := 0) hX dX7_canBe_32 rfl rfl ?_
                      refine w_getR (q := w + 3) hX dX7_canBe_33 fo_RX7_20 rfl (wd_s hw) (wd_r2 hw) ?_
                      refine w_iload hX dX7_canBe_36 rfl ?_
                      refine w_ialdN hX dX7_canBe_38 (wd_a3 hw) (by omega) (by omega) ?_
                      refine w_top (y := nI (mtF B (2 ^ B 352) (2 * a + 1))) (hc.2.2.2.1.2.2 _ (by omega)) ?_
                      refine w_iload hX dX7_canBe_39 rfl ?_
                      refine w_ishr hX dX7_canBe_41 ?_
                      refine w_iconst hX dX7_canBe_42 kI_1 ?_
                      refine w_iand hX dX7_canBe_43 ?_
                      refine w_top (y := nI (if mtV (VF B) (B 352) (2 * a + 1) (2 * b + 1) (2 ^ B 352) = true then 1 else 0)) ((bit31 (by have : mtF B (2 ^ B 352) (2 * a + 1) < 2 ^ 24 := bw_31 (by omega); omega) (by omega)).trans (congrArg nI (by unfold mtF; rw [bw_tb]; simp only [show 2 * b + 1 < 2 * B 352 by omega, decide_true, Bool.true_and]))) ?_
                      refine w_iconst hX dX7_canBe_44 kI_1 ?_
                      refine wn_icmp_ne (tgt := 68) hX dX7_canBe_45 (by decide) (by first | omega | (split <;> omega)) (by first | omega | (split <;> omega)) (fun c17 => ?_) (fun c17 => ?_)
                      · have t3 : mtV (VF B) (B 352) (2 * a + 1) (2 * b + 1) (2 ^ B 352) = false := by rw [Bool.eq_false_iff]; intro h9; rw [if_pos h9] at c17; exact absurd rfl c17
                        refine w_iincN (w := 1) (l2 := [some (.ref w), some (.int (nI a)), some (.int (nI b)), some (.int (nI (0 ||| rel2 (mcB B (2 * a + 1)) (mcB B (2 * b))))), some (.int (nI (2 * a + 1))), some (.int (nI (2 * b + 1 + 1)))]) hX dX7_canBe_68 rfl kI_1 rfl rfl ?_
                        refine w_goto (tgt := 22) hX dX7_canBe_71 (by decide) ?_
                        refine w_iload hX dX7_canBe_22 rfl ?_
                        refine w_iconst hX dX7_canBe_24 kI_2 ?_
                        refine w_iload_n (i := 2) hX dX7_canBe_25 rfl rfl ?_
                        refine w_imulN hX dX7_canBe_26 ?_
                        refine w_iconst hX dX7_canBe_27 kI_1 ?_
                        refine w_iaddN hX dX7_canBe_28 ?_
                        refine wn_icmp_gt (tgt := 74) hX dX7_canBe_29 (by decide) (by first | omega | (split <;> omega)) (by first | omega | (split <;> omega)) (fun c18 => ?_) (fun c18 => ?_)
                        · refine w_iincN (w := 1) (l2 := [some (.ref w), some (.int (nI a)), some (.int (nI b)), some (.int (nI (0 ||| rel2 (mcB B (2 * a + 1)) (mcB B (2 * b))))), some (.int (nI (2 * a + 1 + 1))), some (.int (nI (2 * b + 1 + 1)))]) hX dX7_canBe_74 rfl kI_1 rfl rfl ?_
                          refine w_goto (tgt := 7) hX dX7_canBe_77 (by decide) ?_
                          refine w_iload hX dX7_canBe_7 rfl ?_
                          refine w_iconst hX dX7_canBe_9 kI_2 ?_
                          refine w_iload_n (i := 1) hX dX7_canBe_10 rfl rfl ?_
                          refine w_imulN hX dX7_canBe_11 ?_
                          refine w_iconst hX dX7_canBe_12 kI_1 ?_
                          refine w_iaddN hX dX7_canBe_13 ?_
                          refine wn_icmp_gt (tgt := 80) hX dX7_canBe_14 (by decide) (by first | omega | (split <;> omega)) (by first | omega | (split <;> omega)) (fun c19 => ?_) (fun c19 => ?_)
                          · refine w_iload_n (i := 3) hX dX7_canBe_80 rfl rfl ?_
                            exact w_iret hX hE dX7_canBe_81 (Or.inl rfl) rfl ⟨by simp [E_bef, rbt, t0, t1, t2, t3], rfl⟩
                          · exact absurd c19 (by omega)
                        · exact absurd c18 (by omega)
                      · have t3 : mtV (VF B) (B 352) (2 * a + 1) (2 * b + 1) (2 ^ B 352) = true := by by_cases h9 : mtV (VF B) (B 352) (2 * a + 1) (2 * b + 1) (2 ^ B 352) = true; exact h9; rw [if_neg h9] at c17; omega
                        refine w_iload_n (i := 3) hX dX7_canBe_48 rfl rfl ?_
                        refine w_aload_n (i := 0) hX dX7_canBe_49 rfl rfl ?_
                        refine w_getR (q := w + 1) hX dX7_canBe_50 fo_RX7_13 rfl (wd_s hw) (wd_r0 hw) ?_
                        refine w_iload hX dX7_canBe_53 rfl ?_
                        refine w_ialdN hX dX7_canBe_55 (wd_a1 hw) (by omega) (by omega) ?_
                        refine w_top (y := nI (mcB B (2 * a + 1))) (hc.2.1 _ (by omega)) ?_
                        refine w_aload_n (i := 0) hX dX7_canBe_56 rfl rfl ?_
                        refine w_getR (q := w + 1) hX dX7_canBe_57 fo_RX7_13 rfl (wd_s hw) (wd_r0 hw) ?_
                        refine w_iload hX dX7_canBe_60 rfl ?_
                        refine w_ialdN hX dX7_canBe_62 (wd_a1 hw) (by omega) (by omega) ?_
                        refine w_top (y := nI (mcB B (2 * b + 1))) (hc.2.1 _ (by omega)) ?_
                        refine w_callSI (As := [.int (nI (mcB B (2 * a + 1))), .int (nI (mcB B (2 * b + 1)))]) (rest := [.int (nI (0 ||| rel2 (mcB B (2 * a + 1)) (mcB B (2 * b))))]) (k2 := 0) (n2 := 0) hX dX7_canBe_63 (s_w_rel Γ μ (mcB B (2 * a + 1)) (mcB B (2 * b + 1)) (by have := mcB_le hW (show 2 * a + 1 < 2 * B 352 by omega); omega) (by have := mcB_le hW (show 2 * b + 1 < 2 * B 352 by omega); omega)) okX7_relation ml_RX7_77 stX7_relation rfl (leb rfl) (leb rfl) rfl rfl (fun r9 μ9 hq9 => ?_)
                        obtain ⟨hr9, hm9⟩ := hq9; rw [hr9, hm9]; clear hr9 hm9 r9 μ9
                        refine w_ior hX dX7_canBe_66 ?_
                        refine w_top (y := nI ((0 ||| rel2 (mcB B (2 * a + 1)) (mcB B (2 * b))) ||| rel2 (mcB B (2 * a + 1)) (mcB B (2 * b + 1)))) (fa_or _ _) ?_
                        refine w_istore_n (i := 3) (l2 := [some (.ref w), some (.int (nI a)), some (.int (nI b)), some (.int (nI ((0 ||| rel2 (mcB B (2 * a + 1)) (mcB B (2 * b))) ||| rel2 (mcB B (2 * a + 1)) (mcB B (2 * b + 1))))), some (.int (nI (2 * a + 1))), some (.int (nI (2 * b + 1)))]) hX dX7_canBe_67 rfl (ltb rfl) rfl rfl ?_
                        refine w_iincN (w := 1) (l2 := [some (.ref w), some (.int (nI a)), some (.int (nI b)), some (.int (nI ((0 ||| rel2 (mcB B (2 * a + 1)) (mcB B (2 * b))) ||| rel2 (mcB B (2 * a + 1)) (mcB B (2 * b + 1))))), some (.int (nI (2 * a + 1))), some (.int (nI (2 * b + 1 + 1)))]) hX dX7_canBe_68 rfl kI_1 rfl rfl ?_
                        refine w_goto (tgt := 22) hX dX7_canBe_71 (by decide) ?_
                        refine w_iload hX dX7_canBe_22 rfl ?_
                        refine w_iconst hX dX7_canBe_24 kI_2 ?_
                        refine w_iload_n (i := 2) hX dX7_canBe_25 rfl rfl ?_
                        refine w_imulN hX dX7_canBe_26 ?_
                        refine w_iconst hX dX7_canBe_27 kI_1 ?_
                        refine w_iaddN hX dX7_canBe_28 ?_
                        refine wn_icmp_gt (tgt := 74) hX dX7_canBe_29 (by decide) (by first | omega | (split <;> omega)) (by first | omega | (split <;> omega)) (fun c20 => ?_) (fun c20 => ?_)
                        · refine w_iincN (w := 1) (l2 := [some (.ref w), some (.int (nI a)), some (.int (nI b)), some (.int (nI ((0 ||| rel2 (mcB B (2 * a + 1)) (mcB B (2 * b))) ||| rel2 (mcB B (2 * a + 1)) (mcB B (2 * b + 1))))), some (.int (nI (2 * a + 1 + 1))), some (.int (nI (2 * b + 1 + 1)))]) hX dX7_canBe_74 rfl kI_1 rfl rfl ?_
                          refine w_goto (tgt := 7) hX dX7_canBe_77 (by decide) ?_
                          refine w_iload hX dX7_canBe_7 rfl ?_
                          refine w_iconst hX dX7_canBe_9 kI_2 ?_
                          refine w_iload_n (i := 1) hX dX7_canBe_10 rfl rfl ?_
                          refine w_imulN hX dX7_canBe_11 ?_
                          refine w_iconst hX dX7_canBe_12 kI_1 ?_
                          refine w_iaddN hX dX7_canBe_13 ?_
                          refine wn_icmp_gt (tgt := 80) hX dX7_canBe_14 (by decide) (by first | omega | (split <;> omega)) (by first | omega | (split <;> omega)) (fun c21 => ?_) (fun c21 => ?_)
                          · refine w_iload_n (i := 3) hX dX7_canBe_80 rfl rfl ?_
                            exact w_iret hX hE dX7_canBe_81 (Or.inl rfl) rfl ⟨by simp [E_bef, rbt, t0, t1, t2, t3], rfl⟩
                          · exact absurd c21 (by omega)
                        · exact absurd c20 (by omega)
            · exact absurd c6 (by omega)
          · have t1 : mtV (VF B) (B 352) (2 * a) (2 * b + 1) (2 ^ B 352) = true := by by_cases h9 : mtV (VF B) (B 352) (2 * a) (2 * b + 1) (2 ^ B 352) = true; exact h9; rw [if_neg h9] at c5; omega
            refine w_iload_n (i := 3) hX dX7_canBe_48 rfl rfl ?_
            refine w_aload_n (i := 0) hX dX7_canBe_49 rfl rfl ?_
            refine w_getR (q := w + 1) hX dX7_canBe_50 fo_RX7_13 rfl (wd_s hw) (wd_r0 hw) ?_
            refine w_iload hX dX7_canBe_53 rfl ?_
            refine w_ialdN hX dX7_canBe_55 (wd_a1 hw) (by omega) (by omega) ?_
            refine w_top (y := nI (mcB B (2 * a))) (hc.2.1 _ (by omega)) ?_
            refine w_aload_n (i := 0) hX dX7_canBe_56 rfl rfl ?_
            refine w_getR (q := w + 1) hX dX7_canBe_57 fo_RX7_13 rfl (wd_s hw) (wd_r0 hw) ?_
            refine w_iload hX dX7_canBe_60 rfl ?_
            refine w_ialdN hX dX7_canBe_62 (wd_a1 hw) (by omega) (by omega) ?_
            refine w_top (y := nI (mcB B (2 * b + 1))) (hc.2.1 _ (by omega)) ?_
            refine w_callSI (As := [.int (nI (mcB B (2 * a))), .int (nI (mcB B (2 * b + 1)))]) (rest := [.int (nI 0)]) (k2 := 0) (n2 := 0) hX dX7_canBe_63 (s_w_rel Γ μ (mcB B (2 * a)) (mcB B (2 * b + 1)) (by have := mcB_le hW (show 2 * a < 2 * B 352 by omega); omega) (by have := mcB_le hW (show 2 * b + 1 < 2 * B 352 by omega); omega)) okX7_relation ml_RX7_77 stX7_relation rfl (leb rfl) (leb rfl) rfl rfl (fun r9 μ9 hq9 => ?_)
            obtain ⟨hr9, hm9⟩ := hq9; rw [hr9, hm9]; clear hr9 hm9 r9 μ9
            refine w_ior hX dX7_canBe_66 ?_
            refine w_top (y := nI (0 ||| rel2 (mcB B (2 * a)) (mcB B (2 * b + 1)))) (fa_or _ _) ?_
            refine w_istore_n (i := 3) (l2 := [some (.ref w), some (.int (nI a)), some (.int (nI b)), some (.int (nI (0 ||| rel2 (mcB B (2 * a)) (mcB B (2 * b + 1))))), some (.int (nI (2 * a))), some (.int (nI (2 * b + 1)))]) hX dX7_canBe_67 rfl (ltb rfl) rfl rfl ?_
            refine w_iincN (w := 1) (l2 := [some (.ref w), some (.int (nI a)), some (.int (nI b)), some (.int (nI (0 ||| rel2 (mcB B (2 * a)) (mcB B (2 * b + 1))))), some (.int (nI (2 * a))), some (.int (nI (2 * b + 1 + 1)))]) hX dX7_canBe_68 rfl kI_1 rfl rfl ?_
            refine w_goto (tgt := 22) hX dX7_canBe_71 (by decide) ?_
            refine w_iload hX dX7_canBe_22 rfl ?_
            refine w_iconst hX dX7_canBe_24 kI_2 ?_
            refine w_iload_n (i := 2) hX dX7_canBe_25 rfl rfl ?_
            refine w_imulN hX dX7_canBe_26 ?_
            refine w_iconst hX dX7_canBe_27 kI_1 ?_
            refine w_iaddN hX dX7_canBe_28 ?_
            refine wn_icmp_gt (tgt := 74) hX dX7_canBe_29 (by decide) (by first | omega | (split <;> omega)) (by first | omega | (split <;> omega)) (fun c22 => ?_) (fun c22 => ?_)
            · refine w_iincN (w := 1) (l2 := [some (.ref w), some (.int (nI a)), some (.int (nI b)), some (.int (nI (0 ||| rel2 (mcB B (2 * a)) (mcB B (2 * b + 1))))), some (.int (nI (2 * a + 1))), some (.int (nI (2 * b + 1 + 1)))]) hX dX7_canBe_74 rfl kI_1 rfl rfl ?_
              refine w_goto (tgt := 7) hX dX7_canBe_77 (by decide) ?_
              refine w_iload hX dX7_canBe_7 rfl ?_
              refine w_iconst hX dX7_canBe_9 kI_2 ?_
              refine w_iload_n (i := 1) hX dX7_canBe_10 rfl rfl ?_
              refine w_imulN hX dX7_canBe_11 ?_
              refine w_iconst hX dX7_canBe_12 kI_1 ?_
              refine w_iaddN hX dX7_canBe_13 ?_
              refine wn_icmp_gt (tgt := 80) hX dX7_canBe_14 (by decide) (by first | omega | (split <;> omega)) (by first | omega | (split <;> omega)) (fun c23 => ?_) (fun c23 => ?_)
              · exact absurd c23 (by omega)
              · refine w_iconst hX dX7_canBe_17 kI_2 ?_
                refine w_iload_n (i := 2) hX dX7_canBe_18 rfl rfl ?_
                refine w_imulN hX dX7_canBe_19 ?_
                refine w_istore (l2 := [some (.ref w), some (.int (nI a)), some (.int (nI b)), some (.int (nI (0 ||| rel2 (mcB B (2 * a)) (mcB B (2 * b + 1))))), some (.int (nI (2 * a + 1))), some (.int (nI (2 * b)))]) hX dX7_canBe_20 (ltb rfl) rfl rfl ?_
                refine w_iload hX dX7_canBe_22 rfl ?_
                refine w_iconst hX dX7_canBe_24 kI_2 ?_
                refine w_iload_n (i := 2) hX dX7_canBe_25 rfl rfl ?_
                refine w_imulN hX dX7_canBe_26 ?_
                refine w_iconst hX dX7_canBe_27 kI_1 ?_
                refine w_iaddN hX dX7_canBe_28 ?_
                refine wn_icmp_gt (tgt := 74) hX dX7_canBe_29 (by decide) (by first | omega | (split <;> omega)) (by first | omega | (split <;> omega)) (fun c24 => ?_) (fun c24 => ?_)
                · exact absurd c24 (by omega)
                · refine w_aload_n (i := 0) hX dX7_canBe_32 rfl rfl ?_
                  refine w_getR (q := w + 3) hX dX7_canBe_33 fo_RX7_20 rfl (wd_s hw) (wd_r2 hw) ?_
                  refine w_iload hX dX7_canBe_36 rfl ?_
                  refine w_ialdN hX dX7_canBe_38 (wd_a3 hw) (by omega) (by omega) ?_
                  refine w_top (y := nI (mtF B (2 ^ B 352) (2 * a + 1))) (hc.2.2.2.1.2.2 _ (by omega)) ?_
                  refine w_iload hX dX7_canBe_39 rfl ?_
                  refine w_ishr hX dX7_canBe_41 ?_
                  refine w_iconst hX dX7_canBe_42 kI_1 ?_
                  refine w_iand hX dX7_canBe_43 ?_
                  refine w_top (y := nI (if mtV (VF B) (B 352) (2 * a + 1) (2 * b) (2 ^ B 352) = true then 1 else 0)) ((bit31 (by have : mtF B (2 ^ B 352) (2 * a + 1) < 2 ^ 24 := bw_31 (by omega); omega) (by omega)).trans (congrArg nI (by unfold mtF; rw [bw_tb]; simp only [show 2 * b < 2 * B 352 by omega, decide_true, Bool.true_and]))) ?_
                  refine w_iconst hX dX7_canBe_44 kI_1 ?_
                  refine wn_icmp_ne (tgt := 68) hX dX7_canBe_45 (by decide) (by first | omega | (split <;> omega)) (by first | omega | (split <;> omega)) (fun c25 => ?_) (fun c25 => ?_)
                  · have t2 : mtV (VF B) (B 352) (2 * a + 1) (2 * b) (2 ^ B 352) = false := by rw [Bool.eq_false_iff]; intro h9; rw [if_pos h9] at c25; exact absurd rfl c25
                    refine w_iincN (w := 1) (l2 := [some (.ref w), some (.int (nI a)), some (.int (nI b)), some (.int (nI (0 ||| rel2 (mcB B (2 * a)) (mcB B (2 * b + 1))))), some (.int (nI (2 * a + 1))), some (.int (nI (2 * b + 1)))]) hX dX7_canBe_68 rfl kI_1 rfl rfl ?_
                    refine w_goto (tgt := 22) hX dX7_canBe_71 (by decide) ?_
                    refine w_iload hX dX7_canBe_22 rfl ?_
                    refine w_iconst hX dX7_canBe_24 kI_2 ?_
                    refine w_iload_n (i := 2) hX dX7_canBe_25 rfl rfl ?_
                    refine w_imulN hX dX7_canBe_26 ?_
                    refine w_iconst hX dX7_canBe_27 kI_1 ?_
                    refine w_iaddN hX dX7_canBe_28 ?_
                    refine wn_icmp_gt (tgt := 74) hX dX7_canBe_29 (by decide) (by first | omega | (split <;> omega)) (by first | omega | (split <;> omega)) (fun c26 => ?_) (fun c26 => ?_)
                    · exact absurd c26 (by omega)
                    · refine w_aload_n (i := 0) hX dX7_canBe_32 rfl rfl ?_
                      refine w_getR (q := w + 3) hX dX7_canBe_33 fo_RX7_20 rfl (wd_s hw) (wd_r2 hw) ?_
                      refine w_iload hX dX7_canBe_36 rfl ?_
                      refine w_ialdN hX dX7_canBe_38 (wd_a3 hw) (by omega) (by omega) ?_
                      refine w_top (y := nI (mtF B (2 ^ B 352) (2 * a + 1))) (hc.2.2.2.1.2.2 _ (by omega)) ?_
                      refine w_iload hX dX7_canBe_39 rfl ?_
                      refine w_ishr hX dX7_canBe_41 ?_
                      refine w_iconst hX dX7_canBe_42 kI_1 ?_
                      refine w_iand hX dX7_canBe_43 ?_
                      refine w_top (y := nI (if mtV (VF B) (B 352) (2 * a + 1) (2 * b + 1) (2 ^ B 352) = true then 1 else 0)) ((bit31 (by have : mtF B (2 ^ B 352) (2 * a + 1) < 2 ^ 24 := bw_31 (by omega); omega) (by omega)).trans (congrArg nI (by unfold mtF; rw [bw_tb]; simp only [show 2 * b + 1 < 2 * B 352 by omega, decide_true, Bool.true_and]))) ?_
                      refine w_iconst hX dX7_canBe_44 kI_1 ?_
                      refine wn_icmp_ne (tgt := 68) hX dX7_canBe_45 (by decide) (by first | omega | (split <;> omega)) (by first | omega | (split <;> omega)) (fun c27 => ?_) (fun c27 => ?_)
                      · have t3 : mtV (VF B) (B 352) (2 * a + 1) (2 * b + 1) (2 ^ B 352) = false := by rw [Bool.eq_false_iff]; intro h9; rw [if_pos h9] at c27; exact absurd rfl c27
                        refine w_iincN (w := 1) (l2 := [some (.ref w), some (.int (nI a)), some (.int (nI b)), some (.int (nI (0 ||| rel2 (mcB B (2 * a)) (mcB B (2 * b + 1))))), some (.int (nI (2 * a + 1))), some (.int (nI (2 * b + 1 + 1)))]) hX dX7_canBe_68 rfl kI_1 rfl rfl ?_
                        refine w_goto (tgt := 22) hX dX7_canBe_71 (by decide) ?_
                        refine w_iload hX dX7_canBe_22 rfl ?_
                        refine w_iconst hX dX7_canBe_24 kI_2 ?_
                        refine w_iload_n (i := 2) hX dX7_canBe_25 rfl rfl ?_
                        refine w_imulN hX dX7_canBe_26 ?_
                        refine w_iconst hX dX7_canBe_27 kI_1 ?_
                        refine w_iaddN hX dX7_canBe_28 ?_
                        refine wn_icmp_gt (tgt := 74) hX dX7_canBe_29 (by decide) (by first | omega | (split <;> omega)) (by first | omega | (split <;> omega)) (fun c28 => ?_) (fun c28 => ?_)
                        · refine w_iincN (w := 1) (l2 := [some (.ref w), some (.int (nI a)), some (.int (nI b)), some (.int (nI (0 ||| rel2 (mcB B (2 * a)) (mcB B (2 * b + 1))))), some (.int (nI (2 * a + 1 + 1))), some (.int (nI (2 * b + 1 + 1)))]) hX dX7_canBe_74 rfl kI_1 rfl rfl ?_
                          refine w_goto (tgt := 7) hX dX7_canBe_77 (by decide) ?_
                          refine w_iload hX dX7_canBe_7 rfl ?_
                          refine w_iconst hX dX7_canBe_9 kI_2 ?_
                          refine w_iload_n (i := 1) hX dX7_canBe_10 rfl rfl ?_
                          refine w_imulN hX dX7_canBe_11 ?_
                          refine w_iconst hX dX7_canBe_12 kI_1 ?_
                          refine w_iaddN hX dX7_canBe_13 ?_
                          refine wn_icmp_gt (tgt := 80) hX dX7_canBe_14 (by decide) (by first | omega | (split <;> omega)) (by first | omega | (split <;> omega)) (fun c29 => ?_) (fun c29 => ?_)
                          · refine w_iload_n (i := 3) hX dX7_canBe_80 rfl rfl ?_
                            exact w_iret hX hE dX7_canBe_81 (Or.inl rfl) rfl ⟨by simp [E_bef, rbt, t0, t1, t2, t3], rfl⟩
                          · exact absurd c29 (by omega)
                        · exact absurd c28 (by omega)
                      · have t3 : mtV (VF B) (B 352) (2 * a + 1) (2 * b + 1) (2 ^ B 352) = true := by by_cases h9 : mtV (VF B) (B 352) (2 * a + 1) (2 * b + 1) (2 ^ B 352) = true; exact h9; rw [if_neg h9] at c27; omega
                        refine w_iload_n (i := 3) hX dX7_canBe_48 rfl rfl ?_
                        refine w_aload_n (i := 0) hX dX7_canBe_49 rfl rfl ?_
                        refine w_getR (q := w + 1) hX dX7_canBe_50 fo_RX7_13 rfl (wd_s hw) (wd_r0 hw) ?_
                        refine w_iload hX dX7_canBe_53 rfl ?_
                        refine w_ialdN hX dX7_canBe_55 (wd_a1 hw) (by omega) (by omega) ?_
                        refine w_top (y := nI (mcB B (2 * a + 1))) (hc.2.1 _ (by omega)) ?_
                        refine w_aload_n (i := 0) hX dX7_canBe_56 rfl rfl ?_
                        refine w_getR (q := w + 1) hX dX7_canBe_57 fo_RX7_13 rfl (wd_s hw) (wd_r0 hw) ?_
                        refine w_iload hX dX7_canBe_60 rfl ?_
                        refine w_ialdN hX dX7_canBe_62 (wd_a1 hw) (by omega) (by omega) ?_
                        refine w_top (y := nI (mcB B (2 * b + 1))) (hc.2.1 _ (by omega)) ?_
                        refine w_callSI (As := [.int (nI (mcB B (2 * a + 1))), .int (nI (mcB B (2 * b + 1)))]) (rest := [.int (nI (0 ||| rel2 (mcB B (2 * a)) (mcB B (2 * b + 1))))]) (k2 := 0) (n2 := 0) hX dX7_canBe_63 (s_w_rel Γ μ (mcB B (2 * a + 1)) (mcB B (2 * b + 1)) (by have := mcB_le hW (show 2 * a + 1 < 2 * B 352 by omega); omega) (by have := mcB_le hW (show 2 * b + 1 < 2 * B 352 by omega); omega)) okX7_relation ml_RX7_77 stX7_relation rfl (leb rfl) (leb rfl) rfl rfl (fun r9 μ9 hq9 => ?_)
                        obtain ⟨hr9, hm9⟩ := hq9; rw [hr9, hm9]; clear hr9 hm9 r9 μ9
                        refine w_ior hX dX7_canBe_66 ?_
                        refine w_top (y := nI ((0 ||| rel2 (mcB B (2 * a)) (mcB B (2 * b + 1))) ||| rel2 (mcB B (2 * a + 1)) (mcB B (2 * b + 1)))) (fa_or _ _) ?_
                        refine w_istore_n (i := 3) (l2 := [some (.ref w), some (.int (nI a)), some (.int (nI b)), some (.int (nI ((0 ||| rel2 (mcB B (2 * a)) (mcB B (2 * b + 1))) ||| rel2 (mcB B (2 * a + 1)) (mcB B (2 * b + 1))))), some (.int (nI (2 * a + 1))), some (.int (nI (2 * b + 1)))]) hX dX7_canBe_67 rfl (ltb rfl) rfl rfl ?_
                        refine w_iincN (w := 1) (l2 := [some (.ref w), some (.int (nI a)), some (.int (nI b)), some (.int (nI ((0 ||| rel2 (mcB B (2 * a)) (mcB B (2 * b + 1))) ||| rel2 (mcB B (2 * a + 1)) (mcB B (2 * b + 1))))), some (.int (nI (2 * a + 1))), some (.int (nI (2 * b + 1 + 1)))]) hX dX7_canBe_68 rfl kI_1 rfl rfl ?_
                        refine w_goto (tgt := 22) hX dX7_canBe_71 (by decide) ?_
                        refine w_iload hX dX7_canBe_22 rfl ?_
                        refine w_iconst hX dX7_canBe_24 kI_2 ?_
                        refine w_iload_n (i := 2) hX dX7_canBe_25 rfl rfl ?_
                        refine w_imulN hX dX7_canBe_26 ?_
                        refine w_iconst hX dX7_canBe_27 kI_1 ?_
                        refine w_iaddN hX dX7_canBe_28 ?_
                        refine wn_icmp_gt (tgt := 74) hX dX7_canBe_29 (by decide) (by first | omega | (split <;> omega)) (by first | omega | (split <;> omega)) (fun c30 => ?_) (fun c30 => ?_)
                        · refine w_iincN (w := 1) (l2 := [some (.ref w), some (.int (nI a)), some (.int (nI b)), some (.int (nI ((0 ||| rel2 (mcB B (2 * a)) (mcB B (2 * b + 1))) ||| rel2 (mcB B (2 * a + 1)) (mcB B (2 * b + 1))))), some (.int (nI (2 * a + 1 + 1))), some (.int (nI (2 * b + 1 + 1)))]) hX dX7_canBe_74 rfl kI_1 rfl rfl ?_
                          refine w_goto (tgt := 7) hX dX7_canBe_77 (by decide) ?_
                          refine w_iload hX dX7_canBe_7 rfl ?_
                          refine w_iconst hX dX7_canBe_9 kI_2 ?_
                          refine w_iload_n (i := 1) hX dX7_canBe_10 rfl rfl ?_
                          refine w_imulN hX dX7_canBe_11 ?_
                          refine w_iconst hX dX7_canBe_12 kI_1 ?_
                          refine w_iaddN hX dX7_canBe_13 ?_
                          refine wn_icmp_gt (tgt := 80) hX dX7_canBe_14 (by decide) (by first | omega | (split <;> omega)) (by first | omega | (split <;> omega)) (fun c31 => ?_) (fun c31 => ?_)
                          · refine w_iload_n (i := 3) hX dX7_canBe_80 rfl rfl ?_
                            exact w_iret hX hE dX7_canBe_81 (Or.inl rfl) rfl ⟨by simp [E_bef, rbt, t0, t1, t2, t3], rfl⟩
                          · exact absurd c31 (by omega)
                        · exact absurd c30 (by omega)
                  · have t2 : mtV (VF B) (B 352) (2 * a + 1) (2 * b) (2 ^ B 352) = true := by by_cases h9 : mtV (VF B) (B 352) (2 * a + 1) (2 * b) (2 ^ B 352) = true; exact h9; rw [if_neg h9] at c25; omega
                    refine w_iload_n (i := 3) hX dX7_canBe_48 rfl rfl ?_
                    refine w_aload_n (i := 0) hX dX7_canBe_49 rfl rfl ?_
                    refine w_getR (q := w + 1) hX dX7_canBe_50 fo_RX7_13 rfl (wd_s hw) (wd_r0 hw) ?_
                    refine w_iload hX dX7_canBe_53 rfl ?_
                    refine w_ialdN hX dX7_canBe_55 (wd_a1 hw) (by omega) (by omega) ?_
                    refine w_top (y := nI (mcB B (2 * a + 1))) (hc.2.1 _ (by omega)) ?_
                    refine w_aload_n (i := 0) hX dX7_canBe_56 rfl rfl ?_
                    refine w_getR (q := w + 1) hX dX7_canBe_57 fo_RX7_13 rfl (wd_s hw) (wd_r0 hw) ?_
                    refine w_iload hX dX7_canBe_60 rfl ?_
                    refine w_ialdN hX dX7_canBe_62 (wd_a1 hw) (by omega) (by omega) ?_
                    refine w_top (y := nI (mcB B (2 * b))) (hc.2.1 _ (by omega)) ?_
                    refine w_callSI (As := [.int (nI (mcB B (2 * a + 1))), .int (nI (mcB B (2 * b)))]) (rest := [.int (nI (0 ||| rel2 (mcB B (2 * a)) (mcB B (2 * b + 1))))]) (k2 := 0) (n2 := 0) hX dX7_canBe_63 (s_w_rel Γ μ (mcB B (2 * a + 1)) (mcB B (2 * b)) (by have := mcB_le hW (show 2 * a + 1 < 2 * B 352 by omega); omega) (by have := mcB_le hW (show 2 * b < 2 * B 352 by omega); omega)) okX7_relation ml_RX7_77 stX7_relation rfl (leb rfl) (leb rfl) rfl rfl (fun r9 μ9 hq9 => ?_)
                    obtain ⟨hr9, hm9⟩ := hq9; rw [hr9, hm9]; clear hr9 hm9 r9 μ9
                    refine w_ior hX dX7_canBe_66 ?_
                    refine w_top (y := nI ((0 ||| rel2 (mcB B (2 * a)) (mcB B (2 * b + 1))) ||| rel2 (mcB B (2 * a + 1)) (mcB B (2 * b)))) (fa_or _ _) ?_
                    refine w_istore_n (i := 3) (l2 := [some (.ref w), some (.int (nI a)), some (.int (nI b)), some (.int (nI ((0 ||| rel2 (mcB B (2 * a)) (mcB B (2 * b + 1))) ||| rel2 (mcB B (2 * a + 1)) (mcB B (2 * b))))), some (.int (nI (2 * a + 1))), some (.int (nI (2 * b)))]) hX dX7_canBe_67 rfl (ltb rfl) rfl rfl ?_
                    refine w_iincN (w := 1) (l2 := [some (.ref w), some (.int (nI a)), some (.int (nI b)), some (.int (nI ((0 ||| rel2 (mcB B (2 * a)) (mcB B (2 * b + 1))) ||| rel2 (mcB B (2 * a + 1)) (mcB B (2 * b))))), some (.int (nI (2 * a + 1))), some (.int (nI (2 * b + 1)))]) hX dX7_canBe_68 rfl kI_1 rfl rfl ?_
                    refine w_goto (tgt := 22) hX dX7_canBe_71 (by decide) ?_
                    refine w_iload hX dX7_canBe_22 rfl ?_
                    refine w_iconst hX dX7_canBe_24 kI_2 ?_
                    refine w_iload_n (i := 2) hX dX7_canBe_25 rfl rfl ?_
                    refine w_imulN hX dX7_canBe_26 ?_
                    refine w_iconst hX dX7_canBe_27 kI_1 ?_
                    refine w_iaddN hX dX7_canBe_28 ?_
                    refine wn_icmp_gt (tgt := 74) hX dX7_canBe_29 (by decide) (by first | omega | (split <;> omega)) (by first | omega | (split <;> omega)) (fun c32 => ?_) (fun c32 => ?_)
                    · exact absurd c32 (by omega)
                    · refine w_aload_n (i := 0) hX dX7_canBe_32 rfl rfl ?_
                      refine w_getR (q := w + 3) hX dX7_canBe_33 fo_RX7_20 rfl (wd_s hw) (wd_r2 hw) ?_
                      refine w_iload hX dX7_canBe_36 rfl ?_
                      refine w_ialdN hX dX7_canBe_38 (wd_a3 hw) (by omega) (by omega) ?_
                      refine w_top (y := nI (mtF B (2 ^ B 352) (2 * a + 1))) (hc.2.2.2.1.2.2 _ (by omega)) ?_
                      refine w_iload hX dX7_canBe_39 rfl ?_
                      refine w_ishr hX dX7_canBe_41 ?_
                      refine w_iconst hX dX7_canBe_42 kI_1 ?_
                      refine w_iand hX dX7_canBe_43 ?_
                      refine w_top (y := nI (if mtV (VF B) (B 352) (2 * a + 1) (2 * b + 1) (2 ^ B 352) = true then 1 else 0)) ((bit31 (by have : mtF B (2 ^ B 352) (2 * a + 1) < 2 ^ 24 := bw_31 (by omega); omega) (by omega)).trans (congrArg nI (by unfold mtF; rw [bw_tb]; simp only [show 2 * b + 1 < 2 * B 352 by omega, decide_true, Bool.true_and]))) ?_
                      refine w_iconst hX dX7_canBe_44 kI_1 ?_
                      refine wn_icmp_ne (tgt := 68) hX dX7_canBe_45 (by decide) (by first | omega | (split <;> omega)) (by first | omega | (split <;> omega)) (fun c33 => ?_) (fun c33 => ?_)
                      · have t3 : mtV (VF B) (B 352) (2 * a + 1) (2 * b + 1) (2 ^ B 352) = false := by rw [Bool.eq_false_iff]; intro h9; rw [if_pos h9] at c33; exact absurd rfl c33
                        refine w_iincN (w := 1) (l2 := [some (.ref w), some (.int (nI a)), some (.int (nI b)), some (.int (nI ((0 ||| rel2 (mcB B (2 * a)) (mcB B (2 * b + 1))) ||| rel2 (mcB B (2 * a + 1)) (mcB B (2 * b))))), some (.int (nI (2 * a + 1))), some (.int (nI (2 * b + 1 + 1)))]) hX dX7_canBe_68 rfl kI_1 rfl rfl ?_
                        refine w_goto (tgt := 22) hX dX7_canBe_71 (by decide) ?_
                        refine w_iload hX dX7_canBe_22 rfl ?_
                        refine w_iconst hX dX7_canBe_24 kI_2 ?_
                        refine w_iload_n (i := 2) hX dX7_canBe_25 rfl rfl ?_
                        refine w_imulN hX dX7_canBe_26 ?_
                        refine w_iconst hX dX7_canBe_27 kI_1 ?_
                        refine w_iaddN hX dX7_canBe_28 ?_
                        refine wn_icmp_gt (tgt := 74) hX dX7_canBe_29 (by decide) (by first | omega | (split <;> omega)) (by first | omega | (split <;> omega)) (fun c34 => ?_) (fun c34 => ?_)
                        · refine w_iincN (w := 1) (l2 := [some (.ref w), some (.int (nI a)), some (.int (nI b)), some (.int (nI ((0 ||| rel2 (mcB B (2 * a)) (mcB B (2 * b + 1))) ||| rel2 (mcB B (2 * a + 1)) (mcB B (2 * b))))), some (.int (nI (2 * a + 1 + 1))), some (.int (nI (2 * b + 1 + 1)))]) hX dX7_canBe_74 rfl kI_1 rfl rfl ?_
                          refine w_goto (tgt := 7) hX dX7_canBe_77 (by decide) ?_
                          refine w_iload hX dX7_canBe_7 rfl ?_
                          refine w_iconst hX dX7_canBe_9 kI_2 ?_
                          refine w_iload_n (i := 1) hX dX7_canBe_10 rfl rfl ?_
                          refine w_imulN hX dX7_canBe_11 ?_
                          refine w_iconst hX dX7_canBe_12 kI_1 ?_
                          refine w_iaddN hX dX7_canBe_13 ?_
                          refine wn_icmp_gt (tgt := 80) hX dX7_canBe_14 (by decide) (by first | omega | (split <;> omega)) (by first | omega | (split <;> omega)) (fun c35 => ?_) (fun c35 => ?_)
                          · refine w_iload_n (i := 3) hX dX7_canBe_80 rfl rfl ?_
                            exact w_iret hX hE dX7_canBe_81 (Or.inl rfl) rfl ⟨by simp [E_bef, rbt, t0, t1, t2, t3], rfl⟩
                          · exact absurd c35 (by omega)
                        · exact absurd c34 (by omega)
                      · have t3 : mtV (VF B) (B 352) (2 * a + 1) (2 * b + 1) (2 ^ B 352) = true := by by_cases h9 : mtV (VF B) (B 352) (2 * a + 1) (2 * b + 1) (2 ^ B 352) = true; exact h9; rw [if_neg h9] at c33; omega
                        refine w_iload_n (i := 3) hX dX7_canBe_48 rfl rfl ?_
                        refine w_aload_n (i := 0) hX dX7_canBe_49 rfl rfl ?_
                        refine w_getR (q := w + 1) hX dX7_canBe_50 fo_RX7_13 rfl (wd_s hw) (wd_r0 hw) ?_
                        refine w_iload hX dX7_canBe_53 rfl ?_
                        refine w_ialdN hX dX7_canBe_55 (wd_a1 hw) (by omega) (by omega) ?_
                        refine w_top (y := nI (mcB B (2 * a + 1))) (hc.2.1 _ (by omega)) ?_
                        refine w_aload_n (i := 0) hX dX7_canBe_56 rfl rfl ?_
                        refine w_getR (q := w + 1) hX dX7_canBe_57 fo_RX7_13 rfl (wd_s hw) (wd_r0 hw) ?_
                        refine w_iload hX dX7_canBe_60 rfl ?_
                        refine w_ialdN hX dX7_canBe_62 (wd_a1 hw) (by omega) (by omega) ?_
                        refine w_top (y := nI (mcB B (2 * b + 1))) (hc.2.1 _ (by omega)) ?_
                        refine w_callSI (As := [.int (nI (mcB B (2 * a + 1))), .int (nI (mcB B (2 * b + 1)))]) (rest := [.int (nI ((0 ||| rel2 (mcB B (2 * a)) (mcB B (2 * b + 1))) ||| rel2 (mcB B (2 * a + 1)) (mcB B (2 * b))))]) (k2 := 0) (n2 := 0) hX dX7_canBe_63 (s_w_rel Γ μ (mcB B (2 * a + 1)) (mcB B (2 * b + 1)) (by have := mcB_le hW (show 2 * a + 1 < 2 * B 352 by omega); omega) (by have := mcB_le hW (show 2 * b + 1 < 2 * B 352 by omega); omega)) okX7_relation ml_RX7_77 stX7_relation rfl (leb rfl) (leb rfl) rfl rfl (fun r9 μ9 hq9 => ?_)
                        obtain ⟨hr9, hm9⟩ := hq9; rw [hr9, hm9]; clear hr9 hm9 r9 μ9
                        refine w_ior hX dX7_canBe_66 ?_
                        refine w_top (y := nI (((0 ||| rel2 (mcB B (2 * a)) (mcB B (2 * b + 1))) ||| rel2 (mcB B (2 * a + 1)) (mcB B (2 * b))) ||| rel2 (mcB B (2 * a + 1)) (mcB B (2 * b + 1)))) (fa_or _ _) ?_
                        refine w_istore_n (i := 3) (l2 := [some (.ref w), some (.int (nI a)), some (.int (nI b)), some (.int (nI (((0 ||| rel2 (mcB B (2 * a)) (mcB B (2 * b + 1))) ||| rel2 (mcB B (2 * a + 1)) (mcB B (2 * b))) ||| rel2 (mcB B (2 * a + 1)) (mcB B (2 * b + 1))))), some (.int (nI (2 * a + 1))), some (.int (nI (2 * b + 1)))]) hX dX7_canBe_67 rfl (ltb rfl) rfl rfl ?_
                        refine w_iincN (w := 1) (l2 := [some (.ref w), some (.int (nI a)), some (.int (nI b)), some (.int (nI (((0 ||| rel2 (mcB B (2 * a)) (mcB B (2 * b + 1))) ||| rel2 (mcB B (2 * a + 1)) (mcB B (2 * b))) ||| rel2 (mcB B (2 * a + 1)) (mcB B (2 * b + 1))))), some (.int (nI (2 * a + 1))), some (.int (nI (2 * b + 1 + 1)))]) hX dX7_canBe_68 rfl kI_1 rfl rfl ?_
                        refine w_goto (tgt := 22) hX dX7_canBe_71 (by decide) ?_
                        refine w_iload hX dX7_canBe_22 rfl ?_
                        refine w_iconst hX dX7_canBe_24 kI_2 ?_
                        refine w_iload_n (i := 2) hX dX7_canBe_25 rfl rfl ?_
                        refine w_imulN hX dX7_canBe_26 ?_
                        refine w_iconst hX dX7_canBe_27 kI_1 ?_
                        refine w_iaddN hX dX7_canBe_28 ?_
                        refine wn_icmp_gt (tgt := 74) hX dX7_canBe_29 (by decide) (by first | omega | (split <;> omega)) (by first | omega | (split <;> omega)) (fun c36 => ?_) (fun c36 => ?_)
                        · refine w_iincN (w := 1) (l2 := [some (.ref w), some (.int (nI a)), some (.int (nI b)), some (.int (nI (((0 ||| rel2 (mcB B (2 * a)) (mcB B (2 * b + 1))) ||| rel2 (mcB B (2 * a + 1)) (mcB B (2 * b))) ||| rel2 (mcB B (2 * a + 1)) (mcB B (2 * b + 1))))), some (.int (nI (2 * a + 1 + 1))), some (.int (nI (2 * b + 1 + 1)))]) hX dX7_canBe_74 rfl kI_1 rfl rfl ?_
                          refine w_goto (tgt := 7) hX dX7_canBe_77 (by decide) ?_
                          refine w_iload hX dX7_canBe_7 rfl ?_
                          refine w_iconst hX dX7_canBe_9 kI_2 ?_
                          refine w_iload_n (i := 1) hX dX7_canBe_10 rfl rfl ?_
                          refine w_imulN hX dX7_canBe_11 ?_
                          refine w_iconst hX dX7_canBe_12 kI_1 ?_
                          refine w_iaddN hX dX7_canBe_13 ?_
                          refine wn_icmp_gt (tgt := 80) hX dX7_canBe_14 (by decide) (by first | omega | (split <;> omega)) (by first | omega | (split <;> omega)) (fun c37 => ?_) (fun c37 => ?_)
                          · refine w_iload_n (i := 3) hX dX7_canBe_80 rfl rfl ?_
                            exact w_iret hX hE dX7_canBe_81 (Or.inl rfl) rfl ⟨by simp [E_bef, rbt, t0, t1, t2, t3], rfl⟩
                          · exact absurd c37 (by omega)
                        · exact absurd c36 (by omega)
            · exact absurd c22 (by omega)
      · have t0 : mtV (VF B) (B 352) (2 * a) (2 * b) (2 ^ B 352) = true := by by_cases h9 : mtV (VF B) (B 352) (2 * a) (2 * b) (2 ^ B 352) = true; exact h9; rw [if_neg h9] at c3; omega
        refine w_iload_n (i := 3) hX dX7_canBe_48 rfl rfl ?_
        refine w_aload_n (i := 0) hX dX7_canBe_49 rfl rfl ?_
        refine w_getR (q := w + 1) hX dX7_canBe_50 fo_RX7_13 rfl (wd_s hw) (wd_r0 hw) ?_
        refine w_iload hX dX7_canBe_53 rfl ?_
        refine w_ialdN hX dX7_canBe_55 (wd_a1 hw) (by omega) (by omega) ?_
        refine w_top (y := nI (mcB B (2 * a))) (hc.2.1 _ (by omega)) ?_
        refine w_aload_n (i := 0) hX dX7_canBe_56 rfl rfl ?_
        refine w_getR (q := w + 1) hX dX7_canBe_57 fo_RX7_13 rfl (wd_s hw) (wd_r0 hw) ?_
        refine w_iload hX dX7_canBe_60 rfl ?_
        refine w_ialdN hX dX7_canBe_62 (wd_a1 hw) (by omega) (by omega) ?_
        refine w_top (y := nI (mcB B (2 * b))) (hc.2.1 _ (by omega)) ?_
        refine w_callSI (As := [.int (nI (mcB B (2 * a))), .int (nI (mcB B (2 * b)))]) (rest := [.int (nI 0)]) (k2 := 0) (n2 := 0) hX dX7_canBe_63 (s_w_rel Γ μ (mcB B (2 * a)) (mcB B (2 * b)) (by have := mcB_le hW (show 2 * a < 2 * B 352 by omega); omega) (by have := mcB_le hW (show 2 * b < 2 * B 352 by omega); omega)) okX7_relation ml_RX7_77 stX7_relation rfl (leb rfl) (leb rfl) rfl rfl (fun r9 μ9 hq9 => ?_)
        obtain ⟨hr9, hm9⟩ := hq9; rw [hr9, hm9]; clear hr9 hm9 r9 μ9
        refine w_ior hX dX7_canBe_66 ?_
        refine w_top (y := nI (0 ||| rel2 (mcB B (2 * a)) (mcB B (2 * b)))) (fa_or _ _) ?_
        refine w_istore_n (i := 3) (l2 := [some (.ref w), some (.int (nI a)), some (.int (nI b)), some (.int (nI (0 ||| rel2 (mcB B (2 * a)) (mcB B (2 * b))))), some (.int (nI (2 * a))), some (.int (nI (2 * b)))]) hX dX7_canBe_67 rfl (ltb rfl) rfl rfl ?_
        refine w_iincN (w := 1) (l2 := [some (.ref w), some (.int (nI a)), some (.int (nI b)), some (.int (nI (0 ||| rel2 (mcB B (2 * a)) (mcB B (2 * b))))), some (.int (nI (2 * a))), some (.int (nI (2 * b + 1)))]) hX dX7_canBe_68 rfl kI_1 rfl rfl ?_
        refine w_goto (tgt := 22) hX dX7_canBe_71 (by decide) ?_
        refine w_iload hX dX7_canBe_22 rfl ?_
        refine w_iconst hX dX7_canBe_24 kI_2 ?_
        refine w_iload_n (i := 2) hX dX7_canBe_25 rfl rfl ?_
        refine w_imulN hX dX7_canBe_26 ?_
        refine w_iconst hX dX7_canBe_27 kI_1 ?_
        refine w_iaddN hX dX7_canBe_28 ?_
        refine wn_icmp_gt (tgt := 74) hX dX7_canBe_29 (by decide) (by first | omega | (split <;> omega)) (by first | omega | (split <;> omega)) (fun c38 => ?_) (fun c38 => ?_)
        · exact absurd c38 (by omega)
        · refine w_aload_n (i := 0) hX dX7_canBe_32 rfl rfl ?_
          refine w_getR (q := w + 3) hX dX7_canBe_33 fo_RX7_20 rfl (wd_s hw) (wd_r2 hw) ?_
          refine w_iload hX dX7_canBe_36 rfl ?_
          refine w_ialdN hX dX7_canBe_38 (wd_a3 hw) (by omega) (by omega) ?_
          refine w_top (y := nI (mtF B (2 ^ B 352) (2 * a))) (hc.2.2.2.1.2.2 _ (by omega)) ?_
          refine w_iload hX dX7_canBe_39 rfl ?_
          refine w_ishr hX dX7_canBe_41 ?_
          refine w_iconst hX dX7_canBe_42 kI_1 ?_
          refine w_iand hX dX7_canBe_43 ?_
          refine w_top (y := nI (if mtV (VF B) (B 352) (2 * a) (2 * b + 1) (2 ^ B 352) = true then 1 else 0)) ((bit31 (by have : mtF B (2 ^ B 352) (2 * a) < 2 ^ 24 := bw_31 (by omega); omega) (by omega)).trans (congrArg nI (by unfold mtF; rw [bw_tb]; simp only [show 2 * b + 1 < 2 * B 352 by omega, decide_true, Bool.true_and]))) ?_
          refine w_iconst hX dX7_canBe_44 kI_1 ?_
          refine wn_icmp_ne (tgt := 68) hX dX7_canBe_45 (by decide) (by first | omega | (split <;> omega)) (by first | omega | (split <;> omega)) (fun c39 => ?_) (fun c39 => ?_)
          · have t1 : mtV (VF B) (B 352) (2 * a) (2 * b + 1) (2 ^ B 352) = false := by rw [Bool.eq_false_iff]; intro h9; rw [if_pos h9] at c39; exact absurd rfl c39
            refine w_iincN (w := 1) (l2 := [some (.ref w), some (.int (nI a)), some (.int (nI b)), some (.int (nI (0 ||| rel2 (mcB B (2 * a)) (mcB B (2 * b))))), some (.int (nI (2 * a))), some (.int (nI (2 * b + 1 + 1)))]) hX dX7_canBe_68 rfl kI_1 rfl rfl ?_
            refine w_goto (tgt := 22) hX dX7_canBe_71 (by decide) ?_
            refine w_iload hX dX7_canBe_22 rfl ?_
            refine w_iconst hX dX7_canBe_24 kI_2 ?_
            refine w_iload_n (i := 2) hX dX7_canBe_25 rfl rfl ?_
            refine w_imulN hX dX7_canBe_26 ?_
            refine w_iconst hX dX7_canBe_27 kI_1 ?_
            refine w_iaddN hX dX7_canBe_28 ?_
            refine wn_icmp_gt (tgt := 74) hX dX7_canBe_29 (by decide) (by first | omega | (split <;> omega)) (by first | omega | (split <;> omega)) (fun c40 => ?_) (fun c40 => ?_)
            · refine w_iincN (w := 1) (l2 := [some (.ref w), some (.int (nI a)), some (.int (nI b)), some (.int (nI (0 ||| rel2 (mcB B (2 * a)) (mcB B (2 * b))))), some (.int (nI (2 * a + 1))), some (.int (nI (2 * b + 1 + 1)))]) hX dX7_canBe_74 rfl kI_1 rfl rfl ?_
              refine w_goto (tgt := 7) hX dX7_canBe_77 (by decide) ?_
              refine w_iload hX dX7_canBe_7 rfl ?_
              refine w_iconst hX dX7_canBe_9 kI_2 ?_
              refine w_iload_n (i := 1) hX dX7_canBe_10 rfl rfl ?_
              refine w_imulN hX dX7_canBe_11 ?_
              refine w_iconst hX dX7_canBe_12 kI_1 ?_
              refine w_iaddN hX dX7_canBe_13 ?_
              refine wn_icmp_gt (tgt := 80) hX dX7_canBe_14 (by decide) (by first | omega | (split <;> omega)) (by first | omega | (split <;> omega)) (fun c41 => ?_) (fun c41 => ?_)
              · exact absurd c41 (by omega)
              · refine w_iconst hX dX7_canBe_17 kI_2 ?_
                refine w_iload_n (i := 2) hX dX7_canBe_18 rfl rfl ?_
                refine w_imulN hX dX7_canBe_19 ?_
                refine w_istore (l2 := [some (.ref w), some (.int (nI a)), some (.int (nI b)), some (.int (nI (0 ||| rel2 (mcB B (2 * a)) (mcB B (2 * b))))), some (.int (nI (2 * a + 1))), some (.int (nI (2 * b)))]) hX dX7_canBe_20 (ltb rfl) rfl rfl ?_
                refine w_iload hX dX7_canBe_22 rfl ?_
                refine w_iconst hX dX7_canBe_24 kI_2 ?_
                refine w_iload_n (i := 2) hX dX7_canBe_25 rfl rfl ?_
                refine w_imulN hX dX7_canBe_26 ?_
                refine w_iconst hX dX7_canBe_27 kI_1 ?_
                refine w_iaddN hX dX7_canBe_28 ?_
                refine wn_icmp_gt (tgt := 74) hX dX7_canBe_29 (by decide) (by first | omega | (split <;> omega)) (by first | omega | (split <;> omega)) (fun c42 => ?_) (fun c42 => ?_)
                · exact absurd c42 (by omega)
                · refine w_aload_n (i := 0) hX dX7_canBe_32 rfl rfl ?_
                  refine w_getR (q := w + 3) hX dX7_canBe_33 fo_RX7_20 rfl (wd_s hw) (wd_r2 hw) ?_
                  refine w_iload hX dX7_canBe_36 rfl ?_
                  refine w_ialdN hX dX7_canBe_38 (wd_a3 hw) (by omega) (by omega) ?_
                  refine w_top (y := nI (mtF B (2 ^ B 352) (2 * a + 1))) (hc.2.2.2.1.2.2 _ (by omega)) ?_
                  refine w_iload hX dX7_canBe_39 rfl ?_
                  refine w_ishr hX dX7_canBe_41 ?_
                  refine w_iconst hX dX7_canBe_42 kI_1 ?_
                  refine w_iand hX dX7_canBe_43 ?_
                  refine w_top (y := nI (if mtV (VF B) (B 352) (2 * a + 1) (2 * b) (2 ^ B 352) = true then 1 else 0)) ((bit31 (by have : mtF B (2 ^ B 352) (2 * a + 1) < 2 ^ 24 := bw_31 (by omega); omega) (by omega)).trans (congrArg nI (by unfold mtF; rw [bw_tb]; simp only [show 2 * b < 2 * B 352 by omega, decide_true, Bool.true_and]))) ?_
                  refine w_iconst hX dX7_canBe_44 kI_1 ?_
                  refine wn_icmp_ne (tgt := 68) hX dX7_canBe_45 (by decide) (by first | omega | (split <;> omega)) (by first | omega | (split <;> omega)) (fun c43 => ?_) (fun c43 => ?_)
                  · have t2 : mtV (VF B) (B 352) (2 * a + 1) (2 * b) (2 ^ B 352) = false := by rw [Bool.eq_false_iff]; intro h9; rw [if_pos h9] at c43; exact absurd rfl c43
                    refine w_iincN (w := 1) (l2 := [some (.ref w), some (.int (nI a)), some (.int (nI b)), some (.int (nI (0 ||| rel2 (mcB B (2 * a)) (mcB B (2 * b))))), some (.int (nI (2 * a + 1))), some (.int (nI (2 * b + 1)))]) hX dX7_canBe_68 rfl kI_1 rfl rfl ?_
                    refine w_goto (tgt := 22) hX dX7_canBe_71 (by decide) ?_
                    refine w_iload hX dX7_canBe_22 rfl ?_
                    refine w_iconst hX dX7_canBe_24 kI_2 ?_
                    refine w_iload_n (i := 2) hX dX7_canBe_25 rfl rfl ?_
                    refine w_imulN hX dX7_canBe_26 ?_
                    refine w_iconst hX dX7_canBe_27 kI_1 ?_
                    refine w_iaddN hX dX7_canBe_28 ?_
                    refine wn_icmp_gt (tgt := 74) hX dX7_canBe_29 (by decide) (by first | omega | (split <;> omega)) (by first | omega | (split <;> omega)) (fun c44 => ?_) (fun c44 => ?_)
                    · exact absurd c44 (by omega)
                    · refine w_aload_n (i := 0) hX dX7_canBe_32 rfl rfl ?_
                      refine w_getR (q := w + 3) hX dX7_canBe_33 fo_RX7_20 rfl (wd_s hw) (wd_r2 hw) ?_
                      refine w_iload hX dX7_canBe_36 rfl ?_
                      refine w_ialdN hX dX7_canBe_38 (wd_a3 hw) (by omega) (by omega) ?_
                      refine w_top (y := nI (mtF B (2 ^ B 352) (2 * a + 1))) (hc.2.2.2.1.2.2 _ (by omega)) ?_
                      refine w_iload hX dX7_canBe_39 rfl ?_
                      refine w_ishr hX dX7_canBe_41 ?_
                      refine w_iconst hX dX7_canBe_42 kI_1 ?_
                      refine w_iand hX dX7_canBe_43 ?_
                      refine w_top (y := nI (if mtV (VF B) (B 352) (2 * a + 1) (2 * b + 1) (2 ^ B 352) = true then 1 else 0)) ((bit31 (by have : mtF B (2 ^ B 352) (2 * a + 1) < 2 ^ 24 := bw_31 (by omega); omega) (by omega)).trans (congrArg nI (by unfold mtF; rw [bw_tb]; simp only [show 2 * b + 1 < 2 * B 352 by omega, decide_true, Bool.true_and]))) ?_
                      refine w_iconst hX dX7_canBe_44 kI_1 ?_
                      refine wn_icmp_ne (tgt := 68) hX dX7_canBe_45 (by decide) (by first | omega | (split <;> omega)) (by first | omega | (split <;> omega)) (fun c45 => ?_) (fun c45 => ?_)
                      · have t3 : mtV (VF B) (B 352) (2 * a + 1) (2 * b + 1) (2 ^ B 352) = false := by rw [Bool.eq_false_iff]; intro h9; rw [if_pos h9] at c45; exact absurd rfl c45
                        refine w_iincN (w := 1) (l2 := [some (.ref w), some (.int (nI a)), some (.int (nI b)), some (.int (nI (0 ||| rel2 (mcB B (2 * a)) (mcB B (2 * b))))), some (.int (nI (2 * a + 1))), some (.int (nI (2 * b + 1 + 1)))]) hX dX7_canBe_68 rfl kI_1 rfl rfl ?_
                        refine w_goto (tgt := 22) hX dX7_canBe_71 (by decide) ?_
                        refine w_iload hX dX7_canBe_22 rfl ?_
                        refine w_iconst hX dX7_canBe_24 kI_2 ?_
                        refine w_iload_n (i := 2) hX dX7_canBe_25 rfl rfl ?_
                        refine w_imulN hX dX7_canBe_26 ?_
                        refine w_iconst hX dX7_canBe_27 kI_1 ?_
                        refine w_iaddN hX dX7_canBe_28 ?_
                        refine wn_icmp_gt (tgt := 74) hX dX7_canBe_29 (by decide) (by first | omega | (split <;> omega)) (by first | omega | (split <;> omega)) (fun c46 => ?_) (fun c46 => ?_)
                        · refine w_iincN (w := 1) (l2 := [some (.ref w), some (.int (nI a)), some (.int (nI b)), some (.int (nI (0 ||| rel2 (mcB B (2 * a)) (mcB B (2 * b))))), some (.int (nI (2 * a + 1 + 1))), some (.int (nI (2 * b + 1 + 1)))]) hX dX7_canBe_74 rfl kI_1 rfl rfl ?_
                          refine w_goto (tgt := 7) hX dX7_canBe_77 (by decide) ?_
                          refine w_iload hX dX7_canBe_7 rfl ?_
                          refine w_iconst hX dX7_canBe_9 kI_2 ?_
                          refine w_iload_n (i := 1) hX dX7_canBe_10 rfl rfl ?_
                          refine w_imulN hX dX7_canBe_11 ?_
                          refine w_iconst hX dX7_canBe_12 kI_1 ?_
                          refine w_iaddN hX dX7_canBe_13 ?_
                          refine wn_icmp_gt (tgt := 80) hX dX7_canBe_14 (by decide) (by first | omega | (split <;> omega)) (by first | omega | (split <;> omega)) (fun c47 => ?_) (fun c47 => ?_)
                          · refine w_iload_n (i := 3) hX dX7_canBe_80 rfl rfl ?_
                            exact w_iret hX hE dX7_canBe_81 (Or.inl rfl) rfl ⟨by simp [E_bef, rbt, t0, t1, t2, t3], rfl⟩
                          · exact absurd c47 (by omega)
                        · exact absurd c46 (by omega)
                      · have t3 : mtV (VF B) (B 352) (2 * a + 1) (2 * b + 1) (2 ^ B 352) = true := by by_cases h9 : mtV (VF B) (B 352) (2 * a + 1) (2 * b + 1) (2 ^ B 352) = true; exact h9; rw [if_neg h9] at c45; omega
                        refine w_iload_n (i := 3) hX dX7_canBe_48 rfl rfl ?_
                        refine w_aload_n (i := 0) hX dX7_canBe_49 rfl rfl ?_
                        refine w_getR (q := w + 1) hX dX7_canBe_50 fo_RX7_13 rfl (wd_s hw) (wd_r0 hw) ?_
                        refine w_iload hX dX7_canBe_53 rfl ?_
                        refine w_ialdN hX dX7_canBe_55 (wd_a1 hw) (by omega) (by omega) ?_
                        refine w_top (y := nI (mcB B (2 * a + 1))) (hc.2.1 _ (by omega)) ?_
                        refine w_aload_n (i := 0) hX dX7_canBe_56 rfl rfl ?_
                        refine w_getR (q := w + 1) hX dX7_canBe_57 fo_RX7_13 rfl (wd_s hw) (wd_r0 hw) ?_
                        refine w_iload hX dX7_canBe_60 rfl ?_
                        refine w_ialdN hX dX7_canBe_62 (wd_a1 hw) (by omega) (by omega) ?_
                        refine w_top (y := nI (mcB B (2 * b + 1))) (hc.2.1 _ (by omega)) ?_
                        refine w_callSI (As := [.int (nI (mcB B (2 * a + 1))), .int (nI (mcB B (2 * b + 1)))]) (rest := [.int (nI (0 ||| rel2 (mcB B (2 * a)) (mcB B (2 * b))))]) (k2 := 0) (n2 := 0) hX dX7_canBe_63 (s_w_rel Γ μ (mcB B (2 * a + 1)) (mcB B (2 * b + 1)) (by have := mcB_le hW (show 2 * a + 1 < 2 * B 352 by omega); omega) (by have := mcB_le hW (show 2 * b + 1 < 2 * B 352 by omega); omega)) okX7_relation ml_RX7_77 stX7_relation rfl (leb rfl) (leb rfl) rfl rfl (fun r9 μ9 hq9 => ?_)
                        obtain ⟨hr9, hm9⟩ := hq9; rw [hr9, hm9]; clear hr9 hm9 r9 μ9
                        refine w_ior hX dX7_canBe_66 ?_
                        refine w_top (y := nI ((0 ||| rel2 (mcB B (2 * a)) (mcB B (2 * b))) ||| rel2 (mcB B (2 * a + 1)) (mcB B (2 * b + 1)))) (fa_or _ _) ?_
                        refine w_istore_n (i := 3) (l2 := [some (.ref w), some (.int (nI a)), some (.int (nI b)), some (.int (nI ((0 ||| rel2 (mcB B (2 * a)) (mcB B (2 * b))) ||| rel2 (mcB B (2 * a + 1)) (mcB B (2 * b + 1))))), some (.int (nI (2 * a + 1))), some (.int (nI (2 * b + 1)))]) hX dX7_canBe_67 rfl (ltb rfl) rfl rfl ?_
                        refine w_iincN (w := 1) (l2 := [some (.ref w), some (.int (nI a)), some (.int (nI b)), some (.int (nI ((0 ||| rel2 (mcB B (2 * a)) (mcB B (2 * b))) ||| rel2 (mcB B (2 * a + 1)) (mcB B (2 * b + 1))))), some (.int (nI (2 * a + 1))), some (.int (nI (2 * b + 1 + 1)))]) hX dX7_canBe_68 rfl kI_1 rfl rfl ?_
                        refine w_goto (tgt := 22) hX dX7_canBe_71 (by decide) ?_
                        refine w_iload hX dX7_canBe_22 rfl ?_
                        refine w_iconst hX dX7_canBe_24 kI_2 ?_
                        refine w_iload_n (i := 2) hX dX7_canBe_25 rfl rfl ?_
                        refine w_imulN hX dX7_canBe_26 ?_
                        refine w_iconst hX dX7_canBe_27 kI_1 ?_
                        refine w_iaddN hX dX7_canBe_28 ?_
                        refine wn_icmp_gt (tgt := 74) hX dX7_canBe_29 (by decide) (by first | omega | (split <;> omega)) (by first | omega | (split <;> omega)) (fun c48 => ?_) (fun c48 => ?_)
                        · refine w_iincN (w := 1) (l2 := [some (.ref w), some (.int (nI a)), some (.int (nI b)), some (.int (nI ((0 ||| rel2 (mcB B (2 * a)) (mcB B (2 * b))) ||| rel2 (mcB B (2 * a + 1)) (mcB B (2 * b + 1))))), some (.int (nI (2 * a + 1 + 1))), some (.int (nI (2 * b + 1 + 1)))]) hX dX7_canBe_74 rfl kI_1 rfl rfl ?_
                          refine w_goto (tgt := 7) hX dX7_canBe_77 (by decide) ?_
                          refine w_iload hX dX7_canBe_7 rfl ?_
                          refine w_iconst hX dX7_canBe_9 kI_2 ?_
                          refine w_iload_n (i := 1) hX dX7_canBe_10 rfl rfl ?_
                          refine w_imulN hX dX7_canBe_11 ?_
                          refine w_iconst hX dX7_canBe_12 kI_1 ?_
                          refine w_iaddN hX dX7_canBe_13 ?_
                          refine wn_icmp_gt (tgt := 80) hX dX7_canBe_14 (by decide) (by first | omega | (split <;> omega)) (by first | omega | (split <;> omega)) (fun c49 => ?_) (fun c49 => ?_)
                          · refine w_iload_n (i := 3) hX dX7_canBe_80 rfl rfl ?_
                            exact w_iret hX hE dX7_canBe_81 (Or.inl rfl) rfl ⟨by simp [E_bef, rbt, t0, t1, t2, t3], rfl⟩
                          · exact absurd c49 (by omega)
                        · exact absurd c48 (by omega)
                  · have t2 : mtV (VF B) (B 352) (2 * a + 1) (2 * b) (2 ^ B 352) = true := by by_cases h9 : mtV (VF B) (B 352) (2 * a + 1) (2 * b) (2 ^ B 352) = true; exact h9; rw [if_neg h9] at c43; omega
                    refine w_iload_n (i := 3) hX dX7_canBe_48 rfl rfl ?_
                    refine w_aload_n (i := 0) hX dX7_canBe_49 rfl rfl ?_
                    refine w_getR (q := w + 1) hX dX7_canBe_50 fo_RX7_13 rfl (wd_s hw) (wd_r0 hw) ?_
                    refine w_iload hX dX7_canBe_53 rfl ?_
                    refine w_ialdN hX dX7_canBe_55 (wd_a1 hw) (by omega) (by omega) ?_
                    refine w_top (y := nI (mcB B (2 * a + 1))) (hc.2.1 _ (by omega)) ?_
                    refine w_aload_n (i := 0) hX dX7_canBe_56 rfl rfl ?_
                    refine w_getR (q := w + 1) hX dX7_canBe_57 fo_RX7_13 rfl (wd_s hw) (wd_r0 hw) ?_
                    refine w_iload hX dX7_canBe_60 rfl ?_
                    refine w_ialdN hX dX7_canBe_62 (wd_a1 hw) (by omega) (by omega) ?_
                    refine w_top (y := nI (mcB B (2 * b))) (hc.2.1 _ (by omega)) ?_
                    refine w_callSI (As := [.int (nI (mcB B (2 * a + 1))), .int (nI (mcB B (2 * b)))]) (rest := [.int (nI (0 ||| rel2 (mcB B (2 * a)) (mcB B (2 * b))))]) (k2 := 0) (n2 := 0) hX dX7_canBe_63 (s_w_rel Γ μ (mcB B (2 * a + 1)) (mcB B (2 * b)) (by have := mcB_le hW (show 2 * a + 1 < 2 * B 352 by omega); omega) (by have := mcB_le hW (show 2 * b < 2 * B 352 by omega); omega)) okX7_relation ml_RX7_77 stX7_relation rfl (leb rfl) (leb rfl) rfl rfl (fun r9 μ9 hq9 => ?_)
                    obtain ⟨hr9, hm9⟩ := hq9; rw [hr9, hm9]; clear hr9 hm9 r9 μ9
                    refine w_ior hX dX7_canBe_66 ?_
                    refine w_top (y := nI ((0 ||| rel2 (mcB B (2 * a)) (mcB B (2 * b))) ||| rel2 (mcB B (2 * a + 1)) (mcB B (2 * b)))) (fa_or _ _) ?_
                    refine w_istore_n (i := 3) (l2 := [some (.ref w), some (.int (nI a)), some (.int (nI b)), some (.int (nI ((0 ||| rel2 (mcB B (2 * a)) (mcB B (2 * b))) ||| rel2 (mcB B (2 * a + 1)) (mcB B (2 * b))))), some (.int (nI (2 * a + 1))), some (.int (nI (2 * b)))]) hX dX7_canBe_67 rfl (ltb rfl) rfl rfl ?_
                    refine w_iincN (w := 1) (l2 := [some (.ref w), some (.int (nI a)), some (.int (nI b)), some (.int (nI ((0 ||| rel2 (mcB B (2 * a)) (mcB B (2 * b))) ||| rel2 (mcB B (2 * a + 1)) (mcB B (2 * b))))), some (.int (nI (2 * a + 1))), some (.int (nI (2 * b + 1)))]) hX dX7_canBe_68 rfl kI_1 rfl rfl ?_
                    refine w_goto (tgt := 22) hX dX7_canBe_71 (by decide) ?_
                    refine w_iload hX dX7_canBe_22 rfl ?_
                    refine w_iconst hX dX7_canBe_24 kI_2 ?_
                    refine w_iload_n (i := 2) hX dX7_canBe_25 rfl rfl ?_
                    refine w_imulN hX dX7_canBe_26 ?_
                    refine w_iconst hX dX7_canBe_27 kI_1 ?_
                    refine w_iaddN hX dX7_canBe_28 ?_
                    refine wn_icmp_gt (tgt := 74) hX dX7_canBe_29 (by decide) (by first | omega | (split <;> omega)) (by first | omega | (split <;> omega)) (fun c50 => ?_) (fun c50 => ?_)
                    · exact absurd c50 (by omega)
                    · refine w_aload_n (i := 0) hX dX7_canBe_32 rfl rfl ?_
                      refine w_getR (q := w + 3) hX dX7_canBe_33 fo_RX7_20 rfl (wd_s hw) (wd_r2 hw) ?_
                      refine w_iload hX dX7_canBe_36 rfl ?_
                      refine w_ialdN hX dX7_canBe_38 (wd_a3 hw) (by omega) (by omega) ?_
                      refine w_top (y := nI (mtF B (2 ^ B 352) (2 * a + 1))) (hc.2.2.2.1.2.2 _ (by omega)) ?_
                      refine w_iload hX dX7_canBe_39 rfl ?_
                      refine w_ishr hX dX7_canBe_41 ?_
                      refine w_iconst hX dX7_canBe_42 kI_1 ?_
                      refine w_iand hX dX7_canBe_43 ?_
                      refine w_top (y := nI (if mtV (VF B) (B 352) (2 * a + 1) (2 * b + 1) (2 ^ B 352) = true then 1 else 0)) ((bit31 (by have : mtF B (2 ^ B 352) (2 * a + 1) < 2 ^ 24 := bw_31 (by omega); omega) (by omega)).trans (congrArg nI (by unfold mtF; rw [bw_tb]; simp only [show 2 * b + 1 < 2 * B 352 by omega, decide_true, Bool.true_and]))) ?_
                      refine w_iconst hX dX7_canBe_44 kI_1 ?_
                      refine wn_icmp_ne (tgt := 68) hX dX7_canBe_45 (by decide) (by first | omega | (split <;> omega)) (by first | omega | (split <;> omega)) (fun c51 => ?_) (fun c51 => ?_)
                      · have t3 : mtV (VF B) (B 352) (2 * a + 1) (2 * b + 1) (2 ^ B 352) = false := by rw [Bool.eq_false_iff]; intro h9; rw [if_pos h9] at c51; exact absurd rfl c51
                        refine w_iincN (w := 1) (l2 := [some (.ref w), some (.int (nI a)), some (.int (nI b)), some (.int (nI ((0 ||| rel2 (mcB B (2 * a)) (mcB B (2 * b))) ||| rel2 (mcB B (2 * a + 1)) (mcB B (2 * b))))), some (.int (nI (2 * a + 1))), some (.int (nI (2 * b + 1 + 1)))]) hX dX7_canBe_68 rfl kI_1 rfl rfl ?_
                        refine w_goto (tgt := 22) hX dX7_canBe_71 (by decide) ?_
                        refine w_iload hX dX7_canBe_22 rfl ?_
                        refine w_iconst hX dX7_canBe_24 kI_2 ?_
                        refine w_iload_n (i := 2) hX dX7_canBe_25 rfl rfl ?_
                        refine w_imulN hX dX7_canBe_26 ?_
                        refine w_iconst hX dX7_canBe_27 kI_1 ?_
                        refine w_iaddN hX dX7_canBe_28 ?_
                        refine wn_icmp_gt (tgt := 74) hX dX7_canBe_29 (by decide) (by first | omega | (split <;> omega)) (by first | omega | (split <;> omega)) (fun c52 => ?_) (fun c52 => ?_)
                        · refine w_iincN (w := 1) (l2 := [some (.ref w), some (.int (nI a)), some (.int (nI b)), some (.int (nI ((0 ||| rel2 (mcB B (2 * a)) (mcB B (2 * b))) ||| rel2 (mcB B (2 * a + 1)) (mcB B (2 * b))))), some (.int (nI (2 * a + 1 + 1))), some (.int (nI (2 * b + 1 + 1)))]) hX dX7_canBe_74 rfl kI_1 rfl rfl ?_
                          refine w_goto (tgt := 7) hX dX7_canBe_77 (by decide) ?_
                          refine w_iload hX dX7_canBe_7 rfl ?_
                          refine w_iconst hX dX7_canBe_9 kI_2 ?_
                          refine w_iload_n (i := 1) hX dX7_canBe_10 rfl rfl ?_
                          refine w_imulN hX dX7_canBe_11 ?_
                          refine w_iconst hX dX7_canBe_12 kI_1 ?_
                          refine w_iaddN hX dX7_canBe_13 ?_
                          refine wn_icmp_gt (tgt := 80) hX dX7_canBe_14 (by decide) (by first | omega | (split <;> omega)) (by first | omega | (split <;> omega)) (fun c53 => ?_) (fun c53 => ?_)
                          · refine w_iload_n (i := 3) hX dX7_canBe_80 rfl rfl ?_
                            exact w_iret hX hE dX7_canBe_81 (Or.inl rfl) rfl ⟨by simp [E_bef, rbt, t0, t1, t2, t3], rfl⟩
                          · exact absurd c53 (by omega)
                        · exact absurd c52 (by omega)
                      · have t3 : mtV (VF B) (B 352) (2 * a + 1) (2 * b + 1) (2 ^ B 352) = true := by by_cases h9 : mtV (VF B) (B 352) (2 * a + 1) (2 * b + 1) (2 ^ B 352) = true; exact h9; rw [if_neg h9] at c51; omega
                        refine w_iload_n (i := 3) hX dX7_canBe_48 rfl rfl ?_
                        refine w_aload_n (i := 0) hX dX7_canBe_49 rfl rfl ?_
                        refine w_getR (q := w + 1) hX dX7_canBe_50 fo_RX7_13 rfl (wd_s hw) (wd_r0 hw) ?_
                        refine w_iload hX dX7_canBe_53 rfl ?_
                        refine w_ialdN hX dX7_canBe_55 (wd_a1 hw) (by omega) (by omega) ?_
                        refine w_top (y := nI (mcB B (2 * a + 1))) (hc.2.1 _ (by omega)) ?_
                        refine w_aload_n (i := 0) hX dX7_canBe_56 rfl rfl ?_
                        refine w_getR (q := w + 1) hX dX7_canBe_57 fo_RX7_13 rfl (wd_s hw) (wd_r0 hw) ?_
                        refine w_iload hX dX7_canBe_60 rfl ?_
                        refine w_ialdN hX dX7_canBe_62 (wd_a1 hw) (by omega) (by omega) ?_
                        refine w_top (y := nI (mcB B (2 * b + 1))) (hc.2.1 _ (by omega)) ?_
                        refine w_callSI (As := [.int (nI (mcB B (2 * a + 1))), .int (nI (mcB B (2 * b + 1)))]) (rest := [.int (nI ((0 ||| rel2 (mcB B (2 * a)) (mcB B (2 * b))) ||| rel2 (mcB B (2 * a + 1)) (mcB B (2 * b))))]) (k2 := 0) (n2 := 0) hX dX7_canBe_63 (s_w_rel Γ μ (mcB B (2 * a + 1)) (mcB B (2 * b + 1)) (by have := mcB_le hW (show 2 * a + 1 < 2 * B 352 by omega); omega) (by have := mcB_le hW (show 2 * b + 1 < 2 * B 352 by omega); omega)) okX7_relation ml_RX7_77 stX7_relation rfl (leb rfl) (leb rfl) rfl rfl (fun r9 μ9 hq9 => ?_)
                        obtain ⟨hr9, hm9⟩ := hq9; rw [hr9, hm9]; clear hr9 hm9 r9 μ9
                        refine w_ior hX dX7_canBe_66 ?_
                        refine w_top (y := nI (((0 ||| rel2 (mcB B (2 * a)) (mcB B (2 * b))) ||| rel2 (mcB B (2 * a + 1)) (mcB B (2 * b))) ||| rel2 (mcB B (2 * a + 1)) (mcB B (2 * b + 1)))) (fa_or _ _) ?_
                        refine w_istore_n (i := 3) (l2 := [some (.ref w), some (.int (nI a)), some (.int (nI b)), some (.int (nI (((0 ||| rel2 (mcB B (2 * a)) (mcB B (2 * b))) ||| rel2 (mcB B (2 * a + 1)) (mcB B (2 * b))) ||| rel2 (mcB B (2 * a + 1)) (mcB B (2 * b + 1))))), some (.int (nI (2 * a + 1))), some (.int (nI (2 * b + 1)))]) hX dX7_canBe_67 rfl (ltb rfl) rfl rfl ?_
                        refine w_iincN (w := 1) (l2 := [some (.ref w), some (.int (nI a)), some (.int (nI b)), some (.int (nI (((0 ||| rel2 (mcB B (2 * a)) (mcB B (2 * b))) ||| rel2 (mcB B (2 * a + 1)) (mcB B (2 * b))) ||| rel2 (mcB B (2 * a + 1)) (mcB B (2 * b + 1))))), some (.int (nI (2 * a + 1))), some (.int (nI (2 * b + 1 + 1)))]) hX dX7_canBe_68 rfl kI_1 rfl rfl ?_
                        refine w_goto (tgt := 22) hX dX7_canBe_71 (by decide) ?_
                        refine w_iload hX dX7_canBe_22 rfl ?_
                        refine w_iconst hX dX7_canBe_24 kI_2 ?_
                        refine w_iload_n (i := 2) hX dX7_canBe_25 rfl rfl ?_
                        refine w_imulN hX dX7_canBe_26 ?_
                        refine w_iconst hX dX7_canBe_27 kI_1 ?_
                        refine w_iaddN hX dX7_canBe_28 ?_
                        refine wn_icmp_gt (tgt := 74) hX dX7_canBe_29 (by decide) (by first | omega | (split <;> omega)) (by first | omega | (split <;> omega)) (fun c54 => ?_) (fun c54 => ?_)
                        · refine w_iincN (w := 1) (l2 := [some (.ref w), some (.int (nI a)), some (.int (nI b)), some (.int (nI (((0 ||| rel2 (mcB B (2 * a)) (mcB B (2 * b))) ||| rel2 (mcB B (2 * a + 1)) (mcB B (2 * b))) ||| rel2 (mcB B (2 * a + 1)) (mcB B (2 * b + 1))))), some (.int (nI (2 * a + 1 + 1))), some (.int (nI (2 * b + 1 + 1)))]) hX dX7_canBe_74 rfl kI_1 rfl rfl ?_
                          refine w_goto (tgt := 7) hX dX7_canBe_77 (by decide) ?_
                          refine w_iload hX dX7_canBe_7 rfl ?_
                          refine w_iconst hX dX7_canBe_9 kI_2 ?_
                          refine w_iload_n (i := 1) hX dX7_canBe_10 rfl rfl ?_
                          refine w_imulN hX dX7_canBe_11 ?_
                          refine w_iconst hX dX7_canBe_12 kI_1 ?_
                          refine w_iaddN hX dX7_canBe_13 ?_
                          refine wn_icmp_gt (tgt := 80) hX dX7_canBe_14 (by decide) (by first | omega | (split <;> omega)) (by first | omega | (split <;> omega)) (fun c55 => ?_) (fun c55 => ?_)
                          · refine w_iload_n (i := 3) hX dX7_canBe_80 rfl rfl ?_
                            exact w_iret hX hE dX7_canBe_81 (Or.inl rfl) rfl ⟨by simp [E_bef, rbt, t0, t1, t2, t3], rfl⟩
                          · exact absurd c55 (by omega)
                        · exact absurd c54 (by omega)
            · exact absurd c40 (by omega)
          · have t1 : mtV (VF B) (B 352) (2 * a) (2 * b + 1) (2 ^ B 352) = true := by by_cases h9 : mtV (VF B) (B 352) (2 * a) (2 * b + 1) (2 ^ B 352) = true; exact h9; rw [if_neg h9] at c39; omega
            refine w_iload_n (i := 3) hX dX7_canBe_48 rfl rfl ?_
            refine w_aload_n (i := 0) hX dX7_canBe_49 rfl rfl ?_
            refine w_getR (q := w + 1) hX dX7_canBe_50 fo_RX7_13 rfl (wd_s hw) (wd_r0 hw) ?_
            refine w_iload hX dX7_canBe_53 rfl ?_
            refine w_ialdN hX dX7_canBe_55 (wd_a1 hw) (by omega) (by omega) ?_
            refine w_top (y := nI (mcB B (2 * a))) (hc.2.1 _ (by omega)) ?_
            refine w_aload_n (i := 0) hX dX7_canBe_56 rfl rfl ?_
            refine w_getR (q := w + 1) hX dX7_canBe_57 fo_RX7_13 rfl (wd_s hw) (wd_r0 hw) ?_
            refine w_iload hX dX7_canBe_60 rfl ?_
            refine w_ialdN hX dX7_canBe_62 (wd_a1 hw) (by omega) (by omega) ?_
            refine w_top (y := nI (mcB B (2 * b + 1))) (hc.2.1 _ (by omega)) ?_
            refine w_callSI (As := [.int (nI (mcB B (2 * a))), .int (nI (mcB B (2 * b + 1)))]) (rest := [.int (nI (0 ||| rel2 (mcB B (2 * a)) (mcB B (2 * b))))]) (k2 := 0) (n2 := 0) hX dX7_canBe_63 (s_w_rel Γ μ (mcB B (2 * a)) (mcB B (2 * b + 1)) (by have := mcB_le hW (show 2 * a < 2 * B 352 by omega); omega) (by have := mcB_le hW (show 2 * b + 1 < 2 * B 352 by omega); omega)) okX7_relation ml_RX7_77 stX7_relation rfl (leb rfl) (leb rfl) rfl rfl (fun r9 μ9 hq9 => ?_)
            obtain ⟨hr9, hm9⟩ := hq9; rw [hr9, hm9]; clear hr9 hm9 r9 μ9
            refine w_ior hX dX7_canBe_66 ?_
            refine w_top (y := nI ((0 ||| rel2 (mcB B (2 * a)) (mcB B (2 * b))) ||| rel2 (mcB B (2 * a)) (mcB B (2 * b + 1)))) (fa_or _ _) ?_
            refine w_istore_n (i := 3) (l2 := [some (.ref w), some (.int (nI a)), some (.int (nI b)), some (.int (nI ((0 ||| rel2 (mcB B (2 * a)) (mcB B (2 * b))) ||| rel2 (mcB B (2 * a)) (mcB B (2 * b + 1))))), some (.int (nI (2 * a))), some (.int (nI (2 * b + 1)))]) hX dX7_canBe_67 rfl (ltb rfl) rfl rfl ?_
            refine w_iincN (w := 1) (l2 := [some (.ref w), some (.int (nI a)), some (.int (nI b)), some (.int (nI ((0 ||| rel2 (mcB B (2 * a)) (mcB B (2 * b))) ||| rel2 (mcB B (2 * a)) (mcB B (2 * b + 1))))), some (.int (nI (2 * a))), some (.int (nI (2 * b + 1 + 1)))]) hX dX7_canBe_68 rfl kI_1 rfl rfl ?_
            refine w_goto (tgt := 22) hX dX7_canBe_71 (by decide) ?_
            refine w_iload hX dX7_canBe_22 rfl ?_
            refine w_iconst hX dX7_canBe_24 kI_2 ?_
            refine w_iload_n (i := 2) hX dX7_canBe_25 rfl rfl ?_
            refine w_imulN hX dX7_canBe_26 ?_
            refine w_iconst hX dX7_canBe_27 kI_1 ?_
            refine w_iaddN hX dX7_canBe_28 ?_
            refine wn_icmp_gt (tgt := 74) hX dX7_canBe_29 (by decide) (by first | omega | (split <;> omega)) (by first | omega | (split <;> omega)) (fun c56 => ?_) (fun c56 => ?_)
            · refine w_iincN (w := 1) (l2 := [some (.ref w), some (.int (nI a)), some (.int (nI b)), some (.int (nI ((0 ||| rel2 (mcB B (2 * a)) (mcB B (2 * b))) ||| rel2 (mcB B (2 * a)) (mcB B (2 * b + 1))))), some (.int (nI (2 * a + 1))), some (.int (nI (2 * b + 1 + 1)))]) hX dX7_canBe_74 rfl kI_1 rfl rfl ?_
              refine w_goto (tgt := 7) hX dX7_canBe_77 (by decide) ?_
              refine w_iload hX dX7_canBe_7 rfl ?_
              refine w_iconst hX dX7_canBe_9 kI_2 ?_
              refine w_iload_n (i := 1) hX dX7_canBe_10 rfl rfl ?_
              refine w_imulN hX dX7_canBe_11 ?_
              refine w_iconst hX dX7_canBe_12 kI_1 ?_
              refine w_iaddN hX dX7_canBe_13 ?_
              refine wn_icmp_gt (tgt := 80) hX dX7_canBe_14 (by decide) (by first | omega | (split <;> omega)) (by first | omega | (split <;> omega)) (fun c57 => ?_) (fun c57 => ?_)
              · exact absurd c57 (by omega)
              · refine w_iconst hX dX7_canBe_17 kI_2 ?_
                refine w_iload_n (i := 2) hX dX7_canBe_18 rfl rfl ?_
                refine w_imulN hX dX7_canBe_19 ?_
                refine w_istore (l2 := [some (.ref w), some (.int (nI a)), some (.int (nI b)), some (.int (nI ((0 ||| rel2 (mcB B (2 * a)) (mcB B (2 * b))) ||| rel2 (mcB B (2 * a)) (mcB B (2 * b + 1))))), some (.int (nI (2 * a + 1))), some (.int (nI (2 * b)))]) hX dX7_canBe_20 (ltb rfl) rfl rfl ?_
                refine w_iload hX dX7_canBe_22 rfl ?_
                refine w_iconst hX dX7_canBe_24 kI_2 ?_
                refine w_iload_n (i := 2) hX dX7_canBe_25 rfl rfl ?_
                refine w_imulN hX dX7_canBe_26 ?_
                refine w_iconst hX dX7_canBe_27 kI_1 ?_
                refine w_iaddN hX dX7_canBe_28 ?_
                refine wn_icmp_gt (tgt := 74) hX dX7_canBe_29 (by decide) (by first | omega | (split <;> omega)) (by first | omega | (split <;> omega)) (fun c58 => ?_) (fun c58 => ?_)
                · exact absurd c58 (by omega)
                · refine w_aload_n (i := 0) hX dX7_canBe_32 rfl rfl ?_
                  refine w_getR (q := w + 3) hX dX7_canBe_33 fo_RX7_20 rfl (wd_s hw) (wd_r2 hw) ?_
                  refine w_iload hX dX7_canBe_36 rfl ?_
                  refine w_ialdN hX dX7_canBe_38 (wd_a3 hw) (by omega) (by omega) ?_
                  refine w_top (y := nI (mtF B (2 ^ B 352) (2 * a + 1))) (hc.2.2.2.1.2.2 _ (by omega)) ?_
                  refine w_iload hX dX7_canBe_39 rfl ?_
                  refine w_ishr hX dX7_canBe_41 ?_
                  refine w_iconst hX dX7_canBe_42 kI_1 ?_
                  refine w_iand hX dX7_canBe_43 ?_
                  refine w_top (y := nI (if mtV (VF B) (B 352) (2 * a + 1) (2 * b) (2 ^ B 352) = true then 1 else 0)) ((bit31 (by have : mtF B (2 ^ B 352) (2 * a + 1) < 2 ^ 24 := bw_31 (by omega); omega) (by omega)).trans (congrArg nI (by unfold mtF; rw [bw_tb]; simp only [show 2 * b < 2 * B 352 by omega, decide_true, Bool.true_and]))) ?_
                  refine w_iconst hX dX7_canBe_44 kI_1 ?_
                  refine wn_icmp_ne (tgt := 68) hX dX7_canBe_45 (by decide) (by first | omega | (split <;> omega)) (by first | omega | (split <;> omega)) (fun c59 => ?_) (fun c59 => ?_)
                  · have t2 : mtV (VF B) (B 352) (2 * a + 1) (2 * b) (2 ^ B 352) = false := by rw [Bool.eq_false_iff]; intro h9; rw [if_pos h9] at c59; exact absurd rfl c59
                    refine w_iincN (w := 1) (l2 := [some (.ref w), some (.int (nI a)), some (.int (nI b)), some (.int (nI ((0 ||| rel2 (mcB B (2 * a)) (mcB B (2 * b))) ||| rel2 (mcB B (2 * a)) (mcB B (2 * b + 1))))), some (.int (nI (2 * a + 1))), some (.int (nI (2 * b + 1)))]) hX dX7_canBe_68 rfl kI_1 rfl rfl ?_
                    refine w_goto (tgt := 22) hX dX7_canBe_71 (by decide) ?_
                    refine w_iload hX dX7_canBe_22 rfl ?_
                    refine w_iconst hX dX7_canBe_24 kI_2 ?_
                    refine w_iload_n (i := 2) hX dX7_canBe_25 rfl rfl ?_
                    refine w_imulN hX dX7_canBe_26 ?_
                    refine w_iconst hX dX7_canBe_27 kI_1 ?_
                    refine w_iaddN hX dX7_canBe_28 ?_
                    refine wn_icmp_gt (tgt := 74) hX dX7_canBe_29 (by decide) (by first | omega | (split <;> omega)) (by first | omega | (split <;> omega)) (fun c60 => ?_) (fun c60 => ?_)
                    · exact absurd c60 (by omega)
                    · refine w_aload_n (i := 0) hX dX7_canBe_32 rfl rfl ?_
                      refine w_getR (q := w + 3) hX dX7_canBe_33 fo_RX7_20 rfl (wd_s hw) (wd_r2 hw) ?_
                      refine w_iload hX dX7_canBe_36 rfl ?_
                      refine w_ialdN hX dX7_canBe_38 (wd_a3 hw) (by omega) (by omega) ?_
                      refine w_top (y := nI (mtF B (2 ^ B 352) (2 * a + 1))) (hc.2.2.2.1.2.2 _ (by omega)) ?_
                      refine w_iload hX dX7_canBe_39 rfl ?_
                      refine w_ishr hX dX7_canBe_41 ?_
                      refine w_iconst hX dX7_canBe_42 kI_1 ?_
                      refine w_iand hX dX7_canBe_43 ?_
                      refine w_top (y := nI (if mtV (VF B) (B 352) (2 * a + 1) (2 * b + 1) (2 ^ B 352) = true then 1 else 0)) ((bit31 (by have : mtF B (2 ^ B 352) (2 * a + 1) < 2 ^ 24 := bw_31 (by omega); omega) (by omega)).trans (congrArg nI (by unfold mtF; rw [bw_tb]; simp only [show 2 * b + 1 < 2 * B 352 by omega, decide_true, Bool.true_and]))) ?_
                      refine w_iconst hX dX7_canBe_44 kI_1 ?_
                      refine wn_icmp_ne (tgt := 68) hX dX7_canBe_45 (by decide) (by first | omega | (split <;> omega)) (by first | omega | (split <;> omega)) (fun c61 => ?_) (fun c61 => ?_)
                      · have t3 : mtV (VF B) (B 352) (2 * a + 1) (2 * b + 1) (2 ^ B 352) = false := by rw [Bool.eq_false_iff]; intro h9; rw [if_pos h9] at c61; exact absurd rfl c61
                        refine w_iincN (w := 1) (l2 := [some (.ref w), some (.int (nI a)), some (.int (nI b)), some (.int (nI ((0 ||| rel2 (mcB B (2 * a)) (mcB B (2 * b))) ||| rel2 (mcB B (2 * a)) (mcB B (2 * b + 1))))), some (.int (nI (2 * a + 1))), some (.int (nI (2 * b + 1 + 1)))]) hX dX7_canBe_68 rfl kI_1 rfl rfl ?_
                        refine w_goto (tgt := 22) hX dX7_canBe_71 (by decide) ?_
                        refine w_iload hX dX7_canBe_22 rfl ?_
                        refine w_iconst hX dX7_canBe_24 kI_2 ?_
                        refine w_iload_n (i := 2) hX dX7_canBe_25 rfl rfl ?_
                        refine w_imulN hX dX7_canBe_26 ?_
                        refine w_iconst hX dX7_canBe_27 kI_1 ?_
                        refine w_iaddN hX dX7_canBe_28 ?_
                        refine wn_icmp_gt (tgt := 74) hX dX7_canBe_29 (by decide) (by first | omega | (split <;> omega)) (by first | omega | (split <;> omega)) (fun c62 => ?_) (fun c62 => ?_)
                        · refine w_iincN (w := 1) (l2 := [some (.ref w), some (.int (nI a)), some (.int (nI b)), some (.int (nI ((0 ||| rel2 (mcB B (2 * a)) (mcB B (2 * b))) ||| rel2 (mcB B (2 * a)) (mcB B (2 * b + 1))))), some (.int (nI (2 * a + 1 + 1))), some (.int (nI (2 * b + 1 + 1)))]) hX dX7_canBe_74 rfl kI_1 rfl rfl ?_
                          refine w_goto (tgt := 7) hX dX7_canBe_77 (by decide) ?_
                          refine w_iload hX dX7_canBe_7 rfl ?_
                          refine w_iconst hX dX7_canBe_9 kI_2 ?_
                          refine w_iload_n (i := 1) hX dX7_canBe_10 rfl rfl ?_
                          refine w_imulN hX dX7_canBe_11 ?_
                          refine w_iconst hX dX7_canBe_12 kI_1 ?_
                          refine w_iaddN hX dX7_canBe_13 ?_
                          refine wn_icmp_gt (tgt := 80) hX dX7_canBe_14 (by decide) (by first | omega | (split <;> omega)) (by first | omega | (split <;> omega)) (fun c63 => ?_) (fun c63 => ?_)
                          · refine w_iload_n (i := 3) hX dX7_canBe_80 rfl rfl ?_
                            exact w_iret hX hE dX7_canBe_81 (Or.inl rfl) rfl ⟨by simp [E_bef, rbt, t0, t1, t2, t3], rfl⟩
                          · exact absurd c63 (by omega)
                        · exact absurd c62 (by omega)
                      · have t3 : mtV (VF B) (B 352) (2 * a + 1) (2 * b + 1) (2 ^ B 352) = true := by by_cases h9 : mtV (VF B) (B 352) (2 * a + 1) (2 * b + 1) (2 ^ B 352) = true; exact h9; rw [if_neg h9] at c61; omega
                        refine w_iload_n (i := 3) hX dX7_canBe_48 rfl rfl ?_
                        refine w_aload_n (i := 0) hX dX7_canBe_49 rfl rfl ?_
                        refine w_getR (q := w + 1) hX dX7_canBe_50 fo_RX7_13 rfl (wd_s hw) (wd_r0 hw) ?_
                        refine w_iload hX dX7_canBe_53 rfl ?_
                        refine w_ialdN hX dX7_canBe_55 (wd_a1 hw) (by omega) (by omega) ?_
                        refine w_top (y := nI (mcB B (2 * a + 1))) (hc.2.1 _ (by omega)) ?_
                        refine w_aload_n (i := 0) hX dX7_canBe_56 rfl rfl ?_
                        refine w_getR (q := w + 1) hX dX7_canBe_57 fo_RX7_13 rfl (wd_s hw) (wd_r0 hw) ?_
                        refine w_iload hX dX7_canBe_60 rfl ?_
                        refine w_ialdN hX dX7_canBe_62 (wd_a1 hw) (by omega) (by omega) ?_
                        refine w_top (y := nI (mcB B (2 * b + 1))) (hc.2.1 _ (by omega)) ?_
                        refine w_callSI (As := [.int (nI (mcB B (2 * a + 1))), .int (nI (mcB B (2 * b + 1)))]) (rest := [.int (nI ((0 ||| rel2 (mcB B (2 * a)) (mcB B (2 * b))) ||| rel2 (mcB B (2 * a)) (mcB B (2 * b + 1))))]) (k2 := 0) (n2 := 0) hX dX7_canBe_63 (s_w_rel Γ μ (mcB B (2 * a + 1)) (mcB B (2 * b + 1)) (by have := mcB_le hW (show 2 * a + 1 < 2 * B 352 by omega); omega) (by have := mcB_le hW (show 2 * b + 1 < 2 * B 352 by omega); omega)) okX7_relation ml_RX7_77 stX7_relation rfl (leb rfl) (leb rfl) rfl rfl (fun r9 μ9 hq9 => ?_)
                        obtain ⟨hr9, hm9⟩ := hq9; rw [hr9, hm9]; clear hr9 hm9 r9 μ9
                        refine w_ior hX dX7_canBe_66 ?_
                        refine w_top (y := nI (((0 ||| rel2 (mcB B (2 * a)) (mcB B (2 * b))) ||| rel2 (mcB B (2 * a)) (mcB B (2 * b + 1))) ||| rel2 (mcB B (2 * a + 1)) (mcB B (2 * b + 1)))) (fa_or _ _) ?_
                        refine w_istore_n (i := 3) (l2 := [some (.ref w), some (.int (nI a)), some (.int (nI b)), some (.int (nI (((0 ||| rel2 (mcB B (2 * a)) (mcB B (2 * b))) ||| rel2 (mcB B (2 * a)) (mcB B (2 * b + 1))) ||| rel2 (mcB B (2 * a + 1)) (mcB B (2 * b + 1))))), some (.int (nI (2 * a + 1))), some (.int (nI (2 * b + 1)))]) hX dX7_canBe_67 rfl (ltb rfl) rfl rfl ?_
                        refine w_iincN (w := 1) (l2 := [some (.ref w), some (.int (nI a)), some (.int (nI b)), some (.int (nI (((0 ||| rel2 (mcB B (2 * a)) (mcB B (2 * b))) ||| rel2 (mcB B (2 * a)) (mcB B (2 * b + 1))) ||| rel2 (mcB B (2 * a + 1)) (mcB B (2 * b + 1))))), some (.int (nI (2 * a + 1))), some (.int (nI (2 * b + 1 + 1)))]) hX dX7_canBe_68 rfl kI_1 rfl rfl ?_
                        refine w_goto (tgt := 22) hX dX7_canBe_71 (by decide) ?_
                        refine w_iload hX dX7_canBe_22 rfl ?_
                        refine w_iconst hX dX7_canBe_24 kI_2 ?_
                        refine w_iload_n (i := 2) hX dX7_canBe_25 rfl rfl ?_
                        refine w_imulN hX dX7_canBe_26 ?_
                        refine w_iconst hX dX7_canBe_27 kI_1 ?_
                        refine w_iaddN hX dX7_canBe_28 ?_
                        refine wn_icmp_gt (tgt := 74) hX dX7_canBe_29 (by decide) (by first | omega | (split <;> omega)) (by first | omega | (split <;> omega)) (fun c64 => ?_) (fun c64 => ?_)
                        · refine w_iincN (w := 1) (l2 := [some (.ref w), some (.int (nI a)), some (.int (nI b)), some (.int (nI (((0 ||| rel2 (mcB B (2 * a)) (mcB B (2 * b))) ||| rel2 (mcB B (2 * a)) (mcB B (2 * b + 1))) ||| rel2 (mcB B (2 * a + 1)) (mcB B (2 * b + 1))))), some (.int (nI (2 * a + 1 + 1))), some (.int (nI (2 * b + 1 + 1)))]) hX dX7_canBe_74 rfl kI_1 rfl rfl ?_
                          refine w_goto (tgt := 7) hX dX7_canBe_77 (by decide) ?_
                          refine w_iload hX dX7_canBe_7 rfl ?_
                          refine w_iconst hX dX7_canBe_9 kI_2 ?_
                          refine w_iload_n (i := 1) hX dX7_canBe_10 rfl rfl ?_
                          refine w_imulN hX dX7_canBe_11 ?_
                          refine w_iconst hX dX7_canBe_12 kI_1 ?_
                          refine w_iaddN hX dX7_canBe_13 ?_
                          refine wn_icmp_gt (tgt := 80) hX dX7_canBe_14 (by decide) (by first | omega | (split <;> omega)) (by first | omega | (split <;> omega)) (fun c65 => ?_) (fun c65 => ?_)
                          · refine w_iload_n (i := 3) hX dX7_canBe_80 rfl rfl ?_
                            exact w_iret hX hE dX7_canBe_81 (Or.inl rfl) rfl ⟨by simp [E_bef, rbt, t0, t1, t2, t3], rfl⟩
                          · exact absurd c65 (by omega)
                        · exact absurd c64 (by omega)
                  · have t2 : mtV (VF B) (B 352) (2 * a + 1) (2 * b) (2 ^ B 352) = true := by by_cases h9 : mtV (VF B) (B 352) (2 * a + 1) (2 * b) (2 ^ B 352) = true; exact h9; rw [if_neg h9] at c59; omega
                    refine w_iload_n (i := 3) hX dX7_canBe_48 rfl rfl ?_
                    refine w_aload_n (i := 0) hX dX7_canBe_49 rfl rfl ?_
                    refine w_getR (q := w + 1) hX dX7_canBe_50 fo_RX7_13 rfl (wd_s hw) (wd_r0 hw) ?_
                    refine w_iload hX dX7_canBe_53 rfl ?_
                    refine w_ialdN hX dX7_canBe_55 (wd_a1 hw) (by omega) (by omega) ?_
                    refine w_top (y := nI (mcB B (2 * a + 1))) (hc.2.1 _ (by omega)) ?_
                    refine w_aload_n (i := 0) hX dX7_canBe_56 rfl rfl ?_
                    refine w_getR (q := w + 1) hX dX7_canBe_57 fo_RX7_13 rfl (wd_s hw) (wd_r0 hw) ?_
                    refine w_iload hX dX7_canBe_60 rfl ?_
                    refine w_ialdN hX dX7_canBe_62 (wd_a1 hw) (by omega) (by omega) ?_
                    refine w_top (y := nI (mcB B (2 * b))) (hc.2.1 _ (by omega)) ?_
                    refine w_callSI (As := [.int (nI (mcB B (2 * a + 1))), .int (nI (mcB B (2 * b)))]) (rest := [.int (nI ((0 ||| rel2 (mcB B (2 * a)) (mcB B (2 * b))) ||| rel2 (mcB B (2 * a)) (mcB B (2 * b + 1))))]) (k2 := 0) (n2 := 0) hX dX7_canBe_63 (s_w_rel Γ μ (mcB B (2 * a + 1)) (mcB B (2 * b)) (by have := mcB_le hW (show 2 * a + 1 < 2 * B 352 by omega); omega) (by have := mcB_le hW (show 2 * b < 2 * B 352 by omega); omega)) okX7_relation ml_RX7_77 stX7_relation rfl (leb rfl) (leb rfl) rfl rfl (fun r9 μ9 hq9 => ?_)
                    obtain ⟨hr9, hm9⟩ := hq9; rw [hr9, hm9]; clear hr9 hm9 r9 μ9
                    refine w_ior hX dX7_canBe_66 ?_
                    refine w_top (y := nI (((0 ||| rel2 (mcB B (2 * a)) (mcB B (2 * b))) ||| rel2 (mcB B (2 * a)) (mcB B (2 * b + 1))) ||| rel2 (mcB B (2 * a + 1)) (mcB B (2 * b)))) (fa_or _ _) ?_
                    refine w_istore_n (i := 3) (l2 := [some (.ref w), some (.int (nI a)), some (.int (nI b)), some (.int (nI (((0 ||| rel2 (mcB B (2 * a)) (mcB B (2 * b))) ||| rel2 (mcB B (2 * a)) (mcB B (2 * b + 1))) ||| rel2 (mcB B (2 * a + 1)) (mcB B (2 * b))))), some (.int (nI (2 * a + 1))), some (.int (nI (2 * b)))]) hX dX7_canBe_67 rfl (ltb rfl) rfl rfl ?_
                    refine w_iincN (w := 1) (l2 := [some (.ref w), some (.int (nI a)), some (.int (nI b)), some (.int (nI (((0 ||| rel2 (mcB B (2 * a)) (mcB B (2 * b))) ||| rel2 (mcB B (2 * a)) (mcB B (2 * b + 1))) ||| rel2 (mcB B (2 * a + 1)) (mcB B (2 * b))))), some (.int (nI (2 * a + 1))), some (.int (nI (2 * b + 1)))]) hX dX7_canBe_68 rfl kI_1 rfl rfl ?_
                    refine w_goto (tgt := 22) hX dX7_canBe_71 (by decide) ?_
                    refine w_iload hX dX7_canBe_22 rfl ?_
                    refine w_iconst hX dX7_canBe_24 kI_2 ?_
                    refine w_iload_n (i := 2) hX dX7_canBe_25 rfl rfl ?_
                    refine w_imulN hX dX7_canBe_26 ?_
                    refine w_iconst hX dX7_canBe_27 kI_1 ?_
                    refine w_iaddN hX dX7_canBe_28 ?_
                    refine wn_icmp_gt (tgt := 74) hX dX7_canBe_29 (by decide) (by first | omega | (split <;> omega)) (by first | omega | (split <;> omega)) (fun c66 => ?_) (fun c66 => ?_)
                    · exact absurd c66 (by omega)
                    · refine w_aload_n (i := 0) hX dX7_canBe_32 rfl rfl ?_
                      refine w_getR (q := w + 3) hX dX7_canBe_33 fo_RX7_20 rfl (wd_s hw) (wd_r2 hw) ?_
                      refine w_iload hX dX7_canBe_36 rfl ?_
                      refine w_ialdN hX dX7_canBe_38 (wd_a3 hw) (by omega) (by omega) ?_
                      refine w_top (y := nI (mtF B (2 ^ B 352) (2 * a + 1))) (hc.2.2.2.1.2.2 _ (by omega)) ?_
                      refine w_iload hX dX7_canBe_39 rfl ?_
                      refine w_ishr hX dX7_canBe_41 ?_
                      refine w_iconst hX dX7_canBe_42 kI_1 ?_
                      refine w_iand hX dX7_canBe_43 ?_
                      refine w_top (y := nI (if mtV (VF B) (B 352) (2 * a + 1) (2 * b + 1) (2 ^ B 352) = true then 1 else 0)) ((bit31 (by have : mtF B (2 ^ B 352) (2 * a + 1) < 2 ^ 24 := bw_31 (by omega); omega) (by omega)).trans (congrArg nI (by unfold mtF; rw [bw_tb]; simp only [show 2 * b + 1 < 2 * B 352 by omega, decide_true, Bool.true_and]))) ?_
                      refine w_iconst hX dX7_canBe_44 kI_1 ?_
                      refine wn_icmp_ne (tgt := 68) hX dX7_canBe_45 (by decide) (by first | omega | (split <;> omega)) (by first | omega | (split <;> omega)) (fun c67 => ?_) (fun c67 => ?_)
                      · have t3 : mtV (VF B) (B 352) (2 * a + 1) (2 * b + 1) (2 ^ B 352) = false := by rw [Bool.eq_false_iff]; intro h9; rw [if_pos h9] at c67; exact absurd rfl c67
                        refine w_iincN (w := 1) (l2 := [some (.ref w), some (.int (nI a)), some (.int (nI b)), some (.int (nI (((0 ||| rel2 (mcB B (2 * a)) (mcB B (2 * b))) ||| rel2 (mcB B (2 * a)) (mcB B (2 * b + 1))) ||| rel2 (mcB B (2 * a + 1)) (mcB B (2 * b))))), some (.int (nI (2 * a + 1))), some (.int (nI (2 * b + 1 + 1)))]) hX dX7_canBe_68 rfl kI_1 rfl rfl ?_
                        refine w_goto (tgt := 22) hX dX7_canBe_71 (by decide) ?_
                        refine w_iload hX dX7_canBe_22 rfl ?_
                        refine w_iconst hX dX7_canBe_24 kI_2 ?_
                        refine w_iload_n (i := 2) hX dX7_canBe_25 rfl rfl ?_
                        refine w_imulN hX dX7_canBe_26 ?_
                        refine w_iconst hX dX7_canBe_27 kI_1 ?_
                        refine w_iaddN hX dX7_canBe_28 ?_
                        refine wn_icmp_gt (tgt := 74) hX dX7_canBe_29 (by decide) (by first | omega | (split <;> omega)) (by first | omega | (split <;> omega)) (fun c68 => ?_) (fun c68 => ?_)
                        · refine w_iincN (w := 1) (l2 := [some (.ref w), some (.int (nI a)), some (.int (nI b)), some (.int (nI (((0 ||| rel2 (mcB B (2 * a)) (mcB B (2 * b))) ||| rel2 (mcB B (2 * a)) (mcB B (2 * b + 1))) ||| rel2 (mcB B (2 * a + 1)) (mcB B (2 * b))))), some (.int (nI (2 * a + 1 + 1))), some (.int (nI (2 * b + 1 + 1)))]) hX dX7_canBe_74 rfl kI_1 rfl rfl ?_
                          refine w_goto (tgt := 7) hX dX7_canBe_77 (by decide) ?_
                          refine w_iload hX dX7_canBe_7 rfl ?_
                          refine w_iconst hX dX7_canBe_9 kI_2 ?_
                          refine w_iload_n (i := 1) hX dX7_canBe_10 rfl rfl ?_
                          refine w_imulN hX dX7_canBe_11 ?_
                          refine w_iconst hX dX7_canBe_12 kI_1 ?_
                          refine w_iaddN hX dX7_canBe_13 ?_
                          refine wn_icmp_gt (tgt := 80) hX dX7_canBe_14 (by decide) (by first | omega | (split <;> omega)) (by first | omega | (split <;> omega)) (fun c69 => ?_) (fun c69 => ?_)
                          · refine w_iload_n (i := 3) hX dX7_canBe_80 rfl rfl ?_
                            exact w_iret hX hE dX7_canBe_81 (Or.inl rfl) rfl ⟨by simp [E_bef, rbt, t0, t1, t2, t3], rfl⟩
                          · exact absurd c69 (by omega)
                        · exact absurd c68 (by omega)
                      · have t3 : mtV (VF B) (B 352) (2 * a + 1) (2 * b + 1) (2 ^ B 352) = true := by by_cases h9 : mtV (VF B) (B 352) (2 * a + 1) (2 * b + 1) (2 ^ B 352) = true; exact h9; rw [if_neg h9] at c67; omega
                        refine w_iload_n (i := 3) hX dX7_canBe_48 rfl rfl ?_
                        refine w_aload_n (i := 0) hX dX7_canBe_49 rfl rfl ?_
                        refine w_getR (q := w + 1) hX dX7_canBe_50 fo_RX7_13 rfl (wd_s hw) (wd_r0 hw) ?_
                        refine w_iload hX dX7_canBe_53 rfl ?_
                        refine w_ialdN hX dX7_canBe_55 (wd_a1 hw) (by omega) (by omega) ?_
                        refine w_top (y := nI (mcB B (2 * a + 1))) (hc.2.1 _ (by omega)) ?_
                        refine w_aload_n (i := 0) hX dX7_canBe_56 rfl rfl ?_
                        refine w_getR (q := w + 1) hX dX7_canBe_57 fo_RX7_13 rfl (wd_s hw) (wd_r0 hw) ?_
                        refine w_iload hX dX7_canBe_60 rfl ?_
                        refine w_ialdN hX dX7_canBe_62 (wd_a1 hw) (by omega) (by omega) ?_
                        refine w_top (y := nI (mcB B (2 * b + 1))) (hc.2.1 _ (by omega)) ?_
                        refine w_callSI (As := [.int (nI (mcB B (2 * a + 1))), .int (nI (mcB B (2 * b + 1)))]) (rest := [.int (nI (((0 ||| rel2 (mcB B (2 * a)) (mcB B (2 * b))) ||| rel2 (mcB B (2 * a)) (mcB B (2 * b + 1))) ||| rel2 (mcB B (2 * a + 1)) (mcB B (2 * b))))]) (k2 := 0) (n2 := 0) hX dX7_canBe_63 (s_w_rel Γ μ (mcB B (2 * a + 1)) (mcB B (2 * b + 1)) (by have := mcB_le hW (show 2 * a + 1 < 2 * B 352 by omega); omega) (by have := mcB_le hW (show 2 * b + 1 < 2 * B 352 by omega); omega)) okX7_relation ml_RX7_77 stX7_relation rfl (leb rfl) (leb rfl) rfl rfl (fun r9 μ9 hq9 => ?_)
                        obtain ⟨hr9, hm9⟩ := hq9; rw [hr9, hm9]; clear hr9 hm9 r9 μ9
                        refine w_ior hX dX7_canBe_66 ?_
                        refine w_top (y := nI ((((0 ||| rel2 (mcB B (2 * a)) (mcB B (2 * b))) ||| rel2 (mcB B (2 * a)) (mcB B (2 * b + 1))) ||| rel2 (mcB B (2 * a + 1)) (mcB B (2 * b))) ||| rel2 (mcB B (2 * a + 1)) (mcB B (2 * b + 1)))) (fa_or _ _) ?_
                        refine w_istore_n (i := 3) (l2 := [some (.ref w), some (.int (nI a)), some (.int (nI b)), some (.int (nI ((((0 ||| rel2 (mcB B (2 * a)) (mcB B (2 * b))) ||| rel2 (mcB B (2 * a)) (mcB B (2 * b + 1))) ||| rel2 (mcB B (2 * a + 1)) (mcB B (2 * b))) ||| rel2 (mcB B (2 * a + 1)) (mcB B (2 * b + 1))))), some (.int (nI (2 * a + 1))), some (.int (nI (2 * b + 1)))]) hX dX7_canBe_67 rfl (ltb rfl) rfl rfl ?_
                        refine w_iincN (w := 1) (l2 := [some (.ref w), some (.int (nI a)), some (.int (nI b)), some (.int (nI ((((0 ||| rel2 (mcB B (2 * a)) (mcB B (2 * b))) ||| rel2 (mcB B (2 * a)) (mcB B (2 * b + 1))) ||| rel2 (mcB B (2 * a + 1)) (mcB B (2 * b))) ||| rel2 (mcB B (2 * a + 1)) (mcB B (2 * b + 1))))), some (.int (nI (2 * a + 1))), some (.int (nI (2 * b + 1 + 1)))]) hX dX7_canBe_68 rfl kI_1 rfl rfl ?_
                        refine w_goto (tgt := 22) hX dX7_canBe_71 (by decide) ?_
                        refine w_iload hX dX7_canBe_22 rfl ?_
                        refine w_iconst hX dX7_canBe_24 kI_2 ?_
                        refine w_iload_n (i := 2) hX dX7_canBe_25 rfl rfl ?_
                        refine w_imulN hX dX7_canBe_26 ?_
                        refine w_iconst hX dX7_canBe_27 kI_1 ?_
                        refine w_iaddN hX dX7_canBe_28 ?_
                        refine wn_icmp_gt (tgt := 74) hX dX7_canBe_29 (by decide) (by first | omega | (split <;> omega)) (by first | omega | (split <;> omega)) (fun c70 => ?_) (fun c70 => ?_)
                        · refine w_iincN (w := 1) (l2 := [some (.ref w), some (.int (nI a)), some (.int (nI b)), some (.int (nI ((((0 ||| rel2 (mcB B (2 * a)) (mcB B (2 * b))) ||| rel2 (mcB B (2 * a)) (mcB B (2 * b + 1))) ||| rel2 (mcB B (2 * a + 1)) (mcB B (2 * b))) ||| rel2 (mcB B (2 * a + 1)) (mcB B (2 * b + 1))))), some (.int (nI (2 * a + 1 + 1))), some (.int (nI (2 * b + 1 + 1)))]) hX dX7_canBe_74 rfl kI_1 rfl rfl ?_
                          refine w_goto (tgt := 7) hX dX7_canBe_77 (by decide) ?_
                          refine w_iload hX dX7_canBe_7 rfl ?_
                          refine w_iconst hX dX7_canBe_9 kI_2 ?_
                          refine w_iload_n (i := 1) hX dX7_canBe_10 rfl rfl ?_
                          refine w_imulN hX dX7_canBe_11 ?_
                          refine w_iconst hX dX7_canBe_12 kI_1 ?_
                          refine w_iaddN hX dX7_canBe_13 ?_
                          refine wn_icmp_gt (tgt := 80) hX dX7_canBe_14 (by decide) (by first | omega | (split <;> omega)) (by first | omega | (split <;> omega)) (fun c71 => ?_) (fun c71 => ?_)
                          · refine w_iload_n (i := 3) hX dX7_canBe_80 rfl rfl ?_
                            exact w_iret hX hE dX7_canBe_81 (Or.inl rfl) rfl ⟨by simp [E_bef, rbt, t0, t1, t2, t3], rfl⟩
                          · exact absurd c71 (by omega)
                        · exact absurd c70 (by omega)
            · exact absurd c56 (by omega)
