theorem bw_one {i : Nat} {c : Bool} (hi : i < 24) : bw (fun j => decide (i = j) && c) 24 = if c = true then 2 ^ i else 0 := by
  apply Nat.eq_of_testBit_eq
  intro j
  rw [bw_tb]
  cases c with
  | false => simp
  | true =>
    simp only [Bool.and_true, if_true]
    rw [Nat.testBit_two_pow]
    by_cases e : i = j
    · subst e; simp [hi]
    · simp [e]
theorem bw_set {f : Nat → Bool} {o : Nat} (ho : o < 24) : bw f 24 ||| 2 ^ o = bw (fun j => f j || decide (j = o)) 24 := by
  apply Nat.eq_of_testBit_eq
  intro j
  rw [Nat.testBit_or, bw_tb, bw_tb, Nat.testBit_two_pow]
  by_cases e : o = j
  · subst e; simp [ho]
  · have e2 : ¬ j = o := fun h => e h.symm
    simp [e, e2]
theorem mc0 {B : Nat → Nat} {k : Nat} : mcB B (2 * k) = fst B (ptw B k) (ptm B k) := by unfold mcB; rw [if_pos (by omega), show 2 * k / 2 = k by omega]
theorem mc1 {B : Nat → Nat} {k : Nat} : mcB B (2 * k + 1) = lst B (ptw B k) (ptm B k) := by unfold mcB; rw [if_neg (by omega), show (2 * k + 1) / 2 = k by omega]
theorem my0 {B : Nat → Nat} {k : Nat} : myB B (2 * k) = decide (pwh B k ≠ 2) := by unfold myB; rw [if_pos (by omega), show 2 * k / 2 = k by omega]
theorem my1 {B : Nat → Nat} {k : Nat} : myB B (2 * k + 1) = (decide (pwh B k ≠ 1) && tw B (ptw B k) (ptm B k)) := by unfold myB; rw [if_neg (by omega), show (2 * k + 1) / 2 = k by omega]
theorem cl0 {B : Nat → Nat} {i : Nat} (hi : i < 24) : bw (claB B 0 i) 24 = if (!myB B i) = true then 2 ^ i else 0 := bw_one hi
set_option maxHeartbeats 1000000 in
theorem s_w_layM (Γ : Gm) (μ : Mem) (w b : Nat) (B : Nat → Nat) (hw : isWd μ w) (hR : Rb μ b B) (hW : WB B) (hwb : w + 5 < b) (hP : gI μ w 6 = nI (B 352))  : SpV Γ MX7_layMoments 2 0 0 [.ref w, .ref b] μ (fun μ2 => (∀ i, i < 2 * B 352 → gI μ2 (w + 1) i = nI (mcB B i) ∧ gI μ2 (w + 2) i = nI (bw (claB B 0 i) 24)) ∧ same (fun o _ => o = w + 1 ∨ o = w + 2) μ μ2) := by
  refine SpV.of okX7_layMoments rfl [some (.ref w), some (.ref b), none, none, none, none, none, none] ⟨rfl, rfl, trivial⟩ (leb rfl) (leb rfl) (fun X hX hE hnm => ?_)
  refine w_iconst hX dX7_layMoments_0 kI_0 ?_
  refine w_istore_n (i := 2) (l2 := [some (.ref w), some (.ref b), some (.int (nI 0)), none, none, none, none, none]) hX dX7_layMoments_1 rfl (ltb rfl) rfl rfl ?_
  have loop : ∀ k, k ≤ B 352 → ∀ ν : Mem, (same (fun o _ => o = w + 1 ∨ o = w + 2) μ ν) → (∀ i, i < 2 * k → gI ν (w + 1) i = nI (mcB B i) ∧ gI ν (w + 2) i = nI (bw (claB B 0 i) 24)) → WP Γ X 0 0 2 [some (.ref w), some (.ref b), some (.int (nI k)), none, none, none, none, none] [] ν := by
    refine loopU (B 352) ?_
    intro k hk ih ν hsm hmo
    have hwk := hsm.isWd hw
    have hRk := Rb_same hsm (fun o k h => Or.inl (by omega)) hR
    have hB0 := hW.1.1
    have hP12 := hW.2.2.2.2.1.1
    have hpp : k < B 352 → ptw B k < B 0 ∧ B (353 + 4 * k + 1) ≤ 3649 ∧ B (353 + 4 * k + 2) ≤ 1439 ∧ pwh B k ≤ 2 := fun h => hW.2.2.2.2.1.2 k h
    have hpt : ptm B k = B (353 + 4 * k + 1) * 1440 + B (353 + 4 * k + 2) := rfl
    refine w_iload_n (i := 2) hX dX7_layMoments_2 rfl rfl ?_
    refine w_aload_n (i := 0) hX dX7_layMoments_3 rfl rfl ?_
    refine w_getI hX dX7_layMoments_4 fo_RX7_38 rfl (wd_s hwk) ?_
    refine w_top (y := nI (B 352)) (by rw [(hsm.2.2 _ _ (fun h => by omega)).1]; exact hP) ?_
    refine wn_icmp_ge (tgt := 157) hX dX7_layMoments_7 (by decide) (by omega) (by omega) (fun c1 => ?_) (fun c1 => ?_)
    · exact w_vret hX hE dX7_layMoments_157 (Or.inl rfl) ⟨fun i hi => hmo i (by omega), hsm⟩
    · refine w_iload_n (i := 2) hX dX7_layMoments_10 rfl rfl ?_
      refine w_iconst hX dX7_layMoments_11 kI_4 ?_
      refine w_imulN hX dX7_layMoments_12 ?_
      refine w_istore_n (i := 3) (l2 := [some (.ref w), some (.ref b), some (.int (nI k)), some (.int (nI (k * 4))), none, none, none, none]) hX dX7_layMoments_13 rfl (ltb rfl) rfl rfl ?_
      refine w_aload_n (i := 1) hX dX7_layMoments_14 rfl rfl ?_
      refine w_getR (q := b + 1) hX dX7_layMoments_15 fo_RX7_94 rfl (bk_s hRk.1) (bk_r0 hRk.1) ?_
      refine w_aload_n (i := 1) hX dX7_layMoments_18 rfl rfl ?_
      refine w_getR (q := b + 5) hX dX7_layMoments_19 fo_RX7_98 rfl (bk_s hRk.1) (bk_r4 hRk.1) ?_
      refine w_iload_n (i := 3) hX dX7_layMoments_22 rfl rfl ?_
      refine w_ialdN hX dX7_layMoments_23 (bk_a5 hRk.1) (by omega) (by omega) ?_
      refine w_top (y := nI (ptw B k)) (by rw [hRk.2.2.2.2.2.2.2.2.2.2.1 _ (by omega)]; unfold ptw; congr 2; omega) ?_
      refine w_aaldN (q := b + 10 + 2 * (ptw B k)) hX dX7_layMoments_24 (bk_a1 hRk.1) (by omega) (by omega) (bk_c hRk.1 (by omega)).1 ?_
      refine w_astore (l2 := [some (.ref w), some (.ref b), some (.int (nI k)), some (.int (nI (k * 4))), some (.ref (b + 10 + 2 * (ptw B k))), none, none, none]) hX dX7_layMoments_25 (ltb rfl) rfl rfl ?_
      refine w_aload_n (i := 1) hX dX7_layMoments_27 rfl rfl ?_
      refine w_getR (q := b + 5) hX dX7_layMoments_28 fo_RX7_98 rfl (bk_s hRk.1) (bk_r4 hRk.1) ?_
      refine w_iload_n (i := 3) hX dX7_layMoments_31 rfl rfl ?_
      refine w_iconst hX dX7_layMoments_32 kI_1 ?_
      refine w_iaddN hX dX7_layMoments_33 ?_
      refine w_ialdN hX dX7_layMoments_34 (bk_a5 hRk.1) (by omega) (by omega) ?_
      refine w_top (y := nI (B (353 + 4 * k + 1))) (by rw [hRk.2.2.2.2.2.2.2.2.2.2.1 _ (by omega)]; congr 2; omega) ?_
      refine w_sipush hX dX7_layMoments_35 kS_1440 ?_
      refine w_imulN hX dX7_layMoments_38 ?_
      refine w_aload_n (i := 1) hX dX7_layMoments_39 rfl rfl ?_
      refine w_getR (q := b + 5) hX dX7_layMoments_40 fo_RX7_98 rfl (bk_s hRk.1) (bk_r4 hRk.1) ?_
      refine w_iload_n (i := 3) hX dX7_layMoments_43 rfl rfl ?_
      refine w_iconst hX dX7_layMoments_44 kI_2 ?_
      refine w_iaddN hX dX7_layMoments_45 ?_
      refine w_ialdN hX dX7_layMoments_46 (bk_a5 hRk.1) (by omega) (by omega) ?_
      refine w_top (y := nI (B (353 + 4 * k + 2))) (by rw [hRk.2.2.2.2.2.2.2.2.2.2.1 _ (by omega)]; congr 2; omega) ?_
      refine w_iaddN hX dX7_layMoments_47 ?_
      refine w_top (y := nI (ptm B k)) rfl ?_
      refine w_istore (l2 := [some (.ref w), some (.ref b), some (.int (nI k)), some (.int (nI (k * 4))), some (.ref (b + 10 + 2 * (ptw B k))), some (.int (nI (ptm B k))), none, none]) hX dX7_layMoments_48 (ltb rfl) rfl rfl ?_
      refine w_aload_n (i := 1) hX dX7_layMoments_50 rfl rfl ?_
      refine w_getR (q := b + 5) hX dX7_layMoments_51 fo_RX7_98 rfl (bk_s hRk.1) (bk_r4 hRk.1) ?_
      refine w_iload_n (i := 3) hX dX7_layMoments_54 rfl rfl ?_
      refine w_iconst hX dX7_layMoments_55 kI_3 ?_
      refine w_iaddN hX dX7_layMoments_56 ?_
      refine w_ialdN hX dX7_layMoments_57 (bk_a5 hRk.1) (by omega) (by omega) ?_
      refine w_top (y := nI (pwh B k)) (by rw [hRk.2.2.2.2.2.2.2.2.2.2.1 _ (by omega)]; unfold pwh; congr 2; omega) ?_
      refine w_istore (l2 := [some (.ref w), some (.ref b), some (.int (nI k)), some (.int (nI (k * 4))), some (.ref (b + 10 + 2 * (ptw B k))), some (.int (nI (ptm B k))), some (.int (nI (pwh B k))), none]) hX dX7_layMoments_58 (ltb rfl) rfl rfl ?_
      refine w_iconst hX dX7_layMoments_60 kI_2 ?_
      refine w_iload_n (i := 2) hX dX7_layMoments_61 rfl rfl ?_
      refine w_imulN hX dX7_layMoments_62 ?_
      refine w_istore (l2 := [some (.ref w), some (.ref b), some (.int (nI k)), some (.int (nI (k * 4))), some (.ref (b + 10 + 2 * (ptw B k))), some (.int (nI (ptm B k))), some (.int (nI (pwh B k))), some (.int (nI (2 * k)))]) hX dX7_layMoments_63 (ltb rfl) rfl rfl ?_
      refine w_aload_n (i := 0) hX dX7_layMoments_65 rfl rfl ?_
      refine w_getR (q := w + 1) hX dX7_layMoments_66 fo_RX7_13 rfl (wd_s hwk) (wd_r0 hwk) ?_
      refine w_iload hX dX7_layMoments_69 rfl ?_
      refine w_aload hX dX7_layMoments_71 rfl ?_
      refine w_iload hX dX7_layMoments_73 rfl ?_
      refine w_callVI (As := [.int (nI (ptm B k))]) (rest := [.int (nI (2 * k)), .ref (w + 1)]) (ci := 1) (o := b + 10 + 2 * (ptw B k)) (k2 := 0) (n2 := 0) hX dX7_layMoments_75 (s_b_firstOf Γ ν b B hRk hW.1 (ptw B k) (by omega) (ptm B k) (by omega)) okX1_firstOf (ltb rfl) (bk_c hRk.1 (by omega)).2.1 ml_RX7_100 imX1_firstOf seX1_firstOf rfl (leb rfl) (leb rfl) rfl rfl (fun r9 μ9 hq9 => ?_)
      obtain ⟨hr9, hm9⟩ := hq9; rw [hr9, hm9]; clear hr9 hm9 r9 μ9
      refine w_iastN hX dX7_layMoments_78 (wd_a1 hwk) (by omega) (by omega) ?_
      refine w_aload_n (i := 0) hX dX7_layMoments_79 rfl rfl ?_
      refine w_getR (q := w + 1) hX dX7_layMoments_80 fo_RX7_13 rfl (wd_s hwk) (wd_r0 hwk) ?_
      refine w_iload hX dX7_layMoments_83 rfl ?_
      refine w_iconst hX dX7_layMoments_85 kI_1 ?_
      refine w_iaddN hX dX7_layMoments_86 ?_
      refine w_aload hX dX7_layMoments_87 rfl ?_
      refine w_iload hX dX7_layMoments_89 rfl ?_
      refine w_callVI (As := [.int (nI (ptm B k))]) (rest := [.int (nI (2 * k + 1)), .ref (w + 1)]) (ci := 1) (o := b + 10 + 2 * (ptw B k)) (k2 := 0) (n2 := 0) hX dX7_layMoments_91 (s_b_lastOf Γ (sI ν (w + 1) (2 * k) (nI (fst B (ptw B k) (ptm B k)))) b B (Rb_same (same.rf.sI rfl : same (fun o _ => o = w + 1) ν (sI ν (w + 1) (2 * k) (nI (fst B (ptw B k) (ptm B k))))) (fun o k h => Or.inl (by omega)) hRk) hW.1 (ptw B k) (by omega) (ptm B k) (by omega)) okX1_lastOf (ltb rfl) (bk_c hRk.1 (by omega)).2.1 ml_RX7_105 imX1_lastOf seX1_lastOf rfl (leb rfl) (leb rfl) rfl rfl (fun r9 μ9 hq9 => ?_)
      obtain ⟨hr9, hm9⟩ := hq9; rw [hr9, hm9]; clear hr9 hm9 r9 μ9
      refine w_iastN hX dX7_layMoments_94 (wd_a1 hwk) (by omega) (by omega) ?_
      refine w_aload_n (i := 0) hX dX7_layMoments_95 rfl rfl ?_
      refine w_getR (q := w + 2) hX dX7_layMoments_96 fo_RX7_17 rfl (wd_s hwk) (wd_r1 hwk) ?_
      refine w_iload hX dX7_layMoments_99 rfl ?_
      refine w_iload hX dX7_layMoments_101 rfl ?_
      refine w_iconst hX dX7_layMoments_103 kI_2 ?_
      refine wn_icmp_ne (tgt := 114) hX dX7_layMoments_104 (by decide) (by omega) (by omega) (fun c2 => ?_) (fun c2 => ?_)
      · refine w_iconst hX dX7_layMoments_114 kI_0 ?_
        refine w_iastN hX dX7_layMoments_115 (wd_a2 hwk) (by omega) (by omega) ?_
        refine w_aload_n (i := 0) hX dX7_layMoments_116 rfl rfl ?_
        refine w_getR (q := w + 2) hX dX7_layMoments_117 fo_RX7_17 rfl (wd_s hwk) (wd_r1 hwk) ?_
        refine w_iload hX dX7_layMoments_120 rfl ?_
        refine w_iconst hX dX7_layMoments_122 kI_1 ?_
        refine w_iaddN hX dX7_layMoments_123 ?_
        refine w_iload hX dX7_layMoments_124 rfl ?_
        refine w_iconst hX dX7_layMoments_126 kI_1 ?_
        refine wn_icmp_eq (tgt := 140) hX dX7_layMoments_127 (by decide) (by omega) (by omega) (fun c3 => ?_) (fun c3 => ?_)
        · refine w_iconst hX dX7_layMoments_140 kI_1 ?_
          refine w_iload hX dX7_layMoments_141 rfl ?_
          refine w_iconst hX dX7_layMoments_143 kI_1 ?_
          refine w_iaddN hX dX7_layMoments_144 ?_
          refine w_ishl hX dX7_layMoments_145 ?_
          refine w_top (y := nI (2 ^ (2 * k + 1))) (shl_nI (by omega)) ?_
          refine w_goto (tgt := 150) hX dX7_layMoments_146 (by decide) ?_
          refine w_iastN hX dX7_layMoments_150 (wd_a2 hwk) (by omega) (by omega) ?_
          refine w_iincN (w := 1) (l2 := [some (.ref w), some (.ref b), some (.int (nI (k + 1))), some (.int (nI (k * 4))), some (.ref (b + 10 + 2 * (ptw B k))), some (.int (nI (ptm B k))), some (.int (nI (pwh B k))), some (.int (nI (2 * k)))]) hX dX7_layMoments_151 rfl kI_1 rfl rfl ?_
          refine w_goto (tgt := 2) hX dX7_layMoments_154 (by decide) ?_
          refine w_sub (l2 := [some (.ref w), some (.ref b), some (.int (nI (k + 1))), none, none, none, none, none]) (by simp [lsub]) (leb rfl) ?_
          refine ih (by omega) _ ((((hsm.sI (Or.inl rfl)).sI (Or.inl rfl)).sI (Or.inr rfl)).sI (Or.inr rfl)) (fun i hi => ?_)
          rcases (show i < 2 * k ∨ i = 2 * k ∨ i = 2 * k + 1 by omega) with e | e | e
          · rw [gI_no (by omega), gI_no (by omega), gI_nk (by omega), gI_nk (by omega), gI_nk (by omega), gI_nk (by omega), gI_no (by omega), gI_no (by omega)]; exact hmo i e
          · subst e; rw [gI_no (by omega), gI_no (by omega), gI_nk (by omega), gI_same, gI_nk (by omega), gI_same, mc0, cl0 (by omega), my0]; refine ⟨rfl, ?_⟩; congr 1; symm; simp only [ne_eq, decide_not, Bool.not_not, decide_eq_true_eq]; first | (rw [if_pos (by omega)]) | (rw [if_neg (by omega)]) | (rw [if_pos (by simp [htw])]) | (rw [if_neg (by simp [htw]; omega)])
          · subst e; rw [gI_no (by omega), gI_no (by omega), gI_same, gI_same, mc1, cl0 (by omega), my1]; refine ⟨rfl, ?_⟩; congr 1; symm; simp only [ne_eq, decide_not, Bool.not_and, Bool.not_not, Bool.or_eq_true, decide_eq_true_eq, Bool.not_eq_true']; first | (rw [if_pos (by first | exact Or.inl (by omega) | exact Or.inr htw)]) | (rw [if_neg (by rw [htw]; simp; omega)])
        · refine w_aload hX dX7_layMoments_130 rfl ?_
          refine w_iload hX dX7_layMoments_132 rfl ?_
          refine w_callVI (As := [.int (nI (ptm B k))]) (rest := [.int (nI (2 * k + 1)), .ref (w + 2)]) (ci := 1) (o := b + 10 + 2 * (ptw B k)) (k2 := 0) (n2 := 0) hX dX7_layMoments_134 (s_b_hasTwice Γ (sI (sI (sI ν (w + 1) (2 * k) (nI (fst B (ptw B k) (ptm B k)))) (w + 1) (2 * k + 1) (nI (lst B (ptw B k) (ptm B k)))) (w + 2) (2 * k) (nI 0)) b B (Rb_same (same.rf.sI rfl : same (fun o _ => o = w + 2) (sI (sI ν (w + 1) (2 * k) (nI (fst B (ptw B k) (ptm B k)))) (w + 1) (2 * k + 1) (nI (lst B (ptw B k) (ptm B k)))) (sI (sI (sI ν (w + 1) (2 * k) (nI (fst B (ptw B k) (ptm B k)))) (w + 1) (2 * k + 1) (nI (lst B (ptw B k) (ptm B k)))) (w + 2) (2 * k) (nI 0))) (fun o k h => Or.inl (by omega)) (Rb_same (same.rf.sI rfl : same (fun o _ => o = w + 1) (sI ν (w + 1) (2 * k) (nI (fst B (ptw B k) (ptm B k)))) (sI (sI ν (w + 1) (2 * k) (nI (fst B (ptw B k) (ptm B k)))) (w + 1) (2 * k + 1) (nI (lst B (ptw B k) (ptm B k))))) (fun o k h => Or.inl (by omega)) (Rb_same (same.rf.sI rfl : same (fun o _ => o = w + 1) ν (sI ν (w + 1) (2 * k) (nI (fst B (ptw B k) (ptm B k))))) (fun o k h => Or.inl (by omega)) hRk))) hW.1 (ptw B k) (by omega) (ptm B k) (by omega)) okX1_hasTwice (ltb rfl) (bk_c hRk.1 (by omega)).2.1 ml_RX7_108 imX1_hasTwice seX1_hasTwice rfl (leb rfl) (leb rfl) rfl rfl (fun r9 μ9 hq9 => ?_)
          obtain ⟨hr9, hm9⟩ := hq9; rw [hr9, hm9]; clear hr9 hm9 r9 μ9
          refine wb_ne (tgt := 149) hX dX7_layMoments_137 (by decide) (fun htw => ?_) (fun htw => ?_)
          · refine w_iconst hX dX7_layMoments_149 kI_0 ?_
            refine w_iastN hX dX7_layMoments_150 (wd_a2 hwk) (by omega) (by omega) ?_
            refine w_iincN (w := 1) (l2 := [some (.ref w), some (.ref b), some (.int (nI (k + 1))), some (.int (nI (k * 4))), some (.ref (b + 10 + 2 * (ptw B k))), some (.int (nI (ptm B k))), some (.int (nI (pwh B k))), some (.int (nI (2 * k)))]) hX dX7_layMoments_151 rfl kI_1 rfl rfl ?_
            refine w_goto (tgt := 2) hX dX7_layMoments_154 (by decide) ?_
            refine w_sub (l2 := [some (.ref w), some (.ref b), some (.int (nI (k + 1))), none, none, none, none, none]) (by simp [lsub]) (leb rfl) ?_
            refine ih (by omega) _ ((((hsm.sI (Or.inl rfl)).sI (Or.inl rfl)).sI (Or.inr rfl)).sI (Or.inr rfl)) (fun i hi => ?_)
            rcases (show i < 2 * k ∨ i = 2 * k ∨ i = 2 * k + 1 by omega) with e | e | e
            · rw [gI_no (by omega), gI_no (by omega), gI_nk (by omega), gI_nk (by omega), gI_nk (by omega), gI_nk (by omega), gI_no (by omega), gI_no (by omega)]; exact hmo i e
            · subst e; rw [gI_no (by omega), gI_no (by omega), gI_nk (by omega), gI_same, gI_nk (by omega), gI_same, mc0, cl0 (by omega), my0]; refine ⟨rfl, ?_⟩; congr 1; symm; simp only [ne_eq, decide_not, Bool.not_not, decide_eq_true_eq]; first | (rw [if_pos (by omega)]) | (rw [if_neg (by omega)]) | (rw [if_pos (by simp [htw])]) | (rw [if_neg (by simp [htw]; omega)])
            · subst e; rw [gI_no (by omega), gI_no (by omega), gI_same, gI_same, mc1, cl0 (by omega), my1]; refine ⟨rfl, ?_⟩; congr 1; symm; simp only [ne_eq, decide_not, Bool.not_and, Bool.not_not, Bool.or_eq_true, decide_eq_true_eq, Bool.not_eq_true']; first | (rw [if_pos (by first | exact Or.inl (by omega) | exact Or.inr htw)]) | (rw [if_neg (by rw [htw]; simp; omega)])
          · refine w_iconst hX dX7_layMoments_140 kI_1 ?_
            refine w_iload hX dX7_layMoments_141 rfl ?_
            refine w_iconst hX dX7_layMoments_143 kI_1 ?_
            refine w_iaddN hX dX7_layMoments_144 ?_
            refine w_ishl hX dX7_layMoments_145 ?_
            refine w_top (y := nI (2 ^ (2 * k + 1))) (shl_nI (by omega)) ?_
            refine w_goto (tgt := 150) hX dX7_layMoments_146 (by decide) ?_
            refine w_iastN hX dX7_layMoments_150 (wd_a2 hwk) (by omega) (by omega) ?_
            refine w_iincN (w := 1) (l2 := [some (.ref w), some (.ref b), some (.int (nI (k + 1))), some (.int (nI (k * 4))), some (.ref (b + 10 + 2 * (ptw B k))), some (.int (nI (ptm B k))), some (.int (nI (pwh B k))), some (.int (nI (2 * k)))]) hX dX7_layMoments_151 rfl kI_1 rfl rfl ?_
            refine w_goto (tgt := 2) hX dX7_layMoments_154 (by decide) ?_
            refine w_sub (l2 := [some (.ref w), some (.ref b), some (.int (nI (k + 1))), none, none, none, none, none]) (by simp [lsub]) (leb rfl) ?_
            refine ih (by omega) _ ((((hsm.sI (Or.inl rfl)).sI (Or.inl rfl)).sI (Or.inr rfl)).sI (Or.inr rfl)) (fun i hi => ?_)
            rcases (show i < 2 * k ∨ i = 2 * k ∨ i = 2 * k + 1 by omega) with e | e | e
            · rw [gI_no (by omega), gI_no (by omega), gI_nk (by omega), gI_nk (by omega), gI_nk (by omega), gI_nk (by omega), gI_no (by omega), gI_no (by omega)]; exact hmo i e
            · subst e; rw [gI_no (by omega), gI_no (by omega), gI_nk (by omega), gI_same, gI_nk (by omega), gI_same, mc0, cl0 (by omega), my0]; refine ⟨rfl, ?_⟩; congr 1; symm; simp only [ne_eq, decide_not, Bool.not_not, decide_eq_true_eq]; first | (rw [if_pos (by omega)]) | (rw [if_neg (by omega)]) | (rw [if_pos (by simp [htw])]) | (rw [if_neg (by simp [htw]; omega)])
            · subst e; rw [gI_no (by omega), gI_no (by omega), gI_same, gI_same, mc1, cl0 (by omega), my1]; refine ⟨rfl, ?_⟩; congr 1; symm; simp only [ne_eq, decide_not, Bool.not_and, Bool.not_not, Bool.or_eq_true, decide_eq_true_eq, Bool.not_eq_true']; first | (rw [if_pos (by first | exact Or.inl (by omega) | exact Or.inr htw)]) | (rw [if_neg (by rw [htw]; simp; omega)])
      · refine w_iconst hX dX7_layMoments_107 kI_1 ?_
        refine w_iload hX dX7_layMoments_108 rfl ?_
        refine w_ishl hX dX7_layMoments_110 ?_
        refine w_top (y := nI (2 ^ (2 * k))) (shl_nI (by omega)) ?_
        refine w_goto (tgt := 115) hX dX7_layMoments_111 (by decide) ?_
        refine w_iastN hX dX7_layMoments_115 (wd_a2 hwk) (by omega) (by omega) ?_
        refine w_aload_n (i := 0) hX dX7_layMoments_116 rfl rfl ?_
        refine w_getR (q := w + 2) hX dX7_layMoments_117 fo_RX7_17 rfl (wd_s hwk) (wd_r1 hwk) ?_
        refine w_iload hX dX7_layMoments_120 rfl ?_
        refine w_iconst hX dX7_layMoments_122 kI_1 ?_
        refine w_iaddN hX dX7_layMoments_123 ?_
        refine w_iload hX dX7_layMoments_124 rfl ?_
        refine w_iconst hX dX7_layMoments_126 kI_1 ?_
        refine wn_icmp_eq (tgt := 140) hX dX7_layMoments_127 (by decide) (by omega) (by omega) (fun c5 => ?_) (fun c5 => ?_)
        · refine w_iconst hX dX7_layMoments_140 kI_1 ?_
          refine w_iload hX dX7_layMoments_141 rfl ?_
          refine w_iconst hX dX7_layMoments_143 kI_1 ?_
          refine w_iaddN hX dX7_layMoments_144 ?_
          refine w_ishl hX dX7_layMoments_145 ?_
          refine w_top (y := nI (2 ^ (2 * k + 1))) (shl_nI (by omega)) ?_
          refine w_goto (tgt := 150) hX dX7_layMoments_146 (by decide) ?_
          refine w_iastN hX dX7_layMoments_150 (wd_a2 hwk) (by omega) (by omega) ?_
          refine w_iincN (w := 1) (l2 := [some (.ref w), some (.ref b), some (.int (nI (k + 1))), some (.int (nI (k * 4))), some (.ref (b + 10 + 2 * (ptw B k))), some (.int (nI (ptm B k))), some (.int (nI (pwh B k))), some (.int (nI (2 * k)))]) hX dX7_layMoments_151 rfl kI_1 rfl rfl ?_
          refine w_goto (tgt := 2) hX dX7_layMoments_154 (by decide) ?_
          refine w_sub (l2 := [some (.ref w), some (.ref b), some (.int (nI (k + 1))), none, none, none, none, none]) (by simp [lsub]) (leb rfl) ?_
          refine ih (by omega) _ ((((hsm.sI (Or.inl rfl)).sI (Or.inl rfl)).sI (Or.inr rfl)).sI (Or.inr rfl)) (fun i hi => ?_)
          rcases (show i < 2 * k ∨ i = 2 * k ∨ i = 2 * k + 1 by omega) with e | e | e
          · rw [gI_no (by omega), gI_no (by omega), gI_nk (by omega), gI_nk (by omega), gI_nk (by omega), gI_nk (by omega), gI_no (by omega), gI_no (by omega)]; exact hmo i e
          · subst e; rw [gI_no (by omega), gI_no (by omega), gI_nk (by omega), gI_same, gI_nk (by omega), gI_same, mc0, cl0 (by omega), my0]; refine ⟨rfl, ?_⟩; congr 1; symm; simp only [ne_eq, decide_not, Bool.not_not, decide_eq_true_eq]; first | (rw [if_pos (by omega)]) | (rw [if_neg (by omega)]) | (rw [if_pos (by simp [htw])]) | (rw [if_neg (by simp [htw]; omega)])
          · subst e; rw [gI_no (by omega), gI_no (by omega), gI_same, gI_same, mc1, cl0 (by omega), my1]; refine ⟨rfl, ?_⟩; congr 1; symm; simp only [ne_eq, decide_not, Bool.not_and, Bool.not_not, Bool.or_eq_true, decide_eq_true_eq, Bool.not_eq_true']; first | (rw [if_pos (by first | exact Or.inl (by omega) | exact Or.inr htw)]) | (rw [if_neg (by rw [htw]; simp; omega)])
        · refine w_aload hX dX7_layMoments_130 rfl ?_
          refine w_iload hX dX7_layMoments_132 rfl ?_
          refine w_callVI (As := [.int (nI (ptm B k))]) (rest := [.int (nI (2 * k + 1)), .ref (w + 2)]) (ci := 1) (o := b + 10 + 2 * (ptw B k)) (k2 := 0) (n2 := 0) hX dX7_layMoments_134 (s_b_hasTwice Γ (sI (sI (sI ν (w + 1) (2 * k) (nI (fst B (ptw B k) (ptm B k)))) (w + 1) (2 * k + 1) (nI (lst B (ptw B k) (ptm B k)))) (w + 2) (2 * k) (nI (2 ^ (2 * k)))) b B (Rb_same (same.rf.sI rfl : same (fun o _ => o = w + 2) (sI (sI ν (w + 1) (2 * k) (nI (fst B (ptw B k) (ptm B k)))) (w + 1) (2 * k + 1) (nI (lst B (ptw B k) (ptm B k)))) (sI (sI (sI ν (w + 1) (2 * k) (nI (fst B (ptw B k) (ptm B k)))) (w + 1) (2 * k + 1) (nI (lst B (ptw B k) (ptm B k)))) (w + 2) (2 * k) (nI (2 ^ (2 * k))))) (fun o k h => Or.inl (by omega)) (Rb_same (same.rf.sI rfl : same (fun o _ => o = w + 1) (sI ν (w + 1) (2 * k) (nI (fst B (ptw B k) (ptm B k)))) (sI (sI ν (w + 1) (2 * k) (nI (fst B (ptw B k) (ptm B k)))) (w + 1) (2 * k + 1) (nI (lst B (ptw B k) (ptm B k))))) (fun o k h => Or.inl (by omega)) (Rb_same (same.rf.sI rfl : same (fun o _ => o = w + 1) ν (sI ν (w + 1) (2 * k) (nI (fst B (ptw B k) (ptm B k))))) (fun o k h => Or.inl (by omega)) hRk))) hW.1 (ptw B k) (by omega) (ptm B k) (by omega)) okX1_hasTwice (ltb rfl) (bk_c hRk.1 (by omega)).2.1 ml_RX7_108 imX1_hasTwice seX1_hasTwice rfl (leb rfl) (leb rfl) rfl rfl (fun r9 μ9 hq9 => ?_)
          obtain ⟨hr9, hm9⟩ := hq9; rw [hr9, hm9]; clear hr9 hm9 r9 μ9
          refine wb_ne (tgt := 149) hX dX7_layMoments_137 (by decide) (fun htw => ?_) (fun htw => ?_)
          · refine w_iconst hX dX7_layMoments_149 kI_0 ?_
            refine w_iastN hX dX7_layMoments_150 (wd_a2 hwk) (by omega) (by omega) ?_
            refine w_iincN (w := 1) (l2 := [some (.ref w), some (.ref b), some (.int (nI (k + 1))), some (.int (nI (k * 4))), some (.ref (b + 10 + 2 * (ptw B k))), some (.int (nI (ptm B k))), some (.int (nI (pwh B k))), some (.int (nI (2 * k)))]) hX dX7_layMoments_151 rfl kI_1 rfl rfl ?_
            refine w_goto (tgt := 2) hX dX7_layMoments_154 (by decide) ?_
            refine w_sub (l2 := [some (.ref w), some (.ref b), some (.int (nI (k + 1))), none, none, none, none, none]) (by simp [lsub]) (leb rfl) ?_
            refine ih (by omega) _ ((((hsm.sI (Or.inl rfl)).sI (Or.inl rfl)).sI (Or.inr rfl)).sI (Or.inr rfl)) (fun i hi => ?_)
            rcases (show i < 2 * k ∨ i = 2 * k ∨ i = 2 * k + 1 by omega) with e | e | e
            · rw [gI_no (by omega), gI_no (by omega), gI_nk (by omega), gI_nk (by omega), gI_nk (by omega), gI_nk (by omega), gI_no (by omega), gI_no (by omega)]; exact hmo i e
            · subst e; rw [gI_no (by omega), gI_no (by omega), gI_nk (by omega), gI_same, gI_nk (by omega), gI_same, mc0, cl0 (by omega), my0]; refine ⟨rfl, ?_⟩; congr 1; symm; simp only [ne_eq, decide_not, Bool.not_not, decide_eq_true_eq]; first | (rw [if_pos (by omega)]) | (rw [if_neg (by omega)]) | (rw [if_pos (by simp [htw])]) | (rw [if_neg (by simp [htw]; omega)])
            · subst e; rw [gI_no (by omega), gI_no (by omega), gI_same, gI_same, mc1, cl0 (by omega), my1]; refine ⟨rfl, ?_⟩; congr 1; symm; simp only [ne_eq, decide_not, Bool.not_and, Bool.not_not, Bool.or_eq_true, decide_eq_true_eq, Bool.not_eq_true']; first | (rw [if_pos (by first | exact Or.inl (by omega) | exact Or.inr htw)]) | (rw [if_neg (by rw [htw]; simp; omega)])
          · refine w_iconst hX dX7_layMoments_140 kI_1 ?_
            refine w_iload hX dX7_layMoments_141 rfl ?_
            refine w_iconst hX dX7_layMoments_143 kI_1 ?_
            refine w_iaddN hX dX7_layMoments_144 ?_
            refine w_ishl hX dX7_layMoments_145 ?_
            refine w_top (y := nI (2 ^ (2 * k + 1))) (shl_nI (by omega)) ?_
            refine w_goto (tgt := 150) hX dX7_layMoments_146 (by decide) ?_
            refine w_iastN hX dX7_layMoments_150 (wd_a2 hwk) (by omega) (by omega) ?_
            refine w_iincN (w := 1) (l2 := [some (.ref w), some (.ref b), some (.int (nI (k + 1))), some (.int (nI (k * 4))), some (.ref (b + 10 + 2 * (ptw B k))), some (.int (nI (ptm B k))), some (.int (nI (pwh B k))), some (.int (nI (2 * k)))]) hX dX7_layMoments_151 rfl kI_1 rfl rfl ?_
            refine w_goto (tgt := 2) hX dX7_layMoments_154 (by decide) ?_
            refine w_sub (l2 := [some (.ref w), some (.ref b), some (.int (nI (k + 1))), none, none, none, none, none]) (by simp [lsub]) (leb rfl) ?_
            refine ih (by omega) _ ((((hsm.sI (Or.inl rfl)).sI (Or.inl rfl)).sI (Or.inr rfl)).sI (Or.inr rfl)) (fun i hi => ?_)
            rcases (show i < 2 * k ∨ i = 2 * k ∨ i = 2 * k + 1 by omega) with e | e | e
            · rw [gI_no (by omega), gI_no (by omega), gI_nk (by omega), gI_nk (by omega), gI_nk (by omega), gI_nk (by omega), gI_no (by omega), gI_no (by omega)]; exact hmo i e
            · subst e; rw [gI_no (by omega), gI_no (by omega), gI_nk (by omega), gI_same, gI_nk (by omega), gI_same, mc0, cl0 (by omega), my0]; refine ⟨rfl, ?_⟩; congr 1; symm; simp only [ne_eq, decide_not, Bool.not_not, decide_eq_true_eq]; first | (rw [if_pos (by omega)]) | (rw [if_neg (by omega)]) | (rw [if_pos (by simp [htw])]) | (rw [if_neg (by simp [htw]; omega)])
            · subst e; rw [gI_no (by omega), gI_no (by omega), gI_same, gI_same, mc1, cl0 (by omega), my1]; refine ⟨rfl, ?_⟩; congr 1; symm; simp only [ne_eq, decide_not, Bool.not_and, Bool.not_not, Bool.or_eq_true, decide_eq_true_eq, Bool.not_eq_true']; first | (rw [if_pos (by first | exact Or.inl (by omega) | exact Or.inr htw)]) | (rw [if_neg (by rw [htw]; simp; omega)])
  exact loop 0 (Nat.zero_le _) μ same.rf (fun i hi => by omega)
theorem shr_nI {a k : Nat} (ha : a < 2 ^ 31) (hk : k < 31) : nI a >>> (nI k &&& 31) = nI (a / 2 ^ k) := pk_shrN ha _ _ (s_l k (by omega))
theorem rl_abs {x y m : Nat} (hx : x < 2 ^ 30) (hy : y < 2 ^ 30) (hm : m < 2 ^ 30) : (if 0 ≤ nI x - nI y then nI x - nI y else 0 - (nI x - nI y)) ≤ nI m ↔ x ≤ y + m ∧ y ≤ x + m := by
  have h0 : (0 : Int32) ≤ nI x - nI y ↔ y ≤ x := by
    rw [Int32.le_iff_toInt_le, pk_sub_toInt hx hy]
    show (0 : Int) ≤ _ ↔ _
    omega
  by_cases h : y ≤ x
  · rw [if_pos (h0.mpr h), Int32.le_iff_toInt_le, pk_sub_toInt hx hy, nI_toInt (by omega)]
    omega
  · rw [if_neg (fun e => h (h0.mp e)), Int32.zero_sub, Int32.neg_sub, Int32.le_iff_toInt_le, pk_sub_toInt hy hx, nI_toInt (by omega)]
    omega
theorem rl_ge {x y m : Nat} (hx : x < 2 ^ 30) (hy : y < 2 ^ 30) (hm : m < 2 ^ 30) : nI m ≤ nI x - nI y ↔ y + m ≤ x := by
  rw [Int32.le_iff_toInt_le, pk_sub_toInt hx hy, nI_toInt (by omega)]
  omega
def pkc (B : Nat → Nat) (k t : Nat) : Nat := 2 * B (402 + 4 * k + 1) + t % 2
def okc (B : Nat → Nat) (k t : Nat) : Nat := 2 * B (402 + 4 * k + 2) + t / 2
def clx (B : Nat → Nat) (k : Nat) : Nat → Nat → Nat → Bool
  | 0, i, j => claB B k i j
  | t + 1, i, j => clx B k t i j || (!rlB B k (mcB B (pkc B k t)) (mcB B (okc B k t)) && (decide (i = pkc B k t) && decide (j = okc B k t) || decide (i = okc B k t) && decide (j = pkc B k t)))
theorem clx_n {B : Nat → Nat} {k i j : Nat} : ∀ n, n ≤ 4 → clx B k n i j = (claB B k i j || ((decide (i % 2 + 2 * (j % 2) < n) && bad1 B k i j) || (decide (j % 2 + 2 * (i % 2) < n) && bad1 B k j i))) := by
  intro n
  induction n with
  | zero => intro _; simp [clx]
  | succ n ih =>
    intro hn
    rw [Bool.eq_iff_iff]
    simp only [clx]
    rw [ih (by omega)]
    simp only [bad1, Bool.or_eq_true, Bool.and_eq_true, decide_eq_true_eq]
    constructor
    · rintro ((h | h | h) | ⟨h1, ⟨h2, h3⟩ | ⟨h2, h3⟩⟩)
      · exact Or.inl h
      · exact Or.inr (Or.inl ⟨by omega, h.2⟩)
      · exact Or.inr (Or.inr ⟨by omega, h.2⟩)
      · rw [← h2, ← h3] at h1
        unfold pkc at h2; unfold okc at h3
        exact Or.inr (Or.inl ⟨by omega, ⟨by omega, by omega⟩, h1⟩)
      · rw [← h2, ← h3] at h1
        unfold okc at h2; unfold pkc at h3
        exact Or.inr (Or.inr ⟨by omega, ⟨by omega, by omega⟩, h1⟩)
    · rintro (h | ⟨h1, ⟨h2, h3⟩, h4⟩ | ⟨h1, ⟨h2, h3⟩, h4⟩)
      · exact Or.inl (Or.inl h)
      · by_cases e : i % 2 + 2 * (j % 2) < n
        · exact Or.inl (Or.inr (Or.inl ⟨e, ⟨h2, h3⟩, h4⟩))
        · have e1 : i = pkc B k n := by unfold pkc; omega
          have e2 : j = okc B k n := by unfold okc; omega
          rw [e1, e2] at h4
          exact Or.inr ⟨h4, Or.inl ⟨e1, e2⟩⟩
      · by_cases e : j % 2 + 2 * (i % 2) < n
        · exact Or.inl (Or.inr (Or.inr ⟨e, ⟨h2, h3⟩, h4⟩))
        · have e1 : j = pkc B k n := by unfold pkc; omega
          have e2 : i = okc B k n := by unfold okc; omega
          rw [e1, e2] at h4
          exact Or.inr ⟨h4, Or.inr ⟨e2, e1⟩⟩
theorem clx_4 {B : Nat → Nat} {k i j : Nat} : clx B k 4 i j = claB B (k + 1) i j := by
  rw [clx_n 4 (Nat.le_refl _)]
  simp only [claB]
  rw [decide_eq_true (by omega : i % 2 + 2 * (j % 2) < 4), decide_eq_true (by omega : j % 2 + 2 * (i % 2) < 4), Bool.true_and, Bool.true_and]
theorem clx_y {B : Nat → Nat} {k t i : Nat} (h : rlB B k (mcB B (pkc B k t)) (mcB B (okc B k t)) = true) : bw (clx B k (t + 1) i) 24 = bw (clx B k t i) 24 := bw_c (fun j _ => by simp [clx, h])
theorem clx_o {B : Nat → Nat} {k t i : Nat} (h : rlB B k (mcB B (pkc B k t)) (mcB B (okc B k t)) = false) (h1 : i ≠ pkc B k t) (h2 : i ≠ okc B k t) : bw (clx B k (t + 1) i) 24 = bw (clx B k t i) 24 := bw_c (fun j _ => by simp [clx, h, h1, h2])
theorem clx_p {B : Nat → Nat} {k t : Nat} (h : rlB B k (mcB B (pkc B k t)) (mcB B (okc B k t)) = false) (hne : pkc B k t ≠ okc B k t) (ho : okc B k t < 24) : bw (clx B k (t + 1) (pkc B k t)) 24 = bw (clx B k t (pkc B k t)) 24 ||| 2 ^ okc B k t := by
  rw [bw_set ho]; exact bw_c (fun j _ => by simp [clx, h, hne])
theorem clx_q {B : Nat → Nat} {k t : Nat} (h : rlB B k (mcB B (pkc B k t)) (mcB B (okc B k t)) = false) (hne : pkc B k t ≠ okc B k t) (ho : pkc B k t < 24) : bw (clx B k (t + 1) (okc B k t)) 24 = bw (clx B k t (okc B k t)) 24 ||| 2 ^ pkc B k t := by
  have hne2 : ¬ okc B k t = pkc B k t := fun e => hne e.symm
  rw [bw_set ho]; exact bw_c (fun j _ => by simp [clx, h, hne2])
theorem mcB_le {B : Nat → Nat} (hW : WB B) {i : Nat} (hi : i < 2 * B 352) : mcB B i < 2 ^ 30 := by
  have h := hW.2.2.2.2.1.2 (i / 2) (by omega)
  have h3 := hW.1.1
  have ht : ptw B (i / 2) < 3 := by have : ptw B (i / 2) < B 0 := h.1; omega
  have hm : ptm B (i / 2) ≤ 5256000 := by unfold ptm; omega
  have a := fst_le hW.1 (c := ptm B (i / 2)) ht
  have b := lst_le hW.1 (c := ptm B (i / 2)) ht
  unfold mcB
  split <;> omega
set_option maxHeartbeats 1000000 in
theorem s_w_layC (Γ : Gm) (μ : Mem) (w b : Nat) (B : Nat → Nat) (hw : isWd μ w) (hR : Rb μ b B) (hW : WB B) (hwb : w + 5 < b) (hP : gI μ w 6 = nI (B 352)) (hmo : ∀ i, i < 2 * B 352 → gI μ (w + 1) i = nI (mcB B i)) (hc0 : ∀ i, i < 2 * B 352 → gI μ (w + 2) i = nI (bw (claB B 0 i) 24)) : SpV Γ MX7_layClashes 1 0 0 [.ref w, .ref b] μ (fun μ2 => (∀ i, i < 2 * B 352 → gI μ2 (w + 2) i = nI (bw (clB B i) 24)) ∧ same (fun o _ => o = w + 2) μ μ2) := by
  refine SpV.of okX7_layClashes rfl [some (.ref w), some (.ref b), none, none, none, none, none, none, none, none, none, none] ⟨rfl, rfl, trivial⟩ (leb rfl) (leb rfl) (fun X hX hE hnm => ?_)
  refine w_iconst hX dX7_layClashes_0 kI_0 ?_
  refine w_istore_n (i := 2) (l2 := [some (.ref w), some (.ref b), some (.int (nI 0)), none, none, none, none, none, none, none, none, none]) hX dX7_layClashes_1 rfl (ltb rfl) rfl rfl ?_
  have loop : ∀ k, k ≤ B 401 → ∀ ν : Mem, (same (fun o _ => o = w + 2) μ ν) → (∀ i, i < 2 * B 352 → gI ν (w + 2) i = nI (bw (claB B k i) 24)) → WP Γ X 0 0 2 [some (.ref w), some (.ref b), some (.int (nI k)), none, none, none, none, none, none, none, none, none] [] ν := by
    refine loopU (B 401) ?_
    intro k hk ihk ν hsm hcl
    have hwk := hsm.isWd hw
    have hRk := Rb_same hsm (fun o k h => Or.inl (by omega)) hR
    have hP12 := hW.2.2.2.2.1.1
    have hr16 := hW.2.2.2.2.2.1
    have hrr : k < B 401 → B (402 + 4 * k) ≤ 1 ∧ B (402 + 4 * k + 1) < B 352 ∧ B (402 + 4 * k + 2) < B 352 ∧ B (402 + 4 * k + 1) ≠ B (402 + 4 * k + 2) ∧ B (402 + 4 * k + 3) ≤ 9999 := fun h => hW.2.2.2.2.2.2 k h
    refine w_iload_n (i := 2) hX dX7_layClashes_2 rfl rfl ?_
    refine w_aload_n (i := 1) hX dX7_layClashes_3 rfl rfl ?_
    refine w_getI hX dX7_layClashes_4 fo_RX7_111 rfl (bk_s hRk.1) ?_
    refine w_top (y := nI (B 401)) hRk.2.2.2.2.2.2.2.2.2.2.2.1 ?_
    refine wn_icmp_ge (tgt := 179) hX dX7_layClashes_7 (by decide) (by omega) (by omega) (fun c1 => ?_) (fun c1 => ?_)
    · exact w_vret hX hE dX7_layClashes_179 (Or.inl rfl) ⟨fun i hi => by have := hcl i hi; rw [show k = B 401 by omega] at this; exact this, hsm⟩
    · refine w_iload_n (i := 2) hX dX7_layClashes_10 rfl rfl ?_
      refine w_iconst hX dX7_layClashes_11 kI_4 ?_
      refine w_imulN hX dX7_layClashes_12 ?_
      refine w_istore_n (i := 3) (l2 := [some (.ref w), some (.ref b), some (.int (nI k)), some (.int (nI (k * 4))), none, none, none, none, none, none, none, none]) hX dX7_layClashes_13 rfl (ltb rfl) rfl rfl ?_
      refine w_iconst hX dX7_layClashes_14 kI_2 ?_
      refine w_aload_n (i := 1) hX dX7_layClashes_15 rfl rfl ?_
      refine w_getR (q := b + 6) hX dX7_layClashes_16 fo_RX7_114 rfl (bk_s hRk.1) (bk_r5 hRk.1) ?_
      refine w_iload_n (i := 3) hX dX7_layClashes_19 rfl rfl ?_
      refine w_iconst hX dX7_layClashes_20 kI_1 ?_
      refine w_iaddN hX dX7_layClashes_21 ?_
      refine w_ialdN hX dX7_layClashes_22 (bk_a6 hRk.1) (by omega) (by omega) ?_
      refine w_top (y := nI (B (402 + 4 * k + 1))) (by rw [hRk.2.2.2.2.2.2.2.2.2.2.2.2 _ (by omega)]; congr 2; omega) ?_
      refine w_imulN hX dX7_layClashes_23 ?_
      refine w_istore (l2 := [some (.ref w), some (.ref b), some (.int (nI k)), some (.int (nI (k * 4))), some (.int (nI (2 * (B (402 + 4 * k + 1))))), none, none, none, none, none, none, none]) hX dX7_layClashes_24 (ltb rfl) rfl rfl ?_
      refine w_iconst hX dX7_layClashes_26 kI_2 ?_
      refine w_aload_n (i := 1) hX dX7_layClashes_27 rfl rfl ?_
      refine w_getR (q := b + 6) hX dX7_layClashes_28 fo_RX7_114 rfl (bk_s hRk.1) (bk_r5 hRk.1) ?_
      refine w_iload_n (i := 3) hX dX7_layClashes_31 rfl rfl ?_
      refine w_iconst hX dX7_layClashes_32 kI_2 ?_
      refine w_iaddN hX dX7_layClashes_33 ?_
      refine w_ialdN hX dX7_layClashes_34 (bk_a6 hRk.1) (by omega) (by omega) ?_
      refine w_top (y := nI (B (402 + 4 * k + 2))) (by rw [hRk.2.2.2.2.2.2.2.2.2.2.2.2 _ (by omega)]; congr 2; omega) ?_
      refine w_imulN hX dX7_layClashes_35 ?_
      refine w_istore (l2 := [some (.ref w), some (.ref b), some (.int (nI k)), some (.int (nI (k * 4))), some (.int (nI (2 * (B (402 + 4 * k + 1))))), some (.int (nI (2 * (B (402 + 4 * k + 2))))), none, none, none, none, none, none]) hX dX7_layClashes_36 (ltb rfl) rfl rfl ?_
      refine w_iconst hX dX7_layClashes_38 kI_0 ?_
      refine w_istore (l2 := [some (.ref w), some (.ref b), some (.int (nI k)), some (.int (nI (k * 4))), some (.int (nI (2 * (B (402 + 4 * k + 1))))), some (.int (nI (2 * (B (402 + 4 * k + 2))))), some (.int (nI 0)), none, none, none, none, none]) hX dX7_layClashes_39 (ltb rfl) rfl rfl ?_
      have inl : ∀ t, t ≤ 4 → ∀ ν1 : Mem, (same (fun o _ => o = w + 2) μ ν1) → (∀ i, i < 2 * B 352 → gI ν1 (w + 2) i = nI (bw (clx B k t i) 24)) → WP Γ X 0 0 41 [some (.ref w), some (.ref b), some (.int (nI k)), some (.int (nI (k * 4))), some (.int (nI (2 * B (402 + 4 * k + 1)))), some (.int (nI (2 * B (402 + 4 * k + 2)))), some (.int (nI t)), none, none, none, none, none] [] ν1 := by
        refine loopU (4) ?_
        intro t ht iht ν1 hsn hcx
        have hw1 := hsn.isWd hw
        have hR1 := Rb_same hsn (fun o k h => Or.inl (by omega)) hR
        have hpk : pkc B k t = 2 * B (402 + 4 * k + 1) + t % 2 := rfl
        have hok : okc B k t = 2 * B (402 + 4 * k + 2) + t / 2 := rfl
        have hm1 : t < 4 → mcB B (pkc B k t) < 2 ^ 30 := fun h => mcB_le hW (by omega)
        have hm2 : t < 4 → mcB B (okc B k t) < 2 ^ 30 := fun h => mcB_le hW (by omega)
        refine w_iload hX dX7_layClashes_41 rfl ?_
        refine w_iconst hX dX7_layClashes_43 kI_4 ?_
        refine wn_icmp_ge (tgt := 173) hX dX7_layClashes_44 (by decide) (by omega) (by omega) (fun c2 => ?_) (fun c2 => ?_)
        · refine w_iincN (w := 1) (l2 := [some (.ref w), some (.ref b), some (.int (nI (k + 1))), some (.int (nI (k * 4))), some (.int (nI (2 * B (402 + 4 * k + 1)))), some (.int (nI (2 * B (402 + 4 * k + 2)))), some (.int (nI t)), none, none, none, none, none]) hX dX7_layClashes_173 rfl kI_1 rfl rfl ?_
          refine w_goto (tgt := 2) hX dX7_layClashes_176 (by decide) ?_
          refine w_sub (l2 := [some (.ref w), some (.ref b), some (.int (nI (k + 1))), none, none, none, none, none, none, none, none, none]) (by simp [lsub]) (leb rfl) ?_
          exact ihk (by omega) ν1 hsn (fun i hi => by rw [hcx i hi, show t = 4 by omega]; congr 1; exact bw_c (fun j _ => clx_4))
        · refine w_iload hX dX7_layClashes_47 rfl ?_
          refine w_iload hX dX7_layClashes_49 rfl ?_
          refine w_iconst hX dX7_layClashes_51 kI_1 ?_
          refine w_iand hX dX7_layClashes_52 ?_
          refine w_top (y := nI (t % 2)) (fa_mask t 1) ?_
          refine w_iaddN hX dX7_layClashes_53 ?_
          refine w_top (y := nI (pkc B k t)) rfl ?_
          refine w_istore (l2 := [some (.ref w), some (.ref b), some (.int (nI k)), some (.int (nI (k * 4))), some (.int (nI (2 * B (402 + 4 * k + 1)))), some (.int (nI (2 * B (402 + 4 * k + 2)))), some (.int (nI t)), some (.int (nI (pkc B k t))), none, none, none, none]) hX dX7_layClashes_54 (ltb rfl) rfl rfl ?_
          refine w_iload hX dX7_layClashes_56 rfl ?_
          refine w_iload hX dX7_layClashes_58 rfl ?_
          refine w_iconst hX dX7_layClashes_60 kI_1 ?_
          refine w_ishr hX dX7_layClashes_61 ?_
          refine w_top (y := nI (t / 2)) (shr_nI (by omega) (by omega)) ?_
          refine w_iaddN hX dX7_layClashes_62 ?_
          refine w_top (y := nI (okc B k t)) rfl ?_
          refine w_istore (l2 := [some (.ref w), some (.ref b), some (.int (nI k)), some (.int (nI (k * 4))), some (.int (nI (2 * B (402 + 4 * k + 1)))), some (.int (nI (2 * B (402 + 4 * k + 2)))), some (.int (nI t)), some (.int (nI (pkc B k t))), some (.int (nI (okc B k t))), none, none, none]) hX dX7_layClashes_63 (ltb rfl) rfl rfl ?_
          refine w_aload_n (i := 0) hX dX7_layClashes_65 rfl rfl ?_
          refine w_getR (q := w + 1) hX dX7_layClashes_66 fo_RX7_13 rfl (wd_s hw1) (wd_r0 hw1) ?_
          refine w_iload hX dX7_layClashes_69 rfl ?_
          refine w_ialdN hX dX7_layClashes_71 (wd_a1 hw1) (by omega) (by omega) ?_
          refine w_top (y := nI (mcB B (pkc B k t))) (by rw [(hsn.2.2 _ _ (fun h => by omega)).1]; exact hmo _ (by omega)) ?_
          refine w_aload_n (i := 0) hX dX7_layClashes_72 rfl rfl ?_
          refine w_getR (q := w + 1) hX dX7_layClashes_73 fo_RX7_13 rfl (wd_s hw1) (wd_r0 hw1) ?_
          refine w_iload hX dX7_layClashes_76 rfl ?_
          refine w_ialdN hX dX7_layClashes_78 (wd_a1 hw1) (by omega) (by omega) ?_
          refine w_top (y := nI (mcB B (okc B k t))) (by rw [(hsn.2.2 _ _ (fun h => by omega)).1]; exact hmo _ (by omega)) ?_
          refine w_isub hX dX7_layClashes_79 ?_
          refine w_istore (l2 := [some (.ref w), some (.ref b), some (.int (nI k)), some (.int (nI (k * 4))), some (.int (nI (2 * B (402 + 4 * k + 1)))), some (.int (nI (2 * B (402 + 4 * k + 2)))), some (.int (nI t)), some (.int (nI (pkc B k t))), some (.int (nI (okc B k t))), some (.int ((nI (mcB B (pkc B k t))) - (nI (mcB B (okc B k t))))), none, none]) hX dX7_layClashes_80 (ltb rfl) rfl rfl ?_
          refine w_aload_n (i := 1) hX dX7_layClashes_82 rfl rfl ?_
          refine w_getR (q := b + 6) hX dX7_layClashes_83 fo_RX7_114 rfl (bk_s hR1.1) (bk_r5 hR1.1) ?_
          refine w_iload_n (i := 3) hX dX7_layClashes_86 rfl rfl ?_
          refine w_iconst hX dX7_layClashes_87 kI_3 ?_
          refine w_iaddN hX dX7_layClashes_88 ?_
          refine w_ialdN hX dX7_layClashes_89 (bk_a6 hR1.1) (by omega) (by omega) ?_
          refine w_top (y := nI (B (402 + 4 * k + 3))) (by rw [hR1.2.2.2.2.2.2.2.2.2.2.2.2 _ (by omega)]; congr 2; omega) ?_
          refine w_istore (l2 := [some (.ref w), some (.ref b), some (.int (nI k)), some (.int (nI (k * 4))), some (.int (nI (2 * B (402 + 4 * k + 1)))), some (.int (nI (2 * B (402 + 4 * k + 2)))), some (.int (nI t)), some (.int (nI (pkc B k t))), some (.int (nI (okc B k t))), some (.int ((nI (mcB B (pkc B k t))) - (nI (mcB B (okc B k t))))), some (.int (nI (B (402 + 4 * k + 3)))), none]) hX dX7_layClashes_90 (ltb rfl) rfl rfl ?_
          refine w_aload_n (i := 1) hX dX7_layClashes_92 rfl rfl ?_
          refine w_getR (q := b + 6) hX dX7_layClashes_93 fo_RX7_114 rfl (bk_s hR1.1) (bk_r5 hR1.1) ?_
          refine w_iload_n (i := 3) hX dX7_layClashes_96 rfl rfl ?_
          refine w_ialdN hX dX7_layClashes_97 (bk_a6 hR1.1) (by omega) (by omega) ?_
          refine w_top (y := nI (B (402 + 4 * k))) (by rw [hR1.2.2.2.2.2.2.2.2.2.2.2.2 _ (by omega)]; congr 2; omega) ?_
          refine w_iconst hX dX7_layClashes_98 kI_1 ?_
          refine wn_icmp_ne (tgt := 120) hX dX7_layClashes_99 (by decide) (by omega) (by omega) (fun c3 => ?_) (fun c3 => ?_)
          · refine w_iload hX dX7_layClashes_120 rfl ?_
            refine w_iload hX dX7_layClashes_122 rfl ?_
            refine wc_icmp_lt (tgt := 131) hX dX7_layClashes_124 (by decide) (fun c4 => ?_) (fun c4 => ?_)
            · refine w_iconst hX dX7_layClashes_131 kI_0 ?_
              refine w_top (y := bI (rlB B k (mcB B (pkc B k t)) (mcB B (okc B k t)))) (bI_2 (by unfold rlB; rw [if_neg (by assumption)]; exact decide_eq_false (fun h9 => absurd ((rl_ge (by omega) (by omega) (by omega)).mpr h9) (Int32.not_le.mpr c4)))) ?_
              refine w_istore (l2 := [some (.ref w), some (.ref b), some (.int (nI k)), some (.int (nI (k * 4))), some (.int (nI (2 * B (402 + 4 * k + 1)))), some (.int (nI (2 * B (402 + 4 * k + 2)))), some (.int (nI t)), some (.int (nI (pkc B k t))), some (.int (nI (okc B k t))), some (.int ((nI (mcB B (pkc B k t))) - (nI (mcB B (okc B k t))))), some (.int (nI (B (402 + 4 * k + 3)))), some (.int (bI (rlB B k (mcB B (pkc B k t)) (mcB B (okc B k t)))))]) hX dX7_layClashes_132 (ltb rfl) rfl rfl ?_
              refine w_iload hX dX7_layClashes_134 rfl ?_
              refine wb_ne (tgt := 167) hX dX7_layClashes_136 (by decide) (fun hrl => ?_) (fun hrl => ?_)
              · refine w_iincN (w := 1) (l2 := [some (.ref w), some (.ref b), some (.int (nI k)), some (.int (nI (k * 4))), some (.int (nI (2 * B (402 + 4 * k + 1)))), some (.int (nI (2 * B (402 + 4 * k + 2)))), some (.int (nI (t + 1))), some (.int (nI (pkc B k t))), some (.int (nI (okc B k t))), some (.int ((nI (mcB B (pkc B k t))) - (nI (mcB B (okc B k t))))), some (.int (nI (B (402 + 4 * k + 3)))), some (.int (bI (rlB B k (mcB B (pkc B k t)) (mcB B (okc B k t)))))]) hX dX7_layClashes_167 rfl kI_1 rfl rfl ?_
                refine w_goto (tgt := 41) hX dX7_layClashes_170 (by decide) ?_
                refine w_sub (l2 := [some (.ref w), some (.ref b), some (.int (nI k)), some (.int (nI (k * 4))), some (.int (nI (2 * B (402 + 4 * k + 1)))), some (.int (nI (2 * B (402 + 4 * k + 2)))), some (.int (nI (t + 1))), none, none, none, none, none]) (by simp [lsub]) (leb rfl) ?_
                exact iht (by omega) ν1 hsn (fun i hi => by rw [clx_y hrl]; exact hcx i hi)
              · refine w_aload_n (i := 0) hX dX7_layClashes_139 rfl rfl ?_
                refine w_getR (q := w + 2) hX dX7_layClashes_140 fo_RX7_17 rfl (wd_s hw1) (wd_r1 hw1) ?_
                refine w_iload hX dX7_layClashes_143 rfl ?_
                refine w_dup2 hX dX7_layClashes_145 rfl rfl ?_
                refine w_ialdN hX dX7_layClashes_146 (wd_a2 hw1) (by omega) (by omega) ?_
                refine w_top (y := nI (bw (clx B k t (pkc B k t)) 24)) (hcx _ (by omega)) ?_
                refine w_iconst hX dX7_layClashes_147 kI_1 ?_
                refine w_iload hX dX7_layClashes_148 rfl ?_
                refine w_ishl hX dX7_layClashes_150 ?_
                refine w_top (y := nI (2 ^ okc B k t)) (shl_nI (by omega)) ?_
                refine w_ior hX dX7_layClashes_151 ?_
                refine w_top (y := nI (bw (clx B k t (pkc B k t)) 24 ||| 2 ^ okc B k t)) (fa_or _ _) ?_
                refine w_iastN hX dX7_layClashes_152 (wd_a2 hw1) (by omega) (by omega) ?_
                refine w_aload_n (i := 0) hX dX7_layClashes_153 rfl rfl ?_
                refine w_getR (q := w + 2) hX dX7_layClashes_154 fo_RX7_17 rfl (wd_s hw1) (wd_r1 hw1) ?_
                refine w_iload hX dX7_layClashes_157 rfl ?_
                refine w_dup2 hX dX7_layClashes_159 rfl rfl ?_
                refine w_ialdN hX dX7_layClashes_160 (wd_a2 hw1) (by omega) (by omega) ?_
                refine w_top (y := nI (bw (clx B k t (okc B k t)) 24)) (by rw [gI_nk (by omega)]; exact hcx _ (by omega)) ?_
                refine w_iconst hX dX7_layClashes_161 kI_1 ?_
                refine w_iload hX dX7_layClashes_162 rfl ?_
                refine w_ishl hX dX7_layClashes_164 ?_
                refine w_top (y := nI (2 ^ pkc B k t)) (shl_nI (by omega)) ?_
                refine w_ior hX dX7_layClashes_165 ?_
                refine w_top (y := nI (bw (clx B k t (okc B k t)) 24 ||| 2 ^ pkc B k t)) (fa_or _ _) ?_
                refine w_iastN hX dX7_layClashes_166 (wd_a2 hw1) (by omega) (by omega) ?_
                refine w_iincN (w := 1) (l2 := [some (.ref w), some (.ref b), some (.int (nI k)), some (.int (nI (k * 4))), some (.int (nI (2 * B (402 + 4 * k + 1)))), some (.int (nI (2 * B (402 + 4 * k + 2)))), some (.int (nI (t + 1))), some (.int (nI (pkc B k t))), some (.int (nI (okc B k t))), some (.int ((nI (mcB B (pkc B k t))) - (nI (mcB B (okc B k t))))), some (.int (nI (B (402 + 4 * k + 3)))), some (.int (bI (rlB B k (mcB B (pkc B k t)) (mcB B (okc B k t)))))]) hX dX7_layClashes_167 rfl kI_1 rfl rfl ?_
                refine w_goto (tgt := 41) hX dX7_layClashes_170 (by decide) ?_
                refine w_sub (l2 := [some (.ref w), some (.ref b), some (.int (nI k)), some (.int (nI (k * 4))), some (.int (nI (2 * B (402 + 4 * k + 1)))), some (.int (nI (2 * B (402 + 4 * k + 2)))), some (.int (nI (t + 1))), none, none, none, none, none]) (by simp [lsub]) (leb rfl) ?_
                refine iht (by omega) _ ((hsn.sI rfl).sI rfl) (fun i hi => ?_)
                by_cases e1 : i = okc B k t
                · rw [e1, gI_same, clx_q hrl (by omega) (by omega)]
                · rw [gI_nk e1]
                  by_cases e2 : i = pkc B k t
                  · rw [e2, gI_same, clx_p hrl (by omega) (by omega)]
                  · rw [gI_nk e2, clx_o hrl e2 e1]; exact hcx i hi
            · refine w_iconst hX dX7_layClashes_127 kI_1 ?_
              refine w_top (y := bI (rlB B k (mcB B (pkc B k t)) (mcB B (okc B k t)))) (bI_1 (by unfold rlB; rw [if_neg (by assumption)]; exact decide_eq_true ((rl_ge (by omega) (by omega) (by omega)).mp c4))) ?_
              refine w_goto (tgt := 132) hX dX7_layClashes_128 (by decide) ?_
              refine w_istore (l2 := [some (.ref w), some (.ref b), some (.int (nI k)), some (.int (nI (k * 4))), some (.int (nI (2 * B (402 + 4 * k + 1)))), some (.int (nI (2 * B (402 + 4 * k + 2)))), some (.int (nI t)), some (.int (nI (pkc B k t))), some (.int (nI (okc B k t))), some (.int ((nI (mcB B (pkc B k t))) - (nI (mcB B (okc B k t))))), some (.int (nI (B (402 + 4 * k + 3)))), some (.int (bI (rlB B k (mcB B (pkc B k t)) (mcB B (okc B k t)))))]) hX dX7_layClashes_132 (ltb rfl) rfl rfl ?_
              refine w_iload hX dX7_layClashes_134 rfl ?_
              refine wb_ne (tgt := 167) hX dX7_layClashes_136 (by decide) (fun hrl => ?_) (fun hrl => ?_)
              · refine w_iincN (w := 1) (l2 := [some (.ref w), some (.ref b), some (.int (nI k)), some (.int (nI (k * 4))), some (.int (nI (2 * B (402 + 4 * k + 1)))), some (.int (nI (2 * B (402 + 4 * k + 2)))), some (.int (nI (t + 1))), some (.int (nI (pkc B k t))), some (.int (nI (okc B k t))), some (.int ((nI (mcB B (pkc B k t))) - (nI (mcB B (okc B k t))))), some (.int (nI (B (402 + 4 * k + 3)))), some (.int (bI (rlB B k (mcB B (pkc B k t)) (mcB B (okc B k t)))))]) hX dX7_layClashes_167 rfl kI_1 rfl rfl ?_
                refine w_goto (tgt := 41) hX dX7_layClashes_170 (by decide) ?_
                refine w_sub (l2 := [some (.ref w), some (.ref b), some (.int (nI k)), some (.int (nI (k * 4))), some (.int (nI (2 * B (402 + 4 * k + 1)))), some (.int (nI (2 * B (402 + 4 * k + 2)))), some (.int (nI (t + 1))), none, none, none, none, none]) (by simp [lsub]) (leb rfl) ?_
                exact iht (by omega) ν1 hsn (fun i hi => by rw [clx_y hrl]; exact hcx i hi)
              · refine w_aload_n (i := 0) hX dX7_layClashes_139 rfl rfl ?_
                refine w_getR (q := w + 2) hX dX7_layClashes_140 fo_RX7_17 rfl (wd_s hw1) (wd_r1 hw1) ?_
                refine w_iload hX dX7_layClashes_143 rfl ?_
                refine w_dup2 hX dX7_layClashes_145 rfl rfl ?_
                refine w_ialdN hX dX7_layClashes_146 (wd_a2 hw1) (by omega) (by omega) ?_
                refine w_top (y := nI (bw (clx B k t (pkc B k t)) 24)) (hcx _ (by omega)) ?_
                refine w_iconst hX dX7_layClashes_147 kI_1 ?_
                refine w_iload hX dX7_layClashes_148 rfl ?_
                refine w_ishl hX dX7_layClashes_150 ?_
                refine w_top (y := nI (2 ^ okc B k t)) (shl_nI (by omega)) ?_
                refine w_ior hX dX7_layClashes_151 ?_
                refine w_top (y := nI (bw (clx B k t (pkc B k t)) 24 ||| 2 ^ okc B k t)) (fa_or _ _) ?_
                refine w_iastN hX dX7_layClashes_152 (wd_a2 hw1) (by omega) (by omega) ?_
                refine w_aload_n (i := 0) hX dX7_layClashes_153 rfl rfl ?_
                refine w_getR (q := w + 2) hX dX7_layClashes_154 fo_RX7_17 rfl (wd_s hw1) (wd_r1 hw1) ?_
                refine w_iload hX dX7_layClashes_157 rfl ?_
                refine w_dup2 hX dX7_layClashes_159 rfl rfl ?_
                refine w_ialdN hX dX7_layClashes_160 (wd_a2 hw1) (by omega) (by omega) ?_
                refine w_top (y := nI (bw (clx B k t (okc B k t)) 24)) (by rw [gI_nk (by omega)]; exact hcx _ (by omega)) ?_
                refine w_iconst hX dX7_layClashes_161 kI_1 ?_
                refine w_iload hX dX7_layClashes_162 rfl ?_
                refine w_ishl hX dX7_layClashes_164 ?_
                refine w_top (y := nI (2 ^ pkc B k t)) (shl_nI (by omega)) ?_
                refine w_ior hX dX7_layClashes_165 ?_
                refine w_top (y := nI (bw (clx B k t (okc B k t)) 24 ||| 2 ^ pkc B k t)) (fa_or _ _) ?_
                refine w_iastN hX dX7_layClashes_166 (wd_a2 hw1) (by omega) (by omega) ?_
                refine w_iincN (w := 1) (l2 := [some (.ref w), some (.ref b), some (.int (nI k)), some (.int (nI (k * 4))), some (.int (nI (2 * B (402 + 4 * k + 1)))), some (.int (nI (2 * B (402 + 4 * k + 2)))), some (.int (nI (t + 1))), some (.int (nI (pkc B k t))), some (.int (nI (okc B k t))), some (.int ((nI (mcB B (pkc B k t))) - (nI (mcB B (okc B k t))))), some (.int (nI (B (402 + 4 * k + 3)))), some (.int (bI (rlB B k (mcB B (pkc B k t)) (mcB B (okc B k t)))))]) hX dX7_layClashes_167 rfl kI_1 rfl rfl ?_
                refine w_goto (tgt := 41) hX dX7_layClashes_170 (by decide) ?_
                refine w_sub (l2 := [some (.ref w), some (.ref b), some (.int (nI k)), some (.int (nI (k * 4))), some (.int (nI (2 * B (402 + 4 * k + 1)))), some (.int (nI (2 * B (402 + 4 * k + 2)))), some (.int (nI (t + 1))), none, none, none, none, none]) (by simp [lsub]) (leb rfl) ?_
                refine iht (by omega) _ ((hsn.sI rfl).sI rfl) (fun i hi => ?_)
                by_cases e1 : i = okc B k t
                · rw [e1, gI_same, clx_q hrl (by omega) (by omega)]
                · rw [gI_nk e1]
                  by_cases e2 : i = pkc B k t
                  · rw [e2, gI_same, clx_p hrl (by omega) (by omega)]
                  · rw [gI_nk e2, clx_o hrl e2 e1]; exact hcx i hi
          · refine w_iload hX dX7_layClashes_102 rfl ?_
            refine w_abs hX dX7_layClashes_104 ml_RX7_117 (leb rfl) (leb rfl) ?_
            refine w_iload hX dX7_layClashes_107 rfl ?_
            refine wc_icmp_gt (tgt := 116) hX dX7_layClashes_109 (by decide) (fun c7 => ?_) (fun c7 => ?_)
            · refine w_iconst hX dX7_layClashes_116 kI_0 ?_
              refine w_top (y := bI (rlB B k (mcB B (pkc B k t)) (mcB B (okc B k t)))) (bI_2 (by unfold rlB; rw [if_pos (by assumption)]; exact decide_eq_false (fun h9 => absurd ((rl_abs (by omega) (by omega) (by omega)).mpr h9) (Int32.not_le.mpr c7)))) ?_
              refine w_goto (tgt := 132) hX dX7_layClashes_117 (by decide) ?_
              refine w_istore (l2 := [some (.ref w), some (.ref b), some (.int (nI k)), some (.int (nI (k * 4))), some (.int (nI (2 * B (402 + 4 * k + 1)))), some (.int (nI (2 * B (402 + 4 * k + 2)))), some (.int (nI t)), some (.int (nI (pkc B k t))), some (.int (nI (okc B k t))), some (.int ((nI (mcB B (pkc B k t))) - (nI (mcB B (okc B k t))))), some (.int (nI (B (402 + 4 * k + 3)))), some (.int (bI (rlB B k (mcB B (pkc B k t)) (mcB B (okc B k t)))))]) hX dX7_layClashes_132 (ltb rfl) rfl rfl ?_
              refine w_iload hX dX7_layClashes_134 rfl ?_
              refine wb_ne (tgt := 167) hX dX7_layClashes_136 (by decide) (fun hrl => ?_) (fun hrl => ?_)
              · refine w_iincN (w := 1) (l2 := [some (.ref w), some (.ref b), some (.int (nI k)), some (.int (nI (k * 4))), some (.int (nI (2 * B (402 + 4 * k + 1)))), some (.int (nI (2 * B (402 + 4 * k + 2)))), some (.int (nI (t + 1))), some (.int (nI (pkc B k t))), some (.int (nI (okc B k t))), some (.int ((nI (mcB B (pkc B k t))) - (nI (mcB B (okc B k t))))), some (.int (nI (B (402 + 4 * k + 3)))), some (.int (bI (rlB B k (mcB B (pkc B k t)) (mcB B (okc B k t)))))]) hX dX7_layClashes_167 rfl kI_1 rfl rfl ?_
                refine w_goto (tgt := 41) hX dX7_layClashes_170 (by decide) ?_
                refine w_sub (l2 := [some (.ref w), some (.ref b), some (.int (nI k)), some (.int (nI (k * 4))), some (.int (nI (2 * B (402 + 4 * k + 1)))), some (.int (nI (2 * B (402 + 4 * k + 2)))), some (.int (nI (t + 1))), none, none, none, none, none]) (by simp [lsub]) (leb rfl) ?_
                exact iht (by omega) ν1 hsn (fun i hi => by rw [clx_y hrl]; exact hcx i hi)
              · refine w_aload_n (i := 0) hX dX7_layClashes_139 rfl rfl ?_
                refine w_getR (q := w + 2) hX dX7_layClashes_140 fo_RX7_17 rfl (wd_s hw1) (wd_r1 hw1) ?_
                refine w_iload hX dX7_layClashes_143 rfl ?_
                refine w_dup2 hX dX7_layClashes_145 rfl rfl ?_
                refine w_ialdN hX dX7_layClashes_146 (wd_a2 hw1) (by omega) (by omega) ?_
                refine w_top (y := nI (bw (clx B k t (pkc B k t)) 24)) (hcx _ (by omega)) ?_
                refine w_iconst hX dX7_layClashes_147 kI_1 ?_
                refine w_iload hX dX7_layClashes_148 rfl ?_
                refine w_ishl hX dX7_layClashes_150 ?_
                refine w_top (y := nI (2 ^ okc B k t)) (shl_nI (by omega)) ?_
                refine w_ior hX dX7_layClashes_151 ?_
                refine w_top (y := nI (bw (clx B k t (pkc B k t)) 24 ||| 2 ^ okc B k t)) (fa_or _ _) ?_
                refine w_iastN hX dX7_layClashes_152 (wd_a2 hw1) (by omega) (by omega) ?_
                refine w_aload_n (i := 0) hX dX7_layClashes_153 rfl rfl ?_
                refine w_getR (q := w + 2) hX dX7_layClashes_154 fo_RX7_17 rfl (wd_s hw1) (wd_r1 hw1) ?_
                refine w_iload hX dX7_layClashes_157 rfl ?_
                refine w_dup2 hX dX7_layClashes_159 rfl rfl ?_
                refine w_ialdN hX dX7_layClashes_160 (wd_a2 hw1) (by omega) (by omega) ?_
                refine w_top (y := nI (bw (clx B k t (okc B k t)) 24)) (by rw [gI_nk (by omega)]; exact hcx _ (by omega)) ?_
                refine w_iconst hX dX7_layClashes_161 kI_1 ?_
                refine w_iload hX dX7_layClashes_162 rfl ?_
                refine w_ishl hX dX7_layClashes_164 ?_
                refine w_top (y := nI (2 ^ pkc B k t)) (shl_nI (by omega)) ?_
                refine w_ior hX dX7_layClashes_165 ?_
                refine w_top (y := nI (bw (clx B k t (okc B k t)) 24 ||| 2 ^ pkc B k t)) (fa_or _ _) ?_
                refine w_iastN hX dX7_layClashes_166 (wd_a2 hw1) (by omega) (by omega) ?_
                refine w_iincN (w := 1) (l2 := [some (.ref w), some (.ref b), some (.int (nI k)), some (.int (nI (k * 4))), some (.int (nI (2 * B (402 + 4 * k + 1)))), some (.int (nI (2 * B (402 + 4 * k + 2)))), some (.int (nI (t + 1))), some (.int (nI (pkc B k t))), some (.int (nI (okc B k t))), some (.int ((nI (mcB B (pkc B k t))) - (nI (mcB B (okc B k t))))), some (.int (nI (B (402 + 4 * k + 3)))), some (.int (bI (rlB B k (mcB B (pkc B k t)) (mcB B (okc B k t)))))]) hX dX7_layClashes_167 rfl kI_1 rfl rfl ?_
                refine w_goto (tgt := 41) hX dX7_layClashes_170 (by decide) ?_
                refine w_sub (l2 := [some (.ref w), some (.ref b), some (.int (nI k)), some (.int (nI (k * 4))), some (.int (nI (2 * B (402 + 4 * k + 1)))), some (.int (nI (2 * B (402 + 4 * k + 2)))), some (.int (nI (t + 1))), none, none, none, none, none]) (by simp [lsub]) (leb rfl) ?_
                refine iht (by omega) _ ((hsn.sI rfl).sI rfl) (fun i hi => ?_)
                by_cases e1 : i = okc B k t
                · rw [e1, gI_same, clx_q hrl (by omega) (by omega)]
                · rw [gI_nk e1]
                  by_cases e2 : i = pkc B k t
                  · rw [e2, gI_same, clx_p hrl (by omega) (by omega)]
                  · rw [gI_nk e2, clx_o hrl e2 e1]; exact hcx i hi
            · refine w_iconst hX dX7_layClashes_112 kI_1 ?_
              refine w_top (y := bI (rlB B k (mcB B (pkc B k t)) (mcB B (okc B k t)))) (bI_1 (by unfold rlB; rw [if_pos (by assumption)]; exact decide_eq_true ((rl_abs (by omega) (by omega) (by omega)).mp c7))) ?_
              refine w_goto (tgt := 132) hX dX7_layClashes_113 (by decide) ?_
              refine w_istore (l2 := [some (.ref w), some (.ref b), some (.int (nI k)), some (.int (nI (k * 4))), some (.int (nI (2 * B (402 + 4 * k + 1)))), some (.int (nI (2 * B (402 + 4 * k + 2)))), some (.int (nI t)), some (.int (nI (pkc B k t))), some (.int (nI (okc B k t))), some (.int ((nI (mcB B (pkc B k t))) - (nI (mcB B (okc B k t))))), some (.int (nI (B (402 + 4 * k + 3)))), some (.int (bI (rlB B k (mcB B (pkc B k t)) (mcB B (okc B k t)))))]) hX dX7_layClashes_132 (ltb rfl) rfl rfl ?_
              refine w_iload hX dX7_layClashes_134 rfl ?_
              refine wb_ne (tgt := 167) hX dX7_layClashes_136 (by decide) (fun hrl => ?_) (fun hrl => ?_)
              · refine w_iincN (w := 1) (l2 := [some (.ref w), some (.ref b), some (.int (nI k)), some (.int (nI (k * 4))), some (.int (nI (2 * B (402 + 4 * k + 1)))), some (.int (nI (2 * B (402 + 4 * k + 2)))), some (.int (nI (t + 1))), some (.int (nI (pkc B k t))), some (.int (nI (okc B k t))), some (.int ((nI (mcB B (pkc B k t))) - (nI (mcB B (okc B k t))))), some (.int (nI (B (402 + 4 * k + 3)))), some (.int (bI (rlB B k (mcB B (pkc B k t)) (mcB B (okc B k t)))))]) hX dX7_layClashes_167 rfl kI_1 rfl rfl ?_
                refine w_goto (tgt := 41) hX dX7_layClashes_170 (by decide) ?_
                refine w_sub (l2 := [some (.ref w), some (.ref b), some (.int (nI k)), some (.int (nI (k * 4))), some (.int (nI (2 * B (402 + 4 * k + 1)))), some (.int (nI (2 * B (402 + 4 * k + 2)))), some (.int (nI (t + 1))), none, none, none, none, none]) (by simp [lsub]) (leb rfl) ?_
                exact iht (by omega) ν1 hsn (fun i hi => by rw [clx_y hrl]; exact hcx i hi)
              · refine w_aload_n (i := 0) hX dX7_layClashes_139 rfl rfl ?_
                refine w_getR (q := w + 2) hX dX7_layClashes_140 fo_RX7_17 rfl (wd_s hw1) (wd_r1 hw1) ?_
                refine w_iload hX dX7_layClashes_143 rfl ?_
                refine w_dup2 hX dX7_layClashes_145 rfl rfl ?_
                refine w_ialdN hX dX7_layClashes_146 (wd_a2 hw1) (by omega) (by omega) ?_
                refine w_top (y := nI (bw (clx B k t (pkc B k t)) 24)) (hcx _ (by omega)) ?_
                refine w_iconst hX dX7_layClashes_147 kI_1 ?_
                refine w_iload hX dX7_layClashes_148 rfl ?_
                refine w_ishl hX dX7_layClashes_150 ?_
                refine w_top (y := nI (2 ^ okc B k t)) (shl_nI (by omega)) ?_
                refine w_ior hX dX7_layClashes_151 ?_
                refine w_top (y := nI (bw (clx B k t (pkc B k t)) 24 ||| 2 ^ okc B k t)) (fa_or _ _) ?_
                refine w_iastN hX dX7_layClashes_152 (wd_a2 hw1) (by omega) (by omega) ?_
                refine w_aload_n (i := 0) hX dX7_layClashes_153 rfl rfl ?_
                refine w_getR (q := w + 2) hX dX7_layClashes_154 fo_RX7_17 rfl (wd_s hw1) (wd_r1 hw1) ?_
                refine w_iload hX dX7_layClashes_157 rfl ?_
                refine w_dup2 hX dX7_layClashes_159 rfl rfl ?_
                refine w_ialdN hX dX7_layClashes_160 (wd_a2 hw1) (by omega) (by omega) ?_
                refine w_top (y := nI (bw (clx B k t (okc B k t)) 24)) (by rw [gI_nk (by omega)]; exact hcx _ (by omega)) ?_
                refine w_iconst hX dX7_layClashes_161 kI_1 ?_
                refine w_iload hX dX7_layClashes_162 rfl ?_
                refine w_ishl hX dX7_layClashes_164 ?_
                refine w_top (y := nI (2 ^ pkc B k t)) (shl_nI (by omega)) ?_
                refine w_ior hX dX7_layClashes_165 ?_
                refine w_top (y := nI (bw (clx B k t (okc B k t)) 24 ||| 2 ^ pkc B k t)) (fa_or _ _) ?_
                refine w_iastN hX dX7_layClashes_166 (wd_a2 hw1) (by omega) (by omega) ?_
                refine w_iincN (w := 1) (l2 := [some (.ref w), some (.ref b), some (.int (nI k)), some (.int (nI (k * 4))), some (.int (nI (2 * B (402 + 4 * k + 1)))), some (.int (nI (2 * B (402 + 4 * k + 2)))), some (.int (nI (t + 1))), some (.int (nI (pkc B k t))), some (.int (nI (okc B k t))), some (.int ((nI (mcB B (pkc B k t))) - (nI (mcB B (okc B k t))))), some (.int (nI (B (402 + 4 * k + 3)))), some (.int (bI (rlB B k (mcB B (pkc B k t)) (mcB B (okc B k t)))))]) hX dX7_layClashes_167 rfl kI_1 rfl rfl ?_
                refine w_goto (tgt := 41) hX dX7_layClashes_170 (by decide) ?_
                refine w_sub (l2 := [some (.ref w), some (.ref b), some (.int (nI k)), some (.int (nI (k * 4))), some (.int (nI (2 * B (402 + 4 * k + 1)))), some (.int (nI (2 * B (402 + 4 * k + 2)))), some (.int (nI (t + 1))), none, none, none, none, none]) (by simp [lsub]) (leb rfl) ?_
                refine iht (by omega) _ ((hsn.sI rfl).sI rfl) (fun i hi => ?_)
                by_cases e1 : i = okc B k t
                · rw [e1, gI_same, clx_q hrl (by omega) (by omega)]
                · rw [gI_nk e1]
                  by_cases e2 : i = pkc B k t
                  · rw [e2, gI_same, clx_p hrl (by omega) (by omega)]
                  · rw [gI_nk e2, clx_o hrl e2 e1]; exact hcx i hi
      exact inl 0 (Nat.zero_le _) ν hsm (fun i hi => hcl i hi)
  exact loop 0 (Nat.zero_le _) μ same.rf hc0
