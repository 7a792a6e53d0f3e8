theorem bw_one {i : Nat} {c : Bool} (hi : i < 24) : bw (fun j => decide (i = j) && c) 24 = if c = true then 2 ^ i else 0 := by
  apply Nat.eq_of_testBit_eq
  intro j
  rw [bw_tb]
  cases c with
  | false => simp
  | true =>
    simp only [Bool.and_true, if_true]
    rw [Nat.testBit_two_pow]
    by_cases e : i = j
    · subst e; simp [hi]
    · simp [e]
theorem bw_set {f : Nat → Bool} {o : Nat} (ho : o < 24) : bw f 24 ||| 2 ^ o = bw (fun j => f j || decide (j = o)) 24 := by
  apply Nat.eq_of_testBit_eq
  intro j
  rw [Nat.testBit_or, bw_tb, bw_tb, Nat.testBit_two_pow]
  by_cases e : o = j
  · subst e; simp [ho]
  · have e2 : ¬ j = o := fun h => e h.symm
    simp [e, e2]
theorem mc0 {B : Nat → Nat} {k : Nat} : mcB B (2 * k) = fst B (ptw B k) (ptm B k) := by unfold mcB; rw [if_pos (by omega), show 2 * k / 2 = k by omega]
theorem mc1 {B : Nat → Nat} {k : Nat} : mcB B (2 * k + 1) = lst B (ptw B k) (ptm B k) := by unfold mcB; rw [if_neg (by omega), show (2 * k + 1) / 2 = k by omega]
theorem my0 {B : Nat → Nat} {k : Nat} : myB B (2 * k) = decide (pwh B k ≠ 2) := by unfold myB; rw [if_pos (by omega), show 2 * k / 2 = k by omega]
theorem my1 {B : Nat → Nat} {k : Nat} : myB B (2 * k + 1) = (decide (pwh B k ≠ 1) && tw B (ptw B k) (ptm B k)) := by unfold myB; rw [if_neg (by omega), show (2 * k + 1) / 2 = k by omega]
theorem cl0 {B : Nat → Nat} {i : Nat} (hi : i < 24) : bw (claB B 0 i) 24 = if (!myB B i) = true then 2 ^ i else 0 := bw_one hi
set_option maxHeartbeats 1000000 in
theorem s_w_layM (Γ : Gm) (μ : Mem) (w b : Nat) (B : Nat → Nat) (hw : isWd μ w) (hR : Rb μ b B) (hW : WB B) (hwb : w + 5 < b) (hP : gI μ w 6 = nI (B 352))  : SpV Γ MX7_layMoments 2 0 0 [.ref w, .ref b] μ (fun μ2 => (∀ i, i < 2 * B 352 → gI μ2 (w + 1) i = nI (mcB B i) ∧ gI μ2 (w + 2) i = nI (bw (claB B 0 i) 24)) ∧ same (fun o _ => o = w + 1 ∨ o = w + 2) μ μ2) := by
  refine SpV.of okX7_layMoments rfl [some (.ref w), some (.ref b), none, none, none, none, none, none] ⟨rfl, rfl, trivial⟩ (leb rfl) (leb rfl) (fun X hX hE hnm => ?_)
  refine w_iconst hX dX7_layMoments_0 kI_0 ?_
  refine w_istore_n (i := 2) (l2 := [some (.ref w), some (.ref b), some (.int (nI 0)), none, none, none, none, none]) hX dX7_layMoments_1 rfl (ltb rfl) rfl rfl ?_
  have loop : ∀ k, k ≤ B 352 → ∀ ν : Mem, (same (fun o _ => o = w + 1 ∨ o = w + 2) μ ν) → (∀ i, i < 2 * k → gI ν (w + 1) i = nI (mcB B i) ∧ gI ν (w + 2) i = nI (bw (claB B 0 i) 24)) → WP Γ X 0 0 2 [some (.ref w), some (.ref b), some (.int (nI k)), none, none, none, none, none] [] ν := by
    refine loopU (B 352) ?_
    intro k hk ih ν hsm hmo
    have hwk := hsm.isWd hw
    have hRk := Rb_same hsm (fun o k h => Or.inl (by omega)) hR
    have hB0 := hW.1.1
    have hP12 := hW.2.2.2.2.1.1
    have hpp : k < B 352 → ptw B k < B 0 ∧ B (353 + 4 * k + 1) ≤ 3649 ∧ B (353 + 4 * k + 2) ≤ 1439 ∧ pwh B k ≤ 2 := fun h => hW.2.2.2.2.1.2 k h
    have hpt : ptm B k = B (353 + 4 * k + 1) * 1440 + B (353 + 4 * k + 2) := rfl
    refine w_iload_n (i := 2) hX dX7_layMoments_2 rfl rfl ?_
    refine w_aload_n (i := 0) hX dX7_layMoments_3 rfl rfl ?_
    refine w_getI hX dX7_layMoments_4 fo_RX7_38 rfl (wd_s hwk) ?_
    refine w_top (y := nI (B 352)) (by rw [(hsm.2.2 _ _ (fun h => by omega)).1]; exact hP) ?_
    refine wn_icmp_ge (tgt := 157) hX dX7_layMoments_7 (by decide) (by omega) (by omega) (fun c1 => ?_) (fun c1 => ?_)
    · exact w_vret hX hE dX7_layMoments_157 (Or.inl rfl) ⟨fun i hi => hmo i (by omega), hsm⟩
    · refine w_iload_n (i := 2) hX dX7_layMoments_10 rfl rfl ?_
      refine w_iconst hX dX7_layMoments_11 kI_4 ?_
      refine w_imulN hX dX7_layMoments_12 ?_
      refine w_istore_n (i := 3) (l2 := [some (.ref w), some (.ref b), some (.int (nI k)), some (.int (nI (k * 4))), none, none, none, none]) hX dX7_layMoments_13 rfl (ltb rfl) rfl rfl ?_
      refine w_aload_n (i := 1) hX dX7_layMoments_14 rfl rfl ?_
      refine w_getR (q := b + 1) hX dX7_layMoments_15 fo_RX7_94 rfl (bk_s hRk.1) (bk_r0 hRk.1) ?_
      refine w_aload_n (i := 1) hX dX7_layMoments_18 rfl rfl ?_
      refine w_getR (q := b + 5) hX dX7_layMoments_19 fo_RX7_98 rfl (bk_s hRk.1) (bk_r4 hRk.1) ?_
      refine w_iload_n (i := 3) hX dX7_layMoments_22 rfl rfl ?_
      refine w_ialdN hX dX7_layMoments_23 (bk_a5 hRk.1) (by omega) (by omega) ?_
      refine w_top (y := nI (ptw B k)) (by rw [hRk.2.2.2.2.2.2.2.2.2.2.1 _ (by omega)]; unfold ptw; congr 2; omega) ?_
      refine w_aaldN (q := b + 10 + 2 * (ptw B k)) hX dX7_layMoments_24 (bk_a1 hRk.1) (by omega) (by omega) (bk_c hRk.1 (by omega)).1 ?_
      refine w_astore (l2 := [some (.ref w), some (.ref b), some (.int (nI k)), some (.int (nI (k * 4))), some (.ref (b + 10 + 2 * (ptw B k))), none, none, none]) hX dX7_layMoments_25 (ltb rfl) rfl rfl ?_
      refine w_aload_n (i := 1) hX dX7_layMoments_27 rfl rfl ?_
      refine w_getR (q := b + 5) hX dX7_layMoments_28 fo_RX7_98 rfl (bk_s hRk.1) (bk_r4 hRk.1) ?_
      refine w_iload_n (i := 3) hX dX7_layMoments_31 rfl rfl ?_
      refine w_iconst hX dX7_layMoments_32 kI_1 ?_
      refine w_iaddN hX dX7_layMoments_33 ?_
      refine w_ialdN hX dX7_layMoments_34 (bk_a5 hRk.1) (by omega) (by omega) ?_
      refine w_top (y := nI (B (353 + 4 * k + 1))) (by rw [hRk.2.2.2.2.2.2.2.2.2.2.1 _ (by omega)]; congr 2; omega) ?_
      refine w_sipush hX dX7_layMoments_35 kS_1440 ?_
      refine w_imulN hX dX7_layMoments_38 ?_
      refine w_aload_n (i := 1) hX dX7_layMoments_39 rfl rfl ?_
      refine w_getR (q := b + 5) hX dX7_layMoments_40 fo_RX7_98 rfl (bk_s hRk.1) (bk_r4 hRk.1) ?_
      refine w_iload_n (i := 3) hX dX7_layMoments_43 rfl rfl ?_
      refine w_iconst hX dX7_layMoments_44 kI_2 ?_
      refine w_iaddN hX dX7_layMoments_45 ?_
      refine w_ialdN hX dX7_layMoments_46 (bk_a5 hRk.1) (by omega) (by omega) ?_
      refine w_top (y := nI (B (353 + 4 * k + 2))) (by rw [hRk.2.2.2.2.2.2.2.2.2.2.1 _ (by omega)]; congr 2; omega) ?_
      refine w_iaddN hX dX7_layMoments_47 ?_
      refine w_top (y := nI (ptm B k)) rfl ?_
      refine w_istore (l2 := [some (.ref w), some (.ref b), some (.int (nI k)), some (.int (nI (k * 4))), some (.ref (b + 10 + 2 * (ptw B k))), some (.int (nI (ptm B k))), none, none]) hX dX7_layMoments_48 (ltb rfl) rfl rfl ?_
      refine w_aload_n (i := 1) hX dX7_layMoments_50 rfl rfl ?_
      refine w_getR (q := b + 5) hX dX7_layMoments_51 fo_RX7_98 rfl (bk_s hRk.1) (bk_r4 hRk.1) ?_
      refine w_iload_n (i := 3) hX dX7_layMoments_54 rfl rfl ?_
      refine w_iconst hX dX7_layMoments_55 kI_3 ?_
      refine w_iaddN hX dX7_layMoments_56 ?_
      refine w_ialdN hX dX7_layMoments_57 (bk_a5 hRk.1) (by omega) (by omega) ?_
      refine w_top (y := nI (pwh B k)) (by rw [hRk.2.2.2.2.2.2.2.2.2.2.1 _ (by omega)]; unfold pwh; congr 2; omega) ?_
      refine w_istore (l2 := [some (.ref w), some (.ref b), some (.int (nI k)), some (.int (nI (k * 4))), some (.ref (b + 10 + 2 * (ptw B k))), some (.int (nI (ptm B k))), some (.int (nI (pwh B k))), none]) hX dX7_layMoments_58 (ltb rfl) rfl rfl ?_
      refine w_iconst hX dX7_layMoments_60 kI_2 ?_
      refine w_iload_n (i := 2) hX dX7_layMoments_61 rfl rfl ?_
      refine w_imulN hX dX7_layMoments_62 ?_
      refine w_istore (l2 := [some (.ref w), some (.ref b), some (.int (nI k)), some (.int (nI (k * 4))), some (.ref (b + 10 + 2 * (ptw B k))), some (.int (nI (ptm B k))), some (.int (nI (pwh B k))), some (.int (nI (2 * k)))]) hX dX7_layMoments_63 (ltb rfl) rfl rfl ?_
      refine w_aload_n (i := 0) hX dX7_layMoments_65 rfl rfl ?_
      refine w_getR (q := w + 1) hX dX7_layMoments_66 fo_RX7_13 rfl (wd_s hwk) (wd_r0 hwk) ?_
      refine w_iload hX dX7_layMoments_69 rfl ?_
      refine w_aload hX dX7_layMoments_71 rfl ?_
      refine w_iload hX dX7_layMoments_73 rfl ?_
      refine w_callVI (As := [.int (nI (ptm B k))]) (rest := [.int (nI (2 * k)), .ref (w + 1)]) (ci := 1) (o := b + 10 + 2 * (ptw B k)) (k2 := 0) (n2 := 0) hX dX7_layMoments_75 (s_b_firstOf Γ ν b B hRk hW.1 (ptw B k) (by omega) (ptm B k) (by omega)) okX1_firstOf (ltb rfl) (bk_c hRk.1 (by omega)).2.1 ml_RX7_100 imX1_firstOf seX1_firstOf rfl (leb rfl) (leb rfl) rfl rfl (fun r9 μ9 hq9 => ?_)
      obtain ⟨hr9, hm9⟩ := hq9; rw [hr9, hm9]; clear hr9 hm9 r9 μ9
      refine w_iastN hX dX7_layMoments_78 (wd_a1 hwk) (by omega) (by omega) ?_
      refine w_aload_n (i := 0) hX dX7_layMoments_79 rfl rfl ?_
      refine w_getR (q := w + 1) hX dX7_layMoments_80 fo_RX7_13 rfl (wd_s hwk) (wd_r0 hwk) ?_
      refine w_iload hX dX7_layMoments_83 rfl ?_
      refine w_iconst hX dX7_layMoments_85 kI_1 ?_
      refine w_iaddN hX dX7_layMoments_86 ?_
      refine w_aload hX dX7_layMoments_87 rfl ?_
      refine w_iload hX dX7_layMoments_89 rfl ?_
      refine w_callVI (As := [.int (nI (ptm B k))]) (rest := [.int (nI (2 * k + 1)), .ref (w + 1)]) (ci := 1) (o := b + 10 + 2 * (ptw B k)) (k2 := 0) (n2 := 0) hX dX7_layMoments_91 (s_b_lastOf Γ (sI ν (w + 1) (2 * k) (nI (fst B (ptw B k) (ptm B k)))) b B (Rb_same (same.rf.sI rfl : same (fun o _ => o = w + 1) ν (sI ν (w + 1) (2 * k) (nI (fst B (ptw B k) (ptm B k))))) (fun o k h => Or.inl (by omega)) hRk) hW.1 (ptw B k) (by omega) (ptm B k) (by omega)) okX1_lastOf (ltb rfl) (bk_c hRk.1 (by omega)).2.1 ml_RX7_105 imX1_lastOf seX1_lastOf rfl (leb rfl) (leb rfl) rfl rfl (fun r9 μ9 hq9 => ?_)
      obtain ⟨hr9, hm9⟩ := hq9; rw [hr9, hm9]; clear hr9 hm9 r9 μ9
      refine w_iastN hX dX7_layMoments_94 (wd_a1 hwk) (by omega) (by omega) ?_
      refine w_aload_n (i := 0) hX dX7_layMoments_95 rfl rfl ?_
      refine w_getR (q := w + 2) hX dX7_layMoments_96 fo_RX7_17 rfl (wd_s hwk) (wd_r1 hwk) ?_
      refine w_iload hX dX7_layMoments_99 rfl ?_
      refine w_iload hX dX7_layMoments_101 rfl ?_
      refine w_iconst hX dX7_layMoments_103 kI_2 ?_
      refine wn_icmp_ne (tgt := 114) hX dX7_layMoments_104 (by decide) (by omega) (by omega) (fun c2 => ?_) (fun c2 => ?_)
      · refine w_iconst hX dX7_layMoments_114 kI_0 ?_
        refine w_iastN hX dX7_layMoments_115 (wd_a2 hwk) (by omega) (by omega) ?_
        refine w_aload_n (i := 0) hX dX7_layMoments_116 rfl rfl ?_
        refine w_getR (q := w + 2) hX dX7_layMoments_117 fo_RX7_17 rfl (wd_s hwk) (wd_r1 hwk) ?_
        refine w_iload hX dX7_layMoments_120 rfl ?_
        refine w_iconst hX dX7_layMoments_122 kI_1 ?_
        refine w_iaddN hX dX7_layMoments_123 ?_
        refine w_iload hX dX7_layMoments_124 rfl ?_
        refine w_iconst hX dX7_layMoments_126 kI_1 ?_
        refine wn_icmp_eq (tgt := 140) hX dX7_layMoments_127 (by decide) (by omega) (by omega) (fun c3 => ?_) (fun c3 => ?_)
        · refine w_iconst hX dX7_layMoments_140 kI_1 ?_
          refine w_iload hX dX7_layMoments_141 rfl ?_
          refine w_iconst hX dX7_layMoments_143 kI_1 ?_
          refine w_iaddN hX dX7_layMoments_144 ?_
          refine w_ishl hX dX7_layMoments_145 ?_
          refine w_top (y := nI (2 ^ (2 * k + 1))) (shl_nI (by omega)) ?_
          refine w_goto (tgt := 150) hX dX7_layMoments_146 (by decide) ?_
          refine w_iastN hX dX7_layMoments_150 (wd_a2 hwk) (by omega) (by omega) ?_
          refine w_iincN (w := 1) (l2 := [some (.ref w), some (.ref b), some (.int (nI (k + 1))), some (.int (nI (k * 4))), some (.ref (b + 10 + 2 * (ptw B k))), some (.int (nI (ptm B k))), some (.int (nI (pwh B k))), some (.int (nI (2 * k)))]) hX dX7_layMoments_151 rfl kI_1 rfl rfl ?_
          refine w_goto (tgt := 2) hX dX7_layMoments_154 (by decide) ?_
          refine w_sub (l2 := [some (.ref w), some (.ref b), some (.int (nI (k + 1))), none, none, none, none, none]) (by simp [lsub]) (leb rfl) ?_
          refine ih (by omega) _ ((((hsm.sI (Or.inl rfl)).sI (Or.inl rfl)).sI (Or.inr rfl)).sI (Or.inr rfl)) (fun i hi => ?_)
          rcases (show i < 2 * k ∨ i = 2 * k ∨ i = 2 * k + 1 by omega) with e | e | e
          · rw [gI_no (by omega), gI_no (by omega), gI_nk (by omega), gI_nk (by omega), gI_nk (by omega), gI_nk (by omega), gI_no (by omega), gI_no (by omega)]; exact hmo i e
          · subst e; rw [gI_no (by omega), gI_no (by omega), gI_nk (by omega), gI_same, gI_nk (by omega), gI_same, mc0, cl0 (by omega), my0]; refine ⟨rfl, ?_⟩; congr 1; symm; simp only [ne_eq, decide_not, Bool.not_not, decide_eq_true_eq]; first | (rw [if_pos (by omega)]) | (rw [if_neg (by omega)]) | (rw [if_pos (by simp [htw])]) | (rw [if_neg (by simp [htw]; omega)])
          · subst e; rw [gI_no (by omega), gI_no (by omega), gI_same, gI_same, mc1, cl0 (by omega), my1]; refine ⟨rfl, ?_⟩; congr 1; symm; simp only [ne_eq, decide_not, Bool.not_and, Bool.not_not, Bool.or_eq_true, decide_eq_true_eq, Bool.not_eq_true']; first | (rw [if_pos (by first | exact Or.inl (by omega) | exact Or.inr htw)]) | (rw [if_neg (by rw [htw]; simp; omega)])
        · refine w_aload hX dX7_layMoments_130 rfl ?_
          refine w_iload hX dX7_layMoments_132 rfl ?_
          refine w_callVI (As := [.int (nI (ptm B k))]) (rest := [.int (nI (2 * k + 1)), .ref (w + 2)]) (ci := 1) (o := b + 10 + 2 * (ptw B k)) (k2 := 0) (n2 := 0) hX dX7_layMoments_134 (s_b_hasTwice Γ (sI (sI (sI ν (w + 1) (2 * k) (nI (fst B (ptw B k) (ptm B k)))) (w + 1) (2 * k + 1) (nI (lst B (ptw B k) (ptm B k)))) (w + 2) (2 * k) (nI 0)) b B (Rb_same (same.rf.sI rfl : same (fun o _ => o = w + 2) (sI (sI ν (w + 1) (2 * k) (nI (fst B (ptw B k) (ptm B k)))) (w + 1) (2 * k + 1) (nI (lst B (ptw B k) (ptm B k)))) (sI (sI (sI ν (w + 1) (2 * k) (nI (fst B (ptw B k) (ptm B k)))) (w + 1) (2 * k + 1) (nI (lst B (ptw B k) (ptm B k)))) (w + 2) (2 * k) (nI 0))) (fun o k h => Or.inl (by omega)) (Rb_same (same.rf.sI rfl : same (fun o _ => o = w + 1) (sI ν (w + 1) (2 * k) (nI (fst B (ptw B k) (ptm B k)))) (sI (sI ν (w + 1) (2 * k) (nI (fst B (ptw B k) (ptm B k)))) (w + 1) (2 * k + 1) (nI (lst B (ptw B k) (ptm B k))))) (fun o k h => Or.inl (by omega)) (Rb_same (same.rf.sI rfl : same (fun o _ => o = w + 1) ν (sI ν (w + 1) (2 * k) (nI (fst B (ptw B k) (ptm B k))))) (fun o k h => Or.inl (by omega)) hRk))) hW.1 (ptw B k) (by omega) (ptm B k) (by omega)) okX1_hasTwice (ltb rfl) (bk_c hRk.1 (by omega)).2.1 ml_RX7_108 imX1_hasTwice seX1_hasTwice rfl (leb rfl) (leb rfl) rfl rfl (fun r9 μ9 hq9 => ?_)
          obtain ⟨hr9, hm9⟩ := hq9; rw [hr9, hm9]; clear hr9 hm9 r9 μ9
          refine wb_ne (tgt := 149) hX dX7_layMoments_137 (by decide) (fun htw => ?_) (fun htw => ?_)
          · refine w_iconst hX dX7_layMoments_149 kI_0 ?_
            refine w_iastN hX dX7_layMoments_150 (wd_a2 hwk) (by omega) (by omega) ?_
            refine w_iincN (w := 1) (l2 := [some (.ref w), some (.ref b), some (.int (nI (k + 1))), some (.int (nI (k * 4))), some (.ref (b + 10 + 2 * (ptw B k))), some (.int (nI (ptm B k))), some (.int (nI (pwh B k))), some (.int (nI (2 * k)))]) hX dX7_layMoments_151 rfl kI_1 rfl rfl ?_
            refine w_goto (tgt := 2) hX dX7_layMoments_154 (by decide) ?_
            refine w_sub (l2 := [some (.ref w), some (.ref b), some (.int (nI (k + 1))), none, none, none, none, none]) (by simp [lsub]) (leb rfl) ?_
            refine ih (by omega) _ ((((hsm.sI (Or.inl rfl)).sI (Or.inl rfl)).sI (Or.inr rfl)).sI (Or.inr rfl)) (fun i hi => ?_)
            rcases (show i < 2 * k ∨ i = 2 * k ∨ i = 2 * k + 1 by omega) with e | e | e
            · rw [gI_no (by omega), gI_no (by omega), gI_nk (by omega), gI_nk (by omega), gI_nk (by omega), gI_nk (by omega), gI_no (by omega), gI_no (by omega)]; exact hmo i e
            · subst e; rw [gI_no (by omega), gI_no (by omega), gI_nk (by omega), gI_same, gI_nk (by omega), gI_same, mc0, cl0 (by omega), my0]; refine ⟨rfl, ?_⟩; congr 1; symm; simp only [ne_eq, decide_not, Bool.not_not, decide_eq_true_eq]; first | (rw [if_pos (by omega)]) | (rw [if_neg (by omega)]) | (rw [if_pos (by simp [htw])]) | (rw [if_neg (by simp [htw]; omega)])
            · subst e; rw [gI_no (by omega), gI_no (by omega), gI_same, gI_same, mc1, cl0 (by omega), my1]; refine ⟨rfl, ?_⟩; congr 1; symm; simp only [ne_eq, decide_not, Bool.not_and, Bool.not_not, Bool.or_eq_true, decide_eq_true_eq, Bool.not_eq_true']; first | (rw [if_pos (by first | exact Or.inl (by omega) | exact Or.inr htw)]) | (rw [if_neg (by rw [htw]; simp; omega)])
          · refine w_iconst hX dX7_layMoments_140 kI_1 ?_
            refine w_iload hX dX7_layMoments_141 rfl ?_
            refine w_iconst hX dX7_layMoments_143 kI_1 ?_
            refine w_iaddN hX dX7_layMoments_144 ?_
            refine w_ishl hX dX7_layMoments_145 ?_
            refine w_top (y := nI (2 ^ (2 * k + 1))) (shl_nI (by omega)) ?_
            refine w_goto (tgt := 150) hX dX7_layMoments_146 (by decide) ?_
            refine w_iastN hX dX7_layMoments_150 (wd_a2 hwk) (by omega) (by omega) ?_
            refine w_iincN (w := 1) (l2 := [some (.ref w), some (.ref b), some (.int (nI (k + 1))), some (.int (nI (k * 4))), some (.ref (b + 10 + 2 * (ptw B k))), some (.int (nI (ptm B k))), some (.int (nI (pwh B k))), some (.int (nI (2 * k)))]) hX dX7_layMoments_151 rfl kI_1 rfl rfl ?_
            refine w_goto (tgt := 2) hX dX7_layMoments_154 (by decide) ?_
            refine w_sub (l2 := [some (.ref w), some (.ref b), some (.int (nI (k + 1))), none, none, none, none, none]) (by simp [lsub]) (leb rfl) ?_
            refine ih (by omega) _ ((((hsm.sI (Or.inl rfl)).sI (Or.inl rfl)).sI (Or.inr rfl)).sI (Or.inr rfl)) (fun i hi => ?_)
            rcases (show i < 2 * k ∨ i = 2 * k ∨ i = 2 * k + 1 by omega) with e | e | e
            · rw [gI_no (by omega), gI_no (by omega), gI_nk (by omega), gI_nk (by omega), gI_nk (by omega), gI_nk (by omega), gI_no (by omega), gI_no (by omega)]; exact hmo i e
            · subst e; rw [gI_no (by omega), gI_no (by omega), gI_nk (by omega), gI_same, gI_nk (by omega), gI_same, mc0, cl0 (by omega), my0]; refine ⟨rfl, ?_⟩; congr 1; symm; simp only [ne_eq, decide_not, Bool.not_not, decide_eq_true_eq]; first | (rw [if_pos (by omega)]) | (rw [if_neg (by omega)]) | (rw [if_pos (by simp [htw])]) | (rw [if_neg (by simp [htw]; omega)])
            · subst e; rw [gI_no (by omega), gI_no (by omega), gI_same, gI_same, mc1, cl0 (by omega), my1]; refine ⟨rfl, ?_⟩; congr 1; symm; simp only [ne_eq, decide_not, Bool.not_and, Bool.not_not, Bool.or_eq_true, decide_eq_true_eq, Bool.not_eq_true']; first | (rw [if_pos (by first | exact Or.inl (by omega) | exact Or.inr htw)]) | (rw [if_neg (by rw [htw]; simp; omega)])
      · refine w_iconst hX dX7_layMoments_107 kI_1 ?_
        refine w_iload hX dX7_layMoments_108 rfl ?_
        refine w_ishl hX dX7_layMoments_110 ?_
        refine w_top (y := nI (2 ^ (2 * k))) (shl_nI (by omega)) ?_
        refine w_goto (tgt := 115) hX dX7_layMoments_111 (by decide) ?_
        refine w_iastN hX dX7_layMoments_115 (wd_a2 hwk) (by omega) (by omega) ?_
        refine w_aload_n (i := 0) hX dX7_layMoments_116 rfl rfl ?_
        refine w_getR (q := w + 2) hX dX7_layMoments_117 fo_RX7_17 rfl (wd_s hwk) (wd_r1 hwk) ?_
        refine w_iload hX dX7_layMoments_120 rfl ?_
        refine w_iconst hX dX7_layMoments_122 kI_1 ?_
        refine w_iaddN hX dX7_layMoments_123 ?_
        refine w_iload hX dX7_layMoments_124 rfl ?_
        refine w_iconst hX dX7_layMoments_126 kI_1 ?_
        refine wn_icmp_eq (tgt := 140) hX dX7_layMoments_127 (by decide) (by omega) (by omega) (fun c5 => ?_) (fun c5 => ?_)
        · refine w_iconst hX dX7_layMoments_140 kI_1 ?_
          refine w_iload hX dX7_layMoments_141 rfl ?_
          refine w_iconst hX dX7_layMoments_143 kI_1 ?_
          refine w_iaddN hX dX7_layMoments_144 ?_
          refine w_ishl hX dX7_layMoments_145 ?_
          refine w_top (y := nI (2 ^ (2 * k + 1))) (shl_nI (by omega)) ?_
          refine w_goto (tgt := 150) hX dX7_layMoments_146 (by decide) ?_
          refine w_iastN hX dX7_layMoments_150 (wd_a2 hwk) (by omega) (by omega) ?_
          refine w_iincN (w := 1) (l2 := [some (.ref w), some (.ref b), some (.int (nI (k + 1))), some (.int (nI (k * 4))), some (.ref (b + 10 + 2 * (ptw B k))), some (.int (nI (ptm B k))), some (.int (nI (pwh B k))), some (.int (nI (2 * k)))]) hX dX7_layMoments_151 rfl kI_1 rfl rfl ?_
          refine w_goto (tgt := 2) hX dX7_layMoments_154 (by decide) ?_
          refine w_sub (l2 := [some (.ref w), some (.ref b), some (.int (nI (k + 1))), none, none, none, none, none]) (by simp [lsub]) (leb rfl) ?_
          refine ih (by omega) _ ((((hsm.sI (Or.inl rfl)).sI (Or.inl rfl)).sI (Or.inr rfl)).sI (Or.inr rfl)) (fun i hi => ?_)
          rcases (show i < 2 * k ∨ i = 2 * k ∨ i = 2 * k + 1 by omega) with e | e | e
          · rw [gI_no (by omega), gI_no (by omega), gI_nk (by omega), gI_nk (by omega), gI_nk (by omega), gI_nk (by omega), gI_no (by omega), gI_no (by omega)]; exact hmo i e
          · subst e; rw [gI_no (by omega), gI_no (by omega), gI_nk (by omega), gI_same, gI_nk (by omega), gI_same, mc0, cl0 (by omega), my0]; refine ⟨rfl, ?_⟩; congr 1; symm; simp only [ne_eq, decide_not, Bool.not_not, decide_eq_true_eq]; first | (rw [if_pos (by omega)]) | (rw [if_neg (by omega)]) | (rw [if_pos (by simp [htw])]) | (rw [if_neg (by simp [htw]; omega)])
          · subst e; rw [gI_no (by omega), gI_no (by omega), gI_same, gI_same, mc1, cl0 (by omega), my1]; refine ⟨rfl, ?_⟩; congr 1; symm; simp only [ne_eq, decide_not, Bool.not_and, Bool.not_not, Bool.or_eq_true, decide_eq_true_eq, Bool.not_eq_true']; first | (rw [if_pos (by first | exact Or.inl (by omega) | exact Or.inr htw)]) | (rw [if_neg (by rw [htw]; simp; omega)])
        · refine w_aload hX dX7_layMoments_130 rfl ?_
          refine w_iload hX dX7_layMoments_132 rfl ?_
          refine w_callVI (As := [.int (nI (ptm B k))]) (rest := [.int (nI (2 * k + 1)), .ref (w + 2)]) (ci := 1) (o := b + 10 + 2 * (ptw B k)) (k2 := 0) (n2 := 0) hX dX7_layMoments_134 (s_b_hasTwice Γ (sI (sI (sI ν (w + 1) (2 * k) (nI (fst B (ptw B k) (ptm B k)))) (w + 1) (2 * k + 1) (nI (lst B (ptw B k) (ptm B k)))) (w + 2) (2 * k) (nI (2 ^ (2 * k)))) b B (Rb_same (same.rf.sI rfl : same (fun o _ => o = w + 2) (sI (sI ν (w + 1) (2 * k) (nI (fst B (ptw B k) (ptm B k)))) (w + 1) (2 * k + 1) (nI (lst B (ptw B k) (ptm B k)))) (sI (sI (sI ν (w + 1) (2 * k) (nI (fst B (ptw B k) (ptm B k)))) (w + 1) (2 * k + 1) (nI (lst B (ptw B k) (ptm B k)))) (w + 2) (2 * k) (nI (2 ^ (2 * k))))) (fun o k h => Or.inl (by omega)) (Rb_same (same.rf.sI rfl : same (fun o _ => o = w + 1) (sI ν (w + 1) (2 * k) (nI (fst B (ptw B k) (ptm B k)))) (sI (sI ν (w + 1) (2 * k) (nI (fst B (ptw B k) (ptm B k)))) (w + 1) (2 * k + 1) (nI (lst B (ptw B k) (ptm B k))))) (fun o k h => Or.inl (by omega)) (Rb_same (same.rf.sI rfl : same (fun o _ => o = w + 1) ν (sI ν (w + 1) (2 * k) (nI (fst B (ptw B k) (ptm B k))))) (fun o k h => Or.inl (by omega)) hRk))) hW.1 (ptw B k) (by omega) (ptm B k) (by omega)) okX1_hasTwice (ltb rfl) (bk_c hRk.1 (by omega)).2.1 ml_RX7_108 imX1_hasTwice seX1_hasTwice rfl (leb rfl) (leb rfl) rfl rfl (fun r9 μ9 hq9 => ?_)
          obtain ⟨hr9, hm9⟩ := hq9; rw [hr9, hm9]; clear hr9 hm9 r9 μ9
          refine wb_ne (tgt := 149) hX dX7_layMoments_137 (by decide) (fun htw => ?_) (fun htw => ?_)
          · refine w_iconst hX dX7_layMoments_149 kI_0 ?_
            refine w_iastN hX dX7_layMoments_150 (wd_a2 hwk) (by omega) (by omega) ?_
            refine w_iincN (w := 1) (l2 := [some (.ref w), some (.ref b), some (.int (nI (k + 1))), some (.int (nI (k * 4))), some (.ref (b + 10 + 2 * (ptw B k))), some (.int (nI (ptm B k))), some (.int (nI (pwh B k))), some (.int (nI (2 * k)))]) hX dX7_layMoments_151 rfl kI_1 rfl rfl ?_
            refine w_goto (tgt := 2) hX dX7_layMoments_154 (by decide) ?_
            refine w_sub (l2 := [some (.ref w), some (.ref b), some (.int (nI (k + 1))), none, none, none, none, none]) (by simp [lsub]) (leb rfl) ?_
            refine ih (by omega) _ ((((hsm.sI (Or.inl rfl)).sI (Or.inl rfl)).sI (Or.inr rfl)).sI (Or.inr rfl)) (fun i hi => ?_)
            rcases (show i < 2 * k ∨ i = 2 * k ∨ i = 2 * k + 1 by omega) with e | e | e
            · rw [gI_no (by omega), gI_no (by omega), gI_nk (by omega), gI_nk (by omega), gI_nk (by omega), gI_nk (by omega), gI_no (by omega), gI_no (by omega)]; exact hmo i e
            · subst e; rw [gI_no (by omega), gI_no (by omega), gI_nk (by omega), gI_same, gI_nk (by omega), gI_same, mc0, cl0 (by omega), my0]; refine ⟨rfl, ?_⟩; congr 1; symm; simp only [ne_eq, decide_not, Bool.not_not, decide_eq_true_eq]; first | (rw [if_pos (by omega)]) | (rw [if_neg (by omega)]) | (rw [if_pos (by simp [htw])]) | (rw [if_neg (by simp [htw]; omega)])
            · subst e; rw [gI_no (by omega), gI_no (by omega), gI_same, gI_same, mc1, cl0 (by omega), my1]; refine ⟨rfl, ?_⟩; congr 1; symm; simp only [ne_eq, decide_not, Bool.not_and, Bool.not_not, Bool.or_eq_true, decide_eq_true_eq, Bool.not_eq_true']; first | (rw [if_pos (by first | exact Or.inl (by omega) | exact Or.inr htw)]) | (rw [if_neg (by rw [htw]; simp; omega)])
          · refine w_iconst hX dX7_layMoments_140 kI_1 ?_
            refine w_iload hX dX7_layMoments_141 rfl ?_
            refine w_iconst hX dX7_layMoments_143 kI_1 ?_
            refine w_iaddN hX dX7_layMoments_144 ?_
            refine w_ishl hX dX7_layMoments_145 ?_
            refine w_top (y := nI (2 ^ (2 * k + 1))) (shl_nI (by omega)) ?_
            refine w_goto (tgt := 150) hX dX7_layMoments_146 (by decide) ?_
            refine w_iastN hX dX7_layMoments_150 (wd_a2 hwk) (by omega) (by omega) ?_
            refine w_iincN (w := 1) (l2 := [some (.ref w), some (.ref b), some (.int (nI (k + 1))), some (.int (nI (k * 4))), some (.ref (b + 10 + 2 * (ptw B k))), some (.int (nI (ptm B k))), some (.int (nI (pwh B k))), some (.int (nI (2 * k)))]) hX dX7_layMoments_151 rfl kI_1 rfl rfl ?_
            refine w_goto (tgt := 2) hX dX7_layMoments_154 (by decide) ?_
            refine w_sub (l2 := [some (.ref w), some (.ref b), some (.int (nI (k + 1))), none, none, none, none, none]) (by simp [lsub]) (leb rfl) ?_
            refine ih (by omega) _ ((((hsm.sI (Or.inl rfl)).sI (Or.inl rfl)).sI (Or.inr rfl)).sI (Or.inr rfl)) (fun i hi => ?_)
            rcases (show i < 2 * k ∨ i = 2 * k ∨ i = 2 * k + 1 by omega) with e | e | e
            · rw [gI_no (by omega), gI_no (by omega), gI_nk (by omega), gI_nk (by omega), gI_nk (by omega), gI_nk (by omega), gI_no (by omega), gI_no (by omega)]; exact hmo i e
            · subst e; rw [gI_no (by omega), gI_no (by omega), gI_nk (by omega), gI_same, gI_nk (by omega), gI_same, mc0, cl0 (by omega), my0]; refine ⟨rfl, ?_⟩; congr 1; symm; simp only [ne_eq, decide_not, Bool.not_not, decide_eq_true_eq]; first | (rw [if_pos (by omega)]) | (rw [if_neg (by omega)]) | (rw [if_pos (by simp [htw])]) | (rw [if_neg (by simp [htw]; omega)])
            · subst e; rw [gI_no (by omega), gI_no (by omega), gI_same, gI_same, mc1, cl0 (by omega), my1]; refine ⟨rfl, ?_⟩; congr 1; symm; simp only [ne_eq, decide_not, Bool.not_and, Bool.not_not, Bool.or_eq_true, decide_eq_true_eq, Bool.not_eq_true']; first | (rw [if_pos (by first | exact Or.inl (by omega) | exact Or.inr htw)]) | (rw [if_neg (by rw [htw]; simp; omega)])
  exact loop 0 (Nat.zero_le _) μ same.rf (fun i hi => by omega)
