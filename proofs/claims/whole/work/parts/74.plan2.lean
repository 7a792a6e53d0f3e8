theorem td_mask {B : Nat → Nat} {d S : Nat} (h8 : B 85 ≤ 8) (hS : S < 2 ^ B 85) : nI S &&& (nI (bw (fun w => decide (B (86 + 5 * w) = d)) (B 85)) ^^^ (-1 : Int32)) = nI 0 ↔ tdB B d S = true := by
  have h256 := p8 h8
  have hbl : bw (fun w => decide (B (86 + 5 * w) = d)) (B 85) < 2 ^ B 85 := bw_lt _
  rw [tdB_iff]
  constructor
  · intro h w hw hb
    have h1 : bt (nI S &&& (nI (bw (fun w => decide (B (86 + 5 * w) = d)) (B 85)) ^^^ (-1 : Int32))) w = bt (nI 0) w := by rw [h]
    rw [b_and, b_xor, bt_nI (by omega) (by omega), bt_nI (by omega) (by omega), b_m1 w (by omega), bt_nI (by omega) (by omega), hb, bw_tb] at h1
    simp [hw] at h1
    exact h1
  · intro h
    apply b_ext
    intro i hi
    rw [b_and, b_xor, bt_nI (by omega) hi, bt_nI (by omega) hi, b_m1 i hi, bt_nI (by omega) hi, bw_tb]
    by_cases hb : S.testBit i = true
    · have hin : i < B 85 := by
        rcases Nat.lt_or_ge i (B 85) with h9 | h9
        · exact h9
        · rw [Nat.testBit_lt_two_pow (Nat.lt_of_lt_of_le hS (Nat.pow_le_pow_right (by omega) h9))] at hb; cases hb
      simp [hb, hin, h i hin hb]
    · simp [hb]
theorem isLa_s {W : Wn} {n S : Nat} {z : Option Nat} (h : isLa W n S z) : z.isSome = FF W n S 0 := by
  have h1 := h.2 0 (Nat.zero_le _)
  cases z with
  | none =>
    cases h2 : FF W n S 0 with
    | false => rfl
    | true => obtain ⟨v, h3, -⟩ := h1.mp h2; cases h3
  | some v => rw [h1.mpr ⟨v, rfl, Nat.zero_le _⟩]; rfl
def b0F (B : Nat → Nat) (d : Nat) : Nat := fst B 0 (d * 1440)
theorem b0F_le {B : Nat → Nat} {d : Nat} (hW : WB B) (hd : d ≤ 3649) : b0F B d ≤ 5255280 := by
  have := fst_le (t := 0) (c := d * 1440) hW.1 (by omega)
  unfold b0F; omega
def SPw (p : Nat) : Nat → Nat → Prop := fun o k => (p < o ∧ o ≤ p + 3) ∨ (o = p ∧ (k = 6 ∨ k = 8))
set_option maxHeartbeats 1000000 in
theorem s_p_weigh (Γ : Gm) (μ : Mem) (p b d : Nat) (B : Nat → Nat) (hp : isPl μ p) (hR : Rb μ b B) (hW : WB B) (hpb : p + 5 < b) (hd : d ≤ 3649) (sk : Option Nat) (hsk : ∀ s, sk = some s → 60 ≤ s ∧ s ≤ 1440) : SpV Γ MX3_weigh 3 0 0 [.ref p, .ref b, .int (nI d), .int (oI sk)] μ (fun μ2 => (∀ w, w < B 85 → B (86 + 5 * w) = d → wnM μ2 p (WnB B (b0F B d) sk) w) ∧ laM μ2 p B d (WnB B (b0F B d) sk) (2 ^ B 85) ∧ gI μ2 p 6 = nI (woS B (bsS B d (WnB B (b0F B d) sk) (2 ^ B 85)) (B 85)) ∧ gI μ2 p 8 = nI (bsS B d (WnB B (b0F B d) sk) (2 ^ B 85)) ∧ same (SPw p) μ μ2) := by
  refine SpV.of okX3_weigh rfl [some (.ref p), some (.ref b), some (.int (nI d)), some (.int (oI sk)), none, none, none] ⟨rfl, rfl, rfl, rfl, trivial⟩ (leb rfl) (leb rfl) (fun X hX hE hnm => ?_)
  have hn8 := hW.2.2.1.1; have h256 := p8 hn8; have hb0 := b0F_le hW hd
  have hok := okWn_B (b0 := b0F B d) (sk := sk) hW (by omega) hsk
  have hpp := Nat.two_pow_pos (B 85)
  have big : ∀ ν : Mem, same (fun o _ => o = p + 1 ∨ o = p + 2) μ ν → (∀ w, w < B 85 → B (86 + 5 * w) = d → wnM ν p (WnB B (b0F B d) sk) w) → WP Γ X 0 0 69 [some (.ref p), some (.ref b), some (.int (nI d)), some (.int (oI sk)), some (.int (nI (b0F B d))), some (.int (nI (bw (fun w => decide (B (86 + 5 * w) = d)) (B 85)))), none] [] ν := by
    intro ν hsm hwn
    have hpk := hsm.isPl hp
    have hRk := Rb_same hsm (fun o k h => Or.inl (by omega)) hR
    refine w_aload_n (i := 0) hX dX3_weigh_69 rfl rfl ?_
    refine w_iconst hX dX3_weigh_70 kI_0 ?_
    refine w_putI hX dX3_weigh_71 fo_RX3_47 rfl rfl rfl rfl (pl_s hpk) ?_
    refine w_aload_n (i := 0) hX dX3_weigh_74 rfl rfl ?_
    refine w_iconst hX dX3_weigh_75 kI_0 ?_
    refine w_putI hX dX3_weigh_76 fo_RX3_70 rfl rfl rfl rfl (pl_s hpk) ?_
    refine w_aload_n (i := 0) hX dX3_weigh_79 rfl rfl ?_
    refine w_getR (q := p + 3) hX dX3_weigh_80 fo_RX3_20 rfl (pl_s hpk) (pl_r2 hpk) ?_
    refine w_iconst hX dX3_weigh_83 kI_0 ?_
    refine w_ldc hX dX3_weigh_84 ki_RX3_73 ?_
    refine w_top (y := nI 99999999) rfl ?_
    refine w_iastN hX dX3_weigh_86 (pl_a3 hpk) (by omega) (by omega) ?_
    refine w_iconst hX dX3_weigh_87 kI_1 ?_
    refine w_istore (l2 := [some (.ref p), some (.ref b), some (.int (nI d)), some (.int (oI sk)), some (.int (nI (b0F B d))), some (.int (nI (bw (fun w => decide (B (86 + 5 * w) = d)) (B 85)))), some (.int (nI 1))]) hX dX3_weigh_88 (ltb rfl) rfl rfl ?_
    have lp2 : ∀ s, s ≤ 2 ^ B 85 - 1 → ∀ ν1 : Mem, (same (fun o k => o = p + 3 ∨ (o = p ∧ (k = 6 ∨ k = 8))) ν ν1) → (laM ν1 p B d (WnB B (b0F B d) sk) (s + 1)) → (gI ν1 p 6 = nI (woS B (bsS B d (WnB B (b0F B d) sk) (s + 1)) (B 85))) → (gI ν1 p 8 = nI (bsS B d (WnB B (b0F B d) sk) (s + 1))) → WP Γ X 0 0 90 [some (.ref p), some (.ref b), some (.int (nI d)), some (.int (oI sk)), some (.int (nI (b0F B d))), some (.int (nI (bw (fun w => decide (B (86 + 5 * w) = d)) (B 85)))), some (.int (nI (s + 1)))] [] ν1 := by
      refine loopU (2 ^ B 85 - 1) ?_
      intro s hs ihs ν1 hs1 hla hwo hch
      have hp1 := hs1.isPl hpk
      have hR1 := Rb_same hs1 (fun o k h => Or.inl (by omega)) hRk
      have hwn1 : ∀ w, w < B 85 → B (86 + 5 * w) = d → wnM ν1 p (WnB B (b0F B d) sk) w := fun w h1 h2 => wnM_same (hwn w h1 h2) hs1 (fun k h9 => by omega)
      refine w_iload hX dX3_weigh_90 rfl ?_
      refine w_iconst hX dX3_weigh_92 kI_1 ?_
      refine w_aload_n (i := 1) hX dX3_weigh_93 rfl rfl ?_
      refine w_getI hX dX3_weigh_94 fo_RX3_60 rfl (bk_s hR1.1) ?_
      refine w_top (y := nI (B 85)) hR1.2.2.2.2.2.1 ?_
      refine w_ishl hX dX3_weigh_97 ?_
      refine w_top (y := nI (2 ^ B 85)) (shl_nI (by omega)) ?_
      refine wn_icmp_ge (tgt := 138) hX dX3_weigh_98 (by decide) (by omega) (by omega) (fun c1 => ?_) (fun c1 => ?_)
      · have es : s + 1 = 2 ^ B 85 := by omega
        rw [es] at hla hwo hch
        exact w_vret hX hE dX3_weigh_138 (Or.inl rfl) ⟨hwn1, hla, hwo, hch, (hsm.up (fun o k h => by unfold SPw; omega)).tr (hs1.up (fun o k h => by unfold SPw; omega))⟩
      · have hs256 : s + 1 < 2 ^ B 85 := by omega
        refine w_iload hX dX3_weigh_101 rfl ?_
        refine w_iload hX dX3_weigh_103 rfl ?_
        refine w_iconst hX dX3_weigh_105 kI_m1 ?_
        refine w_ixor hX dX3_weigh_106 ?_
        refine w_iand hX dX3_weigh_107 ?_
        refine wc_if_ne (tgt := 132) hX dX3_weigh_108 (by decide) (fun c2 => ?_) (fun c2 => ?_)
        · refine w_iincN (w := 1) (l2 := [some (.ref p), some (.ref b), some (.int (nI d)), some (.int (oI sk)), some (.int (nI (b0F B d))), some (.int (nI (bw (fun w => decide (B (86 + 5 * w) = d)) (B 85)))), some (.int (nI (s + 1 + 1)))]) hX dX3_weigh_132 rfl kI_1 rfl rfl ?_
          refine w_goto (tgt := 90) hX dX3_weigh_135 (by decide) ?_
          have htd : tdB B d (s + 1) = false := by rw [Bool.eq_false_iff]; intro h9; exact c2 ((td_mask hn8 (by omega)).mpr h9)
          have e9 : bsS B d (WnB B (b0F B d) sk) (s + 1 + 1) = bsS B d (WnB B (b0F B d) sk) (s + 1) := by show (if _ then _ else _) = _; rw [if_neg (fun h9 => by unfold feB at h9; rw [htd] at h9; exact absurd h9.1 (by simp))]
          refine ihs (by omega) ν1 hs1 (fun T hT htT => ?_) (by rw [e9]; exact hwo) (by rw [e9]; exact hch)
          by_cases e : T = s + 1
          · subst e; rw [htd] at htT; cases htT
          · exact hla T (by omega) htT
        · have htd : tdB B d (s + 1) = true := (td_mask hn8 (by omega)).mp c2
          refine w_aload_n (i := 0) hX dX3_weigh_111 rfl rfl ?_
          refine w_getR (q := p + 3) hX dX3_weigh_112 fo_RX3_20 rfl (pl_s hp1) (pl_r2 hp1) ?_
          refine w_iload hX dX3_weigh_115 rfl ?_
          refine w_aload_n (i := 0) hX dX3_weigh_117 rfl rfl ?_
          refine w_aload_n (i := 1) hX dX3_weigh_118 rfl rfl ?_
          refine w_iload hX dX3_weigh_119 rfl ?_
          refine w_callVI (As := [.ref b, .int (nI (s + 1))]) (rest := [.int (nI (s + 1)), .ref (p + 3)]) (ci := 3) (o := p) (k2 := 0) (n2 := 0) hX dX3_weigh_121 (s_p_latestFor Γ ν1 p b d B hp1 hR1 hW (WnB B (b0F B d) sk) hok (fun w _ => rfl) hwn1 (s + 1) (by omega) (by omega) htd hla) okX3_latestFor (ltb rfl) (pl_s hp1) ml_RX3_74 imX3_latestFor seX3_latestFor rfl (leb rfl) (leb rfl) rfl rfl (fun r9 μ9 hq9 => ?_)
          obtain ⟨z9, hr9, hz9, hm9⟩ := hq9; rw [hr9, hm9]; clear hr9 hm9 r9 μ9
          refine w_iastN hX dX3_weigh_124 (pl_a3 hp1) (by omega) (by omega) ?_
          refine w_aload_n (i := 0) hX dX3_weigh_125 rfl rfl ?_
          refine w_aload_n (i := 1) hX dX3_weigh_126 rfl rfl ?_
          refine w_iload hX dX3_weigh_127 rfl ?_
          refine w_callVV (As := [.ref b, .int (nI (s + 1))]) (rest := []) (ci := 3) (o := p) (k2 := 0) (n2 := 0) hX dX3_weigh_129 (s_p_keep Γ (sI ν1 (p + 3) (s + 1) (oI z9)) p b B hp1 (Rb_same (same.rf.sI rfl : same (fun o _ => o = p + 3) ν1 (sI ν1 (p + 3) (s + 1) (oI z9))) (fun o k h => Or.inl (by omega)) hR1) hW (s + 1) (bsS B d (WnB B (b0F B d) sk) (s + 1)) (by omega) z9 gI_same (fun v h => by have := hz9.1 v h; unfold FAR9 at this; omega) (by rw [gI_no (by omega)]; exact hwo) (by rw [gI_no (by omega)]; exact hch)) okX3_keepIfBetter (ltb rfl) (pl_s hp1) ml_RX3_78 imX3_keepIfBetter seX3_keepIfBetter rfl (leb rfl) (leb rfl) rfl rfl (fun ν2 hq9 => ?_)
          obtain ⟨hk1, hk2, hs2⟩ := hq9
          refine w_iincN (w := 1) (l2 := [some (.ref p), some (.ref b), some (.int (nI d)), some (.int (oI sk)), some (.int (nI (b0F B d))), some (.int (nI (bw (fun w => decide (B (86 + 5 * w) = d)) (B 85)))), some (.int (nI (s + 1 + 1)))]) hX dX3_weigh_132 rfl kI_1 rfl rfl ?_
          refine w_goto (tgt := 90) hX dX3_weigh_135 (by decide) ?_
          have hFz := isLa_s hz9
          have e9 : bsS B d (WnB B (b0F B d) sk) (s + 1 + 1) = if z9.isSome = true ∧ woS B (bsS B d (WnB B (b0F B d) sk) (s + 1)) (B 85) < woS B (s + 1) (B 85) then s + 1 else bsS B d (WnB B (b0F B d) sk) (s + 1) := by rw [hFz]; show (if feB B d _ (s + 1) = true ∧ _ then _ else _) = _; unfold feB; rw [htd, Bool.true_and]
          refine ihs (by omega) ν2 ((hs1.sI (Or.inl rfl)).tr (hs2.up (fun o k h => Or.inr h))) (fun T hT htT => ?_) (by rw [e9]; exact hk1) (by rw [e9]; exact hk2)
          by_cases e : T = s + 1
          · subst e; exact ⟨z9, by rw [(hs2.2.2 _ _ (fun h => by omega)).1, gI_same], hz9⟩
          · obtain ⟨z, h1, h2⟩ := hla T (by omega) htT; exact ⟨z, by rw [(hs2.2.2 _ _ (fun h => by omega)).1, gI_nk (by omega)]; exact h1, h2⟩
    have hb1 : bsS B d (WnB B (b0F B d) sk) (0 + 1) = 0 := by show (if _ then _ else _) = _; rw [if_neg (fun h9 => by have h8 := h9.2; rw [woS_0] at h8; exact absurd h8 (Nat.not_lt_zero _))]; rfl
    exact lp2 0 (Nat.zero_le _) (sI (sI (sI ν p 6 (nI 0)) p 8 (nI 0)) (p + 3) 0 (nI 99999999)) (((same.rf.sI (Or.inr ⟨rfl, Or.inl rfl⟩)).sI (Or.inr ⟨rfl, Or.inr rfl⟩)).sI (Or.inl rfl)) (fun T hT htT => ⟨some FAR9, by rw [show T = 0 by omega, gI_same]; rfl, by rw [show T = 0 by omega]; exact isLa_0⟩) (by rw [hb1, woS_0, gI_no (by omega), gI_nk (by omega), gI_same]) (by rw [hb1, gI_no (by omega), gI_same])
  refine w_aload_n (i := 1) hX dX3_weigh_0 rfl rfl ?_
  refine w_getR (q := b + 1) hX dX3_weigh_1 fo_RX3_33 rfl (bk_s hR.1) (bk_r0 hR.1) ?_
  refine w_iconst hX dX3_weigh_4 kI_0 ?_
  refine w_aaldN (q := b + 10 + 2 * 0) hX dX3_weigh_5 (bk_a1 hR.1) (by omega) (by omega) (bk_c hR.1 (by omega)).1 ?_
  refine w_iload_n (i := 2) hX dX3_weigh_6 rfl rfl ?_
  refine w_sipush hX dX3_weigh_7 kS_1440 ?_
  refine w_imulN hX dX3_weigh_10 ?_
  refine w_callVI (As := [.int (nI (d * 1440))]) (rest := []) (ci := 1) (o := b + 10 + 2 * 0) (k2 := 0) (n2 := 0) hX dX3_weigh_11 (s_b_firstOf Γ μ b B hR hW.1 0 (by omega) (d * 1440) (by omega)) okX1_firstOf (ltb rfl) (bk_c hR.1 (by omega)).2.1 ml_RX3_57 imX1_firstOf seX1_firstOf rfl (leb rfl) (leb rfl) rfl rfl (fun r9 μ9 hq9 => ?_)
  obtain ⟨hr9, hm9⟩ := hq9; rw [hr9, hm9]; clear hr9 hm9 r9 μ9
  refine w_istore (l2 := [some (.ref p), some (.ref b), some (.int (nI d)), some (.int (oI sk)), some (.int (nI (b0F B d))), none, none]) hX dX3_weigh_14 (ltb rfl) rfl rfl ?_
  refine w_iconst hX dX3_weigh_16 kI_0 ?_
  refine w_istore (l2 := [some (.ref p), some (.ref b), some (.int (nI d)), some (.int (oI sk)), some (.int (nI (b0F B d))), some (.int (nI 0)), none]) hX dX3_weigh_17 (ltb rfl) rfl rfl ?_
  refine w_iconst hX dX3_weigh_19 kI_0 ?_
  refine w_istore (l2 := [some (.ref p), some (.ref b), some (.int (nI d)), some (.int (oI sk)), some (.int (nI (b0F B d))), some (.int (nI 0)), some (.int (nI 0))]) hX dX3_weigh_20 (ltb rfl) rfl rfl ?_
  have loop : ∀ k, k ≤ B 85 → ∀ ν : Mem, (same (fun o _ => o = p + 1 ∨ o = p + 2) μ ν) → (∀ w, w < k → B (86 + 5 * w) = d → wnM ν p (WnB B (b0F B d) sk) w) → WP Γ X 0 0 22 [some (.ref p), some (.ref b), some (.int (nI d)), some (.int (oI sk)), some (.int (nI (b0F B d))), some (.int (nI (bw (fun w => decide (B (86 + 5 * w) = d)) k))), some (.int (nI k))] [] ν := by
    refine loopU (B 85) ?_
    intro k hk ih ν hsm hwn
    have hpk := hsm.isPl hp
    have hRk := Rb_same hsm (fun o k h => Or.inl (by omega)) hR
    have hkd : k < B 85 → B (86 + 5 * k) ≤ 3649 := fun h => (hW.2.2.1.2 k h).1
    refine w_iload hX dX3_weigh_22 rfl ?_
    refine w_aload_n (i := 1) hX dX3_weigh_24 rfl rfl ?_
    refine w_getI hX dX3_weigh_25 fo_RX3_60 rfl (bk_s hRk.1) ?_
    refine w_top (y := nI (B 85)) hRk.2.2.2.2.2.1 ?_
    refine wn_icmp_ge (tgt := 69) hX dX3_weigh_28 (by decide) (by omega) (by omega) (fun c3 => ?_) (fun c3 => ?_)
    · refine w_sub (l2 := [some (.ref p), some (.ref b), some (.int (nI d)), some (.int (oI sk)), some (.int (nI (b0F B d))), some (.int (nI (bw (fun w => decide (B (86 + 5 * w) = d)) k))), none]) (by simp [lsub]) (leb rfl) ?_
      have ek : k = B 85 := by omega
      rw [ek]; exact big ν hsm (fun w h1 h2 => hwn w (by omega) h2)
    · refine w_aload_n (i := 1) hX dX3_weigh_31 rfl rfl ?_
      refine w_getR (q := b + 3) hX dX3_weigh_32 fo_RX3_63 rfl (bk_s hRk.1) (bk_r2 hRk.1) ?_
      refine w_iload hX dX3_weigh_35 rfl ?_
      refine w_iconst hX dX3_weigh_37 kI_5 ?_
      refine w_imulN hX dX3_weigh_38 ?_
      refine w_ialdN hX dX3_weigh_39 (bk_a3 hRk.1) (by omega) (by omega) ?_
      refine w_top (y := nI (B (86 + 5 * k))) (by rw [hRk.2.2.2.2.2.2.1 _ (by omega)]; congr 2; omega) ?_
      refine w_iload_n (i := 2) hX dX3_weigh_40 rfl rfl ?_
      refine wn_icmp_ne (tgt := 63) hX dX3_weigh_41 (by decide) (by omega) (by omega) (fun c4 => ?_) (fun c4 => ?_)
      · refine w_iincN (w := 1) (l2 := [some (.ref p), some (.ref b), some (.int (nI d)), some (.int (oI sk)), some (.int (nI (b0F B d))), some (.int (nI (bw (fun w => decide (B (86 + 5 * w) = d)) k))), some (.int (nI (k + 1)))]) hX dX3_weigh_63 rfl kI_1 rfl rfl ?_
        refine w_goto (tgt := 22) hX dX3_weigh_66 (by decide) ?_
        refine w_locs (ls2 := [some (.ref p), some (.ref b), some (.int (nI d)), some (.int (oI sk)), some (.int (nI (b0F B d))), some (.int (nI (bw (fun w => decide (B (86 + 5 * w) = d)) (k + 1)))), some (.int (nI (k + 1)))]) (by rw [show bw (fun w => decide (B (86 + 5 * w) = d)) (k + 1) = bw (fun w => decide (B (86 + 5 * w) = d)) k by rw [bw_S, if_neg (fun h9 => by have h8 := of_decide_eq_true h9; omega)]]) ?_
        exact ih (by omega) ν hsm (fun w h1 h2 => hwn w (by by_cases e : w = k; (subst e; omega); omega) h2)
      · refine w_iload hX dX3_weigh_44 rfl ?_
        refine w_iconst hX dX3_weigh_46 kI_1 ?_
        refine w_iload hX dX3_weigh_47 rfl ?_
        refine w_ishl hX dX3_weigh_49 ?_
        refine w_top (y := nI (2 ^ k)) (shl_nI (by omega)) ?_
        refine w_ior hX dX3_weigh_50 ?_
        refine w_top (y := nI (bw (fun w => decide (B (86 + 5 * w) = d)) (k + 1))) ((fa_or _ _).trans (congrArg nI (by rw [bw_S, if_pos (decide_eq_true (by omega))]))) ?_
        refine w_istore (l2 := [some (.ref p), some (.ref b), some (.int (nI d)), some (.int (oI sk)), some (.int (nI (b0F B d))), some (.int (nI (bw (fun w => decide (B (86 + 5 * w) = d)) (k + 1)))), some (.int (nI k))]) hX dX3_weigh_51 (ltb rfl) rfl rfl ?_
        refine w_aload_n (i := 0) hX dX3_weigh_53 rfl rfl ?_
        refine w_aload_n (i := 1) hX dX3_weigh_54 rfl rfl ?_
        refine w_iload hX dX3_weigh_55 rfl ?_
        refine w_iload hX dX3_weigh_57 rfl ?_
        refine w_iload_n (i := 3) hX dX3_weigh_59 rfl rfl ?_
        refine w_callVV (As := [.ref b, .int (nI k), .int (nI (b0F B d)), .int (oI sk)]) (rest := []) (ci := 3) (o := p) (k2 := 0) (n2 := 0) hX dX3_weigh_60 (s_p_win Γ ν p b B hpk hRk hW k (b0F B d) (by omega) (by omega) sk hsk) okX3_layWindows (ltb rfl) (pl_s hpk) ml_RX3_66 imX3_layWindows seX3_layWindows rfl (leb rfl) (leb rfl) rfl rfl (fun ν3 hq9 => ?_)
        obtain ⟨hw3, hs3⟩ := hq9
        refine w_iincN (w := 1) (l2 := [some (.ref p), some (.ref b), some (.int (nI d)), some (.int (oI sk)), some (.int (nI (b0F B d))), some (.int (nI (bw (fun w => decide (B (86 + 5 * w) = d)) (k + 1)))), some (.int (nI (k + 1)))]) hX dX3_weigh_63 rfl kI_1 rfl rfl ?_
        refine w_goto (tgt := 22) hX dX3_weigh_66 (by decide) ?_
        refine ih (by omega) ν3 (hsm.tr (hs3.up (fun o k h => by omega))) (fun w h1 h2 => ?_)
        by_cases e : w = k
        · subst e; exact hw3
        · exact wnM_same (hwn w (by omega) h2) hs3 (fun q h9 => by omega)
  exact loop 0 (Nat.zero_le _) μ same.rf (fun w h1 => absurd h1 (Nat.not_lt_zero _))
