theorem lM_mul (a b : Nat) : lN a * lN b = lN (a * b) := by
  apply Int64.toBitVec_inj.mp
  rw [Int64.toBitVec_mul, lM_bv, lM_bv, lM_bv]
  apply BitVec.eq_of_toNat_eq
  simp [BitVec.toNat_mul, BitVec.toNat_ofNat, Nat.mul_mod]
theorem nI_lN {a : Nat} (ha : a < 2 ^ 31) : (nI a).toInt64 = lN a := by
  apply Int64.toInt_inj.mp
  rw [Int32.toInt_toInt64, nI_toInt ha, lN_ti (by omega), if_pos (by omega)]
theorem cmp0 {a b : Nat} (ha : a < 2 ^ 63) (hb : b < 2 ^ 63) : lg_cmp (lN a) (lN b) = nI 0 ↔ a = b := by
  have e1 := lN_ti (m := a) (by omega)
  have e2 := lN_ti (m := b) (by omega)
  rw [if_pos ha] at e1
  rw [if_pos hb] at e2
  unfold lg_cmp
  constructor
  · intro h
    by_cases c : lN a > lN b
    · rw [if_pos c] at h; exact absurd h (by decide)
    · rw [if_neg c] at h
      by_cases c2 : lN a = lN b
      · have : (lN a).toInt = (lN b).toInt := by rw [c2]
        omega
      · rw [if_neg c2] at h; exact absurd h (by decide)
  · intro h
    subst h
    rw [if_neg (fun c => by have := Int64.lt_iff_toInt_lt.mp c; omega), if_pos rfl]
    rfl
/-- the class's reader over a tape and a book -/
def RD (μ : Mem) (r t b : Nat) (s : Tp) : Prop := isRd μ r ∧ gR μ r 2 = some t ∧ gR μ r 3 = some b ∧ (∀ k, k < 18 → gL μ (r + 1) k = lN (kw k)) ∧ tpR μ t s ∧ okT s
theorem RD.sm {S : Nat → Nat → Prop} {μ ν : Mem} {r t b : Nat} {s : Tp} (h : RD μ r t b s) (hs : same S μ ν) (hS : ∀ o k, S o k → o ≠ t + 1 ∧ o ≠ r + 1 ∧ o ≠ t) : RD ν r t b s :=
  ⟨hs.isRd h.1, (gR_of hs _ _).trans h.2.1, (gR_of hs _ _).trans h.2.2.1, fun k hk => by rw [(hs.2.2 _ _ (fun h9 => (hS _ _ h9).2.1 rfl)).2]; exact h.2.2.2.1 k hk, ⟨hs.isTp h.2.2.2.2.1.1, by rw [(hs.2.2 _ _ (fun h9 => (hS _ _ h9).2.2 rfl)).1]; exact h.2.2.2.2.1.2.1, fun j hj => by rw [(hs.2.2 _ _ (fun h9 => (hS _ _ h9).1 rfl)).1]; exact h.2.2.2.2.1.2.2 j hj⟩, h.2.2.2.2.2⟩
theorem RD.ch {μ : Mem} {r t b : Nat} {s : Tp} (h : RD μ r t b s) {j : Nat} (hj : j < s.2) : s.1 j ≤ 126 := (okS_lt (h.2.2.2.2.2.2 j hj)).2
/-- it looks at token n -/
def RS (μ : Mem) (r : Nat) (s : Tp) (n : Nat) : Prop := gI μ r 4 = nI (ps s (n + 1)) ∧ gI μ r 6 = nI (kd s n) ∧ gI μ r 7 = nI (pl s n) ∧ (kd s n = 3 → gI μ r 8 = nI (vl s n)) ∧ (4 ≤ kd s n → gL μ r 9 = lN (wd s n))
theorem RS.sm {S : Nat → Nat → Prop} {μ ν : Mem} {r n : Nat} {s : Tp} (h : RS μ r s n) (hs : same S μ ν) (hS : ∀ k, 4 ≤ k → k ≠ 5 → ¬ S r k) : RS ν r s n :=
  ⟨by rw [(hs.2.2 _ _ (hS 4 (by omega) (by omega))).1]; exact h.1, by rw [(hs.2.2 _ _ (hS 6 (by omega) (by omega))).1]; exact h.2.1, by rw [(hs.2.2 _ _ (hS 7 (by omega) (by omega))).1]; exact h.2.2.1, fun h9 => by rw [(hs.2.2 _ _ (hS 8 (by omega) (by omega))).1]; exact h.2.2.2.1 h9, fun h9 => by rw [(hs.2.2 _ _ (hS 9 (by omega) (by omega))).2]; exact h.2.2.2.2 h9⟩
def SA (r : Nat) : Nat → Nat → Prop := fun o k => o = r ∧ (k = 4 ∨ (6 ≤ k ∧ k ≤ 9))
set_option maxHeartbeats 1000000 in
theorem s_r_isL (Γ : Gm) (μ : Mem) (c : Nat) (hc : c < 2 ^ 31) : SpI Γ MX4_isLetter 0 0 0 [.int (nI c)] μ (fun r μ2 => r = bI (isLt c) ∧ μ2 = μ) := by
  refine SpI.of okX4_isLetter rfl [some (.int (nI c))] ⟨rfl, trivial⟩ (leb rfl) (leb rfl) (fun X hX hE hnm => ?_)
  refine w_iload_n (i := 0) hX dX4_isLetter_0 rfl rfl ?_
  refine w_bipush hX dX4_isLetter_1 kB_97 ?_
  refine wn_icmp_lt (tgt := 16) hX dX4_isLetter_3 (by decide) (by omega) (by omega) (fun c1 => ?_) (fun c1 => ?_)
  · refine w_iconst hX dX4_isLetter_16 kI_0 ?_
    exact w_iret hX hE dX4_isLetter_17 (Or.inl rfl) rfl ⟨bI_2 (by simp only [isLt, Bool.and_eq_true, Bool.and_eq_false_iff, decide_eq_true_eq, decide_eq_false_iff_not]; omega), rfl⟩
  · refine w_iload_n (i := 0) hX dX4_isLetter_6 rfl rfl ?_
    refine w_bipush hX dX4_isLetter_7 kB_122 ?_
    refine wn_icmp_gt (tgt := 16) hX dX4_isLetter_9 (by decide) (by omega) (by omega) (fun c2 => ?_) (fun c2 => ?_)
    · refine w_iconst hX dX4_isLetter_16 kI_0 ?_
      exact w_iret hX hE dX4_isLetter_17 (Or.inl rfl) rfl ⟨bI_2 (by simp only [isLt, Bool.and_eq_true, Bool.and_eq_false_iff, decide_eq_true_eq, decide_eq_false_iff_not]; omega), rfl⟩
    · refine w_iconst hX dX4_isLetter_12 kI_1 ?_
      refine w_goto (tgt := 17) hX dX4_isLetter_13 (by decide) ?_
      exact w_iret hX hE dX4_isLetter_17 (Or.inl rfl) rfl ⟨bI_1 (by simp only [isLt, Bool.and_eq_true, Bool.and_eq_false_iff, decide_eq_true_eq, decide_eq_false_iff_not]; omega), rfl⟩
set_option maxHeartbeats 1000000 in
theorem s_r_isD (Γ : Gm) (μ : Mem) (c : Nat) (hc : c < 2 ^ 31) : SpI Γ MX4_isDigit 0 0 0 [.int (nI c)] μ (fun r μ2 => r = bI (isDg c) ∧ μ2 = μ) := by
  refine SpI.of okX4_isDigit rfl [some (.int (nI c))] ⟨rfl, trivial⟩ (leb rfl) (leb rfl) (fun X hX hE hnm => ?_)
  refine w_iload_n (i := 0) hX dX4_isDigit_0 rfl rfl ?_
  refine w_bipush hX dX4_isDigit_1 kB_48 ?_
  refine wn_icmp_lt (tgt := 16) hX dX4_isDigit_3 (by decide) (by omega) (by omega) (fun c1 => ?_) (fun c1 => ?_)
  · refine w_iconst hX dX4_isDigit_16 kI_0 ?_
    exact w_iret hX hE dX4_isDigit_17 (Or.inl rfl) rfl ⟨bI_2 (by simp only [isDg, Bool.and_eq_true, Bool.and_eq_false_iff, decide_eq_true_eq, decide_eq_false_iff_not]; omega), rfl⟩
  · refine w_iload_n (i := 0) hX dX4_isDigit_6 rfl rfl ?_
    refine w_bipush hX dX4_isDigit_7 kB_57 ?_
    refine wn_icmp_gt (tgt := 16) hX dX4_isDigit_9 (by decide) (by omega) (by omega) (fun c2 => ?_) (fun c2 => ?_)
    · refine w_iconst hX dX4_isDigit_16 kI_0 ?_
      exact w_iret hX hE dX4_isDigit_17 (Or.inl rfl) rfl ⟨bI_2 (by simp only [isDg, Bool.and_eq_true, Bool.and_eq_false_iff, decide_eq_true_eq, decide_eq_false_iff_not]; omega), rfl⟩
    · refine w_iconst hX dX4_isDigit_12 kI_1 ?_
      refine w_goto (tgt := 17) hX dX4_isDigit_13 (by decide) ?_
      exact w_iret hX hE dX4_isDigit_17 (Or.inl rfl) rfl ⟨bI_1 (by simp only [isDg, Bool.and_eq_true, Bool.and_eq_false_iff, decide_eq_true_eq, decide_eq_false_iff_not]; omega), rfl⟩
set_option maxHeartbeats 1000000 in
theorem s_r_num (Γ : Gm) (μ : Mem) (c : Nat) (hc : 97 ≤ c) : SpI Γ MX4_letterNumber 0 0 0 [.int (nI c)] μ (fun r μ2 => r = nI (c - 96) ∧ μ2 = μ) := by
  refine SpI.of okX4_letterNumber rfl [some (.int (nI c))] ⟨rfl, trivial⟩ (leb rfl) (leb rfl) (fun X hX hE hnm => ?_)
  refine w_iload_n (i := 0) hX dX4_letterNumber_0 rfl rfl ?_
  refine w_bipush hX dX4_letterNumber_1 kB_97 ?_
  refine w_isubN hX dX4_letterNumber_3 (by omega) ?_
  refine w_iconst hX dX4_letterNumber_4 kI_1 ?_
  refine w_iaddN hX dX4_letterNumber_5 ?_
  exact w_iret hX hE dX4_letterNumber_6 (Or.inl rfl) rfl ⟨by congr 1; omega, rfl⟩
set_option maxHeartbeats 1000000 in
theorem s_r_word (Γ : Gm) (μ : Mem) (r t b : Nat) (s : Tp) (hr : RD μ r t b s) (htr : t + 1 < r) (hrb : r + 2 < b) (q : Nat) (hq : q ≤ s.2) (hn0 : gI μ r 4 = nI q) (hp0 : gI μ r 7 = nI q) (hw0 : gL μ r 9 = lN 0) : SpV Γ MX4_readWord 1 0 0 [.ref r] μ (fun μ2 => gI μ2 r 4 = nI (rnS s isLt q) ∧ gI μ2 r 6 = nI (if rnS s isLt q - q > 8 then 1 else kwd (wcd s q (rnS s isLt q - q))) ∧ gL μ2 r 9 = lN (wcd s q (rnS s isLt q - q)) ∧ same (fun o k => o = r ∧ (k = 4 ∨ k = 6 ∨ k = 9)) μ μ2) := by
  refine SpV.of okX4_readWord rfl [some (.ref r), none] ⟨rfl, trivial⟩ (leb rfl) (leb rfl) (fun X hX hE hnm => ?_)
  have loop : ∀ k, k ≤ s.2 - q → ∀ ν : Mem, (same (fun o k => o = r ∧ (k = 4 ∨ k = 9)) μ ν) → (gI ν r 4 = nI (q + k)) → (gL ν r 9 = lN (wcd s q k)) → (rnS s isLt q = rnS s isLt (q + k)) → WP Γ X 0 0 0 [some (.ref r), none] [] ν := by
    refine loopU (s.2 - q) ?_
    intro k hk ih ν hsm hn hw hrn
    have hrk := hr.sm hsm (fun o k h => by omega)
    have hp : gI ν r 7 = nI q := by rw [(hsm.2.2 _ _ (fun h => by omega)).1]; exact hp0
    have hch : q + k < s.2 → s.1 (q + k) ≤ 126 := fun h => hr.ch h
    have hL1 := hr.2.2.2.2.2.1
    have j74 : rnS s isLt (q + k) = q + k → WP Γ X 0 0 74 [some (.ref r), none] [] ν := by
      intro he
      rw [he] at hrn
      refine w_aload_n (i := 0) hX dX4_readWord_74 rfl rfl ?_
      refine w_aload_n (i := 0) hX dX4_readWord_75 rfl rfl ?_
      refine w_getI hX dX4_readWord_76 fo_RX4_50 rfl (rd_s hrk.1) ?_
      refine w_top (y := nI (q + k)) hn ?_
      refine w_aload_n (i := 0) hX dX4_readWord_79 rfl rfl ?_
      refine w_getI hX dX4_readWord_80 fo_RX4_187 rfl (rd_s hrk.1) ?_
      refine w_top (y := nI q) hp ?_
      refine w_isubN hX dX4_readWord_83 (by omega) ?_
      refine w_bipush hX dX4_readWord_84 kB_8 ?_
      refine wn_icmp_le (tgt := 93) hX dX4_readWord_86 (by decide) (by omega) (by omega) (fun c1 => ?_) (fun c1 => ?_)
      · refine w_iconst hX dX4_readWord_93 kI_4 ?_
        refine w_putI hX dX4_readWord_94 fo_RX4_62 rfl rfl rfl rfl (rd_s hrk.1) ?_
        refine w_iconst hX dX4_readWord_97 kI_0 ?_
        refine w_istore_n (i := 1) (l2 := [some (.ref r), some (.int (nI 0))]) hX dX4_readWord_98 rfl (ltb rfl) rfl rfl ?_
        have hwl : wcd s q k < 32 ^ 8 := Nat.lt_of_lt_of_le (wcd_lt k (fun j hj => by have h9 := (rnS_sp (P := isLt) (show q ≤ s.2 by omega)).2.2.1 (q + j) (by omega) (by omega); exact h9)) (Nat.pow_le_pow_right (by omega) (by omega))
        have lp2 : ∀ j, j ≤ 18 → kwf (wcd s q k) 18 0 = kwf (wcd s q k) (18 - j) j → WP Γ X 0 0 99 [some (.ref r), some (.int (nI j))] [] (sI ν r 6 (nI 4)) := by
          refine loopU 18 ?_
          intro j hj ihj hkw
          refine w_iload_n (i := 1) hX dX4_readWord_99 rfl rfl ?_
          refine w_aload_n (i := 0) hX dX4_readWord_100 rfl rfl ?_
          refine w_getR (q := r + 1) hX dX4_readWord_101 fo_RX4_11 rfl (rd_s hrk.1) (rd_r0 hrk.1) ?_
          refine w_alen (len := 18) hX (ltb rfl) dX4_readWord_104 (rd_a1 hrk.1) ?_
          refine wn_icmp_ge (tgt := 143) hX dX4_readWord_105 (by decide) (by omega) (by omega) (fun c2 => ?_) (fun c2 => ?_)
          · exact w_vret hX hE dX4_readWord_143 (Or.inl rfl) ⟨by rw [hrn, gI_nk (by omega)]; exact hn, by rw [gI_same, hrn, if_neg (by omega), Nat.add_sub_cancel_left]; congr 1; unfold kwd; rw [hkw, show 18 - j = 0 by omega]; rfl, by rw [gL_sI, hrn, Nat.add_sub_cancel_left]; exact hw, (hsm.up (fun o k h => by omega)).sI ⟨rfl, Or.inr (Or.inl rfl)⟩⟩
          · refine w_aload_n (i := 0) hX dX4_readWord_108 rfl rfl ?_
            refine w_getI hX dX4_readWord_109 fo_RX4_62 rfl (rd_s hrk.1) ?_
            refine w_top (y := nI 4) gI_same ?_
            refine w_iconst hX dX4_readWord_112 kI_4 ?_
            refine wn_icmp_ne (tgt := 143) hX dX4_readWord_113 (by decide) (by omega) (by omega) (fun c3 => ?_) (fun c3 => ?_)
            · exact absurd c3 (by decide)
            · refine w_aload_n (i := 0) hX dX4_readWord_116 rfl rfl ?_
              refine w_getR (q := r + 1) hX dX4_readWord_117 fo_RX4_11 rfl (rd_s hrk.1) (rd_r0 hrk.1) ?_
              refine w_iload_n (i := 1) hX dX4_readWord_120 rfl rfl ?_
              refine w_laldN hX dX4_readWord_121 (rd_a1 hrk.1) (by omega) (by omega) ?_
              refine w_topL (y := lN (kw j)) (hrk.2.2.2.1 j (by omega)) ?_
              refine w_aload_n (i := 0) hX dX4_readWord_122 rfl rfl ?_
              refine w_getL hX dX4_readWord_123 fo_RX4_165 rfl (rd_s hrk.1) ?_
              refine w_topL (y := lN (wcd s q k)) (by rw [gL_sI]; exact hw) ?_
              refine w_lcmp hX dX4_readWord_126 ?_
              refine wc_if_ne (tgt := 137) hX dX4_readWord_127 (by decide) (fun c4 => ?_) (fun c4 => ?_)
              · refine w_iincN (w := 1) (l2 := [some (.ref r), some (.int (nI (j + 1)))]) hX dX4_readWord_137 rfl kI_1 rfl rfl ?_
                refine w_goto (tgt := 99) hX dX4_readWord_140 (by decide) ?_
                exact ihj (by omega) (hkw.trans (kwf_n (by omega) (fun e => c4 ((cmp0 (by have := kw_lt j (by omega); omega) (by omega)).mpr e))))
              · refine w_aload_n (i := 0) hX dX4_readWord_130 rfl rfl ?_
                refine w_iconst hX dX4_readWord_131 kI_5 ?_
                refine w_iload_n (i := 1) hX dX4_readWord_132 rfl rfl ?_
                refine w_iaddN hX dX4_readWord_133 ?_
                refine w_putI hX dX4_readWord_134 fo_RX4_62 rfl rfl rfl rfl (rd_s hrk.1) ?_
                refine w_iincN (w := 1) (l2 := [some (.ref r), some (.int (nI (j + 1)))]) hX dX4_readWord_137 rfl kI_1 rfl rfl ?_
                refine w_goto (tgt := 99) hX dX4_readWord_140 (by decide) ?_
                refine w_iload_n (i := 1) hX dX4_readWord_99 rfl rfl ?_
                refine w_aload_n (i := 0) hX dX4_readWord_100 rfl rfl ?_
                refine w_getR (q := r + 1) hX dX4_readWord_101 fo_RX4_11 rfl (rd_s hrk.1) (rd_r0 hrk.1) ?_
                refine w_alen (len := 18) hX (ltb rfl) dX4_readWord_104 (rd_a1 hrk.1) ?_
                refine wn_icmp_ge (tgt := 143) hX dX4_readWord_105 (by decide) (by omega) (by omega) (fun c5 => ?_) (fun c5 => ?_)
                · exact w_vret hX hE dX4_readWord_143 (Or.inl rfl) ⟨by rw [hrn, gI_nk (by omega), gI_nk (by omega)]; exact hn, by rw [gI_same, hrn, if_neg (by omega), Nat.add_sub_cancel_left]; congr 1; unfold kwd; rw [hkw, kwf_y (by omega) ((cmp0 (by have := kw_lt j (by omega); omega) (by omega)).mp c4)], by rw [gL_sI, gL_sI, hrn, Nat.add_sub_cancel_left]; exact hw, ((hsm.up (fun o k h => by omega)).sI ⟨rfl, Or.inr (Or.inl rfl)⟩).sI ⟨rfl, Or.inr (Or.inl rfl)⟩⟩
                · refine w_aload_n (i := 0) hX dX4_readWord_108 rfl rfl ?_
                  refine w_getI hX dX4_readWord_109 fo_RX4_62 rfl (rd_s hrk.1) ?_
                  refine w_top (y := nI (5 + j)) gI_same ?_
                  refine w_iconst hX dX4_readWord_112 kI_4 ?_
                  refine wn_icmp_ne (tgt := 143) hX dX4_readWord_113 (by decide) (by omega) (by omega) (fun c6 => ?_) (fun c6 => ?_)
                  · exact w_vret hX hE dX4_readWord_143 (Or.inl rfl) ⟨by rw [hrn, gI_nk (by omega), gI_nk (by omega)]; exact hn, by rw [gI_same, hrn, if_neg (by omega), Nat.add_sub_cancel_left]; congr 1; unfold kwd; rw [hkw, kwf_y (by omega) ((cmp0 (by have := kw_lt j (by omega); omega) (by omega)).mp c4)], by rw [gL_sI, gL_sI, hrn, Nat.add_sub_cancel_left]; exact hw, ((hsm.up (fun o k h => by omega)).sI ⟨rfl, Or.inr (Or.inl rfl)⟩).sI ⟨rfl, Or.inr (Or.inl rfl)⟩⟩
                  · exfalso; omega
        exact lp2 0 (Nat.zero_le _) rfl
      · refine w_iconst hX dX4_readWord_89 kI_1 ?_
        refine w_goto (tgt := 94) hX dX4_readWord_90 (by decide) ?_
        refine w_putI hX dX4_readWord_94 fo_RX4_62 rfl rfl rfl rfl (rd_s hrk.1) ?_
        refine w_iconst hX dX4_readWord_97 kI_0 ?_
        refine w_istore_n (i := 1) (l2 := [some (.ref r), some (.int (nI 0))]) hX dX4_readWord_98 rfl (ltb rfl) rfl rfl ?_
        refine w_iload_n (i := 1) hX dX4_readWord_99 rfl rfl ?_
        refine w_aload_n (i := 0) hX dX4_readWord_100 rfl rfl ?_
        refine w_getR (q := r + 1) hX dX4_readWord_101 fo_RX4_11 rfl (rd_s hrk.1) (rd_r0 hrk.1) ?_
        refine w_alen (len := 18) hX (ltb rfl) dX4_readWord_104 (rd_a1 hrk.1) ?_
        refine wn_icmp_ge (tgt := 143) hX dX4_readWord_105 (by decide) (by omega) (by omega) (fun c7 => ?_) (fun c7 => ?_)
        · exact absurd c7 (by decide)
        · refine w_aload_n (i := 0) hX dX4_readWord_108 rfl rfl ?_
          refine w_getI hX dX4_readWord_109 fo_RX4_62 rfl (rd_s hrk.1) ?_
          refine w_top (y := nI 1) gI_same ?_
          refine w_iconst hX dX4_readWord_112 kI_4 ?_
          refine wn_icmp_ne (tgt := 143) hX dX4_readWord_113 (by decide) (by omega) (by omega) (fun c8 => ?_) (fun c8 => ?_)
          · exact w_vret hX hE dX4_readWord_143 (Or.inl rfl) ⟨by rw [hrn, gI_nk (by omega)]; exact hn, by rw [gI_same, hrn, if_pos (by omega)], by rw [gL_sI, hrn, Nat.add_sub_cancel_left]; exact hw, (hsm.up (fun o k h => by omega)).sI ⟨rfl, Or.inr (Or.inl rfl)⟩⟩
          · exact absurd c8 (by decide)
    refine w_aload_n (i := 0) hX dX4_readWord_0 rfl rfl ?_
    refine w_getI hX dX4_readWord_1 fo_RX4_50 rfl (rd_s hrk.1) ?_
    refine w_top (y := nI (q + k)) hn ?_
    refine w_aload_n (i := 0) hX dX4_readWord_4 rfl rfl ?_
    refine w_getR (q := t) hX dX4_readWord_5 fo_RX4_37 rfl (rd_s hrk.1) hrk.2.1 ?_
    refine w_getI hX dX4_readWord_8 fo_RX4_190 rfl (tp_s hrk.2.2.2.2.1.1) ?_
    refine w_top (y := nI s.2) hrk.2.2.2.2.1.2.1 ?_
    refine wn_icmp_ge (tgt := 74) hX dX4_readWord_11 (by decide) (by omega) (by omega) (fun c9 => ?_) (fun c9 => ?_)
    · exact j74 (rnS_n (fun h9 => by omega))
    · refine w_aload_n (i := 0) hX dX4_readWord_14 rfl rfl ?_
      refine w_getR (q := t) hX dX4_readWord_15 fo_RX4_37 rfl (rd_s hrk.1) hrk.2.1 ?_
      refine w_getR (q := t + 1) hX dX4_readWord_18 fo_RX4_192 rfl (tp_s hrk.2.2.2.2.1.1) (tp_r0 hrk.2.2.2.2.1.1) ?_
      refine w_aload_n (i := 0) hX dX4_readWord_21 rfl rfl ?_
      refine w_getI hX dX4_readWord_22 fo_RX4_50 rfl (rd_s hrk.1) ?_
      refine w_top (y := nI (q + k)) hn ?_
      refine w_baldN hX dX4_readWord_25 (tp_a1 hrk.2.2.2.2.1.1) (by omega) (by omega) ?_
      refine w_top (y := nI (s.1 (q + k))) (hrk.2.2.2.2.1.2.2 _ (by omega)) ?_
      refine w_callSI (As := [.int (nI (s.1 (q + k)))]) (rest := []) (k2 := 0) (n2 := 0) hX dX4_readWord_26 (s_r_isL Γ ν (s.1 (q + k)) (by omega)) okX4_isLetter ml_RX4_196 stX4_isLetter rfl (leb rfl) (leb rfl) rfl rfl (fun r9 μ9 hq9 => ?_)
      obtain ⟨hr9, hm9⟩ := hq9; rw [hr9, hm9]; clear hr9 hm9 r9 μ9
      refine wb_eq (tgt := 74) hX dX4_readWord_29 (by decide) (fun hL => ?_) (fun hL => ?_)
      · exact j74 (rnS_n (fun _ => hL))
      · have hc97 : 97 ≤ s.1 (q + k) := by unfold isLt at hL; simp only [Bool.and_eq_true, decide_eq_true_eq] at hL; exact hL.1
        refine w_aload_n (i := 0) hX dX4_readWord_32 rfl rfl ?_
        refine w_aload_n (i := 0) hX dX4_readWord_33 rfl rfl ?_
        refine w_getL hX dX4_readWord_34 fo_RX4_165 rfl (rd_s hrk.1) ?_
        refine w_topL (y := lN (wcd s q k)) hw ?_
        refine w_ldc2 hX dX4_readWord_37 kl_RX4_31 ?_
        refine w_lmul hX dX4_readWord_40 ?_
        refine w_aload_n (i := 0) hX dX4_readWord_41 rfl rfl ?_
        refine w_getR (q := t) hX dX4_readWord_42 fo_RX4_37 rfl (rd_s hrk.1) hrk.2.1 ?_
        refine w_getR (q := t + 1) hX dX4_readWord_45 fo_RX4_192 rfl (tp_s hrk.2.2.2.2.1.1) (tp_r0 hrk.2.2.2.2.1.1) ?_
        refine w_aload_n (i := 0) hX dX4_readWord_48 rfl rfl ?_
        refine w_getI hX dX4_readWord_49 fo_RX4_50 rfl (rd_s hrk.1) ?_
        refine w_top (y := nI (q + k)) hn ?_
        refine w_baldN hX dX4_readWord_52 (tp_a1 hrk.2.2.2.2.1.1) (by omega) (by omega) ?_
        refine w_top (y := nI (s.1 (q + k))) (hrk.2.2.2.2.1.2.2 _ (by omega)) ?_
        refine w_callSI (As := [.int (nI (s.1 (q + k)))]) (rest := [.long ((lN (wcd s q k)) * ((32 : Int64))), .ref r]) (k2 := 0) (n2 := 0) hX dX4_readWord_53 (s_r_num Γ ν (s.1 (q + k)) hc97) okX4_letterNumber ml_RX4_33 stX4_letterNumber rfl (leb rfl) (leb rfl) rfl rfl (fun r9 μ9 hq9 => ?_)
        obtain ⟨hr9, hm9⟩ := hq9; rw [hr9, hm9]; clear hr9 hm9 r9 μ9
        refine w_i2l hX dX4_readWord_56 ?_
        refine w_ladd hX dX4_readWord_57 ?_
        refine w_topL (y := lN (wcd s q (k + 1))) (by rw [show (32 : Int64) = lN 32 from rfl, lM_mul, nI_lN (by omega), lM_add]; rfl) ?_
        refine w_putL hX dX4_readWord_58 fo_RX4_165 rfl rfl rfl (rd_s hrk.1) ?_
        refine w_aload_n (i := 0) hX dX4_readWord_61 rfl rfl ?_
        refine w_dup hX dX4_readWord_62 rfl ?_
        refine w_getI hX dX4_readWord_63 fo_RX4_50 rfl (rd_s hrk.1) ?_
        refine w_top (y := nI (q + k)) (by rw [gI_sL]; exact hn) ?_
        refine w_iconst hX dX4_readWord_66 kI_1 ?_
        refine w_iaddN hX dX4_readWord_67 ?_
        refine w_putI hX dX4_readWord_68 fo_RX4_50 rfl rfl rfl rfl (rd_s hrk.1) ?_
        refine w_goto (tgt := 0) hX dX4_readWord_71 (by decide) ?_
        refine ih (by omega) _ ((hsm.sL ⟨rfl, Or.inr rfl⟩).sI ⟨rfl, Or.inl rfl⟩) gI_same (by rw [gL_sI, gL_same]) (hrn.trans (rnS_y (by omega) hL))
  exact loop 0 (Nat.zero_le _) μ same.rf hn0 hw0 rfl
set_option maxHeartbeats 1000000 in
theorem s_r_number (Γ : Gm) (μ : Mem) (r t b : Nat) (s : Tp) (hr : RD μ r t b s) (htr : t + 1 < r) (hrb : r + 2 < b) (q : Nat) (hq : q ≤ s.2) (hn0 : gI μ r 4 = nI q) (hp0 : gI μ r 7 = nI q) (hw0 : gI μ r 8 = nI 0) : SpV Γ MX4_readNumber 1 0 0 [.ref r] μ (fun μ2 => gI μ2 r 4 = nI (rnS s isDg q) ∧ gI μ2 r 6 = nI (if rnS s isDg q - q > 4 then 1 else 3) ∧ gI μ2 r 8 = nI (nvl s q (rnS s isDg q - q)) ∧ same (fun o k => o = r ∧ (k = 4 ∨ k = 6 ∨ k = 8)) μ μ2) := by
  refine SpV.of okX4_readNumber rfl [some (.ref r)] ⟨rfl, trivial⟩ (leb rfl) (leb rfl) (fun X hX hE hnm => ?_)
  have loop : ∀ k, k ≤ s.2 - q → ∀ ν : Mem, (same (fun o k => o = r ∧ (k = 4 ∨ k = 8)) μ ν) → (gI ν r 4 = nI (q + k)) → (gI ν r 8 = nI (nvl s q k)) → (rnS s isDg q = rnS s isDg (q + k)) → WP Γ X 0 0 0 [some (.ref r)] [] ν := by
    refine loopU (s.2 - q) ?_
    intro k hk ih ν hsm hn hw hrn
    have hrk := hr.sm hsm (fun o k h => by omega)
    have hp : gI ν r 7 = nI q := by rw [(hsm.2.2 _ _ (fun h => by omega)).1]; exact hp0
    have hch : q + k < s.2 → s.1 (q + k) ≤ 126 := fun h => hr.ch h
    have hL1 := hr.2.2.2.2.2.1
    have j72 : rnS s isDg (q + k) = q + k → WP Γ X 0 0 72 [some (.ref r)] [] ν := by
      intro he
      rw [he] at hrn
      refine w_aload_n (i := 0) hX dX4_readNumber_72 rfl rfl ?_
      refine w_aload_n (i := 0) hX dX4_readNumber_73 rfl rfl ?_
      refine w_getI hX dX4_readNumber_74 fo_RX4_50 rfl (rd_s hrk.1) ?_
      refine w_top (y := nI (q + k)) hn ?_
      refine w_aload_n (i := 0) hX dX4_readNumber_77 rfl rfl ?_
      refine w_getI hX dX4_readNumber_78 fo_RX4_187 rfl (rd_s hrk.1) ?_
      refine w_top (y := nI q) hp ?_
      refine w_isubN hX dX4_readNumber_81 (by omega) ?_
      refine w_iconst hX dX4_readNumber_82 kI_4 ?_
      refine wn_icmp_le (tgt := 90) hX dX4_readNumber_83 (by decide) (by omega) (by omega) (fun c1 => ?_) (fun c1 => ?_)
      · refine w_iconst hX dX4_readNumber_90 kI_3 ?_
        refine w_putI hX dX4_readNumber_91 fo_RX4_62 rfl rfl rfl rfl (rd_s hrk.1) ?_
        exact w_vret hX hE dX4_readNumber_94 (Or.inl rfl) ⟨by rw [hrn, gI_nk (by omega)]; exact hn, by rw [gI_same, hrn, if_neg (by omega)], by rw [gI_nk (by omega), hrn, Nat.add_sub_cancel_left]; exact hw, (hsm.up (fun o k h => by omega)).sI ⟨rfl, Or.inr (Or.inl rfl)⟩⟩
      · refine w_iconst hX dX4_readNumber_86 kI_1 ?_
        refine w_goto (tgt := 91) hX dX4_readNumber_87 (by decide) ?_
        refine w_putI hX dX4_readNumber_91 fo_RX4_62 rfl rfl rfl rfl (rd_s hrk.1) ?_
        exact w_vret hX hE dX4_readNumber_94 (Or.inl rfl) ⟨by rw [hrn, gI_nk (by omega)]; exact hn, by rw [gI_same, hrn, if_pos (by omega)], by rw [gI_nk (by omega), hrn, Nat.add_sub_cancel_left]; exact hw, (hsm.up (fun o k h => by omega)).sI ⟨rfl, Or.inr (Or.inl rfl)⟩⟩
    refine w_aload_n (i := 0) hX dX4_readNumber_0 rfl rfl ?_
    refine w_getI hX dX4_readNumber_1 fo_RX4_50 rfl (rd_s hrk.1) ?_
    refine w_top (y := nI (q + k)) hn ?_
    refine w_aload_n (i := 0) hX dX4_readNumber_4 rfl rfl ?_
    refine w_getR (q := t) hX dX4_readNumber_5 fo_RX4_37 rfl (rd_s hrk.1) hrk.2.1 ?_
    refine w_getI hX dX4_readNumber_8 fo_RX4_190 rfl (tp_s hrk.2.2.2.2.1.1) ?_
    refine w_top (y := nI s.2) hrk.2.2.2.2.1.2.1 ?_
    refine wn_icmp_ge (tgt := 72) hX dX4_readNumber_11 (by decide) (by omega) (by omega) (fun c2 => ?_) (fun c2 => ?_)
    · exact j72 (rnS_n (fun h9 => by omega))
    · refine w_aload_n (i := 0) hX dX4_readNumber_14 rfl rfl ?_
      refine w_getR (q := t) hX dX4_readNumber_15 fo_RX4_37 rfl (rd_s hrk.1) hrk.2.1 ?_
      refine w_getR (q := t + 1) hX dX4_readNumber_18 fo_RX4_192 rfl (tp_s hrk.2.2.2.2.1.1) (tp_r0 hrk.2.2.2.2.1.1) ?_
      refine w_aload_n (i := 0) hX dX4_readNumber_21 rfl rfl ?_
      refine w_getI hX dX4_readNumber_22 fo_RX4_50 rfl (rd_s hrk.1) ?_
      refine w_top (y := nI (q + k)) hn ?_
      refine w_baldN hX dX4_readNumber_25 (tp_a1 hrk.2.2.2.2.1.1) (by omega) (by omega) ?_
      refine w_top (y := nI (s.1 (q + k))) (hrk.2.2.2.2.1.2.2 _ (by omega)) ?_
      refine w_callSI (As := [.int (nI (s.1 (q + k)))]) (rest := []) (k2 := 0) (n2 := 0) hX dX4_readNumber_26 (s_r_isD Γ ν (s.1 (q + k)) (by omega)) okX4_isDigit ml_RX4_202 stX4_isDigit rfl (leb rfl) (leb rfl) rfl rfl (fun r9 μ9 hq9 => ?_)
      obtain ⟨hr9, hm9⟩ := hq9; rw [hr9, hm9]; clear hr9 hm9 r9 μ9
      refine wb_eq (tgt := 72) hX dX4_readNumber_29 (by decide) (fun hL => ?_) (fun hL => ?_)
      · exact j72 (rnS_n (fun _ => hL))
      · have hc48 : 48 ≤ s.1 (q + k) := by unfold isDg at hL; simp only [Bool.and_eq_true, decide_eq_true_eq] at hL; exact hL.1
        refine w_aload_n (i := 0) hX dX4_readNumber_32 rfl rfl ?_
        refine w_aload_n (i := 0) hX dX4_readNumber_33 rfl rfl ?_
        refine w_getI hX dX4_readNumber_34 fo_RX4_114 rfl (rd_s hrk.1) ?_
        refine w_top (y := nI (nvl s q k)) hw ?_
        refine w_bipush hX dX4_readNumber_37 kB_10 ?_
        refine w_imulN hX dX4_readNumber_39 ?_
        refine w_aload_n (i := 0) hX dX4_readNumber_40 rfl rfl ?_
        refine w_getR (q := t) hX dX4_readNumber_41 fo_RX4_37 rfl (rd_s hrk.1) hrk.2.1 ?_
        refine w_getR (q := t + 1) hX dX4_readNumber_44 fo_RX4_192 rfl (tp_s hrk.2.2.2.2.1.1) (tp_r0 hrk.2.2.2.2.1.1) ?_
        refine w_aload_n (i := 0) hX dX4_readNumber_47 rfl rfl ?_
        refine w_getI hX dX4_readNumber_48 fo_RX4_50 rfl (rd_s hrk.1) ?_
        refine w_top (y := nI (q + k)) hn ?_
        refine w_baldN hX dX4_readNumber_51 (tp_a1 hrk.2.2.2.2.1.1) (by omega) (by omega) ?_
        refine w_top (y := nI (s.1 (q + k))) (hrk.2.2.2.2.1.2.2 _ (by omega)) ?_
        refine w_iaddN hX dX4_readNumber_52 ?_
        refine w_bipush hX dX4_readNumber_53 kB_48 ?_
        refine w_isubN hX dX4_readNumber_55 (by omega) ?_
        refine w_putI hX dX4_readNumber_56 fo_RX4_114 rfl rfl rfl rfl (rd_s hrk.1) ?_
        refine w_aload_n (i := 0) hX dX4_readNumber_59 rfl rfl ?_
        refine w_dup hX dX4_readNumber_60 rfl ?_
        refine w_getI hX dX4_readNumber_61 fo_RX4_50 rfl (rd_s hrk.1) ?_
        refine w_top (y := nI (q + k)) (by rw [gI_nk (by omega)]; exact hn) ?_
        refine w_iconst hX dX4_readNumber_64 kI_1 ?_
        refine w_iaddN hX dX4_readNumber_65 ?_
        refine w_putI hX dX4_readNumber_66 fo_RX4_50 rfl rfl rfl rfl (rd_s hrk.1) ?_
        refine w_goto (tgt := 0) hX dX4_readNumber_69 (by decide) ?_
        refine ih (by omega) _ ((hsm.sI ⟨rfl, Or.inr rfl⟩).sI ⟨rfl, Or.inl rfl⟩) gI_same (by rw [gI_nk (by omega), gI_same]; rfl) (hrn.trans (rnS_y (by omega) hL))
  exact loop 0 (Nat.zero_le _) μ same.rf hn0 hw0 rfl
set_option maxHeartbeats 1000000 in
theorem s_r_adv (Γ : Gm) (μ : Mem) (r t b : Nat) (s : Tp) (hr : RD μ r t b s) (htr : t + 1 < r) (hrb : r + 2 < b) (i : Nat) (hi : i ≤ s.2) (hn0 : gI μ r 4 = nI i) : SpV Γ MX4_advance 2 0 0 [.ref r] μ (fun μ2 => gI μ2 r 4 = nI (tkE s (tkP s i)) ∧ gI μ2 r 6 = nI (tkD s (tkP s i)) ∧ gI μ2 r 7 = nI (tkP s i) ∧ (tkD s (tkP s i) = 3 → gI μ2 r 8 = nI (nvl s (tkP s i) (rnS s isDg (tkP s i) - tkP s i))) ∧ (4 ≤ tkD s (tkP s i) → gL μ2 r 9 = lN (wcd s (tkP s i) (rnS s isLt (tkP s i) - tkP s i))) ∧ same (SA r) μ μ2) := by
  refine SpV.of okX4_advance rfl [some (.ref r)] ⟨rfl, trivial⟩ (leb rfl) (leb rfl) (fun X hX hE hnm => ?_)
  have loop : ∀ k, k ≤ s.2 - i → ∀ ν : Mem, (same (fun o k => o = r ∧ k = 4) μ ν) → (gI ν r 4 = nI (i + k)) → (rnS s isBl i = rnS s isBl (i + k)) → WP Γ X 0 0 0 [some (.ref r)] [] ν := by
    refine loopU (s.2 - i) ?_
    intro k hk ih ν hsm hn hrn
    have hrk := hr.sm hsm (fun o k h => by omega)
    have hch : i + k < s.2 → s.1 (i + k) ≤ 126 := fun h => hr.ch h
    have hL1 := hr.2.2.2.2.2.1
    have j61 : rnS s isBl (i + k) = i + k → WP Γ X 0 0 61 [some (.ref r)] [] ν := by
      intro he
      rw [he] at hrn
      have hpl : tkP s i = i + k := hrn
      refine w_aload_n (i := 0) hX dX4_advance_61 rfl rfl ?_
      refine w_aload_n (i := 0) hX dX4_advance_62 rfl rfl ?_
      refine w_getI hX dX4_advance_63 fo_RX4_50 rfl (rd_s hrk.1) ?_
      refine w_top (y := nI (i + k)) hn ?_
      refine w_putI hX dX4_advance_66 fo_RX4_187 rfl rfl rfl rfl (rd_s hrk.1) ?_
      refine w_aload_n (i := 0) hX dX4_advance_69 rfl rfl ?_
      refine w_iconst hX dX4_advance_70 kI_0 ?_
      refine w_putI hX dX4_advance_71 fo_RX4_114 rfl rfl rfl rfl (rd_s hrk.1) ?_
      refine w_aload_n (i := 0) hX dX4_advance_74 rfl rfl ?_
      refine w_lconst (v := 0) hX dX4_advance_75 rfl ?_
      refine w_putL hX dX4_advance_76 fo_RX4_165 rfl rfl rfl (rd_s hrk.1) ?_
      have hsB : same (fun o k => o = r ∧ (k = 7 ∨ k = 8 ∨ k = 9)) ν (sL (sI (sI ν r 7 (nI (i + k))) r 8 (nI 0)) r 9 (0 : Int64)) := ((same.rf.sI ⟨rfl, Or.inl rfl⟩).sI ⟨rfl, Or.inr (Or.inl rfl)⟩).sL ⟨rfl, Or.inr (Or.inr rfl)⟩
      have hrB := hrk.sm hsB (fun o k h => by omega)
      have hnB : gI (sL (sI (sI ν r 7 (nI (i + k))) r 8 (nI 0)) r 9 (0 : Int64)) r 4 = nI (i + k) := by rw [gI_sL, gI_nk (by omega), gI_nk (by omega)]; exact hn
      have hpB : gI (sL (sI (sI ν r 7 (nI (i + k))) r 8 (nI 0)) r 9 (0 : Int64)) r 7 = nI (i + k) := by rw [gI_sL, gI_nk (by omega), gI_same]
      have hsu : same (SA r) μ (sL (sI (sI ν r 7 (nI (i + k))) r 8 (nI 0)) r 9 (0 : Int64)) := (hsm.up (fun o k h => by unfold SA; omega)).tr (hsB.up (fun o k h => by unfold SA; omega))
      refine w_aload_n (i := 0) hX dX4_advance_79 rfl rfl ?_
      refine w_getI hX dX4_advance_80 fo_RX4_50 rfl (rd_s hrk.1) ?_
      refine w_top (y := nI (i + k)) (by rw [gI_sL, gI_nk (by omega), gI_nk (by omega)]; exact hn) ?_
      refine w_aload_n (i := 0) hX dX4_advance_83 rfl rfl ?_
      refine w_getR (q := t) hX dX4_advance_84 fo_RX4_37 rfl (rd_s hrk.1) hrk.2.1 ?_
      refine w_getI hX dX4_advance_87 fo_RX4_190 rfl (tp_s hrk.2.2.2.2.1.1) ?_
      refine w_top (y := nI s.2) (by rw [gI_sL, gI_no (by omega), gI_no (by omega)]; exact hrk.2.2.2.2.1.2.1) ?_
      refine wn_icmp_lt (tgt := 101) hX dX4_advance_90 (by decide) (by omega) (by omega) (fun c1 => ?_) (fun c1 => ?_)
      · refine w_aload_n (i := 0) hX dX4_advance_101 rfl rfl ?_
        refine w_getR (q := t) hX dX4_advance_102 fo_RX4_37 rfl (rd_s hrk.1) hrk.2.1 ?_
        refine w_getR (q := t + 1) hX dX4_advance_105 fo_RX4_192 rfl (tp_s hrk.2.2.2.2.1.1) (tp_r0 hrk.2.2.2.2.1.1) ?_
        refine w_aload_n (i := 0) hX dX4_advance_108 rfl rfl ?_
        refine w_getI hX dX4_advance_109 fo_RX4_50 rfl (rd_s hrk.1) ?_
        refine w_top (y := nI (i + k)) (by rw [gI_sL, gI_nk (by omega), gI_nk (by omega)]; exact hn) ?_
        refine w_baldN hX dX4_advance_112 (tp_a1 hrk.2.2.2.2.1.1) (by omega) (by omega) ?_
        refine w_top (y := nI (s.1 (i + k))) (by rw [gI_sL, gI_no (by omega), gI_no (by omega)]; exact hrk.2.2.2.2.1.2.2 _ (by omega)) ?_
        refine w_callSI (As := [.int (nI (s.1 (i + k)))]) (rest := []) (k2 := 0) (n2 := 0) hX dX4_advance_113 (s_r_isL Γ (sL (sI (sI ν r 7 (nI (i + k))) r 8 (nI 0)) r 9 ((0 : Int64))) (s.1 (i + k)) (by omega)) okX4_isLetter ml_RX4_196 stX4_isLetter rfl (leb rfl) (leb rfl) rfl rfl (fun r9 μ9 hq9 => ?_)
        obtain ⟨hr9, hm9⟩ := hq9; rw [hr9, hm9]; clear hr9 hm9 r9 μ9
        refine wb_eq (tgt := 126) hX dX4_advance_116 (by decide) (fun hL => ?_) (fun hL => ?_)
        · refine w_aload_n (i := 0) hX dX4_advance_126 rfl rfl ?_
          refine w_getR (q := t) hX dX4_advance_127 fo_RX4_37 rfl (rd_s hrk.1) hrk.2.1 ?_
          refine w_getR (q := t + 1) hX dX4_advance_130 fo_RX4_192 rfl (tp_s hrk.2.2.2.2.1.1) (tp_r0 hrk.2.2.2.2.1.1) ?_
          refine w_aload_n (i := 0) hX dX4_advance_133 rfl rfl ?_
          refine w_getI hX dX4_advance_134 fo_RX4_50 rfl (rd_s hrk.1) ?_
          refine w_top (y := nI (i + k)) (by rw [gI_sL, gI_nk (by omega), gI_nk (by omega)]; exact hn) ?_
          refine w_baldN hX dX4_advance_137 (tp_a1 hrk.2.2.2.2.1.1) (by omega) (by omega) ?_
          refine w_top (y := nI (s.1 (i + k))) (by rw [gI_sL, gI_no (by omega), gI_no (by omega)]; exact hrk.2.2.2.2.1.2.2 _ (by omega)) ?_
          refine w_callSI (As := [.int (nI (s.1 (i + k)))]) (rest := []) (k2 := 0) (n2 := 0) hX dX4_advance_138 (s_r_isD Γ (sL (sI (sI ν r 7 (nI (i + k))) r 8 (nI 0)) r 9 ((0 : Int64))) (s.1 (i + k)) (by omega)) okX4_isDigit ml_RX4_202 stX4_isDigit rfl (leb rfl) (leb rfl) rfl rfl (fun r9 μ9 hq9 => ?_)
          obtain ⟨hr9, hm9⟩ := hq9; rw [hr9, hm9]; clear hr9 hm9 r9 μ9
          refine wb_eq (tgt := 151) hX dX4_advance_141 (by decide) (fun hD => ?_) (fun hD => ?_)
          · refine w_aload_n (i := 0) hX dX4_advance_151 rfl rfl ?_
            refine w_aload_n (i := 0) hX dX4_advance_152 rfl rfl ?_
            refine w_getR (q := t) hX dX4_advance_153 fo_RX4_37 rfl (rd_s hrk.1) hrk.2.1 ?_
            refine w_getR (q := t + 1) hX dX4_advance_156 fo_RX4_192 rfl (tp_s hrk.2.2.2.2.1.1) (tp_r0 hrk.2.2.2.2.1.1) ?_
            refine w_aload_n (i := 0) hX dX4_advance_159 rfl rfl ?_
            refine w_getI hX dX4_advance_160 fo_RX4_50 rfl (rd_s hrk.1) ?_
            refine w_top (y := nI (i + k)) (by rw [gI_sL, gI_nk (by omega), gI_nk (by omega)]; exact hn) ?_
            refine w_baldN hX dX4_advance_163 (tp_a1 hrk.2.2.2.2.1.1) (by omega) (by omega) ?_
            refine w_top (y := nI (s.1 (i + k))) (by rw [gI_sL, gI_no (by omega), gI_no (by omega)]; exact hrk.2.2.2.2.1.2.2 _ (by omega)) ?_
            refine w_bipush hX dX4_advance_164 kB_59 ?_
            refine wn_icmp_ne (tgt := 173) hX dX4_advance_166 (by decide) (by omega) (by omega) (fun c4 => ?_) (fun c4 => ?_)
            · refine w_iconst hX dX4_advance_173 kI_1 ?_
              refine w_putI hX dX4_advance_174 fo_RX4_62 rfl rfl rfl rfl (rd_s hrk.1) ?_
              refine w_aload_n (i := 0) hX dX4_advance_177 rfl rfl ?_
              refine w_dup hX dX4_advance_178 rfl ?_
              refine w_getI hX dX4_advance_179 fo_RX4_50 rfl (rd_s hrk.1) ?_
              refine w_top (y := nI (i + k)) (by rw [gI_nk (by omega), gI_sL, gI_nk (by omega), gI_nk (by omega)]; exact hn) ?_
              refine w_iconst hX dX4_advance_182 kI_1 ?_
              refine w_iaddN hX dX4_advance_183 ?_
              refine w_putI hX dX4_advance_184 fo_RX4_50 rfl rfl rfl rfl (rd_s hrk.1) ?_
              have hkd : tkD s (i + k) = 1 := by unfold tkD; rw [if_neg (by omega), if_neg (by rw [hL]; decide), if_neg (by rw [hD]; decide), if_neg (by omega)]
              exact w_vret hX hE dX4_advance_187 (Or.inl rfl) ⟨by rw [hpl, gI_same]; unfold tkE; rw [if_neg (by omega), if_neg (by rw [hL]; decide), if_neg (by rw [hD]; decide)], by rw [hpl, gI_nk (by omega), gI_same, hkd], by rw [hpl, gI_nk (by omega), gI_nk (by omega)]; exact hpB, fun h9 => absurd h9 (by rw [hpl, hkd]; omega), fun h9 => absurd h9 (by rw [hpl, hkd]; omega), (hsu.sI ⟨rfl, by omega⟩).sI ⟨rfl, by omega⟩⟩
            · refine w_iconst hX dX4_advance_169 kI_2 ?_
              refine w_goto (tgt := 174) hX dX4_advance_170 (by decide) ?_
              refine w_putI hX dX4_advance_174 fo_RX4_62 rfl rfl rfl rfl (rd_s hrk.1) ?_
              refine w_aload_n (i := 0) hX dX4_advance_177 rfl rfl ?_
              refine w_dup hX dX4_advance_178 rfl ?_
              refine w_getI hX dX4_advance_179 fo_RX4_50 rfl (rd_s hrk.1) ?_
              refine w_top (y := nI (i + k)) (by rw [gI_nk (by omega), gI_sL, gI_nk (by omega), gI_nk (by omega)]; exact hn) ?_
              refine w_iconst hX dX4_advance_182 kI_1 ?_
              refine w_iaddN hX dX4_advance_183 ?_
              refine w_putI hX dX4_advance_184 fo_RX4_50 rfl rfl rfl rfl (rd_s hrk.1) ?_
              have hkd : tkD s (i + k) = 2 := by unfold tkD; rw [if_neg (by omega), if_neg (by rw [hL]; decide), if_neg (by rw [hD]; decide), if_pos (by omega)]
              exact w_vret hX hE dX4_advance_187 (Or.inl rfl) ⟨by rw [hpl, gI_same]; unfold tkE; rw [if_neg (by omega), if_neg (by rw [hL]; decide), if_neg (by rw [hD]; decide)], by rw [hpl, gI_nk (by omega), gI_same, hkd], by rw [hpl, gI_nk (by omega), gI_nk (by omega)]; exact hpB, fun h9 => absurd h9 (by rw [hpl, hkd]; omega), fun h9 => absurd h9 (by rw [hpl, hkd]; omega), (hsu.sI ⟨rfl, by omega⟩).sI ⟨rfl, by omega⟩⟩
          · refine w_aload_n (i := 0) hX dX4_advance_144 rfl rfl ?_
            refine w_callVV (As := []) (rest := []) (ci := 4) (o := r) (k2 := 0) (n2 := 0) hX dX4_advance_145 (s_r_number Γ (sL (sI (sI ν r 7 (nI (i + k))) r 8 (nI 0)) r 9 (0 : Int64)) r t b s hrB htr hrb (i + k) (by omega) hnB hpB (by rw [gI_sL, gI_same])) okX4_readNumber (ltb rfl) (rd_s hrk.1) ml_RX4_205 imX4_readNumber seX4_readNumber rfl (leb rfl) (leb rfl) rfl rfl (fun ν5 hq9 => ?_)
            obtain ⟨h5n, h5k, h5w, hs5⟩ := hq9
            refine w_goto (tgt := 187) hX dX4_advance_148 (by decide) ?_
            have hkd : tkD s (i + k) = if rnS s isDg (i + k) - (i + k) > 4 then 1 else 3 := by unfold tkD; rw [if_neg (by omega), if_neg (by rw [hL]; decide), if_pos hD]
            exact w_vret hX hE dX4_advance_187 (Or.inl rfl) ⟨by rw [hpl, h5n]; unfold tkE; rw [if_neg (by omega), if_neg (by rw [hL]; decide), if_pos hD], by rw [hpl, h5k, hkd], by rw [hpl, (hs5.2.2 _ _ (fun h => by omega)).1]; exact hpB, fun _ => by rw [hpl]; exact h5w, fun h9 => absurd h9 (by rw [hpl]; unfold tkD; rw [if_neg (by omega), if_neg (by rw [hL]; decide), if_pos hD]; split <;> omega), hsu.tr (hs5.up (fun o k h => by unfold SA; omega))⟩
        · refine w_aload_n (i := 0) hX dX4_advance_119 rfl rfl ?_
          refine w_callVV (As := []) (rest := []) (ci := 4) (o := r) (k2 := 0) (n2 := 0) hX dX4_advance_120 (s_r_word Γ (sL (sI (sI ν r 7 (nI (i + k))) r 8 (nI 0)) r 9 (0 : Int64)) r t b s hrB htr hrb (i + k) (by omega) hnB hpB (by rw [gL_same]; rfl)) okX4_readWord (ltb rfl) (rd_s hrk.1) ml_RX4_199 imX4_readWord seX4_readWord rfl (leb rfl) (leb rfl) rfl rfl (fun ν5 hq9 => ?_)
          obtain ⟨h5n, h5k, h5w, hs5⟩ := hq9
          refine w_goto (tgt := 187) hX dX4_advance_123 (by decide) ?_
          have hkd : tkD s (i + k) = if rnS s isLt (i + k) - (i + k) > 8 then 1 else kwd (wcd s (i + k) (rnS s isLt (i + k) - (i + k))) := by unfold tkD; rw [if_neg (by omega), if_pos hL]
          exact w_vret hX hE dX4_advance_187 (Or.inl rfl) ⟨by rw [hpl, h5n]; unfold tkE; rw [if_neg (by omega), if_pos hL], by rw [hpl, h5k, hkd], by rw [hpl, (hs5.2.2 _ _ (fun h => by omega)).1]; exact hpB, fun h9 => absurd h9 (by rw [hpl]; unfold tkD kwd; rw [if_neg (by omega), if_pos hL]; have := (kwf_ge (w := wcd s (i + k) (rnS s isLt (i + k) - (i + k))) 18 0).1; split <;> omega), fun _ => by rw [hpl]; exact h5w, hsu.tr (hs5.up (fun o k h => by unfold SA; omega))⟩
      · refine w_aload_n (i := 0) hX dX4_advance_93 rfl rfl ?_
        refine w_iconst hX dX4_advance_94 kI_0 ?_
        refine w_putI hX dX4_advance_95 fo_RX4_62 rfl rfl rfl rfl (rd_s hrk.1) ?_
        refine w_goto (tgt := 187) hX dX4_advance_98 (by decide) ?_
        have hkd : tkD s (i + k) = 0 := by unfold tkD; rw [if_pos (by omega)]
        exact w_vret hX hE dX4_advance_187 (Or.inl rfl) ⟨by rw [hpl, gI_nk (by omega)]; unfold tkE; rw [if_pos (by omega)]; exact hnB, by rw [hpl, gI_same, hkd], by rw [hpl, gI_nk (by omega)]; exact hpB, fun h9 => absurd h9 (by rw [hpl, hkd]; omega), fun h9 => absurd h9 (by rw [hpl, hkd]; omega), hsu.sI ⟨rfl, by omega⟩⟩
    refine w_aload_n (i := 0) hX dX4_advance_0 rfl rfl ?_
    refine w_getI hX dX4_advance_1 fo_RX4_50 rfl (rd_s hrk.1) ?_
    refine w_top (y := nI (i + k)) hn ?_
    refine w_aload_n (i := 0) hX dX4_advance_4 rfl rfl ?_
    refine w_getR (q := t) hX dX4_advance_5 fo_RX4_37 rfl (rd_s hrk.1) hrk.2.1 ?_
    refine w_getI hX dX4_advance_8 fo_RX4_190 rfl (tp_s hrk.2.2.2.2.1.1) ?_
    refine w_top (y := nI s.2) hrk.2.2.2.2.1.2.1 ?_
    refine wn_icmp_ge (tgt := 61) hX dX4_advance_11 (by decide) (by omega) (by omega) (fun c5 => ?_) (fun c5 => ?_)
    · exact j61 (rnS_n (fun h9 => by omega))
    · refine w_aload_n (i := 0) hX dX4_advance_14 rfl rfl ?_
      refine w_getR (q := t) hX dX4_advance_15 fo_RX4_37 rfl (rd_s hrk.1) hrk.2.1 ?_
      refine w_getR (q := t + 1) hX dX4_advance_18 fo_RX4_192 rfl (tp_s hrk.2.2.2.2.1.1) (tp_r0 hrk.2.2.2.2.1.1) ?_
      refine w_aload_n (i := 0) hX dX4_advance_21 rfl rfl ?_
      refine w_getI hX dX4_advance_22 fo_RX4_50 rfl (rd_s hrk.1) ?_
      refine w_top (y := nI (i + k)) hn ?_
      refine w_baldN hX dX4_advance_25 (tp_a1 hrk.2.2.2.2.1.1) (by omega) (by omega) ?_
      refine w_top (y := nI (s.1 (i + k))) (hrk.2.2.2.2.1.2.2 _ (by omega)) ?_
      refine w_bipush hX dX4_advance_26 kB_32 ?_
      refine wn_icmp_eq (tgt := 48) hX dX4_advance_28 (by decide) (by omega) (by omega) (fun c6 => ?_) (fun c6 => ?_)
      · refine w_aload_n (i := 0) hX dX4_advance_48 rfl rfl ?_
        refine w_dup hX dX4_advance_49 rfl ?_
        refine w_getI hX dX4_advance_50 fo_RX4_50 rfl (rd_s hrk.1) ?_
        refine w_top (y := nI (i + k)) hn ?_
        refine w_iconst hX dX4_advance_53 kI_1 ?_
        refine w_iaddN hX dX4_advance_54 ?_
        refine w_putI hX dX4_advance_55 fo_RX4_50 rfl rfl rfl rfl (rd_s hrk.1) ?_
        refine w_goto (tgt := 0) hX dX4_advance_58 (by decide) ?_
        refine ih (by omega) _ (hsm.sI ⟨rfl, rfl⟩) gI_same (hrn.trans (rnS_y (by omega) (by unfold isBl; simp; omega)))
      · refine w_aload_n (i := 0) hX dX4_advance_31 rfl rfl ?_
        refine w_getR (q := t) hX dX4_advance_32 fo_RX4_37 rfl (rd_s hrk.1) hrk.2.1 ?_
        refine w_getR (q := t + 1) hX dX4_advance_35 fo_RX4_192 rfl (tp_s hrk.2.2.2.2.1.1) (tp_r0 hrk.2.2.2.2.1.1) ?_
        refine w_aload_n (i := 0) hX dX4_advance_38 rfl rfl ?_
        refine w_getI hX dX4_advance_39 fo_RX4_50 rfl (rd_s hrk.1) ?_
        refine w_top (y := nI (i + k)) hn ?_
        refine w_baldN hX dX4_advance_42 (tp_a1 hrk.2.2.2.2.1.1) (by omega) (by omega) ?_
        refine w_top (y := nI (s.1 (i + k))) (hrk.2.2.2.2.1.2.2 _ (by omega)) ?_
        refine w_bipush hX dX4_advance_43 kB_10 ?_
        refine wn_icmp_ne (tgt := 61) hX dX4_advance_45 (by decide) (by omega) (by omega) (fun c7 => ?_) (fun c7 => ?_)
        · exact j61 (rnS_n (fun _ => by unfold isBl; simp; omega))
        · refine w_aload_n (i := 0) hX dX4_advance_48 rfl rfl ?_
          refine w_dup hX dX4_advance_49 rfl ?_
          refine w_getI hX dX4_advance_50 fo_RX4_50 rfl (rd_s hrk.1) ?_
          refine w_top (y := nI (i + k)) hn ?_
          refine w_iconst hX dX4_advance_53 kI_1 ?_
          refine w_iaddN hX dX4_advance_54 ?_
          refine w_putI hX dX4_advance_55 fo_RX4_50 rfl rfl rfl rfl (rd_s hrk.1) ?_
          refine w_goto (tgt := 0) hX dX4_advance_58 (by decide) ?_
          refine ih (by omega) _ (hsm.sI ⟨rfl, rfl⟩) gI_same (hrn.trans (rnS_y (by omega) (by unfold isBl; simp; omega)))
  exact loop 0 (Nat.zero_le _) μ same.rf hn0 rfl
theorem s_r_advance (Γ : Gm) (μ : Mem) (r t b : Nat) (s : Tp) (hr : RD μ r t b s) (htr : t + 1 < r) (hrb : r + 2 < b) (n : Nat) (hn : gI μ r 4 = nI (ps s n)) : SpV Γ MX4_advance 2 0 0 [.ref r] μ (fun μ2 => RS μ2 r s n ∧ same (SA r) μ μ2) := by
  have h := s_r_adv Γ μ r t b s hr htr hrb (ps s n) (ps_le n) hn
  have e : (fun μ2 : Mem => RS μ2 r s n ∧ same (SA r) μ μ2) = fun μ2 => gI μ2 r 4 = nI (tkE s (tkP s (ps s n))) ∧ gI μ2 r 6 = nI (tkD s (tkP s (ps s n))) ∧ gI μ2 r 7 = nI (tkP s (ps s n)) ∧ (tkD s (tkP s (ps s n)) = 3 → gI μ2 r 8 = nI (nvl s (tkP s (ps s n)) (rnS s isDg (tkP s (ps s n)) - tkP s (ps s n)))) ∧ (4 ≤ tkD s (tkP s (ps s n)) → gL μ2 r 9 = lN (wcd s (tkP s (ps s n)) (rnS s isLt (tkP s (ps s n)) - tkP s (ps s n)))) ∧ same (SA r) μ μ2 := by
    funext μ2
    apply propext
    constructor
    · rintro ⟨⟨a, b, c, d, e⟩, f⟩; exact ⟨a, b, c, d, e, f⟩
    · rintro ⟨a, b, c, d, e, f⟩; exact ⟨⟨a, b, c, d, e⟩, f⟩
  rw [e]
  exact h
