/-! the reference cuts the text into tokens -/
def rch (s : Tp) (j : Nat) : Prop := ∀ i, i < j → kd s i ≠ 0
theorem rch_S {s : Tp} {j : Nat} (h : rch s j) (hk : kd s j ≠ 0) : rch s (j + 1) := by
  intro i hi
  by_cases e : i = j
  · rw [e]; exact hk
  · exact h i (by omega)
theorem rch_le {s : Tp} (hs : okT s) : ∀ j, rch s j → j ≤ ps s j ∧ j ≤ 1000 := by
  have key : ∀ j, rch s j → j ≤ ps s j := by
    intro j
    induction j with
    | zero => intro _; exact Nat.zero_le _
    | succ j ih =>
      intro h
      have h1 := ih (fun i hi => h i (by omega))
      have h2 := (ps_lt (h j (by omega))).1
      omega
  intro j h
  have h1 := key j h
  have h2 := ps_le (s := s) j
  have h3 := hs.1
  exact ⟨h1, by omega⟩
def TOK (μ : Mem) (m : Nat) (s : Tp) (j : Nat) : Prop := ∃ z, gI μ (m + 2) j = nI z ∧ z ≤ 4 ∧ (z = 0 ↔ kd s j = 0) ∧ (z = 1 ↔ 4 ≤ kd s j) ∧ (z = 2 ↔ kd s j = 3) ∧ (kd s j = 2 → z = 3) ∧ gI μ (m + 3) j = nI (pl s j) ∧ (4 ≤ kd s j → gL μ (m + 4) j = lN (phi (wd s j))) ∧ (kd s j = 3 → gL μ (m + 4) j = lN (vl s j)) ∧ (z = 3 → ∃ c, c ≤ 126 ∧ gL μ (m + 4) j = lN c ∧ (c = 59 ↔ kd s j = 2))
theorem TOK.sm {S : Nat → Nat → Prop} {μ ν : Mem} {m j : Nat} {s : Tp} (h : TOK μ m s j) (hs : same S μ ν) (h2 : ¬ S (m + 2) j) (h3 : ¬ S (m + 3) j) (h4 : ¬ S (m + 4) j) : TOK ν m s j := by
  obtain ⟨z, a, b, c, d, e, f, g, i, k, l⟩ := h
  exact ⟨z, by rw [(hs.2.2 _ _ h2).1]; exact a, b, c, d, e, f, by rw [(hs.2.2 _ _ h3).1]; exact g, fun h => by rw [(hs.2.2 _ _ h4).2]; exact i h, fun h => by rw [(hs.2.2 _ _ h4).2]; exact k h, fun h => by rw [(hs.2.2 _ _ h4).2]; exact l h⟩
def mv37 (s : Tp) (q : Nat) : Nat → Nat
  | 0 => 0
  | e + 1 => if e < 8 then 37 * mv37 s q e + (s.1 (q + e) - 96) else mv37 s q e
def mv10 (s : Tp) (q : Nat) : Nat → Nat
  | 0 => 0
  | e + 1 => if e < 4 then 10 * mv10 s q e + s.1 (q + e) - 48 else mv10 s q e
theorem mv10_eq {s : Tp} {q : Nat} : ∀ e, e ≤ 4 → mv10 s q e = nvl s q e := by
  intro e
  induction e with
  | zero => intro _; rfl
  | succ e ih =>
    intro h
    simp only [mv10, nvl]
    rw [if_pos (by omega), ih (by omega), Nat.mul_comm]
theorem mv37_eq {s : Tp} {q : Nat} : ∀ e, e ≤ 8 → (∀ j, j < e → isLt (s.1 (q + j)) = true) → mv37 s q e = phF e (wcd s q e) := by
  intro e
  induction e with
  | zero => intro _ _; rfl
  | succ e ih =>
    intro h hl
    have h1 := hl e (by omega)
    simp only [isLt, Bool.and_eq_true, decide_eq_true_eq] at h1
    simp only [mv37, wcd, phF]
    rw [if_pos (by omega), ih (by omega) (fun j hj => hl j (by omega))]
    rw [show (wcd s q e * 32 + (s.1 (q + e) - 96)) / 32 = wcd s q e by omega, show (wcd s q e * 32 + (s.1 (q + e) - 96)) % 32 = s.1 (q + e) - 96 by omega]
theorem mv37_phi {s : Tp} {q e : Nat} (h : e ≤ 8) (hl : ∀ j, j < e → isLt (s.1 (q + j)) = true) : mv37 s q e = phi (wcd s q e) := by
  rw [mv37_eq e h hl]
  unfold phi
  have := phF_more e (8 - e) (wcd s q e) (wcd_lt e hl)
  rw [show e + (8 - e) = 8 by omega] at this
  exact this.symm
def sgn (c : Nat) : Bool := decide (c = 40) || (decide (c = 41) || (decide (c = 59) || (decide (c = 61) || (decide (c = 60) || (decide (c = 43) || (decide (c = 45) || decide (c = 42)))))))
set_option maxHeartbeats 1000000 in
theorem s_m_isL (Γ : Gm) (μ : Mem) (c : Nat) (hc : c < 2 ^ 31) : SpI Γ MX9_isLetter 0 0 0 [.int (nI c)] μ (fun r μ2 => r = bI (isLt c) ∧ μ2 = μ) := by
  refine SpI.of okX9_isLetter rfl [some (.int (nI c))] ⟨rfl, trivial⟩ (leb rfl) (leb rfl) (fun X hX hE hnm => ?_)
  refine w_iload_n (i := 0) hX dX9_isLetter_0 rfl rfl ?_
  refine w_bipush hX dX9_isLetter_1 kB_97 ?_
  refine wn_icmp_lt (tgt := 16) hX dX9_isLetter_3 (by decide) (by omega) (by omega) (fun c1 => ?_) (fun c1 => ?_)
  · refine w_iconst hX dX9_isLetter_16 kI_0 ?_
    exact w_iret hX hE dX9_isLetter_17 (Or.inl rfl) rfl ⟨bI_2 (by simp only [isLt, Bool.and_eq_true, Bool.and_eq_false_iff, decide_eq_true_eq, decide_eq_false_iff_not]; omega), rfl⟩
  · refine w_iload_n (i := 0) hX dX9_isLetter_6 rfl rfl ?_
    refine w_bipush hX dX9_isLetter_7 kB_122 ?_
    refine wn_icmp_gt (tgt := 16) hX dX9_isLetter_9 (by decide) (by omega) (by omega) (fun c2 => ?_) (fun c2 => ?_)
    · refine w_iconst hX dX9_isLetter_16 kI_0 ?_
      exact w_iret hX hE dX9_isLetter_17 (Or.inl rfl) rfl ⟨bI_2 (by simp only [isLt, Bool.and_eq_true, Bool.and_eq_false_iff, decide_eq_true_eq, decide_eq_false_iff_not]; omega), rfl⟩
    · refine w_iconst hX dX9_isLetter_12 kI_1 ?_
      refine w_goto (tgt := 17) hX dX9_isLetter_13 (by decide) ?_
      exact w_iret hX hE dX9_isLetter_17 (Or.inl rfl) rfl ⟨bI_1 (by simp only [isLt, Bool.and_eq_true, Bool.and_eq_false_iff, decide_eq_true_eq, decide_eq_false_iff_not]; omega), rfl⟩
set_option maxHeartbeats 1000000 in
theorem s_m_isD (Γ : Gm) (μ : Mem) (c : Nat) (hc : c < 2 ^ 31) : SpI Γ MX9_isDigit 0 0 0 [.int (nI c)] μ (fun r μ2 => r = bI (isDg c) ∧ μ2 = μ) := by
  refine SpI.of okX9_isDigit rfl [some (.int (nI c))] ⟨rfl, trivial⟩ (leb rfl) (leb rfl) (fun X hX hE hnm => ?_)
  refine w_iload_n (i := 0) hX dX9_isDigit_0 rfl rfl ?_
  refine w_bipush hX dX9_isDigit_1 kB_48 ?_
  refine wn_icmp_lt (tgt := 16) hX dX9_isDigit_3 (by decide) (by omega) (by omega) (fun c1 => ?_) (fun c1 => ?_)
  · refine w_iconst hX dX9_isDigit_16 kI_0 ?_
    exact w_iret hX hE dX9_isDigit_17 (Or.inl rfl) rfl ⟨bI_2 (by simp only [isDg, Bool.and_eq_true, Bool.and_eq_false_iff, decide_eq_true_eq, decide_eq_false_iff_not]; omega), rfl⟩
  · refine w_iload_n (i := 0) hX dX9_isDigit_6 rfl rfl ?_
    refine w_bipush hX dX9_isDigit_7 kB_57 ?_
    refine wn_icmp_gt (tgt := 16) hX dX9_isDigit_9 (by decide) (by omega) (by omega) (fun c2 => ?_) (fun c2 => ?_)
    · refine w_iconst hX dX9_isDigit_16 kI_0 ?_
      exact w_iret hX hE dX9_isDigit_17 (Or.inl rfl) rfl ⟨bI_2 (by simp only [isDg, Bool.and_eq_true, Bool.and_eq_false_iff, decide_eq_true_eq, decide_eq_false_iff_not]; omega), rfl⟩
    · refine w_iconst hX dX9_isDigit_12 kI_1 ?_
      refine w_goto (tgt := 17) hX dX9_isDigit_13 (by decide) ?_
      exact w_iret hX hE dX9_isDigit_17 (Or.inl rfl) rfl ⟨bI_1 (by simp only [isDg, Bool.and_eq_true, Bool.and_eq_false_iff, decide_eq_true_eq, decide_eq_false_iff_not]; omega), rfl⟩
set_option maxHeartbeats 1000000 in
theorem s_m_isSgn (Γ : Gm) (μ : Mem) (c : Nat) (hc : c < 2 ^ 31) : SpI Γ MX9_isSignOf 0 0 0 [.int (nI c)] μ (fun r μ2 => r = bI (sgn c) ∧ μ2 = μ) := by
  refine SpI.of okX9_isSignOf rfl [some (.int (nI c))] ⟨rfl, trivial⟩ (leb rfl) (leb rfl) (fun X hX hE hnm => ?_)
  refine w_iload_n (i := 0) hX dX9_isSignOf_0 rfl rfl ?_
  refine w_bipush hX dX9_isSignOf_1 kB_40 ?_
  refine wn_icmp_eq (tgt := 48) hX dX9_isSignOf_3 (by decide) (by omega) (by omega) (fun c1 => ?_) (fun c1 => ?_)
  · refine w_iconst hX dX9_isSignOf_48 kI_1 ?_
    refine w_goto (tgt := 53) hX dX9_isSignOf_49 (by decide) ?_
    exact w_iret hX hE dX9_isSignOf_53 (Or.inl rfl) rfl ⟨bI_1 (by simp only [sgn, Bool.or_eq_true, Bool.or_eq_false_iff, decide_eq_true_eq, decide_eq_false_iff_not]; omega), rfl⟩
  · refine w_iload_n (i := 0) hX dX9_isSignOf_6 rfl rfl ?_
    refine w_bipush hX dX9_isSignOf_7 kB_41 ?_
    refine wn_icmp_eq (tgt := 48) hX dX9_isSignOf_9 (by decide) (by omega) (by omega) (fun c2 => ?_) (fun c2 => ?_)
    · refine w_iconst hX dX9_isSignOf_48 kI_1 ?_
      refine w_goto (tgt := 53) hX dX9_isSignOf_49 (by decide) ?_
      exact w_iret hX hE dX9_isSignOf_53 (Or.inl rfl) rfl ⟨bI_1 (by simp only [sgn, Bool.or_eq_true, Bool.or_eq_false_iff, decide_eq_true_eq, decide_eq_false_iff_not]; omega), rfl⟩
    · refine w_iload_n (i := 0) hX dX9_isSignOf_12 rfl rfl ?_
      refine w_bipush hX dX9_isSignOf_13 kB_59 ?_
      refine wn_icmp_eq (tgt := 48) hX dX9_isSignOf_15 (by decide) (by omega) (by omega) (fun c3 => ?_) (fun c3 => ?_)
      · refine w_iconst hX dX9_isSignOf_48 kI_1 ?_
        refine w_goto (tgt := 53) hX dX9_isSignOf_49 (by decide) ?_
        exact w_iret hX hE dX9_isSignOf_53 (Or.inl rfl) rfl ⟨bI_1 (by simp only [sgn, Bool.or_eq_true, Bool.or_eq_false_iff, decide_eq_true_eq, decide_eq_false_iff_not]; omega), rfl⟩
      · refine w_iload_n (i := 0) hX dX9_isSignOf_18 rfl rfl ?_
        refine w_bipush hX dX9_isSignOf_19 kB_61 ?_
        refine wn_icmp_eq (tgt := 48) hX dX9_isSignOf_21 (by decide) (by omega) (by omega) (fun c4 => ?_) (fun c4 => ?_)
        · refine w_iconst hX dX9_isSignOf_48 kI_1 ?_
          refine w_goto (tgt := 53) hX dX9_isSignOf_49 (by decide) ?_
          exact w_iret hX hE dX9_isSignOf_53 (Or.inl rfl) rfl ⟨bI_1 (by simp only [sgn, Bool.or_eq_true, Bool.or_eq_false_iff, decide_eq_true_eq, decide_eq_false_iff_not]; omega), rfl⟩
        · refine w_iload_n (i := 0) hX dX9_isSignOf_24 rfl rfl ?_
          refine w_bipush hX dX9_isSignOf_25 kB_60 ?_
          refine wn_icmp_eq (tgt := 48) hX dX9_isSignOf_27 (by decide) (by omega) (by omega) (fun c5 => ?_) (fun c5 => ?_)
          · refine w_iconst hX dX9_isSignOf_48 kI_1 ?_
            refine w_goto (tgt := 53) hX dX9_isSignOf_49 (by decide) ?_
            exact w_iret hX hE dX9_isSignOf_53 (Or.inl rfl) rfl ⟨bI_1 (by simp only [sgn, Bool.or_eq_true, Bool.or_eq_false_iff, decide_eq_true_eq, decide_eq_false_iff_not]; omega), rfl⟩
          · refine w_iload_n (i := 0) hX dX9_isSignOf_30 rfl rfl ?_
            refine w_bipush hX dX9_isSignOf_31 kB_43 ?_
            refine wn_icmp_eq (tgt := 48) hX dX9_isSignOf_33 (by decide) (by omega) (by omega) (fun c6 => ?_) (fun c6 => ?_)
            · refine w_iconst hX dX9_isSignOf_48 kI_1 ?_
              refine w_goto (tgt := 53) hX dX9_isSignOf_49 (by decide) ?_
              exact w_iret hX hE dX9_isSignOf_53 (Or.inl rfl) rfl ⟨bI_1 (by simp only [sgn, Bool.or_eq_true, Bool.or_eq_false_iff, decide_eq_true_eq, decide_eq_false_iff_not]; omega), rfl⟩
            · refine w_iload_n (i := 0) hX dX9_isSignOf_36 rfl rfl ?_
              refine w_bipush hX dX9_isSignOf_37 kB_45 ?_
              refine wn_icmp_eq (tgt := 48) hX dX9_isSignOf_39 (by decide) (by omega) (by omega) (fun c7 => ?_) (fun c7 => ?_)
              · refine w_iconst hX dX9_isSignOf_48 kI_1 ?_
                refine w_goto (tgt := 53) hX dX9_isSignOf_49 (by decide) ?_
                exact w_iret hX hE dX9_isSignOf_53 (Or.inl rfl) rfl ⟨bI_1 (by simp only [sgn, Bool.or_eq_true, Bool.or_eq_false_iff, decide_eq_true_eq, decide_eq_false_iff_not]; omega), rfl⟩
              · refine w_iload_n (i := 0) hX dX9_isSignOf_42 rfl rfl ?_
                refine w_bipush hX dX9_isSignOf_43 kB_42 ?_
                refine wn_icmp_ne (tgt := 52) hX dX9_isSignOf_45 (by decide) (by omega) (by omega) (fun c8 => ?_) (fun c8 => ?_)
                · refine w_iconst hX dX9_isSignOf_52 kI_0 ?_
                  exact w_iret hX hE dX9_isSignOf_53 (Or.inl rfl) rfl ⟨bI_2 (by simp only [sgn, Bool.or_eq_true, Bool.or_eq_false_iff, decide_eq_true_eq, decide_eq_false_iff_not]; omega), rfl⟩
                · refine w_iconst hX dX9_isSignOf_48 kI_1 ?_
                  refine w_goto (tgt := 53) hX dX9_isSignOf_49 (by decide) ?_
                  exact w_iret hX hE dX9_isSignOf_53 (Or.inl rfl) rfl ⟨bI_1 (by simp only [sgn, Bool.or_eq_true, Bool.or_eq_false_iff, decide_eq_true_eq, decide_eq_false_iff_not]; omega), rfl⟩
set_option maxHeartbeats 1000000 in
theorem s_m_rank (Γ : Gm) (μ : Mem) (c : Nat) (hc : c < 2 ^ 31) (hl : isLt c = true) : SpI Γ MX9_rank 1 0 0 [.int (nI c)] μ (fun r μ2 => r = nI (c - 96) ∧ μ2 = μ) := by
  refine SpI.of okX9_rank rfl [some (.int (nI c))] ⟨rfl, trivial⟩ (leb rfl) (leb rfl) (fun X hX hE hnm => ?_)
  refine w_iload_n (i := 0) hX dX9_rank_0 rfl rfl ?_
  refine w_callSI (As := [.int (nI c)]) (rest := []) (k2 := 0) (n2 := 0) hX dX9_rank_1 (s_m_isL Γ μ c (by omega)) okX9_isLetter ml_RX9_128 stX9_isLetter rfl (leb rfl) (leb rfl) rfl rfl (fun r9 μ9 hq9 => ?_)
  obtain ⟨hr9, hm9⟩ := hq9; rw [hr9, hm9]; clear hr9 hm9 r9 μ9
  refine wb_eq (tgt := 14) hX dX9_rank_4 (by decide) (fun hL => ?_) (fun hL => ?_)
  · exact absurd (hl.symm.trans hL) (by decide)
  · have hl2 := hl; simp only [isLt, Bool.and_eq_true, decide_eq_true_eq] at hl2
    refine w_iload_n (i := 0) hX dX9_rank_7 rfl rfl ?_
    refine w_bipush hX dX9_rank_8 kB_96 ?_
    refine w_isubN hX dX9_rank_10 (by omega) ?_
    refine w_goto (tgt := 18) hX dX9_rank_11 (by decide) ?_
    exact w_iret hX hE dX9_rank_18 (Or.inl rfl) rfl ⟨rfl, rfl⟩
set_option maxHeartbeats 1000000 in
theorem s_m_cut (Γ : Gm) (μ : Mem) (m : Nat) (s : Tp) (ht : mtR μ m s) (hs : okT s) : SpV Γ MX9_cutAll 2 0 0 [.ref m] μ (fun μ2 => (∀ j, rch s j → TOK μ2 m s j) ∧ gI μ2 m 8 = nI 0 ∧ gI μ2 m 7 = nI 0 ∧ gI μ2 m 2 = nI 0 ∧ same (fun o k => (o = m ∧ (k = 2 ∨ k = 3 ∨ k = 7 ∨ k = 8)) ∨ o = m + 2 ∨ o = m + 3 ∨ o = m + 4) μ μ2) := by
  refine SpV.of okX9_cutAll rfl [some (.ref m), none, none, none, none, none, none] ⟨rfl, trivial⟩ (leb rfl) (leb rfl) (fun X hX hE hnm => ?_)
  have hm := ht.1
  refine w_aload_n (i := 0) hX dX9_cutAll_0 rfl rfl ?_
  refine w_aload_n (i := 0) hX dX9_cutAll_1 rfl rfl ?_
  refine w_getI hX dX9_cutAll_2 fo_RX9_11 rfl (mod_s hm) ?_
  refine w_top (y := nI s.2) ht.2.1 ?_
  refine w_putI hX dX9_cutAll_5 fo_RX9_132 rfl rfl rfl rfl (mod_s hm) ?_
  refine w_aload_n (i := 0) hX dX9_cutAll_8 rfl rfl ?_
  refine w_iconst hX dX9_cutAll_9 kI_0 ?_
  refine w_putI hX dX9_cutAll_10 fo_RX9_11 rfl rfl rfl rfl (mod_s hm) ?_
  refine w_iconst hX dX9_cutAll_13 kI_0 ?_
  refine w_istore_n (i := 1) (l2 := [some (.ref m), some (.int (nI 0)), none, none, none, none, none]) hX dX9_cutAll_14 rfl (ltb rfl) rfl rfl ?_
  refine w_iconst hX dX9_cutAll_15 kI_0 ?_
  refine w_istore_n (i := 2) (l2 := [some (.ref m), some (.int (nI 0)), some (.int (nI 0)), none, none, none, none]) hX dX9_cutAll_16 rfl (ltb rfl) rfl rfl ?_
  have hL1 := hs.1
  have loop : ∀ q j k, ∀ ν : Mem, k + q = s.2 → rch s j → ps s j ≤ k → rnS s isBl k = pl s j → same (fun o _ => o = m + 2 ∨ o = m + 3 ∨ o = m + 4) (sI (sI μ m 3 (nI s.2)) m 2 (nI 0)) ν → (∀ i, i < j → TOK ν m s i) → WP Γ X 0 0 17 [some (.ref m), some (.int (nI j)), some (.int (nI k)), none, none, none, none] [] ν := by
    intro q
    induction q using Nat.strongRecOn with
    | ind q ih =>
      intro j k ν hkq hrc hpk hbl hsm htk
      have hmk : isMod ν m := hsm.isMod (show isMod (sI (sI μ m 3 (nI s.2)) m 2 (nI 0)) m from hm)
      have hsz : gI ν m 3 = nI s.2 := by rw [(hsm.2.2 _ _ (fun h => by omega)).1, gI_nk (by omega), gI_same]
      have htape : ∀ i, i < s.2 → gI ν (m + 1) i = nI (s.1 i) := fun i hi => by rw [(hsm.2.2 _ _ (fun h => by omega)).1, gI_no (by omega), gI_no (by omega)]; exact ht.2.2 i hi
      have hj1 := rch_le hs j hrc
      have hch : k < s.2 → s.1 k ≤ 126 := fun h => (okS_lt (hs.2 k h)).2
      refine w_iload_n (i := 2) hX dX9_cutAll_17 rfl rfl ?_
      refine w_aload_n (i := 0) hX dX9_cutAll_18 rfl rfl ?_
      refine w_getI hX dX9_cutAll_19 fo_RX9_132 rfl (mod_s hmk) ?_
      refine w_top (y := nI s.2) hsz ?_
      refine wn_icmp_ge (tgt := 279) hX dX9_cutAll_22 (by decide) (by omega) (by omega) (fun c1 => ?_) (fun c1 => ?_)
      · refine w_aload_n (i := 0) hX dX9_cutAll_279 rfl rfl ?_
        refine w_getR (q := m + 2) hX dX9_cutAll_280 fo_RX9_24 rfl (mod_s hmk) (mod_r4 hmk) ?_
        refine w_iload_n (i := 1) hX dX9_cutAll_283 rfl rfl ?_
        refine w_iconst hX dX9_cutAll_284 kI_0 ?_
        refine w_iastN hX dX9_cutAll_285 (mod_a2 hmk) (by omega) (by omega) ?_
        refine w_aload_n (i := 0) hX dX9_cutAll_286 rfl rfl ?_
        refine w_getR (q := m + 3) hX dX9_cutAll_287 fo_RX9_27 rfl (mod_s hmk) (mod_r5 hmk) ?_
        refine w_iload_n (i := 1) hX dX9_cutAll_290 rfl rfl ?_
        refine w_aload_n (i := 0) hX dX9_cutAll_291 rfl rfl ?_
        refine w_getI hX dX9_cutAll_292 fo_RX9_132 rfl (mod_s hmk) ?_
        refine w_top (y := nI s.2) (by rw [gI_no (by omega)]; exact hsz) ?_
        refine w_iastN hX dX9_cutAll_295 (mod_a3 hmk) (by omega) (by omega) ?_
        refine w_aload_n (i := 0) hX dX9_cutAll_296 rfl rfl ?_
        refine w_iconst hX dX9_cutAll_297 kI_0 ?_
        refine w_putI hX dX9_cutAll_298 fo_RX9_151 rfl rfl rfl rfl (mod_s hmk) ?_
        refine w_aload_n (i := 0) hX dX9_cutAll_301 rfl rfl ?_
        refine w_iconst hX dX9_cutAll_302 kI_0 ?_
        refine w_putI hX dX9_cutAll_303 fo_RX9_154 rfl rfl rfl rfl (mod_s hmk) ?_
        have hpj : pl s j = s.2 := by rw [← hbl, rnS_n (fun h9 => absurd h9 (by omega))]; omega
        have hk0 := kd0.mpr hpj
        refine w_vret hX hE dX9_cutAll_306 (Or.inl rfl) ⟨fun i hi => ?_, gI_same, by rw [gI_nk (by omega), gI_same], by rw [gI_nk (by omega), gI_nk (by omega), gI_no (by omega), gI_no (by omega), (hsm.2.2 _ _ (fun h => by omega)).1, gI_same], ((((same.rf.sI (Or.inl ⟨rfl, by omega⟩)).sI (Or.inl ⟨rfl, by omega⟩)).tr (hsm.up (fun o k h => by omega))).sI (Or.inr (Or.inl rfl)) |>.sI (Or.inr (Or.inr (Or.inl rfl))) |>.sI (Or.inl ⟨rfl, by omega⟩)).sI (Or.inl ⟨rfl, by omega⟩)⟩
        have hij : i ≤ j := by rcases Nat.lt_or_ge j i with h9 | h9; (exact absurd hk0 (hi j h9)); exact h9
        by_cases e : i = j
        · subst e; exact ⟨0, by rw [gI_no (by omega), gI_no (by omega), gI_no (by omega), gI_same], by omega, by omega, by omega, by omega, by omega, by rw [gI_no (by omega), gI_no (by omega), gI_same, hpj], fun h => by omega, fun h => by omega, fun h => by omega⟩
        · obtain ⟨z, a, b, c, d, e1, f, g, i1, k1, l1⟩ := htk i (by omega); exact ⟨z, by rw [gI_no (by omega), gI_no (by omega), gI_no (by omega), gI_nk e]; exact a, b, c, d, e1, f, by rw [gI_no (by omega), gI_no (by omega), gI_nk e, gI_no (by omega)]; exact g, i1, k1, l1⟩
      · refine w_aload_n (i := 0) hX dX9_cutAll_25 rfl rfl ?_
        refine w_getR (q := m + 1) hX dX9_cutAll_26 fo_RX9_14 rfl (mod_s hmk) (mod_r1 hmk) ?_
        refine w_iload_n (i := 2) hX dX9_cutAll_29 rfl rfl ?_
        refine w_ialdN hX dX9_cutAll_30 (mod_a1 hmk) (by omega) (by omega) ?_
        refine w_top (y := nI (s.1 k)) (htape _ (by omega)) ?_
        refine w_istore_n (i := 3) (l2 := [some (.ref m), some (.int (nI j)), some (.int (nI k)), some (.int (nI (s.1 k))), none, none, none]) hX dX9_cutAll_31 rfl (ltb rfl) rfl rfl ?_
        refine w_iload_n (i := 3) hX dX9_cutAll_32 rfl rfl ?_
        refine w_bipush hX dX9_cutAll_33 kB_10 ?_
        refine wn_icmp_eq (tgt := 44) hX dX9_cutAll_35 (by decide) (by omega) (by omega) (fun c2 => ?_) (fun c2 => ?_)
        · refine w_iincN (w := 1) (l2 := [some (.ref m), some (.int (nI j)), some (.int (nI (k + 1))), some (.int (nI (s.1 k))), none, none, none]) hX dX9_cutAll_44 rfl kI_1 rfl rfl ?_
          refine w_goto (tgt := 17) hX dX9_cutAll_47 (by decide) ?_
          refine w_sub (l2 := [some (.ref m), some (.int (nI j)), some (.int (nI (k + 1))), none, none, none, none]) (by simp [lsub]) (leb rfl) ?_
          exact ih (q - 1) (by omega) j (k + 1) ν (by omega) hrc (by omega) ((rnS_y (by omega) (by unfold isBl; simp; omega)).symm.trans hbl) hsm htk
        · refine w_iload_n (i := 3) hX dX9_cutAll_38 rfl rfl ?_
          refine w_bipush hX dX9_cutAll_39 kB_32 ?_
          refine wn_icmp_ne (tgt := 50) hX dX9_cutAll_41 (by decide) (by omega) (by omega) (fun c3 => ?_) (fun c3 => ?_)
          · have hpj : pl s j = k := by rw [← hbl, rnS_n (fun _ => by unfold isBl; simp; omega)]
            have hkj : kd s j ≠ 0 := fun e => by have := kd0.mp e; omega
            have hps : ps s (j + 1) = tkE s k := by rw [ps_S, hpj]
            have j265 : ∀ (ν2 : Mem) (k2 : Nat) (v2 : Int64), k2 = ps s (j + 1) → same (fun o k => (o = m + 2 ∨ o = m + 3) ∧ k = j) ν ν2 → TOK (sL ν2 (m + 4) j v2) m s j → WP Γ X 0 0 265 [some (.ref m), some (.int (nI j)), some (.int (nI k2)), none, none, some (.long v2), none] [] ν2 := by
              intro ν2 k2 v2 hk2 hs2 htj
              have hm2 := hs2.isMod hmk
              refine w_aload_n (i := 0) hX dX9_cutAll_265 rfl rfl ?_
              refine w_getR (q := m + 4) hX dX9_cutAll_266 fo_RX9_30 rfl (mod_s hm2) (mod_r6 hm2) ?_
              refine w_iload_n (i := 1) hX dX9_cutAll_269 rfl rfl ?_
              refine w_lload hX dX9_cutAll_270 rfl ?_
              refine w_lastN hX dX9_cutAll_272 (mod_a4 hm2) (by omega) (by omega) ?_
              refine w_iincN (w := 1) (l2 := [some (.ref m), some (.int (nI (j + 1))), some (.int (nI k2)), none, none, some (.long v2), none]) hX dX9_cutAll_273 rfl kI_1 rfl rfl ?_
              refine w_goto (tgt := 17) hX dX9_cutAll_276 (by decide) ?_
              refine w_sub (l2 := [some (.ref m), some (.int (nI (j + 1))), some (.int (nI k2)), none, none, none, none]) (by simp [lsub]) (leb rfl) ?_
              exact ih (s.2 - k2) (by have := tkE_lt (show k < s.2 by omega); omega) (j + 1) k2 _ (by have := ps_le (s := s) (j + 1); omega) (rch_S hrc hkj) (by omega) (by rw [hk2]; rfl) ((hsm.tr (hs2.up (fun o k h => by omega))).sL (Or.inr (Or.inr rfl))) (fun i hi => by by_cases e : i = j; (subst e; exact htj); exact ((htk i (by omega)).sm hs2 (by omega) (by omega) (by omega)).sm (same.rf.sL ⟨rfl, rfl⟩ : same (fun o k => o = m + 4 ∧ k = j) ν2 _) (by omega) (by omega) (by omega))
            refine w_iload_n (i := 2) hX dX9_cutAll_50 rfl rfl ?_
            refine w_istore (l2 := [some (.ref m), some (.int (nI j)), some (.int (nI k)), some (.int (nI (s.1 k))), some (.int (nI k)), none, none]) hX dX9_cutAll_51 (ltb rfl) rfl rfl ?_
            refine w_lconst (v := 0) hX dX9_cutAll_53 rfl ?_
            refine w_lstore (l2 := [some (.ref m), some (.int (nI j)), some (.int (nI k)), some (.int (nI (s.1 k))), some (.int (nI k)), some (.long ((0 : Int64))), none]) hX dX9_cutAll_54 (ltb rfl) rfl rfl ?_
            refine w_aload_n (i := 0) hX dX9_cutAll_56 rfl rfl ?_
            refine w_getR (q := m + 3) hX dX9_cutAll_57 fo_RX9_27 rfl (mod_s hmk) (mod_r5 hmk) ?_
            refine w_iload_n (i := 1) hX dX9_cutAll_60 rfl rfl ?_
            refine w_iload_n (i := 2) hX dX9_cutAll_61 rfl rfl ?_
            refine w_iastN hX dX9_cutAll_62 (mod_a3 hmk) (by omega) (by omega) ?_
            refine w_iload_n (i := 3) hX dX9_cutAll_63 rfl rfl ?_
            refine w_callSI (As := [.int (nI (s.1 k))]) (rest := []) (k2 := 0) (n2 := 0) hX dX9_cutAll_64 (s_m_isL Γ (sI ν (m + 3) j (nI k)) (s.1 k) (by omega)) okX9_isLetter ml_RX9_128 stX9_isLetter rfl (leb rfl) (leb rfl) rfl rfl (fun r9 μ9 hq9 => ?_)
            obtain ⟨hr9, hm9⟩ := hq9; rw [hr9, hm9]; clear hr9 hm9 r9 μ9
            refine wb_eq (tgt := 152) hX dX9_cutAll_67 (by decide) (fun hL => ?_) (fun hL => ?_)
            · refine w_iload_n (i := 3) hX dX9_cutAll_152 rfl rfl ?_
              refine w_callSI (As := [.int (nI (s.1 k))]) (rest := []) (k2 := 0) (n2 := 0) hX dX9_cutAll_153 (s_m_isD Γ (sI ν (m + 3) j (nI k)) (s.1 k) (by omega)) okX9_isDigit ml_RX9_141 stX9_isDigit rfl (leb rfl) (leb rfl) rfl rfl (fun r9 μ9 hq9 => ?_)
              obtain ⟨hr9, hm9⟩ := hq9; rw [hr9, hm9]; clear hr9 hm9 r9 μ9
              refine wb_eq (tgt := 240) hX dX9_cutAll_156 (by decide) (fun hD => ?_) (fun hD => ?_)
              · refine w_iload_n (i := 3) hX dX9_cutAll_240 rfl rfl ?_
                refine w_i2l hX dX9_cutAll_241 ?_
                refine w_lstore (l2 := [some (.ref m), some (.int (nI j)), some (.int (nI k)), some (.int (nI (s.1 k))), some (.int (nI k)), some (.long ((nI (s.1 k)).toInt64)), none]) hX dX9_cutAll_242 (ltb rfl) rfl rfl ?_
                refine w_aload_n (i := 0) hX dX9_cutAll_244 rfl rfl ?_
                refine w_getR (q := m + 2) hX dX9_cutAll_245 fo_RX9_24 rfl (mod_s hmk) (mod_r4 hmk) ?_
                refine w_iload_n (i := 1) hX dX9_cutAll_248 rfl rfl ?_
                refine w_iload_n (i := 3) hX dX9_cutAll_249 rfl rfl ?_
                refine w_callSI (As := [.int (nI (s.1 k))]) (rest := [.int (nI j), .ref (m + 2)]) (k2 := 0) (n2 := 0) hX dX9_cutAll_250 (s_m_isSgn Γ (sI ν (m + 3) j (nI k)) (s.1 k) (by omega)) okX9_isSignOf ml_RX9_148 stX9_isSignOf rfl (leb rfl) (leb rfl) rfl rfl (fun r9 μ9 hq9 => ?_)
                obtain ⟨hr9, hm9⟩ := hq9; rw [hr9, hm9]; clear hr9 hm9 r9 μ9
                refine wb_eq (tgt := 260) hX dX9_cutAll_253 (by decide) (fun hG => ?_) (fun hG => ?_)
                · refine w_iconst hX dX9_cutAll_260 kI_4 ?_
                  refine w_iastN hX dX9_cutAll_261 (mod_a2 hmk) (by omega) (by omega) ?_
                  refine w_iincN (w := 1) (l2 := [some (.ref m), some (.int (nI j)), some (.int (nI (k + 1))), some (.int (nI (s.1 k))), some (.int (nI k)), some (.long ((nI (s.1 k)).toInt64)), none]) hX dX9_cutAll_262 rfl kI_1 rfl rfl ?_
                  refine w_sub (l2 := [some (.ref m), some (.int (nI j)), some (.int (nI (k + 1))), none, none, some (.long ((nI (s.1 k)).toInt64)), none]) (by simp [lsub]) (leb rfl) ?_
                  refine j265 _ _ _ ?_ ((same.rf.sI ⟨Or.inr rfl, rfl⟩).sI ⟨Or.inl rfl, rfl⟩) ?_
                  · rw [hps]; unfold tkE; rw [if_neg (by omega), if_neg (by rw [hL]; decide), if_neg (by rw [hD]; decide)]
                  · have hkd : kd s j = if s.1 k = 59 then 2 else 1 := by unfold kd tkD; rw [hpj, if_neg (by omega), if_neg (by rw [hL]; decide), if_neg (by rw [hD]; decide)]
                    have e9 : s.1 k ≠ 59 := by unfold sgn at hG; simp only [Bool.or_eq_false_iff, decide_eq_false_iff_not] at hG; omega
                    rw [if_neg e9] at hkd
                    exact ⟨4, by rw [gI_sL, gI_same], by omega, by omega, by omega, by omega, fun h => by omega, by rw [gI_sL, gI_no (by omega), gI_same, hpj], fun h => by omega, fun h => by omega, fun h => by omega⟩
                · refine w_iconst hX dX9_cutAll_256 kI_3 ?_
                  refine w_goto (tgt := 261) hX dX9_cutAll_257 (by decide) ?_
                  refine w_iastN hX dX9_cutAll_261 (mod_a2 hmk) (by omega) (by omega) ?_
                  refine w_iincN (w := 1) (l2 := [some (.ref m), some (.int (nI j)), some (.int (nI (k + 1))), some (.int (nI (s.1 k))), some (.int (nI k)), some (.long ((nI (s.1 k)).toInt64)), none]) hX dX9_cutAll_262 rfl kI_1 rfl rfl ?_
                  refine w_sub (l2 := [some (.ref m), some (.int (nI j)), some (.int (nI (k + 1))), none, none, some (.long ((nI (s.1 k)).toInt64)), none]) (by simp [lsub]) (leb rfl) ?_
                  refine j265 _ _ _ ?_ ((same.rf.sI ⟨Or.inr rfl, rfl⟩).sI ⟨Or.inl rfl, rfl⟩) ?_
                  · rw [hps]; unfold tkE; rw [if_neg (by omega), if_neg (by rw [hL]; decide), if_neg (by rw [hD]; decide)]
                  · have hkd : kd s j = if s.1 k = 59 then 2 else 1 := by unfold kd tkD; rw [hpj, if_neg (by omega), if_neg (by rw [hL]; decide), if_neg (by rw [hD]; decide)]
                    by_cases e9 : s.1 k = 59
                    · rw [if_pos e9] at hkd; exact ⟨3, by rw [gI_sL, gI_same], by omega, by omega, by omega, by omega, fun h => by omega, by rw [gI_sL, gI_no (by omega), gI_same, hpj], fun h => by omega, fun h => by omega, fun _ => ⟨s.1 k, by omega, by rw [gL_same, nI_lN (by omega)], by omega⟩⟩
                    · rw [if_neg e9] at hkd; exact ⟨3, by rw [gI_sL, gI_same], by omega, by omega, by omega, by omega, fun h => by omega, by rw [gI_sL, gI_no (by omega), gI_same, hpj], fun h => by omega, fun h => by omega, fun _ => ⟨s.1 k, by omega, by rw [gL_same, nI_lN (by omega)], by omega⟩⟩
              · have inD : ∀ e, e ≤ s.2 - k → rnS s isDg k = rnS s isDg (k + e) → WP Γ X 0 0 159 [some (.ref m), some (.int (nI j)), some (.int (nI (k + e))), some (.int (nI (s.1 k))), some (.int (nI k)), some (.long (lN (mv10 s k e))), none] [] (sI ν (m + 3) j (nI k)) := by
                  refine loopU (s.2 - k) ?_
                  intro e he ihe hrn0
                  have hce : k + e < s.2 → s.1 (k + e) ≤ 126 := fun h => (okS_lt (hs.2 _ h)).2
                  have j218 : rnS s isDg (k + e) = k + e → WP Γ X 0 0 218 [some (.ref m), some (.int (nI j)), some (.int (nI (k + e))), some (.int (nI (s.1 k))), some (.int (nI k)), some (.long (lN (mv10 s k e))), none] [] (sI ν (m + 3) j (nI k)) := by
                    intro he9
                    have hrn := hrn0.trans he9
                    refine w_aload_n (i := 0) hX dX9_cutAll_218 rfl rfl ?_
                    refine w_getR (q := m + 2) hX dX9_cutAll_219 fo_RX9_24 rfl (mod_s hmk) (mod_r4 hmk) ?_
                    refine w_iload_n (i := 1) hX dX9_cutAll_222 rfl rfl ?_
                    refine w_iload_n (i := 2) hX dX9_cutAll_223 rfl rfl ?_
                    refine w_iload hX dX9_cutAll_224 rfl ?_
                    refine w_isubN hX dX9_cutAll_226 (by omega) ?_
                    refine w_iconst hX dX9_cutAll_227 kI_4 ?_
                    refine wn_icmp_le (tgt := 235) hX dX9_cutAll_228 (by decide) (by omega) (by omega) (fun c7 => ?_) (fun c7 => ?_)
                    · refine w_iconst hX dX9_cutAll_235 kI_2 ?_
                      refine w_iastN hX dX9_cutAll_236 (mod_a2 hmk) (by omega) (by omega) ?_
                      refine w_goto (tgt := 265) hX dX9_cutAll_237 (by decide) ?_
                      refine w_sub (l2 := [some (.ref m), some (.int (nI j)), some (.int (nI (k + e))), none, none, some (.long (lN (mv10 s k e))), none]) (by simp [lsub]) (leb rfl) ?_
                      refine j265 _ _ _ ?_ ((same.rf.sI ⟨Or.inr rfl, rfl⟩).sI ⟨Or.inl rfl, rfl⟩) ?_
                      · rw [hps]; unfold tkE; rw [if_neg (by omega), if_neg (by rw [hL]; decide), if_pos hD, hrn]
                      · have hkd : kd s j = if e > 4 then 1 else 3 := by unfold kd tkD; rw [hpj, if_neg (by omega), if_neg (by rw [hL]; decide), if_pos hD, hrn, Nat.add_sub_cancel_left]
                        have hvl : vl s j = nvl s k e := by unfold vl; rw [hpj, hrn, Nat.add_sub_cancel_left]
                        rw [if_neg (by omega)] at hkd
                        exact ⟨2, by rw [gI_sL, gI_same], by omega, by omega, by omega, by omega, fun h => by omega, by rw [gI_sL, gI_no (by omega), gI_same, hpj], fun h => by omega, fun _ => by rw [gL_same, mv10_eq e (by omega), hvl], fun h => by omega⟩
                    · refine w_iconst hX dX9_cutAll_231 kI_4 ?_
                      refine w_goto (tgt := 236) hX dX9_cutAll_232 (by decide) ?_
                      refine w_iastN hX dX9_cutAll_236 (mod_a2 hmk) (by omega) (by omega) ?_
                      refine w_goto (tgt := 265) hX dX9_cutAll_237 (by decide) ?_
                      refine w_sub (l2 := [some (.ref m), some (.int (nI j)), some (.int (nI (k + e))), none, none, some (.long (lN (mv10 s k e))), none]) (by simp [lsub]) (leb rfl) ?_
                      refine j265 _ _ _ ?_ ((same.rf.sI ⟨Or.inr rfl, rfl⟩).sI ⟨Or.inl rfl, rfl⟩) ?_
                      · rw [hps]; unfold tkE; rw [if_neg (by omega), if_neg (by rw [hL]; decide), if_pos hD, hrn]
                      · have hkd : kd s j = if e > 4 then 1 else 3 := by unfold kd tkD; rw [hpj, if_neg (by omega), if_neg (by rw [hL]; decide), if_pos hD, hrn, Nat.add_sub_cancel_left]
                        have hvl : vl s j = nvl s k e := by unfold vl; rw [hpj, hrn, Nat.add_sub_cancel_left]
                        rw [if_pos (by omega)] at hkd
                        exact ⟨4, by rw [gI_sL, gI_same], by omega, by omega, by omega, by omega, fun h => by omega, by rw [gI_sL, gI_no (by omega), gI_same, hpj], fun h => by omega, fun h => by omega, fun h => by omega⟩
                  refine w_iload_n (i := 2) hX dX9_cutAll_159 rfl rfl ?_
                  refine w_aload_n (i := 0) hX dX9_cutAll_160 rfl rfl ?_
                  refine w_getI hX dX9_cutAll_161 fo_RX9_132 rfl (mod_s hmk) ?_
                  refine w_top (y := nI s.2) (by rw [gI_no (by omega)]; exact hsz) ?_
                  refine wn_icmp_ge (tgt := 218) hX dX9_cutAll_164 (by decide) (by omega) (by omega) (fun c8 => ?_) (fun c8 => ?_)
                  · exact j218 (rnS_n (fun h9 => by omega))
                  · refine w_aload_n (i := 0) hX dX9_cutAll_167 rfl rfl ?_
                    refine w_getR (q := m + 1) hX dX9_cutAll_168 fo_RX9_14 rfl (mod_s hmk) (mod_r1 hmk) ?_
                    refine w_iload_n (i := 2) hX dX9_cutAll_171 rfl rfl ?_
                    refine w_ialdN hX dX9_cutAll_172 (mod_a1 hmk) (by omega) (by omega) ?_
                    refine w_top (y := nI (s.1 (k + e))) (by rw [gI_no (by omega)]; exact (htape _ (by omega))) ?_
                    refine w_callSI (As := [.int (nI (s.1 (k + e)))]) (rest := []) (k2 := 0) (n2 := 0) hX dX9_cutAll_173 (s_m_isD Γ (sI ν (m + 3) j (nI k)) (s.1 (k + e)) (by omega)) okX9_isDigit ml_RX9_141 stX9_isDigit rfl (leb rfl) (leb rfl) rfl rfl (fun r9 μ9 hq9 => ?_)
                    obtain ⟨hr9, hm9⟩ := hq9; rw [hr9, hm9]; clear hr9 hm9 r9 μ9
                    refine wb_eq (tgt := 218) hX dX9_cutAll_176 (by decide) (fun hD2 => ?_) (fun hD2 => ?_)
                    · exact j218 (rnS_n (fun _ => hD2))
                    · have hc48 : 48 ≤ s.1 (k + e) := by unfold isDg at hD2; simp only [Bool.and_eq_true, decide_eq_true_eq] at hD2; exact hD2.1
                      refine w_iload_n (i := 2) hX dX9_cutAll_179 rfl rfl ?_
                      refine w_iload hX dX9_cutAll_180 rfl ?_
                      refine w_isubN hX dX9_cutAll_182 (by omega) ?_
                      refine w_iconst hX dX9_cutAll_183 kI_4 ?_
                      refine wn_icmp_ge (tgt := 208) hX dX9_cutAll_184 (by decide) (by omega) (by omega) (fun c10 => ?_) (fun c10 => ?_)
                      · refine w_lload hX dX9_cutAll_208 rfl ?_
                        refine w_lstore (l2 := [some (.ref m), some (.int (nI j)), some (.int (nI (k + e))), some (.int (nI (s.1 k))), some (.int (nI k)), some (.long (lN (mv10 s k e))), none]) hX dX9_cutAll_210 (ltb rfl) rfl rfl ?_
                        refine w_iincN (w := 1) (l2 := [some (.ref m), some (.int (nI j)), some (.int (nI (k + e + 1))), some (.int (nI (s.1 k))), some (.int (nI k)), some (.long (lN (mv10 s k e))), none]) hX dX9_cutAll_212 rfl kI_1 rfl rfl ?_
                        refine w_goto (tgt := 159) hX dX9_cutAll_215 (by decide) ?_
                        refine w_locs (ls2 := [some (.ref m), some (.int (nI j)), some (.int (nI (k + (e + 1)))), some (.int (nI (s.1 k))), some (.int (nI k)), some (.long (lN (mv10 s k (e + 1)))), none]) (by rw [show mv10 s k (e + 1) = mv10 s k e by simp only [mv10]; rw [if_neg (by omega)], show k + (e + 1) = k + e + 1 by omega]) ?_
                        exact ihe (by omega) (hrn0.trans (rnS_y (by omega) hD2))
                      · refine w_ldc2 hX dX9_cutAll_187 kl_RX9_144 ?_
                        refine w_lload hX dX9_cutAll_190 rfl ?_
                        refine w_lmul hX dX9_cutAll_192 ?_
                        refine w_aload_n (i := 0) hX dX9_cutAll_193 rfl rfl ?_
                        refine w_getR (q := m + 1) hX dX9_cutAll_194 fo_RX9_14 rfl (mod_s hmk) (mod_r1 hmk) ?_
                        refine w_iload_n (i := 2) hX dX9_cutAll_197 rfl rfl ?_
                        refine w_ialdN hX dX9_cutAll_198 (mod_a1 hmk) (by omega) (by omega) ?_
                        refine w_top (y := nI (s.1 (k + e))) (by rw [gI_no (by omega)]; exact (htape _ (by omega))) ?_
                        refine w_i2l hX dX9_cutAll_199 ?_
                        refine w_ladd hX dX9_cutAll_200 ?_
                        refine w_ldc2 hX dX9_cutAll_201 kl_RX9_146 ?_
                        refine w_lsub hX dX9_cutAll_204 ?_
                        refine w_goto (tgt := 210) hX dX9_cutAll_205 (by decide) ?_
                        refine w_lstore (l2 := [some (.ref m), some (.int (nI j)), some (.int (nI (k + e))), some (.int (nI (s.1 k))), some (.int (nI k)), some (.long (((((10 : Int64)) * (lN (mv10 s k e))) + ((nI (s.1 (k + e))).toInt64)) - ((48 : Int64)))), none]) hX dX9_cutAll_210 (ltb rfl) rfl rfl ?_
                        refine w_iincN (w := 1) (l2 := [some (.ref m), some (.int (nI j)), some (.int (nI (k + e + 1))), some (.int (nI (s.1 k))), some (.int (nI k)), some (.long (((((10 : Int64)) * (lN (mv10 s k e))) + ((nI (s.1 (k + e))).toInt64)) - ((48 : Int64)))), none]) hX dX9_cutAll_212 rfl kI_1 rfl rfl ?_
                        refine w_goto (tgt := 159) hX dX9_cutAll_215 (by decide) ?_
                        refine w_locs (ls2 := [some (.ref m), some (.int (nI j)), some (.int (nI (k + (e + 1)))), some (.int (nI (s.1 k))), some (.int (nI k)), some (.long (lN (mv10 s k (e + 1)))), none]) (by rw [show lN (mv10 s k (e + 1)) = (10 : Int64) * lN (mv10 s k e) + (nI (s.1 (k + e))).toInt64 - (48 : Int64) by rw [show (10 : Int64) = lN 10 from rfl, show (48 : Int64) = lN 48 from rfl, lM_mul, nI_lN (by omega), lM_add, lM_sub (by omega)]; simp only [mv10]; rw [if_pos (by omega)], show k + (e + 1) = k + e + 1 by omega]) ?_
                        exact ihe (by omega) (hrn0.trans (rnS_y (by omega) hD2))
                refine w_locs (ls2 := [some (.ref m), some (.int (nI j)), some (.int (nI (k + 0))), some (.int (nI (s.1 k))), some (.int (nI k)), some (.long (lN (mv10 s k 0))), none]) (by rfl) ?_
                exact inD 0 (Nat.zero_le _) rfl
            · have inL : ∀ e, e ≤ s.2 - k → rnS s isLt k = rnS s isLt (k + e) → WP Γ X 0 0 70 [some (.ref m), some (.int (nI j)), some (.int (nI (k + e))), some (.int (nI (s.1 k))), some (.int (nI k)), some (.long (lN (mv37 s k e))), none] [] (sI ν (m + 3) j (nI k)) := by
                refine loopU (s.2 - k) ?_
                intro e he ihe hrn0
                have hce : k + e < s.2 → s.1 (k + e) ≤ 126 := fun h => (okS_lt (hs.2 _ h)).2
                have j129 : rnS s isLt (k + e) = k + e → WP Γ X 0 0 129 [some (.ref m), some (.int (nI j)), some (.int (nI (k + e))), some (.int (nI (s.1 k))), some (.int (nI k)), some (.long (lN (mv37 s k e))), none] [] (sI ν (m + 3) j (nI k)) := by
                  intro he9
                  have hrn := hrn0.trans he9
                  refine w_aload_n (i := 0) hX dX9_cutAll_129 rfl rfl ?_
                  refine w_getR (q := m + 2) hX dX9_cutAll_130 fo_RX9_24 rfl (mod_s hmk) (mod_r4 hmk) ?_
                  refine w_iload_n (i := 1) hX dX9_cutAll_133 rfl rfl ?_
                  refine w_iload_n (i := 2) hX dX9_cutAll_134 rfl rfl ?_
                  refine w_iload hX dX9_cutAll_135 rfl ?_
                  refine w_isubN hX dX9_cutAll_137 (by omega) ?_
                  refine w_bipush hX dX9_cutAll_138 kB_8 ?_
                  refine wn_icmp_le (tgt := 147) hX dX9_cutAll_140 (by decide) (by omega) (by omega) (fun c11 => ?_) (fun c11 => ?_)
                  · refine w_iconst hX dX9_cutAll_147 kI_1 ?_
                    refine w_iastN hX dX9_cutAll_148 (mod_a2 hmk) (by omega) (by omega) ?_
                    refine w_goto (tgt := 265) hX dX9_cutAll_149 (by decide) ?_
                    refine w_sub (l2 := [some (.ref m), some (.int (nI j)), some (.int (nI (k + e))), none, none, some (.long (lN (mv37 s k e))), none]) (by simp [lsub]) (leb rfl) ?_
                    refine j265 _ _ _ ?_ ((same.rf.sI ⟨Or.inr rfl, rfl⟩).sI ⟨Or.inl rfl, rfl⟩) ?_
                    · rw [hps]; unfold tkE; rw [if_neg (by omega), if_pos hL, hrn]
                    · have hkd : kd s j = if e > 8 then 1 else kwd (wcd s k e) := by unfold kd tkD; rw [hpj, if_neg (by omega), if_pos hL, hrn, Nat.add_sub_cancel_left]
                      have hlt : ∀ i, i < e → isLt (s.1 (k + i)) = true := fun i hi => (rnS_sp (P := isLt) (show k ≤ s.2 by omega)).2.2.1 _ (by omega) (by omega)
                      have hkw := kwf_ge (w := wcd s k e) 18 0
                      have hwd : wd s j = wcd s k e := by unfold wd; rw [hpj, hrn, Nat.add_sub_cancel_left]
                      rw [if_neg (by omega)] at hkd; have hk4 : 4 ≤ kd s j := by rw [hkd]; exact hkw.1
                      exact ⟨1, by rw [gI_sL, gI_same], by omega, by omega, by omega, by omega, fun h => by omega, by rw [gI_sL, gI_no (by omega), gI_same, hpj], fun _ => by rw [gL_same, mv37_phi (by omega) hlt, hwd], fun h => by omega, fun h => by omega⟩
                  · refine w_iconst hX dX9_cutAll_143 kI_4 ?_
                    refine w_goto (tgt := 148) hX dX9_cutAll_144 (by decide) ?_
                    refine w_iastN hX dX9_cutAll_148 (mod_a2 hmk) (by omega) (by omega) ?_
                    refine w_goto (tgt := 265) hX dX9_cutAll_149 (by decide) ?_
                    refine w_sub (l2 := [some (.ref m), some (.int (nI j)), some (.int (nI (k + e))), none, none, some (.long (lN (mv37 s k e))), none]) (by simp [lsub]) (leb rfl) ?_
                    refine j265 _ _ _ ?_ ((same.rf.sI ⟨Or.inr rfl, rfl⟩).sI ⟨Or.inl rfl, rfl⟩) ?_
                    · rw [hps]; unfold tkE; rw [if_neg (by omega), if_pos hL, hrn]
                    · have hkd : kd s j = if e > 8 then 1 else kwd (wcd s k e) := by unfold kd tkD; rw [hpj, if_neg (by omega), if_pos hL, hrn, Nat.add_sub_cancel_left]
                      have hlt : ∀ i, i < e → isLt (s.1 (k + i)) = true := fun i hi => (rnS_sp (P := isLt) (show k ≤ s.2 by omega)).2.2.1 _ (by omega) (by omega)
                      have hkw := kwf_ge (w := wcd s k e) 18 0
                      have hwd : wd s j = wcd s k e := by unfold wd; rw [hpj, hrn, Nat.add_sub_cancel_left]
                      rw [if_pos (by omega)] at hkd
                      exact ⟨4, by rw [gI_sL, gI_same], by omega, by omega, by omega, by omega, fun h => by omega, by rw [gI_sL, gI_no (by omega), gI_same, hpj], fun h => by omega, fun h => by omega, fun h => by omega⟩
                refine w_iload_n (i := 2) hX dX9_cutAll_70 rfl rfl ?_
                refine w_aload_n (i := 0) hX dX9_cutAll_71 rfl rfl ?_
                refine w_getI hX dX9_cutAll_72 fo_RX9_132 rfl (mod_s hmk) ?_
                refine w_top (y := nI s.2) (by rw [gI_no (by omega)]; exact hsz) ?_
                refine wn_icmp_ge (tgt := 129) hX dX9_cutAll_75 (by decide) (by omega) (by omega) (fun c12 => ?_) (fun c12 => ?_)
                · exact j129 (rnS_n (fun h9 => by omega))
                · refine w_aload_n (i := 0) hX dX9_cutAll_78 rfl rfl ?_
                  refine w_getR (q := m + 1) hX dX9_cutAll_79 fo_RX9_14 rfl (mod_s hmk) (mod_r1 hmk) ?_
                  refine w_iload_n (i := 2) hX dX9_cutAll_82 rfl rfl ?_
                  refine w_ialdN hX dX9_cutAll_83 (mod_a1 hmk) (by omega) (by omega) ?_
                  refine w_top (y := nI (s.1 (k + e))) (by rw [gI_no (by omega)]; exact (htape _ (by omega))) ?_
                  refine w_callSI (As := [.int (nI (s.1 (k + e)))]) (rest := []) (k2 := 0) (n2 := 0) hX dX9_cutAll_84 (s_m_isL Γ (sI ν (m + 3) j (nI k)) (s.1 (k + e)) (by omega)) okX9_isLetter ml_RX9_128 stX9_isLetter rfl (leb rfl) (leb rfl) rfl rfl (fun r9 μ9 hq9 => ?_)
                  obtain ⟨hr9, hm9⟩ := hq9; rw [hr9, hm9]; clear hr9 hm9 r9 μ9
                  refine wb_eq (tgt := 129) hX dX9_cutAll_87 (by decide) (fun hL2 => ?_) (fun hL2 => ?_)
                  · exact j129 (rnS_n (fun _ => hL2))
                  · refine w_iload_n (i := 2) hX dX9_cutAll_90 rfl rfl ?_
                    refine w_iload hX dX9_cutAll_91 rfl ?_
                    refine w_isubN hX dX9_cutAll_93 (by omega) ?_
                    refine w_bipush hX dX9_cutAll_94 kB_8 ?_
                    refine wn_icmp_ge (tgt := 119) hX dX9_cutAll_96 (by decide) (by omega) (by omega) (fun c14 => ?_) (fun c14 => ?_)
                    · refine w_lload hX dX9_cutAll_119 rfl ?_
                      refine w_lstore (l2 := [some (.ref m), some (.int (nI j)), some (.int (nI (k + e))), some (.int (nI (s.1 k))), some (.int (nI k)), some (.long (lN (mv37 s k e))), none]) hX dX9_cutAll_121 (ltb rfl) rfl rfl ?_
                      refine w_iincN (w := 1) (l2 := [some (.ref m), some (.int (nI j)), some (.int (nI (k + e + 1))), some (.int (nI (s.1 k))), some (.int (nI k)), some (.long (lN (mv37 s k e))), none]) hX dX9_cutAll_123 rfl kI_1 rfl rfl ?_
                      refine w_goto (tgt := 70) hX dX9_cutAll_126 (by decide) ?_
                      refine w_locs (ls2 := [some (.ref m), some (.int (nI j)), some (.int (nI (k + (e + 1)))), some (.int (nI (s.1 k))), some (.int (nI k)), some (.long (lN (mv37 s k (e + 1)))), none]) (by rw [show mv37 s k (e + 1) = mv37 s k e by simp only [mv37]; rw [if_neg (by omega)], show k + (e + 1) = k + e + 1 by omega]) ?_
                      exact ihe (by omega) (hrn0.trans (rnS_y (by omega) hL2))
                    · refine w_ldc2 hX dX9_cutAll_99 kl_RX9_135 ?_
                      refine w_lload hX dX9_cutAll_102 rfl ?_
                      refine w_lmul hX dX9_cutAll_104 ?_
                      refine w_aload_n (i := 0) hX dX9_cutAll_105 rfl rfl ?_
                      refine w_getR (q := m + 1) hX dX9_cutAll_106 fo_RX9_14 rfl (mod_s hmk) (mod_r1 hmk) ?_
                      refine w_iload_n (i := 2) hX dX9_cutAll_109 rfl rfl ?_
                      refine w_ialdN hX dX9_cutAll_110 (mod_a1 hmk) (by omega) (by omega) ?_
                      refine w_top (y := nI (s.1 (k + e))) (by rw [gI_no (by omega)]; exact (htape _ (by omega))) ?_
                      refine w_callSI (As := [.int (nI (s.1 (k + e)))]) (rest := [.long (((37 : Int64)) * (lN (mv37 s k e)))]) (k2 := 0) (n2 := 0) hX dX9_cutAll_111 (s_m_rank Γ (sI ν (m + 3) j (nI k)) (s.1 (k + e)) (by omega) hL2) okX9_rank ml_RX9_137 stX9_rank rfl (leb rfl) (leb rfl) rfl rfl (fun r9 μ9 hq9 => ?_)
                      obtain ⟨hr9, hm9⟩ := hq9; rw [hr9, hm9]; clear hr9 hm9 r9 μ9
                      refine w_i2l hX dX9_cutAll_114 ?_
                      refine w_ladd hX dX9_cutAll_115 ?_
                      refine w_goto (tgt := 121) hX dX9_cutAll_116 (by decide) ?_
                      refine w_lstore (l2 := [some (.ref m), some (.int (nI j)), some (.int (nI (k + e))), some (.int (nI (s.1 k))), some (.int (nI k)), some (.long ((((37 : Int64)) * (lN (mv37 s k e))) + ((nI (s.1 (k + e) - 96)).toInt64))), none]) hX dX9_cutAll_121 (ltb rfl) rfl rfl ?_
                      refine w_iincN (w := 1) (l2 := [some (.ref m), some (.int (nI j)), some (.int (nI (k + e + 1))), some (.int (nI (s.1 k))), some (.int (nI k)), some (.long ((((37 : Int64)) * (lN (mv37 s k e))) + ((nI (s.1 (k + e) - 96)).toInt64))), none]) hX dX9_cutAll_123 rfl kI_1 rfl rfl ?_
                      refine w_goto (tgt := 70) hX dX9_cutAll_126 (by decide) ?_
                      refine w_locs (ls2 := [some (.ref m), some (.int (nI j)), some (.int (nI (k + (e + 1)))), some (.int (nI (s.1 k))), some (.int (nI k)), some (.long (lN (mv37 s k (e + 1)))), none]) (by rw [show lN (mv37 s k (e + 1)) = (37 : Int64) * lN (mv37 s k e) + (nI (s.1 (k + e) - 96)).toInt64 by rw [show (37 : Int64) = lN 37 from rfl, lM_mul, nI_lN (by omega), lM_add]; simp only [mv37]; rw [if_pos (by omega)], show k + (e + 1) = k + e + 1 by omega]) ?_
                      exact ihe (by omega) (hrn0.trans (rnS_y (by omega) hL2))
              refine w_locs (ls2 := [some (.ref m), some (.int (nI j)), some (.int (nI (k + 0))), some (.int (nI (s.1 k))), some (.int (nI k)), some (.long (lN (mv37 s k 0))), none]) (by rfl) ?_
              exact inL 0 (Nat.zero_le _) rfl
          · refine w_iincN (w := 1) (l2 := [some (.ref m), some (.int (nI j)), some (.int (nI (k + 1))), some (.int (nI (s.1 k))), none, none, none]) hX dX9_cutAll_44 rfl kI_1 rfl rfl ?_
            refine w_goto (tgt := 17) hX dX9_cutAll_47 (by decide) ?_
            refine w_sub (l2 := [some (.ref m), some (.int (nI j)), some (.int (nI (k + 1))), none, none, none, none]) (by simp [lsub]) (leb rfl) ?_
            exact ih (q - 1) (by omega) j (k + 1) ν (by omega) hrc (by omega) ((rnS_y (by omega) (by unfold isBl; simp; omega)).symm.trans hbl) hsm htk
  exact loop s.2 0 0 (sI (sI μ m 3 (nI s.2)) m 2 (nI 0)) (by omega) (fun i hi => absurd hi (Nat.not_lt_zero _)) (Nat.zero_le _) rfl same.rf (fun i hi => absurd hi (Nat.not_lt_zero _))
