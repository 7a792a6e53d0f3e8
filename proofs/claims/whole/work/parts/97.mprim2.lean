set_option maxHeartbeats 1000000 in
theorem s_m_after0 (Γ : Gm) (μ : Mem) (m : Nat) (s : Tp) (hT : MT μ m s) (n : Nat) (hS : MSt μ m s n) (w lo hi : Nat) (hw : w < 18) (hlo : lo < 2 ^ 30) (hhi : hi < 2 ^ 30) : SpI Γ MX9_takeAfter 3 0 0 [.ref m, .int (nI w), .int (nI lo), .int (nI hi)] μ (fun r μ2 => (kd s n = 5 + w ∧ pNb s (n + 1) lo hi = .inr (vl s (n + 1)) ∧ r = nI (vl s (n + 1)) ∧ MSt μ2 m s (n + 2) ∧ same (SA2 m) μ μ2) ∨ (∃ f, bnd (pWd s n (5 + w)) (fun _ => pNb s (n + 1) lo hi) = .inl f ∧ r = nI 0 ∧ MFt μ2 m s f ∧ same (SA2 m) μ μ2)) := by
  refine SpI.of okX9_takeAfter rfl [some (.ref m), some (.int (nI w)), some (.int (nI lo)), some (.int (nI hi))] ⟨rfl, rfl, rfl, rfl, trivial⟩ (leb rfl) (leb rfl) (fun X hX hE hnm => ?_)
  refine w_aload_n (i := 0) hX dX9_takeAfter_0 rfl rfl ?_
  refine w_iload_n (i := 1) hX dX9_takeAfter_1 rfl rfl ?_
  refine w_callVV (As := [.int (nI w)]) (rest := []) (ci := 9) (o := m) (k2 := 0) (n2 := 0) hX dX9_takeAfter_2 (s_m_takeWord0 Γ μ m s hT n hS w hw) okX9_takeWord (ltb rfl) (mod_s hT.1) ml_RX9_170 imX9_takeWord seX9_takeWord rfl (leb rfl) (leb rfl) rfl rfl (fun ν5 hq9 => ?_)
  rcases hq9 with ⟨hk, hm5⟩ | ⟨hk, hm5⟩
  · rw [hm5]
    have hS1 := hS.next (by omega)
    have hs1 : same (SA2 m) μ (sI μ m 7 (nI (n + 1))) := same.rf.sI ⟨rfl, Or.inl rfl⟩
    have hT1 := hT.sm hs1 (fun o k h => by unfold SA2 at h; omega)
    refine w_aload_n (i := 0) hX dX9_takeAfter_5 rfl rfl ?_
    refine w_iload_n (i := 2) hX dX9_takeAfter_6 rfl rfl ?_
    refine w_iload_n (i := 3) hX dX9_takeAfter_7 rfl rfl ?_
    refine w_callVI (As := [.int (nI lo), .int (nI hi)]) (rest := []) (ci := 9) (o := m) (k2 := 0) (n2 := 0) hX dX9_takeAfter_8 (s_m_takeN0 Γ (sI μ m 7 (nI (n + 1))) m s hT1 (n + 1) hS1 lo hi hlo hhi) okX9_takeNumber (ltb rfl) (mod_s hT.1) ml_RX9_173 imX9_takeNumber seX9_takeNumber rfl (leb rfl) (leb rfl) rfl rfl (fun r5 ν5 hq9 => ?_)
    rcases hq9 with ⟨hp, hr5, hm5⟩ | ⟨f9, hp, hr5, hm5⟩
    · rw [hr5, hm5]
      exact w_iret hX hE dX9_takeAfter_11 (Or.inl rfl) rfl (Or.inl ⟨hk, hp, rfl, hS1.next (by have := (pNb_inr hp).1; omega), hs1.sI ⟨rfl, Or.inl rfl⟩⟩)
    · rw [hr5, hm5]
      exact w_iret hX hE dX9_takeAfter_11 (Or.inl rfl) rfl (Or.inr ⟨f9, (bnd_r (pWd_y hk)).trans hp, rfl, hS1.bad (pNb_l hT.2.2.2 hp), hs1.sI ⟨rfl, Or.inr rfl⟩⟩)
  · rw [hm5]
    have hft := ft_lt (w := 1) (n := n) hT.2.2.2 (by omega) (by omega)
    have hF1 := hS.bad hft
    have hs1 : same (SA2 m) μ (sI μ m 8 (nI (ft s 1 n))) := same.rf.sI ⟨rfl, Or.inr rfl⟩
    have hT1 := hT.sm hs1 (fun o k h => by unfold SA2 at h; omega)
    refine w_aload_n (i := 0) hX dX9_takeAfter_5 rfl rfl ?_
    refine w_iload_n (i := 2) hX dX9_takeAfter_6 rfl rfl ?_
    refine w_iload_n (i := 3) hX dX9_takeAfter_7 rfl rfl ?_
    refine w_callVI (As := [.int (nI lo), .int (nI hi)]) (rest := []) (ci := 9) (o := m) (k2 := 0) (n2 := 0) hX dX9_takeAfter_8 (s_m_takeNf Γ (sI μ m 8 (nI (ft s 1 n))) m s hT1 (ft s 1 n) hF1 (nI lo) hi) okX9_takeNumber (ltb rfl) (mod_s hT.1) ml_RX9_173 imX9_takeNumber seX9_takeNumber rfl (leb rfl) (leb rfl) rfl rfl (fun r9 μ9 hq9 => ?_)
    obtain ⟨hr9, hm9⟩ := hq9; rw [hr9, hm9]; clear hr9 hm9 r9 μ9
    exact w_iret hX hE dX9_takeAfter_11 (Or.inl rfl) rfl (Or.inr ⟨ft s 1 n, bnd_l (pWd_n hk), rfl, hF1, hs1⟩)
set_option maxHeartbeats 1000000 in
theorem s_m_afterf (Γ : Gm) (μ : Mem) (m : Nat) (s : Tp) (hT : MT μ m s) (f : Nat) (hF : MFt μ m s f) (w : Nat) (lo : Int32) (hi : Nat) : SpI Γ MX9_takeAfter 3 0 0 [.ref m, .int (nI w), .int lo, .int (nI hi)] μ (fun r μ2 => r = nI 0 ∧ μ2 = μ) := by
  refine SpI.of okX9_takeAfter rfl [some (.ref m), some (.int (nI w)), some (.int lo), some (.int (nI hi))] ⟨rfl, rfl, rfl, rfl, trivial⟩ (leb rfl) (leb rfl) (fun X hX hE hnm => ?_)
  refine w_aload_n (i := 0) hX dX9_takeAfter_0 rfl rfl ?_
  refine w_iload_n (i := 1) hX dX9_takeAfter_1 rfl rfl ?_
  refine w_callVV (As := [.int (nI w)]) (rest := []) (ci := 9) (o := m) (k2 := 0) (n2 := 0) hX dX9_takeAfter_2 (s_m_takeWordf Γ μ m s hT f hF w) okX9_takeWord (ltb rfl) (mod_s hT.1) ml_RX9_170 imX9_takeWord seX9_takeWord rfl (leb rfl) (leb rfl) rfl rfl (fun μ9 hq9 => ?_)
  rw [hq9]; clear hq9 μ9
  refine w_aload_n (i := 0) hX dX9_takeAfter_5 rfl rfl ?_
  refine w_iload_n (i := 2) hX dX9_takeAfter_6 rfl rfl ?_
  refine w_iload_n (i := 3) hX dX9_takeAfter_7 rfl rfl ?_
  refine w_callVI (As := [.int lo, .int (nI hi)]) (rest := []) (ci := 9) (o := m) (k2 := 0) (n2 := 0) hX dX9_takeAfter_8 (s_m_takeNf Γ μ m s hT f hF lo hi) okX9_takeNumber (ltb rfl) (mod_s hT.1) ml_RX9_173 imX9_takeNumber seX9_takeNumber rfl (leb rfl) (leb rfl) rfl rfl (fun r9 μ9 hq9 => ?_)
  obtain ⟨hr9, hm9⟩ := hq9; rw [hr9, hm9]; clear hr9 hm9 r9 μ9
  exact w_iret hX hE dX9_takeAfter_11 (Or.inl rfl) rfl ⟨rfl, rfl⟩
def nkw (s : Tp) (n : Nat) : Nat → Bool
  | 0 => decide (4 ≤ kd s n)
  | k + 1 => nkw s n k && decide (wd s n ≠ kw k)
theorem nkw_iff {s : Tp} {n : Nat} : ∀ k, nkw s n k = true ↔ 4 ≤ kd s n ∧ ∀ j, j < k → wd s n ≠ kw j := by
  intro k
  induction k with
  | zero => simp [nkw]
  | succ k ih =>
    simp only [nkw, Bool.and_eq_true, ih, decide_eq_true_eq]
    constructor
    · rintro ⟨⟨h1, h2⟩, h3⟩
      exact ⟨h1, fun j hj => by by_cases e : j = k; (rw [e]; exact h3); exact h2 j (by omega)⟩
    · rintro ⟨h1, h2⟩
      exact ⟨⟨h1, fun j hj => h2 j (by omega)⟩, h2 k (by omega)⟩
theorem nkw_18 {s : Tp} {n : Nat} : nkw s n 18 = decide (kd s n = 4) := by
  rw [Bool.eq_iff_iff, nkw_iff, decide_eq_true_eq]
  constructor
  · rintro ⟨h1, h2⟩
    rw [(kd4 h1).2.2.2]; exact kwd_4.mpr h2
  · intro h
    have h1 : 4 ≤ kd s n := by omega
    refine ⟨h1, kwd_4.mp ?_⟩
    rw [← (kd4 h1).2.2.2]; exact h
theorem nkw_4 {s : Tp} {n k : Nat} (h : nkw s n k = true) : 4 ≤ kd s n := ((nkw_iff k).mp h).1
set_option maxHeartbeats 1000000 in
theorem s_m_isName0 (Γ : Gm) (μ : Mem) (m : Nat) (s : Tp) (hT : MT μ m s) (n : Nat) (hS : MSt μ m s n)  : SpI Γ MX9_isName 0 0 0 [.ref m] μ (fun r μ2 => r = bI (decide (kd s n = 4)) ∧ μ2 = μ) := by
  refine SpI.of okX9_isName rfl [some (.ref m), none, none] ⟨rfl, trivial⟩ (leb rfl) (leb rfl) (fun X hX hE hnm => ?_)
  obtain ⟨z, hz, hz4, z0, z1, z2, z3, hpl, hwv, hvv, hcv0⟩ := hT.2.2.1 n hS.2.1
  have hcv : TKC μ m s n z := hcv0
  clear hcv0
  have hn := (rch_le hT.2.2.2 n hS.2.1).2
  have hk22 := kd_le (s := s) (n := n)
  have hplL := (pl_le (s := s) n).2
  have hL1 := hT.2.2.2.1
  refine w_aload_n (i := 0) hX dX9_isName_0 rfl rfl ?_
  refine w_getI hX dX9_isName_1 fo_RX9_154 rfl (mod_s hT.1) ?_
  refine w_top (y := nI 0) hS.2.2 ?_
  refine wn_if_ne (tgt := 24) hX dX9_isName_4 (by decide) (by omega) (fun c1 => ?_) (fun c1 => ?_)
  · exact absurd c1 (by decide)
  · refine w_aload_n (i := 0) hX dX9_isName_7 rfl rfl ?_
    refine w_getR (q := m + 2) hX dX9_isName_8 fo_RX9_24 rfl (mod_s hT.1) (mod_r4 hT.1) ?_
    refine w_aload_n (i := 0) hX dX9_isName_11 rfl rfl ?_
    refine w_getI hX dX9_isName_12 fo_RX9_151 rfl (mod_s hT.1) ?_
    refine w_top (y := nI n) hS.1 ?_
    refine w_ialdN hX dX9_isName_15 (mod_a2 hT.1) (by omega) (by omega) ?_
    refine w_top (y := nI z) hz ?_
    refine w_iconst hX dX9_isName_16 kI_1 ?_
    refine wn_icmp_ne (tgt := 24) hX dX9_isName_17 (by decide) (by omega) (by omega) (fun c2 => ?_) (fun c2 => ?_)
    · refine w_iconst hX dX9_isName_24 kI_0 ?_
      refine w_istore_n (i := 1) (l2 := [some (.ref m), some (.int (nI 0)), none]) hX dX9_isName_25 rfl (ltb rfl) rfl rfl ?_
      refine w_iconst hX dX9_isName_26 kI_0 ?_
      refine w_istore_n (i := 2) (l2 := [some (.ref m), some (.int (nI 0)), some (.int (nI 0))]) hX dX9_isName_27 rfl (ltb rfl) rfl rfl ?_
      have loop : ∀ k, k ≤ 18 → WP Γ X 0 0 28 [some (.ref m), some (.int (bI (nkw s n k))), some (.int (nI k))] [] μ := by
        refine loopU 18 ?_
        intro k hk ih
        refine w_iload_n (i := 2) hX dX9_isName_28 rfl rfl ?_
        refine w_bipush hX dX9_isName_29 kB_18 ?_
        refine wn_icmp_ge (tgt := 69) hX dX9_isName_31 (by decide) (by omega) (by omega) (fun c3 => ?_) (fun c3 => ?_)
        · refine w_iload_n (i := 1) hX dX9_isName_69 rfl rfl ?_
          exact w_iret hX hE dX9_isName_70 (Or.inl rfl) (bI_nar _) ⟨by rw [show k = 18 by omega, nkw_18], rfl⟩
        · refine w_iload_n (i := 1) hX dX9_isName_34 rfl rfl ?_
          refine wb_eq (tgt := 61) hX dX9_isName_35 (by decide) (fun hk9 => ?_) (fun hk9 => ?_)
          · refine w_iconst hX dX9_isName_61 kI_0 ?_
            refine w_istore_n (i := 1) (l2 := [some (.ref m), some (.int (nI 0)), some (.int (nI k))]) hX dX9_isName_62 rfl (ltb rfl) rfl rfl ?_
            refine w_iincN (w := 1) (l2 := [some (.ref m), some (.int (nI 0)), some (.int (nI (k + 1)))]) hX dX9_isName_63 rfl kI_1 rfl rfl ?_
            refine w_goto (tgt := 28) hX dX9_isName_66 (by decide) ?_
            refine w_locs (ls2 := [some (.ref m), some (.int (bI (nkw s n (k + 1)))), some (.int (nI (k + 1)))]) (by rw [show nI 0 = bI (nkw s n (k + 1)) from bI_2 (by simp only [nkw]; rw [hk9]; rfl)]) ?_
            exact ih (by omega)
          · refine w_aload_n (i := 0) hX dX9_isName_38 rfl rfl ?_
            refine w_getR (q := m + 4) hX dX9_isName_39 fo_RX9_30 rfl (mod_s hT.1) (mod_r6 hT.1) ?_
            refine w_aload_n (i := 0) hX dX9_isName_42 rfl rfl ?_
            refine w_getI hX dX9_isName_43 fo_RX9_151 rfl (mod_s hT.1) ?_
            refine w_top (y := nI n) hS.1 ?_
            refine w_laldN hX dX9_isName_46 (mod_a4 hT.1) (by omega) (by omega) ?_
            refine w_topL (y := lN (phi (wd s n))) (hwv (nkw_4 hk9)) ?_
            refine w_aload_n (i := 0) hX dX9_isName_47 rfl rfl ?_
            refine w_getR (q := m + 5) hX dX9_isName_48 fo_RX9_70 rfl (mod_s hT.1) (mod_r9 hT.1) ?_
            refine w_iload_n (i := 2) hX dX9_isName_51 rfl rfl ?_
            refine w_laldN hX dX9_isName_52 (mod_a5 hT.1) (by omega) (by omega) ?_
            refine w_topL (y := lN (phi (kw k))) (hT.2.1 k (by omega)) ?_
            refine w_lcmp hX dX9_isName_53 ?_
            refine wc_if_eq (tgt := 61) hX dX9_isName_54 (by decide) (fun c5 => ?_) (fun c5 => ?_)
            · refine w_iconst hX dX9_isName_61 kI_0 ?_
              refine w_istore_n (i := 1) (l2 := [some (.ref m), some (.int (nI 0)), some (.int (nI k))]) hX dX9_isName_62 rfl (ltb rfl) rfl rfl ?_
              refine w_iincN (w := 1) (l2 := [some (.ref m), some (.int (nI 0)), some (.int (nI (k + 1)))]) hX dX9_isName_63 rfl kI_1 rfl rfl ?_
              refine w_goto (tgt := 28) hX dX9_isName_66 (by decide) ?_
              refine w_locs (ls2 := [some (.ref m), some (.int (bI (nkw s n (k + 1)))), some (.int (nI (k + 1)))]) (by rw [show nI 0 = bI (nkw s n (k + 1)) from bI_2 (by simp only [nkw]; rw [hk9, Bool.true_and]; exact decide_eq_false (fun e => e ((phi_inj (wd_lt (nkw_4 hk9)) (kw_lt k (by omega))).mp ((cmp0 (by have := phi_lt (v := wd s n); omega) (by have := phi_lt (v := kw k); omega)).mp c5))))]) ?_
              exact ih (by omega)
            · refine w_iconst hX dX9_isName_57 kI_1 ?_
              refine w_goto (tgt := 62) hX dX9_isName_58 (by decide) ?_
              refine w_istore_n (i := 1) (l2 := [some (.ref m), some (.int (nI 1)), some (.int (nI k))]) hX dX9_isName_62 rfl (ltb rfl) rfl rfl ?_
              refine w_iincN (w := 1) (l2 := [some (.ref m), some (.int (nI 1)), some (.int (nI (k + 1)))]) hX dX9_isName_63 rfl kI_1 rfl rfl ?_
              refine w_goto (tgt := 28) hX dX9_isName_66 (by decide) ?_
              refine w_locs (ls2 := [some (.ref m), some (.int (bI (nkw s n (k + 1)))), some (.int (nI (k + 1)))]) (by rw [show nI 1 = bI (nkw s n (k + 1)) from bI_1 (by simp only [nkw]; rw [hk9, Bool.true_and]; exact decide_eq_true (fun e => c5 ((cmp0 (by have := phi_lt (v := wd s n); omega) (by have := phi_lt (v := kw k); omega)).mpr (by rw [e]))))]) ?_
              exact ih (by omega)
      refine w_locs (ls2 := [some (.ref m), some (.int (bI (nkw s n 0))), some (.int (nI 0))]) (by rw [show nI 0 = bI (nkw s n 0) from bI_2 (decide_eq_false (by omega))]) ?_
      exact loop 0 (Nat.zero_le _)
    · refine w_iconst hX dX9_isName_20 kI_1 ?_
      refine w_goto (tgt := 25) hX dX9_isName_21 (by decide) ?_
      refine w_istore_n (i := 1) (l2 := [some (.ref m), some (.int (nI 1)), none]) hX dX9_isName_25 rfl (ltb rfl) rfl rfl ?_
      refine w_iconst hX dX9_isName_26 kI_0 ?_
      refine w_istore_n (i := 2) (l2 := [some (.ref m), some (.int (nI 1)), some (.int (nI 0))]) hX dX9_isName_27 rfl (ltb rfl) rfl rfl ?_
      have loop : ∀ k, k ≤ 18 → WP Γ X 0 0 28 [some (.ref m), some (.int (bI (nkw s n k))), some (.int (nI k))] [] μ := by
        refine loopU 18 ?_
        intro k hk ih
        refine w_iload_n (i := 2) hX dX9_isName_28 rfl rfl ?_
        refine w_bipush hX dX9_isName_29 kB_18 ?_
        refine wn_icmp_ge (tgt := 69) hX dX9_isName_31 (by decide) (by omega) (by omega) (fun c6 => ?_) (fun c6 => ?_)
        · refine w_iload_n (i := 1) hX dX9_isName_69 rfl rfl ?_
          exact w_iret hX hE dX9_isName_70 (Or.inl rfl) (bI_nar _) ⟨by rw [show k = 18 by omega, nkw_18], rfl⟩
        · refine w_iload_n (i := 1) hX dX9_isName_34 rfl rfl ?_
          refine wb_eq (tgt := 61) hX dX9_isName_35 (by decide) (fun hk9 => ?_) (fun hk9 => ?_)
          · refine w_iconst hX dX9_isName_61 kI_0 ?_
            refine w_istore_n (i := 1) (l2 := [some (.ref m), some (.int (nI 0)), some (.int (nI k))]) hX dX9_isName_62 rfl (ltb rfl) rfl rfl ?_
            refine w_iincN (w := 1) (l2 := [some (.ref m), some (.int (nI 0)), some (.int (nI (k + 1)))]) hX dX9_isName_63 rfl kI_1 rfl rfl ?_
            refine w_goto (tgt := 28) hX dX9_isName_66 (by decide) ?_
            refine w_locs (ls2 := [some (.ref m), some (.int (bI (nkw s n (k + 1)))), some (.int (nI (k + 1)))]) (by rw [show nI 0 = bI (nkw s n (k + 1)) from bI_2 (by simp only [nkw]; rw [hk9]; rfl)]) ?_
            exact ih (by omega)
          · refine w_aload_n (i := 0) hX dX9_isName_38 rfl rfl ?_
            refine w_getR (q := m + 4) hX dX9_isName_39 fo_RX9_30 rfl (mod_s hT.1) (mod_r6 hT.1) ?_
            refine w_aload_n (i := 0) hX dX9_isName_42 rfl rfl ?_
            refine w_getI hX dX9_isName_43 fo_RX9_151 rfl (mod_s hT.1) ?_
            refine w_top (y := nI n) hS.1 ?_
            refine w_laldN hX dX9_isName_46 (mod_a4 hT.1) (by omega) (by omega) ?_
            refine w_topL (y := lN (phi (wd s n))) (hwv (nkw_4 hk9)) ?_
            refine w_aload_n (i := 0) hX dX9_isName_47 rfl rfl ?_
            refine w_getR (q := m + 5) hX dX9_isName_48 fo_RX9_70 rfl (mod_s hT.1) (mod_r9 hT.1) ?_
            refine w_iload_n (i := 2) hX dX9_isName_51 rfl rfl ?_
            refine w_laldN hX dX9_isName_52 (mod_a5 hT.1) (by omega) (by omega) ?_
            refine w_topL (y := lN (phi (kw k))) (hT.2.1 k (by omega)) ?_
            refine w_lcmp hX dX9_isName_53 ?_
            refine wc_if_eq (tgt := 61) hX dX9_isName_54 (by decide) (fun c8 => ?_) (fun c8 => ?_)
            · refine w_iconst hX dX9_isName_61 kI_0 ?_
              refine w_istore_n (i := 1) (l2 := [some (.ref m), some (.int (nI 0)), some (.int (nI k))]) hX dX9_isName_62 rfl (ltb rfl) rfl rfl ?_
              refine w_iincN (w := 1) (l2 := [some (.ref m), some (.int (nI 0)), some (.int (nI (k + 1)))]) hX dX9_isName_63 rfl kI_1 rfl rfl ?_
              refine w_goto (tgt := 28) hX dX9_isName_66 (by decide) ?_
              refine w_locs (ls2 := [some (.ref m), some (.int (bI (nkw s n (k + 1)))), some (.int (nI (k + 1)))]) (by rw [show nI 0 = bI (nkw s n (k + 1)) from bI_2 (by simp only [nkw]; rw [hk9, Bool.true_and]; exact decide_eq_false (fun e => e ((phi_inj (wd_lt (nkw_4 hk9)) (kw_lt k (by omega))).mp ((cmp0 (by have := phi_lt (v := wd s n); omega) (by have := phi_lt (v := kw k); omega)).mp c8))))]) ?_
              exact ih (by omega)
            · refine w_iconst hX dX9_isName_57 kI_1 ?_
              refine w_goto (tgt := 62) hX dX9_isName_58 (by decide) ?_
              refine w_istore_n (i := 1) (l2 := [some (.ref m), some (.int (nI 1)), some (.int (nI k))]) hX dX9_isName_62 rfl (ltb rfl) rfl rfl ?_
              refine w_iincN (w := 1) (l2 := [some (.ref m), some (.int (nI 1)), some (.int (nI (k + 1)))]) hX dX9_isName_63 rfl kI_1 rfl rfl ?_
              refine w_goto (tgt := 28) hX dX9_isName_66 (by decide) ?_
              refine w_locs (ls2 := [some (.ref m), some (.int (bI (nkw s n (k + 1)))), some (.int (nI (k + 1)))]) (by rw [show nI 1 = bI (nkw s n (k + 1)) from bI_1 (by simp only [nkw]; rw [hk9, Bool.true_and]; exact decide_eq_true (fun e => c8 ((cmp0 (by have := phi_lt (v := wd s n); omega) (by have := phi_lt (v := kw k); omega)).mpr (by rw [e]))))]) ?_
              exact ih (by omega)
      refine w_locs (ls2 := [some (.ref m), some (.int (bI (nkw s n 0))), some (.int (nI 0))]) (by rw [show nI 1 = bI (nkw s n 0) from bI_1 (decide_eq_true (by omega))]) ?_
      exact loop 0 (Nat.zero_le _)
def MN (μ : Mem) (m : Nat) (M : NM) : Prop := gI μ m 14 = nI M.1 ∧ M.1 ≤ 32 ∧ ∀ i, i < M.1 → gL μ (m + 7) i = lN (phi (M.2.1 i)) ∧ M.2.1 i < 32 ^ 8 ∧ gI μ (m + 8) i = nI (M.2.2.1 i) ∧ M.2.2.1 i ≤ 3 ∧ gI μ (m + 9) i = nI (M.2.2.2 i) ∧ M.2.2.2 i ≤ 99
theorem MN.sm {S : Nat → Nat → Prop} {μ ν : Mem} {m : Nat} {M : NM} (h : MN μ m M) (hs : same S μ ν) (hS : ∀ o k, S o k → ¬ (m + 7 ≤ o ∧ o ≤ m + 9) ∧ ¬ (o = m ∧ k = 14)) : MN ν m M :=
  ⟨by rw [(hs.2.2 _ _ (fun h9 => (hS _ _ h9).2 ⟨rfl, rfl⟩)).1]; exact h.1, h.2.1, fun i hi => by
    obtain ⟨a1, a2, a3, a4, a5, a6⟩ := h.2.2 i hi
    exact ⟨by rw [(hs.2.2 _ _ (fun h9 => (hS _ _ h9).1 ⟨by omega, by omega⟩)).2]; exact a1, a2, by rw [(hs.2.2 _ _ (fun h9 => (hS _ _ h9).1 ⟨by omega, by omega⟩)).1]; exact a3, a4, by rw [(hs.2.2 _ _ (fun h9 => (hS _ _ h9).1 ⟨by omega, by omega⟩)).1]; exact a5, a6⟩⟩
def MBk (μ : Mem) (m : Nat) (B : Nat → Nat) : Prop := ∀ j, j < 480 → gI μ (m + 6) (480 + j) = nI (B j)
theorem MBk.sm {S : Nat → Nat → Prop} {μ ν : Mem} {m : Nat} {B : Nat → Nat} (h : MBk μ m B) (hs : same S μ ν) (hS : ∀ o k, S o k → ¬ (o = m + 6 ∧ 480 ≤ k ∧ k < 960)) : MBk ν m B := fun j hj => by rw [(hs.2.2 _ _ (fun h9 => hS _ _ h9 ⟨rfl, by omega, by omega⟩)).1]; exact h j hj
theorem MBk.st {μ : Mem} {m j v : Nat} {B : Nat → Nat} (h : MBk μ m B) (hj : j < 480) : MBk (sI μ (m + 6) (480 + j) (nI v)) m (stB B j v) := fun i hi => by
  by_cases e : i = j
  · rw [e, gI_same, stB_same]
  · rw [gI_nk (by omega), stB_ne e]; exact h i hi
def SMm (m : Nat) : Nat → Nat → Prop := fun o k => (o = m ∧ (k = 7 ∨ k = 8 ∨ k = 14 ∨ k = 15)) ∨ (o = m + 6 ∧ 480 ≤ k ∧ k < 960) ∨ (m + 7 ≤ o ∧ o ≤ m + 9)
theorem fnm_at {M : NM} {w k : Nat} (hd : ∀ i j, i < M.1 → j < M.1 → M.2.1 i = M.2.1 j → i = j) (hk : k < M.1) (h : M.2.1 k = w) : fnm M w = some k := by
  cases h9 : fnm M w with
  | none => exact absurd h (fnmF_none _ _ h9 k (Nat.zero_le _) (by omega))
  | some i =>
    have h8 := fnmF_some _ _ _ h9
    rw [hd i k (by omega) hk (h8.2.2.trans h.symm)]
set_option maxHeartbeats 1000000 in
theorem s_m_nameHere (Γ : Gm) (μ : Mem) (m : Nat) (s : Tp) (hT : MT μ m s) (n : Nat) (hS : MSt μ m s n) (M : NM) (hN : MN μ m M) (hd : ∀ i j, i < M.1 → j < M.1 → M.2.1 i = M.2.1 j → i = j) (what : Nat) (hwh : what ≤ 3) : SpI Γ MX9_nameHere 1 0 0 [.ref m, .int (nI what)] μ (fun r μ2 => (∃ v, pNm s n M what = .inr v ∧ r = nI v ∧ μ2 = μ) ∨ (∃ f, pNm s n M what = .inl f ∧ r = (-1 : Int32) ∧ μ2 = sI μ m 8 (nI f))) := by
  refine SpI.of okX9_nameHere rfl [some (.ref m), some (.int (nI what)), none] ⟨rfl, rfl, trivial⟩ (leb rfl) (leb rfl) (fun X hX hE hnm => ?_)
  obtain ⟨z, hz, hz4, z0, z1, z2, z3, hpl, hwv, hvv, hcv0⟩ := hT.2.2.1 n hS.2.1
  have hcv : TKC μ m s n z := hcv0
  clear hcv0
  have hn := (rch_le hT.2.2.2 n hS.2.1).2
  have hk22 := kd_le (s := s) (n := n)
  have hplL := (pl_le (s := s) n).2
  have hL1 := hT.2.2.2.1
  refine w_aload_n (i := 0) hX dX9_nameHere_0 rfl rfl ?_
  refine w_callVI (As := []) (rest := []) (ci := 9) (o := m) (k2 := 0) (n2 := 0) hX dX9_nameHere_1 (s_m_isName0 Γ μ m s hT n hS) okX9_isName (ltb rfl) (mod_s hT.1) ml_RX9_215 imX9_isName seX9_isName rfl (leb rfl) (leb rfl) rfl rfl (fun r9 μ9 hq9 => ?_)
  obtain ⟨hr9, hm9⟩ := hq9; rw [hr9, hm9]; clear hr9 hm9 r9 μ9
  refine wb_ne (tgt := 14) hX dX9_nameHere_4 (by decide) (fun hk4 => ?_) (fun hk4 => ?_)
  · have hk4 := of_decide_eq_true hk4
    have hM := hN.2.1
    have hwl := wd_lt (s := s) (n := n) (by omega)
    refine w_iconst hX dX9_nameHere_14 kI_0 ?_
    refine w_istore_n (i := 2) (l2 := [some (.ref m), some (.int (nI what)), some (.int (nI 0))]) hX dX9_nameHere_15 rfl (ltb rfl) rfl rfl ?_
    have loop : ∀ k, k ≤ M.1 → (∀ i, i < k → ¬ (M.2.1 i = wd s n ∧ M.2.2.1 i = what)) → WP Γ X 0 0 16 [some (.ref m), some (.int (nI what)), some (.int (nI k))] [] μ := by
      refine loopU M.1 ?_
      intro k hk ih hno
      refine w_iload_n (i := 2) hX dX9_nameHere_16 rfl rfl ?_
      refine w_aload_n (i := 0) hX dX9_nameHere_17 rfl rfl ?_
      refine w_getI hX dX9_nameHere_18 fo_RX9_180 rfl (mod_s hT.1) ?_
      refine w_top (y := nI M.1) hN.1 ?_
      refine wn_icmp_ge (tgt := 66) hX dX9_nameHere_21 (by decide) (by first | omega | (have := (hN.2.2 k (by omega)).2.2.2.1; omega)) (by first | omega | (have := (hN.2.2 k (by omega)).2.2.2.1; omega)) (fun c2 => ?_) (fun c2 => ?_)
      · refine w_aload_n (i := 0) hX dX9_nameHere_66 rfl rfl ?_
        refine w_iconst hX dX9_nameHere_67 kI_2 ?_
        refine w_callVV (As := [.int (nI 2)]) (rest := []) (ci := 9) (o := m) (k2 := 0) (n2 := 0) hX dX9_nameHere_68 (s_m_wrong0 Γ μ m s hT n hS 2) okX9_wrong (ltb rfl) (mod_s hT.1) ml_RX9_160 imX9_wrong seX9_wrong rfl (leb rfl) (leb rfl) rfl rfl (fun μ9 hq9 => ?_)
        rw [hq9]; clear hq9 μ9
        refine w_iconst hX dX9_nameHere_71 kI_m1 ?_
        refine w_iret hX hE dX9_nameHere_72 (Or.inl rfl) rfl (Or.inr ⟨ft s 2 n, ?_, rfl, rfl⟩)
        unfold pNm; rw [if_neg (by omega)]
        cases h9 : fnm M (wd s n) with
        | none => rfl
        | some i => have h8 := fnmF_some _ _ _ h9; show (if _ then _ else _) = _; rw [if_neg (fun e => hno i (by omega) ⟨h8.2.2, e⟩)]
      · refine w_aload_n (i := 0) hX dX9_nameHere_24 rfl rfl ?_
        refine w_getR (q := m + 7) hX dX9_nameHere_25 fo_RX9_76 rfl (mod_s hT.1) (mod_r11 hT.1) ?_
        refine w_iload_n (i := 2) hX dX9_nameHere_28 rfl rfl ?_
        refine w_laldN hX dX9_nameHere_29 (mod_a7 hT.1) (by omega) (by omega) ?_
        refine w_topL (y := lN (phi (M.2.1 k))) (hN.2.2 k (by omega)).1 ?_
        refine w_aload_n (i := 0) hX dX9_nameHere_30 rfl rfl ?_
        refine w_getR (q := m + 4) hX dX9_nameHere_31 fo_RX9_30 rfl (mod_s hT.1) (mod_r6 hT.1) ?_
        refine w_aload_n (i := 0) hX dX9_nameHere_34 rfl rfl ?_
        refine w_getI hX dX9_nameHere_35 fo_RX9_151 rfl (mod_s hT.1) ?_
        refine w_top (y := nI n) hS.1 ?_
        refine w_laldN hX dX9_nameHere_38 (mod_a4 hT.1) (by omega) (by omega) ?_
        refine w_topL (y := lN (phi (wd s n))) (hwv (by omega)) ?_
        refine w_lcmp hX dX9_nameHere_39 ?_
        refine wc_if_ne (tgt := 60) hX dX9_nameHere_40 (by decide) (fun c3 => ?_) (fun c3 => ?_)
        · refine w_iincN (w := 1) (l2 := [some (.ref m), some (.int (nI what)), some (.int (nI (k + 1)))]) hX dX9_nameHere_60 rfl kI_1 rfl rfl ?_
          refine w_goto (tgt := 16) hX dX9_nameHere_63 (by decide) ?_
          refine ih (by omega) (fun i hi h9 => ?_)
          by_cases e : i = k
          · subst e; exact c3 ((cmp0 (by have := phi_lt (v := M.2.1 i); omega) (by have := phi_lt (v := wd s n); omega)).mpr (by rw [h9.1]))
          · exact hno i (by omega) h9
        · refine w_aload_n (i := 0) hX dX9_nameHere_43 rfl rfl ?_
          refine w_getR (q := m + 8) hX dX9_nameHere_44 fo_RX9_79 rfl (mod_s hT.1) (mod_r12 hT.1) ?_
          refine w_iload_n (i := 2) hX dX9_nameHere_47 rfl rfl ?_
          refine w_ialdN hX dX9_nameHere_48 (mod_a8 hT.1) (by omega) (by omega) ?_
          refine w_top (y := nI (M.2.2.1 k)) (hN.2.2 k (by omega)).2.2.1 ?_
          refine w_iload_n (i := 1) hX dX9_nameHere_49 rfl rfl ?_
          refine wn_icmp_ne (tgt := 60) hX dX9_nameHere_50 (by decide) (by first | omega | (have := (hN.2.2 k (by omega)).2.2.2.1; omega)) (by first | omega | (have := (hN.2.2 k (by omega)).2.2.2.1; omega)) (fun c4 => ?_) (fun c4 => ?_)
          · refine w_iincN (w := 1) (l2 := [some (.ref m), some (.int (nI what)), some (.int (nI (k + 1)))]) hX dX9_nameHere_60 rfl kI_1 rfl rfl ?_
            refine w_goto (tgt := 16) hX dX9_nameHere_63 (by decide) ?_
            refine ih (by omega) (fun i hi h9 => ?_)
            by_cases e : i = k
            · subst e; exact c4 h9.2
            · exact hno i (by omega) h9
          · refine w_aload_n (i := 0) hX dX9_nameHere_53 rfl rfl ?_
            refine w_getR (q := m + 9) hX dX9_nameHere_54 fo_RX9_82 rfl (mod_s hT.1) (mod_r13 hT.1) ?_
            refine w_iload_n (i := 2) hX dX9_nameHere_57 rfl rfl ?_
            refine w_ialdN hX dX9_nameHere_58 (mod_a9 hT.1) (by omega) (by omega) ?_
            refine w_top (y := nI (M.2.2.2 k)) (hN.2.2 k (by omega)).2.2.2.2.1 ?_
            have hck : M.2.1 k = wd s n := (phi_inj (hN.2.2 k (by omega)).2.1 hwl).mp ((cmp0 (by have := phi_lt (v := M.2.1 k); omega) (by have := phi_lt (v := wd s n); omega)).mp c3)
            exact w_iret hX hE dX9_nameHere_59 (Or.inl rfl) rfl (Or.inl ⟨M.2.2.2 k, by unfold pNm; rw [if_neg (by omega), fnm_at hd (by omega) hck]; show (if _ then _ else _) = _; rw [if_pos c4], rfl, rfl⟩)
    exact loop 0 (Nat.zero_le _) (fun i hi => absurd hi (Nat.not_lt_zero _))
  · refine w_aload_n (i := 0) hX dX9_nameHere_7 rfl rfl ?_
    refine w_iconst hX dX9_nameHere_8 kI_1 ?_
    refine w_callVV (As := [.int (nI 1)]) (rest := []) (ci := 9) (o := m) (k2 := 0) (n2 := 0) hX dX9_nameHere_9 (s_m_wrong0 Γ μ m s hT n hS 1) okX9_wrong (ltb rfl) (mod_s hT.1) ml_RX9_160 imX9_wrong seX9_wrong rfl (leb rfl) (leb rfl) rfl rfl (fun μ9 hq9 => ?_)
    rw [hq9]; clear hq9 μ9
    refine w_iconst hX dX9_nameHere_12 kI_m1 ?_
    exact w_iret hX hE dX9_nameHere_13 (Or.inl rfl) rfl (Or.inr ⟨ft s 1 n, by unfold pNm; rw [if_pos (of_decide_eq_false hk4)], rfl, rfl⟩)
theorem pNm_99 {μ : Mem} {m n what v : Nat} {s : Tp} {M : NM} (hN : MN μ m M) (h : pNm s n M what = .inr v) : v ≤ 99 ∧ kd s n = 4 := by
  obtain ⟨h0, i, h1, -, -, h4⟩ := pNm_inr h
  have := (hN.2.2 i h1).2.2.2.2.2
  exact ⟨by omega, h0⟩
set_option maxHeartbeats 1000000 in
theorem s_m_takeName (Γ : Gm) (μ : Mem) (m : Nat) (s : Tp) (hT : MT μ m s) (n : Nat) (hS : MSt μ m s n) (M : NM) (hN : MN μ m M) (hd : ∀ i j, i < M.1 → j < M.1 → M.2.1 i = M.2.1 j → i = j) (what : Nat) (hwh : what ≤ 3) : SpI Γ MX9_takeName 2 0 0 [.ref m, .int (nI what)] μ (fun r μ2 => (∃ v, pNm s n M what = .inr v ∧ r = nI v ∧ μ2 = sI μ m 7 (nI (n + 1))) ∨ (∃ f, pNm s n M what = .inl f ∧ r = (-1 : Int32) ∧ μ2 = sI μ m 8 (nI f))) := by
  refine SpI.of okX9_takeName rfl [some (.ref m), some (.int (nI what)), none] ⟨rfl, rfl, trivial⟩ (leb rfl) (leb rfl) (fun X hX hE hnm => ?_)
  obtain ⟨z, hz, hz4, z0, z1, z2, z3, hpl, hwv, hvv, hcv0⟩ := hT.2.2.1 n hS.2.1
  have hcv : TKC μ m s n z := hcv0
  clear hcv0
  have hn := (rch_le hT.2.2.2 n hS.2.1).2
  have hk22 := kd_le (s := s) (n := n)
  have hplL := (pl_le (s := s) n).2
  have hL1 := hT.2.2.2.1
  refine w_aload_n (i := 0) hX dX9_takeName_0 rfl rfl ?_
  refine w_iload_n (i := 1) hX dX9_takeName_1 rfl rfl ?_
  refine w_callVI (As := [.int (nI what)]) (rest := []) (ci := 9) (o := m) (k2 := 0) (n2 := 0) hX dX9_takeName_2 (s_m_nameHere Γ μ m s hT n hS M hN hd what hwh) okX9_nameHere (ltb rfl) (mod_s hT.1) ml_RX9_219 imX9_nameHere seX9_nameHere rfl (leb rfl) (leb rfl) rfl rfl (fun r5 ν5 hq9 => ?_)
  rcases hq9 with ⟨v9, hp, hr5, hm5⟩ | ⟨f9, hp, hr5, hm5⟩
  · rw [hr5, hm5]
    have hv9 := pNm_99 hN hp
    refine w_istore_n (i := 2) (l2 := [some (.ref m), some (.int (nI what)), some (.int (nI v9))]) hX dX9_takeName_5 rfl (ltb rfl) rfl rfl ?_
    refine w_aload_n (i := 0) hX dX9_takeName_6 rfl rfl ?_
    refine w_dup hX dX9_takeName_7 rfl ?_
    refine w_getI hX dX9_takeName_8 fo_RX9_151 rfl (mod_s hT.1) ?_
    refine w_top (y := nI n) hS.1 ?_
    refine w_iload_n (i := 2) hX dX9_takeName_11 rfl rfl ?_
    refine wn_if_ge (tgt := 19) hX dX9_takeName_12 (by decide) (by omega) (fun c1 => ?_) (fun c1 => ?_)
    · refine w_iconst hX dX9_takeName_19 kI_1 ?_
      refine w_iaddN hX dX9_takeName_20 ?_
      refine w_putI hX dX9_takeName_21 fo_RX9_151 rfl rfl rfl rfl (mod_s hT.1) ?_
      refine w_iload_n (i := 2) hX dX9_takeName_24 rfl rfl ?_
      exact w_iret hX hE dX9_takeName_25 (Or.inl rfl) rfl (Or.inl ⟨v9, hp, rfl, rfl⟩)
    · exfalso; omega
  · rw [hr5, hm5]
    refine w_istore_n (i := 2) (l2 := [some (.ref m), some (.int (nI what)), some (.int ((-1 : Int32)))]) hX dX9_takeName_5 rfl (ltb rfl) rfl rfl ?_
    refine w_aload_n (i := 0) hX dX9_takeName_6 rfl rfl ?_
    refine w_dup hX dX9_takeName_7 rfl ?_
    refine w_getI hX dX9_takeName_8 fo_RX9_151 rfl (mod_s hT.1) ?_
    refine w_top (y := nI n) (by rw [gI_nk (by omega)]; exact hS.1) ?_
    refine w_iload_n (i := 2) hX dX9_takeName_11 rfl rfl ?_
    refine wc_if_ge (tgt := 19) hX dX9_takeName_12 (by decide) (fun c2 => ?_) (fun c2 => ?_)
    · exact absurd c2 (by decide)
    · refine w_iconst hX dX9_takeName_15 kI_0 ?_
      refine w_goto (tgt := 20) hX dX9_takeName_16 (by decide) ?_
      refine w_iaddN hX dX9_takeName_20 ?_
      refine w_putI hX dX9_takeName_21 fo_RX9_151 rfl rfl rfl rfl (mod_s hT.1) ?_
      refine w_iload_n (i := 2) hX dX9_takeName_24 rfl rfl ?_
      exact w_iret hX hE dX9_takeName_25 (Or.inl rfl) rfl (Or.inr ⟨f9, hp, rfl, sI_id (by rw [gI_nk (by omega), Nat.add_zero]; exact hS.1)⟩)
