theorem posI_eq {B : Nat → Nat} {t d h : Nat} (hW : WBt B) (ht : t < 3) (hd : hasD B t d = false) (h1 : 1 ≤ h) (h2 : h ≤ 24) : ∀ a, a ≤ nB B t → posI (mS B t) (d * 1440 + h * 60) a = posI (dyI B t) d a := by
  intro a
  induction a with
  | zero => intro _; rfl
  | succ a ih =>
    intro ha
    simp only [posI]
    rw [ih (by omega)]
    have hr := (hW.2 t ht).2.1 a (by omega)
    have hne : dyI B t a ≠ d := fun e => by
      rw [Bool.eq_false_iff] at hd
      exact hd (hasD_iff.mpr ⟨a, by omega, e⟩)
    have e1 : dyI B t a = B (1 + 25 * t + 1 + 2 * a) := rfl
    have e2 : mS B t a = 1440 * dyI B t a + 60 * hrI B t a := rfl
    have e3 : hrI B t a = B (1 + 25 * t + 2 + 2 * a) := rfl
    by_cases c : d < dyI B t a
    · rw [if_pos c, if_pos (by omega)]
    · rw [if_neg c, if_neg (by omega)]
theorem ins_m {B : Nat → Nat} {t d h k : Nat} (hW : WBt B) (ht : t < 3) (hd : hasD B t d = false) (h1 : 1 ≤ h) (h2 : h ≤ 24) (hk : k < nB B t + 1) : mS (insB B t d h) t k = insF (mS B t) (d * 1440 + h * 60) (posI (mS B t) (d * 1440 + h * 60) (nB B t)) k := by
  rw [mS_dh, ins_d hk, ins_h hk, posI_eq hW ht hd h1 h2 _ (Nat.le_refl _)]
  generalize posI (dyI B t) d (nB B t) = P
  unfold insF
  by_cases c1 : k < P
  · rw [if_pos c1, if_pos c1, if_pos c1]; rfl
  · rw [if_neg c1, if_neg c1, if_neg c1]
    by_cases c2 : k = P
    · rw [if_pos c2, if_pos c2, if_pos c2]; omega
    · rw [if_neg c2, if_neg c2, if_neg c2]; rfl
theorem hasD_fnd {B : Nat → Nat} {t d : Nat} (hW : WBt B) (ht : t < 3) : fnd (mS B t) d (nB B t) 0 = none ↔ hasD B t d = false := by
  have hdy : ∀ k, k < nB B t → (mS B t k - 1) / 1440 = dyI B t k := by
    intro k hk
    have hr := (hW.2 t ht).2.1 k hk
    have e1 : dyI B t k = B (1 + 25 * t + 1 + 2 * k) := rfl
    have e3 : hrI B t k = B (1 + 25 * t + 2 + 2 * k) := rfl
    rw [mS_dh]; omega
  rw [Bool.eq_false_iff, ne_eq, hasD_iff]
  constructor
  · rintro h ⟨k, h1, h2⟩
    exact fnd_none _ _ h k (Nat.zero_le _) (by omega) (by rw [hdy k h1]; exact h2)
  · intro h
    cases h9 : fnd (mS B t) d (nB B t) 0 with
    | none => rfl
    | some v =>
      obtain ⟨j, h1, h2, h3, h4⟩ := fnd_some _ _ _ h9
      exact absurd ⟨j, by omega, by rw [← hdy j (by omega)]; exact h4⟩ h
theorem Rb_back {μ ν : Mem} {b t d h : Nat} {B : Nat → Nat} (hR : Rb μ b B) (hW : WBt B) (ht : t < 3) (hn : nB B t < 12) (hd : hasD B t d = false) (hd2 : d ≤ 3649) (h1 : 1 ≤ h) (h2 : h ≤ 24) (hs : same (fun o k => (o = b + 10 + 2 * t ∧ k = 1) ∨ o = b + 10 + 2 * t + 1) μ ν) (hc : gI ν (b + 10 + 2 * t) 1 = nI (nB B t + 1)) (hv : ∀ j, j < nB B t + 1 → gI ν (b + 10 + 2 * t + 1) j = nI (insF (mS B t) (d * 1440 + h * 60) (posI (mS B t) (d * 1440 + h * 60) (nB B t)) j)) : Rb ν b (insB B t d h) := by
  obtain ⟨h0', g1, g2, g3, g4, g5, g6, g7, g8, g9, g10, g11, g12⟩ := hR
  have o : ∀ i, i < 1 + 25 * t ∨ 26 + 25 * t ≤ i → insB B t d h i = B i := fun i hi => ins_o (by omega) hi
  have hw : wayN (insB B t d h) = wayN B := by unfold wayN; rw [o _ (by omega), o _ (by omega), o _ (by omega)]
  have g : ∀ q k, ¬ ((q = b + 10 + 2 * t ∧ k = 1) ∨ q = b + 10 + 2 * t + 1) → gI ν q k = gI μ q k := fun q k hn => (hs.2.2 q k hn).1
  refine ⟨hs.isBk h0', by rw [g _ _ (by omega), o _ (by omega)]; exact g1, fun t' ht' => ?_, fun i hi => by rw [g _ _ (by omega), o _ (by omega)]; exact g3 i hi, by rw [g _ _ (by omega), hw]; exact g4, by rw [g _ _ (by omega), o _ (by omega)]; exact g5, fun i hi => by rw [g _ _ (by omega), o _ (by omega)]; exact g6 i (by rw [o _ (by omega)] at hi; exact hi), by rw [g _ _ (by omega), o _ (by omega)]; exact g7, fun q s hq h1' h2' => by rw [g _ _ (by omega), o _ (by omega)]; exact g8 q s hq h1' h2', by rw [g _ _ (by omega), o _ (by omega)]; exact g9, fun i hi => by rw [g _ _ (by omega), o _ (by omega)]; exact g10 i (by rw [o _ (by omega)] at hi; exact hi), by rw [g _ _ (by omega), o _ (by omega)]; exact g11, fun i hi => by rw [g _ _ (by omega), o _ (by omega)]; exact g12 i (by rw [o _ (by omega)] at hi; exact hi)⟩
  obtain ⟨c1, c2, c3, c4⟩ := g2 t' ht'
  by_cases e : t' = t
  · subst e
    rw [ins_n]
    refine ⟨hs.isClk c1, hc, by omega, fun k hk => ?_⟩
    rw [ins_m hW ht hd h1 h2 hk]
    refine ⟨hv k hk, ?_, ?_⟩
    · exact insF_ge (fun j hj => (c4 j hj).2.1) (by omega) (posI_le _) k hk
    · exact insF_le (fun j hj => (c4 j hj).2.2) (by omega) (posI_le _) k hk
  · have hle := c3
    have en : nB (insB B t d h) t' = nB B t' := o _ (by omega)
    rw [en]
    refine ⟨hs.isClk c1, by rw [g _ _ (by omega)]; exact c2, c3, fun k hk => ?_⟩
    have em : mS (insB B t d h) t' k = mS B t' k := by unfold mS; rw [o _ (by omega), o _ (by omega)]
    rw [em, g _ _ (by omega)]; exact c4 k hk
set_option maxHeartbeats 1000000 in
theorem s_r_back (Γ : Gm) (μ : Mem) (r t b : Nat) (s : Tp) (n : Nat) (B : Nat → Nat) (M : NM) (hr : RD μ r t b s) (htr : t + 1 < r) (hrb : r + 2 < b) (hS : RS μ r s n) (hR : Rb μ b B) (hC : CN μ b M) (hf : gI μ r 5 = nI 0) (hP : PIv B M)  : SpV Γ MX4_readBack 4 0 0 [.ref r] μ (fun μ2 => RX r b s (bnd (pBack s n B M) (pSemi s)) μ μ2) := by
  refine SpV.of okX4_readBack rfl [some (.ref r), none, none] ⟨rfl, trivial⟩ (leb rfl) (leb rfl) (fun X hX hE hnm => ?_)
  have hs : same (SRB r b) μ μ := same.rf
  obtain ⟨hM9, hb0, hb85, hb126, hb352⟩ := M32 hP
  have hnb : 0 < B 0 → nB B (B 0 - 1) ≤ 12 := fun h => (hP.1.1.2 (B 0 - 1) (by omega)).1
  refine w_aload_n (i := 0) hX dX4_readBack_0 rfl rfl ?_
  refine w_aload_n (i := 0) hX dX4_readBack_1 rfl rfl ?_
  refine w_getR (q := b) hX dX4_readBack_2 fo_RX4_41 rfl (rd_s hr.1) hr.2.2.1 ?_
  refine w_getI hX dX4_readBack_5 fo_RX4_90 rfl (bk_s hR.1) ?_
  refine w_top (y := nI (B 0)) hR.2.1 ?_
  refine wn_if_le (tgt := 15) hX dX4_readBack_8 (by decide) (by first | omega | (have := kd_le (s := s) (n := n); omega)) (fun c1 => ?_) (fun c1 => ?_)
  · refine w_iconst hX dX4_readBack_15 kI_0 ?_
    refine w_iconst hX dX4_readBack_16 kI_1 ?_
    refine w_callVI (As := [.int (nI 0), .int (nI 1)]) (rest := []) (ci := 4) (o := r) (k2 := 0) (n2 := 0) hX dX4_readBack_17 (s_r_check0 Γ μ r t b s hr htr hrb (n) 1 hS.2.2.1) okX4_check (ltb rfl) (rd_s hr.1) ml_RX4_86 imX4_check seX4_check rfl (leb rfl) (leb rfl) rfl rfl (fun r9 μ9 hq9 => ?_)
    obtain ⟨hr9, hm9⟩ := hq9; rw [hr9, hm9, show 1 + 16 * pl s (n) = ft s 1 (n) from rfl]; clear hr9 hm9 r9 μ9
    refine wn_if_ne (tgt := 24) hX dX4_readBack_20 (by decide) (by first | omega | (have := kd_le (s := s) (n := n); omega)) (fun c2 => ?_) (fun c2 => ?_)
    · exact absurd c2 (by decide)
    · have hpx : pBack s n B M = .inl (ft s 1 (n)) := by unfold pBack; exact if_pos (by omega)
      exact w_vret hX hE dX4_readBack_23 (Or.inl rfl) (RX_l (bnd_l hpx) hs (ft_lt hr.2.2.2.2.2 (by omega) (by omega)))
  · refine w_iconst hX dX4_readBack_11 kI_1 ?_
    refine w_goto (tgt := 16) hX dX4_readBack_12 (by decide) ?_
    refine w_iconst hX dX4_readBack_16 kI_1 ?_
    refine w_callVI (As := [.int (nI 1), .int (nI 1)]) (rest := []) (ci := 4) (o := r) (k2 := 0) (n2 := 0) hX dX4_readBack_17 (s_r_check1 Γ μ r t b s hr htr hrb (n) 1 hS.2.2.1) okX4_check (ltb rfl) (rd_s hr.1) ml_RX4_86 imX4_check seX4_check rfl (leb rfl) (leb rfl) rfl rfl (fun r9 μ9 hq9 => ?_)
    obtain ⟨hr9, hm9⟩ := hq9; rw [hr9, hm9]; clear hr9 hm9 r9 μ9
    refine wn_if_ne (tgt := 24) hX dX4_readBack_20 (by decide) (by first | omega | (have := kd_le (s := s) (n := n); omega)) (fun c3 => ?_) (fun c3 => ?_)
    · refine w_aload_n (i := 0) hX dX4_readBack_24 rfl rfl ?_
      refine w_getR (q := b) hX dX4_readBack_25 fo_RX4_41 rfl (rd_s hr.1) hr.2.2.1 ?_
      refine w_getR (q := b + 1) hX dX4_readBack_28 fo_RX4_105 rfl (bk_s hR.1) (bk_r0 hR.1) ?_
      refine w_aload_n (i := 0) hX dX4_readBack_31 rfl rfl ?_
      refine w_getR (q := b) hX dX4_readBack_32 fo_RX4_41 rfl (rd_s hr.1) hr.2.2.1 ?_
      refine w_getI hX dX4_readBack_35 fo_RX4_90 rfl (bk_s hR.1) ?_
      refine w_top (y := nI (B 0)) hR.2.1 ?_
      refine w_iconst hX dX4_readBack_38 kI_1 ?_
      refine w_isubN hX dX4_readBack_39 (by omega) ?_
      refine w_aaldN (q := b + 10 + 2 * (B 0 - 1)) hX dX4_readBack_40 (bk_a1 hR.1) (by omega) (by omega) (bk_c hR.1 (by omega)).1 ?_
      refine w_astore_n (i := 1) (l2 := [some (.ref r), some (.ref (b + 10 + 2 * (B 0 - 1))), none]) hX dX4_readBack_41 rfl (ltb rfl) rfl rfl ?_
      refine w_aload_n (i := 0) hX dX4_readBack_42 rfl rfl ?_
      refine w_aload_n (i := 1) hX dX4_readBack_43 rfl rfl ?_
      refine w_getI hX dX4_readBack_44 fo_RX4_109 rfl (bk_c hR.1 (by omega)).2.1 ?_
      refine w_top (y := nI (nB B (B 0 - 1))) (hR.2.2.1 (B 0 - 1) (by omega)).2.1 ?_
      refine w_bipush hX dX4_readBack_47 kB_12 ?_
      refine wn_icmp_ge (tgt := 56) hX dX4_readBack_49 (by decide) (by first | omega | (have := kd_le (s := s) (n := n); omega)) (by first | omega | (have := kd_le (s := s) (n := n); omega)) (fun c4 => ?_) (fun c4 => ?_)
      · refine w_iconst hX dX4_readBack_56 kI_0 ?_
        refine w_callVI (As := [.int (nI 0)]) (rest := []) (ci := 4) (o := r) (k2 := 0) (n2 := 0) hX dX4_readBack_57 (s_r_more0 Γ μ r t b s hr htr hrb (n) hS) okX4_takeOneMore (ltb rfl) (rd_s hr.1) ml_RX4_93 imX4_takeOneMore seX4_takeOneMore rfl (leb rfl) (leb rfl) rfl rfl (fun r9 μ9 hq9 => ?_)
        obtain ⟨hr9, hm9⟩ := hq9; rw [hr9, hm9]; clear hr9 hm9 r9 μ9
        refine wn_if_ne (tgt := 64) hX dX4_readBack_60 (by decide) (by first | omega | (have := kd_le (s := s) (n := n); omega)) (fun c5 => ?_) (fun c5 => ?_)
        · exact absurd c5 (by decide)
        · have hpx : pBack s n B M = .inl (ft s 5 (n)) := by unfold pBack; exact (if_neg (by omega)).trans (if_pos (by omega))
          exact w_vret hX hE dX4_readBack_63 (Or.inl rfl) (RX_l (bnd_l hpx) hs (ft_lt hr.2.2.2.2.2 (by omega) (by omega)))
      · refine w_iconst hX dX4_readBack_52 kI_1 ?_
        refine w_goto (tgt := 57) hX dX4_readBack_53 (by decide) ?_
        refine w_callVI (As := [.int (nI 1)]) (rest := []) (ci := 4) (o := r) (k2 := 0) (n2 := 0) hX dX4_readBack_57 (s_r_more1 Γ μ r t b s hr htr hrb (n) hS) okX4_takeOneMore (ltb rfl) (rd_s hr.1) ml_RX4_93 imX4_takeOneMore seX4_takeOneMore rfl (leb rfl) (leb rfl) rfl rfl (fun r2 ν2 hq9 => ?_)
        obtain ⟨e2, hS_2, t2⟩ := hq9; rw [e2]
        have hr_2 := hr.sm t2 (fun o k h => by unfold SA at h; omega)
        have hR_2 := Rb_fr t2 (fun o k h => Or.inl (by unfold SA at h; omega)) hR
        have hC_2 := hC.sm t2 (fun o k h => by unfold SA at h; omega)
        have hf_2 : gI ν2 r 5 = nI 0 := by rw [(t2.2.2 _ _ (fun h => by unfold SA at h; omega)).1]; exact hf
        have hs_2 := hs.tr (t2.up (fun o k h => by unfold SA at h; unfold SRB; omega))
        refine wn_if_ne (tgt := 64) hX dX4_readBack_60 (by decide) (by first | omega | (have := kd_le (s := s) (n := n); omega)) (fun c6 => ?_) (fun c6 => ?_)
        · refine w_aload_n (i := 0) hX dX4_readBack_64 rfl rfl ?_
          refine w_getI hX dX4_readBack_65 fo_RX4_114 rfl (rd_s hr_2.1) ?_
          refine w_top (y := gI ν2 r 8) rfl ?_
          refine w_istore_n (i := 2) (l2 := [some (.ref r), some (.ref (b + 10 + 2 * (B 0 - 1))), some (.int (gI ν2 r 8))]) hX dX4_readBack_68 rfl (ltb rfl) rfl rfl ?_
          refine w_aload_n (i := 0) hX dX4_readBack_69 rfl rfl ?_
          refine w_iconst hX dX4_readBack_70 kI_0 ?_
          refine w_sipush hX dX4_readBack_71 kS_3649 ?_
          refine w_callVI (As := [.int (nI 0), .int (nI 3649)]) (rest := []) (ci := 4) (o := r) (k2 := 0) (n2 := 0) hX dX4_readBack_74 (s_r_isNum Γ ν2 r t b s hr_2 htr hrb (n + 1) hS_2 0 3649 (by omega) (by omega)) okX4_isNumber (ltb rfl) (rd_s hr_2.1) ml_RX4_117 imX4_isNumber seX4_isNumber rfl (leb rfl) (leb rfl) rfl rfl (fun r3 ν3 hq9 => ?_)
          rcases hq9 with ⟨p3, e3, m3⟩ | ⟨f3, p3, e3, m3⟩
          · rw [e3, m3, show bI true = nI 1 from rfl]
            obtain ⟨q3, -, l3, g3⟩ := pNb_inr p3
            refine wn_if_eq (tgt := 102) hX dX4_readBack_77 (by decide) (by first | omega | (have := kd_le (s := s) (n := n); omega)) (fun c7 => ?_) (fun c7 => ?_)
            · exact absurd c7 (by decide)
            · refine w_locs (ls2 := [some (.ref r), some (.ref (b + 10 + 2 * (B 0 - 1))), some (.int (nI (vl s (n + 1))))]) (by rw [hS_2.2.2.2.1 q3]) ?_
              refine w_aload_n (i := 0) hX dX4_readBack_80 rfl rfl ?_
              refine w_aload_n (i := 1) hX dX4_readBack_81 rfl rfl ?_
              refine w_iload_n (i := 2) hX dX4_readBack_82 rfl rfl ?_
              refine w_callVI (As := [.int (nI (vl s (n + 1)))]) (rest := [.ref r]) (ci := 1) (o := b + 10 + 2 * (B 0 - 1)) (k2 := 0) (n2 := 0) hX dX4_readBack_83 (s_strokeOn Γ ν2 (mS B (B 0 - 1)) (nB B (B 0 - 1)) (b + 10 + 2 * (B 0 - 1)) (vl s (n + 1)) (hR_2.2.2.1 (B 0 - 1) (by omega)) (by omega)) okX1_strokeOn (ltb rfl) (bk_c hR_2.1 (by omega)).2.1 ml_RX4_120 imX1_strokeOn seX1_strokeOn rfl (leb rfl) (leb rfl) rfl rfl (fun r9 μ9 hq9 => ?_)
              obtain ⟨hr9, hm9⟩ := hq9; rw [hr9, hm9]; clear hr9 hm9 r9 μ9
              refine w_iconst hX dX4_readBack_86 kI_m1 ?_
              refine wc_icmp_ne (tgt := 94) hX dX4_readBack_87 (by decide) (fun c8 => ?_) (fun c8 => ?_)
              · refine w_iconst hX dX4_readBack_94 kI_0 ?_
                refine w_iconst hX dX4_readBack_95 kI_3 ?_
                refine w_callVI (As := [.int (nI 0), .int (nI 3)]) (rest := []) (ci := 4) (o := r) (k2 := 0) (n2 := 0) hX dX4_readBack_96 (s_r_check0 Γ ν2 r t b s hr_2 htr hrb (n + 1) 3 hS_2.2.2.1) okX4_check (ltb rfl) (rd_s hr_2.1) ml_RX4_86 imX4_check seX4_check rfl (leb rfl) (leb rfl) rfl rfl (fun r9 μ9 hq9 => ?_)
                obtain ⟨hr9, hm9⟩ := hq9; rw [hr9, hm9, show 3 + 16 * pl s (n + 1) = ft s 3 (n + 1) from rfl]; clear hr9 hm9 r9 μ9
                refine wn_if_ne (tgt := 103) hX dX4_readBack_99 (by decide) (by first | omega | (have := kd_le (s := s) (n := n); omega)) (fun c9 => ?_) (fun c9 => ?_)
                · exact absurd c9 (by decide)
                · have hpx : pBack s n B M = .inl (ft s 3 (n + 1)) := by unfold pBack; exact (if_neg (by omega)).trans ((if_neg (by omega)).trans ((bnd_r p3).trans (if_pos (by cases h9 : hasD B (B 0 - 1) (vl s (n + 1)) with | true => rfl | false => exact absurd ((oI_m1 (fun v h => fnd_day hP.1.1 (by omega) h)).mpr ((hasD_fnd hP.1.1 (by omega)).mpr h9)) c8))))
                  exact w_vret hX hE dX4_readBack_102 (Or.inl rfl) (RX_l (bnd_l hpx) hs_2 (ft_lt hr.2.2.2.2.2 (by omega) (by omega)))
              · have hhd : hasD B (B 0 - 1) (vl s (n + 1)) = false := (hasD_fnd hP.1.1 (by omega)).mp ((oI_m1 (fun v h => fnd_day hP.1.1 (by omega) h)).mp c8)
                refine w_iconst hX dX4_readBack_90 kI_1 ?_
                refine w_goto (tgt := 95) hX dX4_readBack_91 (by decide) ?_
                refine w_iconst hX dX4_readBack_95 kI_3 ?_
                refine w_callVI (As := [.int (nI 1), .int (nI 3)]) (rest := []) (ci := 4) (o := r) (k2 := 0) (n2 := 0) hX dX4_readBack_96 (s_r_check1 Γ ν2 r t b s hr_2 htr hrb (n + 1) 3 hS_2.2.2.1) okX4_check (ltb rfl) (rd_s hr_2.1) ml_RX4_86 imX4_check seX4_check rfl (leb rfl) (leb rfl) rfl rfl (fun r9 μ9 hq9 => ?_)
                obtain ⟨hr9, hm9⟩ := hq9; rw [hr9, hm9]; clear hr9 hm9 r9 μ9
                refine wn_if_ne (tgt := 103) hX dX4_readBack_99 (by decide) (by first | omega | (have := kd_le (s := s) (n := n); omega)) (fun c10 => ?_) (fun c10 => ?_)
                · refine w_aload_n (i := 0) hX dX4_readBack_103 rfl rfl ?_
                  refine w_callVV (As := []) (rest := []) (ci := 4) (o := r) (k2 := 0) (n2 := 0) hX dX4_readBack_104 (s_r_advance Γ ν2 r t b s hr_2 htr hrb (n + 2) hS_2.1) okX4_advance (ltb rfl) (rd_s hr_2.1) ml_RX4_57 imX4_advance seX4_advance rfl (leb rfl) (leb rfl) rfl rfl (fun ν4 hq9 => ?_)
                  obtain ⟨hS_4, t4⟩ := hq9
                  have hr_4 := hr_2.sm t4 (fun o k h => by unfold SA at h; omega)
                  have hR_4 := Rb_fr t4 (fun o k h => Or.inl (by unfold SA at h; omega)) hR_2
                  have hC_4 := hC_2.sm t4 (fun o k h => by unfold SA at h; omega)
                  have hf_4 : gI ν4 r 5 = nI 0 := by rw [(t4.2.2 _ _ (fun h => by unfold SA at h; omega)).1]; exact hf_2
                  have hs_4 := hs_2.tr (t4.up (fun o k h => by unfold SA at h; unfold SRB; omega))
                  refine w_aload_n (i := 0) hX dX4_readBack_107 rfl rfl ?_
                  refine w_bipush hX dX4_readBack_108 kB_7 ?_
                  refine w_callVI (As := [.int (nI 7)]) (rest := []) (ci := 4) (o := r) (k2 := 0) (n2 := 0) hX dX4_readBack_110 (s_r_take Γ ν4 r t b s hr_4 htr hrb (n + 2) hS_4 7 (by omega)) okX4_take (ltb rfl) (rd_s hr_4.1) ml_RX4_101 imX4_take seX4_take rfl (leb rfl) (leb rfl) rfl rfl (fun r5 ν5 hq9 => ?_)
                  rcases hq9 with ⟨w5, e5, hS_5, t5⟩ | ⟨w5, e5, m5⟩
                  · rw [e5, show bI true = nI 1 from rfl]
                    have hr_5 := hr_4.sm t5 (fun o k h => by unfold SA at h; omega)
                    have hR_5 := Rb_fr t5 (fun o k h => Or.inl (by unfold SA at h; omega)) hR_4
                    have hC_5 := hC_4.sm t5 (fun o k h => by unfold SA at h; omega)
                    have hf_5 : gI ν5 r 5 = nI 0 := by rw [(t5.2.2 _ _ (fun h => by unfold SA at h; omega)).1]; exact hf_4
                    have hs_5 := hs_4.tr (t5.up (fun o k h => by unfold SA at h; unfold SRB; omega))
                    refine wn_if_eq (tgt := 156) hX dX4_readBack_113 (by decide) (by first | omega | (have := kd_le (s := s) (n := n); omega)) (fun c11 => ?_) (fun c11 => ?_)
                    · exact absurd c11 (by decide)
                    · refine w_aload_n (i := 0) hX dX4_readBack_116 rfl rfl ?_
                      refine w_iconst hX dX4_readBack_117 kI_1 ?_
                      refine w_bipush hX dX4_readBack_118 kB_24 ?_
                      refine w_aload_n (i := 0) hX dX4_readBack_120 rfl rfl ?_
                      refine w_getR (q := r + 2) hX dX4_readBack_121 fo_RX4_15 rfl (rd_s hr_5.1) (rd_r1 hr_5.1) ?_
                      refine w_iconst hX dX4_readBack_124 kI_0 ?_
                      refine w_callVI (As := [.int (nI 1), .int (nI 24), .ref (r + 2), .int (nI 0)]) (rest := []) (ci := 4) (o := r) (k2 := 0) (n2 := 0) hX dX4_readBack_125 (s_r_takeN Γ ν5 r t b s hr_5 htr hrb (n + 3) hS_5 1 24 (by omega) (by omega) (r + 2) (0) 1 (rd_a2 hr_5.1) (by omega) (by omega) (by omega)) okX4_takeNumber (ltb rfl) (rd_s hr_5.1) ml_RX4_123 imX4_takeNumber seX4_takeNumber rfl (leb rfl) (leb rfl) rfl rfl (fun r6 ν6 hq9 => ?_)
                      rcases hq9 with ⟨p6, e6, hS_6, z6, t6⟩ | ⟨f6, p6, e6, m6⟩
                      · rw [e6, show bI true = nI 1 from rfl]
                        obtain ⟨q6, -, l6, g6⟩ := pNb_inr p6
                        have hr_6 := hr_5.sm t6 (fun o k h => by unfold SA at h; omega)
                        have hR_6 := Rb_fr t6 (fun o k h => by unfold SA at h; omega) hR_5
                        have hC_6 := hC_5.sm t6 (fun o k h => by unfold SA at h; omega)
                        have hf_6 : gI ν6 r 5 = nI 0 := by rw [(t6.2.2 _ _ (fun h => by unfold SA at h; omega)).1]; exact hf_5
                        have hs_6 := hs_5.tr (t6.up (fun o k h => by unfold SA at h; unfold SRB; omega))
                        refine wn_if_eq (tgt := 156) hX dX4_readBack_128 (by decide) (by first | omega | (have := kd_le (s := s) (n := n); omega)) (fun c12 => ?_) (fun c12 => ?_)
                        · exact absurd c12 (by decide)
                        · refine w_aload_n (i := 1) hX dX4_readBack_131 rfl rfl ?_
                          refine w_iload_n (i := 2) hX dX4_readBack_132 rfl rfl ?_
                          refine w_sipush hX dX4_readBack_133 kS_1440 ?_
                          refine w_imulN hX dX4_readBack_136 ?_
                          refine w_aload_n (i := 0) hX dX4_readBack_137 rfl rfl ?_
                          refine w_getR (q := r + 2) hX dX4_readBack_138 fo_RX4_15 rfl (rd_s hr_6.1) (rd_r1 hr_6.1) ?_
                          refine w_iconst hX dX4_readBack_141 kI_0 ?_
                          refine w_ialdN hX dX4_readBack_142 (rd_a2 hr_6.1) (by omega) (by omega) ?_
                          refine w_top (y := nI (vl s (n + 3))) z6 ?_
                          refine w_bipush hX dX4_readBack_143 kB_60 ?_
                          refine w_imulN hX dX4_readBack_145 ?_
                          refine w_iaddN hX dX4_readBack_146 ?_
                          refine w_callVV (As := [.int (nI ((vl s (n + 1)) * 1440 + ((vl s (n + 3)) * 60)))]) (rest := []) (ci := 1) (o := b + 10 + 2 * (B 0 - 1)) (k2 := 0) (n2 := 0) hX dX4_readBack_147 (s_add Γ ν6 (mS B (B 0 - 1)) (nB B (B 0 - 1)) (b + 10 + 2 * (B 0 - 1)) (vl s (n + 1) * 1440 + vl s (n + 3) * 60) (hR_6.2.2.1 (B 0 - 1) (by omega)) (by omega) (by omega)) okX1_add (ltb rfl) (bk_c hR_6.1 (by omega)).2.1 ml_RX4_127 imX1_add seX1_add rfl (leb rfl) (leb rfl) rfl rfl (fun ν7 hq9 => ?_)
                          obtain ⟨t7, a7, b7⟩ := hq9
                          have hr_7 := hr_6.sm t7 (fun o k h => by omega)
                          have hC_7 := hC_6.sm t7 (fun o k h => by omega)
                          have hf_7 : gI ν7 r 5 = nI 0 := by rw [(t7.2.2 _ _ (fun h => by omega)).1]; exact hf_6
                          have hs_7 := hs_6.tr (t7.up (fun o k h => by unfold SRB; omega))
                          have hR_7 := Rb_back hR_6 hP.1.1 (by omega) (by omega) hhd (by omega) (by omega) (by omega) t7 a7 b7
                          have hS_7 := hS_6.sm t7 (fun k h1 h2 h => by omega)
                          refine w_aload_n (i := 0) hX dX4_readBack_150 rfl rfl ?_
                          refine w_iconst hX dX4_readBack_151 kI_2 ?_
                          refine w_callVI (As := [.int (nI 2)]) (rest := []) (ci := 4) (o := r) (k2 := 0) (n2 := 0) hX dX4_readBack_152 (s_r_take Γ ν7 r t b s hr_7 htr hrb (n + 4) hS_7 2 (by omega)) okX4_take (ltb rfl) (rd_s hr_7.1) ml_RX4_101 imX4_take seX4_take rfl (leb rfl) (leb rfl) rfl rfl (fun r9 ν9 hq9 => ?_)
                          rcases hq9 with ⟨w9, e9, hS_9, t9⟩ | ⟨w9, e9, m9⟩
                          · rw [e9, show bI true = nI 1 from rfl]
                            have hr_9 := hr_7.sm t9 (fun o k h => by unfold SA at h; omega)
                            have hR_9 := Rb_fr t9 (fun o k h => Or.inl (by unfold SA at h; omega)) hR_7
                            have hC_9 := hC_7.sm t9 (fun o k h => by unfold SA at h; omega)
                            have hf_9 : gI ν9 r 5 = nI 0 := by rw [(t9.2.2 _ _ (fun h => by unfold SA at h; omega)).1]; exact hf_7
                            have hs_9 := hs_7.tr (t9.up (fun o k h => by unfold SA at h; unfold SRB; omega))
                            refine w_pop hX dX4_readBack_155 rfl ?_
                            have hpx : pBack s n B M = .inr (n + 4, insB B (B 0 - 1) (vl s (n + 1)) (vl s (n + 3)), M) := by unfold pBack; exact (if_neg (by omega)).trans ((if_neg (by omega)).trans ((bnd_r p3).trans ((if_neg (by rw [hhd]; decide)).trans ((bnd_r (pWd_y w5)).trans (bnd_r p6)))))
                            exact w_vret hX hE dX4_readBack_156 (Or.inl rfl) (RX_r ((bnd_r hpx).trans (bnd_r (pWd_y w9))) hs_9 hf_9 hS_9 hR_9 hC_9)
                          · rw [e9, m9, show bI false = nI 0 from rfl]
                            refine w_pop hX dX4_readBack_155 rfl ?_
                            have hpx : pBack s n B M = .inr (n + 4, insB B (B 0 - 1) (vl s (n + 1)) (vl s (n + 3)), M) := by unfold pBack; exact (if_neg (by omega)).trans ((if_neg (by omega)).trans ((bnd_r p3).trans ((if_neg (by rw [hhd]; decide)).trans ((bnd_r (pWd_y w5)).trans (bnd_r p6)))))
                            exact w_vret hX hE dX4_readBack_156 (Or.inl rfl) (RX_l ((bnd_r hpx).trans (bnd_l (pWd_n w9))) hs_7 (ft_lt hr.2.2.2.2.2 (by omega) (by omega)))
                      · rw [e6, m6, show bI false = nI 0 from rfl]
                        refine wn_if_eq (tgt := 156) hX dX4_readBack_128 (by decide) (by first | omega | (have := kd_le (s := s) (n := n); omega)) (fun c13 => ?_) (fun c13 => ?_)
                        · have hpx : pBack s n B M = .inl f6 := by unfold pBack; exact (if_neg (by omega)).trans ((if_neg (by omega)).trans ((bnd_r p3).trans ((if_neg (by rw [hhd]; decide)).trans ((bnd_r (pWd_y w5)).trans (bnd_l p6)))))
                          exact w_vret hX hE dX4_readBack_156 (Or.inl rfl) (RX_l (bnd_l hpx) hs_5 (pNb_l hr.2.2.2.2.2 p6))
                        · exact absurd c13 (by decide)
                  · rw [e5, m5, show bI false = nI 0 from rfl]
                    refine wn_if_eq (tgt := 156) hX dX4_readBack_113 (by decide) (by first | omega | (have := kd_le (s := s) (n := n); omega)) (fun c14 => ?_) (fun c14 => ?_)
                    · have hpx : pBack s n B M = .inl (ft s 1 (n + 2)) := by unfold pBack; exact (if_neg (by omega)).trans ((if_neg (by omega)).trans ((bnd_r p3).trans ((if_neg (by rw [hhd]; decide)).trans (bnd_l (pWd_n w5)))))
                      exact w_vret hX hE dX4_readBack_156 (Or.inl rfl) (RX_l (bnd_l hpx) hs_4 (ft_lt hr.2.2.2.2.2 (by omega) (by omega)))
                    · exact absurd c14 (by decide)
                · exact absurd c10 (by decide)
          · rw [e3, m3, show bI false = nI 0 from rfl]
            refine wn_if_eq (tgt := 102) hX dX4_readBack_77 (by decide) (by first | omega | (have := kd_le (s := s) (n := n); omega)) (fun c15 => ?_) (fun c15 => ?_)
            · have hpx : pBack s n B M = .inl f3 := by unfold pBack; exact (if_neg (by omega)).trans ((if_neg (by omega)).trans (bnd_l p3))
              exact w_vret hX hE dX4_readBack_102 (Or.inl rfl) (RX_l (bnd_l hpx) hs_2 (pNb_l hr.2.2.2.2.2 p3))
            · exact absurd c15 (by decide)
        · exact absurd c6 (by decide)
    · exact absurd c3 (by decide)
