set_option maxHeartbeats 1000000 in
theorem s_b_clear (Γ : Gm) (μ : Mem) (b : Nat) (hb : isBk μ b) : SpV Γ MX0_clear 1 0 0 [.ref b] μ (fun μ2 => Rb μ2 b (fun _ => 0) ∧ CN μ2 b M0 ∧ same (fun o k => (o = b ∧ 9 ≤ k) ∨ o = b + 2 ∨ o = b + 4 ∨ ((o = b + 10 ∨ o = b + 12 ∨ o = b + 14) ∧ k = 1)) μ μ2) := by
  refine SpV.of okX0_clear rfl [some (.ref b), none] ⟨rfl, trivial⟩ (leb rfl) (leb rfl) (fun X hX hE hnm => ?_)
  refine w_iconst hX dX0_clear_0 kI_0 ?_
  refine w_istore_n (i := 1) (l2 := [some (.ref b), some (.int (nI 0))]) hX dX0_clear_1 rfl (ltb rfl) rfl rfl ?_
  refine w_iload_n (i := 1) hX dX0_clear_2 rfl rfl ?_
  refine w_iconst hX dX0_clear_3 kI_3 ?_
  refine wn_icmp_ge (tgt := 23) hX dX0_clear_4 (by decide) (by omega) (by omega) (fun c1 => ?_) (fun c1 => ?_)
  · exact absurd c1 (by decide)
  · refine w_aload_n (i := 0) hX dX0_clear_7 rfl rfl ?_
    refine w_getR (q := b + 1) hX dX0_clear_8 fo_RX0_13 rfl (bk_s hb) (bk_r0 hb) ?_
    refine w_iload_n (i := 1) hX dX0_clear_11 rfl rfl ?_
    refine w_aaldN (q := b + 10 + 2 * 0) hX dX0_clear_12 (bk_a1 hb) (by omega) (by omega) (bk_c hb (by omega)).1 ?_
    refine w_iconst hX dX0_clear_13 kI_0 ?_
    refine w_putI hX dX0_clear_14 fo_RX0_44 rfl rfl rfl rfl (bk_c hb (by omega)).2.1 ?_
    refine w_iincN (w := 1) (l2 := [some (.ref b), some (.int (nI 1))]) hX dX0_clear_17 rfl kI_1 rfl rfl ?_
    refine w_goto (tgt := 2) hX dX0_clear_20 (by decide) ?_
    refine w_iload_n (i := 1) hX dX0_clear_2 rfl rfl ?_
    refine w_iconst hX dX0_clear_3 kI_3 ?_
    refine wn_icmp_ge (tgt := 23) hX dX0_clear_4 (by decide) (by omega) (by omega) (fun c2 => ?_) (fun c2 => ?_)
    · exact absurd c2 (by decide)
    · refine w_aload_n (i := 0) hX dX0_clear_7 rfl rfl ?_
      refine w_getR (q := b + 1) hX dX0_clear_8 fo_RX0_13 rfl (bk_s hb) (bk_r0 hb) ?_
      refine w_iload_n (i := 1) hX dX0_clear_11 rfl rfl ?_
      refine w_aaldN (q := b + 10 + 2 * 1) hX dX0_clear_12 (bk_a1 hb) (by omega) (by omega) (bk_c hb (by omega)).1 ?_
      refine w_iconst hX dX0_clear_13 kI_0 ?_
      refine w_putI hX dX0_clear_14 fo_RX0_44 rfl rfl rfl rfl (bk_c hb (by omega)).2.1 ?_
      refine w_iincN (w := 1) (l2 := [some (.ref b), some (.int (nI 2))]) hX dX0_clear_17 rfl kI_1 rfl rfl ?_
      refine w_goto (tgt := 2) hX dX0_clear_20 (by decide) ?_
      refine w_iload_n (i := 1) hX dX0_clear_2 rfl rfl ?_
      refine w_iconst hX dX0_clear_3 kI_3 ?_
      refine wn_icmp_ge (tgt := 23) hX dX0_clear_4 (by decide) (by omega) (by omega) (fun c3 => ?_) (fun c3 => ?_)
      · exact absurd c3 (by decide)
      · refine w_aload_n (i := 0) hX dX0_clear_7 rfl rfl ?_
        refine w_getR (q := b + 1) hX dX0_clear_8 fo_RX0_13 rfl (bk_s hb) (bk_r0 hb) ?_
        refine w_iload_n (i := 1) hX dX0_clear_11 rfl rfl ?_
        refine w_aaldN (q := b + 10 + 2 * 2) hX dX0_clear_12 (bk_a1 hb) (by omega) (by omega) (bk_c hb (by omega)).1 ?_
        refine w_iconst hX dX0_clear_13 kI_0 ?_
        refine w_putI hX dX0_clear_14 fo_RX0_44 rfl rfl rfl rfl (bk_c hb (by omega)).2.1 ?_
        refine w_iincN (w := 1) (l2 := [some (.ref b), some (.int (nI 3))]) hX dX0_clear_17 rfl kI_1 rfl rfl ?_
        refine w_goto (tgt := 2) hX dX0_clear_20 (by decide) ?_
        refine w_iload_n (i := 1) hX dX0_clear_2 rfl rfl ?_
        refine w_iconst hX dX0_clear_3 kI_3 ?_
        refine wn_icmp_ge (tgt := 23) hX dX0_clear_4 (by decide) (by omega) (by omega) (fun c4 => ?_) (fun c4 => ?_)
        · refine w_aload_n (i := 0) hX dX0_clear_23 rfl rfl ?_
          refine w_getR (q := b + 2) hX dX0_clear_24 fo_RX0_17 rfl (bk_s hb) (bk_r1 hb) ?_
          refine w_iconst hX dX0_clear_27 kI_0 ?_
          refine w_callSV (As := [.ref (b + 2), .int (nI 0)]) (rest := []) (k2 := 0) (n2 := 0) hX dX0_clear_28 (s_fillI Γ (sI (sI (sI μ (b + 10 + 2 * 0) 1 (nI 0)) (b + 10 + 2 * 1) 1 (nI 0)) (b + 10 + 2 * 2) 1 (nI 0)) (b + 2) 9 (nI 0) (bk_a2 hb) (by omega)) okJ7_fill_53178 ml_RX0_48 stJ7_fill_53178 rfl (leb rfl) (leb rfl) rfl rfl (fun ν1 hq9 => ?_)
          obtain ⟨hs1, hf1⟩ := hq9
          have hs0 : same (fun o k => (o = b ∧ 9 ≤ k) ∨ o = b + 2 ∨ o = b + 4 ∨ ((o = b + 10 ∨ o = b + 12 ∨ o = b + 14) ∧ k = 1)) μ (sI (sI (sI μ (b + 10 + 2 * 0) 1 (nI 0)) (b + 10 + 2 * 1) 1 (nI 0)) (b + 10 + 2 * 2) 1 (nI 0)) := ((same.rf.sI (Or.inr (Or.inr (Or.inr ⟨by omega, rfl⟩)))).sI (Or.inr (Or.inr (Or.inr ⟨by omega, rfl⟩)))).sI (Or.inr (Or.inr (Or.inr ⟨by omega, rfl⟩)))
          have hb0 : isBk (sI (sI (sI μ (b + 10 + 2 * 0) 1 (nI 0)) (b + 10 + 2 * 1) 1 (nI 0)) (b + 10 + 2 * 2) 1 (nI 0)) b := hb
          have hb1 := hs1.isBk hb0
          refine w_aload_n (i := 0) hX dX0_clear_31 rfl rfl ?_
          refine w_getR (q := b + 4) hX dX0_clear_32 fo_RX0_24 rfl (bk_s hb1) (bk_r3 hb1) ?_
          refine w_iconst hX dX0_clear_35 kI_0 ?_
          refine w_callSV (As := [.ref (b + 4), .int (nI 0)]) (rest := []) (k2 := 0) (n2 := 0) hX dX0_clear_36 (s_fillI Γ ν1 (b + 4) 216 (nI 0) (bk_a4 hb1) (by omega)) okJ7_fill_53178 ml_RX0_48 stJ7_fill_53178 rfl (leb rfl) (leb rfl) rfl rfl (fun ν2 hq9 => ?_)
          obtain ⟨hs2, hf2⟩ := hq9
          have hb2 := hs2.isBk hb1
          refine w_aload_n (i := 0) hX dX0_clear_39 rfl rfl ?_
          refine w_iconst hX dX0_clear_40 kI_0 ?_
          refine w_putI hX dX0_clear_41 fo_RX0_54 rfl rfl rfl rfl (bk_s hb2) ?_
          refine w_aload_n (i := 0) hX dX0_clear_44 rfl rfl ?_
          refine w_iconst hX dX0_clear_45 kI_0 ?_
          refine w_putI hX dX0_clear_46 fo_RX0_57 rfl rfl rfl rfl (bk_s hb2) ?_
          refine w_aload_n (i := 0) hX dX0_clear_49 rfl rfl ?_
          refine w_iconst hX dX0_clear_50 kI_0 ?_
          refine w_putI hX dX0_clear_51 fo_RX0_60 rfl rfl rfl rfl (bk_s hb2) ?_
          refine w_aload_n (i := 0) hX dX0_clear_54 rfl rfl ?_
          refine w_iconst hX dX0_clear_55 kI_0 ?_
          refine w_putI hX dX0_clear_56 fo_RX0_63 rfl rfl rfl rfl (bk_s hb2) ?_
          refine w_aload_n (i := 0) hX dX0_clear_59 rfl rfl ?_
          refine w_iconst hX dX0_clear_60 kI_0 ?_
          refine w_putI hX dX0_clear_61 fo_RX0_66 rfl rfl rfl rfl (bk_s hb2) ?_
          refine w_aload_n (i := 0) hX dX0_clear_64 rfl rfl ?_
          refine w_iconst hX dX0_clear_65 kI_0 ?_
          refine w_putI hX dX0_clear_66 fo_RX0_69 rfl rfl rfl rfl (bk_s hb2) ?_
          refine w_aload_n (i := 0) hX dX0_clear_69 rfl rfl ?_
          refine w_iconst hX dX0_clear_70 kI_0 ?_
          refine w_putI hX dX0_clear_71 fo_RX0_72 rfl rfl rfl rfl (bk_s hb2) ?_
          have hcl : ∀ t, t < 3 → gI (sI (sI (sI (sI (sI (sI (sI ν2 b 9 (nI 0)) b 10 (nI 0)) b 11 (nI 0)) b 12 (nI 0)) b 13 (nI 0)) b 14 (nI 0)) b 15 (nI 0)) (b + 10 + 2 * t) 1 = nI 0 := by
            intro t ht
            rw [gI_no (by omega), gI_no (by omega), gI_no (by omega), gI_no (by omega), gI_no (by omega), gI_no (by omega), gI_no (by omega), (hs2.2.2 _ _ (fun h => by omega)).1, (hs1.2.2 _ _ (fun h => by omega)).1]
            rcases (show t = 0 ∨ t = 1 ∨ t = 2 by omega) with e | e | e <;> subst e
            · rw [gI_no (by omega), gI_no (by omega), gI_same]
            · rw [gI_no (by omega), gI_same]
            · rw [gI_same]
          refine w_vret hX hE dX0_clear_74 (Or.inl rfl) ⟨⟨hb2, ?_, fun t ht => ⟨(bk_c (show isBk (sI (sI (sI (sI (sI (sI (sI ν2 b 9 (nI 0)) b 10 (nI 0)) b 11 (nI 0)) b 12 (nI 0)) b 13 (nI 0)) b 14 (nI 0)) b 15 (nI 0)) b from hb2) ht).2, hcl t ht, Nat.zero_le _, fun k hk => absurd hk (Nat.not_lt_zero _)⟩, fun i hi => ?_, ?_, ?_, fun i hi => absurd hi (Nat.not_lt_zero _), ?_, fun q s hq h1 h2 => ?_, ?_, fun i hi => absurd hi (Nat.not_lt_zero _), ?_, fun i hi => absurd hi (Nat.not_lt_zero _)⟩, ⟨gI_same, Nat.zero_le _, fun i hi => absurd hi (Nat.not_lt_zero _)⟩, ?_⟩
          · rw [gI_nk (by omega), gI_nk (by omega), gI_nk (by omega), gI_nk (by omega), gI_nk (by omega), gI_nk (by omega), gI_same]
          · rw [gI_no (by omega), gI_no (by omega), gI_no (by omega), gI_no (by omega), gI_no (by omega), gI_no (by omega), gI_no (by omega), (hs2.2.2 _ _ (fun h => by omega)).1]; exact hf1 i hi
          · rw [gI_nk (by omega), gI_nk (by omega), gI_nk (by omega), gI_nk (by omega), gI_nk (by omega), gI_same]; rfl
          · rw [gI_nk (by omega), gI_nk (by omega), gI_nk (by omega), gI_nk (by omega), gI_same]
          · rw [gI_nk (by omega), gI_nk (by omega), gI_nk (by omega), gI_same]
          · rw [gI_no (by omega), gI_no (by omega), gI_no (by omega), gI_no (by omega), gI_no (by omega), gI_no (by omega), gI_no (by omega)]; exact hf2 _ (by omega)
          · rw [gI_nk (by omega), gI_nk (by omega), gI_same]
          · rw [gI_nk (by omega), gI_same]
          · exact (((((((hs0.tr ((hs1.up (fun o k h => by omega)).tr (hs2.up (fun o k h => by omega)))).sI (Or.inl ⟨rfl, by omega⟩)).sI (Or.inl ⟨rfl, by omega⟩)).sI (Or.inl ⟨rfl, by omega⟩)).sI (Or.inl ⟨rfl, by omega⟩)).sI (Or.inl ⟨rfl, by omega⟩)).sI (Or.inl ⟨rfl, by omega⟩)).sI (Or.inl ⟨rfl, by omega⟩)
        · exact absurd c4 (by decide)
theorem pl_mono {s : Tp} : ∀ e n, pl s n ≤ pl s (n + e) := by
  intro e
  induction e with
  | zero => intro n; exact Nat.le_refl _
  | succ e ih =>
    intro n
    have h1 := ih n
    have h2 := (pl_le (s := s) (n + e)).2
    have h3 : pl s (n + e) ≤ ps s (n + e + 1) := (tkE_le h2).1
    have h4 := (pl_le (s := s) (n + e + 1)).1
    have : n + (e + 1) = n + e + 1 := by omega
    rw [this]; omega
theorem pAll_S {s : Tp} {f : Nat} {st : PSt} : pAll s (f + 1) st = if kd s st.1 = 0 then .inr st else bnd (bnd (pSen s st.1 st.2.1 st.2.2) (pSemi s)) (pAll s f) := rfl
theorem pSen_5 {s : Tp} {n : Nat} {B : Nat → Nat} {M : NM} (h : kd s n = 5) : pSen s n B M = pTown s n B M := by unfold pSen; rw [if_pos h]
theorem pSen_6 {s : Tp} {n : Nat} {B : Nat → Nat} {M : NM} (h : kd s n = 6) : pSen s n B M = pBack s n B M := by unfold pSen; rw [if_neg (by omega), if_pos h]
theorem pSen_8 {s : Tp} {n : Nat} {B : Nat → Nat} {M : NM} (h : kd s n = 8) : pSen s n B M = pWay s n B M := by unfold pSen; rw [if_neg (by omega), if_neg (by omega), if_pos h]
theorem pSen_9 {s : Tp} {n : Nat} {B : Nat → Nat} {M : NM} (h : kd s n = 9) : pSen s n B M = pWork s n B M := by unfold pSen; rw [if_neg (by omega), if_neg (by omega), if_neg (by omega), if_pos h]
theorem pSen_15 {s : Tp} {n : Nat} {B : Nat → Nat} {M : NM} (h : kd s n = 15) : pSen s n B M = pPerson s n B M := by unfold pSen; rw [if_neg (by omega), if_neg (by omega), if_neg (by omega), if_neg (by omega), if_pos h]
theorem pSen_17 {s : Tp} {n : Nat} {B : Nat → Nat} {M : NM} (h : kd s n = 17) : pSen s n B M = pPaper s n B M := by unfold pSen; rw [if_neg (by omega), if_neg (by omega), if_neg (by omega), if_neg (by omega), if_neg (by omega), if_pos h]
theorem pSen_21 {s : Tp} {n : Nat} {B : Nat → Nat} {M : NM} (h : kd s n = 21) : pSen s n B M = pRule s n B M 0 := by unfold pSen; rw [if_neg (by omega), if_neg (by omega), if_neg (by omega), if_neg (by omega), if_neg (by omega), if_neg (by omega), if_pos h]
theorem pSen_22 {s : Tp} {n : Nat} {B : Nat → Nat} {M : NM} (h : kd s n = 22) : pSen s n B M = pRule s n B M 1 := by unfold pSen; rw [if_neg (by omega), if_neg (by omega), if_neg (by omega), if_neg (by omega), if_neg (by omega), if_neg (by omega), if_neg (by omega), if_pos h]
theorem pSen_x {s : Tp} {n : Nat} {B : Nat → Nat} {M : NM} (h : kd s n ≠ 5 ∧ kd s n ≠ 6 ∧ kd s n ≠ 8 ∧ kd s n ≠ 9 ∧ kd s n ≠ 15 ∧ kd s n ≠ 17 ∧ kd s n ≠ 21 ∧ kd s n ≠ 22) : pSen s n B M = .inl (ft s 1 n) := by unfold pSen; rw [if_neg (by omega), if_neg (by omega), if_neg (by omega), if_neg (by omega), if_neg (by omega), if_neg (by omega), if_neg (by omega), if_neg (by omega)]
theorem isRd_R {μ : Mem} {r k : Nat} {v : Option Nat} (h : isRd μ r) (hk : 2 ≤ k) : isRd (sR μ r k v) r := by
  obtain ⟨h1, ⟨h2, h3⟩, h4, h5⟩ := h
  exact ⟨h1, ⟨by rw [gR_ne (by omega)]; exact h2, h3⟩, by rw [gR_ne (by omega)]; exact h4, h5⟩
theorem isTp_R {μ : Mem} {t o k : Nat} {v : Option Nat} (h : isTp μ t) (ho : t ≠ o) : isTp (sR μ o k v) t := by
  obtain ⟨h1, h2, h3⟩ := h
  exact ⟨h1, by rw [gR_ne (by omega)]; exact h2, h3⟩
theorem isClk_R {μ : Mem} {t o k : Nat} {v : Option Nat} (h : isClk μ t) (ho : t ≠ o) : isClk (sR μ o k v) t := by
  obtain ⟨h1, h2, h3⟩ := h
  exact ⟨h1, by rw [gR_ne (by omega)]; exact h2, h3⟩
theorem isBk_R {μ : Mem} {b o k : Nat} {v : Option Nat} (h : isBk μ b) (ho : o < b ∨ b + 16 ≤ o) : isBk (sR μ o k v) b := by
  obtain ⟨h1, ⟨a0, a1⟩, ⟨b0, b1⟩, ⟨c0, c1⟩, ⟨d0, d1⟩, ⟨e0, e1⟩, ⟨f0, f1⟩, ⟨g0, g1⟩, ⟨i0, i1⟩, ⟨j0, j1⟩, ⟨k0, k1⟩, ⟨l0, l1⟩, ⟨m0, m1⟩⟩ := h
  exact ⟨h1, ⟨by rw [gR_ne (by omega)]; exact a0, a1⟩, ⟨by rw [gR_ne (by omega)]; exact b0, b1⟩, ⟨by rw [gR_ne (by omega)]; exact c0, c1⟩, ⟨by rw [gR_ne (by omega)]; exact d0, d1⟩, ⟨by rw [gR_ne (by omega)]; exact e0, e1⟩, ⟨by rw [gR_ne (by omega)]; exact f0, f1⟩, ⟨by rw [gR_ne (by omega)]; exact g0, g1⟩, ⟨by rw [gR_ne (by omega)]; exact i0, i1⟩, ⟨by rw [gR_ne (by omega)]; exact j0, j1⟩, ⟨by rw [gR_ne (by omega)]; exact k0, isClk_R k1 (by omega)⟩, ⟨by rw [gR_ne (by omega)]; exact l0, isClk_R l1 (by omega)⟩, ⟨by rw [gR_ne (by omega)]; exact m0, isClk_R m1 (by omega)⟩⟩
/-- the reader set to a tape and a book -/
def rdM (μ : Mem) (r t b : Nat) : Mem := sR (sR μ r 2 (some t)) r 3 (some b)
theorem RD0 {μ : Mem} {r t b : Nat} {s : Tp} (h1 : isRd μ r) (h2 : ∀ k, k < 18 → gL μ (r + 1) k = lN (kw k)) (h3 : tpR μ t s) (h4 : okT s) (htr : t + 1 < r) : RD (rdM μ r t b) r t b s :=
  ⟨isRd_R (isRd_R h1 (by omega)) (by omega), by unfold rdM; rw [gR_ne (by omega), gR_same], by unfold rdM; rw [gR_same], fun k hk => h2 k hk, ⟨isTp_R (isTp_R h3.1 (by omega)) (by omega), h3.2.1, h3.2.2⟩, h4⟩
set_option maxHeartbeats 1000000 in
theorem s_r_read (Γ : Gm) (μ : Mem) (r t b : Nat) (s : Tp) (hrd : isRd μ r) (hkw : ∀ k, k < 18 → gL μ (r + 1) k = lN (kw k)) (htp : tpR μ t s) (hok : okT s) (hbk : isBk μ b) (htr : t + 1 < r) (hrb : r + 2 < b) : SpI Γ MX4_read 5 0 0 [.ref r, .ref t, .ref b] μ (fun q9 μ2 => same (SRB r b) (rdM μ r t b) μ2 ∧ match pRead s with | .inl f => q9 = nI f ∧ 1 ≤ f ∧ f < 2 ^ 20 | .inr st => q9 = nI 0 ∧ Rb μ2 b st.2.1) := by
  refine SpI.of okX4_read rfl [some (.ref r), some (.ref t), some (.ref b), none] ⟨rfl, rfl, rfl, trivial⟩ (leb rfl) (leb rfl) (fun X hX hE hnm => ?_)
  refine w_aload_n (i := 0) hX dX4_read_0 rfl rfl ?_
  refine w_aload_n (i := 1) hX dX4_read_1 rfl rfl ?_
  refine w_putR hX dX4_read_2 fo_RX4_37 rfl rfl hrd.1 ?_
  refine w_aload_n (i := 0) hX dX4_read_5 rfl rfl ?_
  refine w_aload_n (i := 2) hX dX4_read_6 rfl rfl ?_
  refine w_putR hX dX4_read_7 fo_RX4_41 rfl rfl hrd.1 ?_
  have hr0 := RD0 (b := b) hrd hkw htp hok htr
  have hbk0 : isBk (rdM μ r t b) b := isBk_R (isBk_R hbk (by omega)) (by omega)
  refine w_aload_n (i := 0) hX dX4_read_10 rfl rfl ?_
  refine w_getR (q := b) hX dX4_read_11 fo_RX4_41 rfl hrd.1 (show gR (rdM μ r t b) r 3 = some b from hr0.2.2.1) ?_
  refine w_callVV (As := []) (rest := []) (ci := 0) (o := b) (k2 := 0) (n2 := 0) hX dX4_read_14 (s_b_clear Γ (rdM μ r t b) b hbk0) okX0_clear (ltb rfl) hbk.1 ml_RX4_45 imX0_clear seX0_clear rfl (leb rfl) (leb rfl) rfl rfl (fun ν0 hq9 => ?_)
  obtain ⟨hb0, hc0, hs0⟩ := hq9
  have hr0c := hr0.sm hs0 (fun o k h => by omega)
  refine w_aload_n (i := 0) hX dX4_read_17 rfl rfl ?_
  refine w_iconst hX dX4_read_18 kI_0 ?_
  refine w_putI hX dX4_read_19 fo_RX4_50 rfl rfl rfl rfl (rd_s hr0c.1) ?_
  refine w_aload_n (i := 0) hX dX4_read_22 rfl rfl ?_
  refine w_iconst hX dX4_read_23 kI_0 ?_
  refine w_putI hX dX4_read_24 fo_RX4_54 rfl rfl rfl rfl (rd_s hr0c.1) ?_
  have hs5 : same (fun o k => o = r ∧ (k = 4 ∨ k = 5)) ν0 (sI (sI ν0 r 4 (nI 0)) r 5 (nI 0)) := (same.rf.sI ⟨rfl, Or.inl rfl⟩).sI ⟨rfl, Or.inr rfl⟩
  refine w_aload_n (i := 0) hX dX4_read_27 rfl rfl ?_
  refine w_callVV (As := []) (rest := []) (ci := 4) (o := r) (k2 := 0) (n2 := 0) hX dX4_read_28 (s_r_advance Γ (sI (sI ν0 r 4 (nI 0)) r 5 (nI 0)) r t b s (hr0c.sm hs5 (fun o k h => by omega)) htr hrb 0 (by rw [gI_nk (by omega), gI_same]; rfl)) okX4_advance (ltb rfl) (rd_s hr0c.1) ml_RX4_57 imX4_advance seX4_advance rfl (leb rfl) (leb rfl) rfl rfl (fun ν1 hq9 => ?_)
  obtain ⟨hS1, hs1⟩ := hq9
  have hr1 := (hr0c.sm hs5 (fun o k h => by omega)).sm hs1 (fun o k h => by unfold SA at h; omega)
  refine w_iconst hX dX4_read_31 kI_0 ?_
  refine w_istore_n (i := 3) (l2 := [some (.ref r), some (.ref t), some (.ref b), some (.int (nI 0))]) hX dX4_read_32 rfl (ltb rfl) rfl rfl ?_
  have out : ∀ i ν f, i ≤ 1000 → 1 ≤ f → f < 2 ^ 20 → gI ν r 5 = nI f → same (SRB r b) (rdM μ r t b) ν → pRead s = .inl f → WP Γ X 0 0 33 [some (.ref r), some (.ref t), some (.ref b), some (.int (nI i))] [] ν := by
    intro i ν f hi hf1 hf2 h5 hsm hres
    have hrk := hr0.sm hsm (fun o k h => by unfold SRB at h; omega)
    refine w_iload_n (i := 3) hX dX4_read_33 rfl rfl ?_
    refine w_sipush hX dX4_read_34 kS_1000 ?_
    refine wn_icmp_ge (tgt := 206) hX dX4_read_37 (by decide) (by omega) (by omega) (fun c1 => ?_) (fun c1 => ?_)
    · refine w_aload_n (i := 0) hX dX4_read_206 rfl rfl ?_
      refine w_getI hX dX4_read_207 fo_RX4_54 rfl (rd_s hrk.1) ?_
      refine w_top (y := nI f) h5 ?_
      exact w_iret hX hE dX4_read_210 (Or.inl rfl) rfl ⟨hsm, by rw [hres]; exact ⟨rfl, hf1, hf2⟩⟩
    · refine w_aload_n (i := 0) hX dX4_read_40 rfl rfl ?_
      refine w_getI hX dX4_read_41 fo_RX4_54 rfl (rd_s hrk.1) ?_
      refine w_top (y := nI f) h5 ?_
      refine wn_if_ne (tgt := 206) hX dX4_read_44 (by decide) (by omega) (fun c2 => ?_) (fun c2 => ?_)
      · refine w_aload_n (i := 0) hX dX4_read_206 rfl rfl ?_
        refine w_getI hX dX4_read_207 fo_RX4_54 rfl (rd_s hrk.1) ?_
        refine w_top (y := nI f) h5 ?_
        exact w_iret hX hE dX4_read_210 (Or.inl rfl) rfl ⟨hsm, by rw [hres]; exact ⟨rfl, hf1, hf2⟩⟩
      · exfalso; omega
  have loop : ∀ q i n, ∀ B : Nat → Nat, ∀ M : NM, ∀ ν : Mem, i + q = 1000 → i ≤ pl s n → PIv B M → RS ν r s n → Rb ν b B → CN ν b M → gI ν r 5 = nI 0 → same (SRB r b) (rdM μ r t b) ν → pRead s = pAll s (q + 1) (n, B, M) → WP Γ X 0 0 33 [some (.ref r), some (.ref t), some (.ref b), some (.int (nI i))] [] ν := by
    intro q
    induction q with
    | zero =>
      intro i n B M ν hiq hip hP hSk hRk hCk hfk hsm hres
      have hrk := hr0.sm hsm (fun o k h => by unfold SRB at h; omega)
      have hk22 := kd_le (s := s) (n := n)
      have hpl := (pl_le (s := s) n).2
      have hL1 := hok.1
      refine w_iload_n (i := 3) hX dX4_read_33 rfl rfl ?_
      refine w_sipush hX dX4_read_34 kS_1000 ?_
      refine wn_icmp_ge (tgt := 206) hX dX4_read_37 (by decide) (by omega) (by omega) (fun c3 => ?_) (fun c3 => ?_)
      · refine w_aload_n (i := 0) hX dX4_read_206 rfl rfl ?_
        refine w_getI hX dX4_read_207 fo_RX4_54 rfl (rd_s hrk.1) ?_
        refine w_top (y := nI 0) hfk ?_
        have hk0 : kd s n = 0 := by first | omega | exact kd0.mpr (by omega)
        exact w_iret hX hE dX4_read_210 (Or.inl rfl) rfl ⟨hsm, by rw [hres, pAll_S, if_pos hk0]; exact ⟨rfl, hRk⟩⟩
      · exfalso; omega
    | succ q ih =>
      intro i n B M ν hiq hip hP hSk hRk hCk hfk hsm hres
      have hrk := hr0.sm hsm (fun o k h => by unfold SRB at h; omega)
      have hk22 := kd_le (s := s) (n := n)
      have hpl := (pl_le (s := s) n).2
      have hL1 := hok.1
      refine w_iload_n (i := 3) hX dX4_read_33 rfl rfl ?_
      refine w_sipush hX dX4_read_34 kS_1000 ?_
      refine wn_icmp_ge (tgt := 206) hX dX4_read_37 (by decide) (by omega) (by omega) (fun c4 => ?_) (fun c4 => ?_)
      · refine w_aload_n (i := 0) hX dX4_read_206 rfl rfl ?_
        refine w_getI hX dX4_read_207 fo_RX4_54 rfl (rd_s hrk.1) ?_
        refine w_top (y := nI 0) hfk ?_
        have hk0 : kd s n = 0 := by first | omega | exact kd0.mpr (by omega)
        exact w_iret hX hE dX4_read_210 (Or.inl rfl) rfl ⟨hsm, by rw [hres, pAll_S, if_pos hk0]; exact ⟨rfl, hRk⟩⟩
      · refine w_aload_n (i := 0) hX dX4_read_40 rfl rfl ?_
        refine w_getI hX dX4_read_41 fo_RX4_54 rfl (rd_s hrk.1) ?_
        refine w_top (y := nI 0) hfk ?_
        refine wn_if_ne (tgt := 206) hX dX4_read_44 (by decide) (by omega) (fun c5 => ?_) (fun c5 => ?_)
        · exact absurd c5 (by decide)
        · refine w_aload_n (i := 0) hX dX4_read_47 rfl rfl ?_
          refine w_getI hX dX4_read_48 fo_RX4_62 rfl (rd_s hrk.1) ?_
          refine w_top (y := nI (kd s n)) hSk.2.1 ?_
          refine wn_if_eq (tgt := 206) hX dX4_read_51 (by decide) (by omega) (fun c6 => ?_) (fun c6 => ?_)
          · refine w_aload_n (i := 0) hX dX4_read_206 rfl rfl ?_
            refine w_getI hX dX4_read_207 fo_RX4_54 rfl (rd_s hrk.1) ?_
            refine w_top (y := nI 0) hfk ?_
            have hk0 : kd s n = 0 := by first | omega | exact kd0.mpr (by omega)
            exact w_iret hX hE dX4_read_210 (Or.inl rfl) rfl ⟨hsm, by rw [hres, pAll_S, if_pos hk0]; exact ⟨rfl, hRk⟩⟩
          · have hkn : kd s n ≠ 0 := by omega
            have hres2 : pRead s = bnd (bnd (pSen s n B M) (pSemi s)) (pAll s (q + 1)) := by rw [hres, pAll_S, if_neg hkn]
            have j200 : ∀ ν2 : Mem, RX r b s (bnd (pSen s n B M) (pSemi s)) ν ν2 → WP Γ X 0 0 200 [some (.ref r), some (.ref t), some (.ref b), some (.int (nI i))] [] ν2 := by
              intro ν2 hx
              cases h9 : bnd (pSen s n B M) (pSemi s) with
              | inl f =>
                rw [h9] at hx hres2
                obtain ⟨hs2, h5, hf1, hf2⟩ := hx
                refine w_iincN (w := 1) (l2 := [some (.ref r), some (.ref t), some (.ref b), some (.int (nI (i + 1)))]) hX dX4_read_200 rfl kI_1 rfl rfl ?_
                refine w_goto (tgt := 33) hX dX4_read_203 (by decide) ?_
                exact out (i + 1) ν2 f (by omega) hf1 hf2 h5 (hsm.tr hs2) hres2
              | inr st2 =>
                have hok9 := pSen_ok hP h9
                rw [h9] at hx hres2
                obtain ⟨hs2, h5, hS2, hR2, hC2⟩ := hx
                have hlt := (ps_lt hkn).2.2
                have hmo := pl_mono (s := s) (st2.1 - (n + 1)) (n + 1)
                rw [show n + 1 + (st2.1 - (n + 1)) = st2.1 by omega] at hmo
                refine w_iincN (w := 1) (l2 := [some (.ref r), some (.ref t), some (.ref b), some (.int (nI (i + 1)))]) hX dX4_read_200 rfl kI_1 rfl rfl ?_
                refine w_goto (tgt := 33) hX dX4_read_203 (by decide) ?_
                exact ih (i + 1) st2.1 st2.2.1 st2.2.2 ν2 (by omega) (by omega) hok9.1 hS2 hR2 hC2 h5 (hsm.tr hs2) hres2
            refine w_aload_n (i := 0) hX dX4_read_54 rfl rfl ?_
            refine w_getI hX dX4_read_55 fo_RX4_62 rfl (rd_s hrk.1) ?_
            refine w_top (y := nI (kd s n)) hSk.2.1 ?_
            rcases (show kd s n < 5 ∨ kd s n = 5 ∨ kd s n = 6 ∨ kd s n = 7 ∨ kd s n = 8 ∨ kd s n = 9 ∨ kd s n = 10 ∨ kd s n = 11 ∨ kd s n = 12 ∨ kd s n = 13 ∨ kd s n = 14 ∨ kd s n = 15 ∨ kd s n = 16 ∨ kd s n = 17 ∨ kd s n = 18 ∨ kd s n = 19 ∨ kd s n = 20 ∨ kd s n = 21 ∨ kd s n = 22 by omega) with hsw | hsw | hsw | hsw | hsw | hsw | hsw | hsw | hsw | hsw | hsw | hsw | hsw | hsw | hsw | hsw | hsw | hsw | hsw
            · refine w_tableOut (tgt := 193) hX dX4_read_58 (Or.inl (by rw [nI_toInt (by omega)]; omega)) (by decide) ?_
              refine w_aload_n (i := 0) hX dX4_read_193 rfl rfl ?_
              refine w_iconst hX dX4_read_194 kI_0 ?_
              refine w_iconst hX dX4_read_195 kI_1 ?_
              refine w_callVI (As := [.int (nI 0), .int (nI 1)]) (rest := []) (ci := 4) (o := r) (k2 := 0) (n2 := 0) hX dX4_read_196 (s_r_check0 Γ ν r t b s hrk htr hrb n 1 hSk.2.2.1) okX4_check (ltb rfl) (rd_s hrk.1) ml_RX4_86 imX4_check seX4_check rfl (leb rfl) (leb rfl) rfl rfl (fun r9 μ9 hq9 => ?_)
              obtain ⟨hr9, hm9⟩ := hq9; rw [hr9, hm9, show 1 + 16 * pl s n = ft s 1 n from rfl]; clear hr9 hm9 r9 μ9
              refine w_pop hX dX4_read_199 rfl ?_
              exact j200 _ (RX_l (f := ft s 1 n) (bnd_l (pSen_x ⟨by omega, by omega, by omega, by omega, by omega, by omega, by omega, by omega⟩)) same.rf (ft_lt hok (by omega) (by omega)))
            · refine w_tableIn (tgt := 144) hX dX4_read_58 (by rw [hsw]; decide) (by rw [hsw]; decide) (by rw [hsw]; rfl) (by decide) ?_
              refine w_aload_n (i := 0) hX dX4_read_144 rfl rfl ?_
              refine w_callVV (As := []) (rest := []) (ci := 4) (o := r) (k2 := 0) (n2 := 0) hX dX4_read_145 (s_r_town Γ ν r t b s n B M hrk htr hrb hSk hRk hCk hfk hP) okX4_readTown (ltb rfl) (rd_s hrk.1) ml_RX4_65 imX4_readTown seX4_readTown rfl (leb rfl) (leb rfl) rfl rfl (fun ν2 hq9 => ?_)
              refine w_goto (tgt := 200) hX dX4_read_148 (by decide) ?_
              exact j200 _ (by rw [pSen_5 hsw]; exact hq9)
            · refine w_tableIn (tgt := 151) hX dX4_read_58 (by rw [hsw]; decide) (by rw [hsw]; decide) (by rw [hsw]; rfl) (by decide) ?_
              refine w_aload_n (i := 0) hX dX4_read_151 rfl rfl ?_
              refine w_callVV (As := []) (rest := []) (ci := 4) (o := r) (k2 := 0) (n2 := 0) hX dX4_read_152 (s_r_back Γ ν r t b s n B M hrk htr hrb hSk hRk hCk hfk hP) okX4_readBack (ltb rfl) (rd_s hrk.1) ml_RX4_68 imX4_readBack seX4_readBack rfl (leb rfl) (leb rfl) rfl rfl (fun ν2 hq9 => ?_)
              refine w_goto (tgt := 200) hX dX4_read_155 (by decide) ?_
              exact j200 _ (by rw [pSen_6 hsw]; exact hq9)
            · refine w_tableIn (tgt := 193) hX dX4_read_58 (by rw [hsw]; decide) (by rw [hsw]; decide) (by rw [hsw]; rfl) (by decide) ?_
              refine w_aload_n (i := 0) hX dX4_read_193 rfl rfl ?_
              refine w_iconst hX dX4_read_194 kI_0 ?_
              refine w_iconst hX dX4_read_195 kI_1 ?_
              refine w_callVI (As := [.int (nI 0), .int (nI 1)]) (rest := []) (ci := 4) (o := r) (k2 := 0) (n2 := 0) hX dX4_read_196 (s_r_check0 Γ ν r t b s hrk htr hrb n 1 hSk.2.2.1) okX4_check (ltb rfl) (rd_s hrk.1) ml_RX4_86 imX4_check seX4_check rfl (leb rfl) (leb rfl) rfl rfl (fun r9 μ9 hq9 => ?_)
              obtain ⟨hr9, hm9⟩ := hq9; rw [hr9, hm9, show 1 + 16 * pl s n = ft s 1 n from rfl]; clear hr9 hm9 r9 μ9
              refine w_pop hX dX4_read_199 rfl ?_
              exact j200 _ (RX_l (f := ft s 1 n) (bnd_l (pSen_x ⟨by omega, by omega, by omega, by omega, by omega, by omega, by omega, by omega⟩)) same.rf (ft_lt hok (by omega) (by omega)))
            · refine w_tableIn (tgt := 158) hX dX4_read_58 (by rw [hsw]; decide) (by rw [hsw]; decide) (by rw [hsw]; rfl) (by decide) ?_
              refine w_aload_n (i := 0) hX dX4_read_158 rfl rfl ?_
              refine w_callVV (As := []) (rest := []) (ci := 4) (o := r) (k2 := 0) (n2 := 0) hX dX4_read_159 (s_r_way Γ ν r t b s n B M hrk htr hrb hSk hRk hCk hfk hP) okX4_readWay (ltb rfl) (rd_s hrk.1) ml_RX4_71 imX4_readWay seX4_readWay rfl (leb rfl) (leb rfl) rfl rfl (fun ν2 hq9 => ?_)
              refine w_goto (tgt := 200) hX dX4_read_162 (by decide) ?_
              exact j200 _ (by rw [pSen_8 hsw]; exact hq9)
            · refine w_tableIn (tgt := 165) hX dX4_read_58 (by rw [hsw]; decide) (by rw [hsw]; decide) (by rw [hsw]; rfl) (by decide) ?_
              refine w_aload_n (i := 0) hX dX4_read_165 rfl rfl ?_
              refine w_callVV (As := []) (rest := []) (ci := 4) (o := r) (k2 := 0) (n2 := 0) hX dX4_read_166 (s_r_work Γ ν r t b s n B M hrk htr hrb hSk hRk hCk hfk hP) okX4_readWork (ltb rfl) (rd_s hrk.1) ml_RX4_74 imX4_readWork seX4_readWork rfl (leb rfl) (leb rfl) rfl rfl (fun ν2 hq9 => ?_)
              refine w_goto (tgt := 200) hX dX4_read_169 (by decide) ?_
              exact j200 _ (by rw [pSen_9 hsw]; exact hq9)
            · refine w_tableIn (tgt := 193) hX dX4_read_58 (by rw [hsw]; decide) (by rw [hsw]; decide) (by rw [hsw]; rfl) (by decide) ?_
              refine w_aload_n (i := 0) hX dX4_read_193 rfl rfl ?_
              refine w_iconst hX dX4_read_194 kI_0 ?_
              refine w_iconst hX dX4_read_195 kI_1 ?_
              refine w_callVI (As := [.int (nI 0), .int (nI 1)]) (rest := []) (ci := 4) (o := r) (k2 := 0) (n2 := 0) hX dX4_read_196 (s_r_check0 Γ ν r t b s hrk htr hrb n 1 hSk.2.2.1) okX4_check (ltb rfl) (rd_s hrk.1) ml_RX4_86 imX4_check seX4_check rfl (leb rfl) (leb rfl) rfl rfl (fun r9 μ9 hq9 => ?_)
              obtain ⟨hr9, hm9⟩ := hq9; rw [hr9, hm9, show 1 + 16 * pl s n = ft s 1 n from rfl]; clear hr9 hm9 r9 μ9
              refine w_pop hX dX4_read_199 rfl ?_
              exact j200 _ (RX_l (f := ft s 1 n) (bnd_l (pSen_x ⟨by omega, by omega, by omega, by omega, by omega, by omega, by omega, by omega⟩)) same.rf (ft_lt hok (by omega) (by omega)))
            · refine w_tableIn (tgt := 193) hX dX4_read_58 (by rw [hsw]; decide) (by rw [hsw]; decide) (by rw [hsw]; rfl) (by decide) ?_
              refine w_aload_n (i := 0) hX dX4_read_193 rfl rfl ?_
              refine w_iconst hX dX4_read_194 kI_0 ?_
              refine w_iconst hX dX4_read_195 kI_1 ?_
              refine w_callVI (As := [.int (nI 0), .int (nI 1)]) (rest := []) (ci := 4) (o := r) (k2 := 0) (n2 := 0) hX dX4_read_196 (s_r_check0 Γ ν r t b s hrk htr hrb n 1 hSk.2.2.1) okX4_check (ltb rfl) (rd_s hrk.1) ml_RX4_86 imX4_check seX4_check rfl (leb rfl) (leb rfl) rfl rfl (fun r9 μ9 hq9 => ?_)
              obtain ⟨hr9, hm9⟩ := hq9; rw [hr9, hm9, show 1 + 16 * pl s n = ft s 1 n from rfl]; clear hr9 hm9 r9 μ9
              refine w_pop hX dX4_read_199 rfl ?_
              exact j200 _ (RX_l (f := ft s 1 n) (bnd_l (pSen_x ⟨by omega, by omega, by omega, by omega, by omega, by omega, by omega, by omega⟩)) same.rf (ft_lt hok (by omega) (by omega)))
            · refine w_tableIn (tgt := 193) hX dX4_read_58 (by rw [hsw]; decide) (by rw [hsw]; decide) (by rw [hsw]; rfl) (by decide) ?_
              refine w_aload_n (i := 0) hX dX4_read_193 rfl rfl ?_
              refine w_iconst hX dX4_read_194 kI_0 ?_
              refine w_iconst hX dX4_read_195 kI_1 ?_
              refine w_callVI (As := [.int (nI 0), .int (nI 1)]) (rest := []) (ci := 4) (o := r) (k2 := 0) (n2 := 0) hX dX4_read_196 (s_r_check0 Γ ν r t b s hrk htr hrb n 1 hSk.2.2.1) okX4_check (ltb rfl) (rd_s hrk.1) ml_RX4_86 imX4_check seX4_check rfl (leb rfl) (leb rfl) rfl rfl (fun r9 μ9 hq9 => ?_)
              obtain ⟨hr9, hm9⟩ := hq9; rw [hr9, hm9, show 1 + 16 * pl s n = ft s 1 n from rfl]; clear hr9 hm9 r9 μ9
              refine w_pop hX dX4_read_199 rfl ?_
              exact j200 _ (RX_l (f := ft s 1 n) (bnd_l (pSen_x ⟨by omega, by omega, by omega, by omega, by omega, by omega, by omega, by omega⟩)) same.rf (ft_lt hok (by omega) (by omega)))
            · refine w_tableIn (tgt := 193) hX dX4_read_58 (by rw [hsw]; decide) (by rw [hsw]; decide) (by rw [hsw]; rfl) (by decide) ?_
              refine w_aload_n (i := 0) hX dX4_read_193 rfl rfl ?_
              refine w_iconst hX dX4_read_194 kI_0 ?_
              refine w_iconst hX dX4_read_195 kI_1 ?_
              refine w_callVI (As := [.int (nI 0), .int (nI 1)]) (rest := []) (ci := 4) (o := r) (k2 := 0) (n2 := 0) hX dX4_read_196 (s_r_check0 Γ ν r t b s hrk htr hrb n 1 hSk.2.2.1) okX4_check (ltb rfl) (rd_s hrk.1) ml_RX4_86 imX4_check seX4_check rfl (leb rfl) (leb rfl) rfl rfl (fun r9 μ9 hq9 => ?_)
              obtain ⟨hr9, hm9⟩ := hq9; rw [hr9, hm9, show 1 + 16 * pl s n = ft s 1 n from rfl]; clear hr9 hm9 r9 μ9
              refine w_pop hX dX4_read_199 rfl ?_
              exact j200 _ (RX_l (f := ft s 1 n) (bnd_l (pSen_x ⟨by omega, by omega, by omega, by omega, by omega, by omega, by omega, by omega⟩)) same.rf (ft_lt hok (by omega) (by omega)))
            · refine w_tableIn (tgt := 193) hX dX4_read_58 (by rw [hsw]; decide) (by rw [hsw]; decide) (by rw [hsw]; rfl) (by decide) ?_
              refine w_aload_n (i := 0) hX dX4_read_193 rfl rfl ?_
              refine w_iconst hX dX4_read_194 kI_0 ?_
              refine w_iconst hX dX4_read_195 kI_1 ?_
              refine w_callVI (As := [.int (nI 0), .int (nI 1)]) (rest := []) (ci := 4) (o := r) (k2 := 0) (n2 := 0) hX dX4_read_196 (s_r_check0 Γ ν r t b s hrk htr hrb n 1 hSk.2.2.1) okX4_check (ltb rfl) (rd_s hrk.1) ml_RX4_86 imX4_check seX4_check rfl (leb rfl) (leb rfl) rfl rfl (fun r9 μ9 hq9 => ?_)
              obtain ⟨hr9, hm9⟩ := hq9; rw [hr9, hm9, show 1 + 16 * pl s n = ft s 1 n from rfl]; clear hr9 hm9 r9 μ9
              refine w_pop hX dX4_read_199 rfl ?_
              exact j200 _ (RX_l (f := ft s 1 n) (bnd_l (pSen_x ⟨by omega, by omega, by omega, by omega, by omega, by omega, by omega, by omega⟩)) same.rf (ft_lt hok (by omega) (by omega)))
            · refine w_tableIn (tgt := 172) hX dX4_read_58 (by rw [hsw]; decide) (by rw [hsw]; decide) (by rw [hsw]; rfl) (by decide) ?_
              refine w_aload_n (i := 0) hX dX4_read_172 rfl rfl ?_
              refine w_callVV (As := []) (rest := []) (ci := 4) (o := r) (k2 := 0) (n2 := 0) hX dX4_read_173 (s_r_person Γ ν r t b s n B M hrk htr hrb hSk hRk hCk hfk hP) okX4_readPerson (ltb rfl) (rd_s hrk.1) ml_RX4_77 imX4_readPerson seX4_readPerson rfl (leb rfl) (leb rfl) rfl rfl (fun ν2 hq9 => ?_)
              refine w_goto (tgt := 200) hX dX4_read_176 (by decide) ?_
              exact j200 _ (by rw [pSen_15 hsw]; exact hq9)
            · refine w_tableIn (tgt := 193) hX dX4_read_58 (by rw [hsw]; decide) (by rw [hsw]; decide) (by rw [hsw]; rfl) (by decide) ?_
              refine w_aload_n (i := 0) hX dX4_read_193 rfl rfl ?_
              refine w_iconst hX dX4_read_194 kI_0 ?_
              refine w_iconst hX dX4_read_195 kI_1 ?_
              refine w_callVI (As := [.int (nI 0), .int (nI 1)]) (rest := []) (ci := 4) (o := r) (k2 := 0) (n2 := 0) hX dX4_read_196 (s_r_check0 Γ ν r t b s hrk htr hrb n 1 hSk.2.2.1) okX4_check (ltb rfl) (rd_s hrk.1) ml_RX4_86 imX4_check seX4_check rfl (leb rfl) (leb rfl) rfl rfl (fun r9 μ9 hq9 => ?_)
              obtain ⟨hr9, hm9⟩ := hq9; rw [hr9, hm9, show 1 + 16 * pl s n = ft s 1 n from rfl]; clear hr9 hm9 r9 μ9
              refine w_pop hX dX4_read_199 rfl ?_
              exact j200 _ (RX_l (f := ft s 1 n) (bnd_l (pSen_x ⟨by omega, by omega, by omega, by omega, by omega, by omega, by omega, by omega⟩)) same.rf (ft_lt hok (by omega) (by omega)))
            · refine w_tableIn (tgt := 179) hX dX4_read_58 (by rw [hsw]; decide) (by rw [hsw]; decide) (by rw [hsw]; rfl) (by decide) ?_
              refine w_aload_n (i := 0) hX dX4_read_179 rfl rfl ?_
              refine w_callVV (As := []) (rest := []) (ci := 4) (o := r) (k2 := 0) (n2 := 0) hX dX4_read_180 (s_r_paper Γ ν r t b s n B M hrk htr hrb hSk hRk hCk hfk hP) okX4_readPaper (ltb rfl) (rd_s hrk.1) ml_RX4_80 imX4_readPaper seX4_readPaper rfl (leb rfl) (leb rfl) rfl rfl (fun ν2 hq9 => ?_)
              refine w_goto (tgt := 200) hX dX4_read_183 (by decide) ?_
              exact j200 _ (by rw [pSen_17 hsw]; exact hq9)
            · refine w_tableIn (tgt := 193) hX dX4_read_58 (by rw [hsw]; decide) (by rw [hsw]; decide) (by rw [hsw]; rfl) (by decide) ?_
              refine w_aload_n (i := 0) hX dX4_read_193 rfl rfl ?_
              refine w_iconst hX dX4_read_194 kI_0 ?_
              refine w_iconst hX dX4_read_195 kI_1 ?_
              refine w_callVI (As := [.int (nI 0), .int (nI 1)]) (rest := []) (ci := 4) (o := r) (k2 := 0) (n2 := 0) hX dX4_read_196 (s_r_check0 Γ ν r t b s hrk htr hrb n 1 hSk.2.2.1) okX4_check (ltb rfl) (rd_s hrk.1) ml_RX4_86 imX4_check seX4_check rfl (leb rfl) (leb rfl) rfl rfl (fun r9 μ9 hq9 => ?_)
              obtain ⟨hr9, hm9⟩ := hq9; rw [hr9, hm9, show 1 + 16 * pl s n = ft s 1 n from rfl]; clear hr9 hm9 r9 μ9
              refine w_pop hX dX4_read_199 rfl ?_
              exact j200 _ (RX_l (f := ft s 1 n) (bnd_l (pSen_x ⟨by omega, by omega, by omega, by omega, by omega, by omega, by omega, by omega⟩)) same.rf (ft_lt hok (by omega) (by omega)))
            · refine w_tableIn (tgt := 193) hX dX4_read_58 (by rw [hsw]; decide) (by rw [hsw]; decide) (by rw [hsw]; rfl) (by decide) ?_
              refine w_aload_n (i := 0) hX dX4_read_193 rfl rfl ?_
              refine w_iconst hX dX4_read_194 kI_0 ?_
              refine w_iconst hX dX4_read_195 kI_1 ?_
              refine w_callVI (As := [.int (nI 0), .int (nI 1)]) (rest := []) (ci := 4) (o := r) (k2 := 0) (n2 := 0) hX dX4_read_196 (s_r_check0 Γ ν r t b s hrk htr hrb n 1 hSk.2.2.1) okX4_check (ltb rfl) (rd_s hrk.1) ml_RX4_86 imX4_check seX4_check rfl (leb rfl) (leb rfl) rfl rfl (fun r9 μ9 hq9 => ?_)
              obtain ⟨hr9, hm9⟩ := hq9; rw [hr9, hm9, show 1 + 16 * pl s n = ft s 1 n from rfl]; clear hr9 hm9 r9 μ9
              refine w_pop hX dX4_read_199 rfl ?_
              exact j200 _ (RX_l (f := ft s 1 n) (bnd_l (pSen_x ⟨by omega, by omega, by omega, by omega, by omega, by omega, by omega, by omega⟩)) same.rf (ft_lt hok (by omega) (by omega)))
            · refine w_tableIn (tgt := 193) hX dX4_read_58 (by rw [hsw]; decide) (by rw [hsw]; decide) (by rw [hsw]; rfl) (by decide) ?_
              refine w_aload_n (i := 0) hX dX4_read_193 rfl rfl ?_
              refine w_iconst hX dX4_read_194 kI_0 ?_
              refine w_iconst hX dX4_read_195 kI_1 ?_
              refine w_callVI (As := [.int (nI 0), .int (nI 1)]) (rest := []) (ci := 4) (o := r) (k2 := 0) (n2 := 0) hX dX4_read_196 (s_r_check0 Γ ν r t b s hrk htr hrb n 1 hSk.2.2.1) okX4_check (ltb rfl) (rd_s hrk.1) ml_RX4_86 imX4_check seX4_check rfl (leb rfl) (leb rfl) rfl rfl (fun r9 μ9 hq9 => ?_)
              obtain ⟨hr9, hm9⟩ := hq9; rw [hr9, hm9, show 1 + 16 * pl s n = ft s 1 n from rfl]; clear hr9 hm9 r9 μ9
              refine w_pop hX dX4_read_199 rfl ?_
              exact j200 _ (RX_l (f := ft s 1 n) (bnd_l (pSen_x ⟨by omega, by omega, by omega, by omega, by omega, by omega, by omega, by omega⟩)) same.rf (ft_lt hok (by omega) (by omega)))
            · refine w_tableIn (tgt := 186) hX dX4_read_58 (by rw [hsw]; decide) (by rw [hsw]; decide) (by rw [hsw]; rfl) (by decide) ?_
              refine w_aload_n (i := 0) hX dX4_read_186 rfl rfl ?_
              refine w_callVV (As := []) (rest := []) (ci := 4) (o := r) (k2 := 0) (n2 := 0) hX dX4_read_187 (s_r_rule0 Γ ν r t b s n B M hrk htr hrb hSk hRk hCk hfk hP hsw) okX4_readRule (ltb rfl) (rd_s hrk.1) ml_RX4_83 imX4_readRule seX4_readRule rfl (leb rfl) (leb rfl) rfl rfl (fun ν2 hq9 => ?_)
              refine w_goto (tgt := 200) hX dX4_read_190 (by decide) ?_
              exact j200 _ (by rw [pSen_21 hsw]; exact hq9)
            · refine w_tableIn (tgt := 186) hX dX4_read_58 (by rw [hsw]; decide) (by rw [hsw]; decide) (by rw [hsw]; rfl) (by decide) ?_
              refine w_aload_n (i := 0) hX dX4_read_186 rfl rfl ?_
              refine w_callVV (As := []) (rest := []) (ci := 4) (o := r) (k2 := 0) (n2 := 0) hX dX4_read_187 (s_r_rule1 Γ ν r t b s n B M hrk htr hrb hSk hRk hCk hfk hP hsw) okX4_readRule (ltb rfl) (rd_s hrk.1) ml_RX4_83 imX4_readRule seX4_readRule rfl (leb rfl) (leb rfl) rfl rfl (fun ν2 hq9 => ?_)
              refine w_goto (tgt := 200) hX dX4_read_190 (by decide) ?_
              exact j200 _ (by rw [pSen_22 hsw]; exact hq9)
  have hsA : same (SRB r b) (rdM μ r t b) ν1 := (hs0.up (fun o k h => by unfold SRB; omega)).tr ((hs5.up (fun o k h => by unfold SRB; omega)).tr (hs1.up (fun o k h => by unfold SA at h; unfold SRB; omega)))
  have hb1 := Rb_fr hs1 (fun o k h => Or.inl (by unfold SA at h; omega)) (Rb_fr hs5 (fun o k h => Or.inl (by omega)) hb0)
  have hc1 := (hc0.sm hs5 (fun o k h => by omega)).sm hs1 (fun o k h => by unfold SA at h; omega)
  exact loop 1000 0 0 (fun _ => 0) M0 ν1 (by omega) (Nat.zero_le _) PI0 hS1 hb1 hc1 (by rw [(hs1.2.2 _ _ (fun h => by unfold SA at h; omega)).1, gI_same]) hsA rfl
