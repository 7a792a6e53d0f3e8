def evR (μ : Mem) (co ck aM aT : Nat) (E : Ev) : Prop := gI μ co ck = nI E.1 ∧ ∀ i, i < E.1 → gI μ aM i = nI (E.2.1 i) ∧ gI μ aT i = nI (E.2.2 i)
/-- while a place is sought: q is free -/
def evQ (μ : Mem) (aM aT : Nat) (E : Ev) (v q : Nat) : Prop := psI E.2.1 v E.1 = psI E.2.1 v q ∧ (∀ i, i < q → gI μ aM i = nI (E.2.1 i) ∧ gI μ aT i = nI (E.2.2 i)) ∧ (∀ i, q < i → i ≤ E.1 → gI μ aM i = nI (E.2.1 (i - 1)) ∧ gI μ aT i = nI (E.2.2 (i - 1)))
theorem evQ_0 {μ : Mem} {co ck aM aT v : Nat} {E : Ev} (h : evR μ co ck aM aT E) : evQ μ aM aT E v E.1 := ⟨rfl, h.2, fun i h1 h2 => by omega⟩
theorem evQ_S {μ : Mem} {aM aT v q : Nat} {E : Ev} (h : evQ μ aM aT E v q) (hq : 0 < q) (hlt : v < E.2.1 (q - 1)) (hne : aM ≠ aT) : evQ (sI (sI μ aM q (nI (E.2.1 (q - 1)))) aT q (nI (E.2.2 (q - 1)))) aM aT E v (q - 1) := by
  obtain ⟨h1, h2, h3⟩ := h
  refine ⟨?_, fun i hi => ?_, fun i hi1 hi2 => ?_⟩
  · rw [h1]
    obtain ⟨q', rfl⟩ : ∃ q', q = q' + 1 := ⟨q - 1, by omega⟩
    rw [show q' + 1 - 1 = q' by omega] at hlt ⊢
    simp only [psI]
    rw [if_pos hlt]
  · rw [gI_no hne, gI_nk (by omega), gI_nk (by omega), gI_no (fun e => hne e.symm)]
    exact h2 i (by omega)
  · by_cases e : i = q
    · subst e
      rw [gI_no hne, gI_same, gI_same]
      exact ⟨rfl, rfl⟩
    · rw [gI_no hne, gI_nk e, gI_nk e, gI_no (fun e => hne e.symm)]
      exact h3 i (by omega) hi2
theorem evQ_end {μ : Mem} {co ck aM aT v t q : Nat} {E : Ev} (h : evQ μ aM aT E v q) (hq : q ≤ E.1) (hx : q = 0 ∨ E.2.1 (q - 1) ≤ v) (hne : aM ≠ aT) (h1 : co ≠ aM) (h2 : co ≠ aT) : evR (sI (sI (sI μ aM q (nI v)) aT q (nI t)) co ck (nI (E.1 + 1))) co ck aM aT (ins1 E v t) := by
  obtain ⟨g1, g2, g3⟩ := h
  have hp : psI E.2.1 v E.1 = q := by
    rw [g1]
    by_cases h0 : q = 0
    · rw [h0]; rfl
    · obtain ⟨q', rfl⟩ : ∃ q', q = q' + 1 := ⟨q - 1, by omega⟩
      rw [show q' + 1 - 1 = q' by omega] at hx
      simp only [psI]
      rw [if_neg (by omega)]
  refine ⟨gI_same, fun i hi => ?_⟩
  have hi : i < E.1 + 1 := hi
  show gI _ aM i = nI (insA E.2.1 (psI E.2.1 v E.1) v i) ∧ gI _ aT i = nI (insA E.2.2 (psI E.2.1 v E.1) t i)
  rw [hp, gI_no (fun e => h1 e.symm), gI_no (fun e => h2 e.symm), gI_no hne]
  unfold insA
  by_cases c1 : i < q
  · rw [if_pos c1, if_pos c1, gI_nk (by omega), gI_nk (by omega), gI_no (fun e => hne e.symm)]
    exact g2 i c1
  · rw [if_neg c1, if_neg c1]
    by_cases c2 : i = q
    · rw [if_pos c2, if_pos c2, c2, gI_same, gI_same]; exact ⟨rfl, rfl⟩
    · rw [if_neg c2, if_neg c2, gI_nk c2, gI_nk c2, gI_no (fun e => hne e.symm)]
      exact g3 i (by omega) (by omega)
set_option maxHeartbeats 1000000 in
theorem s_j_insert (Γ : Gm) (μ : Mem) (j : Nat) (hj : isJn μ j) (E : Ev) (v t : Nat) (hE : evR μ j 5 (j + 1) (j + 2) E) (hn : E.1 < 36) (hb : ∀ i, i < E.1 → E.2.1 i < 2 ^ 31) (hv : v < 2 ^ 31) : SpV Γ MX2_insert 0 0 0 [.ref j, .int (nI v), .int (nI t)] μ (fun μ2 => evR μ2 j 5 (j + 1) (j + 2) (ins1 E v t) ∧ same (fun o k => o = j + 1 ∨ o = j + 2 ∨ (o = j ∧ k = 5)) μ μ2) := by
  refine SpV.of okX2_insert rfl [some (.ref j), some (.int (nI v)), some (.int (nI t)), none] ⟨rfl, rfl, rfl, trivial⟩ (leb rfl) (leb rfl) (fun X hX hE9 hnm => ?_)
  refine w_aload_n (i := 0) hX dX2_insert_0 rfl rfl ?_
  refine w_getI hX dX2_insert_1 fo_RX2_46 rfl (jn_s hj) ?_
  refine w_top (y := nI E.1) hE.1 ?_
  refine w_bipush hX dX2_insert_4 kB_36 ?_
  refine wn_icmp_lt (tgt := 10) hX dX2_insert_6 (by decide) (by omega) (by omega) (fun c1 => ?_) (fun c1 => ?_)
  · refine w_aload_n (i := 0) hX dX2_insert_10 rfl rfl ?_
    refine w_getI hX dX2_insert_11 fo_RX2_46 rfl (jn_s hj) ?_
    refine w_top (y := nI E.1) hE.1 ?_
    refine w_istore_n (i := 3) (l2 := [some (.ref j), some (.int (nI v)), some (.int (nI t)), some (.int (nI E.1))]) hX dX2_insert_14 rfl (ltb rfl) rfl rfl ?_
    have loop : ∀ q, q ≤ E.1 → ∀ ν : Mem, (same (fun o k => o = j + 1 ∨ o = j + 2) μ ν) → (evQ ν (j + 1) (j + 2) E v q) → WP Γ X 0 0 15 [some (.ref j), some (.int (nI v)), some (.int (nI t)), some (.int (nI q))] [] ν := by
      intro q
      induction q using Nat.strongRecOn with
      | ind q ih =>
        intro hq ν hsm hq
        have hjk := hsm.isJn hj
        have hbq : 0 < q → E.2.1 (q - 1) < 2 ^ 31 := fun h => hb _ (by omega)
        refine w_iload_n (i := 3) hX dX2_insert_15 rfl rfl ?_
        refine wn_if_le (tgt := 65) hX dX2_insert_16 (by decide) (by omega) (fun c2 => ?_) (fun c2 => ?_)
        · refine w_aload_n (i := 0) hX dX2_insert_65 rfl rfl ?_
          refine w_getR (q := j + 1) hX dX2_insert_66 fo_RX2_15 rfl (jn_s hjk) (jn_r0 hjk) ?_
          refine w_iload_n (i := 3) hX dX2_insert_69 rfl rfl ?_
          refine w_iload_n (i := 1) hX dX2_insert_70 rfl rfl ?_
          refine w_iastN hX dX2_insert_71 (jn_a1 hjk) (by omega) (by omega) ?_
          refine w_aload_n (i := 0) hX dX2_insert_72 rfl rfl ?_
          refine w_getR (q := j + 2) hX dX2_insert_73 fo_RX2_19 rfl (jn_s hjk) (jn_r1 hjk) ?_
          refine w_iload_n (i := 3) hX dX2_insert_76 rfl rfl ?_
          refine w_iload_n (i := 2) hX dX2_insert_77 rfl rfl ?_
          refine w_iastN hX dX2_insert_78 (jn_a2 hjk) (by omega) (by omega) ?_
          refine w_aload_n (i := 0) hX dX2_insert_79 rfl rfl ?_
          refine w_dup hX dX2_insert_80 rfl ?_
          refine w_getI hX dX2_insert_81 fo_RX2_46 rfl (jn_s hjk) ?_
          refine w_top (y := nI E.1) (by rw [gI_no (by omega), gI_no (by omega), (hsm.2.2 _ _ (fun h => by omega)).1]; exact hE.1) ?_
          refine w_iconst hX dX2_insert_84 kI_1 ?_
          refine w_iaddN hX dX2_insert_85 ?_
          refine w_putI hX dX2_insert_86 fo_RX2_46 rfl rfl rfl rfl (jn_s hjk) ?_
          exact w_vret hX hE9 dX2_insert_89 (Or.inl rfl) ⟨evQ_end hq (by omega) (by omega) (by omega) (by omega) (by omega), (((hsm.up (fun o k h => by omega)).sI (Or.inl rfl)).sI (Or.inr (Or.inl rfl))).sI (Or.inr (Or.inr ⟨rfl, rfl⟩))⟩
        · refine w_aload_n (i := 0) hX dX2_insert_19 rfl rfl ?_
          refine w_getR (q := j + 1) hX dX2_insert_20 fo_RX2_15 rfl (jn_s hjk) (jn_r0 hjk) ?_
          refine w_iload_n (i := 3) hX dX2_insert_23 rfl rfl ?_
          refine w_iconst hX dX2_insert_24 kI_1 ?_
          refine w_isubN hX dX2_insert_25 (by omega) ?_
          refine w_ialdN hX dX2_insert_26 (jn_a1 hjk) (by omega) (by omega) ?_
          refine w_top (y := nI (E.2.1 (q - 1))) ((hq.2.1 _ (by omega)).1) ?_
          refine w_iload_n (i := 1) hX dX2_insert_27 rfl rfl ?_
          refine wn_icmp_le (tgt := 65) hX dX2_insert_28 (by decide) (by omega) (by omega) (fun c3 => ?_) (fun c3 => ?_)
          · refine w_aload_n (i := 0) hX dX2_insert_65 rfl rfl ?_
            refine w_getR (q := j + 1) hX dX2_insert_66 fo_RX2_15 rfl (jn_s hjk) (jn_r0 hjk) ?_
            refine w_iload_n (i := 3) hX dX2_insert_69 rfl rfl ?_
            refine w_iload_n (i := 1) hX dX2_insert_70 rfl rfl ?_
            refine w_iastN hX dX2_insert_71 (jn_a1 hjk) (by omega) (by omega) ?_
            refine w_aload_n (i := 0) hX dX2_insert_72 rfl rfl ?_
            refine w_getR (q := j + 2) hX dX2_insert_73 fo_RX2_19 rfl (jn_s hjk) (jn_r1 hjk) ?_
            refine w_iload_n (i := 3) hX dX2_insert_76 rfl rfl ?_
            refine w_iload_n (i := 2) hX dX2_insert_77 rfl rfl ?_
            refine w_iastN hX dX2_insert_78 (jn_a2 hjk) (by omega) (by omega) ?_
            refine w_aload_n (i := 0) hX dX2_insert_79 rfl rfl ?_
            refine w_dup hX dX2_insert_80 rfl ?_
            refine w_getI hX dX2_insert_81 fo_RX2_46 rfl (jn_s hjk) ?_
            refine w_top (y := nI E.1) (by rw [gI_no (by omega), gI_no (by omega), (hsm.2.2 _ _ (fun h => by omega)).1]; exact hE.1) ?_
            refine w_iconst hX dX2_insert_84 kI_1 ?_
            refine w_iaddN hX dX2_insert_85 ?_
            refine w_putI hX dX2_insert_86 fo_RX2_46 rfl rfl rfl rfl (jn_s hjk) ?_
            exact w_vret hX hE9 dX2_insert_89 (Or.inl rfl) ⟨evQ_end hq (by omega) (by omega) (by omega) (by omega) (by omega), (((hsm.up (fun o k h => by omega)).sI (Or.inl rfl)).sI (Or.inr (Or.inl rfl))).sI (Or.inr (Or.inr ⟨rfl, rfl⟩))⟩
          · refine w_aload_n (i := 0) hX dX2_insert_31 rfl rfl ?_
            refine w_getR (q := j + 1) hX dX2_insert_32 fo_RX2_15 rfl (jn_s hjk) (jn_r0 hjk) ?_
            refine w_iload_n (i := 3) hX dX2_insert_35 rfl rfl ?_
            refine w_aload_n (i := 0) hX dX2_insert_36 rfl rfl ?_
            refine w_getR (q := j + 1) hX dX2_insert_37 fo_RX2_15 rfl (jn_s hjk) (jn_r0 hjk) ?_
            refine w_iload_n (i := 3) hX dX2_insert_40 rfl rfl ?_
            refine w_iconst hX dX2_insert_41 kI_1 ?_
            refine w_isubN hX dX2_insert_42 (by omega) ?_
            refine w_ialdN hX dX2_insert_43 (jn_a1 hjk) (by omega) (by omega) ?_
            refine w_top (y := nI (E.2.1 (q - 1))) ((hq.2.1 _ (by omega)).1) ?_
            refine w_iastN hX dX2_insert_44 (jn_a1 hjk) (by omega) (by omega) ?_
            refine w_aload_n (i := 0) hX dX2_insert_45 rfl rfl ?_
            refine w_getR (q := j + 2) hX dX2_insert_46 fo_RX2_19 rfl (jn_s hjk) (jn_r1 hjk) ?_
            refine w_iload_n (i := 3) hX dX2_insert_49 rfl rfl ?_
            refine w_aload_n (i := 0) hX dX2_insert_50 rfl rfl ?_
            refine w_getR (q := j + 2) hX dX2_insert_51 fo_RX2_19 rfl (jn_s hjk) (jn_r1 hjk) ?_
            refine w_iload_n (i := 3) hX dX2_insert_54 rfl rfl ?_
            refine w_iconst hX dX2_insert_55 kI_1 ?_
            refine w_isubN hX dX2_insert_56 (by omega) ?_
            refine w_ialdN hX dX2_insert_57 (jn_a2 hjk) (by omega) (by omega) ?_
            refine w_top (y := nI (E.2.2 (q - 1))) (by rw [gI_no (by omega)]; exact (hq.2.1 _ (by omega)).2) ?_
            refine w_iastN hX dX2_insert_58 (jn_a2 hjk) (by omega) (by omega) ?_
            refine w_iincM (l2 := [some (.ref j), some (.int (nI v)), some (.int (nI t)), some (.int (nI (q - 1)))]) hX dX2_insert_59 rfl kI_m1 (by omega) rfl rfl ?_
            refine w_goto (tgt := 15) hX dX2_insert_62 (by decide) ?_
            exact ih (q - 1) (by omega) (by omega) _ ((hsm.sI (Or.inl rfl)).sI (Or.inr rfl)) (evQ_S hq (by omega) (by omega) (by omega))
    exact loop E.1 (Nat.le_refl _) μ same.rf (evQ_0 hE)
  · exact absurd hn (by omega)
theorem inR_n {a b c : Nat} (ha : a < 2 ^ 31) (hb : b < 2 ^ 31) (hc : c < 2 ^ 31) : inR (nI a) (nI b) (nI c) = decide (b ≤ a ∧ a ≤ c) := by
  unfold inR
  rw [Bool.eq_iff_iff]
  simp only [Bool.and_eq_true, decide_eq_true_eq, Int32.le_iff_toInt_le]
  rw [nI_toInt ha, nI_toInt hb, nI_toInt hc]
  omega
theorem evI_S {B : Nat → Nat} {f g x i : Nat} {E : Ev} : evI B f g x E (i + 1) = if f ≤ dyI B x i ∧ dyI B x i ≤ g then ins1 (evI B f g x E i) (mS B x i + 60 * i) x else evI B f g x E i := rfl
set_option maxHeartbeats 1000000 in
theorem s_j_gather (Γ : Gm) (μ : Mem) (j : Nat) (hj : isJn μ j) (b : Nat) (B : Nat → Nat) (hR : Rb μ b B) (hW : WB B) (hjb : j + 4 < b) (f g : Nat) (hf : f ≤ 3649) (hg : g ≤ 3649) : SpV Γ MX2_gather 1 0 0 [.ref j, .ref b, .int (nI f), .int (nI g)] μ (fun μ2 => evR μ2 j 5 (j + 1) (j + 2) (EV B f g) ∧ same (fun o k => o = j + 1 ∨ o = j + 2 ∨ (o = j ∧ k = 5)) μ μ2) := by
  refine SpV.of okX2_gather rfl [some (.ref j), some (.ref b), some (.int (nI f)), some (.int (nI g)), none, none, none] ⟨rfl, rfl, rfl, rfl, trivial⟩ (leb rfl) (leb rfl) (fun X hX hE hnm => ?_)
  refine w_aload_n (i := 0) hX dX2_gather_0 rfl rfl ?_
  refine w_iconst hX dX2_gather_1 kI_0 ?_
  refine w_putI hX dX2_gather_2 fo_RX2_46 rfl rfl rfl rfl (jn_s hj) ?_
  refine w_iconst hX dX2_gather_5 kI_0 ?_
  refine w_istore (l2 := [some (.ref j), some (.ref b), some (.int (nI f)), some (.int (nI g)), some (.int (nI 0)), none, none]) hX dX2_gather_6 (ltb rfl) rfl rfl ?_
  have loop : ∀ x, x ≤ B 0 → ∀ ν : Mem, (same (fun o k => o = j + 1 ∨ o = j + 2 ∨ (o = j ∧ k = 5)) μ ν) → (evR ν j 5 (j + 1) (j + 2) (evA B f g x)) → WP Γ X 0 0 8 [some (.ref j), some (.ref b), some (.int (nI f)), some (.int (nI g)), some (.int (nI x)), none, none] [] ν := by
    refine loopU (B 0) ?_
    intro x hx ihx ν hsm he
    have hjk := hsm.isJn hj
    have hRk := Rb_same hsm (fun o k h => Or.inl (by omega)) hR
    have hB0 := hW.1.1
    have hnb : x < 3 → nB B x ≤ 12 := fun h => (hW.1.2 x h).1
    refine w_iload hX dX2_gather_8 rfl ?_
    refine w_aload_n (i := 1) hX dX2_gather_10 rfl rfl ?_
    refine w_getI hX dX2_gather_11 fo_RX2_49 rfl (bk_s hRk.1) ?_
    refine w_top (y := nI (B 0)) hRk.2.1 ?_
    refine wn_icmp_ge (tgt := 83) hX dX2_gather_14 (by decide) (by omega) (by omega) (fun c1 => ?_) (fun c1 => ?_)
    · exact w_vret hX hE dX2_gather_83 (Or.inl rfl) ⟨by rw [show x = B 0 by omega] at he; exact he, hsm⟩
    · refine w_aload_n (i := 1) hX dX2_gather_17 rfl rfl ?_
      refine w_getR (q := b + 1) hX dX2_gather_18 fo_RX2_52 rfl (bk_s hRk.1) (bk_r0 hRk.1) ?_
      refine w_iload hX dX2_gather_21 rfl ?_
      refine w_aaldN (q := b + 10 + 2 * x) hX dX2_gather_23 (bk_a1 hRk.1) (by omega) (by omega) (bk_c hRk.1 (by omega)).1 ?_
      refine w_astore (l2 := [some (.ref j), some (.ref b), some (.int (nI f)), some (.int (nI g)), some (.int (nI x)), some (.ref (b + 10 + 2 * x)), none]) hX dX2_gather_24 (ltb rfl) rfl rfl ?_
      refine w_iconst hX dX2_gather_26 kI_0 ?_
      refine w_istore (l2 := [some (.ref j), some (.ref b), some (.int (nI f)), some (.int (nI g)), some (.int (nI x)), some (.ref (b + 10 + 2 * x)), some (.int (nI 0))]) hX dX2_gather_27 (ltb rfl) rfl rfl ?_
      have inl : ∀ i, i ≤ nB B x → ∀ ν1 : Mem, (same (fun o k => o = j + 1 ∨ o = j + 2 ∨ (o = j ∧ k = 5)) μ ν1) → (evR ν1 j 5 (j + 1) (j + 2) (evI B f g x (evA B f g x) i)) → WP Γ X 0 0 29 [some (.ref j), some (.ref b), some (.int (nI f)), some (.int (nI g)), some (.int (nI x)), some (.ref (b + 10 + 2 * x)), some (.int (nI i))] [] ν1 := by
        refine loopU (nB B x) ?_
        intro i hi ihi ν1 hsn he1
        have hj1 := hsn.isJn hj
        have hR1 := Rb_same hsn (fun o k h => Or.inl (by omega)) hR
        have hok := okE_I (f := f) (g := g) hW.1 (show x < B 0 by omega) (okE_A (f := f) (g := g) hW.1 x (by omega)) i hi
        have hon := hok.1
        have hms : i < nB B x → 60 ≤ mS B x i ∧ mS B x i ≤ 5256000 := fun h => mS_rng hW.1 (by omega) h
        have hdd : i < nB B x → dyI B x i ≤ 3649 := fun h => ((hW.1.2 x (by omega)).2.1 i h).1
        refine w_iload hX dX2_gather_29 rfl ?_
        refine w_aload hX dX2_gather_31 rfl ?_
        refine w_getI hX dX2_gather_33 fo_RX2_55 rfl (bk_c hR1.1 (by omega)).2.1 ?_
        refine w_top (y := nI (nB B x)) (hR1.2.2.1 x (by omega)).2.1 ?_
        refine wn_icmp_ge (tgt := 77) hX dX2_gather_36 (by decide) (by omega) (by omega) (fun c2 => ?_) (fun c2 => ?_)
        · refine w_iincN (w := 1) (l2 := [some (.ref j), some (.ref b), some (.int (nI f)), some (.int (nI g)), some (.int (nI (x + 1))), some (.ref (b + 10 + 2 * x)), some (.int (nI i))]) hX dX2_gather_77 rfl kI_1 rfl rfl ?_
          refine w_goto (tgt := 8) hX dX2_gather_80 (by decide) ?_
          refine w_sub (l2 := [some (.ref j), some (.ref b), some (.int (nI f)), some (.int (nI g)), some (.int (nI (x + 1))), none, none]) (by simp [lsub]) (leb rfl) ?_
          exact ihx (by omega) ν1 hsn (by rw [show i = nB B x by omega] at he1; exact he1)
        · refine w_aload hX dX2_gather_39 rfl ?_
          refine w_getR (q := b + 10 + 2 * x + 1) hX dX2_gather_41 fo_RX2_56 rfl (bk_c hR1.1 (by omega)).2.1 (bk_c hR1.1 (by omega)).2.2.1 ?_
          refine w_iload hX dX2_gather_44 rfl ?_
          refine w_ialdN hX dX2_gather_46 (bk_c hR1.1 (by omega)).2.2.2 (by omega) (by omega) ?_
          refine w_top (y := nI (mS B x i)) ((hR1.2.2.1 x (by omega)).2.2.2 i (by omega)).1 ?_
          refine w_callSI (As := [.int (nI (mS B x i))]) (rest := []) (k2 := 0) (n2 := 0) hX dX2_gather_47 (s_dayOf Γ ν1 (mS B x i) (by omega) (by omega)) okX1_dayOf ml_RX2_59 stX1_dayOf rfl (leb rfl) (leb rfl) rfl rfl (fun r9 μ9 hq9 => ?_)
          obtain ⟨hr9, hm9⟩ := hq9; rw [hr9, hm9, dy_mS hW.1 (by omega) (by omega)]; clear hr9 hm9 r9 μ9
          refine w_iload_n (i := 2) hX dX2_gather_50 rfl rfl ?_
          refine w_iload_n (i := 3) hX dX2_gather_51 rfl rfl ?_
          refine w_callSNI (As := [.int (nI (dyI B x i)), .int (nI f), .int (nI g)]) (rest := []) (k2 := 0) (n2 := 0) hX dX2_gather_52 (s_within Γ ν1 (nI (dyI B x i)) (nI f) (nI g)) okX8_within (List.mem_of_getElem? (i := 8) rfl) stX8_within rfl (leb rfl) (leb rfl) rfl rfl (fun r9 μ9 hq9 => ?_)
          obtain ⟨hr9, hm9⟩ := hq9; rw [hr9, hm9, inR_n (by omega) (by omega) (by omega)]; clear hr9 hm9 r9 μ9
          refine wb_eq (tgt := 71) hX dX2_gather_55 (by decide) (fun hd => ?_) (fun hd => ?_)
          · refine w_iincN (w := 1) (l2 := [some (.ref j), some (.ref b), some (.int (nI f)), some (.int (nI g)), some (.int (nI x)), some (.ref (b + 10 + 2 * x)), some (.int (nI (i + 1)))]) hX dX2_gather_71 rfl kI_1 rfl rfl ?_
            refine w_goto (tgt := 29) hX dX2_gather_74 (by decide) ?_
            exact ihi (by omega) ν1 hsn (by rw [evI_S, if_neg (of_decide_eq_false hd)]; exact he1)
          · refine w_aload_n (i := 0) hX dX2_gather_58 rfl rfl ?_
            refine w_aload hX dX2_gather_59 rfl ?_
            refine w_iload hX dX2_gather_61 rfl ?_
            refine w_callVI (As := [.int (nI i)]) (rest := [.ref j]) (ci := 1) (o := b + 10 + 2 * x) (k2 := 0) (n2 := 0) hX dX2_gather_63 (s_minuteOf Γ ν1 (mS B x) (nB B x) (b + 10 + 2 * x) i (hR1.2.2.1 x (by omega)) (by omega)) okX1_minuteOf (ltb rfl) (bk_c hR1.1 (by omega)).2.1 ml_RX2_67 imX1_minuteOf seX1_minuteOf rfl (leb rfl) (leb rfl) rfl rfl (fun r9 μ9 hq9 => ?_)
            obtain ⟨hr9, hm9⟩ := hq9; rw [hr9, hm9]; clear hr9 hm9 r9 μ9
            refine w_iload hX dX2_gather_66 rfl ?_
            refine w_callVV (As := [.int (nI (mS B x i + (60 * i))), .int (nI x)]) (rest := []) (ci := 2) (o := j) (k2 := 0) (n2 := 0) hX dX2_gather_68 (s_j_insert Γ ν1 j hj1 (evI B f g x (evA B f g x) i) (mS B x i + (60 * i)) x he1 (by omega) (fun q hq => by have := hok.2 q hq; omega) (by omega)) okX2_insert (ltb rfl) (jn_s hj1) ml_RX2_70 imX2_insert seX2_insert rfl (leb rfl) (leb rfl) rfl rfl (fun ν2 hq9 => ?_)
            obtain ⟨he2, hs2⟩ := hq9
            refine w_iincN (w := 1) (l2 := [some (.ref j), some (.ref b), some (.int (nI f)), some (.int (nI g)), some (.int (nI x)), some (.ref (b + 10 + 2 * x)), some (.int (nI (i + 1)))]) hX dX2_gather_71 rfl kI_1 rfl rfl ?_
            refine w_goto (tgt := 29) hX dX2_gather_74 (by decide) ?_
            exact ihi (by omega) ν2 (hsn.tr hs2) (by rw [evI_S, if_pos (of_decide_eq_true hd)]; exact he2)
      exact inl 0 (Nat.zero_le _) ν hsm he
  exact loop 0 (Nat.zero_le _) (sI μ j 5 (nI 0)) (same.rf.sI (Or.inr (Or.inr ⟨rfl, rfl⟩))) ⟨gI_same, fun i hi => absurd hi (Nat.not_lt_zero i)⟩
set_option maxHeartbeats 1000000 in
theorem s_j_follow (Γ : Gm) (μ : Mem) (j : Nat) (hj : isJn μ j) (b : Nat) (B : Nat → Nat) (hR : Rb μ b B) (hW : WB B) (hjb : j + 4 < b) (E : Ev) (hE : evR μ j 5 (j + 1) (j + 2) E) (hok : okE B E 36) (s l : Nat) (hs : s < E.1) (hl : l < E.1) : SpI Γ MX2_canFollow 2 0 0 [.ref j, .ref b, .int (nI s), .int (nI l)] μ (fun r μ2 => r = bI (cfE B E s l) ∧ μ2 = μ) := by
  refine SpI.of okX2_canFollow rfl [some (.ref j), some (.ref b), some (.int (nI s)), some (.int (nI l)), none] ⟨rfl, rfl, rfl, rfl, trivial⟩ (leb rfl) (leb rfl) (fun X hX hE9 hnm => ?_)
  have h1s := hok.2 s hs; have h1l := hok.2 l hl; have hB0 := hW.1.1
  refine w_aload_n (i := 1) hX dX2_canFollow_0 rfl rfl ?_
  refine w_aload_n (i := 0) hX dX2_canFollow_1 rfl rfl ?_
  refine w_getR (q := j + 2) hX dX2_canFollow_2 fo_RX2_19 rfl (jn_s hj) (jn_r1 hj) ?_
  refine w_iload_n (i := 2) hX dX2_canFollow_5 rfl rfl ?_
  refine w_ialdN hX dX2_canFollow_6 (jn_a2 hj) (by have := hok.1; omega) (by omega) ?_
  refine w_top (y := nI (E.2.2 s)) (hE.2 s hs).2 ?_
  refine w_aload_n (i := 0) hX dX2_canFollow_7 rfl rfl ?_
  refine w_getR (q := j + 2) hX dX2_canFollow_8 fo_RX2_19 rfl (jn_s hj) (jn_r1 hj) ?_
  refine w_iload_n (i := 3) hX dX2_canFollow_11 rfl rfl ?_
  refine w_ialdN hX dX2_canFollow_12 (jn_a2 hj) (by have := hok.1; omega) (by omega) ?_
  refine w_top (y := nI (E.2.2 l)) (hE.2 l hl).2 ?_
  refine w_callVI (As := [.int (nI (E.2.2 s)), .int (nI (E.2.2 l))]) (rest := []) (ci := 0) (o := b) (k2 := 0) (n2 := 0) hX dX2_canFollow_13 (s_b_way Γ μ b B hR hW (E.2.2 s) (E.2.2 l) (by omega) (by omega)) okX0_shortestWay (ltb rfl) (bk_s hR.1) ml_RX2_87 imX0_shortestWay seX0_shortestWay rfl (leb rfl) (leb rfl) rfl rfl (fun r9 μ9 hq9 => ?_)
  obtain ⟨hr9, hm9⟩ := hq9; rw [hr9, hm9]; clear hr9 hm9 r9 μ9
  refine w_istore (l2 := [some (.ref j), some (.ref b), some (.int (nI s)), some (.int (nI l)), some (.int (oI (wyO B (E.2.2 s) (E.2.2 l))))]) hX dX2_canFollow_16 (ltb rfl) rfl rfl ?_
  have hwl := wyF_le hW (show E.2.2 s < 3 by omega) (show E.2.2 l < 3 by omega)
  by_cases hwy : wyF B (E.2.2 s) (E.2.2 l) < 100000000
  · refine w_locs (ls2 := [some (.ref j), some (.ref b), some (.int (nI s)), some (.int (nI l)), some (.int (nI (wyF B (E.2.2 s) (E.2.2 l))))]) (by rw [show oI (wyO B (E.2.2 s) (E.2.2 l)) = nI (wyF B (E.2.2 s) (E.2.2 l)) from by unfold wyO; rw [if_pos hwy]; rfl]) ?_
    refine w_iload hX dX2_canFollow_18 rfl ?_
    refine w_iconst hX dX2_canFollow_20 kI_m1 ?_
    refine wc_icmp_eq (tgt := 52) hX dX2_canFollow_21 (by decide) (fun c1 => ?_) (fun c1 => ?_)
    · exact absurd c1 (nI_m1 (by omega))
    · refine w_aload_n (i := 0) hX dX2_canFollow_24 rfl rfl ?_
      refine w_getR (q := j + 1) hX dX2_canFollow_25 fo_RX2_15 rfl (jn_s hj) (jn_r0 hj) ?_
      refine w_iload_n (i := 2) hX dX2_canFollow_28 rfl rfl ?_
      refine w_ialdN hX dX2_canFollow_29 (jn_a1 hj) (by have := hok.1; omega) (by omega) ?_
      refine w_top (y := nI (E.2.1 s)) (hE.2 s hs).1 ?_
      refine w_bipush hX dX2_canFollow_30 kB_60 ?_
      refine w_iaddN hX dX2_canFollow_32 ?_
      refine w_iload hX dX2_canFollow_33 rfl ?_
      refine w_iaddN hX dX2_canFollow_35 ?_
      refine w_aload_n (i := 0) hX dX2_canFollow_36 rfl rfl ?_
      refine w_getR (q := j + 1) hX dX2_canFollow_37 fo_RX2_15 rfl (jn_s hj) (jn_r0 hj) ?_
      refine w_iload_n (i := 3) hX dX2_canFollow_40 rfl rfl ?_
      refine w_ialdN hX dX2_canFollow_41 (jn_a1 hj) (by have := hok.1; omega) (by omega) ?_
      refine w_top (y := nI (E.2.1 l)) (hE.2 l hl).1 ?_
      refine w_bipush hX dX2_canFollow_42 kB_60 ?_
      refine w_isubN hX dX2_canFollow_44 (by omega) ?_
      refine wn_icmp_gt (tgt := 52) hX dX2_canFollow_45 (by decide) (by omega) (by omega) (fun c2 => ?_) (fun c2 => ?_)
      · refine w_iconst hX dX2_canFollow_52 kI_0 ?_
        exact w_iret hX hE9 dX2_canFollow_53 (Or.inl rfl) rfl ⟨bI_2 (by unfold cfE; exact decide_eq_false (by omega)), rfl⟩
      · refine w_iconst hX dX2_canFollow_48 kI_1 ?_
        refine w_goto (tgt := 53) hX dX2_canFollow_49 (by decide) ?_
        exact w_iret hX hE9 dX2_canFollow_53 (Or.inl rfl) rfl ⟨bI_1 (by unfold cfE; exact decide_eq_true (by omega)), rfl⟩
  · refine w_locs (ls2 := [some (.ref j), some (.ref b), some (.int (nI s)), some (.int (nI l)), some (.int ((-1 : Int32)))]) (by rw [show oI (wyO B (E.2.2 s) (E.2.2 l)) = (-1 : Int32) from by unfold wyO; rw [if_neg hwy]; rfl]) ?_
    refine w_iload hX dX2_canFollow_18 rfl ?_
    refine w_iconst hX dX2_canFollow_20 kI_m1 ?_
    refine wc_icmp_eq (tgt := 52) hX dX2_canFollow_21 (by decide) (fun c3 => ?_) (fun c3 => ?_)
    · refine w_iconst hX dX2_canFollow_52 kI_0 ?_
      exact w_iret hX hE9 dX2_canFollow_53 (Or.inl rfl) rfl ⟨bI_2 (by unfold cfE; exact decide_eq_false (by omega)), rfl⟩
    · exact absurd rfl c3
theorem evR_same {S : Nat → Nat → Prop} {μ ν : Mem} {co ck aM aT : Nat} {E : Ev} (h : evR μ co ck aM aT E) (hs : same S μ ν) (h1 : ¬ S co ck) (h2 : ∀ k, ¬ S aM k) (h3 : ∀ k, ¬ S aT k) : evR ν co ck aM aT E :=
  ⟨by rw [(hs.2.2 _ _ h1).1]; exact h.1, fun i hi => by rw [(hs.2.2 _ _ (h2 i)).1, (hs.2.2 _ _ (h3 i)).1]; exact h.2 i hi⟩
theorem mx_nI {a b : Nat} (ha : a < 2 ^ 31) (hb : b < 2 ^ 31) : (if nI a < nI b then nI b else nI a) = nI (if a < b then b else a) := by
  by_cases h : a < b
  · rw [if_pos h, if_pos ((nI_ltI ha hb).mpr h)]
  · rw [if_neg h, if_neg (fun e => h ((nI_ltI ha hb).mp e))]
theorem nI_p1 {q : Nat} : nI (q + 1) - nI 1 = nI q := (pk_sub (by omega)).trans rfl
theorem nI_m {q : Nat} : nI q + Int32.ofInt (-1) = nI q - nI 1 := by rw [Int32.sub_eq_add_neg]; rfl
theorem chI_S {cf : Nat → Nat → Bool} {g : Nat → Nat} {s d : Nat} : chI cf g s (d + 1) = if cf s (s + 1 + d) = true ∧ chI cf g s d ≤ g (s + 1 + d) then g (s + 1 + d) + 1 else chI cf g s d := rfl
set_option maxHeartbeats 1000000 in
theorem s_j_measure (Γ : Gm) (μ : Mem) (j : Nat) (hj : isJn μ j) (b : Nat) (B : Nat → Nat) (hR : Rb μ b B) (hW : WB B) (hjb : j + 4 < b) (E : Ev) (hE : evR μ j 5 (j + 1) (j + 2) E) (hok : okE B E 36)  : SpV Γ MX2_measureChains 3 0 0 [.ref j, .ref b] μ (fun μ2 => gI μ2 j 4 = nI (mxU (ch (cfE B E) E.1) E.1) ∧ (∀ s, s < E.1 → gI μ2 (j + 3) s = nI ((ch (cfE B E) E.1) s)) ∧ same (fun o k => o = j + 3 ∨ (o = j ∧ k = 4)) μ μ2) := by
  refine SpV.of okX2_measureChains rfl [some (.ref j), some (.ref b), none, none] ⟨rfl, rfl, trivial⟩ (leb rfl) (leb rfl) (fun X hX hE9 hnm => ?_)
  refine w_aload_n (i := 0) hX dX2_measureChains_0 rfl rfl ?_
  refine w_iconst hX dX2_measureChains_1 kI_0 ?_
  refine w_putI hX dX2_measureChains_2 fo_RX2_74 rfl rfl rfl rfl (jn_s hj) ?_
  refine w_aload_n (i := 0) hX dX2_measureChains_5 rfl rfl ?_
  refine w_getI hX dX2_measureChains_6 fo_RX2_46 rfl (jn_s hj) ?_
  refine w_top (y := nI E.1) (by rw [gI_ne (fun e => by omega)]; exact hE.1) ?_
  refine w_iconst hX dX2_measureChains_9 kI_1 ?_
  refine w_isub hX dX2_measureChains_10 ?_
  refine w_istore_n (i := 2) (l2 := [some (.ref j), some (.ref b), some (.int ((nI E.1) - (nI 1))), none]) hX dX2_measureChains_11 rfl (ltb rfl) rfl rfl ?_
  have ho36 := hok.1
  have loop : ∀ q, q ≤ E.1 → ∀ ν : Mem, (same (fun o k => o = j + 3 ∨ (o = j ∧ k = 4)) μ ν) → (gI ν j 4 = nI (mxD (ch (cfE B E) E.1) E.1 (E.1 - q))) → (∀ s, q ≤ s → s < E.1 → gI ν (j + 3) s = nI ((ch (cfE B E) E.1) s)) → WP Γ X 0 0 12 [some (.ref j), some (.ref b), some (.int (nI q - nI 1)), none] [] ν := by
    intro q
    induction q using Nat.strongRecOn with
    | ind q ih =>
      intro hq ν hsm hlen hch
      have hjk := hsm.isJn hj
      have hRk := Rb_same hsm (fun o k h => Or.inl (by omega)) hR
      have hek := evR_same hE hsm (by omega) (by omega) (by omega)
      have hmd := mxD_le (c := (ch (cfE B E) E.1)) (n := E.1) (b := 36) (fun k hk => by have := (ch_le (cf := cfE B E) hk).2; have := hok.1; omega) (E.1 - q) (by omega)
      rcases Nat.eq_zero_or_pos q with h0 | h0
      · refine w_locs (ls2 := [some (.ref j), some (.ref b), some (.int ((-1 : Int32))), none]) (by rw [h0]; rfl) ?_
        refine w_iload_n (i := 2) hX dX2_measureChains_12 rfl rfl ?_
        refine wc_if_lt (tgt := 103) hX dX2_measureChains_13 (by decide) (fun c1 => ?_) (fun c1 => ?_)
        · exact w_vret hX hE9 dX2_measureChains_103 (Or.inl rfl) ⟨by rw [h0, Nat.sub_zero, mx_eq] at hlen; exact hlen, fun s hs => hch s (by omega) hs, hsm⟩
        · exact absurd (by assumption : (0 : Int32) ≤ -1) (by decide)
      · obtain ⟨q0, rfl⟩ : ∃ q0, q = q0 + 1 := ⟨q - 1, by omega⟩
        refine w_locs (ls2 := [some (.ref j), some (.ref b), some (.int (nI q0)), none]) (by rw [nI_p1]) ?_
        refine w_iload_n (i := 2) hX dX2_measureChains_12 rfl rfl ?_
        refine wn_if_lt (tgt := 103) hX dX2_measureChains_13 (by decide) (by omega) (fun c2 => ?_) (fun c2 => ?_)
        · exfalso; omega
        · refine w_aload_n (i := 0) hX dX2_measureChains_16 rfl rfl ?_
          refine w_getR (q := j + 3) hX dX2_measureChains_17 fo_RX2_22 rfl (jn_s hjk) (jn_r2 hjk) ?_
          refine w_iload_n (i := 2) hX dX2_measureChains_20 rfl rfl ?_
          refine w_iconst hX dX2_measureChains_21 kI_1 ?_
          refine w_iastN hX dX2_measureChains_22 (jn_a3 hjk) (by omega) (by omega) ?_
          refine w_iload_n (i := 2) hX dX2_measureChains_23 rfl rfl ?_
          refine w_iconst hX dX2_measureChains_24 kI_1 ?_
          refine w_iaddN hX dX2_measureChains_25 ?_
          refine w_istore_n (i := 3) (l2 := [some (.ref j), some (.ref b), some (.int (nI q0)), some (.int (nI (q0 + 1)))]) hX dX2_measureChains_26 rfl (ltb rfl) rfl rfl ?_
          have inl : ∀ d, d ≤ E.1 - (q0 + 1) → ∀ ν1 : Mem, (same (fun o k => o = j + 3 ∨ (o = j ∧ k = 4)) μ ν1) → (gI ν1 j 4 = nI (mxD (ch (cfE B E) E.1) E.1 (E.1 - (q0 + 1)))) → (∀ s, q0 + 1 ≤ s → s < E.1 → gI ν1 (j + 3) s = nI ((ch (cfE B E) E.1) s)) → (gI ν1 (j + 3) q0 = nI (chI (cfE B E) (ch (cfE B E) E.1) q0 d)) → WP Γ X 0 0 27 [some (.ref j), some (.ref b), some (.int (nI q0)), some (.int (nI (q0 + 1 + d)))] [] ν1 := by
            refine loopU (E.1 - (q0 + 1)) ?_
            intro d hd ihd ν1 hsn g1 g2 g3
            have hj1 := hsn.isJn hj
            have hR1 := Rb_same hsn (fun o k h => Or.inl (by omega)) hR
            have he1 := evR_same hE hsn (by omega) (by omega) (by omega)
            have hcl := chI_le (cf := cfE B E) (n := E.1) (s := q0) (d := d) (by omega)
            have hcl2 : d < E.1 - (q0 + 1) → (ch (cfE B E) E.1) (q0 + 1 + d) ≤ 36 := fun h => by have := (ch_le (cf := cfE B E) (show q0 + 1 + d < E.1 by omega)).2; have := hok.1; omega
            have ho36 := hok.1
            refine w_iload_n (i := 3) hX dX2_measureChains_27 rfl rfl ?_
            refine w_aload_n (i := 0) hX dX2_measureChains_28 rfl rfl ?_
            refine w_getI hX dX2_measureChains_29 fo_RX2_46 rfl (jn_s hj1) ?_
            refine w_top (y := nI E.1) he1.1 ?_
            refine wn_icmp_ge (tgt := 80) hX dX2_measureChains_32 (by decide) (by omega) (by omega) (fun c3 => ?_) (fun c3 => ?_)
            · refine w_aload_n (i := 0) hX dX2_measureChains_80 rfl rfl ?_
              refine w_aload_n (i := 0) hX dX2_measureChains_81 rfl rfl ?_
              refine w_getI hX dX2_measureChains_82 fo_RX2_74 rfl (jn_s hj1) ?_
              refine w_top (y := nI (mxD (ch (cfE B E) E.1) E.1 (E.1 - (q0 + 1)))) g1 ?_
              refine w_aload_n (i := 0) hX dX2_measureChains_85 rfl rfl ?_
              refine w_getR (q := j + 3) hX dX2_measureChains_86 fo_RX2_22 rfl (jn_s hj1) (jn_r2 hj1) ?_
              refine w_iload_n (i := 2) hX dX2_measureChains_89 rfl rfl ?_
              refine w_ialdN hX dX2_measureChains_90 (jn_a3 hj1) (by omega) (by omega) ?_
              refine w_top (y := nI (chI (cfE B E) (ch (cfE B E) E.1) q0 d)) g3 ?_
              refine w_max hX dX2_measureChains_91 ml_RX2_81 (leb rfl) (leb rfl) ?_
              refine w_putI hX dX2_measureChains_94 fo_RX2_74 rfl rfl rfl rfl (jn_s hj1) ?_
              refine w_iinc (l2 := [some (.ref j), some (.ref b), some (.int (nI q0 + Int32.ofInt (-1))), some (.int (nI (q0 + 1 + d)))]) hX dX2_measureChains_97 rfl rfl rfl rfl ?_
              refine w_goto (tgt := 12) hX dX2_measureChains_100 (by decide) ?_
              refine w_sub (l2 := [some (.ref j), some (.ref b), some (.int (nI q0 + Int32.ofInt (-1))), none]) (by simp [lsub]) (leb rfl) ?_
              refine w_locs (ls2 := [some (.ref j), some (.ref b), some (.int (nI q0 - nI 1)), none]) (by rw [nI_m]) ?_
              refine ih q0 (by omega) (by omega) _ (hsn.sI (Or.inr ⟨rfl, rfl⟩)) ?_ (fun s h8 h9 => ?_)
              · rw [gI_same, mx_nI (by omega) (by omega)]; congr 1; rw [show E.1 - q0 = (E.1 - (q0 + 1)) + 1 by omega]; simp only [mxD]; rw [show E.1 - 1 - (E.1 - (q0 + 1)) = q0 by omega, ch_eq (by omega), show E.1 - 1 - q0 = d by omega]
              · rw [gI_no (by omega)]
                by_cases e : s = q0
                · rw [e, g3, ch_eq (by omega), show E.1 - 1 - q0 = d by omega]
                · exact g2 s (by omega) h9
            · refine w_aload_n (i := 0) hX dX2_measureChains_35 rfl rfl ?_
              refine w_getR (q := j + 3) hX dX2_measureChains_36 fo_RX2_22 rfl (jn_s hj1) (jn_r2 hj1) ?_
              refine w_iload_n (i := 3) hX dX2_measureChains_39 rfl rfl ?_
              refine w_ialdN hX dX2_measureChains_40 (jn_a3 hj1) (by omega) (by omega) ?_
              refine w_top (y := nI ((ch (cfE B E) E.1) (q0 + 1 + d))) (g2 _ (by omega) (by omega)) ?_
              refine w_aload_n (i := 0) hX dX2_measureChains_41 rfl rfl ?_
              refine w_getR (q := j + 3) hX dX2_measureChains_42 fo_RX2_22 rfl (jn_s hj1) (jn_r2 hj1) ?_
              refine w_iload_n (i := 2) hX dX2_measureChains_45 rfl rfl ?_
              refine w_ialdN hX dX2_measureChains_46 (jn_a3 hj1) (by omega) (by omega) ?_
              refine w_top (y := nI (chI (cfE B E) (ch (cfE B E) E.1) q0 d)) g3 ?_
              refine wn_icmp_lt (tgt := 74) hX dX2_measureChains_47 (by decide) (by omega) (by omega) (fun c4 => ?_) (fun c4 => ?_)
              · refine w_iincN (w := 1) (l2 := [some (.ref j), some (.ref b), some (.int (nI q0)), some (.int (nI (q0 + 1 + d + 1)))]) hX dX2_measureChains_74 rfl kI_1 rfl rfl ?_
                refine w_goto (tgt := 27) hX dX2_measureChains_77 (by decide) ?_
                exact ihd (by omega) ν1 hsn g1 g2 (by rw [chI_S, if_neg (fun h9 => by first | (have h8 := h9.2; omega) | (have h8 := h9.1; rw [hcf] at h8; cases h8))]; exact g3)
              · refine w_aload_n (i := 0) hX dX2_measureChains_50 rfl rfl ?_
                refine w_aload_n (i := 1) hX dX2_measureChains_51 rfl rfl ?_
                refine w_iload_n (i := 2) hX dX2_measureChains_52 rfl rfl ?_
                refine w_iload_n (i := 3) hX dX2_measureChains_53 rfl rfl ?_
                refine w_callVI (As := [.ref b, .int (nI q0), .int (nI (q0 + 1 + d))]) (rest := []) (ci := 2) (o := j) (k2 := 0) (n2 := 0) hX dX2_measureChains_54 (s_j_follow Γ ν1 j hj1 b B hR1 hW hjb E he1 hok q0 (q0 + 1 + d) (by omega) (by omega)) okX2_canFollow (ltb rfl) (jn_s hj1) ml_RX2_77 imX2_canFollow seX2_canFollow rfl (leb rfl) (leb rfl) rfl rfl (fun r9 μ9 hq9 => ?_)
                obtain ⟨hr9, hm9⟩ := hq9; rw [hr9, hm9]; clear hr9 hm9 r9 μ9
                refine wb_eq (tgt := 74) hX dX2_measureChains_57 (by decide) (fun hcf => ?_) (fun hcf => ?_)
                · refine w_iincN (w := 1) (l2 := [some (.ref j), some (.ref b), some (.int (nI q0)), some (.int (nI (q0 + 1 + d + 1)))]) hX dX2_measureChains_74 rfl kI_1 rfl rfl ?_
                  refine w_goto (tgt := 27) hX dX2_measureChains_77 (by decide) ?_
                  exact ihd (by omega) ν1 hsn g1 g2 (by rw [chI_S, if_neg (fun h9 => by first | (have h8 := h9.2; omega) | (have h8 := h9.1; rw [hcf] at h8; cases h8))]; exact g3)
                · refine w_aload_n (i := 0) hX dX2_measureChains_60 rfl rfl ?_
                  refine w_getR (q := j + 3) hX dX2_measureChains_61 fo_RX2_22 rfl (jn_s hj1) (jn_r2 hj1) ?_
                  refine w_iload_n (i := 2) hX dX2_measureChains_64 rfl rfl ?_
                  refine w_aload_n (i := 0) hX dX2_measureChains_65 rfl rfl ?_
                  refine w_getR (q := j + 3) hX dX2_measureChains_66 fo_RX2_22 rfl (jn_s hj1) (jn_r2 hj1) ?_
                  refine w_iload_n (i := 3) hX dX2_measureChains_69 rfl rfl ?_
                  refine w_ialdN hX dX2_measureChains_70 (jn_a3 hj1) (by omega) (by omega) ?_
                  refine w_top (y := nI ((ch (cfE B E) E.1) (q0 + 1 + d))) (g2 _ (by omega) (by omega)) ?_
                  refine w_iconst hX dX2_measureChains_71 kI_1 ?_
                  refine w_iaddN hX dX2_measureChains_72 ?_
                  refine w_iastN hX dX2_measureChains_73 (jn_a3 hj1) (by omega) (by omega) ?_
                  refine w_iincN (w := 1) (l2 := [some (.ref j), some (.ref b), some (.int (nI q0)), some (.int (nI (q0 + 1 + d + 1)))]) hX dX2_measureChains_74 rfl kI_1 rfl rfl ?_
                  refine w_goto (tgt := 27) hX dX2_measureChains_77 (by decide) ?_
                  exact ihd (by omega) _ (hsn.sI (Or.inl rfl)) (by rw [gI_no (by omega)]; exact g1) (fun s h8 h9 => by rw [gI_nk (by omega)]; exact g2 s h8 h9) (by rw [gI_same, chI_S, if_pos ⟨hcf, by omega⟩])
          exact inl 0 (Nat.zero_le _) (sI ν (j + 3) q0 (nI 1)) (hsm.sI (Or.inl rfl)) (by rw [gI_no (by omega)]; exact hlen) (fun s h8 h9 => by rw [gI_nk (by omega)]; exact hch s h8 h9) gI_same
  exact loop E.1 (Nat.le_refl _) _ (same.rf.sI (Or.inr ⟨rfl, rfl⟩)) (by rw [gI_same, Nat.sub_self]; rfl) (fun s h8 h9 => by omega)
