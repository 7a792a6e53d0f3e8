theorem rwP_l {cf : Nat → Nat → Bool} {c : Nat → Nat} {n L k : Nat} : ∀ la, rwP cf c L (lstO cf c n L la) la k = true ↔ c k = L - la ∧ (la = 0 ∨ cf (rwS cf c n L (la - 1)) k = true) := by
  intro la
  cases la with
  | zero => simp [rwP, lstO]
  | succ la => simp [rwP, lstO]
set_option maxHeartbeats 1000000 in
theorem s_j_layRow (Γ : Gm) (μ : Mem) (j : Nat) (hj : isJn μ j) (b : Nat) (B : Nat → Nat) (hR : Rb μ b B) (hW : WB B) (hjb : j + 4 < b) (E : Ev) (hE : evR μ j 5 (j + 1) (j + 2) E) (hok : okE B E 36) (hl : gI μ j 4 = nI (mxU (ch (cfE B E) E.1) E.1)) (hch : ∀ s, s < E.1 → gI μ (j + 3) s = nI ((ch (cfE B E) E.1) s)) : SpV Γ MX2_layRow 3 0 0 [.ref j, .ref b] μ (fun μ2 => (∀ i, i < (mxU (ch (cfE B E) E.1) E.1) → gI μ2 (j + 4) i = nI (rwS (cfE B E) (ch (cfE B E) E.1) E.1 (mxU (ch (cfE B E) E.1) E.1) i)) ∧ same (fun o k => o = j + 4) μ μ2) := by
  refine SpV.of okX2_layRow rfl [some (.ref j), some (.ref b), none, none] ⟨rfl, rfl, trivial⟩ (leb rfl) (leb rfl) (fun X hX hE9 hnm => ?_)
  refine w_iconst hX dX2_layRow_0 kI_0 ?_
  refine w_istore_n (i := 2) (l2 := [some (.ref j), some (.ref b), some (.int (nI 0)), none]) hX dX2_layRow_1 rfl (ltb rfl) rfl rfl ?_
  refine w_iconst hX dX2_layRow_2 kI_0 ?_
  refine w_istore_n (i := 3) (l2 := [some (.ref j), some (.ref b), some (.int (nI 0)), some (.int (nI 0))]) hX dX2_layRow_3 rfl (ltb rfl) rfl rfl ?_
  have ho36 := hok.1
  have hL36 := mxU_le (c := (ch (cfE B E) E.1)) (n := E.1) (b := 36) (fun k hk => by have := (ch_le (cf := cfE B E) hk).2; omega) E.1 (Nat.le_refl _)
  have loop : ∀ k, k ≤ E.1 → ∀ (la : Nat) (ν : Mem), same (fun o k => o = j + 4) μ ν → la ≤ (mxU (ch (cfE B E) E.1) E.1) → la ≤ k → (∀ i, i < la → gI ν (j + 4) i = nI (rwS (cfE B E) (ch (cfE B E) E.1) E.1 (mxU (ch (cfE B E) E.1) E.1) i)) → (la < (mxU (ch (cfE B E) E.1) E.1) → rwS (cfE B E) (ch (cfE B E) E.1) E.1 (mxU (ch (cfE B E) E.1) E.1) la = nxt (rwP (cfE B E) (ch (cfE B E) E.1) (mxU (ch (cfE B E) E.1) E.1) (lstO (cfE B E) (ch (cfE B E) E.1) E.1 (mxU (ch (cfE B E) E.1) E.1) la) la) (E.1 - k) k) → WP Γ X 0 0 4 [some (.ref j), some (.ref b), some (.int (nI la)), some (.int (nI k))] [] ν := by
    refine loopU E.1 ?_
    intro k hk ih la ν hsm hla hlk hrow hnx
    have hjk := hsm.isJn hj
    have hRk := Rb_same hsm (fun o k h => Or.inl (by omega)) hR
    have hek := evR_same hE hsm (by omega) (by omega) (by omega)
    have hlen : gI ν j 4 = nI (mxU (ch (cfE B E) E.1) E.1) := by rw [(hsm.2.2 _ _ (fun h => by omega)).1]; exact hl
    have hrl : 0 < la → rwS (cfE B E) (ch (cfE B E) E.1) E.1 (mxU (ch (cfE B E) E.1) E.1) (la - 1) < E.1 := fun h => (rwS_ok (la - 1) (by omega)).1
    have hck : k < E.1 → (ch (cfE B E) E.1) k ≤ 36 := fun h => by have := (ch_le (cf := cfE B E) h).2; omega
    refine w_iload_n (i := 3) hX dX2_layRow_4 rfl rfl ?_
    refine w_aload_n (i := 0) hX dX2_layRow_5 rfl rfl ?_
    refine w_getI hX dX2_layRow_6 fo_RX2_46 rfl (jn_s hjk) ?_
    refine w_top (y := nI E.1) hek.1 ?_
    refine wn_icmp_ge (tgt := 72) hX dX2_layRow_9 (by decide) (by omega) (by omega) (fun c1 => ?_) (fun c1 => ?_)
    · have hfin : la = (mxU (ch (cfE B E) E.1) E.1) := by
        by_cases h9 : la < (mxU (ch (cfE B E) E.1) E.1)
        · have h8 := hnx h9
          have h7 := (rwS_ok (cf := cfE B E) (n := E.1) la h9).1
          rw [h8, show E.1 - k = 0 by omega] at h7
          simp only [nxt] at h7; omega
        · omega
      exact w_vret hX hE9 dX2_layRow_72 (Or.inl rfl) ⟨fun i hi => hrow i (by omega), hsm⟩
    · refine w_iload_n (i := 2) hX dX2_layRow_12 rfl rfl ?_
      refine w_aload_n (i := 0) hX dX2_layRow_13 rfl rfl ?_
      refine w_getI hX dX2_layRow_14 fo_RX2_74 rfl (jn_s hjk) ?_
      refine w_top (y := nI ((mxU (ch (cfE B E) E.1) E.1))) hlen ?_
      refine wn_icmp_ge (tgt := 72) hX dX2_layRow_17 (by decide) (by omega) (by omega) (fun c2 => ?_) (fun c2 => ?_)
      · have hfin : la = (mxU (ch (cfE B E) E.1) E.1) := by
          by_cases h9 : la < (mxU (ch (cfE B E) E.1) E.1)
          · have h8 := hnx h9
            have h7 := (rwS_ok (cf := cfE B E) (n := E.1) la h9).1
            rw [h8, show E.1 - k = 0 by omega] at h7
            simp only [nxt] at h7; omega
          · omega
        exact w_vret hX hE9 dX2_layRow_72 (Or.inl rfl) ⟨fun i hi => hrow i (by omega), hsm⟩
      · refine w_aload_n (i := 0) hX dX2_layRow_20 rfl rfl ?_
        refine w_getR (q := j + 3) hX dX2_layRow_21 fo_RX2_22 rfl (jn_s hjk) (jn_r2 hjk) ?_
        refine w_iload_n (i := 3) hX dX2_layRow_24 rfl rfl ?_
        refine w_ialdN hX dX2_layRow_25 (jn_a3 hjk) (by omega) (by omega) ?_
        refine w_top (y := nI ((ch (cfE B E) E.1) k)) (by rw [(hsm.2.2 _ _ (fun h => by omega)).1]; exact hch k (by omega)) ?_
        refine w_aload_n (i := 0) hX dX2_layRow_26 rfl rfl ?_
        refine w_getI hX dX2_layRow_27 fo_RX2_74 rfl (jn_s hjk) ?_
        refine w_top (y := nI ((mxU (ch (cfE B E) E.1) E.1))) hlen ?_
        refine w_iload_n (i := 2) hX dX2_layRow_30 rfl rfl ?_
        refine w_isubN hX dX2_layRow_31 (by omega) ?_
        refine wn_icmp_ne (tgt := 66) hX dX2_layRow_32 (by decide) (by omega) (by omega) (fun c3 => ?_) (fun c3 => ?_)
        · refine w_iincN (w := 1) (l2 := [some (.ref j), some (.ref b), some (.int (nI la)), some (.int (nI (k + 1)))]) hX dX2_layRow_66 rfl kI_1 rfl rfl ?_
          refine w_goto (tgt := 4) hX dX2_layRow_69 (by decide) ?_
          refine ih (by omega) la ν hsm hla (by omega) hrow (fun h9 => ?_)
          rw [hnx h9]
          refine nxt_S (by omega) (Bool.eq_false_iff.mpr (fun h8 => ?_))
          have h7 := (rwP_l la).mp h8
          first | omega | (rcases h7.2 with h6 | h6; (omega); (rw [hcf] at h6; cases h6))
        · refine w_iload_n (i := 2) hX dX2_layRow_35 rfl rfl ?_
          refine wn_if_eq (tgt := 56) hX dX2_layRow_36 (by decide) (by omega) (fun c4 => ?_) (fun c4 => ?_)
          · refine w_aload_n (i := 0) hX dX2_layRow_56 rfl rfl ?_
            refine w_getR (q := j + 4) hX dX2_layRow_57 fo_RX2_25 rfl (jn_s hjk) (jn_r3 hjk) ?_
            refine w_iload_n (i := 2) hX dX2_layRow_60 rfl rfl ?_
            refine w_iload_n (i := 3) hX dX2_layRow_61 rfl rfl ?_
            refine w_iastN hX dX2_layRow_62 (jn_a4 hjk) (by omega) (by omega) ?_
            refine w_iincN (w := 1) (l2 := [some (.ref j), some (.ref b), some (.int (nI (la + 1))), some (.int (nI k))]) hX dX2_layRow_63 rfl kI_1 rfl rfl ?_
            refine w_iincN (w := 1) (l2 := [some (.ref j), some (.ref b), some (.int (nI (la + 1))), some (.int (nI (k + 1)))]) hX dX2_layRow_66 rfl kI_1 rfl rfl ?_
            refine w_goto (tgt := 4) hX dX2_layRow_69 (by decide) ?_
            have hpk : (rwP (cfE B E) (ch (cfE B E) E.1) (mxU (ch (cfE B E) E.1) E.1) (lstO (cfE B E) (ch (cfE B E) E.1) E.1 (mxU (ch (cfE B E) E.1) E.1) la) la) k = true := (rwP_l la).mpr ⟨by omega, by first | exact Or.inl (by omega) | exact Or.inr hcf⟩
            have hrk : rwS (cfE B E) (ch (cfE B E) E.1) E.1 (mxU (ch (cfE B E) E.1) E.1) la = k := by rw [hnx (by omega)]; exact nxt_Y (by omega) hpk
            refine ih (by omega) (la + 1) _ (hsm.sI rfl) (by omega) (by omega) (fun i hi => ?_) (fun h9 => ?_)
            · by_cases e : i = la
              · rw [e, gI_same, hrk]
              · rw [gI_nk e]; exact hrow i (by omega)
            · rw [rwS_e (la + 1), show sttS (cfE B E) (ch (cfE B E) E.1) E.1 (mxU (ch (cfE B E) E.1) E.1) (la + 1) = k + 1 by simp only [sttS]; rw [hrk]]
          · refine w_aload_n (i := 0) hX dX2_layRow_39 rfl rfl ?_
            refine w_aload_n (i := 1) hX dX2_layRow_40 rfl rfl ?_
            refine w_aload_n (i := 0) hX dX2_layRow_41 rfl rfl ?_
            refine w_getR (q := j + 4) hX dX2_layRow_42 fo_RX2_25 rfl (jn_s hjk) (jn_r3 hjk) ?_
            refine w_iload_n (i := 2) hX dX2_layRow_45 rfl rfl ?_
            refine w_iconst hX dX2_layRow_46 kI_1 ?_
            refine w_isubN hX dX2_layRow_47 (by omega) ?_
            refine w_ialdN hX dX2_layRow_48 (jn_a4 hjk) (by omega) (by omega) ?_
            refine w_top (y := nI (rwS (cfE B E) (ch (cfE B E) E.1) E.1 (mxU (ch (cfE B E) E.1) E.1) (la - 1))) (hrow _ (by omega)) ?_
            refine w_iload_n (i := 3) hX dX2_layRow_49 rfl rfl ?_
            refine w_callVI (As := [.ref b, .int (nI (rwS (cfE B E) (ch (cfE B E) E.1) E.1 (mxU (ch (cfE B E) E.1) E.1) (la - 1))), .int (nI k)]) (rest := []) (ci := 2) (o := j) (k2 := 0) (n2 := 0) hX dX2_layRow_50 (s_j_follow Γ ν j hjk b B hRk hW hjb E hek hok (rwS (cfE B E) (ch (cfE B E) E.1) E.1 (mxU (ch (cfE B E) E.1) E.1) (la - 1)) k (by omega) (by omega)) okX2_canFollow (ltb rfl) (jn_s hjk) ml_RX2_77 imX2_canFollow seX2_canFollow rfl (leb rfl) (leb rfl) rfl rfl (fun r9 μ9 hq9 => ?_)
            obtain ⟨hr9, hm9⟩ := hq9; rw [hr9, hm9]; clear hr9 hm9 r9 μ9
            refine wb_eq (tgt := 66) hX dX2_layRow_53 (by decide) (fun hcf => ?_) (fun hcf => ?_)
            · refine w_iincN (w := 1) (l2 := [some (.ref j), some (.ref b), some (.int (nI la)), some (.int (nI (k + 1)))]) hX dX2_layRow_66 rfl kI_1 rfl rfl ?_
              refine w_goto (tgt := 4) hX dX2_layRow_69 (by decide) ?_
              refine ih (by omega) la ν hsm hla (by omega) hrow (fun h9 => ?_)
              rw [hnx h9]
              refine nxt_S (by omega) (Bool.eq_false_iff.mpr (fun h8 => ?_))
              have h7 := (rwP_l la).mp h8
              first | omega | (rcases h7.2 with h6 | h6; (omega); (rw [hcf] at h6; cases h6))
            · refine w_aload_n (i := 0) hX dX2_layRow_56 rfl rfl ?_
              refine w_getR (q := j + 4) hX dX2_layRow_57 fo_RX2_25 rfl (jn_s hjk) (jn_r3 hjk) ?_
              refine w_iload_n (i := 2) hX dX2_layRow_60 rfl rfl ?_
              refine w_iload_n (i := 3) hX dX2_layRow_61 rfl rfl ?_
              refine w_iastN hX dX2_layRow_62 (jn_a4 hjk) (by omega) (by omega) ?_
              refine w_iincN (w := 1) (l2 := [some (.ref j), some (.ref b), some (.int (nI (la + 1))), some (.int (nI k))]) hX dX2_layRow_63 rfl kI_1 rfl rfl ?_
              refine w_iincN (w := 1) (l2 := [some (.ref j), some (.ref b), some (.int (nI (la + 1))), some (.int (nI (k + 1)))]) hX dX2_layRow_66 rfl kI_1 rfl rfl ?_
              refine w_goto (tgt := 4) hX dX2_layRow_69 (by decide) ?_
              have hpk : (rwP (cfE B E) (ch (cfE B E) E.1) (mxU (ch (cfE B E) E.1) E.1) (lstO (cfE B E) (ch (cfE B E) E.1) E.1 (mxU (ch (cfE B E) E.1) E.1) la) la) k = true := (rwP_l la).mpr ⟨by omega, by first | exact Or.inl (by omega) | exact Or.inr hcf⟩
              have hrk : rwS (cfE B E) (ch (cfE B E) E.1) E.1 (mxU (ch (cfE B E) E.1) E.1) la = k := by rw [hnx (by omega)]; exact nxt_Y (by omega) hpk
              refine ih (by omega) (la + 1) _ (hsm.sI rfl) (by omega) (by omega) (fun i hi => ?_) (fun h9 => ?_)
              · by_cases e : i = la
                · rw [e, gI_same, hrk]
                · rw [gI_nk e]; exact hrow i (by omega)
              · rw [rwS_e (la + 1), show sttS (cfE B E) (ch (cfE B E) E.1) E.1 (mxU (ch (cfE B E) E.1) E.1) (la + 1) = k + 1 by simp only [sttS]; rw [hrk]]
  exact loop 0 (Nat.zero_le _) 0 μ same.rf (Nat.zero_le _) (Nat.le_refl _) (fun i hi => by omega) (fun _ => rfl)
/-- what the journey keeps of the days f to g -/
def jCon (μ : Mem) (j : Nat) (B : Nat → Nat) (f g : Nat) : Prop := gI μ j 4 = nI (jL B f g) ∧ (∀ i, i < jL B f g → gI μ (j + 4) i = nI (jR B f g i)) ∧ evR μ j 5 (j + 1) (j + 2) (EV B f g)
def JI (μ : Mem) (j : Nat) (B : Nat → Nat) : Prop := isJn μ j ∧ (gI μ j 6 = (-1 : Int32) ∨ ∃ f g, f ≤ 3649 ∧ g ≤ 3649 ∧ gI μ j 6 = nI f ∧ gI μ j 7 = nI g ∧ jCon μ j B f g)
def SJ (j : Nat) : Nat → Nat → Prop := fun o k => (o = j ∧ 4 ≤ k) ∨ (j < o ∧ o ≤ j + 4)
theorem JI.at {μ : Mem} {j f g : Nat} {B : Nat → Nat} (h : JI μ j B) (hf : f ≤ 3649) (hg : g ≤ 3649) (h6 : gI μ j 6 = nI f) (h7 : gI μ j 7 = nI g) : jCon μ j B f g := by
  rcases h.2 with h | ⟨f', g', a, b, c, d, e⟩
  · exact absurd (h6.symm.trans h) (nI_m1 (by omega))
  · have e1 : f' = f := (nI_eq (by omega) (by omega)).mp (c.symm.trans h6)
    have e2 : g' = g := (nI_eq (by omega) (by omega)).mp (d.symm.trans h7)
    rw [← e1, ← e2]; exact e
set_option maxHeartbeats 1000000 in
theorem s_j_prepare (Γ : Gm) (μ : Mem) (j : Nat) (b : Nat) (B : Nat → Nat) (hj : JI μ j B) (hR : Rb μ b B) (hW : WB B) (hjb : j + 4 < b) (f g : Nat) (hf : f ≤ 3649) (hg : g ≤ 3649) : SpV Γ MX2_prepare 4 0 0 [.ref j, .ref b, .int (nI f), .int (nI g)] μ (fun μ2 => gI μ2 j 6 = nI f ∧ gI μ2 j 7 = nI g ∧ jCon μ2 j B f g ∧ same (SJ j) μ μ2) := by
  refine SpV.of okX2_prepare rfl [some (.ref j), some (.ref b), some (.int (nI f)), some (.int (nI g))] ⟨rfl, rfl, rfl, rfl, trivial⟩ (leb rfl) (leb rfl) (fun X hX hE hnm => ?_)
  refine w_aload_n (i := 0) hX dX2_prepare_0 rfl rfl ?_
  refine w_getI hX dX2_prepare_1 fo_RX2_28 rfl (jn_s hj.1) ?_
  refine w_iload_n (i := 2) hX dX2_prepare_4 rfl rfl ?_
  refine wc_icmp_ne (tgt := 17) hX dX2_prepare_5 (by decide) (fun c1 => ?_) (fun c1 => ?_)
  · refine w_aload_n (i := 0) hX dX2_prepare_17 rfl rfl ?_
    refine w_iload_n (i := 2) hX dX2_prepare_18 rfl rfl ?_
    refine w_putI hX dX2_prepare_19 fo_RX2_28 rfl rfl rfl rfl (jn_s hj.1) ?_
    refine w_aload_n (i := 0) hX dX2_prepare_22 rfl rfl ?_
    refine w_iload_n (i := 3) hX dX2_prepare_23 rfl rfl ?_
    refine w_putI hX dX2_prepare_24 fo_RX2_32 rfl rfl rfl rfl (jn_s hj.1) ?_
    have hja : isJn (sI (sI μ j 6 (nI f)) j 7 (nI g)) j := hj.1
    have hsa : same (SJ j) μ (sI (sI μ j 6 (nI f)) j 7 (nI g)) := (same.rf.sI (Or.inl ⟨rfl, by omega⟩)).sI (Or.inl ⟨rfl, by omega⟩)
    have hRa := Rb_same hsa (fun o k h => Or.inl (by unfold SJ at h; omega)) hR
    refine w_aload_n (i := 0) hX dX2_prepare_27 rfl rfl ?_
    refine w_aload_n (i := 1) hX dX2_prepare_28 rfl rfl ?_
    refine w_iload_n (i := 2) hX dX2_prepare_29 rfl rfl ?_
    refine w_iload_n (i := 3) hX dX2_prepare_30 rfl rfl ?_
    refine w_callVV (As := [.ref b, .int (nI f), .int (nI g)]) (rest := []) (ci := 2) (o := j) (k2 := 0) (n2 := 0) hX dX2_prepare_31 (s_j_gather Γ (sI (sI μ j 6 (nI f)) j 7 (nI g)) j hja b B hRa hW hjb f g hf hg) okX2_gather (ltb rfl) (jn_s hj.1) ml_RX2_35 imX2_gather seX2_gather rfl (leb rfl) (leb rfl) rfl rfl (fun ν0 hq9 => ?_)
    obtain ⟨he0, hs0⟩ := hq9
    have hj0 := hs0.isJn hja
    have hR0 := Rb_same hs0 (fun o k h => Or.inl (by omega)) hRa
    refine w_aload_n (i := 0) hX dX2_prepare_34 rfl rfl ?_
    refine w_aload_n (i := 1) hX dX2_prepare_35 rfl rfl ?_
    refine w_callVV (As := [.ref b]) (rest := []) (ci := 2) (o := j) (k2 := 0) (n2 := 0) hX dX2_prepare_36 (s_j_measure Γ ν0 j hj0 b B hR0 hW hjb (EV B f g) he0 (ok_EV hW.1)) okX2_measureChains (ltb rfl) (jn_s hj0) ml_RX2_39 imX2_measureChains seX2_measureChains rfl (leb rfl) (leb rfl) rfl rfl (fun ν1 hq9 => ?_)
    obtain ⟨hl1, hc1, hs1⟩ := hq9
    have hj1 := hs1.isJn hj0
    have hR1 := Rb_same hs1 (fun o k h => Or.inl (by omega)) hR0
    have he1 := evR_same he0 hs1 (by omega) (by omega) (by omega)
    refine w_aload_n (i := 0) hX dX2_prepare_39 rfl rfl ?_
    refine w_aload_n (i := 1) hX dX2_prepare_40 rfl rfl ?_
    refine w_callVV (As := [.ref b]) (rest := []) (ci := 2) (o := j) (k2 := 0) (n2 := 0) hX dX2_prepare_41 (s_j_layRow Γ ν1 j hj1 b B hR1 hW hjb (EV B f g) he1 (ok_EV hW.1) hl1 hc1) okX2_layRow (ltb rfl) (jn_s hj1) ml_RX2_43 imX2_layRow seX2_layRow rfl (leb rfl) (leb rfl) rfl rfl (fun ν2 hq9 => ?_)
    obtain ⟨hr2, hs2⟩ := hq9
    have hj2 := hs2.isJn hj1
    have f6 : gI ν2 j 6 = nI f := by rw [(hs2.2.2 _ _ (fun h => by omega)).1, (hs1.2.2 _ _ (fun h => by omega)).1, (hs0.2.2 _ _ (fun h => by omega)).1, gI_nk (by omega), gI_same]
    have f7 : gI ν2 j 7 = nI g := by rw [(hs2.2.2 _ _ (fun h => by omega)).1, (hs1.2.2 _ _ (fun h => by omega)).1, (hs0.2.2 _ _ (fun h => by omega)).1, gI_same]
    exact w_vret hX hE dX2_prepare_44 (Or.inl rfl) ⟨f6, f7, ⟨by rw [(hs2.2.2 _ _ (fun h => by omega)).1]; exact hl1, hr2, evR_same he1 hs2 (by omega) (by omega) (by omega)⟩, ((hsa.tr (hs0.up (fun o k h => by unfold SJ; omega))).tr (hs1.up (fun o k h => by unfold SJ; omega))).tr (hs2.up (fun o k h => by unfold SJ; omega))⟩
  · refine w_aload_n (i := 0) hX dX2_prepare_8 rfl rfl ?_
    refine w_getI hX dX2_prepare_9 fo_RX2_32 rfl (jn_s hj.1) ?_
    refine w_iload_n (i := 3) hX dX2_prepare_12 rfl rfl ?_
    refine wc_icmp_ne (tgt := 17) hX dX2_prepare_13 (by decide) (fun c2 => ?_) (fun c2 => ?_)
    · refine w_aload_n (i := 0) hX dX2_prepare_17 rfl rfl ?_
      refine w_iload_n (i := 2) hX dX2_prepare_18 rfl rfl ?_
      refine w_putI hX dX2_prepare_19 fo_RX2_28 rfl rfl rfl rfl (jn_s hj.1) ?_
      refine w_aload_n (i := 0) hX dX2_prepare_22 rfl rfl ?_
      refine w_iload_n (i := 3) hX dX2_prepare_23 rfl rfl ?_
      refine w_putI hX dX2_prepare_24 fo_RX2_32 rfl rfl rfl rfl (jn_s hj.1) ?_
      have hja : isJn (sI (sI μ j 6 (nI f)) j 7 (nI g)) j := hj.1
      have hsa : same (SJ j) μ (sI (sI μ j 6 (nI f)) j 7 (nI g)) := (same.rf.sI (Or.inl ⟨rfl, by omega⟩)).sI (Or.inl ⟨rfl, by omega⟩)
      have hRa := Rb_same hsa (fun o k h => Or.inl (by unfold SJ at h; omega)) hR
      refine w_aload_n (i := 0) hX dX2_prepare_27 rfl rfl ?_
      refine w_aload_n (i := 1) hX dX2_prepare_28 rfl rfl ?_
      refine w_iload_n (i := 2) hX dX2_prepare_29 rfl rfl ?_
      refine w_iload_n (i := 3) hX dX2_prepare_30 rfl rfl ?_
      refine w_callVV (As := [.ref b, .int (nI f), .int (nI g)]) (rest := []) (ci := 2) (o := j) (k2 := 0) (n2 := 0) hX dX2_prepare_31 (s_j_gather Γ (sI (sI μ j 6 (nI f)) j 7 (nI g)) j hja b B hRa hW hjb f g hf hg) okX2_gather (ltb rfl) (jn_s hj.1) ml_RX2_35 imX2_gather seX2_gather rfl (leb rfl) (leb rfl) rfl rfl (fun ν0 hq9 => ?_)
      obtain ⟨he0, hs0⟩ := hq9
      have hj0 := hs0.isJn hja
      have hR0 := Rb_same hs0 (fun o k h => Or.inl (by omega)) hRa
      refine w_aload_n (i := 0) hX dX2_prepare_34 rfl rfl ?_
      refine w_aload_n (i := 1) hX dX2_prepare_35 rfl rfl ?_
      refine w_callVV (As := [.ref b]) (rest := []) (ci := 2) (o := j) (k2 := 0) (n2 := 0) hX dX2_prepare_36 (s_j_measure Γ ν0 j hj0 b B hR0 hW hjb (EV B f g) he0 (ok_EV hW.1)) okX2_measureChains (ltb rfl) (jn_s hj0) ml_RX2_39 imX2_measureChains seX2_measureChains rfl (leb rfl) (leb rfl) rfl rfl (fun ν1 hq9 => ?_)
      obtain ⟨hl1, hc1, hs1⟩ := hq9
      have hj1 := hs1.isJn hj0
      have hR1 := Rb_same hs1 (fun o k h => Or.inl (by omega)) hR0
      have he1 := evR_same he0 hs1 (by omega) (by omega) (by omega)
      refine w_aload_n (i := 0) hX dX2_prepare_39 rfl rfl ?_
      refine w_aload_n (i := 1) hX dX2_prepare_40 rfl rfl ?_
      refine w_callVV (As := [.ref b]) (rest := []) (ci := 2) (o := j) (k2 := 0) (n2 := 0) hX dX2_prepare_41 (s_j_layRow Γ ν1 j hj1 b B hR1 hW hjb (EV B f g) he1 (ok_EV hW.1) hl1 hc1) okX2_layRow (ltb rfl) (jn_s hj1) ml_RX2_43 imX2_layRow seX2_layRow rfl (leb rfl) (leb rfl) rfl rfl (fun ν2 hq9 => ?_)
      obtain ⟨hr2, hs2⟩ := hq9
      have hj2 := hs2.isJn hj1
      have f6 : gI ν2 j 6 = nI f := by rw [(hs2.2.2 _ _ (fun h => by omega)).1, (hs1.2.2 _ _ (fun h => by omega)).1, (hs0.2.2 _ _ (fun h => by omega)).1, gI_nk (by omega), gI_same]
      have f7 : gI ν2 j 7 = nI g := by rw [(hs2.2.2 _ _ (fun h => by omega)).1, (hs1.2.2 _ _ (fun h => by omega)).1, (hs0.2.2 _ _ (fun h => by omega)).1, gI_same]
      exact w_vret hX hE dX2_prepare_44 (Or.inl rfl) ⟨f6, f7, ⟨by rw [(hs2.2.2 _ _ (fun h => by omega)).1]; exact hl1, hr2, evR_same he1 hs2 (by omega) (by omega) (by omega)⟩, ((hsa.tr (hs0.up (fun o k h => by unfold SJ; omega))).tr (hs1.up (fun o k h => by unfold SJ; omega))).tr (hs2.up (fun o k h => by unfold SJ; omega))⟩
    · exact w_vret hX hE dX2_prepare_16 (Or.inl rfl) ⟨by assumption, by assumption, hj.at hf hg (by assumption) (by assumption), same.rf⟩
set_option maxHeartbeats 1000000 in
theorem s_x_prepJ (Γ : Gm) (μ : Mem) (b c9 : Nat) (B : Nat → Nat) (hx : isX μ b c9) (hR : Rb μ b B) (hW : WB B) (hb25 : 25 ≤ b) (hj : JI μ 20 B) (f g : Int32) : SpI Γ MX8_prepareJourney 5 0 0 [.ref 0, .int f, .int g] μ (fun r μ2 => r = bI (areD B f g) ∧ JI μ2 20 B ∧ (areD B f g = true → jCon μ2 20 B (tN f) (tN g)) ∧ same (SJ 20) μ μ2) := by
  refine SpI.of okX8_prepareJourney rfl [some (.ref 0), some (.int f), some (.int g)] ⟨rfl, rfl, rfl, trivial⟩ (leb rfl) (leb rfl) (fun X hX hE hnm => ?_)
  refine w_aload_n (i := 0) hX dX8_prepareJourney_0 rfl rfl ?_
  refine w_getR (q := b) hX dX8_prepareJourney_1 fo_RX8_54 rfl hx.1 hx.2.2.2.2.2.2.2.1 ?_
  refine w_getI hX dX8_prepareJourney_4 fo_RX8_191 rfl (bk_s hR.1) ?_
  refine w_top (y := nI (B 0)) hR.2.1 ?_
  refine wn_if_eq (tgt := 30) hX dX8_prepareJourney_7 (by decide) (by have := hW.1.1; omega) (fun c1 => ?_) (fun c1 => ?_)
  · refine w_iconst hX dX8_prepareJourney_30 kI_0 ?_
    exact w_iret hX hE dX8_prepareJourney_31 (Or.inl rfl) rfl ⟨bI_2 (by unfold areD; first | (simp [hG]; done) | (simp [hF]; done) | (simp [*]; done) | (simp; omega)), hj, fun h9 => absurd h9 (by unfold areD; first | (simp [hG]; done) | (simp [hF]; done) | (simp [*]; done) | (simp; omega)), same.rf⟩
  · refine w_iload_n (i := 2) hX dX8_prepareJourney_10 rfl rfl ?_
    refine w_iconst hX dX8_prepareJourney_11 kI_0 ?_
    refine w_sipush hX dX8_prepareJourney_12 kS_3649 ?_
    refine w_callSI (As := [.int g, .int (nI 0), .int (nI 3649)]) (rest := []) (k2 := 0) (n2 := 0) hX dX8_prepareJourney_15 (s_within Γ μ g (nI 0) (nI 3649)) okX8_within ml_RX8_81 stX8_within rfl (leb rfl) (leb rfl) rfl rfl (fun r9 μ9 hq9 => ?_)
    obtain ⟨hr9, hm9⟩ := hq9; rw [hr9, hm9]; clear hr9 hm9 r9 μ9
    refine wb_eq (tgt := 30) hX dX8_prepareJourney_18 (by decide) (fun hG => ?_) (fun hG => ?_)
    · refine w_iconst hX dX8_prepareJourney_30 kI_0 ?_
      exact w_iret hX hE dX8_prepareJourney_31 (Or.inl rfl) rfl ⟨bI_2 (by unfold areD; first | (simp [hG]; done) | (simp [hF]; done) | (simp [*]; done) | (simp; omega)), hj, fun h9 => absurd h9 (by unfold areD; first | (simp [hG]; done) | (simp [hF]; done) | (simp [*]; done) | (simp; omega)), same.rf⟩
    · refine w_iload_n (i := 1) hX dX8_prepareJourney_21 rfl rfl ?_
      refine w_iconst hX dX8_prepareJourney_22 kI_0 ?_
      refine w_iload_n (i := 2) hX dX8_prepareJourney_23 rfl rfl ?_
      refine w_callSI (As := [.int f, .int (nI 0), .int g]) (rest := []) (k2 := 0) (n2 := 0) hX dX8_prepareJourney_24 (s_within Γ μ f (nI 0) g) okX8_within ml_RX8_81 stX8_within rfl (leb rfl) (leb rfl) rfl rfl (fun r9 μ9 hq9 => ?_)
      obtain ⟨hr9, hm9⟩ := hq9; rw [hr9, hm9]; clear hr9 hm9 r9 μ9
      refine wb_ne (tgt := 32) hX dX8_prepareJourney_27 (by decide) (fun hF => ?_) (fun hF => ?_)
      · have hA : areD B f g = true := by unfold areD; rw [hG, hF]; simp; omega
        have hn := areD_n hA
        refine w_aload_n (i := 0) hX dX8_prepareJourney_32 rfl rfl ?_
        refine w_getR (q := 20) hX dX8_prepareJourney_33 fo_RX8_47 rfl hx.1 hx.2.2.2.2.2.2.1 ?_
        refine w_aload_n (i := 0) hX dX8_prepareJourney_36 rfl rfl ?_
        refine w_getR (q := b) hX dX8_prepareJourney_37 fo_RX8_54 rfl hx.1 hx.2.2.2.2.2.2.2.1 ?_
        refine w_iload_n (i := 1) hX dX8_prepareJourney_40 rfl rfl ?_
        refine w_top (y := nI (tN f)) hn.1 ?_
        refine w_iload_n (i := 2) hX dX8_prepareJourney_41 rfl rfl ?_
        refine w_top (y := nI (tN g)) hn.2.1 ?_
        refine w_callVV (As := [.ref b, .int (nI (tN f)), .int (nI (tN g))]) (rest := []) (ci := 2) (o := 20) (k2 := 0) (n2 := 0) hX dX8_prepareJourney_42 (s_j_prepare Γ μ 20 b B hj hR hW (by omega) (tN f) (tN g) (by omega) (by omega)) okX2_prepare (ltb rfl) (jn_s hj.1) ml_RX8_228 imX2_prepare seX2_prepare rfl (leb rfl) (leb rfl) rfl rfl (fun νc hq9 => ?_)
        obtain ⟨f6, f7, hc, hs⟩ := hq9
        refine w_iconst hX dX8_prepareJourney_45 kI_1 ?_
        exact w_iret hX hE dX8_prepareJourney_46 (Or.inl rfl) rfl ⟨bI_1 hA, ⟨hs.isJn hj.1, Or.inr ⟨tN f, tN g, by omega, by omega, f6, f7, hc⟩⟩, fun _ => hc, hs⟩
      · refine w_iconst hX dX8_prepareJourney_30 kI_0 ?_
        exact w_iret hX hE dX8_prepareJourney_31 (Or.inl rfl) rfl ⟨bI_2 (by unfold areD; first | (simp [hG]; done) | (simp [hF]; done) | (simp [*]; done) | (simp; omega)), hj, fun h9 => absurd h9 (by unfold areD; first | (simp [hG]; done) | (simp [hF]; done) | (simp [*]; done) | (simp; omega)), same.rf⟩
set_option maxHeartbeats 1000000 in
theorem s_x_most (Γ : Gm) (μ : Mem) (b c9 : Nat) (B : Nat → Nat) (hx : isX μ b c9) (hR : Rb μ b B) (hW : WB B) (hb25 : 25 ≤ b) (hj : JI μ 20 B) (f g : Int32) : SpI Γ MX8_most 6 0 0 [.ref 0, .int f, .int g] μ (fun r μ2 => r = A_most B f g ∧ JI μ2 20 B ∧ same (SJ 20) μ μ2) := by
  refine SpI.of okX8_most rfl [some (.ref 0), some (.int f), some (.int g)] ⟨rfl, rfl, rfl, trivial⟩ (leb rfl) (leb rfl) (fun X hX hE hnm => ?_)
  refine w_aload_n (i := 0) hX dX8_most_0 rfl rfl ?_
  refine w_iload_n (i := 1) hX dX8_most_1 rfl rfl ?_
  refine w_iload_n (i := 2) hX dX8_most_2 rfl rfl ?_
  refine w_callVI (As := [.int f, .int g]) (rest := []) (ci := 8) (o := 0) (k2 := 0) (n2 := 0) hX dX8_most_3 (s_x_prepJ Γ μ b c9 B hx hR hW hb25 hj f g) okX8_prepareJourney (ltb rfl) hx.1 ml_RX8_179 imX8_prepareJourney seX8_prepareJourney rfl (leb rfl) (leb rfl) rfl rfl (fun r9 νc hq9 => ?_)
  obtain ⟨hr9, hjc, hcon, hs⟩ := hq9; rw [hr9]
  have hxc := hs.isX hx
  refine wb_eq (tgt := 19) hX dX8_most_6 (by decide) (fun hA => ?_) (fun hA => ?_)
  · refine w_iconst hX dX8_most_19 kI_m1 ?_
    exact w_iret hX hE dX8_most_20 (Or.inl rfl) rfl ⟨by unfold A_most; simp [hA], hjc, hs⟩
  · refine w_aload_n (i := 0) hX dX8_most_9 rfl rfl ?_
    refine w_getR (q := 20) hX dX8_most_10 fo_RX8_47 rfl hxc.1 hxc.2.2.2.2.2.2.1 ?_
    refine w_getI hX dX8_most_13 fo_RX8_183 rfl (jn_s hjc.1) ?_
    refine w_top (y := nI (jL B (tN f) (tN g))) (hcon hA).1 ?_
    refine w_goto (tgt := 20) hX dX8_most_16 (by decide) ?_
    exact w_iret hX hE dX8_most_20 (Or.inl rfl) rfl ⟨by unfold A_most; simp [hA], hjc, hs⟩
set_option maxHeartbeats 1000000 in
theorem s_x_goes (Γ : Gm) (μ : Mem) (b c9 : Nat) (B : Nat → Nat) (hx : isX μ b c9) (hR : Rb μ b B) (hW : WB B) (hb25 : 25 ≤ b) (hj : JI μ 20 B) (f g k w : Int32) : SpI Γ MX8_goes 6 0 0 [.ref 0, .int f, .int g, .int k, .int w] μ (fun r μ2 => r = A_goes B f g k w ∧ JI μ2 20 B ∧ same (SJ 20) μ μ2) := by
  refine SpI.of okX8_goes rfl [some (.ref 0), some (.int f), some (.int g), some (.int k), some (.int w), none] ⟨rfl, rfl, rfl, rfl, rfl, trivial⟩ (leb rfl) (leb rfl) (fun X hX hE hnm => ?_)
  refine w_aload_n (i := 0) hX dX8_goes_0 rfl rfl ?_
  refine w_iload_n (i := 1) hX dX8_goes_1 rfl rfl ?_
  refine w_iload_n (i := 2) hX dX8_goes_2 rfl rfl ?_
  refine w_callVI (As := [.int f, .int g]) (rest := []) (ci := 8) (o := 0) (k2 := 0) (n2 := 0) hX dX8_goes_3 (s_x_prepJ Γ μ b c9 B hx hR hW hb25 hj f g) okX8_prepareJourney (ltb rfl) hx.1 ml_RX8_179 imX8_prepareJourney seX8_prepareJourney rfl (leb rfl) (leb rfl) rfl rfl (fun r9 νc hq9 => ?_)
  obtain ⟨hr9, hjc, hcon, hs⟩ := hq9; rw [hr9]
  have hxc := hs.isX hx
  refine wb_eq (tgt := 36) hX dX8_goes_6 (by decide) (fun hA => ?_) (fun hA => ?_)
  · refine w_iconst hX dX8_goes_36 kI_m1 ?_
    exact w_iret hX hE dX8_goes_37 (Or.inl rfl) rfl ⟨by unfold A_goes; simp [*], hjc, hs⟩
  · refine w_iload_n (i := 3) hX dX8_goes_9 rfl rfl ?_
    refine w_iconst hX dX8_goes_10 kI_0 ?_
    refine w_aload_n (i := 0) hX dX8_goes_11 rfl rfl ?_
    refine w_getR (q := 20) hX dX8_goes_12 fo_RX8_47 rfl hxc.1 hxc.2.2.2.2.2.2.1 ?_
    refine w_getI hX dX8_goes_15 fo_RX8_183 rfl (jn_s hjc.1) ?_
    refine w_top (y := nI (jL B (tN f) (tN g))) (hcon hA).1 ?_
    refine w_iconst hX dX8_goes_18 kI_1 ?_
    refine w_isub hX dX8_goes_19 ?_
    refine w_callSI (As := [.int k, .int (nI 0), .int ((nI (jL B (tN f) (tN g))) - (nI 1))]) (rest := []) (k2 := 0) (n2 := 0) hX dX8_goes_20 (s_within Γ νc k (nI 0) (nI (jL B (tN f) (tN g)) - nI 1)) okX8_within ml_RX8_81 stX8_within rfl (leb rfl) (leb rfl) rfl rfl (fun r9 μ9 hq9 => ?_)
    obtain ⟨hr9, hm9⟩ := hq9; rw [hr9, hm9, inC_inR (by have := jL_le (B := B) (f := tN f) (g := tN g) hW.1; omega)]; clear hr9 hm9 r9 μ9
    refine wb_eq (tgt := 36) hX dX8_goes_23 (by decide) (fun hK => ?_) (fun hK => ?_)
    · refine w_iconst hX dX8_goes_36 kI_m1 ?_
      exact w_iret hX hE dX8_goes_37 (Or.inl rfl) rfl ⟨by unfold A_goes; simp [*], hjc, hs⟩
    · refine w_iload hX dX8_goes_26 rfl ?_
      refine w_iconst hX dX8_goes_28 kI_0 ?_
      refine w_iconst hX dX8_goes_29 kI_1 ?_
      refine w_callSI (As := [.int w, .int (nI 0), .int (nI 1)]) (rest := []) (k2 := 0) (n2 := 0) hX dX8_goes_30 (s_within Γ νc w (nI 0) (nI 1)) okX8_within ml_RX8_81 stX8_within rfl (leb rfl) (leb rfl) rfl rfl (fun r9 μ9 hq9 => ?_)
      obtain ⟨hr9, hm9⟩ := hq9; rw [hr9, hm9]; clear hr9 hm9 r9 μ9
      refine wb_ne (tgt := 38) hX dX8_goes_33 (by decide) (fun hV => ?_) (fun hV => ?_)
      · have hl := jL_le (B := B) (f := tN f) (g := tN g) hW.1
        have hk := inC_nI (by omega) hK
        have hr := jR_ok (B := B) (f := tN f) (g := tN g) hk.2
        have ho := (ok_EV (f := tN f) (g := tN g) hW.1).1
        refine w_aload_n (i := 0) hX dX8_goes_38 rfl rfl ?_
        refine w_getR (q := 20) hX dX8_goes_39 fo_RX8_47 rfl hxc.1 hxc.2.2.2.2.2.2.1 ?_
        refine w_getR (q := 20 + 4) hX dX8_goes_42 fo_RX8_184 rfl (jn_s hjc.1) (jn_r3 hjc.1) ?_
        refine w_iload_n (i := 3) hX dX8_goes_45 rfl rfl ?_
        refine w_top (y := nI (tN k)) hk.1 ?_
        refine w_ialdN hX dX8_goes_46 (jn_a4 hjc.1) (by omega) (by omega) ?_
        refine w_top (y := nI (jR B (tN f) (tN g) (tN k))) ((hcon hA).2.1 _ (by omega)) ?_
        refine w_istore (l2 := [some (.ref 0), some (.int f), some (.int g), some (.int k), some (.int w), some (.int (nI (jR B (tN f) (tN g) (tN k))))]) hX dX8_goes_47 (ltb rfl) rfl rfl ?_
        refine w_iload hX dX8_goes_49 rfl ?_
        refine wc_if_ne (tgt := 67) hX dX8_goes_51 (by decide) (fun c4 => ?_) (fun c4 => ?_)
        · refine w_aload_n (i := 0) hX dX8_goes_67 rfl rfl ?_
          refine w_getR (q := 20) hX dX8_goes_68 fo_RX8_47 rfl hxc.1 hxc.2.2.2.2.2.2.1 ?_
          refine w_getR (q := 20 + 1) hX dX8_goes_71 fo_RX8_188 rfl (jn_s hjc.1) (jn_r0 hjc.1) ?_
          refine w_iload hX dX8_goes_74 rfl ?_
          refine w_ialdN hX dX8_goes_76 (jn_a1 hjc.1) (by omega) (by omega) ?_
          refine w_top (y := nI ((EV B (tN f) (tN g)).2.1 (jR B (tN f) (tN g) (tN k)))) (((hcon hA).2.2.2 _ hr.1).1) ?_
          exact w_iret hX hE dX8_goes_77 (Or.inl rfl) rfl ⟨by unfold A_goes; rw [if_pos (by simp [hA, hK, hV]), if_neg (by assumption)], hjc, hs⟩
        · refine w_aload_n (i := 0) hX dX8_goes_54 rfl rfl ?_
          refine w_getR (q := 20) hX dX8_goes_55 fo_RX8_47 rfl hxc.1 hxc.2.2.2.2.2.2.1 ?_
          refine w_getR (q := 20 + 2) hX dX8_goes_58 fo_RX8_185 rfl (jn_s hjc.1) (jn_r1 hjc.1) ?_
          refine w_iload hX dX8_goes_61 rfl ?_
          refine w_ialdN hX dX8_goes_63 (jn_a2 hjc.1) (by omega) (by omega) ?_
          refine w_top (y := nI ((EV B (tN f) (tN g)).2.2 (jR B (tN f) (tN g) (tN k)))) (((hcon hA).2.2.2 _ hr.1).2) ?_
          refine w_goto (tgt := 77) hX dX8_goes_64 (by decide) ?_
          exact w_iret hX hE dX8_goes_77 (Or.inl rfl) rfl ⟨by unfold A_goes; rw [if_pos (by simp [hA, hK, hV]), if_pos (by assumption)], hjc, hs⟩
      · refine w_iconst hX dX8_goes_36 kI_m1 ?_
        exact w_iret hX hE dX8_goes_37 (Or.inl rfl) rfl ⟨by unfold A_goes; simp [*], hjc, hs⟩
