def skO (B : Nat → Nat) (d : Nat) : Option Nat := (fnd (mS B 0) d (nB B 0) 0).map (fun v => v - d * 1440)
theorem fnd_rng {B : Nat → Nat} {d v : Nat} (hW : WBt B) (h : fnd (mS B 0) d (nB B 0) 0 = some v) : d * 1440 + 60 ≤ v ∧ v ≤ d * 1440 + 1440 := by
  obtain ⟨j, h1, h2, h3, h4⟩ := fnd_some _ _ _ h
  have h5 := (hW.2 0 (by omega)).2.1 j (by omega)
  rw [h3] at h4
  unfold mS at h3
  omega
theorem skO_ok {B : Nat → Nat} {d : Nat} (hW : WBt B) : ∀ s, skO B d = some s → 60 ≤ s ∧ s ≤ 1440 := by
  intro s h
  unfold skO at h
  cases h9 : fnd (mS B 0) d (nB B 0) 0 with
  | none => rw [h9] at h; cases h
  | some v =>
    rw [h9] at h
    have := fnd_rng hW h9
    simp only [Option.map_some, Option.some.injEq] at h
    omega
def W0F (B : Nat → Nat) (d : Nat) : Wn := WnB B (b0F B d) none
def W1F (B : Nat → Nat) (d : Nat) : Wn := WnB B (b0F B d) (skO B d)
def bP (B : Nat → Nat) (d : Nat) : Nat := bsS B d (W1F B d) (2 ^ B 85)
def bQ (B : Nat → Nat) (d : Nat) : Nat := bsS B d (W0F B d) (2 ^ B 85)
def rwW (B : Nat → Nat) (d j : Nat) : Nat := gW (W1F B d) (B 85) (sqn (W1F B d) (B 85) j (bP B d) 0).1 (sqn (W1F B d) (B 85) j (bP B d) 0).2
def rwT (B : Nat → Nat) (d j : Nat) : Nat := gS (W1F B d) (B 85) (sqn (W1F B d) (B 85) j (bP B d) 0).1 (sqn (W1F B d) (B 85) j (bP B d) 0).2
theorem ok0F {B : Nat → Nat} {d : Nat} (hW : WB B) (hd : d ≤ 3649) : okWn (W0F B d) (B 85) := okWn_B hW (by have := b0F_le hW hd; omega) (fun s h => by cases h)
theorem ok1F {B : Nat → Nat} {d : Nat} (hW : WB B) (hd : d ≤ 3649) : okWn (W1F B d) (B 85) := okWn_B hW (by have := b0F_le hW hd; omega) (skO_ok hW.1)
theorem bP_ok {B : Nat → Nat} {d : Nat} : bP B d < 2 ^ B 85 ∧ tdB B d (bP B d) = true ∧ FF (W1F B d) (B 85) (bP B d) 0 = true := by
  have h1 : bP B d < 2 ^ B 85 := bsS_lt _ (Nat.two_pow_pos _)
  have h2 : feB B d (W1F B d) (bP B d) = true := bsS_fe _
  unfold feB at h2
  rw [Bool.and_eq_true] at h2
  exact ⟨h1, h2⟩
def plnC (μ : Mem) (p : Nat) (B : Nat → Nat) (d : Nat) : Prop := gI μ p 6 = nI (woS B (bP B d) (B 85)) ∧ gI μ p 7 = nI (woS B (bQ B d) (B 85)) ∧ gI μ p 8 = nI (bP B d) ∧ gI μ p 5 = nI (pcn (bP B d) 12) ∧ ∀ j, j < pcn (bP B d) 12 → gI μ (p + 4) j = nI (rwW B d j) ∧ gI μ (p + 5) j = nI (rwT B d j)
def PlI (μ : Mem) (p : Nat) (B : Nat → Nat) : Prop := isPl μ p ∧ (gI μ p 9 = (-1 : Int32) ∨ ∃ d, d ≤ 3649 ∧ gI μ p 9 = nI d ∧ plnC μ p B d)
def SPl (p : Nat) : Nat → Nat → Prop := fun o k => (o = p ∧ 5 ≤ k) ∨ (p < o ∧ o ≤ p + 5)
theorem sw4 (x : Int32) : x = nI 0 ∨ x = nI 1 ∨ x = nI 2 ∨ x = nI 3 ∨ (x.toInt < 0 ∨ 3 < x.toInt) := by
  by_cases h : x.toInt < 0 ∨ 3 < x.toInt
  · exact Or.inr (Or.inr (Or.inr (Or.inr h)))
  · have h1 : x.toInt = 0 ∨ x.toInt = 1 ∨ x.toInt = 2 ∨ x.toInt = 3 := by omega
    rcases h1 with h1 | h1 | h1 | h1
    · exact Or.inl (Int32.toInt_inj.mp h1)
    · exact Or.inr (Or.inl (Int32.toInt_inj.mp h1))
    · exact Or.inr (Or.inr (Or.inl (Int32.toInt_inj.mp h1)))
    · exact Or.inr (Or.inr (Or.inr (Or.inl (Int32.toInt_inj.mp h1))))
def hdB (B : Nat → Nat) (d : Int32) : Bool := decide (0 < B 0) && inR d (nI 0) (nI 3649)
def A_best (B : Nat → Nat) (d w : Int32) : Int32 := if hdB B d = true then (if w = nI 0 then nI (woS B (bP B (tN d)) (B 85)) else if w = nI 1 then nI (bP B (tN d)) else if w = nI 2 then nI (woS B (bP B (tN d)) (B 85)) - nI (woS B (bQ B (tN d)) (B 85)) else if w = nI 3 then nI (woS B (bQ B (tN d)) (B 85)) else -1) else -1
def A_order (B : Nat → Nat) (d i : Int32) : Int32 := if (hdB B d && inC i (pcn (bP B (tN d)) 12)) = true then nI (rwW B (tN d) (tN i)) else -1
def A_begins (B : Nat → Nat) (d i : Int32) : Int32 := if (hdB B d && inC i (pcn (bP B (tN d)) 12)) = true then nI (rwT B (tN d) (tN i)) else -1
set_option maxHeartbeats 1000000 in
theorem s_p_prepare (Γ : Gm) (μ : Mem) (p b d : Nat) (B : Nat → Nat) (hi : PlI μ p B) (hR : Rb μ b B) (hW : WB B) (hpb : p + 5 < b) (hd : d ≤ 3649) : SpV Γ MX3_prepare 4 0 0 [.ref p, .ref b, .int (nI d)] μ (fun μ2 => isPl μ2 p ∧ gI μ2 p 9 = nI d ∧ plnC μ2 p B d ∧ same (SPl p) μ μ2) := by
  refine SpV.of okX3_prepare rfl [some (.ref p), some (.ref b), some (.int (nI d)), none] ⟨rfl, rfl, rfl, trivial⟩ (leb rfl) (leb rfl) (fun X hX hE hnm => ?_)
  refine w_aload_n (i := 0) hX dX3_prepare_0 rfl rfl ?_
  refine w_getI hX dX3_prepare_1 fo_RX3_29 rfl (pl_s hi.1) ?_
  refine w_top (y := gI μ p 9) rfl ?_
  refine w_iload_n (i := 2) hX dX3_prepare_4 rfl rfl ?_
  refine wc_icmp_ne (tgt := 9) hX dX3_prepare_5 (by decide) (fun c1 => ?_) (fun c1 => ?_)
  · have hR0 := Rb_same (same.rf.sI rfl : same (fun o _ => o = p) μ (sI μ p 9 (nI d))) (fun o k h => Or.inl (by omega)) hR
    have hbp := bP_ok (B := B) (d := d)
    refine w_aload_n (i := 0) hX dX3_prepare_9 rfl rfl ?_
    refine w_iload_n (i := 2) hX dX3_prepare_10 rfl rfl ?_
    refine w_putI hX dX3_prepare_11 fo_RX3_29 rfl rfl rfl rfl (pl_s hi.1) ?_
    refine w_aload_n (i := 1) hX dX3_prepare_14 rfl rfl ?_
    refine w_getR (q := b + 1) hX dX3_prepare_15 fo_RX3_33 rfl (bk_s hR.1) (bk_r0 hR.1) ?_
    refine w_iconst hX dX3_prepare_18 kI_0 ?_
    refine w_aaldN (q := b + 10 + 2 * 0) hX dX3_prepare_19 (bk_a1 hR.1) (by omega) (by omega) (bk_c hR.1 (by omega)).1 ?_
    refine w_iload_n (i := 2) hX dX3_prepare_20 rfl rfl ?_
    refine w_callVI (As := [.int (nI d)]) (rest := []) (ci := 1) (o := b + 10 + 2 * 0) (k2 := 0) (n2 := 0) hX dX3_prepare_21 (s_strokeOn Γ (sI μ p 9 (nI d)) (mS B 0) (nB B 0) (b + 10 + 2 * 0) d (hR0.2.2.1 0 (by omega)) (by omega)) okX1_strokeOn (ltb rfl) (bk_c hR.1 (by omega)).2.1 ml_RX3_37 imX1_strokeOn seX1_strokeOn rfl (leb rfl) (leb rfl) rfl rfl (fun r9 μ9 hq9 => ?_)
    obtain ⟨hr9, hm9⟩ := hq9; rw [hr9, hm9]; clear hr9 hm9 r9 μ9
    refine w_istore_n (i := 3) (l2 := [some (.ref p), some (.ref b), some (.int (nI d)), some (.int (oI (fnd (mS B 0) d (nB B 0) 0)))]) hX dX3_prepare_24 rfl (ltb rfl) rfl rfl ?_
    refine w_aload_n (i := 0) hX dX3_prepare_25 rfl rfl ?_
    refine w_aload_n (i := 1) hX dX3_prepare_26 rfl rfl ?_
    refine w_iload_n (i := 2) hX dX3_prepare_27 rfl rfl ?_
    refine w_iconst hX dX3_prepare_28 kI_m1 ?_
    refine w_callVV (As := [.ref b, .int (nI d), .int ((-1 : Int32))]) (rest := []) (ci := 3) (o := p) (k2 := 0) (n2 := 0) hX dX3_prepare_29 (s_p_weigh Γ (sI μ p 9 (nI d)) p b d B hi.1 hR0 hW hpb hd none (fun s h => by cases h)) okX3_weigh (ltb rfl) (pl_s hi.1) ml_RX3_43 imX3_weigh seX3_weigh rfl (leb rfl) (leb rfl) rfl rfl (fun ν1 hq9 => ?_)
    obtain ⟨hwn1, hla1, hw1, hc1, hs1⟩ := hq9
    have hw1 : gI ν1 p 6 = nI (woS B (bQ B d) (B 85)) := hw1
    have hp1 := hs1.isPl (show isPl (sI μ p 9 (nI d)) p from hi.1)
    have hR1 := Rb_same hs1 (fun o k h => Or.inl (by unfold SPw at h; omega)) hR0
    refine w_aload_n (i := 0) hX dX3_prepare_32 rfl rfl ?_
    refine w_aload_n (i := 0) hX dX3_prepare_33 rfl rfl ?_
    refine w_getI hX dX3_prepare_34 fo_RX3_47 rfl (pl_s hp1) ?_
    refine w_top (y := nI (woS B (bQ B d) (B 85))) hw1 ?_
    refine w_putI hX dX3_prepare_37 fo_RX3_50 rfl rfl rfl rfl (pl_s hp1) ?_
    have hs7 : same (fun o k => o = p ∧ k = 7) ν1 (sI ν1 p 7 (nI (woS B (bQ B d) (B 85)))) := same.rf.sI ⟨rfl, rfl⟩
    have hR7 := Rb_same hs7 (fun o k h => Or.inl (by omega)) hR1
    refine w_iload_n (i := 3) hX dX3_prepare_40 rfl rfl ?_
    refine w_iconst hX dX3_prepare_41 kI_m1 ?_
    refine wc_icmp_eq (tgt := 58) hX dX3_prepare_42 (by decide) (fun c2 => ?_) (fun c2 => ?_)
    · have hn9 : fnd (mS B 0) d (nB B 0) 0 = none := (oI_m1 (fun v h => fnd_day hW.1 (by omega) h)).mp c2
      have he01 : W1F B d = W0F B d := by unfold W1F W0F skO; rw [hn9]; rfl
      refine w_aload_n (i := 0) hX dX3_prepare_58 rfl rfl ?_
      refine w_aload_n (i := 1) hX dX3_prepare_59 rfl rfl ?_
      refine w_callVV (As := [.ref b]) (rest := []) (ci := 3) (o := p) (k2 := 0) (n2 := 0) hX dX3_prepare_60 (s_p_layRow Γ (sI ν1 p 7 (nI (woS B (bQ B d) (B 85)))) p b d B hp1 hR7 hW hpb (W1F B d) (ok1F hW hd) (fun w _ => rfl) (by rw [he01]; exact fun w h1 h2 => wnM_same (hwn1 w h1 h2) hs7 (fun k h9 => by omega)) (by rw [he01]; exact fun T hT h9 => by obtain ⟨z, g1, g2⟩ := hla1 T hT h9; exact ⟨z, by rw [gI_no (by omega)]; exact g1, g2⟩) (bP B d) (by rw [gI_nk (by omega), show bP B d = bQ B d by unfold bP bQ; rw [he01]]; exact hc1) hbp.1 hbp.2.1 hbp.2.2) okX3_layRow (ltb rfl) (pl_s hp1) ml_RX3_53 imX3_layRow seX3_layRow rfl (leb rfl) (leb rfl) rfl rfl (fun ν3 hq9 => ?_)
      obtain ⟨hl3, hr3, hs3⟩ := hq9
      refine w_vret hX hE dX3_prepare_63 (Or.inl rfl) ⟨hs3.isPl (show isPl (sI ν1 p 7 (nI (woS B (bQ B d) (B 85)))) p from hp1), ?_, ⟨?_, ?_, ?_, hl3, hr3⟩, ?_⟩
      · rw [(hs3.2.2 _ _ (fun h => by omega)).1, gI_nk (by omega), (hs1.2.2 _ _ (fun h => by unfold SPw at h; omega)).1, gI_same]
      · rw [(hs3.2.2 _ _ (fun h => by omega)).1, gI_nk (by omega), show bP B d = bQ B d by unfold bP bQ; rw [he01]]; exact hw1
      · rw [(hs3.2.2 _ _ (fun h => by omega)).1, gI_same]
      · rw [(hs3.2.2 _ _ (fun h => by omega)).1, gI_nk (by omega), show bP B d = bQ B d by unfold bP bQ; rw [he01]]; exact hc1
      · exact ((((same.rf.sI (Or.inl ⟨rfl, by omega⟩)).tr (hs1.up (fun o k h => by unfold SPw at h; unfold SPl; omega))).tr (hs7.up (fun o k h => by unfold SPl; omega)))).tr (hs3.up (fun o k h => by unfold SPl; omega))
    · obtain ⟨v9, hv9⟩ : ∃ v, fnd (mS B 0) d (nB B 0) 0 = some v := by cases h9 : fnd (mS B 0) d (nB B 0) 0 with | none => rw [h9] at c2; exact absurd rfl c2 | some v => exact ⟨v, rfl⟩
      have hvr := fnd_rng hW.1 hv9
      have hsk : skO B d = some (v9 - d * 1440) := by unfold skO; rw [hv9]; rfl
      refine w_locs (ls2 := [some (.ref p), some (.ref b), some (.int (nI d)), some (.int (nI v9))]) (by rw [hv9]; rfl) ?_
      refine w_aload_n (i := 0) hX dX3_prepare_45 rfl rfl ?_
      refine w_aload_n (i := 1) hX dX3_prepare_46 rfl rfl ?_
      refine w_iload_n (i := 2) hX dX3_prepare_47 rfl rfl ?_
      refine w_iload_n (i := 3) hX dX3_prepare_48 rfl rfl ?_
      refine w_iload_n (i := 2) hX dX3_prepare_49 rfl rfl ?_
      refine w_sipush hX dX3_prepare_50 kS_1440 ?_
      refine w_imulN hX dX3_prepare_53 ?_
      refine w_isubN hX dX3_prepare_54 (by omega) ?_
      refine w_callVV (As := [.ref b, .int (nI d), .int (nI (v9 - (d * 1440)))]) (rest := []) (ci := 3) (o := p) (k2 := 0) (n2 := 0) hX dX3_prepare_55 (s_p_weigh Γ (sI ν1 p 7 (nI (woS B (bQ B d) (B 85)))) p b d B hp1 hR7 hW hpb hd (some (v9 - d * 1440)) (fun s h => by cases h; omega)) okX3_weigh (ltb rfl) (pl_s hp1) ml_RX3_43 imX3_weigh seX3_weigh rfl (leb rfl) (leb rfl) rfl rfl (fun ν2 hq9 => ?_)
      rw [← hsk] at hq9
      obtain ⟨hwn2, hla2, hw2, hc2, hs2⟩ := hq9
      have hp2 := hs2.isPl (show isPl (sI ν1 p 7 (nI (woS B (bQ B d) (B 85)))) p from hp1)
      have hR2 := Rb_same hs2 (fun o k h => Or.inl (by unfold SPw at h; omega)) hR7
      refine w_aload_n (i := 0) hX dX3_prepare_58 rfl rfl ?_
      refine w_aload_n (i := 1) hX dX3_prepare_59 rfl rfl ?_
      refine w_callVV (As := [.ref b]) (rest := []) (ci := 3) (o := p) (k2 := 0) (n2 := 0) hX dX3_prepare_60 (s_p_layRow Γ ν2 p b d B hp2 hR2 hW hpb (W1F B d) (ok1F hW hd) (fun w _ => rfl) hwn2 hla2 (bP B d) hc2 hbp.1 hbp.2.1 hbp.2.2) okX3_layRow (ltb rfl) (pl_s hp2) ml_RX3_53 imX3_layRow seX3_layRow rfl (leb rfl) (leb rfl) rfl rfl (fun ν3 hq9 => ?_)
      obtain ⟨hl3, hr3, hs3⟩ := hq9
      refine w_vret hX hE dX3_prepare_63 (Or.inl rfl) ⟨hs3.isPl hp2, ?_, ⟨?_, ?_, ?_, hl3, hr3⟩, ?_⟩
      · rw [(hs3.2.2 _ _ (fun h => by omega)).1, (hs2.2.2 _ _ (fun h => by unfold SPw at h; omega)).1, gI_nk (by omega), (hs1.2.2 _ _ (fun h => by unfold SPw at h; omega)).1, gI_same]
      · rw [(hs3.2.2 _ _ (fun h => by omega)).1]; exact hw2
      · rw [(hs3.2.2 _ _ (fun h => by omega)).1, (hs2.2.2 _ _ (fun h => by unfold SPw at h; omega)).1, gI_same]
      · rw [(hs3.2.2 _ _ (fun h => by omega)).1]; exact hc2
      · exact ((((same.rf.sI (Or.inl ⟨rfl, by omega⟩)).tr (hs1.up (fun o k h => by unfold SPw at h; unfold SPl; omega))).tr (hs7.up (fun o k h => by unfold SPl; omega))).tr (hs2.up (fun o k h => by unfold SPw at h; unfold SPl; omega))).tr (hs3.up (fun o k h => by unfold SPl; omega))
  · rcases hi.2 with h9 | ⟨d9, h8, h7, h6⟩
    · rw [h9] at c1; exact absurd c1.symm (nI_m1 (by omega))
    · rw [h7] at c1; have e9 := (nI_eq (by omega) (by omega)).mp c1; subst e9; exact w_vret hX hE dX3_prepare_8 (Or.inl rfl) ⟨hi.1, h7, h6, same.rf⟩
set_option maxHeartbeats 1000000 in
theorem s_x_prepP (Γ : Gm) (μ : Mem) (b c9 : Nat) (B : Nat → Nat) (hx : isX μ b c9) (hR : Rb μ b B) (hW : WB B) (hb25 : 25 ≤ b) (hi : PlI μ 12 B) (d : Int32) : SpI Γ MX8_preparePlan 5 0 0 [.ref 0, .int d] μ (fun r μ2 => r = bI (hdB B d) ∧ PlI μ2 12 B ∧ (hdB B d = true → plnC μ2 12 B (tN d)) ∧ same (SPl 12) μ μ2) := by
  refine SpI.of okX8_preparePlan rfl [some (.ref 0), some (.int d)] ⟨rfl, rfl, trivial⟩ (leb rfl) (leb rfl) (fun X hX hE hnm => ?_)
  refine w_aload_n (i := 0) hX dX8_preparePlan_0 rfl rfl ?_
  refine w_getR (q := b) hX dX8_preparePlan_1 fo_RX8_54 rfl hx.1 hx.2.2.2.2.2.2.2.1 ?_
  refine w_getI hX dX8_preparePlan_4 fo_RX8_191 rfl (bk_s hR.1) ?_
  refine w_top (y := nI (B 0)) hR.2.1 ?_
  refine wn_if_eq (tgt := 21) hX dX8_preparePlan_7 (by decide) (by have := hW.1.1; omega) (fun c1 => ?_) (fun c1 => ?_)
  · refine w_iconst hX dX8_preparePlan_21 kI_0 ?_
    exact w_iret hX hE dX8_preparePlan_22 (Or.inl rfl) rfl ⟨bI_2 (by unfold hdB; rw [decide_eq_false (by omega), Bool.false_and]), hi, fun h9 => absurd h9 (by unfold hdB; rw [decide_eq_false (by omega), Bool.false_and]; decide), same.rf⟩
  · refine w_iload_n (i := 1) hX dX8_preparePlan_10 rfl rfl ?_
    refine w_iconst hX dX8_preparePlan_11 kI_0 ?_
    refine w_sipush hX dX8_preparePlan_12 kS_3649 ?_
    refine w_callSI (As := [.int d, .int (nI 0), .int (nI 3649)]) (rest := []) (k2 := 0) (n2 := 0) hX dX8_preparePlan_15 (s_within Γ μ d (nI 0) (nI 3649)) okX8_within ml_RX8_81 stX8_within rfl (leb rfl) (leb rfl) rfl rfl (fun r9 μ9 hq9 => ?_)
    obtain ⟨hr9, hm9⟩ := hq9; rw [hr9, hm9]; clear hr9 hm9 r9 μ9
    refine wb_ne (tgt := 23) hX dX8_preparePlan_18 (by decide) (fun hD => ?_) (fun hD => ?_)
    · have hd9 := inR_nI (by omega) hD
      refine w_aload_n (i := 0) hX dX8_preparePlan_23 rfl rfl ?_
      refine w_getR (q := 12) hX dX8_preparePlan_24 fo_RX8_33 rfl hx.1 hx.2.2.2.2.1 ?_
      refine w_aload_n (i := 0) hX dX8_preparePlan_27 rfl rfl ?_
      refine w_getR (q := b) hX dX8_preparePlan_28 fo_RX8_54 rfl hx.1 hx.2.2.2.2.2.2.2.1 ?_
      refine w_iload_n (i := 1) hX dX8_preparePlan_31 rfl rfl ?_
      refine w_top (y := nI (tN d)) hd9.1 ?_
      refine w_callVV (As := [.ref b, .int (nI (tN d))]) (rest := []) (ci := 3) (o := 12) (k2 := 0) (n2 := 0) hX dX8_preparePlan_32 (s_p_prepare Γ μ 12 b (tN d) B hi hR hW (by omega) hd9.2) okX3_prepare (ltb rfl) (pl_s hi.1) ml_RX8_225 imX3_prepare seX3_prepare rfl (leb rfl) (leb rfl) rfl rfl (fun νc hq9 => ?_)
      obtain ⟨hp1, hp9, hpl, hs⟩ := hq9
      have hxc := hs.isX hx
      refine w_iconst hX dX8_preparePlan_35 kI_1 ?_
      exact w_iret hX hE dX8_preparePlan_36 (Or.inl rfl) rfl ⟨bI_1 (by unfold hdB; rw [hD, decide_eq_true (by omega)]; rfl), ⟨hp1, Or.inr ⟨tN d, hd9.2, hp9, hpl⟩⟩, fun _ => hpl, hs⟩
    · refine w_iconst hX dX8_preparePlan_21 kI_0 ?_
      exact w_iret hX hE dX8_preparePlan_22 (Or.inl rfl) rfl ⟨bI_2 (by unfold hdB; rw [hD, Bool.and_false]), hi, fun h9 => absurd h9 (by unfold hdB; rw [hD, Bool.and_false]; decide), same.rf⟩
set_option maxHeartbeats 1000000 in
theorem s_x_best (Γ : Gm) (μ : Mem) (b c9 : Nat) (B : Nat → Nat) (hx : isX μ b c9) (hR : Rb μ b B) (hW : WB B) (hb25 : 25 ≤ b) (hi : PlI μ 12 B) (d w : Int32) : SpI Γ MX8_best 6 0 0 [.ref 0, .int d, .int w] μ (fun r μ2 => r = A_best B d w ∧ PlI μ2 12 B ∧ same (SPl 12) μ μ2) := by
  refine SpI.of okX8_best rfl [some (.ref 0), some (.int d), some (.int w)] ⟨rfl, rfl, rfl, trivial⟩ (leb rfl) (leb rfl) (fun X hX hE hnm => ?_)
  refine w_aload_n (i := 0) hX dX8_best_0 rfl rfl ?_
  refine w_iload_n (i := 1) hX dX8_best_1 rfl rfl ?_
  refine w_callVI (As := [.int d]) (rest := []) (ci := 8) (o := 0) (k2 := 0) (n2 := 0) hX dX8_best_2 (s_x_prepP Γ μ b c9 B hx hR hW hb25 hi d) okX8_preparePlan (ltb rfl) hx.1 ml_RX8_147 imX8_preparePlan seX8_preparePlan rfl (leb rfl) (leb rfl) rfl rfl (fun r9 νc hq9 => ?_)
  obtain ⟨hr9, hpc, hpl, hs⟩ := hq9; rw [hr9]
  have hxc := hs.isX hx
  refine wb_ne (tgt := 10) hX dX8_best_5 (by decide) (fun hH => ?_) (fun hH => ?_)
  · refine w_iload_n (i := 2) hX dX8_best_10 rfl rfl ?_
    rcases sw4 w with c2 | c2 | c2 | c2 | c2
    · refine w_tableIn (tgt := 40) hX dX8_best_11 (by rw [c2]; decide) (by rw [c2]; decide) (by rw [c2]; rfl) (by decide) ?_
      refine w_aload_n (i := 0) hX dX8_best_40 rfl rfl ?_
      refine w_getR (q := 12) hX dX8_best_41 fo_RX8_33 rfl hxc.1 hxc.2.2.2.2.1 ?_
      refine w_getI hX dX8_best_44 fo_RX8_150 rfl (pl_s hpc.1) ?_
      refine w_top (y := nI (woS B (bP B (tN d)) (B 85))) (hpl hH).1 ?_
      exact w_iret hX hE dX8_best_47 (Or.inl rfl) rfl ⟨by unfold A_best; rw [if_pos hH, if_pos c2], hpc, hs⟩
    · refine w_tableIn (tgt := 48) hX dX8_best_11 (by rw [c2]; decide) (by rw [c2]; decide) (by rw [c2]; rfl) (by decide) ?_
      refine w_aload_n (i := 0) hX dX8_best_48 rfl rfl ?_
      refine w_getR (q := 12) hX dX8_best_49 fo_RX8_33 rfl hxc.1 hxc.2.2.2.2.1 ?_
      refine w_getI hX dX8_best_52 fo_RX8_153 rfl (pl_s hpc.1) ?_
      refine w_top (y := nI (bP B (tN d))) (hpl hH).2.2.1 ?_
      exact w_iret hX hE dX8_best_55 (Or.inl rfl) rfl ⟨by unfold A_best; rw [if_pos hH, if_neg (by rw [c2]; decide), if_pos c2], hpc, hs⟩
    · refine w_tableIn (tgt := 56) hX dX8_best_11 (by rw [c2]; decide) (by rw [c2]; decide) (by rw [c2]; rfl) (by decide) ?_
      refine w_aload_n (i := 0) hX dX8_best_56 rfl rfl ?_
      refine w_getR (q := 12) hX dX8_best_57 fo_RX8_33 rfl hxc.1 hxc.2.2.2.2.1 ?_
      refine w_getI hX dX8_best_60 fo_RX8_150 rfl (pl_s hpc.1) ?_
      refine w_top (y := nI (woS B (bP B (tN d)) (B 85))) (hpl hH).1 ?_
      refine w_aload_n (i := 0) hX dX8_best_63 rfl rfl ?_
      refine w_getR (q := 12) hX dX8_best_64 fo_RX8_33 rfl hxc.1 hxc.2.2.2.2.1 ?_
      refine w_getI hX dX8_best_67 fo_RX8_156 rfl (pl_s hpc.1) ?_
      refine w_top (y := nI (woS B (bQ B (tN d)) (B 85))) (hpl hH).2.1 ?_
      refine w_isub hX dX8_best_70 ?_
      exact w_iret hX hE dX8_best_71 (Or.inl rfl) rfl ⟨by unfold A_best; rw [if_pos hH, if_neg (by rw [c2]; decide), if_neg (by rw [c2]; decide), if_pos c2], hpc, hs⟩
    · refine w_tableIn (tgt := 72) hX dX8_best_11 (by rw [c2]; decide) (by rw [c2]; decide) (by rw [c2]; rfl) (by decide) ?_
      refine w_aload_n (i := 0) hX dX8_best_72 rfl rfl ?_
      refine w_getR (q := 12) hX dX8_best_73 fo_RX8_33 rfl hxc.1 hxc.2.2.2.2.1 ?_
      refine w_getI hX dX8_best_76 fo_RX8_156 rfl (pl_s hpc.1) ?_
      refine w_top (y := nI (woS B (bQ B (tN d)) (B 85))) (hpl hH).2.1 ?_
      exact w_iret hX hE dX8_best_79 (Or.inl rfl) rfl ⟨by unfold A_best; rw [if_pos hH, if_neg (by rw [c2]; decide), if_neg (by rw [c2]; decide), if_neg (by rw [c2]; decide), if_pos c2], hpc, hs⟩
    · refine w_tableOut (tgt := 80) hX dX8_best_11 c2 (by decide) ?_
      refine w_iconst hX dX8_best_80 kI_m1 ?_
      exact w_iret hX hE dX8_best_81 (Or.inl rfl) rfl ⟨by unfold A_best; rw [if_pos hH, if_neg (fun e => by rw [e] at c2; revert c2; decide), if_neg (fun e => by rw [e] at c2; revert c2; decide), if_neg (fun e => by rw [e] at c2; revert c2; decide), if_neg (fun e => by rw [e] at c2; revert c2; decide)], hpc, hs⟩
  · refine w_iconst hX dX8_best_8 kI_m1 ?_
    exact w_iret hX hE dX8_best_9 (Or.inl rfl) rfl ⟨by unfold A_best; rw [if_neg (by rw [hH]; decide)], hpc, hs⟩
set_option maxHeartbeats 1000000 in
theorem s_x_order (Γ : Gm) (μ : Mem) (b c9 : Nat) (B : Nat → Nat) (hx : isX μ b c9) (hR : Rb μ b B) (hW : WB B) (hb25 : 25 ≤ b) (hi : PlI μ 12 B) (d i : Int32) : SpI Γ MX8_order 6 0 0 [.ref 0, .int d, .int i] μ (fun r μ2 => r = A_order B d i ∧ PlI μ2 12 B ∧ same (SPl 12) μ μ2) := by
  refine SpI.of okX8_order rfl [some (.ref 0), some (.int d), some (.int i)] ⟨rfl, rfl, rfl, trivial⟩ (leb rfl) (leb rfl) (fun X hX hE hnm => ?_)
  refine w_aload_n (i := 0) hX dX8_order_0 rfl rfl ?_
  refine w_iload_n (i := 1) hX dX8_order_1 rfl rfl ?_
  refine w_callVI (As := [.int d]) (rest := []) (ci := 8) (o := 0) (k2 := 0) (n2 := 0) hX dX8_order_2 (s_x_prepP Γ μ b c9 B hx hR hW hb25 hi d) okX8_preparePlan (ltb rfl) hx.1 ml_RX8_147 imX8_preparePlan seX8_preparePlan rfl (leb rfl) (leb rfl) rfl rfl (fun r9 νc hq9 => ?_)
  obtain ⟨hr9, hpc, hpl, hs⟩ := hq9; rw [hr9]
  have hxc := hs.isX hx
  refine wb_eq (tgt := 37) hX dX8_order_5 (by decide) (fun hH => ?_) (fun hH => ?_)
  · refine w_iconst hX dX8_order_37 kI_m1 ?_
    exact w_iret hX hE dX8_order_38 (Or.inl rfl) rfl ⟨by unfold A_order; rw [hH, Bool.false_and]; rfl, hpc, hs⟩
  · have hpc8 := pcn8 hW.2.2.1.1 (bP_ok (B := B) (d := tN d)).1
    refine w_iload_n (i := 2) hX dX8_order_8 rfl rfl ?_
    refine w_iconst hX dX8_order_9 kI_0 ?_
    refine w_aload_n (i := 0) hX dX8_order_10 rfl rfl ?_
    refine w_getR (q := 12) hX dX8_order_11 fo_RX8_33 rfl hxc.1 hxc.2.2.2.2.1 ?_
    refine w_getI hX dX8_order_14 fo_RX8_159 rfl (pl_s hpc.1) ?_
    refine w_top (y := nI (pcn (bP B (tN d)) 12)) (hpl hH).2.2.2.1 ?_
    refine w_iconst hX dX8_order_17 kI_1 ?_
    refine w_isub hX dX8_order_18 ?_
    refine w_callSI (As := [.int i, .int (nI 0), .int ((nI (pcn (bP B (tN d)) 12)) - (nI 1))]) (rest := []) (k2 := 0) (n2 := 0) hX dX8_order_19 (s_within Γ νc i (nI 0) (nI (pcn (bP B (tN d)) 12) - nI 1)) okX8_within ml_RX8_81 stX8_within rfl (leb rfl) (leb rfl) rfl rfl (fun r9 μ9 hq9 => ?_)
    obtain ⟨hr9, hm9⟩ := hq9; rw [hr9, hm9, inC_inR (by omega)]; clear hr9 hm9 r9 μ9
    refine wb_eq (tgt := 37) hX dX8_order_22 (by decide) (fun hI => ?_) (fun hI => ?_)
    · refine w_iconst hX dX8_order_37 kI_m1 ?_
      exact w_iret hX hE dX8_order_38 (Or.inl rfl) rfl ⟨by unfold A_order; rw [hI, Bool.and_false]; rfl, hpc, hs⟩
    · have hi9 := inC_nI (by omega) hI
      refine w_aload_n (i := 0) hX dX8_order_25 rfl rfl ?_
      refine w_getR (q := 12) hX dX8_order_26 fo_RX8_33 rfl hxc.1 hxc.2.2.2.2.1 ?_
      refine w_getR (q := 12 + 4) hX dX8_order_29 fo_RX8_160 rfl (pl_s hpc.1) (pl_r3 hpc.1) ?_
      refine w_iload_n (i := 2) hX dX8_order_32 rfl rfl ?_
      refine w_top (y := nI (tN i)) hi9.1 ?_
      refine w_ialdN hX dX8_order_33 (pl_a4 hpc.1) (by omega) (by omega) ?_
      refine w_top (y := nI (rwW B (tN d) (tN i))) ((hpl hH).2.2.2.2 _ hi9.2).1 ?_
      refine w_goto (tgt := 38) hX dX8_order_34 (by decide) ?_
      exact w_iret hX hE dX8_order_38 (Or.inl rfl) rfl ⟨by unfold A_order; rw [if_pos (by rw [hH, hI]; rfl)], hpc, hs⟩
set_option maxHeartbeats 1000000 in
theorem s_x_begins (Γ : Gm) (μ : Mem) (b c9 : Nat) (B : Nat → Nat) (hx : isX μ b c9) (hR : Rb μ b B) (hW : WB B) (hb25 : 25 ≤ b) (hi : PlI μ 12 B) (d i : Int32) : SpI Γ MX8_begins 6 0 0 [.ref 0, .int d, .int i] μ (fun r μ2 => r = A_begins B d i ∧ PlI μ2 12 B ∧ same (SPl 12) μ μ2) := by
  refine SpI.of okX8_begins rfl [some (.ref 0), some (.int d), some (.int i)] ⟨rfl, rfl, rfl, trivial⟩ (leb rfl) (leb rfl) (fun X hX hE hnm => ?_)
  refine w_aload_n (i := 0) hX dX8_begins_0 rfl rfl ?_
  refine w_iload_n (i := 1) hX dX8_begins_1 rfl rfl ?_
  refine w_callVI (As := [.int d]) (rest := []) (ci := 8) (o := 0) (k2 := 0) (n2 := 0) hX dX8_begins_2 (s_x_prepP Γ μ b c9 B hx hR hW hb25 hi d) okX8_preparePlan (ltb rfl) hx.1 ml_RX8_147 imX8_preparePlan seX8_preparePlan rfl (leb rfl) (leb rfl) rfl rfl (fun r9 νc hq9 => ?_)
  obtain ⟨hr9, hpc, hpl, hs⟩ := hq9; rw [hr9]
  have hxc := hs.isX hx
  refine wb_eq (tgt := 37) hX dX8_begins_5 (by decide) (fun hH => ?_) (fun hH => ?_)
  · refine w_iconst hX dX8_begins_37 kI_m1 ?_
    exact w_iret hX hE dX8_begins_38 (Or.inl rfl) rfl ⟨by unfold A_begins; rw [hH, Bool.false_and]; rfl, hpc, hs⟩
  · have hpc8 := pcn8 hW.2.2.1.1 (bP_ok (B := B) (d := tN d)).1
    refine w_iload_n (i := 2) hX dX8_begins_8 rfl rfl ?_
    refine w_iconst hX dX8_begins_9 kI_0 ?_
    refine w_aload_n (i := 0) hX dX8_begins_10 rfl rfl ?_
    refine w_getR (q := 12) hX dX8_begins_11 fo_RX8_33 rfl hxc.1 hxc.2.2.2.2.1 ?_
    refine w_getI hX dX8_begins_14 fo_RX8_159 rfl (pl_s hpc.1) ?_
    refine w_top (y := nI (pcn (bP B (tN d)) 12)) (hpl hH).2.2.2.1 ?_
    refine w_iconst hX dX8_begins_17 kI_1 ?_
    refine w_isub hX dX8_begins_18 ?_
    refine w_callSI (As := [.int i, .int (nI 0), .int ((nI (pcn (bP B (tN d)) 12)) - (nI 1))]) (rest := []) (k2 := 0) (n2 := 0) hX dX8_begins_19 (s_within Γ νc i (nI 0) (nI (pcn (bP B (tN d)) 12) - nI 1)) okX8_within ml_RX8_81 stX8_within rfl (leb rfl) (leb rfl) rfl rfl (fun r9 μ9 hq9 => ?_)
    obtain ⟨hr9, hm9⟩ := hq9; rw [hr9, hm9, inC_inR (by omega)]; clear hr9 hm9 r9 μ9
    refine wb_eq (tgt := 37) hX dX8_begins_22 (by decide) (fun hI => ?_) (fun hI => ?_)
    · refine w_iconst hX dX8_begins_37 kI_m1 ?_
      exact w_iret hX hE dX8_begins_38 (Or.inl rfl) rfl ⟨by unfold A_begins; rw [hI, Bool.and_false]; rfl, hpc, hs⟩
    · have hi9 := inC_nI (by omega) hI
      refine w_aload_n (i := 0) hX dX8_begins_25 rfl rfl ?_
      refine w_getR (q := 12) hX dX8_begins_26 fo_RX8_33 rfl hxc.1 hxc.2.2.2.2.1 ?_
      refine w_getR (q := 12 + 5) hX dX8_begins_29 fo_RX8_163 rfl (pl_s hpc.1) (pl_r4 hpc.1) ?_
      refine w_iload_n (i := 2) hX dX8_begins_32 rfl rfl ?_
      refine w_top (y := nI (tN i)) hi9.1 ?_
      refine w_ialdN hX dX8_begins_33 (pl_a5 hpc.1) (by omega) (by omega) ?_
      refine w_top (y := nI (rwT B (tN d) (tN i))) ((hpl hH).2.2.2.2 _ hi9.2).2 ?_
      refine w_goto (tgt := 38) hX dX8_begins_34 (by decide) ?_
      exact w_iret hX hE dX8_begins_38 (Or.inl rfl) rfl ⟨by unfold A_begins; rw [if_pos (by rw [hH, hI]; rfl)], hpc, hs⟩
