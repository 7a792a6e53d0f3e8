theorem pmx_nI {a b : Nat} (ha : a < 2 ^ 31) (hb : b < 2 ^ 31) : (if nI a < nI b then nI b else nI a) = nI (max a b) := by
  by_cases h : a < b
  · rw [if_pos ((nI_ltI ha hb).mpr h)]; congr 1; omega
  · rw [if_neg (fun h9 => h ((nI_ltI ha hb).mp h9))]; congr 1; omega
theorem pmn_nI {a b : Nat} (ha : a < 2 ^ 31) (hb : b < 2 ^ 31) : (if nI b < nI a then nI b else nI a) = nI (min a b) := by
  by_cases h : b < a
  · rw [if_pos ((nI_ltI hb ha).mpr h)]; congr 1; omega
  · rw [if_neg (fun h9 => h ((nI_ltI hb ha).mp h9))]; congr 1; omega
theorem m1_lt {a : Nat} (ha : a < 2 ^ 31) : (-1 : Int32) < nI a := by
  rw [Int32.lt_iff_toInt_lt, nI_toInt ha]; show (-1 : Int) < _; omega
theorem mx_oI {a b : Option Nat} (ha : ∀ v, a = some v → v < 2 ^ 31) (hb : ∀ v, b = some v → v < 2 ^ 31) : (if oI a < oI b then oI b else oI a) = oI (mxO a b) := by
  cases a with
  | none =>
    cases b with
    | none => rfl
    | some y => exact if_pos (m1_lt (hb y rfl))
  | some x =>
    cases b with
    | none => exact if_neg (fun h => by have := m1_lt (ha x rfl); rw [Int32.lt_iff_toInt_lt] at h this; have h2 : (nI x).toInt < (-1 : Int32).toInt := h; omega)
    | some y => exact pmx_nI (ha x rfl) (hb y rfl)
def wC1 (B : Nat → Nat) (sk : Option Nat) (w : Nat) : Nat := match sk with
  | none => B (86 + 5 * w + 2)
  | some s => min (B (86 + 5 * w + 2)) s
def wO2 (B : Nat → Nat) (sk : Option Nat) (w : Nat) : Nat := match sk with
  | none => B (86 + 5 * w + 2)
  | some s => max (B (86 + 5 * w + 1)) (s - 60)
def WnB (B : Nat → Nat) (b0 : Nat) (sk : Option Nat) : Wn := (fun w => b0 + B (86 + 5 * w + 1), fun w => b0 + wC1 B sk w, fun w => b0 + 60 + wO2 B sk w, fun w => b0 + 60 + B (86 + 5 * w + 2), fun w => B (86 + 5 * w + 3))
theorem okWn_B {B : Nat → Nat} {b0 : Nat} {sk : Option Nat} (hW : WB B) (hb : b0 ≤ 8000000) (hs : ∀ s, sk = some s → 60 ≤ s ∧ s ≤ 1440) : okWn (WnB B b0 sk) (B 85) := by
  intro w hw
  obtain ⟨-, h1, h2, h3, h4, -⟩ := hW.2.2.1.2 w hw
  show b0 + wC1 B sk w ≤ b0 + 60 + wO2 B sk w ∧ 1 ≤ b0 + wC1 B sk w ∧ 1 ≤ b0 + 60 + B (86 + 5 * w + 2) ∧ b0 + B (86 + 5 * w + 1) ≤ 9000000 ∧ b0 + 60 + wO2 B sk w ≤ 9000000 ∧ b0 + 60 + B (86 + 5 * w + 2) ≤ 9000000 ∧ 1 ≤ B (86 + 5 * w + 3) ∧ B (86 + 5 * w + 3) ≤ 1440
  cases sk with
  | none => simp only [wC1, wO2]; omega
  | some s => have := hs s rfl; simp only [wC1, wO2]; omega
/-- a work's windows in the class's plan -/
def wnM (μ : Mem) (p : Nat) (W : Wn) (w : Nat) : Prop := gI μ (p + 1) (2 * w) = nI (W.1 w) ∧ gI μ (p + 2) (2 * w) = nI (W.2.1 w) ∧ gI μ (p + 1) (2 * w + 1) = nI (W.2.2.1 w) ∧ gI μ (p + 2) (2 * w + 1) = nI (W.2.2.2.1 w)
theorem wnM_same {S : Nat → Nat → Prop} {μ ν : Mem} {p w : Nat} {W : Wn} (h : wnM μ p W w) (hs : same S μ ν) (h1 : ∀ k, (k = 2 * w ∨ k = 2 * w + 1) → ¬ S (p + 1) k ∧ ¬ S (p + 2) k) : wnM ν p W w := by
  have a := h1 _ (Or.inl rfl); have b := h1 _ (Or.inr rfl)
  exact ⟨by rw [(hs.2.2 _ _ a.1).1]; exact h.1, by rw [(hs.2.2 _ _ a.2).1]; exact h.2.1, by rw [(hs.2.2 _ _ b.1).1]; exact h.2.2.1, by rw [(hs.2.2 _ _ b.2).1]; exact h.2.2.2⟩
/-- the latest begins of all sets of the day below m -/
def laM (μ : Mem) (p : Nat) (B : Nat → Nat) (d : Nat) (W : Wn) (m : Nat) : Prop := ∀ S, S < m → tdB B d S = true → ∃ z, gI μ (p + 3) S = oI z ∧ isLa W (B 85) S z
set_option maxHeartbeats 1000000 in
theorem s_p_len (Γ : Gm) (μ : Mem) (b : Nat) (B : Nat → Nat) (hR : Rb μ b B) (hW : WB B) (w : Nat) (hw : w < B 85) : SpI Γ MX3_lengthOf 0 0 0 [.ref b, .int (nI w)] μ (fun r μ2 => r = nI (B (86 + 5 * w + 3)) ∧ μ2 = μ) := by
  refine SpI.of okX3_lengthOf rfl [some (.ref b), some (.int (nI w))] ⟨rfl, rfl, trivial⟩ (leb rfl) (leb rfl) (fun X hX hE hnm => ?_)
  have hn8 := hW.2.2.1.1
  refine w_aload_n (i := 0) hX dX3_lengthOf_0 rfl rfl ?_
  refine w_getR (q := b + 3) hX dX3_lengthOf_1 fo_RX3_63 rfl (bk_s hR.1) (bk_r2 hR.1) ?_
  refine w_iload_n (i := 1) hX dX3_lengthOf_4 rfl rfl ?_
  refine w_iconst hX dX3_lengthOf_5 kI_5 ?_
  refine w_imulN hX dX3_lengthOf_6 ?_
  refine w_iconst hX dX3_lengthOf_7 kI_3 ?_
  refine w_iaddN hX dX3_lengthOf_8 ?_
  refine w_ialdN hX dX3_lengthOf_9 (bk_a3 hR.1) (by omega) (by omega) ?_
  refine w_top (y := nI (B (86 + 5 * w + 3))) (by rw [hR.2.2.2.2.2.2.1 _ (by omega)]; congr 2; omega) ?_
  exact w_iret hX hE dX3_lengthOf_10 (Or.inl rfl) rfl ⟨rfl, rfl⟩
set_option maxHeartbeats 1000000 in
theorem s_p_eb (Γ : Gm) (μ : Mem) (p : Nat) (hp : isPl μ p) (W : Wn) (n : Nat) (hn8 : n ≤ 8) (hok : okWn W n) (w : Nat) (hw : w < n) (hwn : wnM μ p W w) (t : Nat) (ht : t < 2 ^ 30) : SpI Γ MX3_earliestBegin 1 0 0 [.ref p, .int (nI w), .int (nI t)] μ (fun r μ2 => r = oI (eb W w t) ∧ μ2 = μ) := by
  refine SpI.of okX3_earliestBegin rfl [some (.ref p), some (.int (nI w)), some (.int (nI t)), none, none] ⟨rfl, rfl, rfl, trivial⟩ (leb rfl) (leb rfl) (fun X hX hE hnm => ?_)
  have hok9 := hok w hw
  refine w_iconst hX dX3_earliestBegin_0 kI_2 ?_
  refine w_iload_n (i := 1) hX dX3_earliestBegin_1 rfl rfl ?_
  refine w_imulN hX dX3_earliestBegin_2 ?_
  refine w_istore_n (i := 3) (l2 := [some (.ref p), some (.int (nI w)), some (.int (nI t)), some (.int (nI (2 * w))), none]) hX dX3_earliestBegin_3 rfl (ltb rfl) rfl rfl ?_
  refine w_iload_n (i := 3) hX dX3_earliestBegin_4 rfl rfl ?_
  refine w_iconst hX dX3_earliestBegin_5 kI_2 ?_
  refine w_iload_n (i := 1) hX dX3_earliestBegin_6 rfl rfl ?_
  refine w_imulN hX dX3_earliestBegin_7 ?_
  refine w_iconst hX dX3_earliestBegin_8 kI_1 ?_
  refine w_iaddN hX dX3_earliestBegin_9 ?_
  refine wn_icmp_gt (tgt := 45) hX dX3_earliestBegin_10 (by decide) (by omega) (by omega) (fun c1 => ?_) (fun c1 => ?_)
  · exact absurd c1 (by omega)
  · refine w_iload_n (i := 2) hX dX3_earliestBegin_13 rfl rfl ?_
    refine w_aload_n (i := 0) hX dX3_earliestBegin_14 rfl rfl ?_
    refine w_getR (q := p + 1) hX dX3_earliestBegin_15 fo_RX3_11 rfl (pl_s hp) (pl_r0 hp) ?_
    refine w_iload_n (i := 3) hX dX3_earliestBegin_18 rfl rfl ?_
    refine w_ialdN hX dX3_earliestBegin_19 (pl_a1 hp) (by omega) (by omega) ?_
    refine w_top (y := nI (W.1 w)) hwn.1 ?_
    refine w_max hX dX3_earliestBegin_20 ml_RX3_88 (leb rfl) (leb rfl) ?_
    refine w_top (y := nI (max t (W.1 w))) (pmx_nI (by omega) (by omega)) ?_
    refine w_istore (l2 := [some (.ref p), some (.int (nI w)), some (.int (nI t)), some (.int (nI (2 * w))), some (.int (nI (max t (W.1 w))))]) hX dX3_earliestBegin_23 (ltb rfl) rfl rfl ?_
    refine w_iload hX dX3_earliestBegin_25 rfl ?_
    refine w_aload_n (i := 0) hX dX3_earliestBegin_27 rfl rfl ?_
    refine w_getR (q := p + 2) hX dX3_earliestBegin_28 fo_RX3_17 rfl (pl_s hp) (pl_r1 hp) ?_
    refine w_iload_n (i := 3) hX dX3_earliestBegin_31 rfl rfl ?_
    refine w_ialdN hX dX3_earliestBegin_32 (pl_a2 hp) (by omega) (by omega) ?_
    refine w_top (y := nI (W.2.1 w)) hwn.2.1 ?_
    refine wn_icmp_ge (tgt := 39) hX dX3_earliestBegin_33 (by decide) (by omega) (by omega) (fun c2 => ?_) (fun c2 => ?_)
    · refine w_iincN (w := 1) (l2 := [some (.ref p), some (.int (nI w)), some (.int (nI t)), some (.int (nI (2 * w + 1))), some (.int (nI (max t (W.1 w))))]) hX dX3_earliestBegin_39 rfl kI_1 rfl rfl ?_
      refine w_goto (tgt := 4) hX dX3_earliestBegin_42 (by decide) ?_
      refine w_iload_n (i := 3) hX dX3_earliestBegin_4 rfl rfl ?_
      refine w_iconst hX dX3_earliestBegin_5 kI_2 ?_
      refine w_iload_n (i := 1) hX dX3_earliestBegin_6 rfl rfl ?_
      refine w_imulN hX dX3_earliestBegin_7 ?_
      refine w_iconst hX dX3_earliestBegin_8 kI_1 ?_
      refine w_iaddN hX dX3_earliestBegin_9 ?_
      refine wn_icmp_gt (tgt := 45) hX dX3_earliestBegin_10 (by decide) (by omega) (by omega) (fun c3 => ?_) (fun c3 => ?_)
      · exact absurd c3 (by omega)
      · refine w_iload_n (i := 2) hX dX3_earliestBegin_13 rfl rfl ?_
        refine w_aload_n (i := 0) hX dX3_earliestBegin_14 rfl rfl ?_
        refine w_getR (q := p + 1) hX dX3_earliestBegin_15 fo_RX3_11 rfl (pl_s hp) (pl_r0 hp) ?_
        refine w_iload_n (i := 3) hX dX3_earliestBegin_18 rfl rfl ?_
        refine w_ialdN hX dX3_earliestBegin_19 (pl_a1 hp) (by omega) (by omega) ?_
        refine w_top (y := nI (W.2.2.1 w)) hwn.2.2.1 ?_
        refine w_max hX dX3_earliestBegin_20 ml_RX3_88 (leb rfl) (leb rfl) ?_
        refine w_top (y := nI (max t (W.2.2.1 w))) (pmx_nI (by omega) (by omega)) ?_
        refine w_istore (l2 := [some (.ref p), some (.int (nI w)), some (.int (nI t)), some (.int (nI (2 * w + 1))), some (.int (nI (max t (W.2.2.1 w))))]) hX dX3_earliestBegin_23 (ltb rfl) rfl rfl ?_
        refine w_iload hX dX3_earliestBegin_25 rfl ?_
        refine w_aload_n (i := 0) hX dX3_earliestBegin_27 rfl rfl ?_
        refine w_getR (q := p + 2) hX dX3_earliestBegin_28 fo_RX3_17 rfl (pl_s hp) (pl_r1 hp) ?_
        refine w_iload_n (i := 3) hX dX3_earliestBegin_31 rfl rfl ?_
        refine w_ialdN hX dX3_earliestBegin_32 (pl_a2 hp) (by omega) (by omega) ?_
        refine w_top (y := nI (W.2.2.2.1 w)) hwn.2.2.2 ?_
        refine wn_icmp_ge (tgt := 39) hX dX3_earliestBegin_33 (by decide) (by omega) (by omega) (fun c4 => ?_) (fun c4 => ?_)
        · refine w_iincN (w := 1) (l2 := [some (.ref p), some (.int (nI w)), some (.int (nI t)), some (.int (nI (2 * w + 1 + 1))), some (.int (nI (max t (W.2.2.1 w))))]) hX dX3_earliestBegin_39 rfl kI_1 rfl rfl ?_
          refine w_goto (tgt := 4) hX dX3_earliestBegin_42 (by decide) ?_
          refine w_iload_n (i := 3) hX dX3_earliestBegin_4 rfl rfl ?_
          refine w_iconst hX dX3_earliestBegin_5 kI_2 ?_
          refine w_iload_n (i := 1) hX dX3_earliestBegin_6 rfl rfl ?_
          refine w_imulN hX dX3_earliestBegin_7 ?_
          refine w_iconst hX dX3_earliestBegin_8 kI_1 ?_
          refine w_iaddN hX dX3_earliestBegin_9 ?_
          refine wn_icmp_gt (tgt := 45) hX dX3_earliestBegin_10 (by decide) (by omega) (by omega) (fun c5 => ?_) (fun c5 => ?_)
          · refine w_iconst hX dX3_earliestBegin_45 kI_m1 ?_
            exact w_iret hX hE dX3_earliestBegin_46 (Or.inl rfl) rfl ⟨by unfold eb; rw [if_neg (by omega), if_neg (by omega)]; rfl, rfl⟩
          · exact absurd c5 (by omega)
        · refine w_iload hX dX3_earliestBegin_36 rfl ?_
          exact w_iret hX hE dX3_earliestBegin_38 (Or.inl rfl) rfl ⟨by unfold eb; rw [if_neg (by omega), if_pos (by omega)]; rfl, rfl⟩
    · refine w_iload hX dX3_earliestBegin_36 rfl ?_
      exact w_iret hX hE dX3_earliestBegin_38 (Or.inl rfl) rfl ⟨by unfold eb; rw [if_pos (by omega)]; rfl, rfl⟩
theorem ltm1 {a : Nat} (ha : a < 2 ^ 30) : nI a + Int32.ofInt (-1) < nI a := by
  rw [show nI a + Int32.ofInt (-1) = nI a - nI 1 by rw [Int32.sub_eq_add_neg]; rfl, Int32.lt_iff_toInt_lt, pk_sub_toInt ha (by omega), nI_toInt (by omega)]
  omega
set_option maxHeartbeats 1000000 in
theorem s_p_lbY (Γ : Gm) (μ : Mem) (p : Nat) (hp : isPl μ p) (W : Wn) (n : Nat) (hn8 : n ≤ 8) (hok : okWn W n) (w : Nat) (hw : w < n) (hwn : wnM μ p W w) (y l : Nat) (hy : y < 2 ^ 30) : SpI Γ MX3_latestBegin 1 0 0 [.ref p, .int (nI w), .int (nI y)] μ (fun r μ2 => r = oI (lb W w (y + l) l) ∧ μ2 = μ) := by
  refine SpI.of okX3_latestBegin rfl [some (.ref p), some (.int (nI w)), some (.int (nI y)), none, none] ⟨rfl, rfl, rfl, trivial⟩ (leb rfl) (leb rfl) (fun X hX hE hnm => ?_)
  have hok9 := hok w hw
  refine w_iconst hX dX3_latestBegin_0 kI_2 ?_
  refine w_iload_n (i := 1) hX dX3_latestBegin_1 rfl rfl ?_
  refine w_imulN hX dX3_latestBegin_2 ?_
  refine w_iconst hX dX3_latestBegin_3 kI_1 ?_
  refine w_iaddN hX dX3_latestBegin_4 ?_
  refine w_istore_n (i := 3) (l2 := [some (.ref p), some (.int (nI w)), some (.int (nI y)), some (.int (nI (2 * w + 1))), none]) hX dX3_latestBegin_5 rfl (ltb rfl) rfl rfl ?_
  refine w_iload_n (i := 3) hX dX3_latestBegin_6 rfl rfl ?_
  refine w_iconst hX dX3_latestBegin_7 kI_2 ?_
  refine w_iload_n (i := 1) hX dX3_latestBegin_8 rfl rfl ?_
  refine w_imulN hX dX3_latestBegin_9 ?_
  refine wn_icmp_lt (tgt := 47) hX dX3_latestBegin_10 (by decide) (by omega) (by omega) (fun c1 => ?_) (fun c1 => ?_)
  · exact absurd c1 (by omega)
  · refine w_iload_n (i := 2) hX dX3_latestBegin_13 rfl rfl ?_
    refine w_aload_n (i := 0) hX dX3_latestBegin_14 rfl rfl ?_
    refine w_getR (q := p + 2) hX dX3_latestBegin_15 fo_RX3_17 rfl (pl_s hp) (pl_r1 hp) ?_
    refine w_iload_n (i := 3) hX dX3_latestBegin_18 rfl rfl ?_
    refine w_ialdN hX dX3_latestBegin_19 (pl_a2 hp) (by omega) (by omega) ?_
    refine w_top (y := nI (W.2.2.2.1 w)) hwn.2.2.2 ?_
    refine w_iconst hX dX3_latestBegin_20 kI_1 ?_
    refine w_isubN hX dX3_latestBegin_21 (by omega) ?_
    refine w_min hX dX3_latestBegin_22 ml_RX3_82 (leb rfl) (leb rfl) ?_
    refine w_top (y := nI (min y (W.2.2.2.1 w - 1))) (pmn_nI (by omega) (by omega)) ?_
    refine w_istore (l2 := [some (.ref p), some (.int (nI w)), some (.int (nI y)), some (.int (nI (2 * w + 1))), some (.int (nI (min y (W.2.2.2.1 w - 1))))]) hX dX3_latestBegin_25 (ltb rfl) rfl rfl ?_
    refine w_iload hX dX3_latestBegin_27 rfl ?_
    refine w_aload_n (i := 0) hX dX3_latestBegin_29 rfl rfl ?_
    refine w_getR (q := p + 1) hX dX3_latestBegin_30 fo_RX3_11 rfl (pl_s hp) (pl_r0 hp) ?_
    refine w_iload_n (i := 3) hX dX3_latestBegin_33 rfl rfl ?_
    refine w_ialdN hX dX3_latestBegin_34 (pl_a1 hp) (by omega) (by omega) ?_
    refine w_top (y := nI (W.2.2.1 w)) hwn.2.2.1 ?_
    refine wn_icmp_lt (tgt := 41) hX dX3_latestBegin_35 (by decide) (by omega) (by omega) (fun c2 => ?_) (fun c2 => ?_)
    · refine w_iincM (l2 := [some (.ref p), some (.int (nI w)), some (.int (nI y)), some (.int (nI (2 * w + 1 - 1))), some (.int (nI (min y (W.2.2.2.1 w - 1))))]) hX dX3_latestBegin_41 rfl kI_m1 (by omega) rfl rfl ?_
      refine w_goto (tgt := 6) hX dX3_latestBegin_44 (by decide) ?_
      refine w_sub (l2 := [some (.ref p), some (.int (nI w)), some (.int (nI y)), some (.int (nI (2 * w + 1 - 1))), none]) (by simp [lsub]) (leb rfl) ?_
      refine w_locs (ls2 := [some (.ref p), some (.int (nI w)), some (.int (nI y)), some (.int (nI (2 * w))), none]) (by rw [Nat.add_sub_cancel]) ?_
      refine w_iload_n (i := 3) hX dX3_latestBegin_6 rfl rfl ?_
      refine w_iconst hX dX3_latestBegin_7 kI_2 ?_
      refine w_iload_n (i := 1) hX dX3_latestBegin_8 rfl rfl ?_
      refine w_imulN hX dX3_latestBegin_9 ?_
      refine wn_icmp_lt (tgt := 47) hX dX3_latestBegin_10 (by decide) (by omega) (by omega) (fun c3 => ?_) (fun c3 => ?_)
      · exact absurd c3 (by omega)
      · refine w_iload_n (i := 2) hX dX3_latestBegin_13 rfl rfl ?_
        refine w_aload_n (i := 0) hX dX3_latestBegin_14 rfl rfl ?_
        refine w_getR (q := p + 2) hX dX3_latestBegin_15 fo_RX3_17 rfl (pl_s hp) (pl_r1 hp) ?_
        refine w_iload_n (i := 3) hX dX3_latestBegin_18 rfl rfl ?_
        refine w_ialdN hX dX3_latestBegin_19 (pl_a2 hp) (by omega) (by omega) ?_
        refine w_top (y := nI (W.2.1 w)) hwn.2.1 ?_
        refine w_iconst hX dX3_latestBegin_20 kI_1 ?_
        refine w_isubN hX dX3_latestBegin_21 (by omega) ?_
        refine w_min hX dX3_latestBegin_22 ml_RX3_82 (leb rfl) (leb rfl) ?_
        refine w_top (y := nI (min y (W.2.1 w - 1))) (pmn_nI (by omega) (by omega)) ?_
        refine w_istore (l2 := [some (.ref p), some (.int (nI w)), some (.int (nI y)), some (.int (nI (2 * w))), some (.int (nI (min y (W.2.1 w - 1))))]) hX dX3_latestBegin_25 (ltb rfl) rfl rfl ?_
        refine w_iload hX dX3_latestBegin_27 rfl ?_
        refine w_aload_n (i := 0) hX dX3_latestBegin_29 rfl rfl ?_
        refine w_getR (q := p + 1) hX dX3_latestBegin_30 fo_RX3_11 rfl (pl_s hp) (pl_r0 hp) ?_
        refine w_iload_n (i := 3) hX dX3_latestBegin_33 rfl rfl ?_
        refine w_ialdN hX dX3_latestBegin_34 (pl_a1 hp) (by omega) (by omega) ?_
        refine w_top (y := nI (W.1 w)) hwn.1 ?_
        refine wn_icmp_lt (tgt := 41) hX dX3_latestBegin_35 (by decide) (by omega) (by omega) (fun c4 => ?_) (fun c4 => ?_)
        · refine w_iinc (l2 := [some (.ref p), some (.int (nI w)), some (.int (nI y)), some (.int (nI (2 * w) + Int32.ofInt (-1))), some (.int (nI (min y (W.2.1 w - 1))))]) hX dX3_latestBegin_41 rfl rfl rfl rfl ?_
          refine w_goto (tgt := 6) hX dX3_latestBegin_44 (by decide) ?_
          refine w_sub (l2 := [some (.ref p), some (.int (nI w)), some (.int (nI y)), some (.int (nI (2 * w) + Int32.ofInt (-1))), none]) (by simp [lsub]) (leb rfl) ?_
          refine w_iload_n (i := 3) hX dX3_latestBegin_6 rfl rfl ?_
          refine w_iconst hX dX3_latestBegin_7 kI_2 ?_
          refine w_iload_n (i := 1) hX dX3_latestBegin_8 rfl rfl ?_
          refine w_imulN hX dX3_latestBegin_9 ?_
          refine wc_icmp_lt (tgt := 47) hX dX3_latestBegin_10 (by decide) (fun c5 => ?_) (fun c5 => ?_)
          · refine w_iconst hX dX3_latestBegin_47 kI_m1 ?_
            exact w_iret hX hE dX3_latestBegin_48 (Or.inl rfl) rfl ⟨by unfold lb; rw [if_neg (by omega), Nat.add_sub_cancel, if_neg (by omega), if_neg (by omega)]; rfl, rfl⟩
          · exact absurd c5 (Int32.not_le.mpr (ltm1 (by omega)))
        · refine w_iload hX dX3_latestBegin_38 rfl ?_
          exact w_iret hX hE dX3_latestBegin_40 (Or.inl rfl) rfl ⟨by unfold lb; rw [if_neg (by omega), Nat.add_sub_cancel, if_neg (by omega), if_pos (by omega)]; rfl, rfl⟩
    · refine w_iload hX dX3_latestBegin_38 rfl ?_
      exact w_iret hX hE dX3_latestBegin_40 (Or.inl rfl) rfl ⟨by unfold lb; rw [if_neg (by omega), Nat.add_sub_cancel, if_pos (by omega)]; rfl, rfl⟩
set_option maxHeartbeats 1000000 in
theorem s_p_lbN (Γ : Gm) (μ : Mem) (p : Nat) (hp : isPl μ p) (W : Wn) (n : Nat) (hn8 : n ≤ 8) (hok : okWn W n) (w : Nat) (hw : w < n) (hwn : wnM μ p W w) (v : Int32) (hv : v.toInt < 0) : SpI Γ MX3_latestBegin 1 0 0 [.ref p, .int (nI w), .int v] μ (fun r μ2 => r = (-1 : Int32) ∧ μ2 = μ) := by
  refine SpI.of okX3_latestBegin rfl [some (.ref p), some (.int (nI w)), some (.int v), none, none] ⟨rfl, rfl, rfl, trivial⟩ (leb rfl) (leb rfl) (fun X hX hE hnm => ?_)
  have hok9 := hok w hw
  refine w_iconst hX dX3_latestBegin_0 kI_2 ?_
  refine w_iload_n (i := 1) hX dX3_latestBegin_1 rfl rfl ?_
  refine w_imulN hX dX3_latestBegin_2 ?_
  refine w_iconst hX dX3_latestBegin_3 kI_1 ?_
  refine w_iaddN hX dX3_latestBegin_4 ?_
  refine w_istore_n (i := 3) (l2 := [some (.ref p), some (.int (nI w)), some (.int v), some (.int (nI (2 * w + 1))), none]) hX dX3_latestBegin_5 rfl (ltb rfl) rfl rfl ?_
  refine w_iload_n (i := 3) hX dX3_latestBegin_6 rfl rfl ?_
  refine w_iconst hX dX3_latestBegin_7 kI_2 ?_
  refine w_iload_n (i := 1) hX dX3_latestBegin_8 rfl rfl ?_
  refine w_imulN hX dX3_latestBegin_9 ?_
  refine wn_icmp_lt (tgt := 47) hX dX3_latestBegin_10 (by decide) (by omega) (by omega) (fun c6 => ?_) (fun c6 => ?_)
  · exact absurd c6 (by omega)
  · refine w_iload_n (i := 2) hX dX3_latestBegin_13 rfl rfl ?_
    refine w_aload_n (i := 0) hX dX3_latestBegin_14 rfl rfl ?_
    refine w_getR (q := p + 2) hX dX3_latestBegin_15 fo_RX3_17 rfl (pl_s hp) (pl_r1 hp) ?_
    refine w_iload_n (i := 3) hX dX3_latestBegin_18 rfl rfl ?_
    refine w_ialdN hX dX3_latestBegin_19 (pl_a2 hp) (by omega) (by omega) ?_
    refine w_top (y := nI (W.2.2.2.1 w)) hwn.2.2.2 ?_
    refine w_iconst hX dX3_latestBegin_20 kI_1 ?_
    refine w_isubN hX dX3_latestBegin_21 (by omega) ?_
    refine w_min hX dX3_latestBegin_22 ml_RX3_82 (leb rfl) (leb rfl) ?_
    refine w_top (y := v) (if_neg (fun h9 => by rw [Int32.lt_iff_toInt_lt, nI_toInt (by omega)] at h9; omega)) ?_
    refine w_istore (l2 := [some (.ref p), some (.int (nI w)), some (.int v), some (.int (nI (2 * w + 1))), some (.int v)]) hX dX3_latestBegin_25 (ltb rfl) rfl rfl ?_
    refine w_iload hX dX3_latestBegin_27 rfl ?_
    refine w_aload_n (i := 0) hX dX3_latestBegin_29 rfl rfl ?_
    refine w_getR (q := p + 1) hX dX3_latestBegin_30 fo_RX3_11 rfl (pl_s hp) (pl_r0 hp) ?_
    refine w_iload_n (i := 3) hX dX3_latestBegin_33 rfl rfl ?_
    refine w_ialdN hX dX3_latestBegin_34 (pl_a1 hp) (by omega) (by omega) ?_
    refine w_top (y := nI (W.2.2.1 w)) hwn.2.2.1 ?_
    refine wc_icmp_lt (tgt := 41) hX dX3_latestBegin_35 (by decide) (fun c7 => ?_) (fun c7 => ?_)
    · refine w_iincM (l2 := [some (.ref p), some (.int (nI w)), some (.int v), some (.int (nI (2 * w + 1 - 1))), some (.int v)]) hX dX3_latestBegin_41 rfl kI_m1 (by omega) rfl rfl ?_
      refine w_goto (tgt := 6) hX dX3_latestBegin_44 (by decide) ?_
      refine w_sub (l2 := [some (.ref p), some (.int (nI w)), some (.int v), some (.int (nI (2 * w + 1 - 1))), none]) (by simp [lsub]) (leb rfl) ?_
      refine w_locs (ls2 := [some (.ref p), some (.int (nI w)), some (.int v), some (.int (nI (2 * w))), none]) (by rw [Nat.add_sub_cancel]) ?_
      refine w_iload_n (i := 3) hX dX3_latestBegin_6 rfl rfl ?_
      refine w_iconst hX dX3_latestBegin_7 kI_2 ?_
      refine w_iload_n (i := 1) hX dX3_latestBegin_8 rfl rfl ?_
      refine w_imulN hX dX3_latestBegin_9 ?_
      refine wn_icmp_lt (tgt := 47) hX dX3_latestBegin_10 (by decide) (by omega) (by omega) (fun c8 => ?_) (fun c8 => ?_)
      · exact absurd c8 (by omega)
      · refine w_iload_n (i := 2) hX dX3_latestBegin_13 rfl rfl ?_
        refine w_aload_n (i := 0) hX dX3_latestBegin_14 rfl rfl ?_
        refine w_getR (q := p + 2) hX dX3_latestBegin_15 fo_RX3_17 rfl (pl_s hp) (pl_r1 hp) ?_
        refine w_iload_n (i := 3) hX dX3_latestBegin_18 rfl rfl ?_
        refine w_ialdN hX dX3_latestBegin_19 (pl_a2 hp) (by omega) (by omega) ?_
        refine w_top (y := nI (W.2.1 w)) hwn.2.1 ?_
        refine w_iconst hX dX3_latestBegin_20 kI_1 ?_
        refine w_isubN hX dX3_latestBegin_21 (by omega) ?_
        refine w_min hX dX3_latestBegin_22 ml_RX3_82 (leb rfl) (leb rfl) ?_
        refine w_top (y := v) (if_neg (fun h9 => by rw [Int32.lt_iff_toInt_lt, nI_toInt (by omega)] at h9; omega)) ?_
        refine w_istore (l2 := [some (.ref p), some (.int (nI w)), some (.int v), some (.int (nI (2 * w))), some (.int v)]) hX dX3_latestBegin_25 (ltb rfl) rfl rfl ?_
        refine w_iload hX dX3_latestBegin_27 rfl ?_
        refine w_aload_n (i := 0) hX dX3_latestBegin_29 rfl rfl ?_
        refine w_getR (q := p + 1) hX dX3_latestBegin_30 fo_RX3_11 rfl (pl_s hp) (pl_r0 hp) ?_
        refine w_iload_n (i := 3) hX dX3_latestBegin_33 rfl rfl ?_
        refine w_ialdN hX dX3_latestBegin_34 (pl_a1 hp) (by omega) (by omega) ?_
        refine w_top (y := nI (W.1 w)) hwn.1 ?_
        refine wc_icmp_lt (tgt := 41) hX dX3_latestBegin_35 (by decide) (fun c9 => ?_) (fun c9 => ?_)
        · refine w_iinc (l2 := [some (.ref p), some (.int (nI w)), some (.int v), some (.int (nI (2 * w) + Int32.ofInt (-1))), some (.int v)]) hX dX3_latestBegin_41 rfl rfl rfl rfl ?_
          refine w_goto (tgt := 6) hX dX3_latestBegin_44 (by decide) ?_
          refine w_sub (l2 := [some (.ref p), some (.int (nI w)), some (.int v), some (.int (nI (2 * w) + Int32.ofInt (-1))), none]) (by simp [lsub]) (leb rfl) ?_
          refine w_iload_n (i := 3) hX dX3_latestBegin_6 rfl rfl ?_
          refine w_iconst hX dX3_latestBegin_7 kI_2 ?_
          refine w_iload_n (i := 1) hX dX3_latestBegin_8 rfl rfl ?_
          refine w_imulN hX dX3_latestBegin_9 ?_
          refine wc_icmp_lt (tgt := 47) hX dX3_latestBegin_10 (by decide) (fun c10 => ?_) (fun c10 => ?_)
          · refine w_iconst hX dX3_latestBegin_47 kI_m1 ?_
            exact w_iret hX hE dX3_latestBegin_48 (Or.inl rfl) rfl ⟨rfl, rfl⟩
          · exact absurd c10 (Int32.not_le.mpr (ltm1 (by omega)))
        · refine w_iload hX dX3_latestBegin_38 rfl ?_
          exact absurd c9 (Int32.not_le.mpr (by rw [Int32.lt_iff_toInt_lt, nI_toInt (by omega)]; omega))
    · refine w_iload hX dX3_latestBegin_38 rfl ?_
      exact absurd c7 (Int32.not_le.mpr (by rw [Int32.lt_iff_toInt_lt, nI_toInt (by omega)]; omega))
theorem s_p_lb (Γ : Gm) (μ : Mem) (p : Nat) (hp : isPl μ p) (W : Wn) (n : Nat) (hn8 : n ≤ 8) (hok : okWn W n) (w : Nat) (hw : w < n) (hwn : wnM μ p W w) (z : Option Nat) (hz : ∀ v, z = some v → v ≤ FAR9) : SpI Γ MX3_latestBegin 1 0 0 [.ref p, .int (nI w), .int (oI z - nI (W.2.2.2.2 w))] μ (fun r μ2 => r = oI (lbO W w z) ∧ μ2 = μ) := by
  have h9 := hok w hw
  cases z with
  | none =>
    refine s_p_lbN Γ μ p hp W n hn8 hok w hw hwn _ ?_
    show ((-1 : Int32) - nI (W.2.2.2.2 w)).toInt < 0
    rw [i_sub (by rw [nI_toInt (by omega)]; show -2147483648 ≤ (-1 : Int) - _; omega) (by rw [nI_toInt (by omega)]; show (-1 : Int) - _ < 2147483648; omega), nI_toInt (by omega)]
    show (-1 : Int) - _ < 0
    omega
  | some x =>
    have hx := hz x rfl
    unfold FAR9 at hx
    show SpI Γ MX3_latestBegin 1 0 0 [.ref p, .int (nI w), .int (nI x - nI (W.2.2.2.2 w))] μ (fun r μ2 => r = oI (lb W w x (W.2.2.2.2 w)) ∧ μ2 = μ)
    by_cases h : x < W.2.2.2.2 w
    · have e : lb W w x (W.2.2.2.2 w) = none := by unfold lb; rw [if_pos h]
      rw [e]
      exact s_p_lbN Γ μ p hp W n hn8 hok w hw hwn _ (by rw [pk_sub_toInt (by omega) (by omega)]; omega)
    · obtain ⟨y, rfl⟩ : ∃ y, x = y + W.2.2.2.2 w := ⟨x - W.2.2.2.2 w, by omega⟩
      rw [pk_sub (by omega), Nat.add_sub_cancel]
      exact s_p_lbY Γ μ p hp W n hn8 hok w hw hwn y _ (by omega)
theorem lbO_le {W : Wn} {n w v : Nat} {z : Option Nat} (hW : okWn W n) (hw : w < n) (h : lbO W w z = some v) : v < 9000000 := by
  cases z with
  | none => cases h
  | some x => exact lb_le hW hw h
theorem tdB_clr {B : Nat → Nat} {d S k : Nat} (h : tdB B d S = true) : tdB B d (clr S k) = true := by
  rw [tdB_iff] at h ⊢
  intro w hw h2
  rw [clr_tb, Bool.and_eq_true] at h2
  exact h w hw h2.1
theorem p8 {n : Nat} (h : n ≤ 8) : 2 ^ n ≤ 256 := Nat.pow_le_pow_right (n := 2) (by omega) h
set_option maxHeartbeats 1000000 in
theorem s_p_latestFor (Γ : Gm) (μ : Mem) (p b d : Nat) (B : Nat → Nat) (hp : isPl μ p) (hR : Rb μ b B) (hW : WB B) (W : Wn) (hok : okWn W (B 85)) (hlen : ∀ w, w < B 85 → W.2.2.2.2 w = B (86 + 5 * w + 3)) (hwn : ∀ w, w < B 85 → B (86 + 5 * w) = d → wnM μ p W w) (S : Nat) (hS : S < 2 ^ B 85) (hS0 : S ≠ 0) (htd : tdB B d S = true) (hla : laM μ p B d W S) : SpI Γ MX3_latestFor 2 0 0 [.ref p, .ref b, .int (nI S)] μ (fun r μ2 => ∃ z, r = oI z ∧ isLa W (B 85) S z ∧ μ2 = μ) := by
  refine SpI.of okX3_latestFor rfl [some (.ref p), some (.ref b), some (.int (nI S)), none, none, none] ⟨rfl, rfl, rfl, trivial⟩ (leb rfl) (leb rfl) (fun X hX hE hnm => ?_)
  have hn8 := hW.2.2.1.1; have h256 := p8 hn8
  refine w_iconst hX dX3_latestFor_0 kI_m1 ?_
  refine w_istore_n (i := 3) (l2 := [some (.ref p), some (.ref b), some (.int (nI S)), some (.int ((-1 : Int32))), none, none]) hX dX3_latestFor_1 rfl (ltb rfl) rfl rfl ?_
  refine w_iconst hX dX3_latestFor_2 kI_0 ?_
  refine w_istore (l2 := [some (.ref p), some (.ref b), some (.int (nI S)), some (.int ((-1 : Int32))), some (.int (nI 0)), none]) hX dX3_latestFor_3 (ltb rfl) rfl rfl ?_
  have loop : ∀ k, k ≤ B 85 → ∀ z, isLk W (B 85) S k z → WP Γ X 0 0 5 [some (.ref p), some (.ref b), some (.int (nI S)), some (.int (oI z)), some (.int (nI k)), none] [] μ := by
    refine loopU (B 85) ?_
    intro k hk ih z hz
    refine w_iload hX dX3_latestFor_5 rfl ?_
    refine w_aload_n (i := 1) hX dX3_latestFor_7 rfl rfl ?_
    refine w_getI hX dX3_latestFor_8 fo_RX3_60 rfl (bk_s hR.1) ?_
    refine w_top (y := nI (B 85)) hR.2.2.2.2.2.1 ?_
    refine wn_icmp_ge (tgt := 65) hX dX3_latestFor_11 (by decide) (by first | omega | (split <;> omega)) (by first | omega | (split <;> omega)) (fun c1 => ?_) (fun c1 => ?_)
    · refine w_iload_n (i := 3) hX dX3_latestFor_65 rfl rfl ?_
      exact w_iret hX hE dX3_latestFor_66 (Or.inl rfl) rfl ⟨z, rfl, isLk_n (by rw [show k = B 85 by omega] at hz; exact hz) hS0, rfl⟩
    · refine w_iload_n (i := 2) hX dX3_latestFor_14 rfl rfl ?_
      refine w_iload hX dX3_latestFor_15 rfl ?_
      refine w_ishr hX dX3_latestFor_17 ?_
      refine w_iconst hX dX3_latestFor_18 kI_1 ?_
      refine w_iand hX dX3_latestFor_19 ?_
      refine w_top (y := nI (if S.testBit k = true then 1 else 0)) (bit31 (by omega) (by omega)) ?_
      refine w_iconst hX dX3_latestFor_20 kI_1 ?_
      refine wn_icmp_ne (tgt := 59) hX dX3_latestFor_21 (by decide) (by first | omega | (split <;> omega)) (by first | omega | (split <;> omega)) (fun c2 => ?_) (fun c2 => ?_)
      · refine w_iincN (w := 1) (l2 := [some (.ref p), some (.ref b), some (.int (nI S)), some (.int (oI z)), some (.int (nI (k + 1))), none]) hX dX3_latestFor_59 rfl kI_1 rfl rfl ?_
        refine w_goto (tgt := 5) hX dX3_latestFor_62 (by decide) ?_
        have hb : S.testBit k = false := by rw [Bool.eq_false_iff]; intro h9; rw [if_pos h9] at c2; exact absurd rfl c2
        exact ih (by omega) _ (isLk_no hz hb)
      · have hb : S.testBit k = true := by by_cases h9 : S.testBit k = true; (exact h9); rw [if_neg h9] at c2; omega
        have hcl := clr_ls hb
        obtain ⟨y9, hy1, hy2⟩ := hla (clr S k) hcl (tdB_clr htd)
        refine w_aload_n (i := 0) hX dX3_latestFor_24 rfl rfl ?_
        refine w_getR (q := p + 3) hX dX3_latestFor_25 fo_RX3_20 rfl (pl_s hp) (pl_r2 hp) ?_
        refine w_iload_n (i := 2) hX dX3_latestFor_28 rfl rfl ?_
        refine w_iconst hX dX3_latestFor_29 kI_1 ?_
        refine w_iload hX dX3_latestFor_30 rfl ?_
        refine w_ishl hX dX3_latestFor_32 ?_
        refine w_iconst hX dX3_latestFor_33 kI_m1 ?_
        refine w_ixor hX dX3_latestFor_34 ?_
        refine w_iand hX dX3_latestFor_35 ?_
        refine w_top (y := nI (clr S k)) (clr_nI (by omega) (by omega)) ?_
        refine w_ialdN hX dX3_latestFor_36 (pl_a3 hp) (by omega) (by omega) ?_
        refine w_top (y := oI y9) hy1 ?_
        refine w_istore (l2 := [some (.ref p), some (.ref b), some (.int (nI S)), some (.int (oI z)), some (.int (nI k)), some (.int (oI y9))]) hX dX3_latestFor_37 (ltb rfl) rfl rfl ?_
        refine w_iload_n (i := 3) hX dX3_latestFor_39 rfl rfl ?_
        refine w_aload_n (i := 0) hX dX3_latestFor_40 rfl rfl ?_
        refine w_iload hX dX3_latestFor_41 rfl ?_
        refine w_iload hX dX3_latestFor_43 rfl ?_
        refine w_aload_n (i := 1) hX dX3_latestFor_45 rfl rfl ?_
        refine w_iload hX dX3_latestFor_46 rfl ?_
        refine w_callSI (As := [.ref b, .int (nI k)]) (rest := [.int (oI y9), .int (nI k), .ref p, .int (oI z)]) (k2 := 0) (n2 := 0) hX dX3_latestFor_48 (s_p_len Γ μ b B hR hW k (by omega)) okX3_lengthOf ml_RX3_91 stX3_lengthOf rfl (leb rfl) (leb rfl) rfl rfl (fun r9 μ9 hq9 => ?_)
        obtain ⟨hr9, hm9⟩ := hq9; rw [hr9, hm9, ← hlen k (by omega)]; clear hr9 hm9 r9 μ9
        refine w_isub hX dX3_latestFor_51 ?_
        refine w_callVI (As := [.int (nI k), .int ((oI y9) - (nI (W.2.2.2.2 k)))]) (rest := [.int (oI z)]) (ci := 3) (o := p) (k2 := 0) (n2 := 0) hX dX3_latestFor_52 (s_p_lb Γ μ p hp W (B 85) hn8 hok k (by omega) (hwn k (by omega) (tdB_iff.mp htd k (by omega) hb)) y9 hy2.1) okX3_latestBegin (ltb rfl) (pl_s hp) ml_RX3_94 imX3_latestBegin seX3_latestBegin rfl (leb rfl) (leb rfl) rfl rfl (fun r9 μ9 hq9 => ?_)
        obtain ⟨hr9, hm9⟩ := hq9; rw [hr9, hm9]; clear hr9 hm9 r9 μ9
        refine w_max hX dX3_latestFor_55 ml_RX3_88 (leb rfl) (leb rfl) ?_
        refine w_top (y := oI (mxO z (lbO W k y9))) (mx_oI (fun v h => by have := hz.1 v h; unfold FAR9 at this; omega) (fun v h => by have := lbO_le hok (by omega) h; omega)) ?_
        refine w_istore_n (i := 3) (l2 := [some (.ref p), some (.ref b), some (.int (nI S)), some (.int (oI (mxO z (lbO W k y9)))), some (.int (nI k)), some (.int (oI y9))]) hX dX3_latestFor_58 rfl (ltb rfl) rfl rfl ?_
        refine w_iincN (w := 1) (l2 := [some (.ref p), some (.ref b), some (.int (nI S)), some (.int (oI (mxO z (lbO W k y9)))), some (.int (nI (k + 1))), some (.int (oI y9))]) hX dX3_latestFor_59 rfl kI_1 rfl rfl ?_
        refine w_goto (tgt := 5) hX dX3_latestFor_62 (by decide) ?_
        refine w_sub (l2 := [some (.ref p), some (.ref b), some (.int (nI S)), some (.int (oI (mxO z (lbO W k y9)))), some (.int (nI (k + 1))), none]) (by simp [lsub]) (leb rfl) ?_
        exact ih (by omega) _ (isLk_yes hok (by omega) hz hb hy2)
  exact loop 0 (Nat.zero_le _) none isLk_0
set_option maxHeartbeats 1000000 in
theorem s_p_keep (Γ : Gm) (μ : Mem) (p b : Nat) (B : Nat → Nat) (hp : isPl μ p) (hR : Rb μ b B) (hW : WB B) (S bs : Nat) (hS : S < 256) (z : Option Nat) (hz : gI μ (p + 3) S = oI z) (hz2 : ∀ v, z = some v → v < 2 ^ 31) (hwo : gI μ p 6 = nI (woS B bs (B 85))) (hch : gI μ p 8 = nI bs) : SpV Γ MX3_keepIfBetter 1 0 0 [.ref p, .ref b, .int (nI S)] μ (fun μ2 => gI μ2 p 6 = nI (woS B (if z.isSome = true ∧ woS B bs (B 85) < woS B S (B 85) then S else bs) (B 85)) ∧ gI μ2 p 8 = nI (if z.isSome = true ∧ woS B bs (B 85) < woS B S (B 85) then S else bs) ∧ same (fun o k => o = p ∧ (k = 6 ∨ k = 8)) μ μ2) := by
  refine SpV.of okX3_keepIfBetter rfl [some (.ref p), some (.ref b), some (.int (nI S)), none, none] ⟨rfl, rfl, rfl, trivial⟩ (leb rfl) (leb rfl) (fun X hX hE hnm => ?_)
  have hn8 := hW.2.2.1.1
  refine w_aload_n (i := 0) hX dX3_keepIfBetter_0 rfl rfl ?_
  refine w_getR (q := p + 3) hX dX3_keepIfBetter_1 fo_RX3_20 rfl (pl_s hp) (pl_r2 hp) ?_
  refine w_iload_n (i := 2) hX dX3_keepIfBetter_4 rfl rfl ?_
  refine w_ialdN hX dX3_keepIfBetter_5 (pl_a3 hp) (by omega) (by omega) ?_
  refine w_top (y := oI z) hz ?_
  refine w_iconst hX dX3_keepIfBetter_6 kI_m1 ?_
  refine wc_icmp_ne (tgt := 11) hX dX3_keepIfBetter_7 (by decide) (fun c1 => ?_) (fun c1 => ?_)
  · have hzs : z.isSome = true := by cases z with | none => exact absurd rfl c1 | some v => rfl
    refine w_iconst hX dX3_keepIfBetter_11 kI_0 ?_
    refine w_istore_n (i := 3) (l2 := [some (.ref p), some (.ref b), some (.int (nI S)), some (.int (nI 0)), none]) hX dX3_keepIfBetter_12 rfl (ltb rfl) rfl rfl ?_
    refine w_iconst hX dX3_keepIfBetter_13 kI_0 ?_
    refine w_istore (l2 := [some (.ref p), some (.ref b), some (.int (nI S)), some (.int (nI 0)), some (.int (nI 0))]) hX dX3_keepIfBetter_14 (ltb rfl) rfl rfl ?_
    have hw9 := woS_le (S := S) hW (B 85) (Nat.le_refl _); have hw8 := woS_le (S := bs) hW (B 85) (Nat.le_refl _)
    have loop : ∀ k, k ≤ B 85 → WP Γ X 0 0 16 [some (.ref p), some (.ref b), some (.int (nI S)), some (.int (nI (woS B S k))), some (.int (nI k))] [] μ := by
      refine loopU (B 85) ?_
      intro k hk ih
      have hwk := woS_le (S := S) hW k hk
      have hwv : k < B 85 → B (86 + 5 * k + 4) ≤ 999 := fun h => (hW.2.2.1.2 k h).2.2.2.2.2
      refine w_iload hX dX3_keepIfBetter_16 rfl ?_
      refine w_aload_n (i := 1) hX dX3_keepIfBetter_18 rfl rfl ?_
      refine w_getI hX dX3_keepIfBetter_19 fo_RX3_60 rfl (bk_s hR.1) ?_
      refine w_top (y := nI (B 85)) hR.2.2.2.2.2.1 ?_
      refine wn_icmp_ge (tgt := 55) hX dX3_keepIfBetter_22 (by decide) (by first | omega | (split <;> omega)) (by first | omega | (split <;> omega)) (fun c2 => ?_) (fun c2 => ?_)
      · have e8 : woS B S k = woS B S (B 85) := by rw [show k = B 85 by omega]
        refine w_iload_n (i := 3) hX dX3_keepIfBetter_55 rfl rfl ?_
        refine w_aload_n (i := 0) hX dX3_keepIfBetter_56 rfl rfl ?_
        refine w_getI hX dX3_keepIfBetter_57 fo_RX3_47 rfl (pl_s hp) ?_
        refine w_top (y := nI (woS B bs (B 85))) hwo ?_
        refine wn_icmp_le (tgt := 73) hX dX3_keepIfBetter_60 (by decide) (by first | omega | (split <;> omega)) (by first | omega | (split <;> omega)) (fun c3 => ?_) (fun c3 => ?_)
        · exact w_vret hX hE dX3_keepIfBetter_73 (Or.inl rfl) ⟨by rw [if_neg (fun h9 => by omega)]; exact hwo, by rw [if_neg (fun h9 => by omega)]; exact hch, same.rf⟩
        · refine w_aload_n (i := 0) hX dX3_keepIfBetter_63 rfl rfl ?_
          refine w_iload_n (i := 3) hX dX3_keepIfBetter_64 rfl rfl ?_
          refine w_putI hX dX3_keepIfBetter_65 fo_RX3_47 rfl rfl rfl rfl (pl_s hp) ?_
          refine w_aload_n (i := 0) hX dX3_keepIfBetter_68 rfl rfl ?_
          refine w_iload_n (i := 2) hX dX3_keepIfBetter_69 rfl rfl ?_
          refine w_putI hX dX3_keepIfBetter_70 fo_RX3_70 rfl rfl rfl rfl (pl_s hp) ?_
          exact w_vret hX hE dX3_keepIfBetter_73 (Or.inl rfl) ⟨by rw [if_pos ⟨hzs, by omega⟩, gI_nk (by omega), gI_same, e8], by rw [if_pos ⟨hzs, by omega⟩, gI_same], (same.rf.sI ⟨rfl, Or.inl rfl⟩).sI ⟨rfl, Or.inr rfl⟩⟩
      · refine w_iload_n (i := 2) hX dX3_keepIfBetter_25 rfl rfl ?_
        refine w_iload hX dX3_keepIfBetter_26 rfl ?_
        refine w_ishr hX dX3_keepIfBetter_28 ?_
        refine w_iconst hX dX3_keepIfBetter_29 kI_1 ?_
        refine w_iand hX dX3_keepIfBetter_30 ?_
        refine w_top (y := nI (if S.testBit k = true then 1 else 0)) (bit31 (by omega) (by omega)) ?_
        refine w_iconst hX dX3_keepIfBetter_31 kI_1 ?_
        refine wn_icmp_ne (tgt := 49) hX dX3_keepIfBetter_32 (by decide) (by first | omega | (split <;> omega)) (by first | omega | (split <;> omega)) (fun c4 => ?_) (fun c4 => ?_)
        · refine w_iincN (w := 1) (l2 := [some (.ref p), some (.ref b), some (.int (nI S)), some (.int (nI (woS B S k))), some (.int (nI (k + 1)))]) hX dX3_keepIfBetter_49 rfl kI_1 rfl rfl ?_
          refine w_goto (tgt := 16) hX dX3_keepIfBetter_52 (by decide) ?_
          have e9 : woS B S (k + 1) = woS B S k := by simp only [woS]; rw [if_neg (fun h9 => by rw [if_pos h9] at c4; exact absurd rfl c4)]; rfl
          refine w_locs (ls2 := [some (.ref p), some (.ref b), some (.int (nI S)), some (.int (nI (woS B S (k + 1)))), some (.int (nI (k + 1)))]) (by rw [e9]) ?_
          exact ih (by omega)
        · refine w_iload_n (i := 3) hX dX3_keepIfBetter_35 rfl rfl ?_
          refine w_aload_n (i := 1) hX dX3_keepIfBetter_36 rfl rfl ?_
          refine w_getR (q := b + 3) hX dX3_keepIfBetter_37 fo_RX3_63 rfl (bk_s hR.1) (bk_r2 hR.1) ?_
          refine w_iload hX dX3_keepIfBetter_40 rfl ?_
          refine w_iconst hX dX3_keepIfBetter_42 kI_5 ?_
          refine w_imulN hX dX3_keepIfBetter_43 ?_
          refine w_iconst hX dX3_keepIfBetter_44 kI_4 ?_
          refine w_iaddN hX dX3_keepIfBetter_45 ?_
          refine w_ialdN hX dX3_keepIfBetter_46 (bk_a3 hR.1) (by omega) (by omega) ?_
          refine w_top (y := nI (B (86 + 5 * k + 4))) (by rw [hR.2.2.2.2.2.2.1 _ (by omega)]; congr 2; omega) ?_
          refine w_iaddN hX dX3_keepIfBetter_47 ?_
          refine w_istore_n (i := 3) (l2 := [some (.ref p), some (.ref b), some (.int (nI S)), some (.int (nI (woS B S k + (B (86 + 5 * k + 4))))), some (.int (nI k))]) hX dX3_keepIfBetter_48 rfl (ltb rfl) rfl rfl ?_
          refine w_iincN (w := 1) (l2 := [some (.ref p), some (.ref b), some (.int (nI S)), some (.int (nI (woS B S k + (B (86 + 5 * k + 4))))), some (.int (nI (k + 1)))]) hX dX3_keepIfBetter_49 rfl kI_1 rfl rfl ?_
          refine w_goto (tgt := 16) hX dX3_keepIfBetter_52 (by decide) ?_
          have e9 : woS B S (k + 1) = woS B S k + (B (86 + 5 * k + 4)) := by simp only [woS]; rw [if_pos (by by_cases h9 : S.testBit k = true; (exact h9); rw [if_neg h9] at c4; omega)]
          refine w_locs (ls2 := [some (.ref p), some (.ref b), some (.int (nI S)), some (.int (nI (woS B S (k + 1)))), some (.int (nI (k + 1)))]) (by rw [e9]) ?_
          exact ih (by omega)
    exact loop 0 (Nat.zero_le _)
  · exact w_vret hX hE dX3_keepIfBetter_10 (Or.inl rfl) ⟨by rw [if_neg (fun h9 => by rw [(oI_m1 hz2).mp c1] at h9; exact absurd h9.1 (by decide))]; exact hwo, by rw [if_neg (fun h9 => by rw [(oI_m1 hz2).mp c1] at h9; exact absurd h9.1 (by decide))]; exact hch, same.rf⟩
set_option maxHeartbeats 1000000 in
theorem s_p_winN (Γ : Gm) (μ : Mem) (p b : Nat) (B : Nat → Nat) (hp : isPl μ p) (hR : Rb μ b B) (hW : WB B) (w b0 : Nat) (hw : w < B 85) (hb0 : b0 ≤ 8000000)  : SpV Γ MX3_layWindows 1 0 0 [.ref p, .ref b, .int (nI w), .int (nI b0), .int ((-1 : Int32))] μ (fun μ2 => wnM μ2 p (WnB B b0 none) w ∧ same (fun o k => (o = p + 1 ∨ o = p + 2) ∧ (k = 2 * w ∨ k = 2 * w + 1)) μ μ2) := by
  refine SpV.of okX3_layWindows rfl [some (.ref p), some (.ref b), some (.int (nI w)), some (.int (nI b0)), some (.int ((-1 : Int32))), none, none, none] ⟨rfl, rfl, rfl, rfl, rfl, trivial⟩ (leb rfl) (leb rfl) (fun X hX hE hnm => ?_)
  have hn8 := hW.2.2.1.1
  obtain ⟨hk0, hk1, hk2, hk3, hk4, hk5⟩ := hW.2.2.1.2 w hw
  refine w_aload_n (i := 1) hX dX3_layWindows_0 rfl rfl ?_
  refine w_getR (q := b + 3) hX dX3_layWindows_1 fo_RX3_63 rfl (bk_s hR.1) (bk_r2 hR.1) ?_
  refine w_iload_n (i := 2) hX dX3_layWindows_4 rfl rfl ?_
  refine w_iconst hX dX3_layWindows_5 kI_5 ?_
  refine w_imulN hX dX3_layWindows_6 ?_
  refine w_iconst hX dX3_layWindows_7 kI_1 ?_
  refine w_iaddN hX dX3_layWindows_8 ?_
  refine w_ialdN hX dX3_layWindows_9 (bk_a3 hR.1) (by omega) (by omega) ?_
  refine w_top (y := nI (B (86 + 5 * w + 1))) (by rw [hR.2.2.2.2.2.2.1 _ (by omega)]; congr 2; omega) ?_
  refine w_istore (l2 := [some (.ref p), some (.ref b), some (.int (nI w)), some (.int (nI b0)), some (.int ((-1 : Int32))), some (.int (nI (B (86 + 5 * w + 1)))), none, none]) hX dX3_layWindows_10 (ltb rfl) rfl rfl ?_
  refine w_aload_n (i := 1) hX dX3_layWindows_12 rfl rfl ?_
  refine w_getR (q := b + 3) hX dX3_layWindows_13 fo_RX3_63 rfl (bk_s hR.1) (bk_r2 hR.1) ?_
  refine w_iload_n (i := 2) hX dX3_layWindows_16 rfl rfl ?_
  refine w_iconst hX dX3_layWindows_17 kI_5 ?_
  refine w_imulN hX dX3_layWindows_18 ?_
  refine w_iconst hX dX3_layWindows_19 kI_2 ?_
  refine w_iaddN hX dX3_layWindows_20 ?_
  refine w_ialdN hX dX3_layWindows_21 (bk_a3 hR.1) (by omega) (by omega) ?_
  refine w_top (y := nI (B (86 + 5 * w + 2))) (by rw [hR.2.2.2.2.2.2.1 _ (by omega)]; congr 2; omega) ?_
  refine w_istore (l2 := [some (.ref p), some (.ref b), some (.int (nI w)), some (.int (nI b0)), some (.int ((-1 : Int32))), some (.int (nI (B (86 + 5 * w + 1)))), some (.int (nI (B (86 + 5 * w + 2)))), none]) hX dX3_layWindows_22 (ltb rfl) rfl rfl ?_
  refine w_iconst hX dX3_layWindows_24 kI_2 ?_
  refine w_iload_n (i := 2) hX dX3_layWindows_25 rfl rfl ?_
  refine w_imulN hX dX3_layWindows_26 ?_
  refine w_istore (l2 := [some (.ref p), some (.ref b), some (.int (nI w)), some (.int (nI b0)), some (.int ((-1 : Int32))), some (.int (nI (B (86 + 5 * w + 1)))), some (.int (nI (B (86 + 5 * w + 2)))), some (.int (nI (2 * w)))]) hX dX3_layWindows_27 (ltb rfl) rfl rfl ?_
  refine w_aload_n (i := 0) hX dX3_layWindows_29 rfl rfl ?_
  refine w_getR (q := p + 1) hX dX3_layWindows_30 fo_RX3_11 rfl (pl_s hp) (pl_r0 hp) ?_
  refine w_iload hX dX3_layWindows_33 rfl ?_
  refine w_iload_n (i := 3) hX dX3_layWindows_35 rfl rfl ?_
  refine w_iload hX dX3_layWindows_36 rfl ?_
  refine w_iaddN hX dX3_layWindows_38 ?_
  refine w_iastN hX dX3_layWindows_39 (pl_a1 hp) (by omega) (by omega) ?_
  refine w_aload_n (i := 0) hX dX3_layWindows_40 rfl rfl ?_
  refine w_getR (q := p + 2) hX dX3_layWindows_41 fo_RX3_17 rfl (pl_s hp) (pl_r1 hp) ?_
  refine w_iload hX dX3_layWindows_44 rfl ?_
  refine w_iload_n (i := 3) hX dX3_layWindows_46 rfl rfl ?_
  refine w_iload hX dX3_layWindows_47 rfl ?_
  refine w_iconst hX dX3_layWindows_49 kI_m1 ?_
  refine wc_icmp_ne (tgt := 58) hX dX3_layWindows_50 (by decide) (fun c1 => ?_) (fun c1 => ?_)
  · exact absurd rfl c1
  · refine w_iload hX dX3_layWindows_53 rfl ?_
    refine w_goto (tgt := 65) hX dX3_layWindows_55 (by decide) ?_
    refine w_iaddN hX dX3_layWindows_65 ?_
    refine w_iastN hX dX3_layWindows_66 (pl_a2 hp) (by omega) (by omega) ?_
    refine w_aload_n (i := 0) hX dX3_layWindows_67 rfl rfl ?_
    refine w_getR (q := p + 1) hX dX3_layWindows_68 fo_RX3_11 rfl (pl_s hp) (pl_r0 hp) ?_
    refine w_iload hX dX3_layWindows_71 rfl ?_
    refine w_iconst hX dX3_layWindows_73 kI_1 ?_
    refine w_iaddN hX dX3_layWindows_74 ?_
    refine w_iload_n (i := 3) hX dX3_layWindows_75 rfl rfl ?_
    refine w_bipush hX dX3_layWindows_76 kB_60 ?_
    refine w_iaddN hX dX3_layWindows_78 ?_
    refine w_iload hX dX3_layWindows_79 rfl ?_
    refine w_iconst hX dX3_layWindows_81 kI_m1 ?_
    refine wc_icmp_ne (tgt := 90) hX dX3_layWindows_82 (by decide) (fun c2 => ?_) (fun c2 => ?_)
    · exact absurd rfl c2
    · refine w_iload hX dX3_layWindows_85 rfl ?_
      refine w_goto (tgt := 100) hX dX3_layWindows_87 (by decide) ?_
      refine w_iaddN hX dX3_layWindows_100 ?_
      refine w_iastN hX dX3_layWindows_101 (pl_a1 hp) (by omega) (by omega) ?_
      refine w_aload_n (i := 0) hX dX3_layWindows_102 rfl rfl ?_
      refine w_getR (q := p + 2) hX dX3_layWindows_103 fo_RX3_17 rfl (pl_s hp) (pl_r1 hp) ?_
      refine w_iload hX dX3_layWindows_106 rfl ?_
      refine w_iconst hX dX3_layWindows_108 kI_1 ?_
      refine w_iaddN hX dX3_layWindows_109 ?_
      refine w_iload_n (i := 3) hX dX3_layWindows_110 rfl rfl ?_
      refine w_bipush hX dX3_layWindows_111 kB_60 ?_
      refine w_iaddN hX dX3_layWindows_113 ?_
      refine w_iload hX dX3_layWindows_114 rfl ?_
      refine w_iaddN hX dX3_layWindows_116 ?_
      refine w_iastN hX dX3_layWindows_117 (pl_a2 hp) (by omega) (by omega) ?_
      exact w_vret hX hE dX3_layWindows_118 (Or.inl rfl) ⟨⟨by rw [gI_no (by omega), gI_nk (by omega), gI_no (by omega), gI_same]; rfl, by rw [gI_nk (by omega), gI_no (by omega), gI_same]; rfl, by rw [gI_no (by omega), gI_same]; rfl, by rw [gI_same]; rfl⟩, (((same.rf.sI ⟨Or.inl rfl, Or.inl rfl⟩).sI ⟨Or.inr rfl, Or.inl rfl⟩).sI ⟨Or.inl rfl, Or.inr rfl⟩).sI ⟨Or.inr rfl, Or.inr rfl⟩⟩
set_option maxHeartbeats 1000000 in
theorem s_p_winS (Γ : Gm) (μ : Mem) (p b : Nat) (B : Nat → Nat) (hp : isPl μ p) (hR : Rb μ b B) (hW : WB B) (w b0 : Nat) (hw : w < B 85) (hb0 : b0 ≤ 8000000) (s : Nat) (hs1 : 60 ≤ s) (hs : s ≤ 1440)  : SpV Γ MX3_layWindows 1 0 0 [.ref p, .ref b, .int (nI w), .int (nI b0), .int (nI s)] μ (fun μ2 => wnM μ2 p (WnB B b0 (some s)) w ∧ same (fun o k => (o = p + 1 ∨ o = p + 2) ∧ (k = 2 * w ∨ k = 2 * w + 1)) μ μ2) := by
  refine SpV.of okX3_layWindows rfl [some (.ref p), some (.ref b), some (.int (nI w)), some (.int (nI b0)), some (.int (nI s)), none, none, none] ⟨rfl, rfl, rfl, rfl, rfl, trivial⟩ (leb rfl) (leb rfl) (fun X hX hE hnm => ?_)
  have hn8 := hW.2.2.1.1
  obtain ⟨hk0, hk1, hk2, hk3, hk4, hk5⟩ := hW.2.2.1.2 w hw
  refine w_aload_n (i := 1) hX dX3_layWindows_0 rfl rfl ?_
  refine w_getR (q := b + 3) hX dX3_layWindows_1 fo_RX3_63 rfl (bk_s hR.1) (bk_r2 hR.1) ?_
  refine w_iload_n (i := 2) hX dX3_layWindows_4 rfl rfl ?_
  refine w_iconst hX dX3_layWindows_5 kI_5 ?_
  refine w_imulN hX dX3_layWindows_6 ?_
  refine w_iconst hX dX3_layWindows_7 kI_1 ?_
  refine w_iaddN hX dX3_layWindows_8 ?_
  refine w_ialdN hX dX3_layWindows_9 (bk_a3 hR.1) (by omega) (by omega) ?_
  refine w_top (y := nI (B (86 + 5 * w + 1))) (by rw [hR.2.2.2.2.2.2.1 _ (by omega)]; congr 2; omega) ?_
  refine w_istore (l2 := [some (.ref p), some (.ref b), some (.int (nI w)), some (.int (nI b0)), some (.int (nI s)), some (.int (nI (B (86 + 5 * w + 1)))), none, none]) hX dX3_layWindows_10 (ltb rfl) rfl rfl ?_
  refine w_aload_n (i := 1) hX dX3_layWindows_12 rfl rfl ?_
  refine w_getR (q := b + 3) hX dX3_layWindows_13 fo_RX3_63 rfl (bk_s hR.1) (bk_r2 hR.1) ?_
  refine w_iload_n (i := 2) hX dX3_layWindows_16 rfl rfl ?_
  refine w_iconst hX dX3_layWindows_17 kI_5 ?_
  refine w_imulN hX dX3_layWindows_18 ?_
  refine w_iconst hX dX3_layWindows_19 kI_2 ?_
  refine w_iaddN hX dX3_layWindows_20 ?_
  refine w_ialdN hX dX3_layWindows_21 (bk_a3 hR.1) (by omega) (by omega) ?_
  refine w_top (y := nI (B (86 + 5 * w + 2))) (by rw [hR.2.2.2.2.2.2.1 _ (by omega)]; congr 2; omega) ?_
  refine w_istore (l2 := [some (.ref p), some (.ref b), some (.int (nI w)), some (.int (nI b0)), some (.int (nI s)), some (.int (nI (B (86 + 5 * w + 1)))), some (.int (nI (B (86 + 5 * w + 2)))), none]) hX dX3_layWindows_22 (ltb rfl) rfl rfl ?_
  refine w_iconst hX dX3_layWindows_24 kI_2 ?_
  refine w_iload_n (i := 2) hX dX3_layWindows_25 rfl rfl ?_
  refine w_imulN hX dX3_layWindows_26 ?_
  refine w_istore (l2 := [some (.ref p), some (.ref b), some (.int (nI w)), some (.int (nI b0)), some (.int (nI s)), some (.int (nI (B (86 + 5 * w + 1)))), some (.int (nI (B (86 + 5 * w + 2)))), some (.int (nI (2 * w)))]) hX dX3_layWindows_27 (ltb rfl) rfl rfl ?_
  refine w_aload_n (i := 0) hX dX3_layWindows_29 rfl rfl ?_
  refine w_getR (q := p + 1) hX dX3_layWindows_30 fo_RX3_11 rfl (pl_s hp) (pl_r0 hp) ?_
  refine w_iload hX dX3_layWindows_33 rfl ?_
  refine w_iload_n (i := 3) hX dX3_layWindows_35 rfl rfl ?_
  refine w_iload hX dX3_layWindows_36 rfl ?_
  refine w_iaddN hX dX3_layWindows_38 ?_
  refine w_iastN hX dX3_layWindows_39 (pl_a1 hp) (by omega) (by omega) ?_
  refine w_aload_n (i := 0) hX dX3_layWindows_40 rfl rfl ?_
  refine w_getR (q := p + 2) hX dX3_layWindows_41 fo_RX3_17 rfl (pl_s hp) (pl_r1 hp) ?_
  refine w_iload hX dX3_layWindows_44 rfl ?_
  refine w_iload_n (i := 3) hX dX3_layWindows_46 rfl rfl ?_
  refine w_iload hX dX3_layWindows_47 rfl ?_
  refine w_iconst hX dX3_layWindows_49 kI_m1 ?_
  refine wc_icmp_ne (tgt := 58) hX dX3_layWindows_50 (by decide) (fun c1 => ?_) (fun c1 => ?_)
  · refine w_iload hX dX3_layWindows_58 rfl ?_
    refine w_iload hX dX3_layWindows_60 rfl ?_
    refine w_min hX dX3_layWindows_62 ml_RX3_82 (leb rfl) (leb rfl) ?_
    refine w_top (y := nI (min (B (86 + 5 * w + 2)) s)) (pmn_nI (by omega) (by omega)) ?_
    refine w_iaddN hX dX3_layWindows_65 ?_
    refine w_iastN hX dX3_layWindows_66 (pl_a2 hp) (by omega) (by omega) ?_
    refine w_aload_n (i := 0) hX dX3_layWindows_67 rfl rfl ?_
    refine w_getR (q := p + 1) hX dX3_layWindows_68 fo_RX3_11 rfl (pl_s hp) (pl_r0 hp) ?_
    refine w_iload hX dX3_layWindows_71 rfl ?_
    refine w_iconst hX dX3_layWindows_73 kI_1 ?_
    refine w_iaddN hX dX3_layWindows_74 ?_
    refine w_iload_n (i := 3) hX dX3_layWindows_75 rfl rfl ?_
    refine w_bipush hX dX3_layWindows_76 kB_60 ?_
    refine w_iaddN hX dX3_layWindows_78 ?_
    refine w_iload hX dX3_layWindows_79 rfl ?_
    refine w_iconst hX dX3_layWindows_81 kI_m1 ?_
    refine wc_icmp_ne (tgt := 90) hX dX3_layWindows_82 (by decide) (fun c2 => ?_) (fun c2 => ?_)
    · refine w_iload hX dX3_layWindows_90 rfl ?_
      refine w_iload hX dX3_layWindows_92 rfl ?_
      refine w_bipush hX dX3_layWindows_94 kB_60 ?_
      refine w_isubN hX dX3_layWindows_96 (by omega) ?_
      refine w_max hX dX3_layWindows_97 ml_RX3_88 (leb rfl) (leb rfl) ?_
      refine w_top (y := nI (max (B (86 + 5 * w + 1)) (s - 60))) (pmx_nI (by omega) (by omega)) ?_
      refine w_iaddN hX dX3_layWindows_100 ?_
      refine w_iastN hX dX3_layWindows_101 (pl_a1 hp) (by omega) (by omega) ?_
      refine w_aload_n (i := 0) hX dX3_layWindows_102 rfl rfl ?_
      refine w_getR (q := p + 2) hX dX3_layWindows_103 fo_RX3_17 rfl (pl_s hp) (pl_r1 hp) ?_
      refine w_iload hX dX3_layWindows_106 rfl ?_
      refine w_iconst hX dX3_layWindows_108 kI_1 ?_
      refine w_iaddN hX dX3_layWindows_109 ?_
      refine w_iload_n (i := 3) hX dX3_layWindows_110 rfl rfl ?_
      refine w_bipush hX dX3_layWindows_111 kB_60 ?_
      refine w_iaddN hX dX3_layWindows_113 ?_
      refine w_iload hX dX3_layWindows_114 rfl ?_
      refine w_iaddN hX dX3_layWindows_116 ?_
      refine w_iastN hX dX3_layWindows_117 (pl_a2 hp) (by omega) (by omega) ?_
      exact w_vret hX hE dX3_layWindows_118 (Or.inl rfl) ⟨⟨by rw [gI_no (by omega), gI_nk (by omega), gI_no (by omega), gI_same]; rfl, by rw [gI_nk (by omega), gI_no (by omega), gI_same]; rfl, by rw [gI_no (by omega), gI_same]; rfl, by rw [gI_same]; rfl⟩, (((same.rf.sI ⟨Or.inl rfl, Or.inl rfl⟩).sI ⟨Or.inr rfl, Or.inl rfl⟩).sI ⟨Or.inl rfl, Or.inr rfl⟩).sI ⟨Or.inr rfl, Or.inr rfl⟩⟩
    · exact absurd c2 (nI_m1 (by omega))
  · exact absurd c1 (nI_m1 (by omega))
theorem s_p_win (Γ : Gm) (μ : Mem) (p b : Nat) (B : Nat → Nat) (hp : isPl μ p) (hR : Rb μ b B) (hW : WB B) (w b0 : Nat) (hw : w < B 85) (hb0 : b0 ≤ 8000000) (sk : Option Nat) (hsk : ∀ s, sk = some s → 60 ≤ s ∧ s ≤ 1440) : SpV Γ MX3_layWindows 1 0 0 [.ref p, .ref b, .int (nI w), .int (nI b0), .int (oI sk)] μ (fun μ2 => wnM μ2 p (WnB B b0 sk) w ∧ same (fun o k => (o = p + 1 ∨ o = p + 2) ∧ (k = 2 * w ∨ k = 2 * w + 1)) μ μ2) := by
  cases sk with
  | none => exact s_p_winN Γ μ p b B hp hR hW w b0 hw hb0
  | some s => exact s_p_winS Γ μ p b B hp hR hW w b0 hw hb0 s (hsk s rfl).1 (hsk s rfl).2
