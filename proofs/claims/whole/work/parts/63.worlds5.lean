def skb (B : Nat → Nat) (s : Nat) : Nat → Nat → Option Nat
  | 0, _ => none
  | f + 1, bits => if pcn bits 12 = s ∧ exB B bits = false then some bits else skb B s f (bits + 1)
def sks (B : Nat → Nat) : Nat → Nat → Option Nat
  | 0, _ => none
  | f + 1, s => match skb B s (FB B) 1 with
    | some x => some x
    | none => sks B f (s + 1)
def skA (B : Nat → Nat) : Option Nat := sks B (B 352) 1
def wCon (μ : Mem) (w : Nat) (B : Nat → Nat) : Prop := gI μ w 6 = nI (B 352) ∧ (∀ i, i < 2 * B 352 → gI μ (w + 1) i = nI (mcB B i)) ∧ (∀ i, i < 2 * B 352 → gI μ (w + 2) i = nI (bw (clB B i) 24)) ∧ fnR μ w B (2 ^ B 352) ∧ (gI μ w 8 = (-2 : Int32) ∨ gI μ w 8 = oI (skA B))
def WdI (μ : Mem) (w : Nat) (B : Nat → Nat) : Prop := isWd μ w ∧ (gI μ w 5 = nI 0 ∨ (gI μ w 5 = nI 1 ∧ wCon μ w B))
def SW (w : Nat) : Nat → Nat → Prop := fun o k => (o = w ∧ 5 ≤ k) ∨ (w < o ∧ o ≤ w + 5)
theorem bw_none {f : Nat → Bool} : ∀ n, (∀ i, f i = false) → bw f n = 0 := by
  intro n h
  induction n with
  | zero => rfl
  | succ n ih => simp only [bw]; rw [ih, h n]; rfl
theorem fn0 {μ : Mem} {w : Nat} {B : Nat → Nat} (hf : ∀ k, k < 64 → gL μ (w + 4) k = 0) (ht : gI μ w 7 = nI 0) (hm : ∀ i, i < 24 → gI μ (w + 3) i = nI 0) (hP : B 352 ≤ 12) : fnR μ w B 0 := by
  refine ⟨fun k hk => ?_, ht, fun i hi => ?_⟩
  · have e : wdF (VF B) 0 k = 0 := bw_none 64 (fun b => by simp)
    rw [hf k hk, e]; rfl
  · have e : mtF B 0 i = 0 := bw_none _ (fun j => rfl)
    rw [hm i (by omega), e]
set_option maxHeartbeats 1000000 in
theorem s_w_prepare (Γ : Gm) (μ : Mem) (w b : Nat) (B : Nat → Nat) (hi : WdI μ w B) (hR : Rb μ b B) (hW : WB B) (hwb : w + 5 < b)  : SpV Γ MX7_prepare 3 0 0 [.ref w, .ref b] μ (fun μ2 => isWd μ2 w ∧ gI μ2 w 5 = nI 1 ∧ wCon μ2 w B ∧ same (SW w) μ μ2) := by
  refine SpV.of okX7_prepare rfl [some (.ref w), some (.ref b)] ⟨rfl, rfl, trivial⟩ (leb rfl) (leb rfl) (fun X hX hE hnm => ?_)
  refine w_aload_n (i := 0) hX dX7_prepare_0 rfl rfl ?_
  refine w_getI hX dX7_prepare_1 fo_RX7_30 rfl (wd_s hi.1) ?_
  refine wc_if_eq (tgt := 8) hX dX7_prepare_4 (by decide) (fun c1 => ?_) (fun c1 => ?_)
  · refine w_aload_n (i := 0) hX dX7_prepare_8 rfl rfl ?_
    refine w_iconst hX dX7_prepare_9 kI_1 ?_
    refine w_putI hX dX7_prepare_10 fo_RX7_30 rfl rfl rfl rfl (wd_s hi.1) ?_
    refine w_aload_n (i := 0) hX dX7_prepare_13 rfl rfl ?_
    refine w_aload_n (i := 1) hX dX7_prepare_14 rfl rfl ?_
    refine w_getI hX dX7_prepare_15 fo_RX7_34 rfl (bk_s hR.1) ?_
    refine w_top (y := nI (B 352)) (by rw [gI_no (by omega)]; exact hR.2.2.2.2.2.2.2.2.2.1) ?_
    refine w_putI hX dX7_prepare_18 fo_RX7_38 rfl rfl rfl rfl (wd_s hi.1) ?_
    refine w_aload_n (i := 0) hX dX7_prepare_21 rfl rfl ?_
    refine w_iconst hX dX7_prepare_22 kI_0 ?_
    refine w_putI hX dX7_prepare_23 fo_RX7_41 rfl rfl rfl rfl (wd_s hi.1) ?_
    refine w_aload_n (i := 0) hX dX7_prepare_26 rfl rfl ?_
    refine w_bipush hX dX7_prepare_27 kB_m2 ?_
    refine w_putI hX dX7_prepare_29 fo_RX7_44 rfl rfl rfl rfl (wd_s hi.1) ?_
    refine w_aload_n (i := 0) hX dX7_prepare_32 rfl rfl ?_
    refine w_getR (q := w + 3) hX dX7_prepare_33 fo_RX7_20 rfl (wd_s hi.1) (wd_r2 hi.1) ?_
    refine w_iconst hX dX7_prepare_36 kI_0 ?_
    refine w_callSV (As := [.ref (w + 3), .int (nI 0)]) (rest := []) (k2 := 0) (n2 := 0) hX dX7_prepare_37 (s_fillI Γ (sI (sI (sI (sI μ w 5 (nI 1)) w 6 (nI (B 352))) w 7 (nI 0)) w 8 (-2 : Int32)) (w + 3) 24 (nI 0) (wd_a3 hi.1) (by omega)) okJ7_fill_53178 ml_RX7_47 stJ7_fill_53178 rfl (leb rfl) (leb rfl) rfl rfl (fun νm hq9 => ?_)
    obtain ⟨hsm, hfm⟩ := hq9
    have hs0 : same (SW w) μ (sI (sI (sI (sI μ w 5 (nI 1)) w 6 (nI (B 352))) w 7 (nI 0)) w 8 (-2 : Int32)) := (((same.rf.sI (Or.inl ⟨rfl, by omega⟩)).sI (Or.inl ⟨rfl, by omega⟩)).sI (Or.inl ⟨rfl, by omega⟩)).sI (Or.inl ⟨rfl, by omega⟩)
    have hw0 := hs0.isWd hi.1
    have hR0 := Rb_same hs0 (fun o k h => Or.inl (by unfold SW at h; omega)) hR
    have hwm := hsm.isWd hw0
    have hRm := Rb_same hsm (fun o k h => Or.inl (by omega)) hR0
    refine w_aload_n (i := 0) hX dX7_prepare_40 rfl rfl ?_
    refine w_getR (q := w + 4) hX dX7_prepare_41 fo_RX7_23 rfl (wd_s hwm) (wd_r3 hwm) ?_
    refine w_lconst (v := 0) hX dX7_prepare_44 rfl ?_
    refine w_callSV (As := [.ref (w + 4), .long ((0 : Int64))]) (rest := []) (k2 := 0) (n2 := 0) hX dX7_prepare_45 (s_fillL Γ νm (w + 4) 64 (0 : Int64) (wd_a4 hwm) (by omega)) okJ7_fill_d0a16 ml_RX7_53 stJ7_fill_d0a16 rfl (leb rfl) (leb rfl) rfl rfl (fun νf hq9 => ?_)
    obtain ⟨hsf, hff⟩ := hq9
    have hwf := hsf.isWd hwm
    have hRf := Rb_same hsf (fun o k h => Or.inl (by omega)) hRm
    have g6 : gI νf w 6 = nI (B 352) := by rw [(hsf.2.2 _ _ (fun h => by omega)).1, (hsm.2.2 _ _ (fun h => by omega)).1, gI_nk (by omega), gI_nk (by omega), gI_same]
    have g7 : gI νf w 7 = nI 0 := by rw [(hsf.2.2 _ _ (fun h => by omega)).1, (hsm.2.2 _ _ (fun h => by omega)).1, gI_nk (by omega), gI_same]
    have g8 : gI νf w 8 = (-2 : Int32) := by rw [(hsf.2.2 _ _ (fun h => by omega)).1, (hsm.2.2 _ _ (fun h => by omega)).1, gI_same]
    have g5 : gI νf w 5 = nI 1 := by rw [(hsf.2.2 _ _ (fun h => by omega)).1, (hsm.2.2 _ _ (fun h => by omega)).1, gI_nk (by omega), gI_nk (by omega), gI_nk (by omega), gI_same]
    have hP12 := hW.2.2.2.2.1.1
    have hf0 := fn0 (B := B) hff g7 (fun i h9 => by rw [(hsf.2.2 _ _ (fun h => by omega)).1]; exact hfm i h9) hP12
    refine w_aload_n (i := 0) hX dX7_prepare_48 rfl rfl ?_
    refine w_aload_n (i := 1) hX dX7_prepare_49 rfl rfl ?_
    refine w_callVV (As := [.ref b]) (rest := []) (ci := 7) (o := w) (k2 := 0) (n2 := 0) hX dX7_prepare_50 (s_w_layM Γ νf w b B hwf hRf hW hwb g6) okX7_layMoments (ltb rfl) (wd_s hwf) ml_RX7_56 imX7_layMoments seX7_layMoments rfl (leb rfl) (leb rfl) rfl rfl (fun ν1 hq9 => ?_)
    obtain ⟨hm1, hs1⟩ := hq9
    have hw1 := hs1.isWd hwf
    have hR1 := Rb_same hs1 (fun o k h => Or.inl (by omega)) hRf
    refine w_aload_n (i := 0) hX dX7_prepare_53 rfl rfl ?_
    refine w_aload_n (i := 1) hX dX7_prepare_54 rfl rfl ?_
    refine w_callVV (As := [.ref b]) (rest := []) (ci := 7) (o := w) (k2 := 0) (n2 := 0) hX dX7_prepare_55 (s_w_layC Γ ν1 w b B hw1 hR1 hW hwb (by rw [(hs1.2.2 _ _ (fun h => by omega)).1]; exact g6) (fun i h9 => (hm1 i h9).1) (fun i h9 => (hm1 i h9).2)) okX7_layClashes (ltb rfl) (wd_s hw1) ml_RX7_60 imX7_layClashes seX7_layClashes rfl (leb rfl) (leb rfl) rfl rfl (fun ν2 hq9 => ?_)
    obtain ⟨hc2, hs2⟩ := hq9
    have hw2 := hs2.isWd hw1
    refine w_aload_n (i := 0) hX dX7_prepare_58 rfl rfl ?_
    refine w_callVV (As := []) (rest := []) (ci := 7) (o := w) (k2 := 0) (n2 := 0) hX dX7_prepare_59 (s_w_findAll Γ ν2 w hw2 B hW (by rw [(hs2.2.2 _ _ (fun h => by omega)).1, (hs1.2.2 _ _ (fun h => by omega)).1]; exact g6) hc2 ⟨fun k h9 => by rw [(hs2.2.2 _ _ (fun h => by omega)).2, (hs1.2.2 _ _ (fun h => by omega)).2]; exact hf0.1 k h9, by rw [(hs2.2.2 _ _ (fun h => by omega)).1, (hs1.2.2 _ _ (fun h => by omega)).1]; exact hf0.2.1, fun i h9 => by rw [(hs2.2.2 _ _ (fun h => by omega)).1, (hs1.2.2 _ _ (fun h => by omega)).1]; exact hf0.2.2 i h9⟩) okX7_findAll (ltb rfl) (wd_s hw2) ml_RX7_63 imX7_findAll seX7_findAll rfl (leb rfl) (leb rfl) rfl rfl (fun ν3 hq9 => ?_)
    obtain ⟨hfn, hs3⟩ := hq9
    refine w_vret hX hE dX7_prepare_62 (Or.inl rfl) ⟨hs3.isWd hw2, (by rw [(hs3.2.2 _ _ (fun h => by omega)).1, (hs2.2.2 _ _ (fun h => by omega)).1, (hs1.2.2 _ _ (fun h => by omega)).1]; exact g5), ⟨(by rw [(hs3.2.2 _ _ (fun h => by omega)).1, (hs2.2.2 _ _ (fun h => by omega)).1, (hs1.2.2 _ _ (fun h => by omega)).1]; exact g6), fun i h9 => by rw [(hs3.2.2 _ _ (fun h => by omega)).1, (hs2.2.2 _ _ (fun h => by omega)).1]; exact (hm1 i h9).1, fun i h9 => by rw [(hs3.2.2 _ _ (fun h => by omega)).1]; exact hc2 i h9, hfn, Or.inl (by rw [(hs3.2.2 _ _ (fun h => by omega)).1, (hs2.2.2 _ _ (fun h => by omega)).1, (hs1.2.2 _ _ (fun h => by omega)).1]; exact g8)⟩, ?_⟩
    exact ((((hs0.tr (hsm.up (fun o k h => by unfold SW; omega))).tr (hsf.up (fun o k h => by unfold SW; omega))).tr (hs1.up (fun o k h => by unfold SW; omega))).tr (hs2.up (fun o k h => by unfold SW; omega))).tr (hs3.up (fun o k h => by unfold SW; omega))
  · rcases hi.2 with h9 | h9
    · exact absurd h9 (by assumption)
    · exact w_vret hX hE dX7_prepare_7 (Or.inl rfl) ⟨hi.1, h9.1, h9.2, same.rf⟩
