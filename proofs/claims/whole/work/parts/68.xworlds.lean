theorem fnR_same {S : Nat → Nat → Prop} {μ ν : Mem} {w v : Nat} {B : Nat → Nat} (h : fnR μ w B v) (hs : same S μ ν) (h1 : ¬ S w 7) (h2 : ∀ k, ¬ S (w + 3) k) (h3 : ∀ k, ¬ S (w + 4) k) : fnR ν w B v :=
  ⟨fun k hk => by rw [(hs.2.2 _ _ (h3 k)).2]; exact h.1 k hk, by rw [(hs.2.2 _ _ h1).1]; exact h.2.1, fun i hi => by rw [(hs.2.2 _ _ (h2 i)).1]; exact h.2.2 i hi⟩
set_option maxHeartbeats 1000000 in
theorem s_w_fewest (Γ : Gm) (μ : Mem) (w : Nat) (B : Nat → Nat) (hw : isWd μ w) (hW : WB B) (hc : wCon μ w B)  : SpI Γ MX7_fewestApart 4 0 0 [.ref w] μ (fun r μ2 => r = oI (skA B) ∧ wCon μ2 w B ∧ same (fun o k => o = w + 5 ∨ (o = w ∧ k = 8)) μ μ2) := by
  refine SpI.of okX7_fewestApart rfl [some (.ref w)] ⟨rfl, trivial⟩ (leb rfl) (leb rfl) (fun X hX hE hnm => ?_)
  refine w_aload_n (i := 0) hX dX7_fewestApart_0 rfl rfl ?_
  refine w_getI hX dX7_fewestApart_1 fo_RX7_44 rfl (wd_s hw) ?_
  refine w_bipush hX dX7_fewestApart_4 kB_m2 ?_
  refine wc_icmp_ne (tgt := 17) hX dX7_fewestApart_6 (by decide) (fun c1 => ?_) (fun c1 => ?_)
  · refine w_aload_n (i := 0) hX dX7_fewestApart_17 rfl rfl ?_
    refine w_getI hX dX7_fewestApart_18 fo_RX7_44 rfl (wd_s hw) ?_
    refine w_top (y := oI (skA B)) (by rcases hc.2.2.2.2 with h9 | h9; (exact absurd h9 c1); exact h9) ?_
    exact w_iret hX hE dX7_fewestApart_21 (Or.inl rfl) rfl ⟨rfl, hc, same.rf⟩
  · refine w_aload_n (i := 0) hX dX7_fewestApart_9 rfl rfl ?_
    refine w_aload_n (i := 0) hX dX7_fewestApart_10 rfl rfl ?_
    refine w_callVI (As := []) (rest := [.ref w]) (ci := 7) (o := w) (k2 := 0) (n2 := 0) hX dX7_fewestApart_11 (s_w_seek Γ μ w hw B hW hc.1 hc.2.2.1) okX7_seekApart (ltb rfl) (wd_s hw) ml_RX7_81 imX7_seekApart seX7_seekApart rfl (leb rfl) (leb rfl) rfl rfl (fun r9 ν hq9 => ?_)
    obtain ⟨hr9, hs9⟩ := hq9; rw [hr9]
    have hwk := hs9.isWd hw
    refine w_putI hX dX7_fewestApart_14 fo_RX7_44 rfl rfl rfl rfl (wd_s hwk) ?_
    refine w_aload_n (i := 0) hX dX7_fewestApart_17 rfl rfl ?_
    refine w_getI hX dX7_fewestApart_18 fo_RX7_44 rfl (wd_s hwk) ?_
    refine w_top (y := oI (skA B)) gI_same ?_
    exact w_iret hX hE dX7_fewestApart_21 (Or.inl rfl) rfl ⟨rfl, ⟨by rw [gI_nk (by omega), (hs9.2.2 _ _ (fun h => by omega)).1]; exact hc.1, fun i hi => by rw [gI_no (by omega), (hs9.2.2 _ _ (fun h => by omega)).1]; exact hc.2.1 i hi, fun i hi => by rw [gI_no (by omega), (hs9.2.2 _ _ (fun h => by omega)).1]; exact hc.2.2.1 i hi, fnR_same (fnR_same hc.2.2.2.1 hs9 (by omega) (by omega) (by omega)) (same.rf.sI ⟨rfl, rfl⟩ : same (fun o k => o = w ∧ k = 8) ν _) (by omega) (by omega) (by omega), Or.inr gI_same⟩, (hs9.up (fun o k h => Or.inl h)).sI (Or.inr ⟨rfl, rfl⟩)⟩
def totB (B : Nat → Nat) : Nat := cvV (VF B) (2 ^ B 352)
theorem totB_le {B : Nat → Nat} (hW : WB B) : totB B ≤ 4096 := Nat.le_trans (cvV_le _) (p12 hW.2.2.2.2.1.1)
def A_worlds (B : Nat → Nat) : Int32 := nI (totB B)
def A_world (B : Nat → Nat) (n p : Int32) : Int32 := if (inC n (totB B) && inC p (B 352)) = true then nI (mcB B (2 * tN p + pkb (B 352) (nwV (VF B) (tN n) (2 ^ B 352)) (tN p))) else -1
def A_sure (B : Nat → Nat) (p : Int32) : Int32 := if inC p (B 352) = true then E_sure B (tN p) else -1
def A_before (B : Nat → Nat) (a b : Int32) : Int32 := if (inC a (B 352) && inC b (B 352)) = true ∧ a ≠ b then nI (E_bef B (tN a) (tN b)) else -1
def A_together (B : Nat → Nat) : Int32 := if 0 < totB B then -1 else oI (skA B)
def A_open (B : Nat → Nat) : Int32 := if 0 < totB B then nI (E_open B (B 352)) else -1
set_option maxHeartbeats 1000000 in
theorem s_x_worlds (Γ : Gm) (μ : Mem) (b c9 : Nat) (B : Nat → Nat) (hx : isX μ b c9) (hR : Rb μ b B) (hW : WB B) (hb25 : 25 ≤ b) (hi : WdI μ 6 B)  : SpI Γ MX8_worlds 4 0 0 [.ref 0] μ (fun r μ2 => r = A_worlds B ∧ WdI μ2 6 B ∧ same (SW 6) μ μ2) := by
  refine SpI.of okX8_worlds rfl [some (.ref 0)] ⟨rfl, trivial⟩ (leb rfl) (leb rfl) (fun X hX hE hnm => ?_)
  refine w_aload_n (i := 0) hX dX8_worlds_0 rfl rfl ?_
  refine w_getR (q := 6) hX dX8_worlds_1 fo_RX8_26 rfl hx.1 hx.2.2.2.1 ?_
  refine w_aload_n (i := 0) hX dX8_worlds_4 rfl rfl ?_
  refine w_getR (q := b) hX dX8_worlds_5 fo_RX8_54 rfl hx.1 hx.2.2.2.2.2.2.2.1 ?_
  refine w_callVV (As := [.ref b]) (rest := []) (ci := 7) (o := 6) (k2 := 0) (n2 := 0) hX dX8_worlds_8 (s_w_prepare Γ μ 6 b B hi hR hW (by omega)) okX7_prepare (ltb rfl) (wd_s hi.1) ml_RX8_118 imX7_prepare seX7_prepare rfl (leb rfl) (leb rfl) rfl rfl (fun νc hq9 => ?_)
  obtain ⟨hwc, h5, hc, hs⟩ := hq9
  have hxc := hs.isX hx
  have hRc := Rb_same hs (fun o k h => Or.inl (by unfold SW at h; omega)) hR
  have htl := totB_le hW
  refine w_aload_n (i := 0) hX dX8_worlds_11 rfl rfl ?_
  refine w_getR (q := 6) hX dX8_worlds_12 fo_RX8_26 rfl hxc.1 hxc.2.2.2.1 ?_
  refine w_getI hX dX8_worlds_15 fo_RX8_122 rfl (wd_s hwc) ?_
  refine w_top (y := nI (totB B)) hc.2.2.2.1.2.1 ?_
  exact w_iret hX hE dX8_worlds_18 (Or.inl rfl) rfl ⟨rfl, ⟨hwc, Or.inr ⟨h5, hc⟩⟩, hs⟩
set_option maxHeartbeats 1000000 in
theorem s_x_world (Γ : Gm) (μ : Mem) (b c9 : Nat) (B : Nat → Nat) (hx : isX μ b c9) (hR : Rb μ b B) (hW : WB B) (hb25 : 25 ≤ b) (hi : WdI μ 6 B) (n p : Int32) : SpI Γ MX8_world 4 0 0 [.ref 0, .int n, .int p] μ (fun r μ2 => r = A_world B n p ∧ WdI μ2 6 B ∧ same (SW 6) μ μ2) := by
  refine SpI.of okX8_world rfl [some (.ref 0), some (.int n), some (.int p)] ⟨rfl, rfl, rfl, trivial⟩ (leb rfl) (leb rfl) (fun X hX hE hnm => ?_)
  refine w_aload_n (i := 0) hX dX8_world_0 rfl rfl ?_
  refine w_getR (q := 6) hX dX8_world_1 fo_RX8_26 rfl hx.1 hx.2.2.2.1 ?_
  refine w_aload_n (i := 0) hX dX8_world_4 rfl rfl ?_
  refine w_getR (q := b) hX dX8_world_5 fo_RX8_54 rfl hx.1 hx.2.2.2.2.2.2.2.1 ?_
  refine w_callVV (As := [.ref b]) (rest := []) (ci := 7) (o := 6) (k2 := 0) (n2 := 0) hX dX8_world_8 (s_w_prepare Γ μ 6 b B hi hR hW (by omega)) okX7_prepare (ltb rfl) (wd_s hi.1) ml_RX8_118 imX7_prepare seX7_prepare rfl (leb rfl) (leb rfl) rfl rfl (fun νc hq9 => ?_)
  obtain ⟨hwc, h5, hc, hs⟩ := hq9
  have hxc := hs.isX hx
  have hRc := Rb_same hs (fun o k h => Or.inl (by unfold SW at h; omega)) hR
  have htl := totB_le hW
  refine w_iload_n (i := 1) hX dX8_world_11 rfl rfl ?_
  refine w_iconst hX dX8_world_12 kI_0 ?_
  refine w_aload_n (i := 0) hX dX8_world_13 rfl rfl ?_
  refine w_getR (q := 6) hX dX8_world_14 fo_RX8_26 rfl hxc.1 hxc.2.2.2.1 ?_
  refine w_getI hX dX8_world_17 fo_RX8_122 rfl (wd_s hwc) ?_
  refine w_top (y := nI (totB B)) hc.2.2.2.1.2.1 ?_
  refine w_iconst hX dX8_world_20 kI_1 ?_
  refine w_isub hX dX8_world_21 ?_
  refine w_callSI (As := [.int n, .int (nI 0), .int ((nI (totB B)) - (nI 1))]) (rest := []) (k2 := 0) (n2 := 0) hX dX8_world_22 (s_within Γ νc n (nI 0) (nI (totB B) - nI 1)) okX8_within ml_RX8_81 stX8_within rfl (leb rfl) (leb rfl) rfl rfl (fun r9 μ9 hq9 => ?_)
  obtain ⟨hr9, hm9⟩ := hq9; rw [hr9, hm9, inC_inR (by omega)]; clear hr9 hm9 r9 μ9
  refine wb_eq (tgt := 45) hX dX8_world_25 (by decide) (fun hN => ?_) (fun hN => ?_)
  · refine w_iconst hX dX8_world_45 kI_m1 ?_
    exact w_iret hX hE dX8_world_46 (Or.inl rfl) rfl ⟨by unfold A_world; simp only [hN, Bool.false_and, Bool.false_eq_true, if_false], ⟨hwc, Or.inr ⟨h5, hc⟩⟩, hs⟩
  · refine w_iload_n (i := 2) hX dX8_world_28 rfl rfl ?_
    refine w_iconst hX dX8_world_29 kI_0 ?_
    refine w_aload_n (i := 0) hX dX8_world_30 rfl rfl ?_
    refine w_getR (q := b) hX dX8_world_31 fo_RX8_54 rfl hxc.1 hxc.2.2.2.2.2.2.2.1 ?_
    refine w_getI hX dX8_world_34 fo_RX8_111 rfl (bk_s hRc.1) ?_
    refine w_top (y := nI (B 352)) hRc.2.2.2.2.2.2.2.2.2.1 ?_
    refine w_iconst hX dX8_world_37 kI_1 ?_
    refine w_isub hX dX8_world_38 ?_
    refine w_callSI (As := [.int p, .int (nI 0), .int ((nI (B 352)) - (nI 1))]) (rest := []) (k2 := 0) (n2 := 0) hX dX8_world_39 (s_within Γ νc p (nI 0) (nI (B 352) - nI 1)) okX8_within ml_RX8_81 stX8_within rfl (leb rfl) (leb rfl) rfl rfl (fun r9 μ9 hq9 => ?_)
    obtain ⟨hr9, hm9⟩ := hq9; rw [hr9, hm9, inC_inR (by have := hW.2.2.2.2.1.1; omega)]; clear hr9 hm9 r9 μ9
    refine wb_ne (tgt := 47) hX dX8_world_42 (by decide) (fun hP => ?_) (fun hP => ?_)
    · have hP12 := hW.2.2.2.2.1.1
      have hn9 := inC_nI (by omega) hN; have hp9 := inC_nI (by omega) hP
      refine w_aload_n (i := 0) hX dX8_world_47 rfl rfl ?_
      refine w_getR (q := 6) hX dX8_world_48 fo_RX8_26 rfl hxc.1 hxc.2.2.2.1 ?_
      refine w_iload_n (i := 1) hX dX8_world_51 rfl rfl ?_
      refine w_top (y := nI (tN n)) hn9.1 ?_
      refine w_iload_n (i := 2) hX dX8_world_52 rfl rfl ?_
      refine w_top (y := nI (tN p)) hp9.1 ?_
      refine w_callVI (As := [.int (nI (tN n)), .int (nI (tN p))]) (rest := []) (ci := 7) (o := 6) (k2 := 0) (n2 := 0) hX dX8_world_53 (s_w_momentIn Γ νc 6 B hwc hW hc (tN n) (tN p) hn9.2 hp9.2) okX7_momentIn (ltb rfl) (wd_s hwc) ml_RX8_125 imX7_momentIn seX7_momentIn rfl (leb rfl) (leb rfl) rfl rfl (fun r9 μ9 hq9 => ?_)
      obtain ⟨hr9, hm9⟩ := hq9; rw [hr9, hm9]; clear hr9 hm9 r9 μ9
      exact w_iret hX hE dX8_world_56 (Or.inl rfl) rfl ⟨by unfold A_world; rw [if_pos (by rw [hN, hP]; rfl)], ⟨hwc, Or.inr ⟨h5, hc⟩⟩, hs⟩
    · refine w_iconst hX dX8_world_45 kI_m1 ?_
      exact w_iret hX hE dX8_world_46 (Or.inl rfl) rfl ⟨by unfold A_world; simp only [hN, hP, Bool.and_false, Bool.false_and, Bool.false_eq_true, if_false], ⟨hwc, Or.inr ⟨h5, hc⟩⟩, hs⟩
set_option maxHeartbeats 1000000 in
theorem s_x_sure (Γ : Gm) (μ : Mem) (b c9 : Nat) (B : Nat → Nat) (hx : isX μ b c9) (hR : Rb μ b B) (hW : WB B) (hb25 : 25 ≤ b) (hi : WdI μ 6 B) (p : Int32) : SpI Γ MX8_sure 4 0 0 [.ref 0, .int p] μ (fun r μ2 => r = A_sure B p ∧ WdI μ2 6 B ∧ same (SW 6) μ μ2) := by
  refine SpI.of okX8_sure rfl [some (.ref 0), some (.int p)] ⟨rfl, rfl, trivial⟩ (leb rfl) (leb rfl) (fun X hX hE hnm => ?_)
  refine w_iload_n (i := 1) hX dX8_sure_0 rfl rfl ?_
  refine w_iconst hX dX8_sure_1 kI_0 ?_
  refine w_aload_n (i := 0) hX dX8_sure_2 rfl rfl ?_
  refine w_getR (q := b) hX dX8_sure_3 fo_RX8_54 rfl hx.1 hx.2.2.2.2.2.2.2.1 ?_
  refine w_getI hX dX8_sure_6 fo_RX8_111 rfl (bk_s hR.1) ?_
  refine w_top (y := nI (B 352)) hR.2.2.2.2.2.2.2.2.2.1 ?_
  refine w_iconst hX dX8_sure_9 kI_1 ?_
  refine w_isub hX dX8_sure_10 ?_
  refine w_callSI (As := [.int p, .int (nI 0), .int ((nI (B 352)) - (nI 1))]) (rest := []) (k2 := 0) (n2 := 0) hX dX8_sure_11 (s_within Γ μ p (nI 0) (nI (B 352) - nI 1)) okX8_within ml_RX8_81 stX8_within rfl (leb rfl) (leb rfl) rfl rfl (fun r9 μ9 hq9 => ?_)
  obtain ⟨hr9, hm9⟩ := hq9; rw [hr9, hm9, inC_inR (by have := hW.2.2.2.2.1.1; omega)]; clear hr9 hm9 r9 μ9
  refine wb_ne (tgt := 19) hX dX8_sure_14 (by decide) (fun hP => ?_) (fun hP => ?_)
  · have hP12 := hW.2.2.2.2.1.1
    have hp9 := inC_nI (by omega) hP
    refine w_aload_n (i := 0) hX dX8_sure_19 rfl rfl ?_
    refine w_getR (q := 6) hX dX8_sure_20 fo_RX8_26 rfl hx.1 hx.2.2.2.1 ?_
    refine w_aload_n (i := 0) hX dX8_sure_23 rfl rfl ?_
    refine w_getR (q := b) hX dX8_sure_24 fo_RX8_54 rfl hx.1 hx.2.2.2.2.2.2.2.1 ?_
    refine w_callVV (As := [.ref b]) (rest := []) (ci := 7) (o := 6) (k2 := 0) (n2 := 0) hX dX8_sure_27 (s_w_prepare Γ μ 6 b B hi hR hW (by omega)) okX7_prepare (ltb rfl) (wd_s hi.1) ml_RX8_118 imX7_prepare seX7_prepare rfl (leb rfl) (leb rfl) rfl rfl (fun νc hq9 => ?_)
    obtain ⟨hwc, h5, hc, hs⟩ := hq9
    have hxc := hs.isX hx
    have hRc := Rb_same hs (fun o k h => Or.inl (by unfold SW at h; omega)) hR
    have htl := totB_le hW
    refine w_aload_n (i := 0) hX dX8_sure_30 rfl rfl ?_
    refine w_getR (q := 6) hX dX8_sure_31 fo_RX8_26 rfl hxc.1 hxc.2.2.2.1 ?_
    refine w_iload_n (i := 1) hX dX8_sure_34 rfl rfl ?_
    refine w_top (y := nI (tN p)) hp9.1 ?_
    refine w_callVI (As := [.int (nI (tN p))]) (rest := []) (ci := 7) (o := 6) (k2 := 0) (n2 := 0) hX dX8_sure_35 (s_w_sure Γ νc 6 B hwc hW hc (tN p) hp9.2) okX7_sureMoment (ltb rfl) (wd_s hwc) ml_RX8_128 imX7_sureMoment seX7_sureMoment rfl (leb rfl) (leb rfl) rfl rfl (fun r9 μ9 hq9 => ?_)
    obtain ⟨hr9, hm9⟩ := hq9; rw [hr9, hm9]; clear hr9 hm9 r9 μ9
    exact w_iret hX hE dX8_sure_38 (Or.inl rfl) rfl ⟨by unfold A_sure; rw [if_pos hP], ⟨hwc, Or.inr ⟨h5, hc⟩⟩, hs⟩
  · refine w_iconst hX dX8_sure_17 kI_m1 ?_
    exact w_iret hX hE dX8_sure_18 (Or.inl rfl) rfl ⟨by unfold A_sure; rw [if_neg (by rw [hP]; decide)], hi, same.rf⟩
set_option maxHeartbeats 1000000 in
theorem s_x_before (Γ : Gm) (μ : Mem) (b c9 : Nat) (B : Nat → Nat) (hx : isX μ b c9) (hR : Rb μ b B) (hW : WB B) (hb25 : 25 ≤ b) (hi : WdI μ 6 B) (a e : Int32) : SpI Γ MX8_before 4 0 0 [.ref 0, .int a, .int e] μ (fun r μ2 => r = A_before B a e ∧ WdI μ2 6 B ∧ same (SW 6) μ μ2) := by
  refine SpI.of okX8_before rfl [some (.ref 0), some (.int a), some (.int e)] ⟨rfl, rfl, rfl, trivial⟩ (leb rfl) (leb rfl) (fun X hX hE hnm => ?_)
  refine w_iload_n (i := 1) hX dX8_before_0 rfl rfl ?_
  refine w_iconst hX dX8_before_1 kI_0 ?_
  refine w_aload_n (i := 0) hX dX8_before_2 rfl rfl ?_
  refine w_getR (q := b) hX dX8_before_3 fo_RX8_54 rfl hx.1 hx.2.2.2.2.2.2.2.1 ?_
  refine w_getI hX dX8_before_6 fo_RX8_111 rfl (bk_s hR.1) ?_
  refine w_top (y := nI (B 352)) hR.2.2.2.2.2.2.2.2.2.1 ?_
  refine w_iconst hX dX8_before_9 kI_1 ?_
  refine w_isub hX dX8_before_10 ?_
  refine w_callSI (As := [.int a, .int (nI 0), .int ((nI (B 352)) - (nI 1))]) (rest := []) (k2 := 0) (n2 := 0) hX dX8_before_11 (s_within Γ μ a (nI 0) (nI (B 352) - nI 1)) okX8_within ml_RX8_81 stX8_within rfl (leb rfl) (leb rfl) rfl rfl (fun r9 μ9 hq9 => ?_)
  obtain ⟨hr9, hm9⟩ := hq9; rw [hr9, hm9, inC_inR (by have := hW.2.2.2.2.1.1; omega)]; clear hr9 hm9 r9 μ9
  refine wb_eq (tgt := 39) hX dX8_before_14 (by decide) (fun hA => ?_) (fun hA => ?_)
  · refine w_iconst hX dX8_before_39 kI_m1 ?_
    exact w_iret hX hE dX8_before_40 (Or.inl rfl) rfl ⟨by unfold A_before; simp [*], hi, same.rf⟩
  · refine w_iload_n (i := 2) hX dX8_before_17 rfl rfl ?_
    refine w_iconst hX dX8_before_18 kI_0 ?_
    refine w_aload_n (i := 0) hX dX8_before_19 rfl rfl ?_
    refine w_getR (q := b) hX dX8_before_20 fo_RX8_54 rfl hx.1 hx.2.2.2.2.2.2.2.1 ?_
    refine w_getI hX dX8_before_23 fo_RX8_111 rfl (bk_s hR.1) ?_
    refine w_top (y := nI (B 352)) hR.2.2.2.2.2.2.2.2.2.1 ?_
    refine w_iconst hX dX8_before_26 kI_1 ?_
    refine w_isub hX dX8_before_27 ?_
    refine w_callSI (As := [.int e, .int (nI 0), .int ((nI (B 352)) - (nI 1))]) (rest := []) (k2 := 0) (n2 := 0) hX dX8_before_28 (s_within Γ μ e (nI 0) (nI (B 352) - nI 1)) okX8_within ml_RX8_81 stX8_within rfl (leb rfl) (leb rfl) rfl rfl (fun r9 μ9 hq9 => ?_)
    obtain ⟨hr9, hm9⟩ := hq9; rw [hr9, hm9, inC_inR (by have := hW.2.2.2.2.1.1; omega)]; clear hr9 hm9 r9 μ9
    refine wb_eq (tgt := 39) hX dX8_before_31 (by decide) (fun hB9 => ?_) (fun hB9 => ?_)
    · refine w_iconst hX dX8_before_39 kI_m1 ?_
      exact w_iret hX hE dX8_before_40 (Or.inl rfl) rfl ⟨by unfold A_before; simp [*], hi, same.rf⟩
    · refine w_iload_n (i := 1) hX dX8_before_34 rfl rfl ?_
      refine w_iload_n (i := 2) hX dX8_before_35 rfl rfl ?_
      refine wc_icmp_ne (tgt := 41) hX dX8_before_36 (by decide) (fun c3 => ?_) (fun c3 => ?_)
      · have hP12 := hW.2.2.2.2.1.1
        have ha9 := inC_nI (by omega) hA
        have he9 := inC_nI (by omega) hB9
        refine w_aload_n (i := 0) hX dX8_before_41 rfl rfl ?_
        refine w_getR (q := 6) hX dX8_before_42 fo_RX8_26 rfl hx.1 hx.2.2.2.1 ?_
        refine w_aload_n (i := 0) hX dX8_before_45 rfl rfl ?_
        refine w_getR (q := b) hX dX8_before_46 fo_RX8_54 rfl hx.1 hx.2.2.2.2.2.2.2.1 ?_
        refine w_callVV (As := [.ref b]) (rest := []) (ci := 7) (o := 6) (k2 := 0) (n2 := 0) hX dX8_before_49 (s_w_prepare Γ μ 6 b B hi hR hW (by omega)) okX7_prepare (ltb rfl) (wd_s hi.1) ml_RX8_118 imX7_prepare seX7_prepare rfl (leb rfl) (leb rfl) rfl rfl (fun νc hq9 => ?_)
        obtain ⟨hwc, h5, hc, hs⟩ := hq9
        have hxc := hs.isX hx
        have hRc := Rb_same hs (fun o k h => Or.inl (by unfold SW at h; omega)) hR
        have htl := totB_le hW
        refine w_aload_n (i := 0) hX dX8_before_52 rfl rfl ?_
        refine w_getR (q := 6) hX dX8_before_53 fo_RX8_26 rfl hxc.1 hxc.2.2.2.1 ?_
        refine w_iload_n (i := 1) hX dX8_before_56 rfl rfl ?_
        refine w_top (y := nI (tN a)) ha9.1 ?_
        refine w_iload_n (i := 2) hX dX8_before_57 rfl rfl ?_
        refine w_top (y := nI (tN e)) he9.1 ?_
        refine w_callVI (As := [.int (nI (tN a)), .int (nI (tN e))]) (rest := []) (ci := 7) (o := 6) (k2 := 0) (n2 := 0) hX dX8_before_58 (s_w_canBe Γ νc 6 B hwc hW hc (tN a) (tN e) ha9.2 he9.2) okX7_canBe (ltb rfl) (wd_s hwc) ml_RX8_131 imX7_canBe seX7_canBe rfl (leb rfl) (leb rfl) rfl rfl (fun r9 μ9 hq9 => ?_)
        obtain ⟨hr9, hm9⟩ := hq9; rw [hr9, hm9]; clear hr9 hm9 r9 μ9
        exact w_iret hX hE dX8_before_61 (Or.inl rfl) rfl ⟨by unfold A_before; rw [if_pos ⟨by rw [hA, hB9]; rfl, by assumption⟩], ⟨hwc, Or.inr ⟨h5, hc⟩⟩, hs⟩
      · refine w_iconst hX dX8_before_39 kI_m1 ?_
        exact w_iret hX hE dX8_before_40 (Or.inl rfl) rfl ⟨by unfold A_before; simp [*], hi, same.rf⟩
set_option maxHeartbeats 1000000 in
theorem s_x_together (Γ : Gm) (μ : Mem) (b c9 : Nat) (B : Nat → Nat) (hx : isX μ b c9) (hR : Rb μ b B) (hW : WB B) (hb25 : 25 ≤ b) (hi : WdI μ 6 B)  : SpI Γ MX8_together 5 0 0 [.ref 0] μ (fun r μ2 => r = A_together B ∧ WdI μ2 6 B ∧ same (SW 6) μ μ2) := by
  refine SpI.of okX8_together rfl [some (.ref 0)] ⟨rfl, trivial⟩ (leb rfl) (leb rfl) (fun X hX hE hnm => ?_)
  refine w_aload_n (i := 0) hX dX8_together_0 rfl rfl ?_
  refine w_getR (q := 6) hX dX8_together_1 fo_RX8_26 rfl hx.1 hx.2.2.2.1 ?_
  refine w_aload_n (i := 0) hX dX8_together_4 rfl rfl ?_
  refine w_getR (q := b) hX dX8_together_5 fo_RX8_54 rfl hx.1 hx.2.2.2.2.2.2.2.1 ?_
  refine w_callVV (As := [.ref b]) (rest := []) (ci := 7) (o := 6) (k2 := 0) (n2 := 0) hX dX8_together_8 (s_w_prepare Γ μ 6 b B hi hR hW (by omega)) okX7_prepare (ltb rfl) (wd_s hi.1) ml_RX8_118 imX7_prepare seX7_prepare rfl (leb rfl) (leb rfl) rfl rfl (fun νc hq9 => ?_)
  obtain ⟨hwc, h5, hc, hs⟩ := hq9
  have hxc := hs.isX hx
  have hRc := Rb_same hs (fun o k h => Or.inl (by unfold SW at h; omega)) hR
  have htl := totB_le hW
  refine w_aload_n (i := 0) hX dX8_together_11 rfl rfl ?_
  refine w_getR (q := 6) hX dX8_together_12 fo_RX8_26 rfl hxc.1 hxc.2.2.2.1 ?_
  refine w_getI hX dX8_together_15 fo_RX8_122 rfl (wd_s hwc) ?_
  refine w_top (y := nI (totB B)) hc.2.2.2.1.2.1 ?_
  refine wn_if_le (tgt := 25) hX dX8_together_18 (by decide) (by omega) (fun c1 => ?_) (fun c1 => ?_)
  · refine w_aload_n (i := 0) hX dX8_together_25 rfl rfl ?_
    refine w_getR (q := 6) hX dX8_together_26 fo_RX8_26 rfl hxc.1 hxc.2.2.2.1 ?_
    refine w_callVI (As := []) (rest := []) (ci := 7) (o := 6) (k2 := 0) (n2 := 0) hX dX8_together_29 (s_w_fewest Γ νc 6 B hwc hW hc) okX7_fewestApart (ltb rfl) (wd_s hwc) ml_RX8_134 imX7_fewestApart seX7_fewestApart rfl (leb rfl) (leb rfl) rfl rfl (fun r9 νd hq9 => ?_)
    obtain ⟨hr9, hcd, hsd⟩ := hq9; rw [hr9]
    exact w_iret hX hE dX8_together_32 (Or.inl rfl) rfl ⟨by unfold A_together; rw [if_neg (by omega)], ⟨hsd.isWd hwc, Or.inr ⟨by rw [(hsd.2.2 _ _ (fun h => by omega)).1]; exact h5, hcd⟩⟩, hs.tr (hsd.up (fun o k h => by unfold SW; omega))⟩
  · refine w_iconst hX dX8_together_21 kI_m1 ?_
    refine w_goto (tgt := 32) hX dX8_together_22 (by decide) ?_
    exact w_iret hX hE dX8_together_32 (Or.inl rfl) rfl ⟨by unfold A_together; rw [if_pos (by omega)], ⟨hwc, Or.inr ⟨h5, hc⟩⟩, hs⟩
set_option maxHeartbeats 1000000 in
theorem s_x_open (Γ : Gm) (μ : Mem) (b c9 : Nat) (B : Nat → Nat) (hx : isX μ b c9) (hR : Rb μ b B) (hW : WB B) (hb25 : 25 ≤ b) (hi : WdI μ 6 B)  : SpI Γ MX8_open 4 0 0 [.ref 0] μ (fun r μ2 => r = A_open B ∧ WdI μ2 6 B ∧ same (SW 6) μ μ2) := by
  refine SpI.of okX8_open rfl [some (.ref 0)] ⟨rfl, trivial⟩ (leb rfl) (leb rfl) (fun X hX hE hnm => ?_)
  refine w_aload_n (i := 0) hX dX8_open_0 rfl rfl ?_
  refine w_getR (q := 6) hX dX8_open_1 fo_RX8_26 rfl hx.1 hx.2.2.2.1 ?_
  refine w_aload_n (i := 0) hX dX8_open_4 rfl rfl ?_
  refine w_getR (q := b) hX dX8_open_5 fo_RX8_54 rfl hx.1 hx.2.2.2.2.2.2.2.1 ?_
  refine w_callVV (As := [.ref b]) (rest := []) (ci := 7) (o := 6) (k2 := 0) (n2 := 0) hX dX8_open_8 (s_w_prepare Γ μ 6 b B hi hR hW (by omega)) okX7_prepare (ltb rfl) (wd_s hi.1) ml_RX8_118 imX7_prepare seX7_prepare rfl (leb rfl) (leb rfl) rfl rfl (fun νc hq9 => ?_)
  obtain ⟨hwc, h5, hc, hs⟩ := hq9
  have hxc := hs.isX hx
  have hRc := Rb_same hs (fun o k h => Or.inl (by unfold SW at h; omega)) hR
  have htl := totB_le hW
  refine w_aload_n (i := 0) hX dX8_open_11 rfl rfl ?_
  refine w_getR (q := 6) hX dX8_open_12 fo_RX8_26 rfl hxc.1 hxc.2.2.2.1 ?_
  refine w_getI hX dX8_open_15 fo_RX8_122 rfl (wd_s hwc) ?_
  refine w_top (y := nI (totB B)) hc.2.2.2.1.2.1 ?_
  refine wn_if_le (tgt := 31) hX dX8_open_18 (by decide) (by omega) (fun c1 => ?_) (fun c1 => ?_)
  · refine w_iconst hX dX8_open_31 kI_m1 ?_
    exact w_iret hX hE dX8_open_32 (Or.inl rfl) rfl ⟨by unfold A_open; rw [if_neg (by omega)], ⟨hwc, Or.inr ⟨h5, hc⟩⟩, hs⟩
  · refine w_aload_n (i := 0) hX dX8_open_21 rfl rfl ?_
    refine w_getR (q := 6) hX dX8_open_22 fo_RX8_26 rfl hxc.1 hxc.2.2.2.1 ?_
    refine w_callVI (As := []) (rest := []) (ci := 7) (o := 6) (k2 := 0) (n2 := 0) hX dX8_open_25 (s_w_unsure Γ νc 6 B hwc hW hc) okX7_unsure (ltb rfl) (wd_s hwc) ml_RX8_138 imX7_unsure seX7_unsure rfl (leb rfl) (leb rfl) rfl rfl (fun r9 μ9 hq9 => ?_)
    obtain ⟨hr9, hm9⟩ := hq9; rw [hr9, hm9]; clear hr9 hm9 r9 μ9
    refine w_goto (tgt := 32) hX dX8_open_28 (by decide) ?_
    exact w_iret hX hE dX8_open_32 (Or.inl rfl) rfl ⟨by unfold A_open; rw [if_pos (by omega)], ⟨hwc, Or.inr ⟨h5, hc⟩⟩, hs⟩
