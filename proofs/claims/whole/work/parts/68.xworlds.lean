theorem fnR_same {S : Nat → Nat → Prop} {μ ν : Mem} {w v : Nat} {B : Nat → Nat} (h : fnR μ w B v) (hs : same S μ ν) (h1 : ¬ S w 7) (h2 : ∀ k, ¬ S (w + 3) k) (h3 : ∀ k, ¬ S (w + 4) k) : fnR ν w B v :=
  ⟨fun k hk => by rw [(hs.2.2 _ _ (h3 k)).2]; exact h.1 k hk, by rw [(hs.2.2 _ _ h1).1]; exact h.2.1, fun i hi => by rw [(hs.2.2 _ _ (h2 i)).1]; exact h.2.2 i hi⟩
set_option maxHeartbeats 1000000 in
theorem s_w_fewest (Γ : Gm) (μ : Mem) (w : Nat) (B : Nat → Nat) (hw : isWd μ w) (hW : WB B) (hc : wCon μ w B)  : SpI Γ MX7_fewestApart 4 0 0 [.ref w] μ (fun r μ2 => r = oI (skA B) ∧ wCon μ2 w B ∧ same (SW w) μ μ2) := by
  refine SpI.of okX7_fewestApart rfl [some (.ref w)] ⟨rfl, trivial⟩ (leb rfl) (leb rfl) (fun X hX hE hnm => ?_)
  refine w_aload_n (i := 0) hX dX7_fewestApart_0 rfl rfl ?_
  refine w_getI hX dX7_fewestApart_1 fo_RX7_44 rfl (wd_s hw) ?_
  refine w_bipush hX dX7_fewestApart_4 kB_m2 ?_
  refine wc_icmp_ne (tgt := 17) hX dX7_fewestApart_6 (by decide) (fun c1 => ?_) (fun c1 => ?_)
  · refine w_aload_n (i := 0) hX dX7_fewestApart_17 rfl rfl ?_
    refine w_getI hX dX7_fewestApart_18 fo_RX7_44 rfl (wd_s hw) ?_
    refine w_top (y := oI (skA B)) (by rcases hc.2.2.2.2 with h9 | h9; (exact absurd h9 c1); exact h9) ?_
    exact w_iret hX hE dX7_fewestApart_21 (Or.inl rfl) rfl ⟨rfl, hc, same.rf⟩
  · refine w_aload_n (i := 0) hX dX7_fewestApart_9 rfl rfl ?_
    refine w_aload_n (i := 0) hX dX7_fewestApart_10 rfl rfl ?_
    refine w_callVI (As := []) (rest := [.ref w]) (ci := 7) (o := w) (k2 := 0) (n2 := 0) hX dX7_fewestApart_11 (s_w_seek Γ μ w hw B hW hc.1 hc.2.2.1) okX7_seekApart (ltb rfl) (wd_s hw) ml_RX7_81 imX7_seekApart seX7_seekApart rfl (leb rfl) (leb rfl) rfl rfl (fun r9 ν hq9 => ?_)
    obtain ⟨hr9, hs9⟩ := hq9; rw [hr9]
    have hwk := hs9.isWd hw
    refine w_putI hX dX7_fewestApart_14 fo_RX7_44 rfl rfl rfl rfl (wd_s hwk) ?_
    refine w_aload_n (i := 0) hX dX7_fewestApart_17 rfl rfl ?_
    refine w_getI hX dX7_fewestApart_18 fo_RX7_44 rfl (wd_s hwk) ?_
    refine w_top (y := oI (skA B)) gI_same ?_
    exact w_iret hX hE dX7_fewestApart_21 (Or.inl rfl) rfl ⟨rfl, ⟨by rw [gI_nk (by omega), (hs9.2.2 _ _ (fun h => by omega)).1]; exact hc.1, fun i hi => by rw [gI_no (by omega), (hs9.2.2 _ _ (fun h => by omega)).1]; exact hc.2.1 i hi, fun i hi => by rw [gI_no (by omega), (hs9.2.2 _ _ (fun h => by omega)).1]; exact hc.2.2.1 i hi, fnR_same (fnR_same hc.2.2.2.1 hs9 (by omega) (by omega) (by omega)) (same.rf.sI ⟨rfl, rfl⟩ : same (fun o k => o = w ∧ k = 8) ν _) (by omega) (by omega) (by omega), Or.inr gI_same⟩, (hs9.up (fun o k h => by unfold SW; omega)).sI (Or.inl ⟨rfl, by omega⟩)⟩
