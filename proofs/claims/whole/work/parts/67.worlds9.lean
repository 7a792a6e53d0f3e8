theorem skb_S {B : Nat → Nat} {s f bits : Nat} : skb B s (f + 1) bits = if pcn bits 12 = s ∧ exB B bits = false then some bits else skb B s f (bits + 1) := rfl
theorem sks_S {B : Nat → Nat} {f s : Nat} : sks B (f + 1) s = match skb B s (FB B) 1 with | some x => some x | none => sks B f (s + 1) := rfl
set_option maxHeartbeats 1000000 in
theorem s_w_seek (Γ : Gm) (μ : Mem) (w : Nat) (hw : isWd μ w) (B : Nat → Nat) (hW : WB B) (hP : gI μ w 6 = nI (B 352)) (hcl : ∀ i, i < 2 * B 352 → gI μ (w + 2) i = nI (bw (clB B i) 24))  : SpI Γ MX7_seekApart 3 0 0 [.ref w] μ (fun r μ2 => r = oI (skA B) ∧ same (fun o _ => o = w + 5) μ μ2) := by
  refine SpI.of okX7_seekApart rfl [some (.ref w), none, none] ⟨rfl, trivial⟩ (leb rfl) (leb rfl) (fun X hX hE hnm => ?_)
  refine w_iconst hX dX7_seekApart_0 kI_1 ?_
  refine w_istore_n (i := 1) (l2 := [some (.ref w), some (.int (nI 1)), none]) hX dX7_seekApart_1 rfl (ltb rfl) rfl rfl ?_
  have loop : ∀ k, k ≤ B 352 → ∀ ν : Mem, (same (fun o _ => o = w + 5) μ ν) → (skA B = sks B (B 352 - k) (k + 1)) → WP Γ X 0 0 2 [some (.ref w), some (.int (nI (k + 1))), none] [] ν := by
    refine loopU (B 352) ?_
    intro k hk ihk ν hsm hv
    have hwk := hsm.isWd hw
    have hPk : gI ν w 6 = nI (B 352) := by rw [(hsm.2.2 _ _ (fun h => by omega)).1]; exact hP
    have hP12 := hW.2.2.2.2.1.1
    have h4096 := p12 hP12
    have hFB : FB B = 2 ^ B 352 - 1 := rfl
    have hpp := Nat.two_pow_pos (B 352)
    refine w_iload_n (i := 1) hX dX7_seekApart_2 rfl rfl ?_
    refine w_aload_n (i := 0) hX dX7_seekApart_3 rfl rfl ?_
    refine w_getI hX dX7_seekApart_4 fo_RX7_38 rfl (wd_s hwk) ?_
    refine w_top (y := nI (B 352)) hPk ?_
    refine wn_icmp_gt (tgt := 52) hX dX7_seekApart_7 (by decide) (by omega) (by omega) (fun c1 => ?_) (fun c1 => ?_)
    · refine w_iconst hX dX7_seekApart_52 kI_m1 ?_
      exact w_iret hX hE dX7_seekApart_53 (Or.inl rfl) rfl ⟨by rw [hv, show B 352 - k = 0 by omega]; rfl, hsm⟩
    · refine w_iconst hX dX7_seekApart_10 kI_1 ?_
      refine w_istore_n (i := 2) (l2 := [some (.ref w), some (.int (nI (k + 1))), some (.int (nI 1))]) hX dX7_seekApart_11 rfl (ltb rfl) rfl rfl ?_
      have inl : ∀ b, b ≤ FB B → ∀ ν1 : Mem, (same (fun o _ => o = w + 5) μ ν1) → (skb B (k + 1) (FB B) 1 = skb B (k + 1) (FB B - b) (b + 1)) → WP Γ X 0 0 12 [some (.ref w), some (.int (nI (k + 1))), some (.int (nI (b + 1)))] [] ν1 := by
        refine loopU (FB B) ?_
        intro b hb ihb ν1 hsn hsk
        have hw1 := hsn.isWd hw
        have hpc := pcn_le (x := b + 1) 12
        have hP1 : gI ν1 w 6 = nI (B 352) := by rw [(hsn.2.2 _ _ (fun h => by omega)).1]; exact hP
        refine w_iload_n (i := 2) hX dX7_seekApart_12 rfl rfl ?_
        refine w_iconst hX dX7_seekApart_13 kI_1 ?_
        refine w_aload_n (i := 0) hX dX7_seekApart_14 rfl rfl ?_
        refine w_getI hX dX7_seekApart_15 fo_RX7_38 rfl (wd_s hw1) ?_
        refine w_top (y := nI (B 352)) hP1 ?_
        refine w_ishl hX dX7_seekApart_18 ?_
        refine w_top (y := nI (2 ^ B 352)) (shl_nI (by omega)) ?_
        refine wn_icmp_ge (tgt := 46) hX dX7_seekApart_19 (by decide) (by omega) (by omega) (fun c2 => ?_) (fun c2 => ?_)
        · refine w_iincN (w := 1) (l2 := [some (.ref w), some (.int (nI (k + 1 + 1))), some (.int (nI (b + 1)))]) hX dX7_seekApart_46 rfl kI_1 rfl rfl ?_
          refine w_goto (tgt := 2) hX dX7_seekApart_49 (by decide) ?_
          refine w_sub (l2 := [some (.ref w), some (.int (nI (k + 1 + 1))), none]) (by simp [lsub]) (leb rfl) ?_
          refine ihk (by omega) ν1 hsn ?_
          rw [show FB B - b = 0 by omega] at hsk
          rw [hv, show B 352 - k = (B 352 - (k + 1)) + 1 by omega, sks_S, hsk]; rfl
        · refine w_iload_n (i := 2) hX dX7_seekApart_22 rfl rfl ?_
          refine w_callSI (As := [.int (nI (b + 1))]) (rest := []) (k2 := 0) (n2 := 0) hX dX7_seekApart_23 (s_bcI Γ ν1 (b + 1) (by omega)) okJ6_bitCount_0f7a4 ml_RX7_85 stJ6_bitCount_0f7a4 rfl (leb rfl) (leb rfl) rfl rfl (fun r9 μ9 hq9 => ?_)
          obtain ⟨hr9, hm9⟩ := hq9; rw [hr9, hm9]; clear hr9 hm9 r9 μ9
          refine w_iload_n (i := 1) hX dX7_seekApart_26 rfl rfl ?_
          refine wn_icmp_ne (tgt := 40) hX dX7_seekApart_27 (by decide) (by omega) (by omega) (fun c3 => ?_) (fun c3 => ?_)
          · refine w_iincN (w := 1) (l2 := [some (.ref w), some (.int (nI (k + 1))), some (.int (nI (b + 1 + 1)))]) hX dX7_seekApart_40 rfl kI_1 rfl rfl ?_
            refine w_goto (tgt := 12) hX dX7_seekApart_43 (by decide) ?_
            exact ihb (by omega) ν1 hsn (by rw [hsk, show FB B - b = (FB B - (b + 1)) + 1 by omega, skb_S, if_neg (fun h9 => by omega)])
          · refine w_aload_n (i := 0) hX dX7_seekApart_30 rfl rfl ?_
            refine w_iload_n (i := 2) hX dX7_seekApart_31 rfl rfl ?_
            refine w_callVI (As := [.int (nI (b + 1))]) (rest := []) (ci := 7) (o := w) (k2 := 0) (n2 := 0) hX dX7_seekApart_32 (s_w_canStand Γ ν1 w hw1 B hW hP1 hP12 (fun i hi => by rw [(hsn.2.2 _ _ (fun h => by omega)).1]; exact hcl i hi) (b + 1) (by omega)) okX7_canStand (ltb rfl) (wd_s hw1) ml_RX7_90 imX7_canStand seX7_canStand rfl (leb rfl) (leb rfl) rfl rfl (fun r9 ν2 hq9 => ?_)
            obtain ⟨hr9, hs9⟩ := hq9; rw [hr9]
            have hw2 := hs9.isWd hw1
            refine wb_ne (tgt := 40) hX dX7_seekApart_35 (by decide) (fun hex => ?_) (fun hex => ?_)
            · refine w_iincN (w := 1) (l2 := [some (.ref w), some (.int (nI (k + 1))), some (.int (nI (b + 1 + 1)))]) hX dX7_seekApart_40 rfl kI_1 rfl rfl ?_
              refine w_goto (tgt := 12) hX dX7_seekApart_43 (by decide) ?_
              exact ihb (by omega) ν2 (hsn.tr hs9) (by rw [hsk, show FB B - b = (FB B - (b + 1)) + 1 by omega, skb_S, if_neg (fun h9 => by rw [hex] at h9; exact absurd h9.2 (by decide))])
            · refine w_iload_n (i := 2) hX dX7_seekApart_38 rfl rfl ?_
              refine w_iret hX hE dX7_seekApart_39 (Or.inl rfl) rfl ⟨?_, hsn.tr hs9⟩
              rw [hv, show B 352 - k = (B 352 - (k + 1)) + 1 by omega, sks_S, hsk, show FB B - b = (FB B - (b + 1)) + 1 by omega, skb_S, if_pos ⟨by omega, hex⟩]; rfl
      exact inl 0 (Nat.zero_le _) ν hsm rfl
  exact loop 0 (Nat.zero_le _) μ same.rf rfl
