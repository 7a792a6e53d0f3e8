set_option maxHeartbeats 1000000 in
theorem s_m_other0 (Γ : Gm) (μ : Mem) (m : Nat) (s : Tp) (hT : MT μ m s) (n : Nat) (hS : MSt μ m s n) (M : NM) (hN : MN μ m M) (hd : ∀ i j, i < M.1 → j < M.1 → M.2.1 i = M.2.1 j → i = j) (what b9 : Nat) (hwh : what ≤ 3) (hb9 : b9 ≤ 99) : SpI Γ MX9_takeOther 2 0 0 [.ref m, .int (nI what), .int (nI b9)] μ (fun r μ2 => (∃ v, pNm s n M what = .inr v ∧ v ≠ b9 ∧ r = nI v ∧ μ2 = sI μ m 7 (nI (n + 1))) ∨ (∃ f, (pNm s n M what = .inl f ∨ (pNm s n M what = .inr b9 ∧ f = ft s 3 n)) ∧ μ2 = sI μ m 8 (nI f))) := by
  refine SpI.of okX9_takeOther rfl [some (.ref m), some (.int (nI what)), some (.int (nI b9)), none] ⟨rfl, rfl, rfl, trivial⟩ (leb rfl) (leb rfl) (fun X hX hE hnm => ?_)
  obtain ⟨z, hz, hz4, z0, z1, z2, z3, hpl, hwv, hvv, hcv0⟩ := hT.2.2.1 n hS.2.1
  have hcv : TKC μ m s n z := hcv0
  clear hcv0
  have hn := (rch_le hT.2.2.2 n hS.2.1).2
  have hk22 := kd_le (s := s) (n := n)
  have hplL := (pl_le (s := s) n).2
  have hL1 := hT.2.2.2.1
  have hft3 := ft_lt (w := 3) (n := n) hT.2.2.2 (by omega) (by omega)
  refine w_aload_n (i := 0) hX dX9_takeOther_0 rfl rfl ?_
  refine w_getI hX dX9_takeOther_1 fo_RX9_154 rfl (mod_s hT.1) ?_
  refine w_top (y := nI 0) hS.2.2 ?_
  refine wn_if_le (tgt := 11) hX dX9_takeOther_4 (by decide) (by omega) (fun c1 => ?_) (fun c1 => ?_)
  · refine w_aload_n (i := 0) hX dX9_takeOther_11 rfl rfl ?_
    refine w_iload_n (i := 1) hX dX9_takeOther_12 rfl rfl ?_
    refine w_callVI (As := [.int (nI what)]) (rest := []) (ci := 9) (o := m) (k2 := 0) (n2 := 0) hX dX9_takeOther_13 (s_m_nameHere Γ μ m s hT n hS M hN hd what hwh) okX9_nameHere (ltb rfl) (mod_s hT.1) ml_RX9_219 imX9_nameHere seX9_nameHere rfl (leb rfl) (leb rfl) rfl rfl (fun r5 ν5 hq9 => ?_)
    rcases hq9 with ⟨v9, hp, hr5, hm5⟩ | ⟨f9, hp, hr5, hm5⟩
    · rw [hr5, hm5]
      have hv9 := pNm_99 hN hp
      refine w_istore_n (i := 3) (l2 := [some (.ref m), some (.int (nI what)), some (.int (nI b9)), some (.int (nI v9))]) hX dX9_takeOther_16 rfl (ltb rfl) rfl rfl ?_
      refine w_iload_n (i := 3) hX dX9_takeOther_17 rfl rfl ?_
      refine wn_if_lt (tgt := 31) hX dX9_takeOther_18 (by decide) (by omega) (fun c2 => ?_) (fun c2 => ?_)
      · exfalso; omega
      · refine w_iload_n (i := 3) hX dX9_takeOther_21 rfl rfl ?_
        refine w_iload_n (i := 2) hX dX9_takeOther_22 rfl rfl ?_
        refine wn_icmp_ne (tgt := 31) hX dX9_takeOther_23 (by decide) (by omega) (by omega) (fun c3 => ?_) (fun c3 => ?_)
        · refine w_aload_n (i := 0) hX dX9_takeOther_31 rfl rfl ?_
          refine w_dup hX dX9_takeOther_32 rfl ?_
          refine w_getI hX dX9_takeOther_33 fo_RX9_151 rfl (mod_s hT.1) ?_
          refine w_top (y := nI n) hS.1 ?_
          refine w_iload_n (i := 3) hX dX9_takeOther_36 rfl rfl ?_
          refine wn_if_lt (tgt := 47) hX dX9_takeOther_37 (by decide) (by omega) (fun c4 => ?_) (fun c4 => ?_)
          · exfalso; omega
          · refine w_aload_n (i := 0) hX dX9_takeOther_40 rfl rfl ?_
            refine w_getI hX dX9_takeOther_41 fo_RX9_154 rfl (mod_s hT.1) ?_
            refine w_top (y := nI 0) hS.2.2 ?_
            refine wn_if_le (tgt := 51) hX dX9_takeOther_44 (by decide) (by omega) (fun c5 => ?_) (fun c5 => ?_)
            · refine w_iconst hX dX9_takeOther_51 kI_1 ?_
              refine w_iaddN hX dX9_takeOther_52 ?_
              refine w_putI hX dX9_takeOther_53 fo_RX9_151 rfl rfl rfl rfl (mod_s hT.1) ?_
              refine w_iload_n (i := 3) hX dX9_takeOther_56 rfl rfl ?_
              exact w_iret hX hE dX9_takeOther_57 (Or.inl rfl) rfl (Or.inl ⟨v9, hp, by omega, rfl, rfl⟩)
            · exact absurd c5 (by decide)
        · refine w_aload_n (i := 0) hX dX9_takeOther_26 rfl rfl ?_
          refine w_iconst hX dX9_takeOther_27 kI_3 ?_
          refine w_callVV (As := [.int (nI 3)]) (rest := []) (ci := 9) (o := m) (k2 := 0) (n2 := 0) hX dX9_takeOther_28 (s_m_wrong0 Γ μ m s hT n hS 3) okX9_wrong (ltb rfl) (mod_s hT.1) ml_RX9_160 imX9_wrong seX9_wrong rfl (leb rfl) (leb rfl) rfl rfl (fun μ9 hq9 => ?_)
          rw [hq9]; clear hq9 μ9
          refine w_aload_n (i := 0) hX dX9_takeOther_31 rfl rfl ?_
          refine w_dup hX dX9_takeOther_32 rfl ?_
          refine w_getI hX dX9_takeOther_33 fo_RX9_151 rfl (mod_s hT.1) ?_
          refine w_top (y := nI n) (by rw [gI_nk (by omega)]; exact hS.1) ?_
          refine w_iload_n (i := 3) hX dX9_takeOther_36 rfl rfl ?_
          refine wn_if_lt (tgt := 47) hX dX9_takeOther_37 (by decide) (by omega) (fun c6 => ?_) (fun c6 => ?_)
          · refine w_iconst hX dX9_takeOther_47 kI_0 ?_
            refine w_goto (tgt := 52) hX dX9_takeOther_48 (by decide) ?_
            refine w_iaddN hX dX9_takeOther_52 ?_
            refine w_putI hX dX9_takeOther_53 fo_RX9_151 rfl rfl rfl rfl (mod_s hT.1) ?_
            refine w_iload_n (i := 3) hX dX9_takeOther_56 rfl rfl ?_
            first | (exfalso; omega) | exact w_iret hX hE dX9_takeOther_57 (Or.inl rfl) rfl (Or.inr ⟨ft s 3 n, Or.inr ⟨by rw [hp, show v9 = b9 by omega], rfl⟩, sI_id (by rw [gI_nk (by omega), Nat.add_zero]; exact hS.1)⟩)
          · refine w_aload_n (i := 0) hX dX9_takeOther_40 rfl rfl ?_
            refine w_getI hX dX9_takeOther_41 fo_RX9_154 rfl (mod_s hT.1) ?_
            refine w_top (y := nI ((ft s 3 n))) gI_same ?_
            refine wn_if_le (tgt := 51) hX dX9_takeOther_44 (by decide) (by omega) (fun c7 => ?_) (fun c7 => ?_)
            · exfalso; omega
            · refine w_iconst hX dX9_takeOther_47 kI_0 ?_
              refine w_goto (tgt := 52) hX dX9_takeOther_48 (by decide) ?_
              refine w_iaddN hX dX9_takeOther_52 ?_
              refine w_putI hX dX9_takeOther_53 fo_RX9_151 rfl rfl rfl rfl (mod_s hT.1) ?_
              refine w_iload_n (i := 3) hX dX9_takeOther_56 rfl rfl ?_
              first | (exfalso; omega) | exact w_iret hX hE dX9_takeOther_57 (Or.inl rfl) rfl (Or.inr ⟨ft s 3 n, Or.inr ⟨by rw [hp, show v9 = b9 by omega], rfl⟩, sI_id (by rw [gI_nk (by omega), Nat.add_zero]; exact hS.1)⟩)
    · rw [hr5, hm5]
      refine w_istore_n (i := 3) (l2 := [some (.ref m), some (.int (nI what)), some (.int (nI b9)), some (.int ((-1 : Int32)))]) hX dX9_takeOther_16 rfl (ltb rfl) rfl rfl ?_
      refine w_iload_n (i := 3) hX dX9_takeOther_17 rfl rfl ?_
      refine wc_if_lt (tgt := 31) hX dX9_takeOther_18 (by decide) (fun c8 => ?_) (fun c8 => ?_)
      · refine w_aload_n (i := 0) hX dX9_takeOther_31 rfl rfl ?_
        refine w_dup hX dX9_takeOther_32 rfl ?_
        refine w_getI hX dX9_takeOther_33 fo_RX9_151 rfl (mod_s hT.1) ?_
        refine w_top (y := nI n) (by rw [gI_nk (by omega)]; exact hS.1) ?_
        refine w_iload_n (i := 3) hX dX9_takeOther_36 rfl rfl ?_
        refine wc_if_lt (tgt := 47) hX dX9_takeOther_37 (by decide) (fun c9 => ?_) (fun c9 => ?_)
        · refine w_iconst hX dX9_takeOther_47 kI_0 ?_
          refine w_goto (tgt := 52) hX dX9_takeOther_48 (by decide) ?_
          refine w_iaddN hX dX9_takeOther_52 ?_
          refine w_putI hX dX9_takeOther_53 fo_RX9_151 rfl rfl rfl rfl (mod_s hT.1) ?_
          refine w_iload_n (i := 3) hX dX9_takeOther_56 rfl rfl ?_
          exact w_iret hX hE dX9_takeOther_57 (Or.inl rfl) rfl (Or.inr ⟨f9, Or.inl hp, sI_id (by rw [gI_nk (by omega), Nat.add_zero]; exact hS.1)⟩)
        · exact absurd c9 (by decide)
      · exact absurd c8 (by decide)
  · exact absurd c1 (by decide)
set_option maxHeartbeats 1000000 in
theorem s_m_otherf (Γ : Gm) (μ : Mem) (m : Nat) (s : Tp) (hT : MT μ m s) (f : Nat) (hF : MFt μ m s f) (what : Nat) (b9 : Int32) : SpI Γ MX9_takeOther 2 0 0 [.ref m, .int (nI what), .int b9] μ (fun r μ2 => r = (-1 : Int32) ∧ μ2 = μ) := by
  refine SpI.of okX9_takeOther rfl [some (.ref m), some (.int (nI what)), some (.int b9), none] ⟨rfl, rfl, rfl, trivial⟩ (leb rfl) (leb rfl) (fun X hX hE hnm => ?_)
  obtain ⟨n9, hn9⟩ := hF.2.2; have hf9 := hF.2.1; have hn := (rch_le hT.2.2.2 n9 hn9.1).2
  refine w_aload_n (i := 0) hX dX9_takeOther_0 rfl rfl ?_
  refine w_getI hX dX9_takeOther_1 fo_RX9_154 rfl (mod_s hT.1) ?_
  refine w_top (y := nI f) hF.1 ?_
  refine wn_if_le (tgt := 11) hX dX9_takeOther_4 (by decide) (by omega) (fun c1 => ?_) (fun c1 => ?_)
  · exfalso; omega
  · refine w_iconst hX dX9_takeOther_7 kI_m1 ?_
    refine w_goto (tgt := 16) hX dX9_takeOther_8 (by decide) ?_
    refine w_istore_n (i := 3) (l2 := [some (.ref m), some (.int (nI what)), some (.int b9), some (.int ((-1 : Int32)))]) hX dX9_takeOther_16 rfl (ltb rfl) rfl rfl ?_
    refine w_iload_n (i := 3) hX dX9_takeOther_17 rfl rfl ?_
    refine wc_if_lt (tgt := 31) hX dX9_takeOther_18 (by decide) (fun c2 => ?_) (fun c2 => ?_)
    · refine w_aload_n (i := 0) hX dX9_takeOther_31 rfl rfl ?_
      refine w_dup hX dX9_takeOther_32 rfl ?_
      refine w_getI hX dX9_takeOther_33 fo_RX9_151 rfl (mod_s hT.1) ?_
      refine w_top (y := nI n9) hn9.2 ?_
      refine w_iload_n (i := 3) hX dX9_takeOther_36 rfl rfl ?_
      refine wc_if_lt (tgt := 47) hX dX9_takeOther_37 (by decide) (fun c3 => ?_) (fun c3 => ?_)
      · refine w_iconst hX dX9_takeOther_47 kI_0 ?_
        refine w_goto (tgt := 52) hX dX9_takeOther_48 (by decide) ?_
        refine w_iaddN hX dX9_takeOther_52 ?_
        refine w_putI hX dX9_takeOther_53 fo_RX9_151 rfl rfl rfl rfl (mod_s hT.1) ?_
        refine w_iload_n (i := 3) hX dX9_takeOther_56 rfl rfl ?_
        exact w_iret hX hE dX9_takeOther_57 (Or.inl rfl) rfl ⟨rfl, sI_id (by rw [Nat.add_zero]; exact hn9.2)⟩
      · exact absurd c3 (by decide)
    · exact absurd c2 (by decide)
set_option maxHeartbeats 1000000 in
theorem s_m_new (Γ : Gm) (μ : Mem) (m : Nat) (s : Tp) (hT : MT μ m s) (n : Nat) (hS : MSt μ m s n) (M : NM) (hN : MN μ m M) (hd : ∀ i j, i < M.1 → j < M.1 → M.2.1 i = M.2.1 j → i = j) (B : Nat → Nat) (hB : MBk μ m B) (hkn : kd s n ≠ 0) (a0 most what : Nat) (ha : a0 < 480) (hmo : B a0 ≤ most) (hmo2 : most ≤ 12) (hwh : what ≤ 3) (hM32 : B a0 < most → M.1 < 32) : SpI Γ MX9_readNew 1 0 0 [.ref m, .int (nI a0), .int (nI most), .int (nI what)] μ (fun r μ2 => (pNew s n B M a0 most what = .inr (n + 2, stB B a0 (B a0 + 1), addM M (wd s (n + 1)) what (B a0)) ∧ r = nI (B a0) ∧ MSt μ2 m s (n + 2) ∧ MBk μ2 m (stB B a0 (B a0 + 1)) ∧ MN μ2 m (addM M (wd s (n + 1)) what (B a0)) ∧ same (SMm m) μ μ2) ∨ (∃ f v, pNew s n B M a0 most what = .inl f ∧ r = nI v ∧ v ≤ 99 ∧ MFt μ2 m s f ∧ same (SMm m) μ μ2)) := by
  refine SpI.of okX9_readNew rfl [some (.ref m), some (.int (nI a0)), some (.int (nI most)), some (.int (nI what)), none, none] ⟨rfl, rfl, rfl, rfl, trivial⟩ (leb rfl) (leb rfl) (fun X hX hE hnm => ?_)
  have hn := (rch_le hT.2.2.2 n hS.2.1).2
  have hM := hN.2.1
  have hft1 := ft_lt (w := 1) (n := n + 1) hT.2.2.2 (by omega) (by omega)
  have hft3 := ft_lt (w := 3) (n := n + 1) hT.2.2.2 (by omega) (by omega)
  have hft5 := ft_lt (w := 5) (n := n) hT.2.2.2 (by omega) (by omega)
  refine w_aload_n (i := 0) hX dX9_readNew_0 rfl rfl ?_
  refine w_getR (q := m + 6) hX dX9_readNew_1 fo_RX9_73 rfl (mod_s hT.1) (mod_r10 hT.1) ?_
  refine w_sipush hX dX9_readNew_4 kS_480 ?_
  refine w_iload_n (i := 1) hX dX9_readNew_7 rfl rfl ?_
  refine w_iaddN hX dX9_readNew_8 ?_
  refine w_ialdN hX dX9_readNew_9 (mod_a6 hT.1) (by omega) (by omega) ?_
  refine w_top (y := nI (B a0)) (hB a0 ha) ?_
  refine w_istore (l2 := [some (.ref m), some (.int (nI a0)), some (.int (nI most)), some (.int (nI what)), some (.int (nI (B a0))), none]) hX dX9_readNew_10 (ltb rfl) rfl rfl ?_
  refine w_iload hX dX9_readNew_12 rfl ?_
  refine w_iload_n (i := 2) hX dX9_readNew_14 rfl rfl ?_
  refine wn_icmp_ne (tgt := 25) hX dX9_readNew_15 (by decide) (by omega) (by omega) (fun c1 => ?_) (fun c1 => ?_)
  · refine w_aload_n (i := 0) hX dX9_readNew_25 rfl rfl ?_
    refine w_dup hX dX9_readNew_26 rfl ?_
    refine w_getI hX dX9_readNew_27 fo_RX9_151 rfl (mod_s hT.1) ?_
    refine w_top (y := nI n) hS.1 ?_
    refine w_iconst hX dX9_readNew_30 kI_1 ?_
    refine w_iaddN hX dX9_readNew_31 ?_
    refine w_putI hX dX9_readNew_32 fo_RX9_151 rfl rfl rfl rfl (mod_s hT.1) ?_
    have hs1 : same (SA2 m) μ (sI μ m 7 (nI (n + 1))) := same.rf.sI ⟨rfl, Or.inl rfl⟩
    have hT1 := hT.sm hs1 (fun o k h => by unfold SA2 at h; omega)
    have hS1 := hS.next hkn
    obtain ⟨z1, -, -, -, -, -, -, -, hw1, -, -⟩ := hT.2.2.1 (n + 1) hS1.2.1
    have hn1 := (rch_le hT.2.2.2 (n + 1) hS1.2.1).2
    refine w_aload_n (i := 0) hX dX9_readNew_35 rfl rfl ?_
    refine w_callVI (As := []) (rest := []) (ci := 9) (o := m) (k2 := 0) (n2 := 0) hX dX9_readNew_36 (s_m_isName0 Γ (sI μ m 7 (nI (n + 1))) m s hT1 (n + 1) hS1) okX9_isName (ltb rfl) (mod_s hT.1) ml_RX9_215 imX9_isName seX9_isName rfl (leb rfl) (leb rfl) rfl rfl (fun r9 μ9 hq9 => ?_)
    obtain ⟨hr9, hm9⟩ := hq9; rw [hr9, hm9]; clear hr9 hm9 r9 μ9
    refine wb_ne (tgt := 47) hX dX9_readNew_39 (by decide) (fun hk4 => ?_) (fun hk4 => ?_)
    · refine w_iconst hX dX9_readNew_47 kI_0 ?_
      refine w_istore (l2 := [some (.ref m), some (.int (nI a0)), some (.int (nI most)), some (.int (nI what)), some (.int (nI (B a0))), some (.int (nI 0))]) hX dX9_readNew_48 (ltb rfl) rfl rfl ?_
      have hk4 := of_decide_eq_true hk4; have hwl := wd_lt (s := s) (n := n + 1) (by omega)
      have loop : ∀ k, k ≤ M.1 → (∀ i, i < k → M.2.1 i ≠ wd s (n + 1)) → WP Γ X 0 0 50 [some (.ref m), some (.int (nI a0)), some (.int (nI most)), some (.int (nI what)), some (.int (nI (B a0))), some (.int (nI k))] [] (sI μ m 7 (nI (n + 1))) := by
        refine loopU M.1 ?_
        intro k hk ih hno
        refine w_iload hX dX9_readNew_50 rfl ?_
        refine w_aload_n (i := 0) hX dX9_readNew_52 rfl rfl ?_
        refine w_getI hX dX9_readNew_53 fo_RX9_180 rfl (mod_s hT.1) ?_
        refine w_top (y := nI M.1) (by rw [gI_nk (by omega)]; exact hN.1) ?_
        refine wn_icmp_ge (tgt := 97) hX dX9_readNew_56 (by decide) (by omega) (by omega) (fun c3 => ?_) (fun c3 => ?_)
        · refine w_aload_n (i := 0) hX dX9_readNew_97 rfl rfl ?_
          refine w_getI hX dX9_readNew_98 fo_RX9_154 rfl (mod_s hT.1) ?_
          refine w_top (y := nI 0) (by rw [gI_nk (by omega)]; exact hS.2.2) ?_
          refine wn_if_ne (tgt := 177) hX dX9_readNew_101 (by decide) (by omega) (fun c4 => ?_) (fun c4 => ?_)
          · exact absurd c4 (by decide)
          · refine w_aload_n (i := 0) hX dX9_readNew_104 rfl rfl ?_
            refine w_getR (q := m + 7) hX dX9_readNew_105 fo_RX9_76 rfl (mod_s hT.1) (mod_r11 hT.1) ?_
            refine w_aload_n (i := 0) hX dX9_readNew_108 rfl rfl ?_
            refine w_getI hX dX9_readNew_109 fo_RX9_180 rfl (mod_s hT.1) ?_
            refine w_top (y := nI M.1) (by rw [gI_nk (by omega)]; exact hN.1) ?_
            refine w_aload_n (i := 0) hX dX9_readNew_112 rfl rfl ?_
            refine w_getR (q := m + 4) hX dX9_readNew_113 fo_RX9_30 rfl (mod_s hT.1) (mod_r6 hT.1) ?_
            refine w_aload_n (i := 0) hX dX9_readNew_116 rfl rfl ?_
            refine w_getI hX dX9_readNew_117 fo_RX9_151 rfl (mod_s hT.1) ?_
            refine w_top (y := nI (n + 1)) (by rw [gI_same]) ?_
            refine w_laldN hX dX9_readNew_120 (mod_a4 hT.1) (by omega) (by omega) ?_
            refine w_topL (y := lN (phi (wd s (n + 1)))) (by rw [gL_sI]; exact hw1 (by omega)) ?_
            refine w_lastN hX dX9_readNew_121 (mod_a7 hT.1) (by omega) (by omega) ?_
            refine w_aload_n (i := 0) hX dX9_readNew_122 rfl rfl ?_
            refine w_getR (q := m + 8) hX dX9_readNew_123 fo_RX9_79 rfl (mod_s hT.1) (mod_r12 hT.1) ?_
            refine w_aload_n (i := 0) hX dX9_readNew_126 rfl rfl ?_
            refine w_getI hX dX9_readNew_127 fo_RX9_180 rfl (mod_s hT.1) ?_
            refine w_top (y := nI M.1) (by rw [gI_sL, gI_nk (by omega)]; exact hN.1) ?_
            refine w_iload_n (i := 3) hX dX9_readNew_130 rfl rfl ?_
            refine w_iastN hX dX9_readNew_131 (mod_a8 hT.1) (by omega) (by omega) ?_
            refine w_aload_n (i := 0) hX dX9_readNew_132 rfl rfl ?_
            refine w_getR (q := m + 9) hX dX9_readNew_133 fo_RX9_82 rfl (mod_s hT.1) (mod_r13 hT.1) ?_
            refine w_aload_n (i := 0) hX dX9_readNew_136 rfl rfl ?_
            refine w_getI hX dX9_readNew_137 fo_RX9_180 rfl (mod_s hT.1) ?_
            refine w_top (y := nI M.1) (by rw [gI_no (by omega), gI_sL, gI_nk (by omega)]; exact hN.1) ?_
            refine w_iload hX dX9_readNew_140 rfl ?_
            refine w_iastN hX dX9_readNew_142 (mod_a9 hT.1) (by omega) (by omega) ?_
            refine w_aload_n (i := 0) hX dX9_readNew_143 rfl rfl ?_
            refine w_dup hX dX9_readNew_144 rfl ?_
            refine w_getI hX dX9_readNew_145 fo_RX9_180 rfl (mod_s hT.1) ?_
            refine w_top (y := nI M.1) (by rw [gI_no (by omega), gI_no (by omega), gI_sL, gI_nk (by omega)]; exact hN.1) ?_
            refine w_iconst hX dX9_readNew_148 kI_1 ?_
            refine w_iaddN hX dX9_readNew_149 ?_
            refine w_putI hX dX9_readNew_150 fo_RX9_180 rfl rfl rfl rfl (mod_s hT.1) ?_
            refine w_aload_n (i := 0) hX dX9_readNew_153 rfl rfl ?_
            refine w_dup hX dX9_readNew_154 rfl ?_
            refine w_getI hX dX9_readNew_155 fo_RX9_151 rfl (mod_s hT.1) ?_
            refine w_top (y := nI (n + 1)) (by rw [gI_nk (by omega), gI_no (by omega), gI_no (by omega), gI_sL, gI_same]) ?_
            refine w_iconst hX dX9_readNew_158 kI_1 ?_
            refine w_iaddN hX dX9_readNew_159 ?_
            refine w_putI hX dX9_readNew_160 fo_RX9_151 rfl rfl rfl rfl (mod_s hT.1) ?_
            refine w_aload_n (i := 0) hX dX9_readNew_163 rfl rfl ?_
            refine w_getR (q := m + 6) hX dX9_readNew_164 fo_RX9_73 rfl (mod_s hT.1) (mod_r10 hT.1) ?_
            refine w_sipush hX dX9_readNew_167 kS_480 ?_
            refine w_iload_n (i := 1) hX dX9_readNew_170 rfl rfl ?_
            refine w_iaddN hX dX9_readNew_171 ?_
            refine w_dup2 hX dX9_readNew_172 rfl rfl ?_
            refine w_ialdN hX dX9_readNew_173 (mod_a6 hT.1) (by omega) (by omega) ?_
            refine w_top (y := nI (B a0)) (by rw [gI_no (by omega), gI_no (by omega), gI_no (by omega), gI_no (by omega), gI_sL, gI_no (by omega)]; exact (hB a0 ha)) ?_
            refine w_iconst hX dX9_readNew_174 kI_1 ?_
            refine w_iaddN hX dX9_readNew_175 ?_
            refine w_iastN hX dX9_readNew_176 (mod_a6 hT.1) (by omega) (by omega) ?_
            refine w_iload hX dX9_readNew_177 rfl ?_
            have hfn : fnm M (wd s (n + 1)) = none := by cases h9 : fnm M (wd s (n + 1)) with | none => rfl | some i => have h8 := fnmF_some _ _ _ h9; exact absurd h8.2.2 (hno i (by omega))
            have hsA : same (SMm m) μ (sI (sI (sI (sI (sI (sL (sI μ m 7 (nI (n + 1))) (m + 7) M.1 (lN (phi (wd s (n + 1))))) (m + 8) M.1 (nI what)) (m + 9) M.1 (nI (B a0))) m 14 (nI (M.1 + 1))) m 7 (nI (n + 1 + 1))) (m + 6) (480 + a0) (nI (B a0 + 1))) := ((((((hs1.up (fun o k h => by unfold SA2 at h; unfold SMm; omega)).sL (Or.inr (Or.inr ⟨by omega, by omega⟩))).sI (Or.inr (Or.inr ⟨by omega, by omega⟩))).sI (Or.inr (Or.inr ⟨by omega, by omega⟩))).sI (Or.inl ⟨rfl, by omega⟩)).sI (Or.inl ⟨rfl, by omega⟩)).sI (Or.inr (Or.inl ⟨rfl, by omega, by omega⟩))
            refine w_iret hX hE dX9_readNew_179 (Or.inl rfl) rfl (Or.inl ⟨pNew_y (by omega) hk4 hfn, rfl, ⟨by rw [gI_no (by omega), gI_same], rch_S hS1.2.1 (by omega), by rw [gI_no (by omega), gI_nk (by omega), gI_nk (by omega), gI_no (by omega), gI_no (by omega), gI_sL, gI_nk (by omega)]; exact hS.2.2⟩, ?_, ⟨by rw [gI_no (by omega), gI_nk (by omega), gI_same]; rfl, by show M.1 + 1 ≤ 32; omega, fun i hi => ?_⟩, hsA⟩)
            · have hBx := hB.sm (hs1.up (T := fun o k => o = m ∨ (m + 7 ≤ o ∧ o ≤ m + 9)) (fun o k h => by unfold SA2 at h; omega) |>.sL (k := M.1) (v := lN (phi (wd s (n + 1)))) (o := m + 7) (by omega) |>.sI (o := m + 8) (k := M.1) (v := nI what) (by omega) |>.sI (o := m + 9) (k := M.1) (v := nI (B a0)) (by omega) |>.sI (o := m) (k := 14) (v := nI (M.1 + 1)) (by omega) |>.sI (o := m) (k := 7) (v := nI (n + 1 + 1)) (by omega)) (fun o k h => by omega)
              exact hBx.st ha
            · have hi2 : i < M.1 + 1 := hi
              show _ = lN (phi (stB M.2.1 M.1 (wd s (n + 1)) i)) ∧ stB M.2.1 M.1 (wd s (n + 1)) i < _ ∧ _ = nI (stB M.2.2.1 M.1 what i) ∧ stB M.2.2.1 M.1 what i ≤ 3 ∧ _ = nI (stB M.2.2.2 M.1 (B a0) i) ∧ stB M.2.2.2 M.1 (B a0) i ≤ 99
              by_cases e : i = M.1
              · subst e; rw [stB_same, stB_same, stB_same]; exact ⟨by rw [gL_sI, gL_sI, gL_sI, gL_sI, gL_sI, gL_same], hwl, by rw [gI_no (by omega), gI_no (by omega), gI_no (by omega), gI_no (by omega), gI_same], hwh, by rw [gI_no (by omega), gI_no (by omega), gI_no (by omega), gI_same], by omega⟩
              · rw [stB_ne e, stB_ne e, stB_ne e]; obtain ⟨a1, a2, a3, a4, a5, a6⟩ := hN.2.2 i (by omega); exact ⟨by rw [gL_sI, gL_sI, gL_sI, gL_sI, gL_sI, gL_ne (fun h => e h.2), gL_sI]; exact a1, a2, by rw [gI_no (by omega), gI_no (by omega), gI_no (by omega), gI_no (by omega), gI_nk e, gI_sL, gI_no (by omega)]; exact a3, a4, by rw [gI_no (by omega), gI_no (by omega), gI_no (by omega), gI_nk e, gI_no (by omega), gI_sL, gI_no (by omega)]; exact a5, a6⟩
        · refine w_aload_n (i := 0) hX dX9_readNew_59 rfl rfl ?_
          refine w_getI hX dX9_readNew_60 fo_RX9_154 rfl (mod_s hT.1) ?_
          refine w_top (y := nI 0) (by rw [gI_nk (by omega)]; exact hS.2.2) ?_
          refine wn_if_ne (tgt := 97) hX dX9_readNew_63 (by decide) (by omega) (fun c5 => ?_) (fun c5 => ?_)
          · exact absurd c5 (by decide)
          · refine w_aload_n (i := 0) hX dX9_readNew_66 rfl rfl ?_
            refine w_getR (q := m + 7) hX dX9_readNew_67 fo_RX9_76 rfl (mod_s hT.1) (mod_r11 hT.1) ?_
            refine w_iload hX dX9_readNew_70 rfl ?_
            refine w_laldN hX dX9_readNew_72 (mod_a7 hT.1) (by omega) (by omega) ?_
            refine w_topL (y := lN (phi (M.2.1 k))) (by rw [gL_sI]; exact (hN.2.2 k (by omega)).1) ?_
            refine w_aload_n (i := 0) hX dX9_readNew_73 rfl rfl ?_
            refine w_getR (q := m + 4) hX dX9_readNew_74 fo_RX9_30 rfl (mod_s hT.1) (mod_r6 hT.1) ?_
            refine w_aload_n (i := 0) hX dX9_readNew_77 rfl rfl ?_
            refine w_getI hX dX9_readNew_78 fo_RX9_151 rfl (mod_s hT.1) ?_
            refine w_top (y := nI (n + 1)) (by rw [gI_same]) ?_
            refine w_laldN hX dX9_readNew_81 (mod_a4 hT.1) (by omega) (by omega) ?_
            refine w_topL (y := lN (phi (wd s (n + 1)))) (by rw [gL_sI]; exact hw1 (by omega)) ?_
            refine w_lcmp hX dX9_readNew_82 ?_
            refine wc_if_ne (tgt := 91) hX dX9_readNew_83 (by decide) (fun c6 => ?_) (fun c6 => ?_)
            · refine w_iincN (w := 1) (l2 := [some (.ref m), some (.int (nI a0)), some (.int (nI most)), some (.int (nI what)), some (.int (nI (B a0))), some (.int (nI (k + 1)))]) hX dX9_readNew_91 rfl kI_1 rfl rfl ?_
              refine w_goto (tgt := 50) hX dX9_readNew_94 (by decide) ?_
              refine ih (by omega) (fun i hi e9 => ?_)
              by_cases e : i = k
              · subst e; exact c6 ((cmp0 (by have := phi_lt (v := M.2.1 i); omega) (by have := phi_lt (v := wd s (n + 1)); omega)).mpr (by rw [e9]))
              · exact hno i (by omega) e9
            · refine w_aload_n (i := 0) hX dX9_readNew_86 rfl rfl ?_
              refine w_iconst hX dX9_readNew_87 kI_3 ?_
              refine w_callVV (As := [.int (nI 3)]) (rest := []) (ci := 9) (o := m) (k2 := 0) (n2 := 0) hX dX9_readNew_88 (s_m_wrong0 Γ (sI μ m 7 (nI (n + 1))) m s hT1 (n + 1) hS1 3) okX9_wrong (ltb rfl) (mod_s hT.1) ml_RX9_160 imX9_wrong seX9_wrong rfl (leb rfl) (leb rfl) rfl rfl (fun μ9 hq9 => ?_)
              rw [hq9]; clear hq9 μ9
              refine w_iincN (w := 1) (l2 := [some (.ref m), some (.int (nI a0)), some (.int (nI most)), some (.int (nI what)), some (.int (nI (B a0))), some (.int (nI (k + 1)))]) hX dX9_readNew_91 rfl kI_1 rfl rfl ?_
              refine w_goto (tgt := 50) hX dX9_readNew_94 (by decide) ?_
              have hck : M.2.1 k = wd s (n + 1) := (phi_inj (hN.2.2 k (by omega)).2.1 hwl).mp ((cmp0 (by have := phi_lt (v := M.2.1 k); omega) (by have := phi_lt (v := wd s (n + 1)); omega)).mp c6)
              have hfk := fnm_at hd (by omega) hck
              refine w_iload hX dX9_readNew_50 rfl ?_
              refine w_aload_n (i := 0) hX dX9_readNew_52 rfl rfl ?_
              refine w_getI hX dX9_readNew_53 fo_RX9_180 rfl (mod_s hT.1) ?_
              refine w_top (y := nI M.1) (by rw [gI_nk (by omega), gI_nk (by omega)]; exact hN.1) ?_
              refine wn_icmp_ge (tgt := 97) hX dX9_readNew_56 (by decide) (by omega) (by omega) (fun c7 => ?_) (fun c7 => ?_)
              · refine w_aload_n (i := 0) hX dX9_readNew_97 rfl rfl ?_
                refine w_getI hX dX9_readNew_98 fo_RX9_154 rfl (mod_s hT.1) ?_
                refine w_top (y := nI ((ft s 3 (n + 1)))) gI_same ?_
                refine wn_if_ne (tgt := 177) hX dX9_readNew_101 (by decide) (by omega) (fun c8 => ?_) (fun c8 => ?_)
                · refine w_iload hX dX9_readNew_177 rfl ?_
                  exact w_iret hX hE dX9_readNew_179 (Or.inl rfl) rfl (Or.inr ⟨ft s 3 (n + 1), B a0, pNew_3 (by omega) hk4 hfk, rfl, by omega, hS1.bad (ft_lt hT.2.2.2 (by omega) (by omega)), (hs1.up (fun o k h => by unfold SA2 at h; unfold SMm; omega)).sI (Or.inl ⟨rfl, by omega⟩)⟩)
                · exfalso; omega
              · refine w_aload_n (i := 0) hX dX9_readNew_59 rfl rfl ?_
                refine w_getI hX dX9_readNew_60 fo_RX9_154 rfl (mod_s hT.1) ?_
                refine w_top (y := nI ((ft s 3 (n + 1)))) gI_same ?_
                refine wn_if_ne (tgt := 97) hX dX9_readNew_63 (by decide) (by omega) (fun c9 => ?_) (fun c9 => ?_)
                · refine w_aload_n (i := 0) hX dX9_readNew_97 rfl rfl ?_
                  refine w_getI hX dX9_readNew_98 fo_RX9_154 rfl (mod_s hT.1) ?_
                  refine w_top (y := nI ((ft s 3 (n + 1)))) gI_same ?_
                  refine wn_if_ne (tgt := 177) hX dX9_readNew_101 (by decide) (by omega) (fun c10 => ?_) (fun c10 => ?_)
                  · refine w_iload hX dX9_readNew_177 rfl ?_
                    exact w_iret hX hE dX9_readNew_179 (Or.inl rfl) rfl (Or.inr ⟨ft s 3 (n + 1), B a0, pNew_3 (by omega) hk4 hfk, rfl, by omega, hS1.bad (ft_lt hT.2.2.2 (by omega) (by omega)), (hs1.up (fun o k h => by unfold SA2 at h; unfold SMm; omega)).sI (Or.inl ⟨rfl, by omega⟩)⟩)
                  · exfalso; omega
                · exfalso; omega
      exact loop 0 (Nat.zero_le _) (fun i hi => absurd hi (Nat.not_lt_zero _))
    · refine w_aload_n (i := 0) hX dX9_readNew_42 rfl rfl ?_
      refine w_iconst hX dX9_readNew_43 kI_1 ?_
      refine w_callVV (As := [.int (nI 1)]) (rest := []) (ci := 9) (o := m) (k2 := 0) (n2 := 0) hX dX9_readNew_44 (s_m_wrong0 Γ (sI μ m 7 (nI (n + 1))) m s hT1 (n + 1) hS1 1) okX9_wrong (ltb rfl) (mod_s hT.1) ml_RX9_160 imX9_wrong seX9_wrong rfl (leb rfl) (leb rfl) rfl rfl (fun μ9 hq9 => ?_)
      rw [hq9]; clear hq9 μ9
      refine w_iconst hX dX9_readNew_47 kI_0 ?_
      refine w_istore (l2 := [some (.ref m), some (.int (nI a0)), some (.int (nI most)), some (.int (nI what)), some (.int (nI (B a0))), some (.int (nI 0))]) hX dX9_readNew_48 (ltb rfl) rfl rfl ?_
      refine w_iload hX dX9_readNew_50 rfl ?_
      refine w_aload_n (i := 0) hX dX9_readNew_52 rfl rfl ?_
      refine w_getI hX dX9_readNew_53 fo_RX9_180 rfl (mod_s hT.1) ?_
      refine w_top (y := nI M.1) (by rw [gI_nk (by omega), gI_nk (by omega)]; exact hN.1) ?_
      refine wn_icmp_ge (tgt := 97) hX dX9_readNew_56 (by decide) (by omega) (by omega) (fun c11 => ?_) (fun c11 => ?_)
      · refine w_aload_n (i := 0) hX dX9_readNew_97 rfl rfl ?_
        refine w_getI hX dX9_readNew_98 fo_RX9_154 rfl (mod_s hT.1) ?_
        refine w_top (y := nI ((ft s 1 (n + 1)))) gI_same ?_
        refine wn_if_ne (tgt := 177) hX dX9_readNew_101 (by decide) (by omega) (fun c12 => ?_) (fun c12 => ?_)
        · refine w_iload hX dX9_readNew_177 rfl ?_
          exact w_iret hX hE dX9_readNew_179 (Or.inl rfl) rfl (Or.inr ⟨ft s 1 (n + 1), B a0, pNew_1 (by omega) (of_decide_eq_false hk4), rfl, by omega, hS1.bad (ft_lt hT.2.2.2 (by omega) (by omega)), (hs1.up (fun o k h => by unfold SA2 at h; unfold SMm; omega)).sI (Or.inl ⟨rfl, by omega⟩)⟩)
        · exfalso; omega
      · refine w_aload_n (i := 0) hX dX9_readNew_59 rfl rfl ?_
        refine w_getI hX dX9_readNew_60 fo_RX9_154 rfl (mod_s hT.1) ?_
        refine w_top (y := nI ((ft s 1 (n + 1)))) gI_same ?_
        refine wn_if_ne (tgt := 97) hX dX9_readNew_63 (by decide) (by omega) (fun c13 => ?_) (fun c13 => ?_)
        · refine w_aload_n (i := 0) hX dX9_readNew_97 rfl rfl ?_
          refine w_getI hX dX9_readNew_98 fo_RX9_154 rfl (mod_s hT.1) ?_
          refine w_top (y := nI ((ft s 1 (n + 1)))) gI_same ?_
          refine wn_if_ne (tgt := 177) hX dX9_readNew_101 (by decide) (by omega) (fun c14 => ?_) (fun c14 => ?_)
          · refine w_iload hX dX9_readNew_177 rfl ?_
            exact w_iret hX hE dX9_readNew_179 (Or.inl rfl) rfl (Or.inr ⟨ft s 1 (n + 1), B a0, pNew_1 (by omega) (of_decide_eq_false hk4), rfl, by omega, hS1.bad (ft_lt hT.2.2.2 (by omega) (by omega)), (hs1.up (fun o k h => by unfold SA2 at h; unfold SMm; omega)).sI (Or.inl ⟨rfl, by omega⟩)⟩)
          · exfalso; omega
        · exfalso; omega
  · refine w_aload_n (i := 0) hX dX9_readNew_18 rfl rfl ?_
    refine w_iconst hX dX9_readNew_19 kI_5 ?_
    refine w_callVV (As := [.int (nI 5)]) (rest := []) (ci := 9) (o := m) (k2 := 0) (n2 := 0) hX dX9_readNew_20 (s_m_wrong0 Γ μ m s hT n hS 5) okX9_wrong (ltb rfl) (mod_s hT.1) ml_RX9_160 imX9_wrong seX9_wrong rfl (leb rfl) (leb rfl) rfl rfl (fun μ9 hq9 => ?_)
    rw [hq9]; clear hq9 μ9
    refine w_iconst hX dX9_readNew_23 kI_0 ?_
    exact w_iret hX hE dX9_readNew_24 (Or.inl rfl) rfl (Or.inr ⟨ft s 5 n, 0, pNew_5 (by omega), rfl, by omega, hS.bad (ft_lt hT.2.2.2 (by omega) (by omega)), same.rf.sI (Or.inl ⟨rfl, by omega⟩)⟩)
