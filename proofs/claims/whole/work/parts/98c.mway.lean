set_option maxHeartbeats 1000000 in
theorem s_m_way_s (Γ : Gm) (μ : Mem) (m : Nat) (s : Tp) (n : Nat) (B : Nat → Nat) (M : NM) (hT : MT μ m s) (hS : MSt μ m s n) (hB : MBk μ m B) (hN : MN μ m M) (hP : PIv B M) (hkn : kd s n ≠ 0)  : SpV Γ MX9_readWay 4 0 0 [.ref m] μ (fun μ2 => MX m s (pWay s n B M) μ μ2) := by
  refine SpV.of okX9_readWay rfl [some (.ref m), none, none, none] ⟨rfl, trivial⟩ (leb rfl) (leb rfl) (fun X hX hE hnm => ?_)
  have hs : same (SMm m) μ μ := same.rf
  obtain ⟨hM9, hb0, hb85, hb126, hb352⟩ := M32 hP
  have hn := (rch_le hT.2.2.2 n hS.2.1).2
  have hL1 := hT.2.2.2.1
  refine w_aload_n (i := 0) hX dX9_readWay_0 rfl rfl ?_
  refine w_dup hX dX9_readWay_1 rfl ?_
  refine w_getI hX dX9_readWay_2 fo_RX9_151 rfl (mod_s hT.1) ?_
  refine w_top (y := nI n) hS.1 ?_
  refine w_iconst hX dX9_readWay_5 kI_1 ?_
  refine w_iaddN hX dX9_readWay_6 ?_
  refine w_putI hX dX9_readWay_7 fo_RX9_151 rfl rfl rfl rfl (mod_s hT.1) ?_
  have hS_1 : MSt (sI μ m 7 (nI (n + 1))) m s (n + 1) := hS.next (show kd s (n) ≠ 0 from hkn)
  have t1 : same (SA2 m) μ (sI μ m 7 (nI (n + 1))) := same.rf.sI ⟨rfl, Or.inl rfl⟩
  have hT_1 := hT.sm t1 (fun o k h => by unfold SA2 at h; omega)
  have hB_1 := hB.sm t1 (fun o k h => by unfold SA2 at h; omega)
  have hN_1 := hN.sm t1 (fun o k h => by unfold SA2 at h; omega)
  have hn_1 := (rch_le hT_1.2.2.2 _ hS_1.2.1).2
  have hs_1 := hs.tr (t1.up (fun o k h => by unfold SA2 at h; unfold SMm; omega))
  refine w_aload_n (i := 0) hX dX9_readWay_10 rfl rfl ?_
  refine w_iconst hX dX9_readWay_11 kI_0 ?_
  refine w_callVI (As := [.int (nI 0)]) (rest := []) (ci := 9) (o := m) (k2 := 0) (n2 := 0) hX dX9_readWay_12 (s_m_takeName Γ (sI μ m 7 (nI (n + 1))) m s hT_1 (n + 1) hS_1 M hN_1 hP.2.2.2.2 0 (by omega)) okX9_takeName (ltb rfl) (mod_s hT_1.1) ml_RX9_225 imX9_takeName seX9_takeName rfl (leb rfl) (leb rfl) rfl rfl (fun r2 ν2 hq9 => ?_)
  rcases hq9 with ⟨v2, p2, e2, m2⟩ | ⟨f2, p2, e2, m2⟩
  · rw [e2, m2]
    have lt2 := told_t hP p2
    have q2 := (pNm_inr p2).1
    have hS_2 : MSt (sI (sI μ m 7 (nI (n + 1))) m 7 (nI (n + 1 + 1))) m s (n + 2) := hS_1.next (show kd s (n + 1) ≠ 0 by omega)
    have t2 : same (SA2 m) (sI μ m 7 (nI (n + 1))) (sI (sI μ m 7 (nI (n + 1))) m 7 (nI (n + 1 + 1))) := same.rf.sI ⟨rfl, Or.inl rfl⟩
    have hT_2 := hT_1.sm t2 (fun o k h => by unfold SA2 at h; omega)
    have hB_2 := hB_1.sm t2 (fun o k h => by unfold SA2 at h; omega)
    have hN_2 := hN_1.sm t2 (fun o k h => by unfold SA2 at h; omega)
    have hn_2 := (rch_le hT_2.2.2.2 _ hS_2.2.1).2
    have hs_2 := hs_1.tr (t2.up (fun o k h => by unfold SA2 at h; unfold SMm; omega))
    refine w_istore_n (i := 1) (l2 := [some (.ref m), some (.int (nI v2)), none, none]) hX dX9_readWay_15 rfl (ltb rfl) rfl rfl ?_
    refine w_aload_n (i := 0) hX dX9_readWay_16 rfl rfl ?_
    refine w_getI hX dX9_readWay_17 fo_RX9_154 rfl (mod_s hT_2.1) ?_
    refine w_top (y := nI 0) hS_2.2.2 ?_
    refine wn_if_le (tgt := 27) hX dX9_readWay_20 (by decide) (by omega) (fun c1 => ?_) (fun c1 => ?_)
    · refine w_aload_n (i := 0) hX dX9_readWay_27 rfl rfl ?_
      refine w_iconst hX dX9_readWay_28 kI_0 ?_
      refine w_callVI (As := [.int (nI 0)]) (rest := []) (ci := 9) (o := m) (k2 := 0) (n2 := 0) hX dX9_readWay_29 (s_m_nameHere Γ (sI (sI μ m 7 (nI (n + 1))) m 7 (nI (n + 1 + 1))) m s hT_2 (n + 2) hS_2 M hN_2 hP.2.2.2.2 0 (by omega)) okX9_nameHere (ltb rfl) (mod_s hT_2.1) ml_RX9_219 imX9_nameHere seX9_nameHere rfl (leb rfl) (leb rfl) rfl rfl (fun r3 ν3 hq9 => ?_)
      rcases hq9 with ⟨v3, p3, e3, m3⟩ | ⟨f3, p3, e3, m3⟩
      · rw [e3, m3]
        have lt3 := told_t hP p3
        have q3 := (pNm_inr p3).1
        refine w_istore_n (i := 2) (l2 := [some (.ref m), some (.int (nI v2)), some (.int (nI v3)), none]) hX dX9_readWay_32 rfl (ltb rfl) rfl rfl ?_
        refine w_iload_n (i := 2) hX dX9_readWay_33 rfl rfl ?_
        refine wn_if_lt (tgt := 64) hX dX9_readWay_34 (by decide) (by omega) (fun c2 => ?_) (fun c2 => ?_)
        · exfalso; omega
        · refine w_iload_n (i := 2) hX dX9_readWay_37 rfl rfl ?_
          refine w_iload_n (i := 1) hX dX9_readWay_38 rfl rfl ?_
          refine wn_icmp_eq (tgt := 59) hX dX9_readWay_39 (by decide) (by omega) (by omega) (fun c3 => ?_) (fun c3 => ?_)
          · refine w_aload_n (i := 0) hX dX9_readWay_59 rfl rfl ?_
            refine w_iconst hX dX9_readWay_60 kI_3 ?_
            refine w_callVV (As := [.int (nI 3)]) (rest := []) (ci := 9) (o := m) (k2 := 0) (n2 := 0) hX dX9_readWay_61 (s_m_wrong0 Γ (sI (sI μ m 7 (nI (n + 1))) m 7 (nI (n + 1 + 1))) m s hT_2 (n + 2) hS_2 3) okX9_wrong (ltb rfl) (mod_s hT_2.1) ml_RX9_160 imX9_wrong seX9_wrong rfl (leb rfl) (leb rfl) rfl rfl (fun μ9 hq9 => ?_)
            rw [hq9]; clear hq9 μ9
            have hF_4 := hS_2.bad (ft_lt (w := 3) (n := n + 2) hT.2.2.2 (by omega) (by omega))
            have t4 : same (SA2 m) (sI (sI μ m 7 (nI (n + 1))) m 7 (nI (n + 1 + 1))) (sI (sI (sI μ m 7 (nI (n + 1))) m 7 (nI (n + 1 + 1))) m 8 (nI (ft s 3 (n + 2)))) := same.rf.sI ⟨rfl, Or.inr rfl⟩
            have hT_4 := hT_2.sm t4 (fun o k h => by unfold SA2 at h; omega)
            obtain ⟨n9_4, hn9_4⟩ := hF_4.2.2
            have hf_4 := hF_4.2.1
            have hn_4 := (rch_le hT_4.2.2.2 _ hn9_4.1).2
            have hs_4 := hs_2.tr (t4.up (fun o k h => by unfold SA2 at h; unfold SMm; omega))
            refine w_aload_n (i := 0) hX dX9_readWay_64 rfl rfl ?_
            refine w_dup hX dX9_readWay_65 rfl ?_
            refine w_getI hX dX9_readWay_66 fo_RX9_151 rfl (mod_s hT_4.1) ?_
            refine w_top (y := nI n9_4) hn9_4.2 ?_
            refine w_aload_n (i := 0) hX dX9_readWay_69 rfl rfl ?_
            refine w_getI hX dX9_readWay_70 fo_RX9_154 rfl (mod_s hT_4.1) ?_
            refine w_top (y := nI (ft s 3 (n + 2))) hF_4.1 ?_
            refine wn_if_le (tgt := 80) hX dX9_readWay_73 (by decide) (by omega) (fun c4 => ?_) (fun c4 => ?_)
            · exfalso; omega
            · refine w_iconst hX dX9_readWay_76 kI_0 ?_
              refine w_goto (tgt := 81) hX dX9_readWay_77 (by decide) ?_
              refine w_iaddN hX dX9_readWay_81 ?_
              refine w_putI hX dX9_readWay_82 fo_RX9_151 rfl rfl rfl rfl (mod_s hT_4.1) ?_
              rw [show sI (sI (sI (sI μ m 7 (nI (n + 1))) m 7 (nI (n + 1 + 1))) m 8 (nI (ft s 3 (n + 2)))) m 7 (nI (n9_4 + 0)) = sI (sI (sI μ m 7 (nI (n + 1))) m 7 (nI (n + 1 + 1))) m 8 (nI (ft s 3 (n + 2))) from sI_id (by rw [Nat.add_zero]; exact hn9_4.2)]
              refine w_aload_n (i := 0) hX dX9_readWay_85 rfl rfl ?_
              refine w_iconst hX dX9_readWay_86 kI_1 ?_
              refine w_sipush hX dX9_readWay_87 kS_9999 ?_
              refine w_callVI (As := [.int (nI 1), .int (nI 9999)]) (rest := []) (ci := 9) (o := m) (k2 := 0) (n2 := 0) hX dX9_readWay_90 (s_m_takeNf Γ (sI (sI (sI μ m 7 (nI (n + 1))) m 7 (nI (n + 1 + 1))) m 8 (nI (ft s 3 (n + 2)))) m s hT_4 (ft s 3 (n + 2)) hF_4 (nI 1) 9999) okX9_takeNumber (ltb rfl) (mod_s hT_4.1) ml_RX9_173 imX9_takeNumber seX9_takeNumber rfl (leb rfl) (leb rfl) rfl rfl (fun r9 μ9 hq9 => ?_)
              obtain ⟨hr9, hm9⟩ := hq9; rw [hr9, hm9]; clear hr9 hm9 r9 μ9
              refine w_istore_n (i := 3) (l2 := [some (.ref m), some (.int (nI v2)), some (.int (nI v3)), some (.int (nI 0))]) hX dX9_readWay_93 rfl (ltb rfl) rfl rfl ?_
              refine w_aload_n (i := 0) hX dX9_readWay_94 rfl rfl ?_
              refine w_getI hX dX9_readWay_95 fo_RX9_154 rfl (mod_s hT_4.1) ?_
              refine w_top (y := nI (ft s 3 (n + 2))) hF_4.1 ?_
              refine wn_if_ne (tgt := 131) hX dX9_readWay_98 (by decide) (by omega) (fun c5 => ?_) (fun c5 => ?_)
              · have hpx : pWay s n B M = .inl (ft s 3 (n + 2)) := by unfold pWay; exact (bnd_r p2).trans ((bnd_r p3).trans (if_pos (by omega)))
                exact w_vret hX hE dX9_readWay_131 (Or.inl rfl) (MX_l hpx hs_4 hF_4)
              · exfalso; omega
          · have hw9 := hP.2.1 (76 + 3 * v2 + v3)
            refine w_aload_n (i := 0) hX dX9_readWay_42 rfl rfl ?_
            refine w_getR (q := m + 6) hX dX9_readWay_43 fo_RX9_73 rfl (mod_s hT_2.1) (mod_r10 hT_2.1) ?_
            refine w_sipush hX dX9_readWay_46 kS_556 ?_
            refine w_iconst hX dX9_readWay_49 kI_3 ?_
            refine w_iload_n (i := 1) hX dX9_readWay_50 rfl rfl ?_
            refine w_imulN hX dX9_readWay_51 ?_
            refine w_iaddN hX dX9_readWay_52 ?_
            refine w_iload_n (i := 2) hX dX9_readWay_53 rfl rfl ?_
            refine w_iaddN hX dX9_readWay_54 ?_
            refine w_ialdN hX dX9_readWay_55 (mod_a6 hT_2.1) (by omega) (by omega) ?_
            refine w_top (y := nI (B (76 + 3 * v2 + v3))) (by have h9 := hB_2 (76 + 3 * v2 + v3) (by omega); rwa [show 480 + (76 + 3 * v2 + v3) = 556 + 3 * v2 + v3 by omega] at h9) ?_
            refine wn_if_le (tgt := 64) hX dX9_readWay_56 (by decide) (by omega) (fun c6 => ?_) (fun c6 => ?_)
            · refine w_aload_n (i := 0) hX dX9_readWay_64 rfl rfl ?_
              refine w_dup hX dX9_readWay_65 rfl ?_
              refine w_getI hX dX9_readWay_66 fo_RX9_151 rfl (mod_s hT_2.1) ?_
              refine w_top (y := nI (n + 2)) hS_2.1 ?_
              refine w_aload_n (i := 0) hX dX9_readWay_69 rfl rfl ?_
              refine w_getI hX dX9_readWay_70 fo_RX9_154 rfl (mod_s hT_2.1) ?_
              refine w_top (y := nI 0) hS_2.2.2 ?_
              refine wn_if_le (tgt := 80) hX dX9_readWay_73 (by decide) (by omega) (fun c7 => ?_) (fun c7 => ?_)
              · refine w_iconst hX dX9_readWay_80 kI_1 ?_
                refine w_iaddN hX dX9_readWay_81 ?_
                refine w_putI hX dX9_readWay_82 fo_RX9_151 rfl rfl rfl rfl (mod_s hT_2.1) ?_
                have hS_6 : MSt (sI (sI (sI μ m 7 (nI (n + 1))) m 7 (nI (n + 1 + 1))) m 7 (nI (n + 2 + 1))) m s (n + 3) := hS_2.next (show kd s (n + 2) ≠ 0 by omega)
                have t6 : same (SA2 m) (sI (sI μ m 7 (nI (n + 1))) m 7 (nI (n + 1 + 1))) (sI (sI (sI μ m 7 (nI (n + 1))) m 7 (nI (n + 1 + 1))) m 7 (nI (n + 2 + 1))) := same.rf.sI ⟨rfl, Or.inl rfl⟩
                have hT_6 := hT_2.sm t6 (fun o k h => by unfold SA2 at h; omega)
                have hB_6 := hB_2.sm t6 (fun o k h => by unfold SA2 at h; omega)
                have hN_6 := hN_2.sm t6 (fun o k h => by unfold SA2 at h; omega)
                have hn_6 := (rch_le hT_6.2.2.2 _ hS_6.2.1).2
                have hs_6 := hs_2.tr (t6.up (fun o k h => by unfold SA2 at h; unfold SMm; omega))
                refine w_aload_n (i := 0) hX dX9_readWay_85 rfl rfl ?_
                refine w_iconst hX dX9_readWay_86 kI_1 ?_
                refine w_sipush hX dX9_readWay_87 kS_9999 ?_
                refine w_callVI (As := [.int (nI 1), .int (nI 9999)]) (rest := []) (ci := 9) (o := m) (k2 := 0) (n2 := 0) hX dX9_readWay_90 (s_m_takeN0 Γ (sI (sI (sI μ m 7 (nI (n + 1))) m 7 (nI (n + 1 + 1))) m 7 (nI (n + 2 + 1))) m s hT_6 (n + 3) hS_6 1 9999 (by omega) (by omega)) okX9_takeNumber (ltb rfl) (mod_s hT_6.1) ml_RX9_173 imX9_takeNumber seX9_takeNumber rfl (leb rfl) (leb rfl) rfl rfl (fun r7 ν7 hq9 => ?_)
                rcases hq9 with ⟨p7, e7, m7⟩ | ⟨f7, p7, e7, m7⟩
                · rw [e7, m7]
                  obtain ⟨q7, -, l7, g7⟩ := pNb_inr p7
                  have hS_7 : MSt (sI (sI (sI (sI μ m 7 (nI (n + 1))) m 7 (nI (n + 1 + 1))) m 7 (nI (n + 2 + 1))) m 7 (nI (n + 3 + 1))) m s (n + 4) := hS_6.next (show kd s (n + 3) ≠ 0 by omega)
                  have t7 : same (SA2 m) (sI (sI (sI μ m 7 (nI (n + 1))) m 7 (nI (n + 1 + 1))) m 7 (nI (n + 2 + 1))) (sI (sI (sI (sI μ m 7 (nI (n + 1))) m 7 (nI (n + 1 + 1))) m 7 (nI (n + 2 + 1))) m 7 (nI (n + 3 + 1))) := same.rf.sI ⟨rfl, Or.inl rfl⟩
                  have hT_7 := hT_6.sm t7 (fun o k h => by unfold SA2 at h; omega)
                  have hB_7 := hB_6.sm t7 (fun o k h => by unfold SA2 at h; omega)
                  have hN_7 := hN_6.sm t7 (fun o k h => by unfold SA2 at h; omega)
                  have hn_7 := (rch_le hT_7.2.2.2 _ hS_7.2.1).2
                  have hs_7 := hs_6.tr (t7.up (fun o k h => by unfold SA2 at h; unfold SMm; omega))
                  refine w_istore_n (i := 3) (l2 := [some (.ref m), some (.int (nI v2)), some (.int (nI v3)), some (.int (nI (vl s (n + 3))))]) hX dX9_readWay_93 rfl (ltb rfl) rfl rfl ?_
                  refine w_aload_n (i := 0) hX dX9_readWay_94 rfl rfl ?_
                  refine w_getI hX dX9_readWay_95 fo_RX9_154 rfl (mod_s hT_7.1) ?_
                  refine w_top (y := nI 0) hS_7.2.2 ?_
                  refine wn_if_ne (tgt := 131) hX dX9_readWay_98 (by decide) (by omega) (fun c8 => ?_) (fun c8 => ?_)
                  · exact absurd c8 (by decide)
                  · refine w_aload_n (i := 0) hX dX9_readWay_101 rfl rfl ?_
                    refine w_getR (q := m + 6) hX dX9_readWay_102 fo_RX9_73 rfl (mod_s hT_7.1) (mod_r10 hT_7.1) ?_
                    refine w_sipush hX dX9_readWay_105 kS_556 ?_
                    refine w_iconst hX dX9_readWay_108 kI_3 ?_
                    refine w_iload_n (i := 1) hX dX9_readWay_109 rfl rfl ?_
                    refine w_imulN hX dX9_readWay_110 ?_
                    refine w_iaddN hX dX9_readWay_111 ?_
                    refine w_iload_n (i := 2) hX dX9_readWay_112 rfl rfl ?_
                    refine w_iaddN hX dX9_readWay_113 ?_
                    refine w_iload_n (i := 3) hX dX9_readWay_114 rfl rfl ?_
                    refine w_iastN hX dX9_readWay_115 (mod_a6 hT_7.1) (by omega) (by omega) ?_
                    have t8 : same (fun o2 k2 => o2 = m + 6 ∧ k2 = 556 + (3 * v2) + v3) (sI (sI (sI (sI μ m 7 (nI (n + 1))) m 7 (nI (n + 1 + 1))) m 7 (nI (n + 2 + 1))) m 7 (nI (n + 3 + 1))) (sI (sI (sI (sI (sI μ m 7 (nI (n + 1))) m 7 (nI (n + 1 + 1))) m 7 (nI (n + 2 + 1))) m 7 (nI (n + 3 + 1))) (m + 6) (556 + (3 * v2) + v3) (nI (vl s (n + 3)))) := same.rf.sI ⟨rfl, rfl⟩
                    have hT_8 := hT_7.sm t8 (fun o k h => by omega)
                    have hs_8 := hs_7.tr (t8.up (fun o k h => by unfold SMm; omega))
                    have hS_8 := hS_7.sm t8 (fun h => by omega) (fun h => by omega)
                    have hN_8 := hN_7.sm t8 (fun o k h => by omega)
                    have hB_8 : MBk (sI (sI (sI (sI (sI μ m 7 (nI (n + 1))) m 7 (nI (n + 1 + 1))) m 7 (nI (n + 2 + 1))) m 7 (nI (n + 3 + 1))) (m + 6) (556 + (3 * v2) + v3) (nI (vl s (n + 3)))) m (stB B (76 + 3 * v2 + v3) ((vl s (n + 3)))) := by have h9 := hB_7.st (j := 76 + 3 * v2 + v3) (v := (vl s (n + 3))) (by omega); rwa [show 480 + (76 + 3 * v2 + v3) = 556 + (3 * v2) + v3 by omega] at h9
                    have hn_8 := hn_7
                    refine w_aload_n (i := 0) hX dX9_readWay_116 rfl rfl ?_
                    refine w_getR (q := m + 6) hX dX9_readWay_117 fo_RX9_73 rfl (mod_s hT_8.1) (mod_r10 hT_8.1) ?_
                    refine w_sipush hX dX9_readWay_120 kS_556 ?_
                    refine w_iconst hX dX9_readWay_123 kI_3 ?_
                    refine w_iload_n (i := 2) hX dX9_readWay_124 rfl rfl ?_
                    refine w_imulN hX dX9_readWay_125 ?_
                    refine w_iaddN hX dX9_readWay_126 ?_
                    refine w_iload_n (i := 1) hX dX9_readWay_127 rfl rfl ?_
                    refine w_iaddN hX dX9_readWay_128 ?_
                    refine w_iload_n (i := 3) hX dX9_readWay_129 rfl rfl ?_
                    refine w_iastN hX dX9_readWay_130 (mod_a6 hT_8.1) (by omega) (by omega) ?_
                    have t9 : same (fun o2 k2 => o2 = m + 6 ∧ k2 = 556 + (3 * v3) + v2) (sI (sI (sI (sI (sI μ m 7 (nI (n + 1))) m 7 (nI (n + 1 + 1))) m 7 (nI (n + 2 + 1))) m 7 (nI (n + 3 + 1))) (m + 6) (556 + (3 * v2) + v3) (nI (vl s (n + 3)))) (sI (sI (sI (sI (sI (sI μ m 7 (nI (n + 1))) m 7 (nI (n + 1 + 1))) m 7 (nI (n + 2 + 1))) m 7 (nI (n + 3 + 1))) (m + 6) (556 + (3 * v2) + v3) (nI (vl s (n + 3)))) (m + 6) (556 + (3 * v3) + v2) (nI (vl s (n + 3)))) := same.rf.sI ⟨rfl, rfl⟩
                    have hT_9 := hT_8.sm t9 (fun o k h => by omega)
                    have hs_9 := hs_8.tr (t9.up (fun o k h => by unfold SMm; omega))
                    have hS_9 := hS_8.sm t9 (fun h => by omega) (fun h => by omega)
                    have hN_9 := hN_8.sm t9 (fun o k h => by omega)
                    have hB_9 : MBk (sI (sI (sI (sI (sI (sI μ m 7 (nI (n + 1))) m 7 (nI (n + 1 + 1))) m 7 (nI (n + 2 + 1))) m 7 (nI (n + 3 + 1))) (m + 6) (556 + (3 * v2) + v3) (nI (vl s (n + 3)))) (m + 6) (556 + (3 * v3) + v2) (nI (vl s (n + 3)))) m (stB (stB B (76 + 3 * v2 + v3) ((vl s (n + 3)))) (76 + 3 * v3 + v2) ((vl s (n + 3)))) := by have h9 := hB_8.st (j := 76 + 3 * v3 + v2) (v := (vl s (n + 3))) (by omega); rwa [show 480 + (76 + 3 * v3 + v2) = 556 + (3 * v3) + v2 by omega] at h9
                    have hn_9 := hn_8
                    have hpx : pWay s n B M = .inr (n + 4, (stB (stB B (76 + 3 * v2 + v3) ((vl s (n + 3)))) (76 + 3 * v3 + v2) ((vl s (n + 3)))), M) := by unfold pWay; exact (bnd_r p2).trans ((bnd_r p3).trans ((if_neg (by omega)).trans (bnd_r p7)))
                    exact w_vret hX hE dX9_readWay_131 (Or.inl rfl) (MX_r hpx hs_9 hS_9 hB_9 hN_9)
                · rw [e7, m7]
                  have hF_7 := hS_6.bad (pNb_l hT.2.2.2 p7)
                  have t7 : same (SA2 m) (sI (sI (sI μ m 7 (nI (n + 1))) m 7 (nI (n + 1 + 1))) m 7 (nI (n + 2 + 1))) (sI (sI (sI (sI μ m 7 (nI (n + 1))) m 7 (nI (n + 1 + 1))) m 7 (nI (n + 2 + 1))) m 8 (nI f7)) := same.rf.sI ⟨rfl, Or.inr rfl⟩
                  have hT_7 := hT_6.sm t7 (fun o k h => by unfold SA2 at h; omega)
                  obtain ⟨n9_7, hn9_7⟩ := hF_7.2.2
                  have hf_7 := hF_7.2.1
                  have hn_7 := (rch_le hT_7.2.2.2 _ hn9_7.1).2
                  have hs_7 := hs_6.tr (t7.up (fun o k h => by unfold SA2 at h; unfold SMm; omega))
                  refine w_istore_n (i := 3) (l2 := [some (.ref m), some (.int (nI v2)), some (.int (nI v3)), some (.int (nI 0))]) hX dX9_readWay_93 rfl (ltb rfl) rfl rfl ?_
                  refine w_aload_n (i := 0) hX dX9_readWay_94 rfl rfl ?_
                  refine w_getI hX dX9_readWay_95 fo_RX9_154 rfl (mod_s hT_7.1) ?_
                  refine w_top (y := nI f7) hF_7.1 ?_
                  refine wn_if_ne (tgt := 131) hX dX9_readWay_98 (by decide) (by omega) (fun c9 => ?_) (fun c9 => ?_)
                  · have hpx : pWay s n B M = .inl f7 := by unfold pWay; exact (bnd_r p2).trans ((bnd_r p3).trans ((if_neg (by omega)).trans (bnd_l p7)))
                    exact w_vret hX hE dX9_readWay_131 (Or.inl rfl) (MX_l hpx hs_7 hF_7)
                  · exfalso; omega
              · exact absurd c7 (by decide)
            · refine w_aload_n (i := 0) hX dX9_readWay_59 rfl rfl ?_
              refine w_iconst hX dX9_readWay_60 kI_3 ?_
              refine w_callVV (As := [.int (nI 3)]) (rest := []) (ci := 9) (o := m) (k2 := 0) (n2 := 0) hX dX9_readWay_61 (s_m_wrong0 Γ (sI (sI μ m 7 (nI (n + 1))) m 7 (nI (n + 1 + 1))) m s hT_2 (n + 2) hS_2 3) okX9_wrong (ltb rfl) (mod_s hT_2.1) ml_RX9_160 imX9_wrong seX9_wrong rfl (leb rfl) (leb rfl) rfl rfl (fun μ9 hq9 => ?_)
              rw [hq9]; clear hq9 μ9
              have hF_10 := hS_2.bad (ft_lt (w := 3) (n := n + 2) hT.2.2.2 (by omega) (by omega))
              have t10 : same (SA2 m) (sI (sI μ m 7 (nI (n + 1))) m 7 (nI (n + 1 + 1))) (sI (sI (sI μ m 7 (nI (n + 1))) m 7 (nI (n + 1 + 1))) m 8 (nI (ft s 3 (n + 2)))) := same.rf.sI ⟨rfl, Or.inr rfl⟩
              have hT_10 := hT_2.sm t10 (fun o k h => by unfold SA2 at h; omega)
              obtain ⟨n9_10, hn9_10⟩ := hF_10.2.2
              have hf_10 := hF_10.2.1
              have hn_10 := (rch_le hT_10.2.2.2 _ hn9_10.1).2
              have hs_10 := hs_2.tr (t10.up (fun o k h => by unfold SA2 at h; unfold SMm; omega))
              refine w_aload_n (i := 0) hX dX9_readWay_64 rfl rfl ?_
              refine w_dup hX dX9_readWay_65 rfl ?_
              refine w_getI hX dX9_readWay_66 fo_RX9_151 rfl (mod_s hT_10.1) ?_
              refine w_top (y := nI n9_10) hn9_10.2 ?_
              refine w_aload_n (i := 0) hX dX9_readWay_69 rfl rfl ?_
              refine w_getI hX dX9_readWay_70 fo_RX9_154 rfl (mod_s hT_10.1) ?_
              refine w_top (y := nI (ft s 3 (n + 2))) hF_10.1 ?_
              refine wn_if_le (tgt := 80) hX dX9_readWay_73 (by decide) (by omega) (fun c10 => ?_) (fun c10 => ?_)
              · exfalso; omega
              · refine w_iconst hX dX9_readWay_76 kI_0 ?_
                refine w_goto (tgt := 81) hX dX9_readWay_77 (by decide) ?_
                refine w_iaddN hX dX9_readWay_81 ?_
                refine w_putI hX dX9_readWay_82 fo_RX9_151 rfl rfl rfl rfl (mod_s hT_10.1) ?_
                rw [show sI (sI (sI (sI μ m 7 (nI (n + 1))) m 7 (nI (n + 1 + 1))) m 8 (nI (ft s 3 (n + 2)))) m 7 (nI (n9_10 + 0)) = sI (sI (sI μ m 7 (nI (n + 1))) m 7 (nI (n + 1 + 1))) m 8 (nI (ft s 3 (n + 2))) from sI_id (by rw [Nat.add_zero]; exact hn9_10.2)]
                refine w_aload_n (i := 0) hX dX9_readWay_85 rfl rfl ?_
                refine w_iconst hX dX9_readWay_86 kI_1 ?_
                refine w_sipush hX dX9_readWay_87 kS_9999 ?_
                refine w_callVI (As := [.int (nI 1), .int (nI 9999)]) (rest := []) (ci := 9) (o := m) (k2 := 0) (n2 := 0) hX dX9_readWay_90 (s_m_takeNf Γ (sI (sI (sI μ m 7 (nI (n + 1))) m 7 (nI (n + 1 + 1))) m 8 (nI (ft s 3 (n + 2)))) m s hT_10 (ft s 3 (n + 2)) hF_10 (nI 1) 9999) okX9_takeNumber (ltb rfl) (mod_s hT_10.1) ml_RX9_173 imX9_takeNumber seX9_takeNumber rfl (leb rfl) (leb rfl) rfl rfl (fun r9 μ9 hq9 => ?_)
                obtain ⟨hr9, hm9⟩ := hq9; rw [hr9, hm9]; clear hr9 hm9 r9 μ9
                refine w_istore_n (i := 3) (l2 := [some (.ref m), some (.int (nI v2)), some (.int (nI v3)), some (.int (nI 0))]) hX dX9_readWay_93 rfl (ltb rfl) rfl rfl ?_
                refine w_aload_n (i := 0) hX dX9_readWay_94 rfl rfl ?_
                refine w_getI hX dX9_readWay_95 fo_RX9_154 rfl (mod_s hT_10.1) ?_
                refine w_top (y := nI (ft s 3 (n + 2))) hF_10.1 ?_
                refine wn_if_ne (tgt := 131) hX dX9_readWay_98 (by decide) (by omega) (fun c11 => ?_) (fun c11 => ?_)
                · have hpx : pWay s n B M = .inl (ft s 3 (n + 2)) := by unfold pWay; exact (bnd_r p2).trans ((bnd_r p3).trans (if_pos (by omega)))
                  exact w_vret hX hE dX9_readWay_131 (Or.inl rfl) (MX_l hpx hs_10 hF_10)
                · exfalso; omega
      · rw [e3, m3]
        have hF_3 := hS_2.bad (pNm_l hT.2.2.2 p3)
        have t3 : same (SA2 m) (sI (sI μ m 7 (nI (n + 1))) m 7 (nI (n + 1 + 1))) (sI (sI (sI μ m 7 (nI (n + 1))) m 7 (nI (n + 1 + 1))) m 8 (nI f3)) := same.rf.sI ⟨rfl, Or.inr rfl⟩
        have hT_3 := hT_2.sm t3 (fun o k h => by unfold SA2 at h; omega)
        obtain ⟨n9_3, hn9_3⟩ := hF_3.2.2
        have hf_3 := hF_3.2.1
        have hn_3 := (rch_le hT_3.2.2.2 _ hn9_3.1).2
        have hs_3 := hs_2.tr (t3.up (fun o k h => by unfold SA2 at h; unfold SMm; omega))
        refine w_istore_n (i := 2) (l2 := [some (.ref m), some (.int (nI v2)), some (.int ((-1 : Int32))), none]) hX dX9_readWay_32 rfl (ltb rfl) rfl rfl ?_
        refine w_iload_n (i := 2) hX dX9_readWay_33 rfl rfl ?_
        refine wc_if_lt (tgt := 64) hX dX9_readWay_34 (by decide) (fun c12 => ?_) (fun c12 => ?_)
        · refine w_aload_n (i := 0) hX dX9_readWay_64 rfl rfl ?_
          refine w_dup hX dX9_readWay_65 rfl ?_
          refine w_getI hX dX9_readWay_66 fo_RX9_151 rfl (mod_s hT_3.1) ?_
          refine w_top (y := nI n9_3) hn9_3.2 ?_
          refine w_aload_n (i := 0) hX dX9_readWay_69 rfl rfl ?_
          refine w_getI hX dX9_readWay_70 fo_RX9_154 rfl (mod_s hT_3.1) ?_
          refine w_top (y := nI f3) hF_3.1 ?_
          refine wn_if_le (tgt := 80) hX dX9_readWay_73 (by decide) (by omega) (fun c13 => ?_) (fun c13 => ?_)
          · exfalso; omega
          · refine w_iconst hX dX9_readWay_76 kI_0 ?_
            refine w_goto (tgt := 81) hX dX9_readWay_77 (by decide) ?_
            refine w_iaddN hX dX9_readWay_81 ?_
            refine w_putI hX dX9_readWay_82 fo_RX9_151 rfl rfl rfl rfl (mod_s hT_3.1) ?_
            rw [show sI (sI (sI (sI μ m 7 (nI (n + 1))) m 7 (nI (n + 1 + 1))) m 8 (nI f3)) m 7 (nI (n9_3 + 0)) = sI (sI (sI μ m 7 (nI (n + 1))) m 7 (nI (n + 1 + 1))) m 8 (nI f3) from sI_id (by rw [Nat.add_zero]; exact hn9_3.2)]
            refine w_aload_n (i := 0) hX dX9_readWay_85 rfl rfl ?_
            refine w_iconst hX dX9_readWay_86 kI_1 ?_
            refine w_sipush hX dX9_readWay_87 kS_9999 ?_
            refine w_callVI (As := [.int (nI 1), .int (nI 9999)]) (rest := []) (ci := 9) (o := m) (k2 := 0) (n2 := 0) hX dX9_readWay_90 (s_m_takeNf Γ (sI (sI (sI μ m 7 (nI (n + 1))) m 7 (nI (n + 1 + 1))) m 8 (nI f3)) m s hT_3 f3 hF_3 (nI 1) 9999) okX9_takeNumber (ltb rfl) (mod_s hT_3.1) ml_RX9_173 imX9_takeNumber seX9_takeNumber rfl (leb rfl) (leb rfl) rfl rfl (fun r9 μ9 hq9 => ?_)
            obtain ⟨hr9, hm9⟩ := hq9; rw [hr9, hm9]; clear hr9 hm9 r9 μ9
            refine w_istore_n (i := 3) (l2 := [some (.ref m), some (.int (nI v2)), some (.int ((-1 : Int32))), some (.int (nI 0))]) hX dX9_readWay_93 rfl (ltb rfl) rfl rfl ?_
            refine w_aload_n (i := 0) hX dX9_readWay_94 rfl rfl ?_
            refine w_getI hX dX9_readWay_95 fo_RX9_154 rfl (mod_s hT_3.1) ?_
            refine w_top (y := nI f3) hF_3.1 ?_
            refine wn_if_ne (tgt := 131) hX dX9_readWay_98 (by decide) (by omega) (fun c14 => ?_) (fun c14 => ?_)
            · have hpx : pWay s n B M = .inl f3 := by unfold pWay; exact (bnd_r p2).trans (bnd_l p3)
              exact w_vret hX hE dX9_readWay_131 (Or.inl rfl) (MX_l hpx hs_3 hF_3)
            · exfalso; omega
        · first | exact absurd c12 (by decide) | exact absurd (by decide) c12
    · exact absurd c1 (by decide)
  · rw [e2, m2]
    have hF_2 := hS_1.bad (pNm_l hT.2.2.2 p2)
    have t2 : same (SA2 m) (sI μ m 7 (nI (n + 1))) (sI (sI μ m 7 (nI (n + 1))) m 8 (nI f2)) := same.rf.sI ⟨rfl, Or.inr rfl⟩
    have hT_2 := hT_1.sm t2 (fun o k h => by unfold SA2 at h; omega)
    obtain ⟨n9_2, hn9_2⟩ := hF_2.2.2
    have hf_2 := hF_2.2.1
    have hn_2 := (rch_le hT_2.2.2.2 _ hn9_2.1).2
    have hs_2 := hs_1.tr (t2.up (fun o k h => by unfold SA2 at h; unfold SMm; omega))
    refine w_istore_n (i := 1) (l2 := [some (.ref m), some (.int ((-1 : Int32))), none, none]) hX dX9_readWay_15 rfl (ltb rfl) rfl rfl ?_
    refine w_aload_n (i := 0) hX dX9_readWay_16 rfl rfl ?_
    refine w_getI hX dX9_readWay_17 fo_RX9_154 rfl (mod_s hT_2.1) ?_
    refine w_top (y := nI f2) hF_2.1 ?_
    refine wn_if_le (tgt := 27) hX dX9_readWay_20 (by decide) (by omega) (fun c15 => ?_) (fun c15 => ?_)
    · exfalso; omega
    · refine w_iconst hX dX9_readWay_23 kI_m1 ?_
      refine w_goto (tgt := 32) hX dX9_readWay_24 (by decide) ?_
      refine w_istore_n (i := 2) (l2 := [some (.ref m), some (.int ((-1 : Int32))), some (.int ((-1 : Int32))), none]) hX dX9_readWay_32 rfl (ltb rfl) rfl rfl ?_
      refine w_iload_n (i := 2) hX dX9_readWay_33 rfl rfl ?_
      refine wc_if_lt (tgt := 64) hX dX9_readWay_34 (by decide) (fun c16 => ?_) (fun c16 => ?_)
      · refine w_aload_n (i := 0) hX dX9_readWay_64 rfl rfl ?_
        refine w_dup hX dX9_readWay_65 rfl ?_
        refine w_getI hX dX9_readWay_66 fo_RX9_151 rfl (mod_s hT_2.1) ?_
        refine w_top (y := nI n9_2) hn9_2.2 ?_
        refine w_aload_n (i := 0) hX dX9_readWay_69 rfl rfl ?_
        refine w_getI hX dX9_readWay_70 fo_RX9_154 rfl (mod_s hT_2.1) ?_
        refine w_top (y := nI f2) hF_2.1 ?_
        refine wn_if_le (tgt := 80) hX dX9_readWay_73 (by decide) (by omega) (fun c17 => ?_) (fun c17 => ?_)
        · exfalso; omega
        · refine w_iconst hX dX9_readWay_76 kI_0 ?_
          refine w_goto (tgt := 81) hX dX9_readWay_77 (by decide) ?_
          refine w_iaddN hX dX9_readWay_81 ?_
          refine w_putI hX dX9_readWay_82 fo_RX9_151 rfl rfl rfl rfl (mod_s hT_2.1) ?_
          rw [show sI (sI (sI μ m 7 (nI (n + 1))) m 8 (nI f2)) m 7 (nI (n9_2 + 0)) = sI (sI μ m 7 (nI (n + 1))) m 8 (nI f2) from sI_id (by rw [Nat.add_zero]; exact hn9_2.2)]
          refine w_aload_n (i := 0) hX dX9_readWay_85 rfl rfl ?_
          refine w_iconst hX dX9_readWay_86 kI_1 ?_
          refine w_sipush hX dX9_readWay_87 kS_9999 ?_
          refine w_callVI (As := [.int (nI 1), .int (nI 9999)]) (rest := []) (ci := 9) (o := m) (k2 := 0) (n2 := 0) hX dX9_readWay_90 (s_m_takeNf Γ (sI (sI μ m 7 (nI (n + 1))) m 8 (nI f2)) m s hT_2 f2 hF_2 (nI 1) 9999) okX9_takeNumber (ltb rfl) (mod_s hT_2.1) ml_RX9_173 imX9_takeNumber seX9_takeNumber rfl (leb rfl) (leb rfl) rfl rfl (fun r9 μ9 hq9 => ?_)
          obtain ⟨hr9, hm9⟩ := hq9; rw [hr9, hm9]; clear hr9 hm9 r9 μ9
          refine w_istore_n (i := 3) (l2 := [some (.ref m), some (.int ((-1 : Int32))), some (.int ((-1 : Int32))), some (.int (nI 0))]) hX dX9_readWay_93 rfl (ltb rfl) rfl rfl ?_
          refine w_aload_n (i := 0) hX dX9_readWay_94 rfl rfl ?_
          refine w_getI hX dX9_readWay_95 fo_RX9_154 rfl (mod_s hT_2.1) ?_
          refine w_top (y := nI f2) hF_2.1 ?_
          refine wn_if_ne (tgt := 131) hX dX9_readWay_98 (by decide) (by omega) (fun c18 => ?_) (fun c18 => ?_)
          · have hpx : pWay s n B M = .inl f2 := by unfold pWay; exact bnd_l p2
            exact w_vret hX hE dX9_readWay_131 (Or.inl rfl) (MX_l hpx hs_2 hF_2)
          · exfalso; omega
      · first | exact absurd c16 (by decide) | exact absurd (by decide) c16
