set_option maxHeartbeats 1000000 in
theorem s_m_bind0 (Γ : Gm) (μ : Mem) (m : Nat) (s : Tp) (n : Nat) (B : Nat → Nat) (M : NM) (hT : MT μ m s) (hS : MSt μ m s n) (hB : MBk μ m B) (hN : MN μ m M) (hP : PIv B M) (hkn : kd s n ≠ 0) (hk9 : kd s n = 21)  : SpV Γ MX9_readBind 4 0 0 [.ref m] μ (fun μ2 => MX m s (pRule s n B M 0) μ μ2) := by
  refine SpV.of okX9_readBind rfl [some (.ref m), none, none] ⟨rfl, trivial⟩ (leb rfl) (leb rfl) (fun X hX hE hnm => ?_)
  have hs : same (SMm m) μ μ := same.rf
  obtain ⟨hM9, hb0, hb85, hb126, hb352⟩ := M32 hP
  have hn := (rch_le hT.2.2.2 n hS.2.1).2
  have hL1 := hT.2.2.2.1
  have hb401 := hP.1.2.2.2.2.2.1
  refine w_aload_n (i := 0) hX dX9_readBind_0 rfl rfl ?_
  refine w_getR (q := m + 6) hX dX9_readBind_1 fo_RX9_73 rfl (mod_s hT.1) (mod_r10 hT.1) ?_
  refine w_sipush hX dX9_readBind_4 kS_881 ?_
  refine w_ialdN hX dX9_readBind_7 (mod_a6 hT.1) (by omega) (by omega) ?_
  refine w_top (y := nI (B 401)) (hB 401 (by omega)) ?_
  refine w_istore_n (i := 1) (l2 := [some (.ref m), some (.int (nI (B 401))), none]) hX dX9_readBind_8 rfl (ltb rfl) rfl rfl ?_
  refine w_iload_n (i := 1) hX dX9_readBind_9 rfl rfl ?_
  refine w_bipush hX dX9_readBind_10 kB_16 ?_
  refine wn_icmp_ne (tgt := 21) hX dX9_readBind_12 (by decide) (by omega) (by omega) (fun c1 => ?_) (fun c1 => ?_)
  · refine w_sipush hX dX9_readBind_21 kS_882 ?_
    refine w_iconst hX dX9_readBind_24 kI_4 ?_
    refine w_iload_n (i := 1) hX dX9_readBind_25 rfl rfl ?_
    refine w_imulN hX dX9_readBind_26 ?_
    refine w_iaddN hX dX9_readBind_27 ?_
    refine w_istore_n (i := 2) (l2 := [some (.ref m), some (.int (nI (B 401))), some (.int (nI (882 + (4 * (B 401)))))]) hX dX9_readBind_28 rfl (ltb rfl) rfl rfl ?_
    refine w_aload_n (i := 0) hX dX9_readBind_29 rfl rfl ?_
    refine w_getR (q := m + 6) hX dX9_readBind_30 fo_RX9_73 rfl (mod_s hT.1) (mod_r10 hT.1) ?_
    refine w_iload_n (i := 2) hX dX9_readBind_33 rfl rfl ?_
    refine w_aload_n (i := 0) hX dX9_readBind_34 rfl rfl ?_
    refine w_bipush hX dX9_readBind_35 kB_16 ?_
    refine w_callVI (As := [.int (nI 16)]) (rest := [.int (nI (882 + (4 * (B 401)))), .ref (m + 6)]) (ci := 9) (o := m) (k2 := 0) (n2 := 0) hX dX9_readBind_37 (s_m_isWord0 Γ μ m s hT (n) hS 16 (by omega)) okX9_isWord (ltb rfl) (mod_s hT.1) ml_RX9_164 imX9_isWord seX9_isWord rfl (leb rfl) (leb rfl) rfl rfl (fun r9 μ9 hq9 => ?_)
    obtain ⟨hr9, hm9⟩ := hq9; rw [hr9, hm9]; clear hr9 hm9 r9 μ9
    refine wb_eq (tgt := 47) hX dX9_readBind_40 (by decide) (fun c2 => ?_) (fun c2 => ?_)
    · exact absurd ((decide_eq_true (by omega) : decide (kd s n = 5 + 16) = true).symm.trans c2) (by decide)
    · refine w_iconst hX dX9_readBind_43 kI_0 ?_
      refine w_goto (tgt := 48) hX dX9_readBind_44 (by decide) ?_
      refine w_iastN hX dX9_readBind_48 (mod_a6 hT.1) (by omega) (by omega) ?_
      have t1 : same (fun o2 k2 => o2 = m + 6 ∧ k2 = 882 + (4 * (B 401))) μ (sI μ (m + 6) (882 + (4 * (B 401))) (nI 0)) := same.rf.sI ⟨rfl, rfl⟩
      have hT_1 := hT.sm t1 (fun o k h => by omega)
      have hs_1 := hs.tr (t1.up (fun o k h => by unfold SMm; omega))
      have hS_1 := hS.sm t1 (fun h => by omega) (fun h => by omega)
      have hN_1 := hN.sm t1 (fun o k h => by omega)
      have hB_1 : MBk (sI μ (m + 6) (882 + (4 * (B 401))) (nI 0)) m (stB B (402 + 4 * B 401) (0)) := by have h9 := hB.st (j := 402 + 4 * B 401) (v := 0) (by omega); rwa [show 480 + (402 + 4 * B 401) = 882 + (4 * (B 401)) by omega] at h9
      have hn_1 := hn
      refine w_aload_n (i := 0) hX dX9_readBind_49 rfl rfl ?_
      refine w_dup hX dX9_readBind_50 rfl ?_
      refine w_getI hX dX9_readBind_51 fo_RX9_151 rfl (mod_s hT_1.1) ?_
      refine w_top (y := nI n) hS_1.1 ?_
      refine w_iconst hX dX9_readBind_54 kI_1 ?_
      refine w_iaddN hX dX9_readBind_55 ?_
      refine w_putI hX dX9_readBind_56 fo_RX9_151 rfl rfl rfl rfl (mod_s hT_1.1) ?_
      have hS_2 : MSt (sI (sI μ (m + 6) (882 + (4 * (B 401))) (nI 0)) m 7 (nI (n + 1))) m s (n + 1) := hS_1.next (show kd s (n) ≠ 0 from hkn)
      have t2 : same (SA2 m) (sI μ (m + 6) (882 + (4 * (B 401))) (nI 0)) (sI (sI μ (m + 6) (882 + (4 * (B 401))) (nI 0)) m 7 (nI (n + 1))) := same.rf.sI ⟨rfl, Or.inl rfl⟩
      have hT_2 := hT_1.sm t2 (fun o k h => by unfold SA2 at h; omega)
      have hB_2 := hB_1.sm t2 (fun o k h => by unfold SA2 at h; omega)
      have hN_2 := hN_1.sm t2 (fun o k h => by unfold SA2 at h; omega)
      have hn_2 := (rch_le hT_2.2.2.2 _ hS_2.2.1).2
      have hs_2 := hs_1.tr (t2.up (fun o k h => by unfold SA2 at h; unfold SMm; omega))
      refine w_aload_n (i := 0) hX dX9_readBind_59 rfl rfl ?_
      refine w_getR (q := m + 6) hX dX9_readBind_60 fo_RX9_73 rfl (mod_s hT_2.1) (mod_r10 hT_2.1) ?_
      refine w_iload_n (i := 2) hX dX9_readBind_63 rfl rfl ?_
      refine w_iconst hX dX9_readBind_64 kI_1 ?_
      refine w_iaddN hX dX9_readBind_65 ?_
      refine w_aload_n (i := 0) hX dX9_readBind_66 rfl rfl ?_
      refine w_iconst hX dX9_readBind_67 kI_3 ?_
      refine w_callVI (As := [.int (nI 3)]) (rest := [.int (nI (882 + (4 * (B 401)) + 1)), .ref (m + 6)]) (ci := 9) (o := m) (k2 := 0) (n2 := 0) hX dX9_readBind_68 (s_m_takeName Γ (sI (sI μ (m + 6) (882 + (4 * (B 401))) (nI 0)) m 7 (nI (n + 1))) m s hT_2 (n + 1) hS_2 M hN_2 hP.2.2.2.2 3 (by omega)) okX9_takeName (ltb rfl) (mod_s hT_2.1) ml_RX9_225 imX9_takeName seX9_takeName rfl (leb rfl) (leb rfl) rfl rfl (fun r3 ν3 hq9 => ?_)
      rcases hq9 with ⟨v3, p3, e3, m3⟩ | ⟨f3, p3, e3, m3⟩
      · rw [e3, m3]
        have lt3 := told_p hP p3
        have q3 := (pNm_inr p3).1
        have hS_3 : MSt (sI (sI (sI μ (m + 6) (882 + (4 * (B 401))) (nI 0)) m 7 (nI (n + 1))) m 7 (nI (n + 1 + 1))) m s (n + 2) := hS_2.next (show kd s (n + 1) ≠ 0 by omega)
        have t3 : same (SA2 m) (sI (sI μ (m + 6) (882 + (4 * (B 401))) (nI 0)) m 7 (nI (n + 1))) (sI (sI (sI μ (m + 6) (882 + (4 * (B 401))) (nI 0)) m 7 (nI (n + 1))) m 7 (nI (n + 1 + 1))) := same.rf.sI ⟨rfl, Or.inl rfl⟩
        have hT_3 := hT_2.sm t3 (fun o k h => by unfold SA2 at h; omega)
        have hB_3 := hB_2.sm t3 (fun o k h => by unfold SA2 at h; omega)
        have hN_3 := hN_2.sm t3 (fun o k h => by unfold SA2 at h; omega)
        have hn_3 := (rch_le hT_3.2.2.2 _ hS_3.2.1).2
        have hs_3 := hs_2.tr (t3.up (fun o k h => by unfold SA2 at h; unfold SMm; omega))
        refine w_iastN hX dX9_readBind_71 (mod_a6 hT_3.1) (by omega) (by omega) ?_
        have t4 : same (fun o2 k2 => o2 = m + 6 ∧ k2 = 882 + (4 * (B 401)) + 1) (sI (sI (sI μ (m + 6) (882 + (4 * (B 401))) (nI 0)) m 7 (nI (n + 1))) m 7 (nI (n + 1 + 1))) (sI (sI (sI (sI μ (m + 6) (882 + (4 * (B 401))) (nI 0)) m 7 (nI (n + 1))) m 7 (nI (n + 1 + 1))) (m + 6) (882 + (4 * (B 401)) + 1) (nI v3)) := same.rf.sI ⟨rfl, rfl⟩
        have hT_4 := hT_3.sm t4 (fun o k h => by omega)
        have hs_4 := hs_3.tr (t4.up (fun o k h => by unfold SMm; omega))
        have hS_4 := hS_3.sm t4 (fun h => by omega) (fun h => by omega)
        have hN_4 := hN_3.sm t4 (fun o k h => by omega)
        have hB_4 : MBk (sI (sI (sI (sI μ (m + 6) (882 + (4 * (B 401))) (nI 0)) m 7 (nI (n + 1))) m 7 (nI (n + 1 + 1))) (m + 6) (882 + (4 * (B 401)) + 1) (nI v3)) m (stB (stB B (402 + 4 * B 401) (0)) (402 + 4 * B 401 + 1) (v3)) := by have h9 := hB_3.st (j := 402 + 4 * B 401 + 1) (v := v3) (by omega); rwa [show 480 + (402 + 4 * B 401 + 1) = 882 + (4 * (B 401)) + 1 by omega] at h9
        have hn_4 := hn_3
        refine w_aload_n (i := 0) hX dX9_readBind_72 rfl rfl ?_
        refine w_getR (q := m + 6) hX dX9_readBind_73 fo_RX9_73 rfl (mod_s hT_4.1) (mod_r10 hT_4.1) ?_
        refine w_iload_n (i := 2) hX dX9_readBind_76 rfl rfl ?_
        refine w_iconst hX dX9_readBind_77 kI_2 ?_
        refine w_iaddN hX dX9_readBind_78 ?_
        refine w_aload_n (i := 0) hX dX9_readBind_79 rfl rfl ?_
        refine w_iconst hX dX9_readBind_80 kI_3 ?_
        refine w_aload_n (i := 0) hX dX9_readBind_81 rfl rfl ?_
        refine w_getR (q := m + 6) hX dX9_readBind_82 fo_RX9_73 rfl (mod_s hT_4.1) (mod_r10 hT_4.1) ?_
        refine w_iload_n (i := 2) hX dX9_readBind_85 rfl rfl ?_
        refine w_iconst hX dX9_readBind_86 kI_1 ?_
        refine w_iaddN hX dX9_readBind_87 ?_
        refine w_ialdN hX dX9_readBind_88 (mod_a6 hT_4.1) (by omega) (by omega) ?_
        refine w_top (y := nI v3) gI_same ?_
        refine w_callVI (As := [.int (nI 3), .int (nI v3)]) (rest := [.int (nI (882 + (4 * (B 401)) + 2)), .ref (m + 6)]) (ci := 9) (o := m) (k2 := 0) (n2 := 0) hX dX9_readBind_89 (s_m_other0 Γ (sI (sI (sI (sI μ (m + 6) (882 + (4 * (B 401))) (nI 0)) m 7 (nI (n + 1))) m 7 (nI (n + 1 + 1))) (m + 6) (882 + (4 * (B 401)) + 1) (nI v3)) m s hT_4 (n + 2) hS_4 M hN_4 hP.2.2.2.2 3 v3 (by omega) (by omega)) okX9_takeOther (ltb rfl) (mod_s hT_4.1) ml_RX9_233 imX9_takeOther seX9_takeOther rfl (leb rfl) (leb rfl) rfl rfl (fun r5 ν5 hq9 => ?_)
        replace hq9 := or3 hq9
        rcases hq9 with ⟨v5, p5, ne5, e5, m5⟩ | ⟨f5, p5, m5⟩ | ⟨f5, ⟨p5, ef5⟩, m5⟩
        · rw [e5, m5]
          have q5 := (pNm_inr p5).1
          have hS_5 : MSt (sI (sI (sI (sI (sI μ (m + 6) (882 + (4 * (B 401))) (nI 0)) m 7 (nI (n + 1))) m 7 (nI (n + 1 + 1))) (m + 6) (882 + (4 * (B 401)) + 1) (nI v3)) m 7 (nI (n + 2 + 1))) m s (n + 3) := hS_4.next (show kd s (n + 2) ≠ 0 by omega)
          have t5 : same (SA2 m) (sI (sI (sI (sI μ (m + 6) (882 + (4 * (B 401))) (nI 0)) m 7 (nI (n + 1))) m 7 (nI (n + 1 + 1))) (m + 6) (882 + (4 * (B 401)) + 1) (nI v3)) (sI (sI (sI (sI (sI μ (m + 6) (882 + (4 * (B 401))) (nI 0)) m 7 (nI (n + 1))) m 7 (nI (n + 1 + 1))) (m + 6) (882 + (4 * (B 401)) + 1) (nI v3)) m 7 (nI (n + 2 + 1))) := same.rf.sI ⟨rfl, Or.inl rfl⟩
          have hT_5 := hT_4.sm t5 (fun o k h => by unfold SA2 at h; omega)
          have hB_5 := hB_4.sm t5 (fun o k h => by unfold SA2 at h; omega)
          have hN_5 := hN_4.sm t5 (fun o k h => by unfold SA2 at h; omega)
          have hn_5 := (rch_le hT_5.2.2.2 _ hS_5.2.1).2
          have hs_5 := hs_4.tr (t5.up (fun o k h => by unfold SA2 at h; unfold SMm; omega))
          refine w_iastN hX dX9_readBind_92 (mod_a6 hT_5.1) (by omega) (by omega) ?_
          have t6 : same (fun o2 k2 => o2 = m + 6 ∧ k2 = 882 + (4 * (B 401)) + 2) (sI (sI (sI (sI (sI μ (m + 6) (882 + (4 * (B 401))) (nI 0)) m 7 (nI (n + 1))) m 7 (nI (n + 1 + 1))) (m + 6) (882 + (4 * (B 401)) + 1) (nI v3)) m 7 (nI (n + 2 + 1))) (sI (sI (sI (sI (sI (sI μ (m + 6) (882 + (4 * (B 401))) (nI 0)) m 7 (nI (n + 1))) m 7 (nI (n + 1 + 1))) (m + 6) (882 + (4 * (B 401)) + 1) (nI v3)) m 7 (nI (n + 2 + 1))) (m + 6) (882 + (4 * (B 401)) + 2) (nI v5)) := same.rf.sI ⟨rfl, rfl⟩
          have hT_6 := hT_5.sm t6 (fun o k h => by omega)
          have hs_6 := hs_5.tr (t6.up (fun o k h => by unfold SMm; omega))
          have hS_6 := hS_5.sm t6 (fun h => by omega) (fun h => by omega)
          have hN_6 := hN_5.sm t6 (fun o k h => by omega)
          have hB_6 : MBk (sI (sI (sI (sI (sI (sI μ (m + 6) (882 + (4 * (B 401))) (nI 0)) m 7 (nI (n + 1))) m 7 (nI (n + 1 + 1))) (m + 6) (882 + (4 * (B 401)) + 1) (nI v3)) m 7 (nI (n + 2 + 1))) (m + 6) (882 + (4 * (B 401)) + 2) (nI v5)) m (stB (stB (stB B (402 + 4 * B 401) (0)) (402 + 4 * B 401 + 1) (v3)) (402 + 4 * B 401 + 2) (v5)) := by have h9 := hB_5.st (j := 402 + 4 * B 401 + 2) (v := v5) (by omega); rwa [show 480 + (402 + 4 * B 401 + 2) = 882 + (4 * (B 401)) + 2 by omega] at h9
          have hn_6 := hn_5
          refine w_aload_n (i := 0) hX dX9_readBind_93 rfl rfl ?_
          refine w_getR (q := m + 6) hX dX9_readBind_94 fo_RX9_73 rfl (mod_s hT_6.1) (mod_r10 hT_6.1) ?_
          refine w_iload_n (i := 2) hX dX9_readBind_97 rfl rfl ?_
          refine w_iconst hX dX9_readBind_98 kI_3 ?_
          refine w_iaddN hX dX9_readBind_99 ?_
          refine w_aload_n (i := 0) hX dX9_readBind_100 rfl rfl ?_
          refine w_iconst hX dX9_readBind_101 kI_0 ?_
          refine w_sipush hX dX9_readBind_102 kS_9999 ?_
          refine w_callVI (As := [.int (nI 0), .int (nI 9999)]) (rest := [.int (nI (882 + (4 * (B 401)) + 3)), .ref (m + 6)]) (ci := 9) (o := m) (k2 := 0) (n2 := 0) hX dX9_readBind_105 (s_m_takeN0 Γ (sI (sI (sI (sI (sI (sI μ (m + 6) (882 + (4 * (B 401))) (nI 0)) m 7 (nI (n + 1))) m 7 (nI (n + 1 + 1))) (m + 6) (882 + (4 * (B 401)) + 1) (nI v3)) m 7 (nI (n + 2 + 1))) (m + 6) (882 + (4 * (B 401)) + 2) (nI v5)) m s hT_6 (n + 3) hS_6 0 9999 (by omega) (by omega)) okX9_takeNumber (ltb rfl) (mod_s hT_6.1) ml_RX9_173 imX9_takeNumber seX9_takeNumber rfl (leb rfl) (leb rfl) rfl rfl (fun r7 ν7 hq9 => ?_)
          rcases hq9 with ⟨p7, e7, m7⟩ | ⟨f7, p7, e7, m7⟩
          · rw [e7, m7]
            obtain ⟨q7, -, l7, g7⟩ := pNb_inr p7
            have hS_7 : MSt (sI (sI (sI (sI (sI (sI (sI μ (m + 6) (882 + (4 * (B 401))) (nI 0)) m 7 (nI (n + 1))) m 7 (nI (n + 1 + 1))) (m + 6) (882 + (4 * (B 401)) + 1) (nI v3)) m 7 (nI (n + 2 + 1))) (m + 6) (882 + (4 * (B 401)) + 2) (nI v5)) m 7 (nI (n + 3 + 1))) m s (n + 4) := hS_6.next (show kd s (n + 3) ≠ 0 by omega)
            have t7 : same (SA2 m) (sI (sI (sI (sI (sI (sI μ (m + 6) (882 + (4 * (B 401))) (nI 0)) m 7 (nI (n + 1))) m 7 (nI (n + 1 + 1))) (m + 6) (882 + (4 * (B 401)) + 1) (nI v3)) m 7 (nI (n + 2 + 1))) (m + 6) (882 + (4 * (B 401)) + 2) (nI v5)) (sI (sI (sI (sI (sI (sI (sI μ (m + 6) (882 + (4 * (B 401))) (nI 0)) m 7 (nI (n + 1))) m 7 (nI (n + 1 + 1))) (m + 6) (882 + (4 * (B 401)) + 1) (nI v3)) m 7 (nI (n + 2 + 1))) (m + 6) (882 + (4 * (B 401)) + 2) (nI v5)) m 7 (nI (n + 3 + 1))) := same.rf.sI ⟨rfl, Or.inl rfl⟩
            have hT_7 := hT_6.sm t7 (fun o k h => by unfold SA2 at h; omega)
            have hB_7 := hB_6.sm t7 (fun o k h => by unfold SA2 at h; omega)
            have hN_7 := hN_6.sm t7 (fun o k h => by unfold SA2 at h; omega)
            have hn_7 := (rch_le hT_7.2.2.2 _ hS_7.2.1).2
            have hs_7 := hs_6.tr (t7.up (fun o k h => by unfold SA2 at h; unfold SMm; omega))
            refine w_iastN hX dX9_readBind_108 (mod_a6 hT_7.1) (by omega) (by omega) ?_
            have t8 : same (fun o2 k2 => o2 = m + 6 ∧ k2 = 882 + (4 * (B 401)) + 3) (sI (sI (sI (sI (sI (sI (sI μ (m + 6) (882 + (4 * (B 401))) (nI 0)) m 7 (nI (n + 1))) m 7 (nI (n + 1 + 1))) (m + 6) (882 + (4 * (B 401)) + 1) (nI v3)) m 7 (nI (n + 2 + 1))) (m + 6) (882 + (4 * (B 401)) + 2) (nI v5)) m 7 (nI (n + 3 + 1))) (sI (sI (sI (sI (sI (sI (sI (sI μ (m + 6) (882 + (4 * (B 401))) (nI 0)) m 7 (nI (n + 1))) m 7 (nI (n + 1 + 1))) (m + 6) (882 + (4 * (B 401)) + 1) (nI v3)) m 7 (nI (n + 2 + 1))) (m + 6) (882 + (4 * (B 401)) + 2) (nI v5)) m 7 (nI (n + 3 + 1))) (m + 6) (882 + (4 * (B 401)) + 3) (nI (vl s (n + 3)))) := same.rf.sI ⟨rfl, rfl⟩
            have hT_8 := hT_7.sm t8 (fun o k h => by omega)
            have hs_8 := hs_7.tr (t8.up (fun o k h => by unfold SMm; omega))
            have hS_8 := hS_7.sm t8 (fun h => by omega) (fun h => by omega)
            have hN_8 := hN_7.sm t8 (fun o k h => by omega)
            have hB_8 : MBk (sI (sI (sI (sI (sI (sI (sI (sI μ (m + 6) (882 + (4 * (B 401))) (nI 0)) m 7 (nI (n + 1))) m 7 (nI (n + 1 + 1))) (m + 6) (882 + (4 * (B 401)) + 1) (nI v3)) m 7 (nI (n + 2 + 1))) (m + 6) (882 + (4 * (B 401)) + 2) (nI v5)) m 7 (nI (n + 3 + 1))) (m + 6) (882 + (4 * (B 401)) + 3) (nI (vl s (n + 3)))) m (stB (stB (stB (stB B (402 + 4 * B 401) (0)) (402 + 4 * B 401 + 1) (v3)) (402 + 4 * B 401 + 2) (v5)) (402 + 4 * B 401 + 3) ((vl s (n + 3)))) := by have h9 := hB_7.st (j := 402 + 4 * B 401 + 3) (v := (vl s (n + 3))) (by omega); rwa [show 480 + (402 + 4 * B 401 + 3) = 882 + (4 * (B 401)) + 3 by omega] at h9
            have hn_8 := hn_7
            refine w_aload_n (i := 0) hX dX9_readBind_109 rfl rfl ?_
            refine w_getR (q := m + 6) hX dX9_readBind_110 fo_RX9_73 rfl (mod_s hT_8.1) (mod_r10 hT_8.1) ?_
            refine w_sipush hX dX9_readBind_113 kS_881 ?_
            refine w_dup2 hX dX9_readBind_116 rfl rfl ?_
            refine w_ialdN hX dX9_readBind_117 (mod_a6 hT_8.1) (by omega) (by omega) ?_
            refine w_top (y := nI (B 401)) (by have h9 := hB_8 401 (by omega); rw [stB_ne (by omega), stB_ne (by omega), stB_ne (by omega), stB_ne (by omega)] at h9; exact h9) ?_
            refine w_iconst hX dX9_readBind_118 kI_1 ?_
            refine w_iaddN hX dX9_readBind_119 ?_
            refine w_iastN hX dX9_readBind_120 (mod_a6 hT_8.1) (by omega) (by omega) ?_
            have t9 : same (fun o2 k2 => o2 = m + 6 ∧ k2 = 881) (sI (sI (sI (sI (sI (sI (sI (sI μ (m + 6) (882 + (4 * (B 401))) (nI 0)) m 7 (nI (n + 1))) m 7 (nI (n + 1 + 1))) (m + 6) (882 + (4 * (B 401)) + 1) (nI v3)) m 7 (nI (n + 2 + 1))) (m + 6) (882 + (4 * (B 401)) + 2) (nI v5)) m 7 (nI (n + 3 + 1))) (m + 6) (882 + (4 * (B 401)) + 3) (nI (vl s (n + 3)))) (sI (sI (sI (sI (sI (sI (sI (sI (sI μ (m + 6) (882 + (4 * (B 401))) (nI 0)) m 7 (nI (n + 1))) m 7 (nI (n + 1 + 1))) (m + 6) (882 + (4 * (B 401)) + 1) (nI v3)) m 7 (nI (n + 2 + 1))) (m + 6) (882 + (4 * (B 401)) + 2) (nI v5)) m 7 (nI (n + 3 + 1))) (m + 6) (882 + (4 * (B 401)) + 3) (nI (vl s (n + 3)))) (m + 6) 881 (nI (B 401 + 1))) := same.rf.sI ⟨rfl, rfl⟩
            have hT_9 := hT_8.sm t9 (fun o k h => by omega)
            have hs_9 := hs_8.tr (t9.up (fun o k h => by unfold SMm; omega))
            have hS_9 := hS_8.sm t9 (fun h => by omega) (fun h => by omega)
            have hN_9 := hN_8.sm t9 (fun o k h => by omega)
            have hB_9 : MBk (sI (sI (sI (sI (sI (sI (sI (sI (sI μ (m + 6) (882 + (4 * (B 401))) (nI 0)) m 7 (nI (n + 1))) m 7 (nI (n + 1 + 1))) (m + 6) (882 + (4 * (B 401)) + 1) (nI v3)) m 7 (nI (n + 2 + 1))) (m + 6) (882 + (4 * (B 401)) + 2) (nI v5)) m 7 (nI (n + 3 + 1))) (m + 6) (882 + (4 * (B 401)) + 3) (nI (vl s (n + 3)))) (m + 6) 881 (nI (B 401 + 1))) m (stB (stB (stB (stB (stB B (402 + 4 * B 401) (0)) (402 + 4 * B 401 + 1) (v3)) (402 + 4 * B 401 + 2) (v5)) (402 + 4 * B 401 + 3) ((vl s (n + 3)))) (401) ((B 401 + 1))) := by have h9 := hB_8.st (j := 401) (v := (B 401 + 1)) (by omega); rwa [show 480 + (401) = 881 by omega] at h9
            have hn_9 := hn_8
            have hpx : pRule s n B M 0 = .inr (n + 4, (stB (stB (stB (stB (stB B (402 + 4 * B 401) (0)) (402 + 4 * B 401 + 1) (v3)) (402 + 4 * B 401 + 2) (v5)) (402 + 4 * B 401 + 3) ((vl s (n + 3)))) (401) ((B 401 + 1))), M) := by unfold pRule; exact (if_neg (by omega)).trans ((bnd_r p3).trans ((bnd_r p5).trans ((if_neg (by omega)).trans (bnd_r p7))))
            exact w_vret hX hE dX9_readBind_121 (Or.inl rfl) (MX_r hpx hs_9 hS_9 hB_9 hN_9)
          · rw [e7, m7]
            have hF_7 := hS_6.bad (pNb_l hT.2.2.2 p7)
            have t7 : same (SA2 m) (sI (sI (sI (sI (sI (sI μ (m + 6) (882 + (4 * (B 401))) (nI 0)) m 7 (nI (n + 1))) m 7 (nI (n + 1 + 1))) (m + 6) (882 + (4 * (B 401)) + 1) (nI v3)) m 7 (nI (n + 2 + 1))) (m + 6) (882 + (4 * (B 401)) + 2) (nI v5)) (sI (sI (sI (sI (sI (sI (sI μ (m + 6) (882 + (4 * (B 401))) (nI 0)) m 7 (nI (n + 1))) m 7 (nI (n + 1 + 1))) (m + 6) (882 + (4 * (B 401)) + 1) (nI v3)) m 7 (nI (n + 2 + 1))) (m + 6) (882 + (4 * (B 401)) + 2) (nI v5)) m 8 (nI f7)) := same.rf.sI ⟨rfl, Or.inr rfl⟩
            have hT_7 := hT_6.sm t7 (fun o k h => by unfold SA2 at h; omega)
            obtain ⟨n9_7, hn9_7⟩ := hF_7.2.2
            have hf_7 := hF_7.2.1
            have hn_7 := (rch_le hT_7.2.2.2 _ hn9_7.1).2
            have hs_7 := hs_6.tr (t7.up (fun o k h => by unfold SA2 at h; unfold SMm; omega))
            refine w_iastN hX dX9_readBind_108 (mod_a6 hT_7.1) (by omega) (by omega) ?_
            have t10 : same (fun o2 k2 => o2 = m + 6 ∧ k2 = 882 + (4 * (B 401)) + 3) (sI (sI (sI (sI (sI (sI (sI μ (m + 6) (882 + (4 * (B 401))) (nI 0)) m 7 (nI (n + 1))) m 7 (nI (n + 1 + 1))) (m + 6) (882 + (4 * (B 401)) + 1) (nI v3)) m 7 (nI (n + 2 + 1))) (m + 6) (882 + (4 * (B 401)) + 2) (nI v5)) m 8 (nI f7)) (sI (sI (sI (sI (sI (sI (sI (sI μ (m + 6) (882 + (4 * (B 401))) (nI 0)) m 7 (nI (n + 1))) m 7 (nI (n + 1 + 1))) (m + 6) (882 + (4 * (B 401)) + 1) (nI v3)) m 7 (nI (n + 2 + 1))) (m + 6) (882 + (4 * (B 401)) + 2) (nI v5)) m 8 (nI f7)) (m + 6) (882 + (4 * (B 401)) + 3) (nI 0)) := same.rf.sI ⟨rfl, rfl⟩
            have hT_10 := hT_7.sm t10 (fun o k h => by omega)
            have hs_10 := hs_7.tr (t10.up (fun o k h => by unfold SMm; omega))
            have hF_10 := hF_7.sm t10 (fun h => by omega) (fun h => by omega)
            have hf_10 := hf_7
            obtain ⟨n9_10, hn9_10⟩ := hF_10.2.2
            have hn_10 := (rch_le hT.2.2.2 _ hn9_10.1).2
            refine w_aload_n (i := 0) hX dX9_readBind_109 rfl rfl ?_
            refine w_getR (q := m + 6) hX dX9_readBind_110 fo_RX9_73 rfl (mod_s hT_10.1) (mod_r10 hT_10.1) ?_
            refine w_sipush hX dX9_readBind_113 kS_881 ?_
            refine w_dup2 hX dX9_readBind_116 rfl rfl ?_
            refine w_ialdN hX dX9_readBind_117 (mod_a6 hT_10.1) (by omega) (by omega) ?_
            refine w_top (y := gI (sI (sI (sI (sI (sI (sI (sI (sI μ (m + 6) (882 + (4 * (B 401))) (nI 0)) m 7 (nI (n + 1))) m 7 (nI (n + 1 + 1))) (m + 6) (882 + (4 * (B 401)) + 1) (nI v3)) m 7 (nI (n + 2 + 1))) (m + 6) (882 + (4 * (B 401)) + 2) (nI v5)) m 8 (nI f7)) (m + 6) (882 + (4 * (B 401)) + 3) (nI 0)) (m + 6) 881) rfl ?_
            refine w_iconst hX dX9_readBind_118 kI_1 ?_
            refine w_iadd hX dX9_readBind_119 ?_
            refine w_iastN hX dX9_readBind_120 (mod_a6 hT_10.1) (by omega) (by omega) ?_
            have t11 : same (fun o2 k2 => o2 = m + 6 ∧ k2 = 881) (sI (sI (sI (sI (sI (sI (sI (sI μ (m + 6) (882 + (4 * (B 401))) (nI 0)) m 7 (nI (n + 1))) m 7 (nI (n + 1 + 1))) (m + 6) (882 + (4 * (B 401)) + 1) (nI v3)) m 7 (nI (n + 2 + 1))) (m + 6) (882 + (4 * (B 401)) + 2) (nI v5)) m 8 (nI f7)) (m + 6) (882 + (4 * (B 401)) + 3) (nI 0)) (sI (sI (sI (sI (sI (sI (sI (sI (sI μ (m + 6) (882 + (4 * (B 401))) (nI 0)) m 7 (nI (n + 1))) m 7 (nI (n + 1 + 1))) (m + 6) (882 + (4 * (B 401)) + 1) (nI v3)) m 7 (nI (n + 2 + 1))) (m + 6) (882 + (4 * (B 401)) + 2) (nI v5)) m 8 (nI f7)) (m + 6) (882 + (4 * (B 401)) + 3) (nI 0)) (m + 6) 881 ((gI (sI (sI (sI (sI (sI (sI (sI (sI μ (m + 6) (882 + (4 * (B 401))) (nI 0)) m 7 (nI (n + 1))) m 7 (nI (n + 1 + 1))) (m + 6) (882 + (4 * (B 401)) + 1) (nI v3)) m 7 (nI (n + 2 + 1))) (m + 6) (882 + (4 * (B 401)) + 2) (nI v5)) m 8 (nI f7)) (m + 6) (882 + (4 * (B 401)) + 3) (nI 0)) (m + 6) 881) + (nI 1))) := same.rf.sI ⟨rfl, rfl⟩
            have hT_11 := hT_10.sm t11 (fun o k h => by omega)
            have hs_11 := hs_10.tr (t11.up (fun o k h => by unfold SMm; omega))
            have hF_11 := hF_10.sm t11 (fun h => by omega) (fun h => by omega)
            have hf_11 := hf_10
            obtain ⟨n9_11, hn9_11⟩ := hF_11.2.2
            have hn_11 := (rch_le hT.2.2.2 _ hn9_11.1).2
            have hpx : pRule s n B M 0 = .inl f7 := by unfold pRule; exact (if_neg (by omega)).trans ((bnd_r p3).trans ((bnd_r p5).trans ((if_neg (by omega)).trans (bnd_l p7))))
            exact w_vret hX hE dX9_readBind_121 (Or.inl rfl) (MX_l hpx hs_11 hF_11)
        · rw [m5]
          have hF_5 := hS_4.bad (pNm_l hT.2.2.2 p5)
          have t5 : same (SA2 m) (sI (sI (sI (sI μ (m + 6) (882 + (4 * (B 401))) (nI 0)) m 7 (nI (n + 1))) m 7 (nI (n + 1 + 1))) (m + 6) (882 + (4 * (B 401)) + 1) (nI v3)) (sI (sI (sI (sI (sI μ (m + 6) (882 + (4 * (B 401))) (nI 0)) m 7 (nI (n + 1))) m 7 (nI (n + 1 + 1))) (m + 6) (882 + (4 * (B 401)) + 1) (nI v3)) m 8 (nI f5)) := same.rf.sI ⟨rfl, Or.inr rfl⟩
          have hT_5 := hT_4.sm t5 (fun o k h => by unfold SA2 at h; omega)
          obtain ⟨n9_5, hn9_5⟩ := hF_5.2.2
          have hf_5 := hF_5.2.1
          have hn_5 := (rch_le hT_5.2.2.2 _ hn9_5.1).2
          have hs_5 := hs_4.tr (t5.up (fun o k h => by unfold SA2 at h; unfold SMm; omega))
          refine w_iastN hX dX9_readBind_92 (mod_a6 hT_5.1) (by omega) (by omega) ?_
          have t12 : same (fun o2 k2 => o2 = m + 6 ∧ k2 = 882 + (4 * (B 401)) + 2) (sI (sI (sI (sI (sI μ (m + 6) (882 + (4 * (B 401))) (nI 0)) m 7 (nI (n + 1))) m 7 (nI (n + 1 + 1))) (m + 6) (882 + (4 * (B 401)) + 1) (nI v3)) m 8 (nI f5)) (sI (sI (sI (sI (sI (sI μ (m + 6) (882 + (4 * (B 401))) (nI 0)) m 7 (nI (n + 1))) m 7 (nI (n + 1 + 1))) (m + 6) (882 + (4 * (B 401)) + 1) (nI v3)) m 8 (nI f5)) (m + 6) (882 + (4 * (B 401)) + 2) r5) := same.rf.sI ⟨rfl, rfl⟩
          have hT_12 := hT_5.sm t12 (fun o k h => by omega)
          have hs_12 := hs_5.tr (t12.up (fun o k h => by unfold SMm; omega))
          have hF_12 := hF_5.sm t12 (fun h => by omega) (fun h => by omega)
          have hf_12 := hf_5
          obtain ⟨n9_12, hn9_12⟩ := hF_12.2.2
          have hn_12 := (rch_le hT.2.2.2 _ hn9_12.1).2
          refine w_aload_n (i := 0) hX dX9_readBind_93 rfl rfl ?_
          refine w_getR (q := m + 6) hX dX9_readBind_94 fo_RX9_73 rfl (mod_s hT_12.1) (mod_r10 hT_12.1) ?_
          refine w_iload_n (i := 2) hX dX9_readBind_97 rfl rfl ?_
          refine w_iconst hX dX9_readBind_98 kI_3 ?_
          refine w_iaddN hX dX9_readBind_99 ?_
          refine w_aload_n (i := 0) hX dX9_readBind_100 rfl rfl ?_
          refine w_iconst hX dX9_readBind_101 kI_0 ?_
          refine w_sipush hX dX9_readBind_102 kS_9999 ?_
          refine w_callVI (As := [.int (nI 0), .int (nI 9999)]) (rest := [.int (nI (882 + (4 * (B 401)) + 3)), .ref (m + 6)]) (ci := 9) (o := m) (k2 := 0) (n2 := 0) hX dX9_readBind_105 (s_m_takeNf Γ (sI (sI (sI (sI (sI (sI μ (m + 6) (882 + (4 * (B 401))) (nI 0)) m 7 (nI (n + 1))) m 7 (nI (n + 1 + 1))) (m + 6) (882 + (4 * (B 401)) + 1) (nI v3)) m 8 (nI f5)) (m + 6) (882 + (4 * (B 401)) + 2) r5) m s hT_12 f5 hF_12 (nI 0) 9999) okX9_takeNumber (ltb rfl) (mod_s hT_12.1) ml_RX9_173 imX9_takeNumber seX9_takeNumber rfl (leb rfl) (leb rfl) rfl rfl (fun r9 μ9 hq9 => ?_)
          obtain ⟨hr9, hm9⟩ := hq9; rw [hr9, hm9]; clear hr9 hm9 r9 μ9
          refine w_iastN hX dX9_readBind_108 (mod_a6 hT_12.1) (by omega) (by omega) ?_
          have t14 : same (fun o2 k2 => o2 = m + 6 ∧ k2 = 882 + (4 * (B 401)) + 3) (sI (sI (sI (sI (sI (sI μ (m + 6) (882 + (4 * (B 401))) (nI 0)) m 7 (nI (n + 1))) m 7 (nI (n + 1 + 1))) (m + 6) (882 + (4 * (B 401)) + 1) (nI v3)) m 8 (nI f5)) (m + 6) (882 + (4 * (B 401)) + 2) r5) (sI (sI (sI (sI (sI (sI (sI μ (m + 6) (882 + (4 * (B 401))) (nI 0)) m 7 (nI (n + 1))) m 7 (nI (n + 1 + 1))) (m + 6) (882 + (4 * (B 401)) + 1) (nI v3)) m 8 (nI f5)) (m + 6) (882 + (4 * (B 401)) + 2) r5) (m + 6) (882 + (4 * (B 401)) + 3) (nI 0)) := same.rf.sI ⟨rfl, rfl⟩
          have hT_14 := hT_12.sm t14 (fun o k h => by omega)
          have hs_14 := hs_12.tr (t14.up (fun o k h => by unfold SMm; omega))
          have hF_14 := hF_12.sm t14 (fun h => by omega) (fun h => by omega)
          have hf_14 := hf_12
          obtain ⟨n9_14, hn9_14⟩ := hF_14.2.2
          have hn_14 := (rch_le hT.2.2.2 _ hn9_14.1).2
          refine w_aload_n (i := 0) hX dX9_readBind_109 rfl rfl ?_
          refine w_getR (q := m + 6) hX dX9_readBind_110 fo_RX9_73 rfl (mod_s hT_14.1) (mod_r10 hT_14.1) ?_
          refine w_sipush hX dX9_readBind_113 kS_881 ?_
          refine w_dup2 hX dX9_readBind_116 rfl rfl ?_
          refine w_ialdN hX dX9_readBind_117 (mod_a6 hT_14.1) (by omega) (by omega) ?_
          refine w_top (y := gI (sI (sI (sI (sI (sI (sI (sI μ (m + 6) (882 + (4 * (B 401))) (nI 0)) m 7 (nI (n + 1))) m 7 (nI (n + 1 + 1))) (m + 6) (882 + (4 * (B 401)) + 1) (nI v3)) m 8 (nI f5)) (m + 6) (882 + (4 * (B 401)) + 2) r5) (m + 6) (882 + (4 * (B 401)) + 3) (nI 0)) (m + 6) 881) rfl ?_
          refine w_iconst hX dX9_readBind_118 kI_1 ?_
          refine w_iadd hX dX9_readBind_119 ?_
          refine w_iastN hX dX9_readBind_120 (mod_a6 hT_14.1) (by omega) (by omega) ?_
          have t15 : same (fun o2 k2 => o2 = m + 6 ∧ k2 = 881) (sI (sI (sI (sI (sI (sI (sI μ (m + 6) (882 + (4 * (B 401))) (nI 0)) m 7 (nI (n + 1))) m 7 (nI (n + 1 + 1))) (m + 6) (882 + (4 * (B 401)) + 1) (nI v3)) m 8 (nI f5)) (m + 6) (882 + (4 * (B 401)) + 2) r5) (m + 6) (882 + (4 * (B 401)) + 3) (nI 0)) (sI (sI (sI (sI (sI (sI (sI (sI μ (m + 6) (882 + (4 * (B 401))) (nI 0)) m 7 (nI (n + 1))) m 7 (nI (n + 1 + 1))) (m + 6) (882 + (4 * (B 401)) + 1) (nI v3)) m 8 (nI f5)) (m + 6) (882 + (4 * (B 401)) + 2) r5) (m + 6) (882 + (4 * (B 401)) + 3) (nI 0)) (m + 6) 881 ((gI (sI (sI (sI (sI (sI (sI (sI μ (m + 6) (882 + (4 * (B 401))) (nI 0)) m 7 (nI (n + 1))) m 7 (nI (n + 1 + 1))) (m + 6) (882 + (4 * (B 401)) + 1) (nI v3)) m 8 (nI f5)) (m + 6) (882 + (4 * (B 401)) + 2) r5) (m + 6) (882 + (4 * (B 401)) + 3) (nI 0)) (m + 6) 881) + (nI 1))) := same.rf.sI ⟨rfl, rfl⟩
          have hT_15 := hT_14.sm t15 (fun o k h => by omega)
          have hs_15 := hs_14.tr (t15.up (fun o k h => by unfold SMm; omega))
          have hF_15 := hF_14.sm t15 (fun h => by omega) (fun h => by omega)
          have hf_15 := hf_14
          obtain ⟨n9_15, hn9_15⟩ := hF_15.2.2
          have hn_15 := (rch_le hT.2.2.2 _ hn9_15.1).2
          have hpx : pRule s n B M 0 = .inl f5 := by unfold pRule; exact (if_neg (by omega)).trans ((bnd_r p3).trans (bnd_l p5))
          exact w_vret hX hE dX9_readBind_121 (Or.inl rfl) (MX_l hpx hs_15 hF_15)
        · subst ef5; rw [m5]
          have hF_5 := hS_4.bad (ft_lt (w := 3) (n := n + 2) hT.2.2.2 (by omega) (by omega))
          have t5 : same (SA2 m) (sI (sI (sI (sI μ (m + 6) (882 + (4 * (B 401))) (nI 0)) m 7 (nI (n + 1))) m 7 (nI (n + 1 + 1))) (m + 6) (882 + (4 * (B 401)) + 1) (nI v3)) (sI (sI (sI (sI (sI μ (m + 6) (882 + (4 * (B 401))) (nI 0)) m 7 (nI (n + 1))) m 7 (nI (n + 1 + 1))) (m + 6) (882 + (4 * (B 401)) + 1) (nI v3)) m 8 (nI (ft s 3 (n + 2)))) := same.rf.sI ⟨rfl, Or.inr rfl⟩
          have hT_5 := hT_4.sm t5 (fun o k h => by unfold SA2 at h; omega)
          obtain ⟨n9_5, hn9_5⟩ := hF_5.2.2
          have hf_5 := hF_5.2.1
          have hn_5 := (rch_le hT_5.2.2.2 _ hn9_5.1).2
          have hs_5 := hs_4.tr (t5.up (fun o k h => by unfold SA2 at h; unfold SMm; omega))
          refine w_iastN hX dX9_readBind_92 (mod_a6 hT_5.1) (by omega) (by omega) ?_
          have t16 : same (fun o2 k2 => o2 = m + 6 ∧ k2 = 882 + (4 * (B 401)) + 2) (sI (sI (sI (sI (sI μ (m + 6) (882 + (4 * (B 401))) (nI 0)) m 7 (nI (n + 1))) m 7 (nI (n + 1 + 1))) (m + 6) (882 + (4 * (B 401)) + 1) (nI v3)) m 8 (nI (ft s 3 (n + 2)))) (sI (sI (sI (sI (sI (sI μ (m + 6) (882 + (4 * (B 401))) (nI 0)) m 7 (nI (n + 1))) m 7 (nI (n + 1 + 1))) (m + 6) (882 + (4 * (B 401)) + 1) (nI v3)) m 8 (nI (ft s 3 (n + 2)))) (m + 6) (882 + (4 * (B 401)) + 2) r5) := same.rf.sI ⟨rfl, rfl⟩
          have hT_16 := hT_5.sm t16 (fun o k h => by omega)
          have hs_16 := hs_5.tr (t16.up (fun o k h => by unfold SMm; omega))
          have hF_16 := hF_5.sm t16 (fun h => by omega) (fun h => by omega)
          have hf_16 := hf_5
          obtain ⟨n9_16, hn9_16⟩ := hF_16.2.2
          have hn_16 := (rch_le hT.2.2.2 _ hn9_16.1).2
          refine w_aload_n (i := 0) hX dX9_readBind_93 rfl rfl ?_
          refine w_getR (q := m + 6) hX dX9_readBind_94 fo_RX9_73 rfl (mod_s hT_16.1) (mod_r10 hT_16.1) ?_
          refine w_iload_n (i := 2) hX dX9_readBind_97 rfl rfl ?_
          refine w_iconst hX dX9_readBind_98 kI_3 ?_
          refine w_iaddN hX dX9_readBind_99 ?_
          refine w_aload_n (i := 0) hX dX9_readBind_100 rfl rfl ?_
          refine w_iconst hX dX9_readBind_101 kI_0 ?_
          refine w_sipush hX dX9_readBind_102 kS_9999 ?_
          refine w_callVI (As := [.int (nI 0), .int (nI 9999)]) (rest := [.int (nI (882 + (4 * (B 401)) + 3)), .ref (m + 6)]) (ci := 9) (o := m) (k2 := 0) (n2 := 0) hX dX9_readBind_105 (s_m_takeNf Γ (sI (sI (sI (sI (sI (sI μ (m + 6) (882 + (4 * (B 401))) (nI 0)) m 7 (nI (n + 1))) m 7 (nI (n + 1 + 1))) (m + 6) (882 + (4 * (B 401)) + 1) (nI v3)) m 8 (nI (ft s 3 (n + 2)))) (m + 6) (882 + (4 * (B 401)) + 2) r5) m s hT_16 (ft s 3 (n + 2)) hF_16 (nI 0) 9999) okX9_takeNumber (ltb rfl) (mod_s hT_16.1) ml_RX9_173 imX9_takeNumber seX9_takeNumber rfl (leb rfl) (leb rfl) rfl rfl (fun r9 μ9 hq9 => ?_)
          obtain ⟨hr9, hm9⟩ := hq9; rw [hr9, hm9]; clear hr9 hm9 r9 μ9
          refine w_iastN hX dX9_readBind_108 (mod_a6 hT_16.1) (by omega) (by omega) ?_
          have t18 : same (fun o2 k2 => o2 = m + 6 ∧ k2 = 882 + (4 * (B 401)) + 3) (sI (sI (sI (sI (sI (sI μ (m + 6) (882 + (4 * (B 401))) (nI 0)) m 7 (nI (n + 1))) m 7 (nI (n + 1 + 1))) (m + 6) (882 + (4 * (B 401)) + 1) (nI v3)) m 8 (nI (ft s 3 (n + 2)))) (m + 6) (882 + (4 * (B 401)) + 2) r5) (sI (sI (sI (sI (sI (sI (sI μ (m + 6) (882 + (4 * (B 401))) (nI 0)) m 7 (nI (n + 1))) m 7 (nI (n + 1 + 1))) (m + 6) (882 + (4 * (B 401)) + 1) (nI v3)) m 8 (nI (ft s 3 (n + 2)))) (m + 6) (882 + (4 * (B 401)) + 2) r5) (m + 6) (882 + (4 * (B 401)) + 3) (nI 0)) := same.rf.sI ⟨rfl, rfl⟩
          have hT_18 := hT_16.sm t18 (fun o k h => by omega)
          have hs_18 := hs_16.tr (t18.up (fun o k h => by unfold SMm; omega))
          have hF_18 := hF_16.sm t18 (fun h => by omega) (fun h => by omega)
          have hf_18 := hf_16
          obtain ⟨n9_18, hn9_18⟩ := hF_18.2.2
          have hn_18 := (rch_le hT.2.2.2 _ hn9_18.1).2
          refine w_aload_n (i := 0) hX dX9_readBind_109 rfl rfl ?_
          refine w_getR (q := m + 6) hX dX9_readBind_110 fo_RX9_73 rfl (mod_s hT_18.1) (mod_r10 hT_18.1) ?_
          refine w_sipush hX dX9_readBind_113 kS_881 ?_
          refine w_dup2 hX dX9_readBind_116 rfl rfl ?_
          refine w_ialdN hX dX9_readBind_117 (mod_a6 hT_18.1) (by omega) (by omega) ?_
          refine w_top (y := gI (sI (sI (sI (sI (sI (sI (sI μ (m + 6) (882 + (4 * (B 401))) (nI 0)) m 7 (nI (n + 1))) m 7 (nI (n + 1 + 1))) (m + 6) (882 + (4 * (B 401)) + 1) (nI v3)) m 8 (nI (ft s 3 (n + 2)))) (m + 6) (882 + (4 * (B 401)) + 2) r5) (m + 6) (882 + (4 * (B 401)) + 3) (nI 0)) (m + 6) 881) rfl ?_
          refine w_iconst hX dX9_readBind_118 kI_1 ?_
          refine w_iadd hX dX9_readBind_119 ?_
          refine w_iastN hX dX9_readBind_120 (mod_a6 hT_18.1) (by omega) (by omega) ?_
          have t19 : same (fun o2 k2 => o2 = m + 6 ∧ k2 = 881) (sI (sI (sI (sI (sI (sI (sI μ (m + 6) (882 + (4 * (B 401))) (nI 0)) m 7 (nI (n + 1))) m 7 (nI (n + 1 + 1))) (m + 6) (882 + (4 * (B 401)) + 1) (nI v3)) m 8 (nI (ft s 3 (n + 2)))) (m + 6) (882 + (4 * (B 401)) + 2) r5) (m + 6) (882 + (4 * (B 401)) + 3) (nI 0)) (sI (sI (sI (sI (sI (sI (sI (sI μ (m + 6) (882 + (4 * (B 401))) (nI 0)) m 7 (nI (n + 1))) m 7 (nI (n + 1 + 1))) (m + 6) (882 + (4 * (B 401)) + 1) (nI v3)) m 8 (nI (ft s 3 (n + 2)))) (m + 6) (882 + (4 * (B 401)) + 2) r5) (m + 6) (882 + (4 * (B 401)) + 3) (nI 0)) (m + 6) 881 ((gI (sI (sI (sI (sI (sI (sI (sI μ (m + 6) (882 + (4 * (B 401))) (nI 0)) m 7 (nI (n + 1))) m 7 (nI (n + 1 + 1))) (m + 6) (882 + (4 * (B 401)) + 1) (nI v3)) m 8 (nI (ft s 3 (n + 2)))) (m + 6) (882 + (4 * (B 401)) + 2) r5) (m + 6) (882 + (4 * (B 401)) + 3) (nI 0)) (m + 6) 881) + (nI 1))) := same.rf.sI ⟨rfl, rfl⟩
          have hT_19 := hT_18.sm t19 (fun o k h => by omega)
          have hs_19 := hs_18.tr (t19.up (fun o k h => by unfold SMm; omega))
          have hF_19 := hF_18.sm t19 (fun h => by omega) (fun h => by omega)
          have hf_19 := hf_18
          obtain ⟨n9_19, hn9_19⟩ := hF_19.2.2
          have hn_19 := (rch_le hT.2.2.2 _ hn9_19.1).2
          have hpx : pRule s n B M 0 = .inl (ft s 3 (n + 2)) := by unfold pRule; exact (if_neg (by omega)).trans ((bnd_r p3).trans ((bnd_r p5).trans (if_pos rfl)))
          exact w_vret hX hE dX9_readBind_121 (Or.inl rfl) (MX_l hpx hs_19 hF_19)
      · rw [e3, m3]
        have hF_3 := hS_2.bad (pNm_l hT.2.2.2 p3)
        have t3 : same (SA2 m) (sI (sI μ (m + 6) (882 + (4 * (B 401))) (nI 0)) m 7 (nI (n + 1))) (sI (sI (sI μ (m + 6) (882 + (4 * (B 401))) (nI 0)) m 7 (nI (n + 1))) m 8 (nI f3)) := same.rf.sI ⟨rfl, Or.inr rfl⟩
        have hT_3 := hT_2.sm t3 (fun o k h => by unfold SA2 at h; omega)
        obtain ⟨n9_3, hn9_3⟩ := hF_3.2.2
        have hf_3 := hF_3.2.1
        have hn_3 := (rch_le hT_3.2.2.2 _ hn9_3.1).2
        have hs_3 := hs_2.tr (t3.up (fun o k h => by unfold SA2 at h; unfold SMm; omega))
        refine w_iastN hX dX9_readBind_71 (mod_a6 hT_3.1) (by omega) (by omega) ?_
        have t20 : same (fun o2 k2 => o2 = m + 6 ∧ k2 = 882 + (4 * (B 401)) + 1) (sI (sI (sI μ (m + 6) (882 + (4 * (B 401))) (nI 0)) m 7 (nI (n + 1))) m 8 (nI f3)) (sI (sI (sI (sI μ (m + 6) (882 + (4 * (B 401))) (nI 0)) m 7 (nI (n + 1))) m 8 (nI f3)) (m + 6) (882 + (4 * (B 401)) + 1) ((-1 : Int32))) := same.rf.sI ⟨rfl, rfl⟩
        have hT_20 := hT_3.sm t20 (fun o k h => by omega)
        have hs_20 := hs_3.tr (t20.up (fun o k h => by unfold SMm; omega))
        have hF_20 := hF_3.sm t20 (fun h => by omega) (fun h => by omega)
        have hf_20 := hf_3
        obtain ⟨n9_20, hn9_20⟩ := hF_20.2.2
        have hn_20 := (rch_le hT.2.2.2 _ hn9_20.1).2
        refine w_aload_n (i := 0) hX dX9_readBind_72 rfl rfl ?_
        refine w_getR (q := m + 6) hX dX9_readBind_73 fo_RX9_73 rfl (mod_s hT_20.1) (mod_r10 hT_20.1) ?_
        refine w_iload_n (i := 2) hX dX9_readBind_76 rfl rfl ?_
        refine w_iconst hX dX9_readBind_77 kI_2 ?_
        refine w_iaddN hX dX9_readBind_78 ?_
        refine w_aload_n (i := 0) hX dX9_readBind_79 rfl rfl ?_
        refine w_iconst hX dX9_readBind_80 kI_3 ?_
        refine w_aload_n (i := 0) hX dX9_readBind_81 rfl rfl ?_
        refine w_getR (q := m + 6) hX dX9_readBind_82 fo_RX9_73 rfl (mod_s hT_20.1) (mod_r10 hT_20.1) ?_
        refine w_iload_n (i := 2) hX dX9_readBind_85 rfl rfl ?_
        refine w_iconst hX dX9_readBind_86 kI_1 ?_
        refine w_iaddN hX dX9_readBind_87 ?_
        refine w_ialdN hX dX9_readBind_88 (mod_a6 hT_20.1) (by omega) (by omega) ?_
        refine w_top (y := (-1 : Int32)) gI_same ?_
        refine w_callVI (As := [.int (nI 3), .int ((-1 : Int32))]) (rest := [.int (nI (882 + (4 * (B 401)) + 2)), .ref (m + 6)]) (ci := 9) (o := m) (k2 := 0) (n2 := 0) hX dX9_readBind_89 (s_m_otherf Γ (sI (sI (sI (sI μ (m + 6) (882 + (4 * (B 401))) (nI 0)) m 7 (nI (n + 1))) m 8 (nI f3)) (m + 6) (882 + (4 * (B 401)) + 1) ((-1 : Int32))) m s hT_20 f3 hF_20 3 ((-1 : Int32))) okX9_takeOther (ltb rfl) (mod_s hT_20.1) ml_RX9_233 imX9_takeOther seX9_takeOther rfl (leb rfl) (leb rfl) rfl rfl (fun r9 μ9 hq9 => ?_)
        obtain ⟨hr9, hm9⟩ := hq9; rw [hr9, hm9]; clear hr9 hm9 r9 μ9
        refine w_iastN hX dX9_readBind_92 (mod_a6 hT_20.1) (by omega) (by omega) ?_
        have t22 : same (fun o2 k2 => o2 = m + 6 ∧ k2 = 882 + (4 * (B 401)) + 2) (sI (sI (sI (sI μ (m + 6) (882 + (4 * (B 401))) (nI 0)) m 7 (nI (n + 1))) m 8 (nI f3)) (m + 6) (882 + (4 * (B 401)) + 1) ((-1 : Int32))) (sI (sI (sI (sI (sI μ (m + 6) (882 + (4 * (B 401))) (nI 0)) m 7 (nI (n + 1))) m 8 (nI f3)) (m + 6) (882 + (4 * (B 401)) + 1) ((-1 : Int32))) (m + 6) (882 + (4 * (B 401)) + 2) ((-1 : Int32))) := same.rf.sI ⟨rfl, rfl⟩
        have hT_22 := hT_20.sm t22 (fun o k h => by omega)
        have hs_22 := hs_20.tr (t22.up (fun o k h => by unfold SMm; omega))
        have hF_22 := hF_20.sm t22 (fun h => by omega) (fun h => by omega)
        have hf_22 := hf_20
        obtain ⟨n9_22, hn9_22⟩ := hF_22.2.2
        have hn_22 := (rch_le hT.2.2.2 _ hn9_22.1).2
        refine w_aload_n (i := 0) hX dX9_readBind_93 rfl rfl ?_
        refine w_getR (q := m + 6) hX dX9_readBind_94 fo_RX9_73 rfl (mod_s hT_22.1) (mod_r10 hT_22.1) ?_
        refine w_iload_n (i := 2) hX dX9_readBind_97 rfl rfl ?_
        refine w_iconst hX dX9_readBind_98 kI_3 ?_
        refine w_iaddN hX dX9_readBind_99 ?_
        refine w_aload_n (i := 0) hX dX9_readBind_100 rfl rfl ?_
        refine w_iconst hX dX9_readBind_101 kI_0 ?_
        refine w_sipush hX dX9_readBind_102 kS_9999 ?_
        refine w_callVI (As := [.int (nI 0), .int (nI 9999)]) (rest := [.int (nI (882 + (4 * (B 401)) + 3)), .ref (m + 6)]) (ci := 9) (o := m) (k2 := 0) (n2 := 0) hX dX9_readBind_105 (s_m_takeNf Γ (sI (sI (sI (sI (sI μ (m + 6) (882 + (4 * (B 401))) (nI 0)) m 7 (nI (n + 1))) m 8 (nI f3)) (m + 6) (882 + (4 * (B 401)) + 1) ((-1 : Int32))) (m + 6) (882 + (4 * (B 401)) + 2) ((-1 : Int32))) m s hT_22 f3 hF_22 (nI 0) 9999) okX9_takeNumber (ltb rfl) (mod_s hT_22.1) ml_RX9_173 imX9_takeNumber seX9_takeNumber rfl (leb rfl) (leb rfl) rfl rfl (fun r9 μ9 hq9 => ?_)
        obtain ⟨hr9, hm9⟩ := hq9; rw [hr9, hm9]; clear hr9 hm9 r9 μ9
        refine w_iastN hX dX9_readBind_108 (mod_a6 hT_22.1) (by omega) (by omega) ?_
        have t24 : same (fun o2 k2 => o2 = m + 6 ∧ k2 = 882 + (4 * (B 401)) + 3) (sI (sI (sI (sI (sI μ (m + 6) (882 + (4 * (B 401))) (nI 0)) m 7 (nI (n + 1))) m 8 (nI f3)) (m + 6) (882 + (4 * (B 401)) + 1) ((-1 : Int32))) (m + 6) (882 + (4 * (B 401)) + 2) ((-1 : Int32))) (sI (sI (sI (sI (sI (sI μ (m + 6) (882 + (4 * (B 401))) (nI 0)) m 7 (nI (n + 1))) m 8 (nI f3)) (m + 6) (882 + (4 * (B 401)) + 1) ((-1 : Int32))) (m + 6) (882 + (4 * (B 401)) + 2) ((-1 : Int32))) (m + 6) (882 + (4 * (B 401)) + 3) (nI 0)) := same.rf.sI ⟨rfl, rfl⟩
        have hT_24 := hT_22.sm t24 (fun o k h => by omega)
        have hs_24 := hs_22.tr (t24.up (fun o k h => by unfold SMm; omega))
        have hF_24 := hF_22.sm t24 (fun h => by omega) (fun h => by omega)
        have hf_24 := hf_22
        obtain ⟨n9_24, hn9_24⟩ := hF_24.2.2
        have hn_24 := (rch_le hT.2.2.2 _ hn9_24.1).2
        refine w_aload_n (i := 0) hX dX9_readBind_109 rfl rfl ?_
        refine w_getR (q := m + 6) hX dX9_readBind_110 fo_RX9_73 rfl (mod_s hT_24.1) (mod_r10 hT_24.1) ?_
        refine w_sipush hX dX9_readBind_113 kS_881 ?_
        refine w_dup2 hX dX9_readBind_116 rfl rfl ?_
        refine w_ialdN hX dX9_readBind_117 (mod_a6 hT_24.1) (by omega) (by omega) ?_
        refine w_top (y := gI (sI (sI (sI (sI (sI (sI μ (m + 6) (882 + (4 * (B 401))) (nI 0)) m 7 (nI (n + 1))) m 8 (nI f3)) (m + 6) (882 + (4 * (B 401)) + 1) ((-1 : Int32))) (m + 6) (882 + (4 * (B 401)) + 2) ((-1 : Int32))) (m + 6) (882 + (4 * (B 401)) + 3) (nI 0)) (m + 6) 881) rfl ?_
        refine w_iconst hX dX9_readBind_118 kI_1 ?_
        refine w_iadd hX dX9_readBind_119 ?_
        refine w_iastN hX dX9_readBind_120 (mod_a6 hT_24.1) (by omega) (by omega) ?_
        have t25 : same (fun o2 k2 => o2 = m + 6 ∧ k2 = 881) (sI (sI (sI (sI (sI (sI μ (m + 6) (882 + (4 * (B 401))) (nI 0)) m 7 (nI (n + 1))) m 8 (nI f3)) (m + 6) (882 + (4 * (B 401)) + 1) ((-1 : Int32))) (m + 6) (882 + (4 * (B 401)) + 2) ((-1 : Int32))) (m + 6) (882 + (4 * (B 401)) + 3) (nI 0)) (sI (sI (sI (sI (sI (sI (sI μ (m + 6) (882 + (4 * (B 401))) (nI 0)) m 7 (nI (n + 1))) m 8 (nI f3)) (m + 6) (882 + (4 * (B 401)) + 1) ((-1 : Int32))) (m + 6) (882 + (4 * (B 401)) + 2) ((-1 : Int32))) (m + 6) (882 + (4 * (B 401)) + 3) (nI 0)) (m + 6) 881 ((gI (sI (sI (sI (sI (sI (sI μ (m + 6) (882 + (4 * (B 401))) (nI 0)) m 7 (nI (n + 1))) m 8 (nI f3)) (m + 6) (882 + (4 * (B 401)) + 1) ((-1 : Int32))) (m + 6) (882 + (4 * (B 401)) + 2) ((-1 : Int32))) (m + 6) (882 + (4 * (B 401)) + 3) (nI 0)) (m + 6) 881) + (nI 1))) := same.rf.sI ⟨rfl, rfl⟩
        have hT_25 := hT_24.sm t25 (fun o k h => by omega)
        have hs_25 := hs_24.tr (t25.up (fun o k h => by unfold SMm; omega))
        have hF_25 := hF_24.sm t25 (fun h => by omega) (fun h => by omega)
        have hf_25 := hf_24
        obtain ⟨n9_25, hn9_25⟩ := hF_25.2.2
        have hn_25 := (rch_le hT.2.2.2 _ hn9_25.1).2
        have hpx : pRule s n B M 0 = .inl f3 := by unfold pRule; exact (if_neg (by omega)).trans (bnd_l p3)
        exact w_vret hX hE dX9_readBind_121 (Or.inl rfl) (MX_l hpx hs_25 hF_25)
  · refine w_aload_n (i := 0) hX dX9_readBind_15 rfl rfl ?_
    refine w_iconst hX dX9_readBind_16 kI_5 ?_
    refine w_callVV (As := [.int (nI 5)]) (rest := []) (ci := 9) (o := m) (k2 := 0) (n2 := 0) hX dX9_readBind_17 (s_m_wrong0 Γ μ m s hT (n) hS 5) okX9_wrong (ltb rfl) (mod_s hT.1) ml_RX9_160 imX9_wrong seX9_wrong rfl (leb rfl) (leb rfl) rfl rfl (fun μ9 hq9 => ?_)
    rw [hq9]; clear hq9 μ9
    have hF_26 := hS.bad (ft_lt (w := 5) (n := n) hT.2.2.2 (by omega) (by omega))
    have t26 : same (SA2 m) μ (sI μ m 8 (nI (ft s 5 (n)))) := same.rf.sI ⟨rfl, Or.inr rfl⟩
    have hT_26 := hT.sm t26 (fun o k h => by unfold SA2 at h; omega)
    obtain ⟨n9_26, hn9_26⟩ := hF_26.2.2
    have hf_26 := hF_26.2.1
    have hn_26 := (rch_le hT_26.2.2.2 _ hn9_26.1).2
    have hs_26 := hs.tr (t26.up (fun o k h => by unfold SA2 at h; unfold SMm; omega))
    have hpx : pRule s n B M 0 = .inl (ft s 5 (n)) := by unfold pRule; exact if_pos (by omega)
    exact w_vret hX hE dX9_readBind_20 (Or.inl rfl) (MX_l hpx hs_26 hF_26)
set_option maxHeartbeats 1000000 in
theorem s_m_bind1 (Γ : Gm) (μ : Mem) (m : Nat) (s : Tp) (n : Nat) (B : Nat → Nat) (M : NM) (hT : MT μ m s) (hS : MSt μ m s n) (hB : MBk μ m B) (hN : MN μ m M) (hP : PIv B M) (hkn : kd s n ≠ 0) (hk9 : kd s n = 22)  : SpV Γ MX9_readBind 4 0 0 [.ref m] μ (fun μ2 => MX m s (pRule s n B M 1) μ μ2) := by
  refine SpV.of okX9_readBind rfl [some (.ref m), none, none] ⟨rfl, trivial⟩ (leb rfl) (leb rfl) (fun X hX hE hnm => ?_)
  have hs : same (SMm m) μ μ := same.rf
  obtain ⟨hM9, hb0, hb85, hb126, hb352⟩ := M32 hP
  have hn := (rch_le hT.2.2.2 n hS.2.1).2
  have hL1 := hT.2.2.2.1
  have hb401 := hP.1.2.2.2.2.2.1
  refine w_aload_n (i := 0) hX dX9_readBind_0 rfl rfl ?_
  refine w_getR (q := m + 6) hX dX9_readBind_1 fo_RX9_73 rfl (mod_s hT.1) (mod_r10 hT.1) ?_
  refine w_sipush hX dX9_readBind_4 kS_881 ?_
  refine w_ialdN hX dX9_readBind_7 (mod_a6 hT.1) (by omega) (by omega) ?_
  refine w_top (y := nI (B 401)) (hB 401 (by omega)) ?_
  refine w_istore_n (i := 1) (l2 := [some (.ref m), some (.int (nI (B 401))), none]) hX dX9_readBind_8 rfl (ltb rfl) rfl rfl ?_
  refine w_iload_n (i := 1) hX dX9_readBind_9 rfl rfl ?_
  refine w_bipush hX dX9_readBind_10 kB_16 ?_
  refine wn_icmp_ne (tgt := 21) hX dX9_readBind_12 (by decide) (by omega) (by omega) (fun c1 => ?_) (fun c1 => ?_)
  · refine w_sipush hX dX9_readBind_21 kS_882 ?_
    refine w_iconst hX dX9_readBind_24 kI_4 ?_
    refine w_iload_n (i := 1) hX dX9_readBind_25 rfl rfl ?_
    refine w_imulN hX dX9_readBind_26 ?_
    refine w_iaddN hX dX9_readBind_27 ?_
    refine w_istore_n (i := 2) (l2 := [some (.ref m), some (.int (nI (B 401))), some (.int (nI (882 + (4 * (B 401)))))]) hX dX9_readBind_28 rfl (ltb rfl) rfl rfl ?_
    refine w_aload_n (i := 0) hX dX9_readBind_29 rfl rfl ?_
    refine w_getR (q := m + 6) hX dX9_readBind_30 fo_RX9_73 rfl (mod_s hT.1) (mod_r10 hT.1) ?_
    refine w_iload_n (i := 2) hX dX9_readBind_33 rfl rfl ?_
    refine w_aload_n (i := 0) hX dX9_readBind_34 rfl rfl ?_
    refine w_bipush hX dX9_readBind_35 kB_16 ?_
    refine w_callVI (As := [.int (nI 16)]) (rest := [.int (nI (882 + (4 * (B 401)))), .ref (m + 6)]) (ci := 9) (o := m) (k2 := 0) (n2 := 0) hX dX9_readBind_37 (s_m_isWord0 Γ μ m s hT (n) hS 16 (by omega)) okX9_isWord (ltb rfl) (mod_s hT.1) ml_RX9_164 imX9_isWord seX9_isWord rfl (leb rfl) (leb rfl) rfl rfl (fun r9 μ9 hq9 => ?_)
    obtain ⟨hr9, hm9⟩ := hq9; rw [hr9, hm9]; clear hr9 hm9 r9 μ9
    refine wb_eq (tgt := 47) hX dX9_readBind_40 (by decide) (fun c2 => ?_) (fun c2 => ?_)
    · refine w_iconst hX dX9_readBind_47 kI_1 ?_
      refine w_iastN hX dX9_readBind_48 (mod_a6 hT.1) (by omega) (by omega) ?_
      have t1 : same (fun o2 k2 => o2 = m + 6 ∧ k2 = 882 + (4 * (B 401))) μ (sI μ (m + 6) (882 + (4 * (B 401))) (nI 1)) := same.rf.sI ⟨rfl, rfl⟩
      have hT_1 := hT.sm t1 (fun o k h => by omega)
      have hs_1 := hs.tr (t1.up (fun o k h => by unfold SMm; omega))
      have hS_1 := hS.sm t1 (fun h => by omega) (fun h => by omega)
      have hN_1 := hN.sm t1 (fun o k h => by omega)
      have hB_1 : MBk (sI μ (m + 6) (882 + (4 * (B 401))) (nI 1)) m (stB B (402 + 4 * B 401) (1)) := by have h9 := hB.st (j := 402 + 4 * B 401) (v := 1) (by omega); rwa [show 480 + (402 + 4 * B 401) = 882 + (4 * (B 401)) by omega] at h9
      have hn_1 := hn
      refine w_aload_n (i := 0) hX dX9_readBind_49 rfl rfl ?_
      refine w_dup hX dX9_readBind_50 rfl ?_
      refine w_getI hX dX9_readBind_51 fo_RX9_151 rfl (mod_s hT_1.1) ?_
      refine w_top (y := nI n) hS_1.1 ?_
      refine w_iconst hX dX9_readBind_54 kI_1 ?_
      refine w_iaddN hX dX9_readBind_55 ?_
      refine w_putI hX dX9_readBind_56 fo_RX9_151 rfl rfl rfl rfl (mod_s hT_1.1) ?_
      have hS_2 : MSt (sI (sI μ (m + 6) (882 + (4 * (B 401))) (nI 1)) m 7 (nI (n + 1))) m s (n + 1) := hS_1.next (show kd s (n) ≠ 0 from hkn)
      have t2 : same (SA2 m) (sI μ (m + 6) (882 + (4 * (B 401))) (nI 1)) (sI (sI μ (m + 6) (882 + (4 * (B 401))) (nI 1)) m 7 (nI (n + 1))) := same.rf.sI ⟨rfl, Or.inl rfl⟩
      have hT_2 := hT_1.sm t2 (fun o k h => by unfold SA2 at h; omega)
      have hB_2 := hB_1.sm t2 (fun o k h => by unfold SA2 at h; omega)
      have hN_2 := hN_1.sm t2 (fun o k h => by unfold SA2 at h; omega)
      have hn_2 := (rch_le hT_2.2.2.2 _ hS_2.2.1).2
      have hs_2 := hs_1.tr (t2.up (fun o k h => by unfold SA2 at h; unfold SMm; omega))
      refine w_aload_n (i := 0) hX dX9_readBind_59 rfl rfl ?_
      refine w_getR (q := m + 6) hX dX9_readBind_60 fo_RX9_73 rfl (mod_s hT_2.1) (mod_r10 hT_2.1) ?_
      refine w_iload_n (i := 2) hX dX9_readBind_63 rfl rfl ?_
      refine w_iconst hX dX9_readBind_64 kI_1 ?_
      refine w_iaddN hX dX9_readBind_65 ?_
      refine w_aload_n (i := 0) hX dX9_readBind_66 rfl rfl ?_
      refine w_iconst hX dX9_readBind_67 kI_3 ?_
      refine w_callVI (As := [.int (nI 3)]) (rest := [.int (nI (882 + (4 * (B 401)) + 1)), .ref (m + 6)]) (ci := 9) (o := m) (k2 := 0) (n2 := 0) hX dX9_readBind_68 (s_m_takeName Γ (sI (sI μ (m + 6) (882 + (4 * (B 401))) (nI 1)) m 7 (nI (n + 1))) m s hT_2 (n + 1) hS_2 M hN_2 hP.2.2.2.2 3 (by omega)) okX9_takeName (ltb rfl) (mod_s hT_2.1) ml_RX9_225 imX9_takeName seX9_takeName rfl (leb rfl) (leb rfl) rfl rfl (fun r3 ν3 hq9 => ?_)
      rcases hq9 with ⟨v3, p3, e3, m3⟩ | ⟨f3, p3, e3, m3⟩
      · rw [e3, m3]
        have lt3 := told_p hP p3
        have q3 := (pNm_inr p3).1
        have hS_3 : MSt (sI (sI (sI μ (m + 6) (882 + (4 * (B 401))) (nI 1)) m 7 (nI (n + 1))) m 7 (nI (n + 1 + 1))) m s (n + 2) := hS_2.next (show kd s (n + 1) ≠ 0 by omega)
        have t3 : same (SA2 m) (sI (sI μ (m + 6) (882 + (4 * (B 401))) (nI 1)) m 7 (nI (n + 1))) (sI (sI (sI μ (m + 6) (882 + (4 * (B 401))) (nI 1)) m 7 (nI (n + 1))) m 7 (nI (n + 1 + 1))) := same.rf.sI ⟨rfl, Or.inl rfl⟩
        have hT_3 := hT_2.sm t3 (fun o k h => by unfold SA2 at h; omega)
        have hB_3 := hB_2.sm t3 (fun o k h => by unfold SA2 at h; omega)
        have hN_3 := hN_2.sm t3 (fun o k h => by unfold SA2 at h; omega)
        have hn_3 := (rch_le hT_3.2.2.2 _ hS_3.2.1).2
        have hs_3 := hs_2.tr (t3.up (fun o k h => by unfold SA2 at h; unfold SMm; omega))
        refine w_iastN hX dX9_readBind_71 (mod_a6 hT_3.1) (by omega) (by omega) ?_
        have t4 : same (fun o2 k2 => o2 = m + 6 ∧ k2 = 882 + (4 * (B 401)) + 1) (sI (sI (sI μ (m + 6) (882 + (4 * (B 401))) (nI 1)) m 7 (nI (n + 1))) m 7 (nI (n + 1 + 1))) (sI (sI (sI (sI μ (m + 6) (882 + (4 * (B 401))) (nI 1)) m 7 (nI (n + 1))) m 7 (nI (n + 1 + 1))) (m + 6) (882 + (4 * (B 401)) + 1) (nI v3)) := same.rf.sI ⟨rfl, rfl⟩
        have hT_4 := hT_3.sm t4 (fun o k h => by omega)
        have hs_4 := hs_3.tr (t4.up (fun o k h => by unfold SMm; omega))
        have hS_4 := hS_3.sm t4 (fun h => by omega) (fun h => by omega)
        have hN_4 := hN_3.sm t4 (fun o k h => by omega)
        have hB_4 : MBk (sI (sI (sI (sI μ (m + 6) (882 + (4 * (B 401))) (nI 1)) m 7 (nI (n + 1))) m 7 (nI (n + 1 + 1))) (m + 6) (882 + (4 * (B 401)) + 1) (nI v3)) m (stB (stB B (402 + 4 * B 401) (1)) (402 + 4 * B 401 + 1) (v3)) := by have h9 := hB_3.st (j := 402 + 4 * B 401 + 1) (v := v3) (by omega); rwa [show 480 + (402 + 4 * B 401 + 1) = 882 + (4 * (B 401)) + 1 by omega] at h9
        have hn_4 := hn_3
        refine w_aload_n (i := 0) hX dX9_readBind_72 rfl rfl ?_
        refine w_getR (q := m + 6) hX dX9_readBind_73 fo_RX9_73 rfl (mod_s hT_4.1) (mod_r10 hT_4.1) ?_
        refine w_iload_n (i := 2) hX dX9_readBind_76 rfl rfl ?_
        refine w_iconst hX dX9_readBind_77 kI_2 ?_
        refine w_iaddN hX dX9_readBind_78 ?_
        refine w_aload_n (i := 0) hX dX9_readBind_79 rfl rfl ?_
        refine w_iconst hX dX9_readBind_80 kI_3 ?_
        refine w_aload_n (i := 0) hX dX9_readBind_81 rfl rfl ?_
        refine w_getR (q := m + 6) hX dX9_readBind_82 fo_RX9_73 rfl (mod_s hT_4.1) (mod_r10 hT_4.1) ?_
        refine w_iload_n (i := 2) hX dX9_readBind_85 rfl rfl ?_
        refine w_iconst hX dX9_readBind_86 kI_1 ?_
        refine w_iaddN hX dX9_readBind_87 ?_
        refine w_ialdN hX dX9_readBind_88 (mod_a6 hT_4.1) (by omega) (by omega) ?_
        refine w_top (y := nI v3) gI_same ?_
        refine w_callVI (As := [.int (nI 3), .int (nI v3)]) (rest := [.int (nI (882 + (4 * (B 401)) + 2)), .ref (m + 6)]) (ci := 9) (o := m) (k2 := 0) (n2 := 0) hX dX9_readBind_89 (s_m_other0 Γ (sI (sI (sI (sI μ (m + 6) (882 + (4 * (B 401))) (nI 1)) m 7 (nI (n + 1))) m 7 (nI (n + 1 + 1))) (m + 6) (882 + (4 * (B 401)) + 1) (nI v3)) m s hT_4 (n + 2) hS_4 M hN_4 hP.2.2.2.2 3 v3 (by omega) (by omega)) okX9_takeOther (ltb rfl) (mod_s hT_4.1) ml_RX9_233 imX9_takeOther seX9_takeOther rfl (leb rfl) (leb rfl) rfl rfl (fun r5 ν5 hq9 => ?_)
        replace hq9 := or3 hq9
        rcases hq9 with ⟨v5, p5, ne5, e5, m5⟩ | ⟨f5, p5, m5⟩ | ⟨f5, ⟨p5, ef5⟩, m5⟩
        · rw [e5, m5]
          have q5 := (pNm_inr p5).1
          have hS_5 : MSt (sI (sI (sI (sI (sI μ (m + 6) (882 + (4 * (B 401))) (nI 1)) m 7 (nI (n + 1))) m 7 (nI (n + 1 + 1))) (m + 6) (882 + (4 * (B 401)) + 1) (nI v3)) m 7 (nI (n + 2 + 1))) m s (n + 3) := hS_4.next (show kd s (n + 2) ≠ 0 by omega)
          have t5 : same (SA2 m) (sI (sI (sI (sI μ (m + 6) (882 + (4 * (B 401))) (nI 1)) m 7 (nI (n + 1))) m 7 (nI (n + 1 + 1))) (m + 6) (882 + (4 * (B 401)) + 1) (nI v3)) (sI (sI (sI (sI (sI μ (m + 6) (882 + (4 * (B 401))) (nI 1)) m 7 (nI (n + 1))) m 7 (nI (n + 1 + 1))) (m + 6) (882 + (4 * (B 401)) + 1) (nI v3)) m 7 (nI (n + 2 + 1))) := same.rf.sI ⟨rfl, Or.inl rfl⟩
          have hT_5 := hT_4.sm t5 (fun o k h => by unfold SA2 at h; omega)
          have hB_5 := hB_4.sm t5 (fun o k h => by unfold SA2 at h; omega)
          have hN_5 := hN_4.sm t5 (fun o k h => by unfold SA2 at h; omega)
          have hn_5 := (rch_le hT_5.2.2.2 _ hS_5.2.1).2
          have hs_5 := hs_4.tr (t5.up (fun o k h => by unfold SA2 at h; unfold SMm; omega))
          refine w_iastN hX dX9_readBind_92 (mod_a6 hT_5.1) (by omega) (by omega) ?_
          have t6 : same (fun o2 k2 => o2 = m + 6 ∧ k2 = 882 + (4 * (B 401)) + 2) (sI (sI (sI (sI (sI μ (m + 6) (882 + (4 * (B 401))) (nI 1)) m 7 (nI (n + 1))) m 7 (nI (n + 1 + 1))) (m + 6) (882 + (4 * (B 401)) + 1) (nI v3)) m 7 (nI (n + 2 + 1))) (sI (sI (sI (sI (sI (sI μ (m + 6) (882 + (4 * (B 401))) (nI 1)) m 7 (nI (n + 1))) m 7 (nI (n + 1 + 1))) (m + 6) (882 + (4 * (B 401)) + 1) (nI v3)) m 7 (nI (n + 2 + 1))) (m + 6) (882 + (4 * (B 401)) + 2) (nI v5)) := same.rf.sI ⟨rfl, rfl⟩
          have hT_6 := hT_5.sm t6 (fun o k h => by omega)
          have hs_6 := hs_5.tr (t6.up (fun o k h => by unfold SMm; omega))
          have hS_6 := hS_5.sm t6 (fun h => by omega) (fun h => by omega)
          have hN_6 := hN_5.sm t6 (fun o k h => by omega)
          have hB_6 : MBk (sI (sI (sI (sI (sI (sI μ (m + 6) (882 + (4 * (B 401))) (nI 1)) m 7 (nI (n + 1))) m 7 (nI (n + 1 + 1))) (m + 6) (882 + (4 * (B 401)) + 1) (nI v3)) m 7 (nI (n + 2 + 1))) (m + 6) (882 + (4 * (B 401)) + 2) (nI v5)) m (stB (stB (stB B (402 + 4 * B 401) (1)) (402 + 4 * B 401 + 1) (v3)) (402 + 4 * B 401 + 2) (v5)) := by have h9 := hB_5.st (j := 402 + 4 * B 401 + 2) (v := v5) (by omega); rwa [show 480 + (402 + 4 * B 401 + 2) = 882 + (4 * (B 401)) + 2 by omega] at h9
          have hn_6 := hn_5
          refine w_aload_n (i := 0) hX dX9_readBind_93 rfl rfl ?_
          refine w_getR (q := m + 6) hX dX9_readBind_94 fo_RX9_73 rfl (mod_s hT_6.1) (mod_r10 hT_6.1) ?_
          refine w_iload_n (i := 2) hX dX9_readBind_97 rfl rfl ?_
          refine w_iconst hX dX9_readBind_98 kI_3 ?_
          refine w_iaddN hX dX9_readBind_99 ?_
          refine w_aload_n (i := 0) hX dX9_readBind_100 rfl rfl ?_
          refine w_iconst hX dX9_readBind_101 kI_0 ?_
          refine w_sipush hX dX9_readBind_102 kS_9999 ?_
          refine w_callVI (As := [.int (nI 0), .int (nI 9999)]) (rest := [.int (nI (882 + (4 * (B 401)) + 3)), .ref (m + 6)]) (ci := 9) (o := m) (k2 := 0) (n2 := 0) hX dX9_readBind_105 (s_m_takeN0 Γ (sI (sI (sI (sI (sI (sI μ (m + 6) (882 + (4 * (B 401))) (nI 1)) m 7 (nI (n + 1))) m 7 (nI (n + 1 + 1))) (m + 6) (882 + (4 * (B 401)) + 1) (nI v3)) m 7 (nI (n + 2 + 1))) (m + 6) (882 + (4 * (B 401)) + 2) (nI v5)) m s hT_6 (n + 3) hS_6 0 9999 (by omega) (by omega)) okX9_takeNumber (ltb rfl) (mod_s hT_6.1) ml_RX9_173 imX9_takeNumber seX9_takeNumber rfl (leb rfl) (leb rfl) rfl rfl (fun r7 ν7 hq9 => ?_)
          rcases hq9 with ⟨p7, e7, m7⟩ | ⟨f7, p7, e7, m7⟩
          · rw [e7, m7]
            obtain ⟨q7, -, l7, g7⟩ := pNb_inr p7
            have hS_7 : MSt (sI (sI (sI (sI (sI (sI (sI μ (m + 6) (882 + (4 * (B 401))) (nI 1)) m 7 (nI (n + 1))) m 7 (nI (n + 1 + 1))) (m + 6) (882 + (4 * (B 401)) + 1) (nI v3)) m 7 (nI (n + 2 + 1))) (m + 6) (882 + (4 * (B 401)) + 2) (nI v5)) m 7 (nI (n + 3 + 1))) m s (n + 4) := hS_6.next (show kd s (n + 3) ≠ 0 by omega)
            have t7 : same (SA2 m) (sI (sI (sI (sI (sI (sI μ (m + 6) (882 + (4 * (B 401))) (nI 1)) m 7 (nI (n + 1))) m 7 (nI (n + 1 + 1))) (m + 6) (882 + (4 * (B 401)) + 1) (nI v3)) m 7 (nI (n + 2 + 1))) (m + 6) (882 + (4 * (B 401)) + 2) (nI v5)) (sI (sI (sI (sI (sI (sI (sI μ (m + 6) (882 + (4 * (B 401))) (nI 1)) m 7 (nI (n + 1))) m 7 (nI (n + 1 + 1))) (m + 6) (882 + (4 * (B 401)) + 1) (nI v3)) m 7 (nI (n + 2 + 1))) (m + 6) (882 + (4 * (B 401)) + 2) (nI v5)) m 7 (nI (n + 3 + 1))) := same.rf.sI ⟨rfl, Or.inl rfl⟩
            have hT_7 := hT_6.sm t7 (fun o k h => by unfold SA2 at h; omega)
            have hB_7 := hB_6.sm t7 (fun o k h => by unfold SA2 at h; omega)
            have hN_7 := hN_6.sm t7 (fun o k h => by unfold SA2 at h; omega)
            have hn_7 := (rch_le hT_7.2.2.2 _ hS_7.2.1).2
            have hs_7 := hs_6.tr (t7.up (fun o k h => by unfold SA2 at h; unfold SMm; omega))
            refine w_iastN hX dX9_readBind_108 (mod_a6 hT_7.1) (by omega) (by omega) ?_
            have t8 : same (fun o2 k2 => o2 = m + 6 ∧ k2 = 882 + (4 * (B 401)) + 3) (sI (sI (sI (sI (sI (sI (sI μ (m + 6) (882 + (4 * (B 401))) (nI 1)) m 7 (nI (n + 1))) m 7 (nI (n + 1 + 1))) (m + 6) (882 + (4 * (B 401)) + 1) (nI v3)) m 7 (nI (n + 2 + 1))) (m + 6) (882 + (4 * (B 401)) + 2) (nI v5)) m 7 (nI (n + 3 + 1))) (sI (sI (sI (sI (sI (sI (sI (sI μ (m + 6) (882 + (4 * (B 401))) (nI 1)) m 7 (nI (n + 1))) m 7 (nI (n + 1 + 1))) (m + 6) (882 + (4 * (B 401)) + 1) (nI v3)) m 7 (nI (n + 2 + 1))) (m + 6) (882 + (4 * (B 401)) + 2) (nI v5)) m 7 (nI (n + 3 + 1))) (m + 6) (882 + (4 * (B 401)) + 3) (nI (vl s (n + 3)))) := same.rf.sI ⟨rfl, rfl⟩
            have hT_8 := hT_7.sm t8 (fun o k h => by omega)
            have hs_8 := hs_7.tr (t8.up (fun o k h => by unfold SMm; omega))
            have hS_8 := hS_7.sm t8 (fun h => by omega) (fun h => by omega)
            have hN_8 := hN_7.sm t8 (fun o k h => by omega)
            have hB_8 : MBk (sI (sI (sI (sI (sI (sI (sI (sI μ (m + 6) (882 + (4 * (B 401))) (nI 1)) m 7 (nI (n + 1))) m 7 (nI (n + 1 + 1))) (m + 6) (882 + (4 * (B 401)) + 1) (nI v3)) m 7 (nI (n + 2 + 1))) (m + 6) (882 + (4 * (B 401)) + 2) (nI v5)) m 7 (nI (n + 3 + 1))) (m + 6) (882 + (4 * (B 401)) + 3) (nI (vl s (n + 3)))) m (stB (stB (stB (stB B (402 + 4 * B 401) (1)) (402 + 4 * B 401 + 1) (v3)) (402 + 4 * B 401 + 2) (v5)) (402 + 4 * B 401 + 3) ((vl s (n + 3)))) := by have h9 := hB_7.st (j := 402 + 4 * B 401 + 3) (v := (vl s (n + 3))) (by omega); rwa [show 480 + (402 + 4 * B 401 + 3) = 882 + (4 * (B 401)) + 3 by omega] at h9
            have hn_8 := hn_7
            refine w_aload_n (i := 0) hX dX9_readBind_109 rfl rfl ?_
            refine w_getR (q := m + 6) hX dX9_readBind_110 fo_RX9_73 rfl (mod_s hT_8.1) (mod_r10 hT_8.1) ?_
            refine w_sipush hX dX9_readBind_113 kS_881 ?_
            refine w_dup2 hX dX9_readBind_116 rfl rfl ?_
            refine w_ialdN hX dX9_readBind_117 (mod_a6 hT_8.1) (by omega) (by omega) ?_
            refine w_top (y := nI (B 401)) (by have h9 := hB_8 401 (by omega); rw [stB_ne (by omega), stB_ne (by omega), stB_ne (by omega), stB_ne (by omega)] at h9; exact h9) ?_
            refine w_iconst hX dX9_readBind_118 kI_1 ?_
            refine w_iaddN hX dX9_readBind_119 ?_
            refine w_iastN hX dX9_readBind_120 (mod_a6 hT_8.1) (by omega) (by omega) ?_
            have t9 : same (fun o2 k2 => o2 = m + 6 ∧ k2 = 881) (sI (sI (sI (sI (sI (sI (sI (sI μ (m + 6) (882 + (4 * (B 401))) (nI 1)) m 7 (nI (n + 1))) m 7 (nI (n + 1 + 1))) (m + 6) (882 + (4 * (B 401)) + 1) (nI v3)) m 7 (nI (n + 2 + 1))) (m + 6) (882 + (4 * (B 401)) + 2) (nI v5)) m 7 (nI (n + 3 + 1))) (m + 6) (882 + (4 * (B 401)) + 3) (nI (vl s (n + 3)))) (sI (sI (sI (sI (sI (sI (sI (sI (sI μ (m + 6) (882 + (4 * (B 401))) (nI 1)) m 7 (nI (n + 1))) m 7 (nI (n + 1 + 1))) (m + 6) (882 + (4 * (B 401)) + 1) (nI v3)) m 7 (nI (n + 2 + 1))) (m + 6) (882 + (4 * (B 401)) + 2) (nI v5)) m 7 (nI (n + 3 + 1))) (m + 6) (882 + (4 * (B 401)) + 3) (nI (vl s (n + 3)))) (m + 6) 881 (nI (B 401 + 1))) := same.rf.sI ⟨rfl, rfl⟩
            have hT_9 := hT_8.sm t9 (fun o k h => by omega)
            have hs_9 := hs_8.tr (t9.up (fun o k h => by unfold SMm; omega))
            have hS_9 := hS_8.sm t9 (fun h => by omega) (fun h => by omega)
            have hN_9 := hN_8.sm t9 (fun o k h => by omega)
            have hB_9 : MBk (sI (sI (sI (sI (sI (sI (sI (sI (sI μ (m + 6) (882 + (4 * (B 401))) (nI 1)) m 7 (nI (n + 1))) m 7 (nI (n + 1 + 1))) (m + 6) (882 + (4 * (B 401)) + 1) (nI v3)) m 7 (nI (n + 2 + 1))) (m + 6) (882 + (4 * (B 401)) + 2) (nI v5)) m 7 (nI (n + 3 + 1))) (m + 6) (882 + (4 * (B 401)) + 3) (nI (vl s (n + 3)))) (m + 6) 881 (nI (B 401 + 1))) m (stB (stB (stB (stB (stB B (402 + 4 * B 401) (1)) (402 + 4 * B 401 + 1) (v3)) (402 + 4 * B 401 + 2) (v5)) (402 + 4 * B 401 + 3) ((vl s (n + 3)))) (401) ((B 401 + 1))) := by have h9 := hB_8.st (j := 401) (v := (B 401 + 1)) (by omega); rwa [show 480 + (401) = 881 by omega] at h9
            have hn_9 := hn_8
            have hpx : pRule s n B M 1 = .inr (n + 4, (stB (stB (stB (stB (stB B (402 + 4 * B 401) (1)) (402 + 4 * B 401 + 1) (v3)) (402 + 4 * B 401 + 2) (v5)) (402 + 4 * B 401 + 3) ((vl s (n + 3)))) (401) ((B 401 + 1))), M) := by unfold pRule; exact (if_neg (by omega)).trans ((bnd_r p3).trans ((bnd_r p5).trans ((if_neg (by omega)).trans (bnd_r p7))))
            exact w_vret hX hE dX9_readBind_121 (Or.inl rfl) (MX_r hpx hs_9 hS_9 hB_9 hN_9)
          · rw [e7, m7]
            have hF_7 := hS_6.bad (pNb_l hT.2.2.2 p7)
            have t7 : same (SA2 m) (sI (sI (sI (sI (sI (sI μ (m + 6) (882 + (4 * (B 401))) (nI 1)) m 7 (nI (n + 1))) m 7 (nI (n + 1 + 1))) (m + 6) (882 + (4 * (B 401)) + 1) (nI v3)) m 7 (nI (n + 2 + 1))) (m + 6) (882 + (4 * (B 401)) + 2) (nI v5)) (sI (sI (sI (sI (sI (sI (sI μ (m + 6) (882 + (4 * (B 401))) (nI 1)) m 7 (nI (n + 1))) m 7 (nI (n + 1 + 1))) (m + 6) (882 + (4 * (B 401)) + 1) (nI v3)) m 7 (nI (n + 2 + 1))) (m + 6) (882 + (4 * (B 401)) + 2) (nI v5)) m 8 (nI f7)) := same.rf.sI ⟨rfl, Or.inr rfl⟩
            have hT_7 := hT_6.sm t7 (fun o k h => by unfold SA2 at h; omega)
            obtain ⟨n9_7, hn9_7⟩ := hF_7.2.2
            have hf_7 := hF_7.2.1
            have hn_7 := (rch_le hT_7.2.2.2 _ hn9_7.1).2
            have hs_7 := hs_6.tr (t7.up (fun o k h => by unfold SA2 at h; unfold SMm; omega))
            refine w_iastN hX dX9_readBind_108 (mod_a6 hT_7.1) (by omega) (by omega) ?_
            have t10 : same (fun o2 k2 => o2 = m + 6 ∧ k2 = 882 + (4 * (B 401)) + 3) (sI (sI (sI (sI (sI (sI (sI μ (m + 6) (882 + (4 * (B 401))) (nI 1)) m 7 (nI (n + 1))) m 7 (nI (n + 1 + 1))) (m + 6) (882 + (4 * (B 401)) + 1) (nI v3)) m 7 (nI (n + 2 + 1))) (m + 6) (882 + (4 * (B 401)) + 2) (nI v5)) m 8 (nI f7)) (sI (sI (sI (sI (sI (sI (sI (sI μ (m + 6) (882 + (4 * (B 401))) (nI 1)) m 7 (nI (n + 1))) m 7 (nI (n + 1 + 1))) (m + 6) (882 + (4 * (B 401)) + 1) (nI v3)) m 7 (nI (n + 2 + 1))) (m + 6) (882 + (4 * (B 401)) + 2) (nI v5)) m 8 (nI f7)) (m + 6) (882 + (4 * (B 401)) + 3) (nI 0)) := same.rf.sI ⟨rfl, rfl⟩
            have hT_10 := hT_7.sm t10 (fun o k h => by omega)
            have hs_10 := hs_7.tr (t10.up (fun o k h => by unfold SMm; omega))
            have hF_10 := hF_7.sm t10 (fun h => by omega) (fun h => by omega)
            have hf_10 := hf_7
            obtain ⟨n9_10, hn9_10⟩ := hF_10.2.2
            have hn_10 := (rch_le hT.2.2.2 _ hn9_10.1).2
            refine w_aload_n (i := 0) hX dX9_readBind_109 rfl rfl ?_
            refine w_getR (q := m + 6) hX dX9_readBind_110 fo_RX9_73 rfl (mod_s hT_10.1) (mod_r10 hT_10.1) ?_
            refine w_sipush hX dX9_readBind_113 kS_881 ?_
            refine w_dup2 hX dX9_readBind_116 rfl rfl ?_
            refine w_ialdN hX dX9_readBind_117 (mod_a6 hT_10.1) (by omega) (by omega) ?_
            refine w_top (y := gI (sI (sI (sI (sI (sI (sI (sI (sI μ (m + 6) (882 + (4 * (B 401))) (nI 1)) m 7 (nI (n + 1))) m 7 (nI (n + 1 + 1))) (m + 6) (882 + (4 * (B 401)) + 1) (nI v3)) m 7 (nI (n + 2 + 1))) (m + 6) (882 + (4 * (B 401)) + 2) (nI v5)) m 8 (nI f7)) (m + 6) (882 + (4 * (B 401)) + 3) (nI 0)) (m + 6) 881) rfl ?_
            refine w_iconst hX dX9_readBind_118 kI_1 ?_
            refine w_iadd hX dX9_readBind_119 ?_
            refine w_iastN hX dX9_readBind_120 (mod_a6 hT_10.1) (by omega) (by omega) ?_
            have t11 : same (fun o2 k2 => o2 = m + 6 ∧ k2 = 881) (sI (sI (sI (sI (sI (sI (sI (sI μ (m + 6) (882 + (4 * (B 401))) (nI 1)) m 7 (nI (n + 1))) m 7 (nI (n + 1 + 1))) (m + 6) (882 + (4 * (B 401)) + 1) (nI v3)) m 7 (nI (n + 2 + 1))) (m + 6) (882 + (4 * (B 401)) + 2) (nI v5)) m 8 (nI f7)) (m + 6) (882 + (4 * (B 401)) + 3) (nI 0)) (sI (sI (sI (sI (sI (sI (sI (sI (sI μ (m + 6) (882 + (4 * (B 401))) (nI 1)) m 7 (nI (n + 1))) m 7 (nI (n + 1 + 1))) (m + 6) (882 + (4 * (B 401)) + 1) (nI v3)) m 7 (nI (n + 2 + 1))) (m + 6) (882 + (4 * (B 401)) + 2) (nI v5)) m 8 (nI f7)) (m + 6) (882 + (4 * (B 401)) + 3) (nI 0)) (m + 6) 881 ((gI (sI (sI (sI (sI (sI (sI (sI (sI μ (m + 6) (882 + (4 * (B 401))) (nI 1)) m 7 (nI (n + 1))) m 7 (nI (n + 1 + 1))) (m + 6) (882 + (4 * (B 401)) + 1) (nI v3)) m 7 (nI (n + 2 + 1))) (m + 6) (882 + (4 * (B 401)) + 2) (nI v5)) m 8 (nI f7)) (m + 6) (882 + (4 * (B 401)) + 3) (nI 0)) (m + 6) 881) + (nI 1))) := same.rf.sI ⟨rfl, rfl⟩
            have hT_11 := hT_10.sm t11 (fun o k h => by omega)
            have hs_11 := hs_10.tr (t11.up (fun o k h => by unfold SMm; omega))
            have hF_11 := hF_10.sm t11 (fun h => by omega) (fun h => by omega)
            have hf_11 := hf_10
            obtain ⟨n9_11, hn9_11⟩ := hF_11.2.2
            have hn_11 := (rch_le hT.2.2.2 _ hn9_11.1).2
            have hpx : pRule s n B M 1 = .inl f7 := by unfold pRule; exact (if_neg (by omega)).trans ((bnd_r p3).trans ((bnd_r p5).trans ((if_neg (by omega)).trans (bnd_l p7))))
            exact w_vret hX hE dX9_readBind_121 (Or.inl rfl) (MX_l hpx hs_11 hF_11)
        · rw [m5]
          have hF_5 := hS_4.bad (pNm_l hT.2.2.2 p5)
          have t5 : same (SA2 m) (sI (sI (sI (sI μ (m + 6) (882 + (4 * (B 401))) (nI 1)) m 7 (nI (n + 1))) m 7 (nI (n + 1 + 1))) (m + 6) (882 + (4 * (B 401)) + 1) (nI v3)) (sI (sI (sI (sI (sI μ (m + 6) (882 + (4 * (B 401))) (nI 1)) m 7 (nI (n + 1))) m 7 (nI (n + 1 + 1))) (m + 6) (882 + (4 * (B 401)) + 1) (nI v3)) m 8 (nI f5)) := same.rf.sI ⟨rfl, Or.inr rfl⟩
          have hT_5 := hT_4.sm t5 (fun o k h => by unfold SA2 at h; omega)
          obtain ⟨n9_5, hn9_5⟩ := hF_5.2.2
          have hf_5 := hF_5.2.1
          have hn_5 := (rch_le hT_5.2.2.2 _ hn9_5.1).2
          have hs_5 := hs_4.tr (t5.up (fun o k h => by unfold SA2 at h; unfold SMm; omega))
          refine w_iastN hX dX9_readBind_92 (mod_a6 hT_5.1) (by omega) (by omega) ?_
          have t12 : same (fun o2 k2 => o2 = m + 6 ∧ k2 = 882 + (4 * (B 401)) + 2) (sI (sI (sI (sI (sI μ (m + 6) (882 + (4 * (B 401))) (nI 1)) m 7 (nI (n + 1))) m 7 (nI (n + 1 + 1))) (m + 6) (882 + (4 * (B 401)) + 1) (nI v3)) m 8 (nI f5)) (sI (sI (sI (sI (sI (sI μ (m + 6) (882 + (4 * (B 401))) (nI 1)) m 7 (nI (n + 1))) m 7 (nI (n + 1 + 1))) (m + 6) (882 + (4 * (B 401)) + 1) (nI v3)) m 8 (nI f5)) (m + 6) (882 + (4 * (B 401)) + 2) r5) := same.rf.sI ⟨rfl, rfl⟩
          have hT_12 := hT_5.sm t12 (fun o k h => by omega)
          have hs_12 := hs_5.tr (t12.up (fun o k h => by unfold SMm; omega))
          have hF_12 := hF_5.sm t12 (fun h => by omega) (fun h => by omega)
          have hf_12 := hf_5
          obtain ⟨n9_12, hn9_12⟩ := hF_12.2.2
          have hn_12 := (rch_le hT.2.2.2 _ hn9_12.1).2
          refine w_aload_n (i := 0) hX dX9_readBind_93 rfl rfl ?_
          refine w_getR (q := m + 6) hX dX9_readBind_94 fo_RX9_73 rfl (mod_s hT_12.1) (mod_r10 hT_12.1) ?_
          refine w_iload_n (i := 2) hX dX9_readBind_97 rfl rfl ?_
          refine w_iconst hX dX9_readBind_98 kI_3 ?_
          refine w_iaddN hX dX9_readBind_99 ?_
          refine w_aload_n (i := 0) hX dX9_readBind_100 rfl rfl ?_
          refine w_iconst hX dX9_readBind_101 kI_0 ?_
          refine w_sipush hX dX9_readBind_102 kS_9999 ?_
          refine w_callVI (As := [.int (nI 0), .int (nI 9999)]) (rest := [.int (nI (882 + (4 * (B 401)) + 3)), .ref (m + 6)]) (ci := 9) (o := m) (k2 := 0) (n2 := 0) hX dX9_readBind_105 (s_m_takeNf Γ (sI (sI (sI (sI (sI (sI μ (m + 6) (882 + (4 * (B 401))) (nI 1)) m 7 (nI (n + 1))) m 7 (nI (n + 1 + 1))) (m + 6) (882 + (4 * (B 401)) + 1) (nI v3)) m 8 (nI f5)) (m + 6) (882 + (4 * (B 401)) + 2) r5) m s hT_12 f5 hF_12 (nI 0) 9999) okX9_takeNumber (ltb rfl) (mod_s hT_12.1) ml_RX9_173 imX9_takeNumber seX9_takeNumber rfl (leb rfl) (leb rfl) rfl rfl (fun r9 μ9 hq9 => ?_)
          obtain ⟨hr9, hm9⟩ := hq9; rw [hr9, hm9]; clear hr9 hm9 r9 μ9
          refine w_iastN hX dX9_readBind_108 (mod_a6 hT_12.1) (by omega) (by omega) ?_
          have t14 : same (fun o2 k2 => o2 = m + 6 ∧ k2 = 882 + (4 * (B 401)) + 3) (sI (sI (sI (sI (sI (sI μ (m + 6) (882 + (4 * (B 401))) (nI 1)) m 7 (nI (n + 1))) m 7 (nI (n + 1 + 1))) (m + 6) (882 + (4 * (B 401)) + 1) (nI v3)) m 8 (nI f5)) (m + 6) (882 + (4 * (B 401)) + 2) r5) (sI (sI (sI (sI (sI (sI (sI μ (m + 6) (882 + (4 * (B 401))) (nI 1)) m 7 (nI (n + 1))) m 7 (nI (n + 1 + 1))) (m + 6) (882 + (4 * (B 401)) + 1) (nI v3)) m 8 (nI f5)) (m + 6) (882 + (4 * (B 401)) + 2) r5) (m + 6) (882 + (4 * (B 401)) + 3) (nI 0)) := same.rf.sI ⟨rfl, rfl⟩
          have hT_14 := hT_12.sm t14 (fun o k h => by omega)
          have hs_14 := hs_12.tr (t14.up (fun o k h => by unfold SMm; omega))
          have hF_14 := hF_12.sm t14 (fun h => by omega) (fun h => by omega)
          have hf_14 := hf_12
          obtain ⟨n9_14, hn9_14⟩ := hF_14.2.2
          have hn_14 := (rch_le hT.2.2.2 _ hn9_14.1).2
          refine w_aload_n (i := 0) hX dX9_readBind_109 rfl rfl ?_
          refine w_getR (q := m + 6) hX dX9_readBind_110 fo_RX9_73 rfl (mod_s hT_14.1) (mod_r10 hT_14.1) ?_
          refine w_sipush hX dX9_readBind_113 kS_881 ?_
          refine w_dup2 hX dX9_readBind_116 rfl rfl ?_
          refine w_ialdN hX dX9_readBind_117 (mod_a6 hT_14.1) (by omega) (by omega) ?_
          refine w_top (y := gI (sI (sI (sI (sI (sI (sI (sI μ (m + 6) (882 + (4 * (B 401))) (nI 1)) m 7 (nI (n + 1))) m 7 (nI (n + 1 + 1))) (m + 6) (882 + (4 * (B 401)) + 1) (nI v3)) m 8 (nI f5)) (m + 6) (882 + (4 * (B 401)) + 2) r5) (m + 6) (882 + (4 * (B 401)) + 3) (nI 0)) (m + 6) 881) rfl ?_
          refine w_iconst hX dX9_readBind_118 kI_1 ?_
          refine w_iadd hX dX9_readBind_119 ?_
          refine w_iastN hX dX9_readBind_120 (mod_a6 hT_14.1) (by omega) (by omega) ?_
          have t15 : same (fun o2 k2 => o2 = m + 6 ∧ k2 = 881) (sI (sI (sI (sI (sI (sI (sI μ (m + 6) (882 + (4 * (B 401))) (nI 1)) m 7 (nI (n + 1))) m 7 (nI (n + 1 + 1))) (m + 6) (882 + (4 * (B 401)) + 1) (nI v3)) m 8 (nI f5)) (m + 6) (882 + (4 * (B 401)) + 2) r5) (m + 6) (882 + (4 * (B 401)) + 3) (nI 0)) (sI (sI (sI (sI (sI (sI (sI (sI μ (m + 6) (882 + (4 * (B 401))) (nI 1)) m 7 (nI (n + 1))) m 7 (nI (n + 1 + 1))) (m + 6) (882 + (4 * (B 401)) + 1) (nI v3)) m 8 (nI f5)) (m + 6) (882 + (4 * (B 401)) + 2) r5) (m + 6) (882 + (4 * (B 401)) + 3) (nI 0)) (m + 6) 881 ((gI (sI (sI (sI (sI (sI (sI (sI μ (m + 6) (882 + (4 * (B 401))) (nI 1)) m 7 (nI (n + 1))) m 7 (nI (n + 1 + 1))) (m + 6) (882 + (4 * (B 401)) + 1) (nI v3)) m 8 (nI f5)) (m + 6) (882 + (4 * (B 401)) + 2) r5) (m + 6) (882 + (4 * (B 401)) + 3) (nI 0)) (m + 6) 881) + (nI 1))) := same.rf.sI ⟨rfl, rfl⟩
          have hT_15 := hT_14.sm t15 (fun o k h => by omega)
          have hs_15 := hs_14.tr (t15.up (fun o k h => by unfold SMm; omega))
          have hF_15 := hF_14.sm t15 (fun h => by omega) (fun h => by omega)
          have hf_15 := hf_14
          obtain ⟨n9_15, hn9_15⟩ := hF_15.2.2
          have hn_15 := (rch_le hT.2.2.2 _ hn9_15.1).2
          have hpx : pRule s n B M 1 = .inl f5 := by unfold pRule; exact (if_neg (by omega)).trans ((bnd_r p3).trans (bnd_l p5))
          exact w_vret hX hE dX9_readBind_121 (Or.inl rfl) (MX_l hpx hs_15 hF_15)
        · subst ef5; rw [m5]
          have hF_5 := hS_4.bad (ft_lt (w := 3) (n := n + 2) hT.2.2.2 (by omega) (by omega))
          have t5 : same (SA2 m) (sI (sI (sI (sI μ (m + 6) (882 + (4 * (B 401))) (nI 1)) m 7 (nI (n + 1))) m 7 (nI (n + 1 + 1))) (m + 6) (882 + (4 * (B 401)) + 1) (nI v3)) (sI (sI (sI (sI (sI μ (m + 6) (882 + (4 * (B 401))) (nI 1)) m 7 (nI (n + 1))) m 7 (nI (n + 1 + 1))) (m + 6) (882 + (4 * (B 401)) + 1) (nI v3)) m 8 (nI (ft s 3 (n + 2)))) := same.rf.sI ⟨rfl, Or.inr rfl⟩
          have hT_5 := hT_4.sm t5 (fun o k h => by unfold SA2 at h; omega)
          obtain ⟨n9_5, hn9_5⟩ := hF_5.2.2
          have hf_5 := hF_5.2.1
          have hn_5 := (rch_le hT_5.2.2.2 _ hn9_5.1).2
          have hs_5 := hs_4.tr (t5.up (fun o k h => by unfold SA2 at h; unfold SMm; omega))
          refine w_iastN hX dX9_readBind_92 (mod_a6 hT_5.1) (by omega) (by omega) ?_
          have t16 : same (fun o2 k2 => o2 = m + 6 ∧ k2 = 882 + (4 * (B 401)) + 2) (sI (sI (sI (sI (sI μ (m + 6) (882 + (4 * (B 401))) (nI 1)) m 7 (nI (n + 1))) m 7 (nI (n + 1 + 1))) (m + 6) (882 + (4 * (B 401)) + 1) (nI v3)) m 8 (nI (ft s 3 (n + 2)))) (sI (sI (sI (sI (sI (sI μ (m + 6) (882 + (4 * (B 401))) (nI 1)) m 7 (nI (n + 1))) m 7 (nI (n + 1 + 1))) (m + 6) (882 + (4 * (B 401)) + 1) (nI v3)) m 8 (nI (ft s 3 (n + 2)))) (m + 6) (882 + (4 * (B 401)) + 2) r5) := same.rf.sI ⟨rfl, rfl⟩
          have hT_16 := hT_5.sm t16 (fun o k h => by omega)
          have hs_16 := hs_5.tr (t16.up (fun o k h => by unfold SMm; omega))
          have hF_16 := hF_5.sm t16 (fun h => by omega) (fun h => by omega)
          have hf_16 := hf_5
          obtain ⟨n9_16, hn9_16⟩ := hF_16.2.2
          have hn_16 := (rch_le hT.2.2.2 _ hn9_16.1).2
          refine w_aload_n (i := 0) hX dX9_readBind_93 rfl rfl ?_
          refine w_getR (q := m + 6) hX dX9_readBind_94 fo_RX9_73 rfl (mod_s hT_16.1) (mod_r10 hT_16.1) ?_
          refine w_iload_n (i := 2) hX dX9_readBind_97 rfl rfl ?_
          refine w_iconst hX dX9_readBind_98 kI_3 ?_
          refine w_iaddN hX dX9_readBind_99 ?_
          refine w_aload_n (i := 0) hX dX9_readBind_100 rfl rfl ?_
          refine w_iconst hX dX9_readBind_101 kI_0 ?_
          refine w_sipush hX dX9_readBind_102 kS_9999 ?_
          refine w_callVI (As := [.int (nI 0), .int (nI 9999)]) (rest := [.int (nI (882 + (4 * (B 401)) + 3)), .ref (m + 6)]) (ci := 9) (o := m) (k2 := 0) (n2 := 0) hX dX9_readBind_105 (s_m_takeNf Γ (sI (sI (sI (sI (sI (sI μ (m + 6) (882 + (4 * (B 401))) (nI 1)) m 7 (nI (n + 1))) m 7 (nI (n + 1 + 1))) (m + 6) (882 + (4 * (B 401)) + 1) (nI v3)) m 8 (nI (ft s 3 (n + 2)))) (m + 6) (882 + (4 * (B 401)) + 2) r5) m s hT_16 (ft s 3 (n + 2)) hF_16 (nI 0) 9999) okX9_takeNumber (ltb rfl) (mod_s hT_16.1) ml_RX9_173 imX9_takeNumber seX9_takeNumber rfl (leb rfl) (leb rfl) rfl rfl (fun r9 μ9 hq9 => ?_)
          obtain ⟨hr9, hm9⟩ := hq9; rw [hr9, hm9]; clear hr9 hm9 r9 μ9
          refine w_iastN hX dX9_readBind_108 (mod_a6 hT_16.1) (by omega) (by omega) ?_
          have t18 : same (fun o2 k2 => o2 = m + 6 ∧ k2 = 882 + (4 * (B 401)) + 3) (sI (sI (sI (sI (sI (sI μ (m + 6) (882 + (4 * (B 401))) (nI 1)) m 7 (nI (n + 1))) m 7 (nI (n + 1 + 1))) (m + 6) (882 + (4 * (B 401)) + 1) (nI v3)) m 8 (nI (ft s 3 (n + 2)))) (m + 6) (882 + (4 * (B 401)) + 2) r5) (sI (sI (sI (sI (sI (sI (sI μ (m + 6) (882 + (4 * (B 401))) (nI 1)) m 7 (nI (n + 1))) m 7 (nI (n + 1 + 1))) (m + 6) (882 + (4 * (B 401)) + 1) (nI v3)) m 8 (nI (ft s 3 (n + 2)))) (m + 6) (882 + (4 * (B 401)) + 2) r5) (m + 6) (882 + (4 * (B 401)) + 3) (nI 0)) := same.rf.sI ⟨rfl, rfl⟩
          have hT_18 := hT_16.sm t18 (fun o k h => by omega)
          have hs_18 := hs_16.tr (t18.up (fun o k h => by unfold SMm; omega))
          have hF_18 := hF_16.sm t18 (fun h => by omega) (fun h => by omega)
          have hf_18 := hf_16
          obtain ⟨n9_18, hn9_18⟩ := hF_18.2.2
          have hn_18 := (rch_le hT.2.2.2 _ hn9_18.1).2
          refine w_aload_n (i := 0) hX dX9_readBind_109 rfl rfl ?_
          refine w_getR (q := m + 6) hX dX9_readBind_110 fo_RX9_73 rfl (mod_s hT_18.1) (mod_r10 hT_18.1) ?_
          refine w_sipush hX dX9_readBind_113 kS_881 ?_
          refine w_dup2 hX dX9_readBind_116 rfl rfl ?_
          refine w_ialdN hX dX9_readBind_117 (mod_a6 hT_18.1) (by omega) (by omega) ?_
          refine w_top (y := gI (sI (sI (sI (sI (sI (sI (sI μ (m + 6) (882 + (4 * (B 401))) (nI 1)) m 7 (nI (n + 1))) m 7 (nI (n + 1 + 1))) (m + 6) (882 + (4 * (B 401)) + 1) (nI v3)) m 8 (nI (ft s 3 (n + 2)))) (m + 6) (882 + (4 * (B 401)) + 2) r5) (m + 6) (882 + (4 * (B 401)) + 3) (nI 0)) (m + 6) 881) rfl ?_
          refine w_iconst hX dX9_readBind_118 kI_1 ?_
          refine w_iadd hX dX9_readBind_119 ?_
          refine w_iastN hX dX9_readBind_120 (mod_a6 hT_18.1) (by omega) (by omega) ?_
          have t19 : same (fun o2 k2 => o2 = m + 6 ∧ k2 = 881) (sI (sI (sI (sI (sI (sI (sI μ (m + 6) (882 + (4 * (B 401))) (nI 1)) m 7 (nI (n + 1))) m 7 (nI (n + 1 + 1))) (m + 6) (882 + (4 * (B 401)) + 1) (nI v3)) m 8 (nI (ft s 3 (n + 2)))) (m + 6) (882 + (4 * (B 401)) + 2) r5) (m + 6) (882 + (4 * (B 401)) + 3) (nI 0)) (sI (sI (sI (sI (sI (sI (sI (sI μ (m + 6) (882 + (4 * (B 401))) (nI 1)) m 7 (nI (n + 1))) m 7 (nI (n + 1 + 1))) (m + 6) (882 + (4 * (B 401)) + 1) (nI v3)) m 8 (nI (ft s 3 (n + 2)))) (m + 6) (882 + (4 * (B 401)) + 2) r5) (m + 6) (882 + (4 * (B 401)) + 3) (nI 0)) (m + 6) 881 ((gI (sI (sI (sI (sI (sI (sI (sI μ (m + 6) (882 + (4 * (B 401))) (nI 1)) m 7 (nI (n + 1))) m 7 (nI (n + 1 + 1))) (m + 6) (882 + (4 * (B 401)) + 1) (nI v3)) m 8 (nI (ft s 3 (n + 2)))) (m + 6) (882 + (4 * (B 401)) + 2) r5) (m + 6) (882 + (4 * (B 401)) + 3) (nI 0)) (m + 6) 881) + (nI 1))) := same.rf.sI ⟨rfl, rfl⟩
          have hT_19 := hT_18.sm t19 (fun o k h => by omega)
          have hs_19 := hs_18.tr (t19.up (fun o k h => by unfold SMm; omega))
          have hF_19 := hF_18.sm t19 (fun h => by omega) (fun h => by omega)
          have hf_19 := hf_18
          obtain ⟨n9_19, hn9_19⟩ := hF_19.2.2
          have hn_19 := (rch_le hT.2.2.2 _ hn9_19.1).2
          have hpx : pRule s n B M 1 = .inl (ft s 3 (n + 2)) := by unfold pRule; exact (if_neg (by omega)).trans ((bnd_r p3).trans ((bnd_r p5).trans (if_pos rfl)))
          exact w_vret hX hE dX9_readBind_121 (Or.inl rfl) (MX_l hpx hs_19 hF_19)
      · rw [e3, m3]
        have hF_3 := hS_2.bad (pNm_l hT.2.2.2 p3)
        have t3 : same (SA2 m) (sI (sI μ (m + 6) (882 + (4 * (B 401))) (nI 1)) m 7 (nI (n + 1))) (sI (sI (sI μ (m + 6) (882 + (4 * (B 401))) (nI 1)) m 7 (nI (n + 1))) m 8 (nI f3)) := same.rf.sI ⟨rfl, Or.inr rfl⟩
        have hT_3 := hT_2.sm t3 (fun o k h => by unfold SA2 at h; omega)
        obtain ⟨n9_3, hn9_3⟩ := hF_3.2.2
        have hf_3 := hF_3.2.1
        have hn_3 := (rch_le hT_3.2.2.2 _ hn9_3.1).2
        have hs_3 := hs_2.tr (t3.up (fun o k h => by unfold SA2 at h; unfold SMm; omega))
        refine w_iastN hX dX9_readBind_71 (mod_a6 hT_3.1) (by omega) (by omega) ?_
        have t20 : same (fun o2 k2 => o2 = m + 6 ∧ k2 = 882 + (4 * (B 401)) + 1) (sI (sI (sI μ (m + 6) (882 + (4 * (B 401))) (nI 1)) m 7 (nI (n + 1))) m 8 (nI f3)) (sI (sI (sI (sI μ (m + 6) (882 + (4 * (B 401))) (nI 1)) m 7 (nI (n + 1))) m 8 (nI f3)) (m + 6) (882 + (4 * (B 401)) + 1) ((-1 : Int32))) := same.rf.sI ⟨rfl, rfl⟩
        have hT_20 := hT_3.sm t20 (fun o k h => by omega)
        have hs_20 := hs_3.tr (t20.up (fun o k h => by unfold SMm; omega))
        have hF_20 := hF_3.sm t20 (fun h => by omega) (fun h => by omega)
        have hf_20 := hf_3
        obtain ⟨n9_20, hn9_20⟩ := hF_20.2.2
        have hn_20 := (rch_le hT.2.2.2 _ hn9_20.1).2
        refine w_aload_n (i := 0) hX dX9_readBind_72 rfl rfl ?_
        refine w_getR (q := m + 6) hX dX9_readBind_73 fo_RX9_73 rfl (mod_s hT_20.1) (mod_r10 hT_20.1) ?_
        refine w_iload_n (i := 2) hX dX9_readBind_76 rfl rfl ?_
        refine w_iconst hX dX9_readBind_77 kI_2 ?_
        refine w_iaddN hX dX9_readBind_78 ?_
        refine w_aload_n (i := 0) hX dX9_readBind_79 rfl rfl ?_
        refine w_iconst hX dX9_readBind_80 kI_3 ?_
        refine w_aload_n (i := 0) hX dX9_readBind_81 rfl rfl ?_
        refine w_getR (q := m + 6) hX dX9_readBind_82 fo_RX9_73 rfl (mod_s hT_20.1) (mod_r10 hT_20.1) ?_
        refine w_iload_n (i := 2) hX dX9_readBind_85 rfl rfl ?_
        refine w_iconst hX dX9_readBind_86 kI_1 ?_
        refine w_iaddN hX dX9_readBind_87 ?_
        refine w_ialdN hX dX9_readBind_88 (mod_a6 hT_20.1) (by omega) (by omega) ?_
        refine w_top (y := (-1 : Int32)) gI_same ?_
        refine w_callVI (As := [.int (nI 3), .int ((-1 : Int32))]) (rest := [.int (nI (882 + (4 * (B 401)) + 2)), .ref (m + 6)]) (ci := 9) (o := m) (k2 := 0) (n2 := 0) hX dX9_readBind_89 (s_m_otherf Γ (sI (sI (sI (sI μ (m + 6) (882 + (4 * (B 401))) (nI 1)) m 7 (nI (n + 1))) m 8 (nI f3)) (m + 6) (882 + (4 * (B 401)) + 1) ((-1 : Int32))) m s hT_20 f3 hF_20 3 ((-1 : Int32))) okX9_takeOther (ltb rfl) (mod_s hT_20.1) ml_RX9_233 imX9_takeOther seX9_takeOther rfl (leb rfl) (leb rfl) rfl rfl (fun r9 μ9 hq9 => ?_)
        obtain ⟨hr9, hm9⟩ := hq9; rw [hr9, hm9]; clear hr9 hm9 r9 μ9
        refine w_iastN hX dX9_readBind_92 (mod_a6 hT_20.1) (by omega) (by omega) ?_
        have t22 : same (fun o2 k2 => o2 = m + 6 ∧ k2 = 882 + (4 * (B 401)) + 2) (sI (sI (sI (sI μ (m + 6) (882 + (4 * (B 401))) (nI 1)) m 7 (nI (n + 1))) m 8 (nI f3)) (m + 6) (882 + (4 * (B 401)) + 1) ((-1 : Int32))) (sI (sI (sI (sI (sI μ (m + 6) (882 + (4 * (B 401))) (nI 1)) m 7 (nI (n + 1))) m 8 (nI f3)) (m + 6) (882 + (4 * (B 401)) + 1) ((-1 : Int32))) (m + 6) (882 + (4 * (B 401)) + 2) ((-1 : Int32))) := same.rf.sI ⟨rfl, rfl⟩
        have hT_22 := hT_20.sm t22 (fun o k h => by omega)
        have hs_22 := hs_20.tr (t22.up (fun o k h => by unfold SMm; omega))
        have hF_22 := hF_20.sm t22 (fun h => by omega) (fun h => by omega)
        have hf_22 := hf_20
        obtain ⟨n9_22, hn9_22⟩ := hF_22.2.2
        have hn_22 := (rch_le hT.2.2.2 _ hn9_22.1).2
        refine w_aload_n (i := 0) hX dX9_readBind_93 rfl rfl ?_
        refine w_getR (q := m + 6) hX dX9_readBind_94 fo_RX9_73 rfl (mod_s hT_22.1) (mod_r10 hT_22.1) ?_
        refine w_iload_n (i := 2) hX dX9_readBind_97 rfl rfl ?_
        refine w_iconst hX dX9_readBind_98 kI_3 ?_
        refine w_iaddN hX dX9_readBind_99 ?_
        refine w_aload_n (i := 0) hX dX9_readBind_100 rfl rfl ?_
        refine w_iconst hX dX9_readBind_101 kI_0 ?_
        refine w_sipush hX dX9_readBind_102 kS_9999 ?_
        refine w_callVI (As := [.int (nI 0), .int (nI 9999)]) (rest := [.int (nI (882 + (4 * (B 401)) + 3)), .ref (m + 6)]) (ci := 9) (o := m) (k2 := 0) (n2 := 0) hX dX9_readBind_105 (s_m_takeNf Γ (sI (sI (sI (sI (sI μ (m + 6) (882 + (4 * (B 401))) (nI 1)) m 7 (nI (n + 1))) m 8 (nI f3)) (m + 6) (882 + (4 * (B 401)) + 1) ((-1 : Int32))) (m + 6) (882 + (4 * (B 401)) + 2) ((-1 : Int32))) m s hT_22 f3 hF_22 (nI 0) 9999) okX9_takeNumber (ltb rfl) (mod_s hT_22.1) ml_RX9_173 imX9_takeNumber seX9_takeNumber rfl (leb rfl) (leb rfl) rfl rfl (fun r9 μ9 hq9 => ?_)
        obtain ⟨hr9, hm9⟩ := hq9; rw [hr9, hm9]; clear hr9 hm9 r9 μ9
        refine w_iastN hX dX9_readBind_108 (mod_a6 hT_22.1) (by omega) (by omega) ?_
        have t24 : same (fun o2 k2 => o2 = m + 6 ∧ k2 = 882 + (4 * (B 401)) + 3) (sI (sI (sI (sI (sI μ (m + 6) (882 + (4 * (B 401))) (nI 1)) m 7 (nI (n + 1))) m 8 (nI f3)) (m + 6) (882 + (4 * (B 401)) + 1) ((-1 : Int32))) (m + 6) (882 + (4 * (B 401)) + 2) ((-1 : Int32))) (sI (sI (sI (sI (sI (sI μ (m + 6) (882 + (4 * (B 401))) (nI 1)) m 7 (nI (n + 1))) m 8 (nI f3)) (m + 6) (882 + (4 * (B 401)) + 1) ((-1 : Int32))) (m + 6) (882 + (4 * (B 401)) + 2) ((-1 : Int32))) (m + 6) (882 + (4 * (B 401)) + 3) (nI 0)) := same.rf.sI ⟨rfl, rfl⟩
        have hT_24 := hT_22.sm t24 (fun o k h => by omega)
        have hs_24 := hs_22.tr (t24.up (fun o k h => by unfold SMm; omega))
        have hF_24 := hF_22.sm t24 (fun h => by omega) (fun h => by omega)
        have hf_24 := hf_22
        obtain ⟨n9_24, hn9_24⟩ := hF_24.2.2
        have hn_24 := (rch_le hT.2.2.2 _ hn9_24.1).2
        refine w_aload_n (i := 0) hX dX9_readBind_109 rfl rfl ?_
        refine w_getR (q := m + 6) hX dX9_readBind_110 fo_RX9_73 rfl (mod_s hT_24.1) (mod_r10 hT_24.1) ?_
        refine w_sipush hX dX9_readBind_113 kS_881 ?_
        refine w_dup2 hX dX9_readBind_116 rfl rfl ?_
        refine w_ialdN hX dX9_readBind_117 (mod_a6 hT_24.1) (by omega) (by omega) ?_
        refine w_top (y := gI (sI (sI (sI (sI (sI (sI μ (m + 6) (882 + (4 * (B 401))) (nI 1)) m 7 (nI (n + 1))) m 8 (nI f3)) (m + 6) (882 + (4 * (B 401)) + 1) ((-1 : Int32))) (m + 6) (882 + (4 * (B 401)) + 2) ((-1 : Int32))) (m + 6) (882 + (4 * (B 401)) + 3) (nI 0)) (m + 6) 881) rfl ?_
        refine w_iconst hX dX9_readBind_118 kI_1 ?_
        refine w_iadd hX dX9_readBind_119 ?_
        refine w_iastN hX dX9_readBind_120 (mod_a6 hT_24.1) (by omega) (by omega) ?_
        have t25 : same (fun o2 k2 => o2 = m + 6 ∧ k2 = 881) (sI (sI (sI (sI (sI (sI μ (m + 6) (882 + (4 * (B 401))) (nI 1)) m 7 (nI (n + 1))) m 8 (nI f3)) (m + 6) (882 + (4 * (B 401)) + 1) ((-1 : Int32))) (m + 6) (882 + (4 * (B 401)) + 2) ((-1 : Int32))) (m + 6) (882 + (4 * (B 401)) + 3) (nI 0)) (sI (sI (sI (sI (sI (sI (sI μ (m + 6) (882 + (4 * (B 401))) (nI 1)) m 7 (nI (n + 1))) m 8 (nI f3)) (m + 6) (882 + (4 * (B 401)) + 1) ((-1 : Int32))) (m + 6) (882 + (4 * (B 401)) + 2) ((-1 : Int32))) (m + 6) (882 + (4 * (B 401)) + 3) (nI 0)) (m + 6) 881 ((gI (sI (sI (sI (sI (sI (sI μ (m + 6) (882 + (4 * (B 401))) (nI 1)) m 7 (nI (n + 1))) m 8 (nI f3)) (m + 6) (882 + (4 * (B 401)) + 1) ((-1 : Int32))) (m + 6) (882 + (4 * (B 401)) + 2) ((-1 : Int32))) (m + 6) (882 + (4 * (B 401)) + 3) (nI 0)) (m + 6) 881) + (nI 1))) := same.rf.sI ⟨rfl, rfl⟩
        have hT_25 := hT_24.sm t25 (fun o k h => by omega)
        have hs_25 := hs_24.tr (t25.up (fun o k h => by unfold SMm; omega))
        have hF_25 := hF_24.sm t25 (fun h => by omega) (fun h => by omega)
        have hf_25 := hf_24
        obtain ⟨n9_25, hn9_25⟩ := hF_25.2.2
        have hn_25 := (rch_le hT.2.2.2 _ hn9_25.1).2
        have hpx : pRule s n B M 1 = .inl f3 := by unfold pRule; exact (if_neg (by omega)).trans (bnd_l p3)
        exact w_vret hX hE dX9_readBind_121 (Or.inl rfl) (MX_l hpx hs_25 hF_25)
    · exact absurd ((decide_eq_false (by omega) : decide (kd s n = 5 + 16) = false).symm.trans c2) (by decide)
  · refine w_aload_n (i := 0) hX dX9_readBind_15 rfl rfl ?_
    refine w_iconst hX dX9_readBind_16 kI_5 ?_
    refine w_callVV (As := [.int (nI 5)]) (rest := []) (ci := 9) (o := m) (k2 := 0) (n2 := 0) hX dX9_readBind_17 (s_m_wrong0 Γ μ m s hT (n) hS 5) okX9_wrong (ltb rfl) (mod_s hT.1) ml_RX9_160 imX9_wrong seX9_wrong rfl (leb rfl) (leb rfl) rfl rfl (fun μ9 hq9 => ?_)
    rw [hq9]; clear hq9 μ9
    have hF_26 := hS.bad (ft_lt (w := 5) (n := n) hT.2.2.2 (by omega) (by omega))
    have t26 : same (SA2 m) μ (sI μ m 8 (nI (ft s 5 (n)))) := same.rf.sI ⟨rfl, Or.inr rfl⟩
    have hT_26 := hT.sm t26 (fun o k h => by unfold SA2 at h; omega)
    obtain ⟨n9_26, hn9_26⟩ := hF_26.2.2
    have hf_26 := hF_26.2.1
    have hn_26 := (rch_le hT_26.2.2.2 _ hn9_26.1).2
    have hs_26 := hs.tr (t26.up (fun o k h => by unfold SA2 at h; unfold SMm; omega))
    have hpx : pRule s n B M 1 = .inl (ft s 5 (n)) := by unfold pRule; exact if_pos (by omega)
    exact w_vret hX hE dX9_readBind_20 (Or.inl rfl) (MX_l hpx hs_26 hF_26)
