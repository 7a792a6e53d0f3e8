theorem or3 {A : Prop} {P Q R : Nat → Prop} (h : A ∨ ∃ f, (P f ∨ Q f) ∧ R f) : A ∨ (∃ f, P f ∧ R f) ∨ (∃ f, Q f ∧ R f) := by
  rcases h with h | ⟨f, h | h, r⟩
  · exact Or.inl h
  · exact Or.inr (Or.inl ⟨f, h, r⟩)
  · exact Or.inr (Or.inr ⟨f, h, r⟩)
set_option maxHeartbeats 1000000 in
theorem s_m_paper_s (Γ : Gm) (μ : Mem) (m : Nat) (s : Tp) (n : Nat) (B : Nat → Nat) (M : NM) (hT : MT μ m s) (hS : MSt μ m s n) (hB : MBk μ m B) (hN : MN μ m M) (hP : PIv B M) (hkn : kd s n ≠ 0)  : SpV Γ MX9_readPaper 4 0 0 [.ref m] μ (fun μ2 => MX m s (pPaper s n B M) μ μ2) := by
  refine SpV.of okX9_readPaper rfl [some (.ref m), none] ⟨rfl, trivial⟩ (leb rfl) (leb rfl) (fun X hX hE hnm => ?_)
  have hs : same (SMm m) μ μ := same.rf
  obtain ⟨hM9, hb0, hb85, hb126, hb352⟩ := M32 hP
  have hn := (rch_le hT.2.2.2 n hS.2.1).2
  have hL1 := hT.2.2.2.1
  refine w_sipush hX dX9_readPaper_0 kS_833 ?_
  refine w_iconst hX dX9_readPaper_3 kI_4 ?_
  refine w_aload_n (i := 0) hX dX9_readPaper_4 rfl rfl ?_
  refine w_sipush hX dX9_readPaper_5 kS_352 ?_
  refine w_bipush hX dX9_readPaper_8 kB_12 ?_
  refine w_iconst hX dX9_readPaper_10 kI_3 ?_
  refine w_callVI (As := [.int (nI 352), .int (nI 12), .int (nI 3)]) (rest := [.int (nI 4), .int (nI 833)]) (ci := 9) (o := m) (k2 := 0) (n2 := 0) hX dX9_readPaper_11 (s_m_new Γ μ m s hT n hS M hN hP.2.2.2.2 B hB hkn 352 12 3 (by omega) (by omega) (by omega) (by omega) (fun h => by omega)) okX9_readNew (ltb rfl) (mod_s hT.1) ml_RX9_193 imX9_readNew seX9_readNew rfl (leb rfl) (leb rfl) rfl rfl (fun r1 ν1 hq9 => ?_)
  rcases hq9 with ⟨p1, e1, hS_1, hB_1, hN_1, t1⟩ | ⟨f1, v1, p1, e1, b1, hF_1, t1⟩
  · rw [e1]
    have hT_1 := hT.sm t1 (fun o k h => by unfold SMm at h; omega)
    have hn_1 := (rch_le hT.2.2.2 _ hS_1.2.1).2
    have hs_1 := hs.tr t1
    refine w_imulN hX dX9_readPaper_14 ?_
    refine w_iaddN hX dX9_readPaper_15 ?_
    refine w_istore_n (i := 1) (l2 := [some (.ref m), some (.int (nI (833 + (4 * (B 352)))))]) hX dX9_readPaper_16 rfl (ltb rfl) rfl rfl ?_
    refine w_aload_n (i := 0) hX dX9_readPaper_17 rfl rfl ?_
    refine w_getI hX dX9_readPaper_18 fo_RX9_154 rfl (mod_s hT_1.1) ?_
    refine w_top (y := nI 0) hS_1.2.2 ?_
    refine wn_if_le (tgt := 25) hX dX9_readPaper_21 (by decide) (by omega) (fun c1 => ?_) (fun c1 => ?_)
    · have hb9 := (pNew_inr p1).1
      refine w_aload_n (i := 0) hX dX9_readPaper_25 rfl rfl ?_
      refine w_bipush hX dX9_readPaper_26 kB_13 ?_
      refine w_callVV (As := [.int (nI 13)]) (rest := []) (ci := 9) (o := m) (k2 := 0) (n2 := 0) hX dX9_readPaper_28 (s_m_takeWord0 Γ ν1 m s hT_1 (n + 2) hS_1 13 (by omega)) okX9_takeWord (ltb rfl) (mod_s hT_1.1) ml_RX9_170 imX9_takeWord seX9_takeWord rfl (leb rfl) (leb rfl) rfl rfl (fun ν2 hq9 => ?_)
      rcases hq9 with ⟨p2, m2⟩ | ⟨p2, m2⟩
      · rw [m2]
        have hS_2 : MSt (sI ν1 m 7 (nI (n + 2 + 1))) m s (n + 3) := hS_1.next (show kd s (n + 2) ≠ 0 by omega)
        have t2 : same (SA2 m) ν1 (sI ν1 m 7 (nI (n + 2 + 1))) := same.rf.sI ⟨rfl, Or.inl rfl⟩
        have hT_2 := hT_1.sm t2 (fun o k h => by unfold SA2 at h; omega)
        have hB_2 := hB_1.sm t2 (fun o k h => by unfold SA2 at h; omega)
        have hN_2 := hN_1.sm t2 (fun o k h => by unfold SA2 at h; omega)
        have hn_2 := (rch_le hT_2.2.2.2 _ hS_2.2.1).2
        have hs_2 := hs_1.tr (t2.up (fun o k h => by unfold SA2 at h; unfold SMm; omega))
        refine w_aload_n (i := 0) hX dX9_readPaper_31 rfl rfl ?_
        refine w_getR (q := m + 6) hX dX9_readPaper_32 fo_RX9_73 rfl (mod_s hT_2.1) (mod_r10 hT_2.1) ?_
        refine w_iload_n (i := 1) hX dX9_readPaper_35 rfl rfl ?_
        refine w_aload_n (i := 0) hX dX9_readPaper_36 rfl rfl ?_
        refine w_getI hX dX9_readPaper_37 fo_RX9_154 rfl (mod_s hT_2.1) ?_
        refine w_top (y := nI 0) hS_2.2.2 ?_
        refine wn_if_le (tgt := 47) hX dX9_readPaper_40 (by decide) (by omega) (fun c2 => ?_) (fun c2 => ?_)
        · refine w_aload_n (i := 0) hX dX9_readPaper_47 rfl rfl ?_
          refine w_iconst hX dX9_readPaper_48 kI_0 ?_
          refine w_callVI (As := [.int (nI 0)]) (rest := [.int (nI (833 + (4 * (B 352)))), .ref (m + 6)]) (ci := 9) (o := m) (k2 := 0) (n2 := 0) hX dX9_readPaper_49 (s_m_takeName Γ (sI ν1 m 7 (nI (n + 2 + 1))) m s hT_2 (n + 3) hS_2 ((addM M (wd s (n + 1)) 3 (B 352))) hN_2 (add_ok hP.2.2 (pNew_inr p1).2.2.1 (wd_lt (by have h9 := (pNew_inr p1).2.1; omega)) (Or.inr (Or.inr (Or.inr ⟨rfl, rfl⟩)))).2.2 0 (by omega)) okX9_takeName (ltb rfl) (mod_s hT_2.1) ml_RX9_225 imX9_takeName seX9_takeName rfl (leb rfl) (leb rfl) rfl rfl (fun r3 ν3 hq9 => ?_)
          rcases hq9 with ⟨v3, p3, e3, m3⟩ | ⟨f3, p3, e3, m3⟩
          · rw [e3, m3]
            have lt3 := told_a hP p3
            have q3 := (pNm_inr p3).1
            have hS_3 : MSt (sI (sI ν1 m 7 (nI (n + 2 + 1))) m 7 (nI (n + 3 + 1))) m s (n + 4) := hS_2.next (show kd s (n + 3) ≠ 0 by omega)
            have t3 : same (SA2 m) (sI ν1 m 7 (nI (n + 2 + 1))) (sI (sI ν1 m 7 (nI (n + 2 + 1))) m 7 (nI (n + 3 + 1))) := same.rf.sI ⟨rfl, Or.inl rfl⟩
            have hT_3 := hT_2.sm t3 (fun o k h => by unfold SA2 at h; omega)
            have hB_3 := hB_2.sm t3 (fun o k h => by unfold SA2 at h; omega)
            have hN_3 := hN_2.sm t3 (fun o k h => by unfold SA2 at h; omega)
            have hn_3 := (rch_le hT_3.2.2.2 _ hS_3.2.1).2
            have hs_3 := hs_2.tr (t3.up (fun o k h => by unfold SA2 at h; unfold SMm; omega))
            refine w_iastN hX dX9_readPaper_52 (mod_a6 hT_3.1) (by omega) (by omega) ?_
            have t4 : same (fun o2 k2 => o2 = m + 6 ∧ k2 = 833 + (4 * (B 352))) (sI (sI ν1 m 7 (nI (n + 2 + 1))) m 7 (nI (n + 3 + 1))) (sI (sI (sI ν1 m 7 (nI (n + 2 + 1))) m 7 (nI (n + 3 + 1))) (m + 6) (833 + (4 * (B 352))) (nI v3)) := same.rf.sI ⟨rfl, rfl⟩
            have hT_4 := hT_3.sm t4 (fun o k h => by omega)
            have hs_4 := hs_3.tr (t4.up (fun o k h => by unfold SMm; omega))
            have hS_4 := hS_3.sm t4 (fun h => by omega) (fun h => by omega)
            have hN_4 := hN_3.sm t4 (fun o k h => by omega)
            have hB_4 : MBk (sI (sI (sI ν1 m 7 (nI (n + 2 + 1))) m 7 (nI (n + 3 + 1))) (m + 6) (833 + (4 * (B 352))) (nI v3)) m (stB (stB B 352 (B 352 + 1)) (353 + 4 * B 352) (v3)) := by have h9 := hB_3.st (j := 353 + 4 * B 352) (v := v3) (by omega); rwa [show 480 + (353 + 4 * B 352) = 833 + (4 * (B 352)) by omega] at h9
            have hn_4 := hn_3
            refine w_aload_n (i := 0) hX dX9_readPaper_53 rfl rfl ?_
            refine w_getR (q := m + 6) hX dX9_readPaper_54 fo_RX9_73 rfl (mod_s hT_4.1) (mod_r10 hT_4.1) ?_
            refine w_iload_n (i := 1) hX dX9_readPaper_57 rfl rfl ?_
            refine w_iconst hX dX9_readPaper_58 kI_1 ?_
            refine w_iaddN hX dX9_readPaper_59 ?_
            refine w_aload_n (i := 0) hX dX9_readPaper_60 rfl rfl ?_
            refine w_iconst hX dX9_readPaper_61 kI_5 ?_
            refine w_iconst hX dX9_readPaper_62 kI_0 ?_
            refine w_sipush hX dX9_readPaper_63 kS_3649 ?_
            refine w_callVI (As := [.int (nI 5), .int (nI 0), .int (nI 3649)]) (rest := [.int (nI (833 + (4 * (B 352)) + 1)), .ref (m + 6)]) (ci := 9) (o := m) (k2 := 0) (n2 := 0) hX dX9_readPaper_66 (s_m_after0 Γ (sI (sI (sI ν1 m 7 (nI (n + 2 + 1))) m 7 (nI (n + 3 + 1))) (m + 6) (833 + (4 * (B 352))) (nI v3)) m s hT_4 (n + 4) hS_4 5 0 3649 (by omega) (by omega) (by omega)) okX9_takeAfter (ltb rfl) (mod_s hT_4.1) ml_RX9_222 imX9_takeAfter seX9_takeAfter rfl (leb rfl) (leb rfl) rfl rfl (fun r5 ν5 hq9 => ?_)
            rcases hq9 with ⟨w5, p5, e5, hS_5, t5⟩ | ⟨f5, p5, e5, hF_5, t5⟩
            · rw [e5]
              have p5 : pNb s (n + 5) 0 3649 = .inr (vl s (n + 5)) := p5
              have hS_5 : MSt ν5 m s (n + 6) := hS_5
              obtain ⟨q5, -, l5, g5⟩ := pNb_inr p5
              have hT_5 := hT_4.sm t5 (fun o k h => by unfold SA2 at h; omega)
              have hB_5 := hB_4.sm t5 (fun o k h => by unfold SA2 at h; omega)
              have hN_5 := hN_4.sm t5 (fun o k h => by unfold SA2 at h; omega)
              have hn_5 := (rch_le hT_5.2.2.2 _ hS_5.2.1).2
              have hs_5 := hs_4.tr (t5.up (fun o k h => by unfold SA2 at h; unfold SMm; omega))
              refine w_iastN hX dX9_readPaper_69 (mod_a6 hT_5.1) (by omega) (by omega) ?_
              have t6 : same (fun o2 k2 => o2 = m + 6 ∧ k2 = 833 + (4 * (B 352)) + 1) ν5 (sI ν5 (m + 6) (833 + (4 * (B 352)) + 1) (nI (vl s (n + 5)))) := same.rf.sI ⟨rfl, rfl⟩
              have hT_6 := hT_5.sm t6 (fun o k h => by omega)
              have hs_6 := hs_5.tr (t6.up (fun o k h => by unfold SMm; omega))
              have hS_6 := hS_5.sm t6 (fun h => by omega) (fun h => by omega)
              have hN_6 := hN_5.sm t6 (fun o k h => by omega)
              have hB_6 : MBk (sI ν5 (m + 6) (833 + (4 * (B 352)) + 1) (nI (vl s (n + 5)))) m (stB (stB (stB B 352 (B 352 + 1)) (353 + 4 * B 352) (v3)) (353 + 4 * B 352 + 1) ((vl s (n + 5)))) := by have h9 := hB_5.st (j := 353 + 4 * B 352 + 1) (v := (vl s (n + 5))) (by omega); rwa [show 480 + (353 + 4 * B 352 + 1) = 833 + (4 * (B 352)) + 1 by omega] at h9
              have hn_6 := hn_5
              refine w_aload_n (i := 0) hX dX9_readPaper_70 rfl rfl ?_
              refine w_getR (q := m + 6) hX dX9_readPaper_71 fo_RX9_73 rfl (mod_s hT_6.1) (mod_r10 hT_6.1) ?_
              refine w_iload_n (i := 1) hX dX9_readPaper_74 rfl rfl ?_
              refine w_iconst hX dX9_readPaper_75 kI_2 ?_
              refine w_iaddN hX dX9_readPaper_76 ?_
              refine w_aload_n (i := 0) hX dX9_readPaper_77 rfl rfl ?_
              refine w_iconst hX dX9_readPaper_78 kI_2 ?_
              refine w_iconst hX dX9_readPaper_79 kI_0 ?_
              refine w_sipush hX dX9_readPaper_80 kS_1439 ?_
              refine w_callVI (As := [.int (nI 2), .int (nI 0), .int (nI 1439)]) (rest := [.int (nI (833 + (4 * (B 352)) + 2)), .ref (m + 6)]) (ci := 9) (o := m) (k2 := 0) (n2 := 0) hX dX9_readPaper_83 (s_m_after0 Γ (sI ν5 (m + 6) (833 + (4 * (B 352)) + 1) (nI (vl s (n + 5)))) m s hT_6 (n + 6) hS_6 2 0 1439 (by omega) (by omega) (by omega)) okX9_takeAfter (ltb rfl) (mod_s hT_6.1) ml_RX9_222 imX9_takeAfter seX9_takeAfter rfl (leb rfl) (leb rfl) rfl rfl (fun r7 ν7 hq9 => ?_)
              rcases hq9 with ⟨w7, p7, e7, hS_7, t7⟩ | ⟨f7, p7, e7, hF_7, t7⟩
              · rw [e7]
                have p7 : pNb s (n + 7) 0 1439 = .inr (vl s (n + 7)) := p7
                have hS_7 : MSt ν7 m s (n + 8) := hS_7
                obtain ⟨q7, -, l7, g7⟩ := pNb_inr p7
                have hT_7 := hT_6.sm t7 (fun o k h => by unfold SA2 at h; omega)
                have hB_7 := hB_6.sm t7 (fun o k h => by unfold SA2 at h; omega)
                have hN_7 := hN_6.sm t7 (fun o k h => by unfold SA2 at h; omega)
                have hn_7 := (rch_le hT_7.2.2.2 _ hS_7.2.1).2
                have hs_7 := hs_6.tr (t7.up (fun o k h => by unfold SA2 at h; unfold SMm; omega))
                refine w_iastN hX dX9_readPaper_86 (mod_a6 hT_7.1) (by omega) (by omega) ?_
                have t8 : same (fun o2 k2 => o2 = m + 6 ∧ k2 = 833 + (4 * (B 352)) + 2) ν7 (sI ν7 (m + 6) (833 + (4 * (B 352)) + 2) (nI (vl s (n + 7)))) := same.rf.sI ⟨rfl, rfl⟩
                have hT_8 := hT_7.sm t8 (fun o k h => by omega)
                have hs_8 := hs_7.tr (t8.up (fun o k h => by unfold SMm; omega))
                have hS_8 := hS_7.sm t8 (fun h => by omega) (fun h => by omega)
                have hN_8 := hN_7.sm t8 (fun o k h => by omega)
                have hB_8 : MBk (sI ν7 (m + 6) (833 + (4 * (B 352)) + 2) (nI (vl s (n + 7)))) m (stB (stB (stB (stB B 352 (B 352 + 1)) (353 + 4 * B 352) (v3)) (353 + 4 * B 352 + 1) ((vl s (n + 5)))) (353 + 4 * B 352 + 2) ((vl s (n + 7)))) := by have h9 := hB_7.st (j := 353 + 4 * B 352 + 2) (v := (vl s (n + 7))) (by omega); rwa [show 480 + (353 + 4 * B 352 + 2) = 833 + (4 * (B 352)) + 2 by omega] at h9
                have hn_8 := hn_7
                refine w_aload_n (i := 0) hX dX9_readPaper_87 rfl rfl ?_
                refine w_getR (q := m + 6) hX dX9_readPaper_88 fo_RX9_73 rfl (mod_s hT_8.1) (mod_r10 hT_8.1) ?_
                refine w_iload_n (i := 1) hX dX9_readPaper_91 rfl rfl ?_
                refine w_iconst hX dX9_readPaper_92 kI_3 ?_
                refine w_iaddN hX dX9_readPaper_93 ?_
                refine w_aload_n (i := 0) hX dX9_readPaper_94 rfl rfl ?_
                refine w_bipush hX dX9_readPaper_95 kB_14 ?_
                refine w_callVI (As := [.int (nI 14)]) (rest := [.int (nI (833 + (4 * (B 352)) + 3)), .ref (m + 6)]) (ci := 9) (o := m) (k2 := 0) (n2 := 0) hX dX9_readPaper_97 (s_m_hasWord0 Γ (sI ν7 (m + 6) (833 + (4 * (B 352)) + 2) (nI (vl s (n + 7)))) m s hT_8 (n + 8) hS_8 14 (by omega)) okX9_hasWord (ltb rfl) (mod_s hT_8.1) ml_RX9_167 imX9_hasWord seX9_hasWord rfl (leb rfl) (leb rfl) rfl rfl (fun r9 ν9 hq9 => ?_)
                rcases hq9 with ⟨p9, e9, m9⟩ | ⟨p9, e9, m9⟩
                · rw [e9, m9]
                  have hS_9 : MSt (sI (sI ν7 (m + 6) (833 + (4 * (B 352)) + 2) (nI (vl s (n + 7)))) m 7 (nI (n + 8 + 1))) m s (n + 9) := hS_8.next (show kd s (n + 8) ≠ 0 by omega)
                  have t9 : same (SA2 m) (sI ν7 (m + 6) (833 + (4 * (B 352)) + 2) (nI (vl s (n + 7)))) (sI (sI ν7 (m + 6) (833 + (4 * (B 352)) + 2) (nI (vl s (n + 7)))) m 7 (nI (n + 8 + 1))) := same.rf.sI ⟨rfl, Or.inl rfl⟩
                  have hT_9 := hT_8.sm t9 (fun o k h => by unfold SA2 at h; omega)
                  have hB_9 := hB_8.sm t9 (fun o k h => by unfold SA2 at h; omega)
                  have hN_9 := hN_8.sm t9 (fun o k h => by unfold SA2 at h; omega)
                  have hn_9 := (rch_le hT_9.2.2.2 _ hS_9.2.1).2
                  have hs_9 := hs_8.tr (t9.up (fun o k h => by unfold SA2 at h; unfold SMm; omega))
                  refine wb_eq (tgt := 107) hX dX9_readPaper_100 (by decide) (fun c3 => ?_) (fun c3 => ?_)
                  · exact absurd ((Eq.refl true).symm.trans c3) (by decide)
                  · refine w_iconst hX dX9_readPaper_103 kI_1 ?_
                    refine w_goto (tgt := 121) hX dX9_readPaper_104 (by decide) ?_
                    refine w_iastN hX dX9_readPaper_121 (mod_a6 hT_9.1) (by omega) (by omega) ?_
                    have t10 : same (fun o2 k2 => o2 = m + 6 ∧ k2 = 833 + (4 * (B 352)) + 3) (sI (sI ν7 (m + 6) (833 + (4 * (B 352)) + 2) (nI (vl s (n + 7)))) m 7 (nI (n + 8 + 1))) (sI (sI (sI ν7 (m + 6) (833 + (4 * (B 352)) + 2) (nI (vl s (n + 7)))) m 7 (nI (n + 8 + 1))) (m + 6) (833 + (4 * (B 352)) + 3) (nI 1)) := same.rf.sI ⟨rfl, rfl⟩
                    have hT_10 := hT_9.sm t10 (fun o k h => by omega)
                    have hs_10 := hs_9.tr (t10.up (fun o k h => by unfold SMm; omega))
                    have hS_10 := hS_9.sm t10 (fun h => by omega) (fun h => by omega)
                    have hN_10 := hN_9.sm t10 (fun o k h => by omega)
                    have hB_10 : MBk (sI (sI (sI ν7 (m + 6) (833 + (4 * (B 352)) + 2) (nI (vl s (n + 7)))) m 7 (nI (n + 8 + 1))) (m + 6) (833 + (4 * (B 352)) + 3) (nI 1)) m (stB (stB (stB (stB (stB B 352 (B 352 + 1)) (353 + 4 * B 352) (v3)) (353 + 4 * B 352 + 1) ((vl s (n + 5)))) (353 + 4 * B 352 + 2) ((vl s (n + 7)))) (353 + 4 * B 352 + 3) (1)) := by have h9 := hB_9.st (j := 353 + 4 * B 352 + 3) (v := 1) (by omega); rwa [show 480 + (353 + 4 * B 352 + 3) = 833 + (4 * (B 352)) + 3 by omega] at h9
                    have hn_10 := hn_9
                    have hpx : pPaper s n B M = .inr (n + 9, (stB (stB (stB (stB (stB B 352 (B 352 + 1)) (353 + 4 * B 352) (v3)) (353 + 4 * B 352 + 1) ((vl s (n + 5)))) (353 + 4 * B 352 + 2) ((vl s (n + 7)))) (353 + 4 * B 352 + 3) (1)), (addM M (wd s (n + 1)) 3 (B 352))) := by unfold pPaper; exact (bnd_r p1).trans ((bnd_r (pWd_y p2)).trans ((bnd_r p3).trans ((bnd_r (pWd_y w5)).trans ((bnd_r p5).trans ((bnd_r (pWd_y w7)).trans ((bnd_r p7).trans (if_pos (by omega))))))))
                    exact w_vret hX hE dX9_readPaper_122 (Or.inl rfl) (MX_r hpx hs_10 hS_10 hB_10 hN_10)
                · rw [e9, m9]
                  refine wb_eq (tgt := 107) hX dX9_readPaper_100 (by decide) (fun c4 => ?_) (fun c4 => ?_)
                  · refine w_aload_n (i := 0) hX dX9_readPaper_107 rfl rfl ?_
                    refine w_bipush hX dX9_readPaper_108 kB_15 ?_
                    refine w_callVI (As := [.int (nI 15)]) (rest := [.int (nI (833 + (4 * (B 352)) + 3)), .ref (m + 6)]) (ci := 9) (o := m) (k2 := 0) (n2 := 0) hX dX9_readPaper_110 (s_m_hasWord0 Γ (sI ν7 (m + 6) (833 + (4 * (B 352)) + 2) (nI (vl s (n + 7)))) m s hT_8 (n + 8) hS_8 15 (by omega)) okX9_hasWord (ltb rfl) (mod_s hT_8.1) ml_RX9_167 imX9_hasWord seX9_hasWord rfl (leb rfl) (leb rfl) rfl rfl (fun r11 ν11 hq9 => ?_)
                    rcases hq9 with ⟨p11, e11, m11⟩ | ⟨p11, e11, m11⟩
                    · rw [e11, m11]
                      have hS_11 : MSt (sI (sI ν7 (m + 6) (833 + (4 * (B 352)) + 2) (nI (vl s (n + 7)))) m 7 (nI (n + 8 + 1))) m s (n + 9) := hS_8.next (show kd s (n + 8) ≠ 0 by omega)
                      have t11 : same (SA2 m) (sI ν7 (m + 6) (833 + (4 * (B 352)) + 2) (nI (vl s (n + 7)))) (sI (sI ν7 (m + 6) (833 + (4 * (B 352)) + 2) (nI (vl s (n + 7)))) m 7 (nI (n + 8 + 1))) := same.rf.sI ⟨rfl, Or.inl rfl⟩
                      have hT_11 := hT_8.sm t11 (fun o k h => by unfold SA2 at h; omega)
                      have hB_11 := hB_8.sm t11 (fun o k h => by unfold SA2 at h; omega)
                      have hN_11 := hN_8.sm t11 (fun o k h => by unfold SA2 at h; omega)
                      have hn_11 := (rch_le hT_11.2.2.2 _ hS_11.2.1).2
                      have hs_11 := hs_8.tr (t11.up (fun o k h => by unfold SA2 at h; unfold SMm; omega))
                      refine wb_eq (tgt := 120) hX dX9_readPaper_113 (by decide) (fun c5 => ?_) (fun c5 => ?_)
                      · exact absurd ((Eq.refl true).symm.trans c5) (by decide)
                      · refine w_iconst hX dX9_readPaper_116 kI_2 ?_
                        refine w_goto (tgt := 121) hX dX9_readPaper_117 (by decide) ?_
                        refine w_iastN hX dX9_readPaper_121 (mod_a6 hT_11.1) (by omega) (by omega) ?_
                        have t12 : same (fun o2 k2 => o2 = m + 6 ∧ k2 = 833 + (4 * (B 352)) + 3) (sI (sI ν7 (m + 6) (833 + (4 * (B 352)) + 2) (nI (vl s (n + 7)))) m 7 (nI (n + 8 + 1))) (sI (sI (sI ν7 (m + 6) (833 + (4 * (B 352)) + 2) (nI (vl s (n + 7)))) m 7 (nI (n + 8 + 1))) (m + 6) (833 + (4 * (B 352)) + 3) (nI 2)) := same.rf.sI ⟨rfl, rfl⟩
                        have hT_12 := hT_11.sm t12 (fun o k h => by omega)
                        have hs_12 := hs_11.tr (t12.up (fun o k h => by unfold SMm; omega))
                        have hS_12 := hS_11.sm t12 (fun h => by omega) (fun h => by omega)
                        have hN_12 := hN_11.sm t12 (fun o k h => by omega)
                        have hB_12 : MBk (sI (sI (sI ν7 (m + 6) (833 + (4 * (B 352)) + 2) (nI (vl s (n + 7)))) m 7 (nI (n + 8 + 1))) (m + 6) (833 + (4 * (B 352)) + 3) (nI 2)) m (stB (stB (stB (stB (stB B 352 (B 352 + 1)) (353 + 4 * B 352) (v3)) (353 + 4 * B 352 + 1) ((vl s (n + 5)))) (353 + 4 * B 352 + 2) ((vl s (n + 7)))) (353 + 4 * B 352 + 3) (2)) := by have h9 := hB_11.st (j := 353 + 4 * B 352 + 3) (v := 2) (by omega); rwa [show 480 + (353 + 4 * B 352 + 3) = 833 + (4 * (B 352)) + 3 by omega] at h9
                        have hn_12 := hn_11
                        have hpx : pPaper s n B M = .inr (n + 9, (stB (stB (stB (stB (stB B 352 (B 352 + 1)) (353 + 4 * B 352) (v3)) (353 + 4 * B 352 + 1) ((vl s (n + 5)))) (353 + 4 * B 352 + 2) ((vl s (n + 7)))) (353 + 4 * B 352 + 3) (2)), (addM M (wd s (n + 1)) 3 (B 352))) := by unfold pPaper; exact (bnd_r p1).trans ((bnd_r (pWd_y p2)).trans ((bnd_r p3).trans ((bnd_r (pWd_y w5)).trans ((bnd_r p5).trans ((bnd_r (pWd_y w7)).trans ((bnd_r p7).trans ((if_neg (by omega)).trans (if_pos (by omega)))))))))
                        exact w_vret hX hE dX9_readPaper_122 (Or.inl rfl) (MX_r hpx hs_12 hS_12 hB_12 hN_12)
                    · rw [e11, m11]
                      refine wb_eq (tgt := 120) hX dX9_readPaper_113 (by decide) (fun c6 => ?_) (fun c6 => ?_)
                      · refine w_iconst hX dX9_readPaper_120 kI_0 ?_
                        refine w_iastN hX dX9_readPaper_121 (mod_a6 hT_8.1) (by omega) (by omega) ?_
                        have t13 : same (fun o2 k2 => o2 = m + 6 ∧ k2 = 833 + (4 * (B 352)) + 3) (sI ν7 (m + 6) (833 + (4 * (B 352)) + 2) (nI (vl s (n + 7)))) (sI (sI ν7 (m + 6) (833 + (4 * (B 352)) + 2) (nI (vl s (n + 7)))) (m + 6) (833 + (4 * (B 352)) + 3) (nI 0)) := same.rf.sI ⟨rfl, rfl⟩
                        have hT_13 := hT_8.sm t13 (fun o k h => by omega)
                        have hs_13 := hs_8.tr (t13.up (fun o k h => by unfold SMm; omega))
                        have hS_13 := hS_8.sm t13 (fun h => by omega) (fun h => by omega)
                        have hN_13 := hN_8.sm t13 (fun o k h => by omega)
                        have hB_13 : MBk (sI (sI ν7 (m + 6) (833 + (4 * (B 352)) + 2) (nI (vl s (n + 7)))) (m + 6) (833 + (4 * (B 352)) + 3) (nI 0)) m (stB (stB (stB (stB (stB B 352 (B 352 + 1)) (353 + 4 * B 352) (v3)) (353 + 4 * B 352 + 1) ((vl s (n + 5)))) (353 + 4 * B 352 + 2) ((vl s (n + 7)))) (353 + 4 * B 352 + 3) (0)) := by have h9 := hB_8.st (j := 353 + 4 * B 352 + 3) (v := 0) (by omega); rwa [show 480 + (353 + 4 * B 352 + 3) = 833 + (4 * (B 352)) + 3 by omega] at h9
                        have hn_13 := hn_8
                        have hpx : pPaper s n B M = .inr (n + 8, (stB (stB (stB (stB (stB B 352 (B 352 + 1)) (353 + 4 * B 352) (v3)) (353 + 4 * B 352 + 1) ((vl s (n + 5)))) (353 + 4 * B 352 + 2) ((vl s (n + 7)))) (353 + 4 * B 352 + 3) (0)), (addM M (wd s (n + 1)) 3 (B 352))) := by unfold pPaper; exact (bnd_r p1).trans ((bnd_r (pWd_y p2)).trans ((bnd_r p3).trans ((bnd_r (pWd_y w5)).trans ((bnd_r p5).trans ((bnd_r (pWd_y w7)).trans ((bnd_r p7).trans ((if_neg (by omega)).trans (if_neg (by omega)))))))))
                        exact w_vret hX hE dX9_readPaper_122 (Or.inl rfl) (MX_r hpx hs_13 hS_13 hB_13 hN_13)
                      · exact absurd ((Eq.refl false).symm.trans c6) (by decide)
                  · exact absurd ((Eq.refl false).symm.trans c4) (by decide)
              · rw [e7]
                let β7 := ν7
                have hT_7 := hT_6.sm t7 (fun o k h => by unfold SA2 at h; omega)
                obtain ⟨n9_7, hn9_7⟩ := hF_7.2.2
                have hf_7 := hF_7.2.1
                have hn_7 := (rch_le hT_7.2.2.2 _ hn9_7.1).2
                have hs_7 := hs_6.tr (t7.up (fun o k h => by unfold SA2 at h; unfold SMm; omega))
                refine w_iastN hX dX9_readPaper_86 (mod_a6 hT_7.1) (by omega) (by omega) ?_
                have t14 : same (fun o2 k2 => o2 = m + 6 ∧ k2 = 833 + (4 * (B 352)) + 2) ν7 (sI ν7 (m + 6) (833 + (4 * (B 352)) + 2) (nI 0)) := same.rf.sI ⟨rfl, rfl⟩
                have hT_14 := hT_7.sm t14 (fun o k h => by omega)
                have hs_14 := hs_7.tr (t14.up (fun o k h => by unfold SMm; omega))
                have hF_14 := hF_7.sm t14 (fun h => by omega) (fun h => by omega)
                have hf_14 := hf_7
                obtain ⟨n9_14, hn9_14⟩ := hF_14.2.2
                have hn_14 := (rch_le hT.2.2.2 _ hn9_14.1).2
                refine w_aload_n (i := 0) hX dX9_readPaper_87 rfl rfl ?_
                refine w_getR (q := m + 6) hX dX9_readPaper_88 fo_RX9_73 rfl (mod_s hT_14.1) (mod_r10 hT_14.1) ?_
                refine w_iload_n (i := 1) hX dX9_readPaper_91 rfl rfl ?_
                refine w_iconst hX dX9_readPaper_92 kI_3 ?_
                refine w_iaddN hX dX9_readPaper_93 ?_
                refine w_aload_n (i := 0) hX dX9_readPaper_94 rfl rfl ?_
                refine w_bipush hX dX9_readPaper_95 kB_14 ?_
                refine w_callVI (As := [.int (nI 14)]) (rest := [.int (nI (833 + (4 * (B 352)) + 3)), .ref (m + 6)]) (ci := 9) (o := m) (k2 := 0) (n2 := 0) hX dX9_readPaper_97 (s_m_hasWordf Γ (sI ν7 (m + 6) (833 + (4 * (B 352)) + 2) (nI 0)) m s hT_14 f7 hF_14 14) okX9_hasWord (ltb rfl) (mod_s hT_14.1) ml_RX9_167 imX9_hasWord seX9_hasWord rfl (leb rfl) (leb rfl) rfl rfl (fun r9 μ9 hq9 => ?_)
                obtain ⟨hr9, hm9⟩ := hq9; rw [hr9, hm9]; clear hr9 hm9 r9 μ9
                refine wb_eq (tgt := 107) hX dX9_readPaper_100 (by decide) (fun c7 => ?_) (fun c7 => ?_)
                · refine w_aload_n (i := 0) hX dX9_readPaper_107 rfl rfl ?_
                  refine w_bipush hX dX9_readPaper_108 kB_15 ?_
                  refine w_callVI (As := [.int (nI 15)]) (rest := [.int (nI (833 + (4 * (B 352)) + 3)), .ref (m + 6)]) (ci := 9) (o := m) (k2 := 0) (n2 := 0) hX dX9_readPaper_110 (s_m_hasWordf Γ (sI ν7 (m + 6) (833 + (4 * (B 352)) + 2) (nI 0)) m s hT_14 f7 hF_14 15) okX9_hasWord (ltb rfl) (mod_s hT_14.1) ml_RX9_167 imX9_hasWord seX9_hasWord rfl (leb rfl) (leb rfl) rfl rfl (fun r9 μ9 hq9 => ?_)
                  obtain ⟨hr9, hm9⟩ := hq9; rw [hr9, hm9]; clear hr9 hm9 r9 μ9
                  refine wb_eq (tgt := 120) hX dX9_readPaper_113 (by decide) (fun c8 => ?_) (fun c8 => ?_)
                  · refine w_iconst hX dX9_readPaper_120 kI_0 ?_
                    refine w_iastN hX dX9_readPaper_121 (mod_a6 hT_14.1) (by omega) (by omega) ?_
                    have t17 : same (fun o2 k2 => o2 = m + 6 ∧ k2 = 833 + (4 * (B 352)) + 3) (sI ν7 (m + 6) (833 + (4 * (B 352)) + 2) (nI 0)) (sI (sI ν7 (m + 6) (833 + (4 * (B 352)) + 2) (nI 0)) (m + 6) (833 + (4 * (B 352)) + 3) (nI 0)) := same.rf.sI ⟨rfl, rfl⟩
                    have hT_17 := hT_14.sm t17 (fun o k h => by omega)
                    have hs_17 := hs_14.tr (t17.up (fun o k h => by unfold SMm; omega))
                    have hF_17 := hF_14.sm t17 (fun h => by omega) (fun h => by omega)
                    have hf_17 := hf_14
                    obtain ⟨n9_17, hn9_17⟩ := hF_17.2.2
                    have hn_17 := (rch_le hT.2.2.2 _ hn9_17.1).2
                    have hpx : pPaper s n B M = .inl f7 := by unfold pPaper; exact (bnd_r p1).trans ((bnd_r (pWd_y p2)).trans ((bnd_r p3).trans ((bnd_r (pWd_y w5)).trans ((bnd_r p5).trans (bnd_a p7)))))
                    exact w_vret hX hE dX9_readPaper_122 (Or.inl rfl) (MX_l hpx hs_17 hF_17)
                  · exact absurd ((Eq.refl false).symm.trans c8) (by decide)
                · exact absurd ((Eq.refl false).symm.trans c7) (by decide)
            · rw [e5]
              let β5 := ν5
              have hT_5 := hT_4.sm t5 (fun o k h => by unfold SA2 at h; omega)
              obtain ⟨n9_5, hn9_5⟩ := hF_5.2.2
              have hf_5 := hF_5.2.1
              have hn_5 := (rch_le hT_5.2.2.2 _ hn9_5.1).2
              have hs_5 := hs_4.tr (t5.up (fun o k h => by unfold SA2 at h; unfold SMm; omega))
              refine w_iastN hX dX9_readPaper_69 (mod_a6 hT_5.1) (by omega) (by omega) ?_
              have t18 : same (fun o2 k2 => o2 = m + 6 ∧ k2 = 833 + (4 * (B 352)) + 1) ν5 (sI ν5 (m + 6) (833 + (4 * (B 352)) + 1) (nI 0)) := same.rf.sI ⟨rfl, rfl⟩
              have hT_18 := hT_5.sm t18 (fun o k h => by omega)
              have hs_18 := hs_5.tr (t18.up (fun o k h => by unfold SMm; omega))
              have hF_18 := hF_5.sm t18 (fun h => by omega) (fun h => by omega)
              have hf_18 := hf_5
              obtain ⟨n9_18, hn9_18⟩ := hF_18.2.2
              have hn_18 := (rch_le hT.2.2.2 _ hn9_18.1).2
              refine w_aload_n (i := 0) hX dX9_readPaper_70 rfl rfl ?_
              refine w_getR (q := m + 6) hX dX9_readPaper_71 fo_RX9_73 rfl (mod_s hT_18.1) (mod_r10 hT_18.1) ?_
              refine w_iload_n (i := 1) hX dX9_readPaper_74 rfl rfl ?_
              refine w_iconst hX dX9_readPaper_75 kI_2 ?_
              refine w_iaddN hX dX9_readPaper_76 ?_
              refine w_aload_n (i := 0) hX dX9_readPaper_77 rfl rfl ?_
              refine w_iconst hX dX9_readPaper_78 kI_2 ?_
              refine w_iconst hX dX9_readPaper_79 kI_0 ?_
              refine w_sipush hX dX9_readPaper_80 kS_1439 ?_
              refine w_callVI (As := [.int (nI 2), .int (nI 0), .int (nI 1439)]) (rest := [.int (nI (833 + (4 * (B 352)) + 2)), .ref (m + 6)]) (ci := 9) (o := m) (k2 := 0) (n2 := 0) hX dX9_readPaper_83 (s_m_afterf Γ (sI ν5 (m + 6) (833 + (4 * (B 352)) + 1) (nI 0)) m s hT_18 f5 hF_18 2 (nI 0) 1439) okX9_takeAfter (ltb rfl) (mod_s hT_18.1) ml_RX9_222 imX9_takeAfter seX9_takeAfter rfl (leb rfl) (leb rfl) rfl rfl (fun r9 μ9 hq9 => ?_)
              obtain ⟨hr9, hm9⟩ := hq9; rw [hr9, hm9]; clear hr9 hm9 r9 μ9
              refine w_iastN hX dX9_readPaper_86 (mod_a6 hT_18.1) (by omega) (by omega) ?_
              have t20 : same (fun o2 k2 => o2 = m + 6 ∧ k2 = 833 + (4 * (B 352)) + 2) (sI ν5 (m + 6) (833 + (4 * (B 352)) + 1) (nI 0)) (sI (sI ν5 (m + 6) (833 + (4 * (B 352)) + 1) (nI 0)) (m + 6) (833 + (4 * (B 352)) + 2) (nI 0)) := same.rf.sI ⟨rfl, rfl⟩
              have hT_20 := hT_18.sm t20 (fun o k h => by omega)
              have hs_20 := hs_18.tr (t20.up (fun o k h => by unfold SMm; omega))
              have hF_20 := hF_18.sm t20 (fun h => by omega) (fun h => by omega)
              have hf_20 := hf_18
              obtain ⟨n9_20, hn9_20⟩ := hF_20.2.2
              have hn_20 := (rch_le hT.2.2.2 _ hn9_20.1).2
              refine w_aload_n (i := 0) hX dX9_readPaper_87 rfl rfl ?_
              refine w_getR (q := m + 6) hX dX9_readPaper_88 fo_RX9_73 rfl (mod_s hT_20.1) (mod_r10 hT_20.1) ?_
              refine w_iload_n (i := 1) hX dX9_readPaper_91 rfl rfl ?_
              refine w_iconst hX dX9_readPaper_92 kI_3 ?_
              refine w_iaddN hX dX9_readPaper_93 ?_
              refine w_aload_n (i := 0) hX dX9_readPaper_94 rfl rfl ?_
              refine w_bipush hX dX9_readPaper_95 kB_14 ?_
              refine w_callVI (As := [.int (nI 14)]) (rest := [.int (nI (833 + (4 * (B 352)) + 3)), .ref (m + 6)]) (ci := 9) (o := m) (k2 := 0) (n2 := 0) hX dX9_readPaper_97 (s_m_hasWordf Γ (sI (sI ν5 (m + 6) (833 + (4 * (B 352)) + 1) (nI 0)) (m + 6) (833 + (4 * (B 352)) + 2) (nI 0)) m s hT_20 f5 hF_20 14) okX9_hasWord (ltb rfl) (mod_s hT_20.1) ml_RX9_167 imX9_hasWord seX9_hasWord rfl (leb rfl) (leb rfl) rfl rfl (fun r9 μ9 hq9 => ?_)
              obtain ⟨hr9, hm9⟩ := hq9; rw [hr9, hm9]; clear hr9 hm9 r9 μ9
              refine wb_eq (tgt := 107) hX dX9_readPaper_100 (by decide) (fun c9 => ?_) (fun c9 => ?_)
              · refine w_aload_n (i := 0) hX dX9_readPaper_107 rfl rfl ?_
                refine w_bipush hX dX9_readPaper_108 kB_15 ?_
                refine w_callVI (As := [.int (nI 15)]) (rest := [.int (nI (833 + (4 * (B 352)) + 3)), .ref (m + 6)]) (ci := 9) (o := m) (k2 := 0) (n2 := 0) hX dX9_readPaper_110 (s_m_hasWordf Γ (sI (sI ν5 (m + 6) (833 + (4 * (B 352)) + 1) (nI 0)) (m + 6) (833 + (4 * (B 352)) + 2) (nI 0)) m s hT_20 f5 hF_20 15) okX9_hasWord (ltb rfl) (mod_s hT_20.1) ml_RX9_167 imX9_hasWord seX9_hasWord rfl (leb rfl) (leb rfl) rfl rfl (fun r9 μ9 hq9 => ?_)
                obtain ⟨hr9, hm9⟩ := hq9; rw [hr9, hm9]; clear hr9 hm9 r9 μ9
                refine wb_eq (tgt := 120) hX dX9_readPaper_113 (by decide) (fun c10 => ?_) (fun c10 => ?_)
                · refine w_iconst hX dX9_readPaper_120 kI_0 ?_
                  refine w_iastN hX dX9_readPaper_121 (mod_a6 hT_20.1) (by omega) (by omega) ?_
                  have t23 : same (fun o2 k2 => o2 = m + 6 ∧ k2 = 833 + (4 * (B 352)) + 3) (sI (sI ν5 (m + 6) (833 + (4 * (B 352)) + 1) (nI 0)) (m + 6) (833 + (4 * (B 352)) + 2) (nI 0)) (sI (sI (sI ν5 (m + 6) (833 + (4 * (B 352)) + 1) (nI 0)) (m + 6) (833 + (4 * (B 352)) + 2) (nI 0)) (m + 6) (833 + (4 * (B 352)) + 3) (nI 0)) := same.rf.sI ⟨rfl, rfl⟩
                  have hT_23 := hT_20.sm t23 (fun o k h => by omega)
                  have hs_23 := hs_20.tr (t23.up (fun o k h => by unfold SMm; omega))
                  have hF_23 := hF_20.sm t23 (fun h => by omega) (fun h => by omega)
                  have hf_23 := hf_20
                  obtain ⟨n9_23, hn9_23⟩ := hF_23.2.2
                  have hn_23 := (rch_le hT.2.2.2 _ hn9_23.1).2
                  have hpx : pPaper s n B M = .inl f5 := by unfold pPaper; exact (bnd_r p1).trans ((bnd_r (pWd_y p2)).trans ((bnd_r p3).trans (bnd_a p5)))
                  exact w_vret hX hE dX9_readPaper_122 (Or.inl rfl) (MX_l hpx hs_23 hF_23)
                · exact absurd ((Eq.refl false).symm.trans c10) (by decide)
              · exact absurd ((Eq.refl false).symm.trans c9) (by decide)
          · rw [e3, m3]
            have hF_3 := hS_2.bad (pNm_l hT.2.2.2 p3)
            have t3 : same (SA2 m) (sI ν1 m 7 (nI (n + 2 + 1))) (sI (sI ν1 m 7 (nI (n + 2 + 1))) m 8 (nI f3)) := same.rf.sI ⟨rfl, Or.inr rfl⟩
            have hT_3 := hT_2.sm t3 (fun o k h => by unfold SA2 at h; omega)
            obtain ⟨n9_3, hn9_3⟩ := hF_3.2.2
            have hf_3 := hF_3.2.1
            have hn_3 := (rch_le hT_3.2.2.2 _ hn9_3.1).2
            have hs_3 := hs_2.tr (t3.up (fun o k h => by unfold SA2 at h; unfold SMm; omega))
            refine w_iastN hX dX9_readPaper_52 (mod_a6 hT_3.1) (by omega) (by omega) ?_
            have t24 : same (fun o2 k2 => o2 = m + 6 ∧ k2 = 833 + (4 * (B 352))) (sI (sI ν1 m 7 (nI (n + 2 + 1))) m 8 (nI f3)) (sI (sI (sI ν1 m 7 (nI (n + 2 + 1))) m 8 (nI f3)) (m + 6) (833 + (4 * (B 352))) ((-1 : Int32))) := same.rf.sI ⟨rfl, rfl⟩
            have hT_24 := hT_3.sm t24 (fun o k h => by omega)
            have hs_24 := hs_3.tr (t24.up (fun o k h => by unfold SMm; omega))
            have hF_24 := hF_3.sm t24 (fun h => by omega) (fun h => by omega)
            have hf_24 := hf_3
            obtain ⟨n9_24, hn9_24⟩ := hF_24.2.2
            have hn_24 := (rch_le hT.2.2.2 _ hn9_24.1).2
            refine w_aload_n (i := 0) hX dX9_readPaper_53 rfl rfl ?_
            refine w_getR (q := m + 6) hX dX9_readPaper_54 fo_RX9_73 rfl (mod_s hT_24.1) (mod_r10 hT_24.1) ?_
            refine w_iload_n (i := 1) hX dX9_readPaper_57 rfl rfl ?_
            refine w_iconst hX dX9_readPaper_58 kI_1 ?_
            refine w_iaddN hX dX9_readPaper_59 ?_
            refine w_aload_n (i := 0) hX dX9_readPaper_60 rfl rfl ?_
            refine w_iconst hX dX9_readPaper_61 kI_5 ?_
            refine w_iconst hX dX9_readPaper_62 kI_0 ?_
            refine w_sipush hX dX9_readPaper_63 kS_3649 ?_
            refine w_callVI (As := [.int (nI 5), .int (nI 0), .int (nI 3649)]) (rest := [.int (nI (833 + (4 * (B 352)) + 1)), .ref (m + 6)]) (ci := 9) (o := m) (k2 := 0) (n2 := 0) hX dX9_readPaper_66 (s_m_afterf Γ (sI (sI (sI ν1 m 7 (nI (n + 2 + 1))) m 8 (nI f3)) (m + 6) (833 + (4 * (B 352))) ((-1 : Int32))) m s hT_24 f3 hF_24 5 (nI 0) 3649) okX9_takeAfter (ltb rfl) (mod_s hT_24.1) ml_RX9_222 imX9_takeAfter seX9_takeAfter rfl (leb rfl) (leb rfl) rfl rfl (fun r9 μ9 hq9 => ?_)
            obtain ⟨hr9, hm9⟩ := hq9; rw [hr9, hm9]; clear hr9 hm9 r9 μ9
            refine w_iastN hX dX9_readPaper_69 (mod_a6 hT_24.1) (by omega) (by omega) ?_
            have t26 : same (fun o2 k2 => o2 = m + 6 ∧ k2 = 833 + (4 * (B 352)) + 1) (sI (sI (sI ν1 m 7 (nI (n + 2 + 1))) m 8 (nI f3)) (m + 6) (833 + (4 * (B 352))) ((-1 : Int32))) (sI (sI (sI (sI ν1 m 7 (nI (n + 2 + 1))) m 8 (nI f3)) (m + 6) (833 + (4 * (B 352))) ((-1 : Int32))) (m + 6) (833 + (4 * (B 352)) + 1) (nI 0)) := same.rf.sI ⟨rfl, rfl⟩
            have hT_26 := hT_24.sm t26 (fun o k h => by omega)
            have hs_26 := hs_24.tr (t26.up (fun o k h => by unfold SMm; omega))
            have hF_26 := hF_24.sm t26 (fun h => by omega) (fun h => by omega)
            have hf_26 := hf_24
            obtain ⟨n9_26, hn9_26⟩ := hF_26.2.2
            have hn_26 := (rch_le hT.2.2.2 _ hn9_26.1).2
            refine w_aload_n (i := 0) hX dX9_readPaper_70 rfl rfl ?_
            refine w_getR (q := m + 6) hX dX9_readPaper_71 fo_RX9_73 rfl (mod_s hT_26.1) (mod_r10 hT_26.1) ?_
            refine w_iload_n (i := 1) hX dX9_readPaper_74 rfl rfl ?_
            refine w_iconst hX dX9_readPaper_75 kI_2 ?_
            refine w_iaddN hX dX9_readPaper_76 ?_
            refine w_aload_n (i := 0) hX dX9_readPaper_77 rfl rfl ?_
            refine w_iconst hX dX9_readPaper_78 kI_2 ?_
            refine w_iconst hX dX9_readPaper_79 kI_0 ?_
            refine w_sipush hX dX9_readPaper_80 kS_1439 ?_
            refine w_callVI (As := [.int (nI 2), .int (nI 0), .int (nI 1439)]) (rest := [.int (nI (833 + (4 * (B 352)) + 2)), .ref (m + 6)]) (ci := 9) (o := m) (k2 := 0) (n2 := 0) hX dX9_readPaper_83 (s_m_afterf Γ (sI (sI (sI (sI ν1 m 7 (nI (n + 2 + 1))) m 8 (nI f3)) (m + 6) (833 + (4 * (B 352))) ((-1 : Int32))) (m + 6) (833 + (4 * (B 352)) + 1) (nI 0)) m s hT_26 f3 hF_26 2 (nI 0) 1439) okX9_takeAfter (ltb rfl) (mod_s hT_26.1) ml_RX9_222 imX9_takeAfter seX9_takeAfter rfl (leb rfl) (leb rfl) rfl rfl (fun r9 μ9 hq9 => ?_)
            obtain ⟨hr9, hm9⟩ := hq9; rw [hr9, hm9]; clear hr9 hm9 r9 μ9
            refine w_iastN hX dX9_readPaper_86 (mod_a6 hT_26.1) (by omega) (by omega) ?_
            have t28 : same (fun o2 k2 => o2 = m + 6 ∧ k2 = 833 + (4 * (B 352)) + 2) (sI (sI (sI (sI ν1 m 7 (nI (n + 2 + 1))) m 8 (nI f3)) (m + 6) (833 + (4 * (B 352))) ((-1 : Int32))) (m + 6) (833 + (4 * (B 352)) + 1) (nI 0)) (sI (sI (sI (sI (sI ν1 m 7 (nI (n + 2 + 1))) m 8 (nI f3)) (m + 6) (833 + (4 * (B 352))) ((-1 : Int32))) (m + 6) (833 + (4 * (B 352)) + 1) (nI 0)) (m + 6) (833 + (4 * (B 352)) + 2) (nI 0)) := same.rf.sI ⟨rfl, rfl⟩
            have hT_28 := hT_26.sm t28 (fun o k h => by omega)
            have hs_28 := hs_26.tr (t28.up (fun o k h => by unfold SMm; omega))
            have hF_28 := hF_26.sm t28 (fun h => by omega) (fun h => by omega)
            have hf_28 := hf_26
            obtain ⟨n9_28, hn9_28⟩ := hF_28.2.2
            have hn_28 := (rch_le hT.2.2.2 _ hn9_28.1).2
            refine w_aload_n (i := 0) hX dX9_readPaper_87 rfl rfl ?_
            refine w_getR (q := m + 6) hX dX9_readPaper_88 fo_RX9_73 rfl (mod_s hT_28.1) (mod_r10 hT_28.1) ?_
            refine w_iload_n (i := 1) hX dX9_readPaper_91 rfl rfl ?_
            refine w_iconst hX dX9_readPaper_92 kI_3 ?_
            refine w_iaddN hX dX9_readPaper_93 ?_
            refine w_aload_n (i := 0) hX dX9_readPaper_94 rfl rfl ?_
            refine w_bipush hX dX9_readPaper_95 kB_14 ?_
            refine w_callVI (As := [.int (nI 14)]) (rest := [.int (nI (833 + (4 * (B 352)) + 3)), .ref (m + 6)]) (ci := 9) (o := m) (k2 := 0) (n2 := 0) hX dX9_readPaper_97 (s_m_hasWordf Γ (sI (sI (sI (sI (sI ν1 m 7 (nI (n + 2 + 1))) m 8 (nI f3)) (m + 6) (833 + (4 * (B 352))) ((-1 : Int32))) (m + 6) (833 + (4 * (B 352)) + 1) (nI 0)) (m + 6) (833 + (4 * (B 352)) + 2) (nI 0)) m s hT_28 f3 hF_28 14) okX9_hasWord (ltb rfl) (mod_s hT_28.1) ml_RX9_167 imX9_hasWord seX9_hasWord rfl (leb rfl) (leb rfl) rfl rfl (fun r9 μ9 hq9 => ?_)
            obtain ⟨hr9, hm9⟩ := hq9; rw [hr9, hm9]; clear hr9 hm9 r9 μ9
            refine wb_eq (tgt := 107) hX dX9_readPaper_100 (by decide) (fun c11 => ?_) (fun c11 => ?_)
            · refine w_aload_n (i := 0) hX dX9_readPaper_107 rfl rfl ?_
              refine w_bipush hX dX9_readPaper_108 kB_15 ?_
              refine w_callVI (As := [.int (nI 15)]) (rest := [.int (nI (833 + (4 * (B 352)) + 3)), .ref (m + 6)]) (ci := 9) (o := m) (k2 := 0) (n2 := 0) hX dX9_readPaper_110 (s_m_hasWordf Γ (sI (sI (sI (sI (sI ν1 m 7 (nI (n + 2 + 1))) m 8 (nI f3)) (m + 6) (833 + (4 * (B 352))) ((-1 : Int32))) (m + 6) (833 + (4 * (B 352)) + 1) (nI 0)) (m + 6) (833 + (4 * (B 352)) + 2) (nI 0)) m s hT_28 f3 hF_28 15) okX9_hasWord (ltb rfl) (mod_s hT_28.1) ml_RX9_167 imX9_hasWord seX9_hasWord rfl (leb rfl) (leb rfl) rfl rfl (fun r9 μ9 hq9 => ?_)
              obtain ⟨hr9, hm9⟩ := hq9; rw [hr9, hm9]; clear hr9 hm9 r9 μ9
              refine wb_eq (tgt := 120) hX dX9_readPaper_113 (by decide) (fun c12 => ?_) (fun c12 => ?_)
              · refine w_iconst hX dX9_readPaper_120 kI_0 ?_
                refine w_iastN hX dX9_readPaper_121 (mod_a6 hT_28.1) (by omega) (by omega) ?_
                have t31 : same (fun o2 k2 => o2 = m + 6 ∧ k2 = 833 + (4 * (B 352)) + 3) (sI (sI (sI (sI (sI ν1 m 7 (nI (n + 2 + 1))) m 8 (nI f3)) (m + 6) (833 + (4 * (B 352))) ((-1 : Int32))) (m + 6) (833 + (4 * (B 352)) + 1) (nI 0)) (m + 6) (833 + (4 * (B 352)) + 2) (nI 0)) (sI (sI (sI (sI (sI (sI ν1 m 7 (nI (n + 2 + 1))) m 8 (nI f3)) (m + 6) (833 + (4 * (B 352))) ((-1 : Int32))) (m + 6) (833 + (4 * (B 352)) + 1) (nI 0)) (m + 6) (833 + (4 * (B 352)) + 2) (nI 0)) (m + 6) (833 + (4 * (B 352)) + 3) (nI 0)) := same.rf.sI ⟨rfl, rfl⟩
                have hT_31 := hT_28.sm t31 (fun o k h => by omega)
                have hs_31 := hs_28.tr (t31.up (fun o k h => by unfold SMm; omega))
                have hF_31 := hF_28.sm t31 (fun h => by omega) (fun h => by omega)
                have hf_31 := hf_28
                obtain ⟨n9_31, hn9_31⟩ := hF_31.2.2
                have hn_31 := (rch_le hT.2.2.2 _ hn9_31.1).2
                have hpx : pPaper s n B M = .inl f3 := by unfold pPaper; exact (bnd_r p1).trans ((bnd_r (pWd_y p2)).trans (bnd_l p3))
                exact w_vret hX hE dX9_readPaper_122 (Or.inl rfl) (MX_l hpx hs_31 hF_31)
              · exact absurd ((Eq.refl false).symm.trans c12) (by decide)
            · exact absurd ((Eq.refl false).symm.trans c11) (by decide)
        · exact absurd c2 (by decide)
      · rw [m2]
        have hF_2 := hS_1.bad (ft_lt (w := 1) (n := n + 2) hT.2.2.2 (by omega) (by omega))
        have t2 : same (SA2 m) ν1 (sI ν1 m 8 (nI (ft s 1 (n + 2)))) := same.rf.sI ⟨rfl, Or.inr rfl⟩
        have hT_2 := hT_1.sm t2 (fun o k h => by unfold SA2 at h; omega)
        obtain ⟨n9_2, hn9_2⟩ := hF_2.2.2
        have hf_2 := hF_2.2.1
        have hn_2 := (rch_le hT_2.2.2.2 _ hn9_2.1).2
        have hs_2 := hs_1.tr (t2.up (fun o k h => by unfold SA2 at h; unfold SMm; omega))
        refine w_aload_n (i := 0) hX dX9_readPaper_31 rfl rfl ?_
        refine w_getR (q := m + 6) hX dX9_readPaper_32 fo_RX9_73 rfl (mod_s hT_2.1) (mod_r10 hT_2.1) ?_
        refine w_iload_n (i := 1) hX dX9_readPaper_35 rfl rfl ?_
        refine w_aload_n (i := 0) hX dX9_readPaper_36 rfl rfl ?_
        refine w_getI hX dX9_readPaper_37 fo_RX9_154 rfl (mod_s hT_2.1) ?_
        refine w_top (y := nI (ft s 1 (n + 2))) hF_2.1 ?_
        refine wn_if_le (tgt := 47) hX dX9_readPaper_40 (by decide) (by omega) (fun c13 => ?_) (fun c13 => ?_)
        · exfalso; omega
        · refine w_iconst hX dX9_readPaper_43 kI_0 ?_
          refine w_goto (tgt := 52) hX dX9_readPaper_44 (by decide) ?_
          refine w_iastN hX dX9_readPaper_52 (mod_a6 hT_2.1) (by omega) (by omega) ?_
          have t32 : same (fun o2 k2 => o2 = m + 6 ∧ k2 = 833 + (4 * (B 352))) (sI ν1 m 8 (nI (ft s 1 (n + 2)))) (sI (sI ν1 m 8 (nI (ft s 1 (n + 2)))) (m + 6) (833 + (4 * (B 352))) (nI 0)) := same.rf.sI ⟨rfl, rfl⟩
          have hT_32 := hT_2.sm t32 (fun o k h => by omega)
          have hs_32 := hs_2.tr (t32.up (fun o k h => by unfold SMm; omega))
          have hF_32 := hF_2.sm t32 (fun h => by omega) (fun h => by omega)
          have hf_32 := hf_2
          obtain ⟨n9_32, hn9_32⟩ := hF_32.2.2
          have hn_32 := (rch_le hT.2.2.2 _ hn9_32.1).2
          refine w_aload_n (i := 0) hX dX9_readPaper_53 rfl rfl ?_
          refine w_getR (q := m + 6) hX dX9_readPaper_54 fo_RX9_73 rfl (mod_s hT_32.1) (mod_r10 hT_32.1) ?_
          refine w_iload_n (i := 1) hX dX9_readPaper_57 rfl rfl ?_
          refine w_iconst hX dX9_readPaper_58 kI_1 ?_
          refine w_iaddN hX dX9_readPaper_59 ?_
          refine w_aload_n (i := 0) hX dX9_readPaper_60 rfl rfl ?_
          refine w_iconst hX dX9_readPaper_61 kI_5 ?_
          refine w_iconst hX dX9_readPaper_62 kI_0 ?_
          refine w_sipush hX dX9_readPaper_63 kS_3649 ?_
          refine w_callVI (As := [.int (nI 5), .int (nI 0), .int (nI 3649)]) (rest := [.int (nI (833 + (4 * (B 352)) + 1)), .ref (m + 6)]) (ci := 9) (o := m) (k2 := 0) (n2 := 0) hX dX9_readPaper_66 (s_m_afterf Γ (sI (sI ν1 m 8 (nI (ft s 1 (n + 2)))) (m + 6) (833 + (4 * (B 352))) (nI 0)) m s hT_32 (ft s 1 (n + 2)) hF_32 5 (nI 0) 3649) okX9_takeAfter (ltb rfl) (mod_s hT_32.1) ml_RX9_222 imX9_takeAfter seX9_takeAfter rfl (leb rfl) (leb rfl) rfl rfl (fun r9 μ9 hq9 => ?_)
          obtain ⟨hr9, hm9⟩ := hq9; rw [hr9, hm9]; clear hr9 hm9 r9 μ9
          refine w_iastN hX dX9_readPaper_69 (mod_a6 hT_32.1) (by omega) (by omega) ?_
          have t34 : same (fun o2 k2 => o2 = m + 6 ∧ k2 = 833 + (4 * (B 352)) + 1) (sI (sI ν1 m 8 (nI (ft s 1 (n + 2)))) (m + 6) (833 + (4 * (B 352))) (nI 0)) (sI (sI (sI ν1 m 8 (nI (ft s 1 (n + 2)))) (m + 6) (833 + (4 * (B 352))) (nI 0)) (m + 6) (833 + (4 * (B 352)) + 1) (nI 0)) := same.rf.sI ⟨rfl, rfl⟩
          have hT_34 := hT_32.sm t34 (fun o k h => by omega)
          have hs_34 := hs_32.tr (t34.up (fun o k h => by unfold SMm; omega))
          have hF_34 := hF_32.sm t34 (fun h => by omega) (fun h => by omega)
          have hf_34 := hf_32
          obtain ⟨n9_34, hn9_34⟩ := hF_34.2.2
          have hn_34 := (rch_le hT.2.2.2 _ hn9_34.1).2
          refine w_aload_n (i := 0) hX dX9_readPaper_70 rfl rfl ?_
          refine w_getR (q := m + 6) hX dX9_readPaper_71 fo_RX9_73 rfl (mod_s hT_34.1) (mod_r10 hT_34.1) ?_
          refine w_iload_n (i := 1) hX dX9_readPaper_74 rfl rfl ?_
          refine w_iconst hX dX9_readPaper_75 kI_2 ?_
          refine w_iaddN hX dX9_readPaper_76 ?_
          refine w_aload_n (i := 0) hX dX9_readPaper_77 rfl rfl ?_
          refine w_iconst hX dX9_readPaper_78 kI_2 ?_
          refine w_iconst hX dX9_readPaper_79 kI_0 ?_
          refine w_sipush hX dX9_readPaper_80 kS_1439 ?_
          refine w_callVI (As := [.int (nI 2), .int (nI 0), .int (nI 1439)]) (rest := [.int (nI (833 + (4 * (B 352)) + 2)), .ref (m + 6)]) (ci := 9) (o := m) (k2 := 0) (n2 := 0) hX dX9_readPaper_83 (s_m_afterf Γ (sI (sI (sI ν1 m 8 (nI (ft s 1 (n + 2)))) (m + 6) (833 + (4 * (B 352))) (nI 0)) (m + 6) (833 + (4 * (B 352)) + 1) (nI 0)) m s hT_34 (ft s 1 (n + 2)) hF_34 2 (nI 0) 1439) okX9_takeAfter (ltb rfl) (mod_s hT_34.1) ml_RX9_222 imX9_takeAfter seX9_takeAfter rfl (leb rfl) (leb rfl) rfl rfl (fun r9 μ9 hq9 => ?_)
          obtain ⟨hr9, hm9⟩ := hq9; rw [hr9, hm9]; clear hr9 hm9 r9 μ9
          refine w_iastN hX dX9_readPaper_86 (mod_a6 hT_34.1) (by omega) (by omega) ?_
          have t36 : same (fun o2 k2 => o2 = m + 6 ∧ k2 = 833 + (4 * (B 352)) + 2) (sI (sI (sI ν1 m 8 (nI (ft s 1 (n + 2)))) (m + 6) (833 + (4 * (B 352))) (nI 0)) (m + 6) (833 + (4 * (B 352)) + 1) (nI 0)) (sI (sI (sI (sI ν1 m 8 (nI (ft s 1 (n + 2)))) (m + 6) (833 + (4 * (B 352))) (nI 0)) (m + 6) (833 + (4 * (B 352)) + 1) (nI 0)) (m + 6) (833 + (4 * (B 352)) + 2) (nI 0)) := same.rf.sI ⟨rfl, rfl⟩
          have hT_36 := hT_34.sm t36 (fun o k h => by omega)
          have hs_36 := hs_34.tr (t36.up (fun o k h => by unfold SMm; omega))
          have hF_36 := hF_34.sm t36 (fun h => by omega) (fun h => by omega)
          have hf_36 := hf_34
          obtain ⟨n9_36, hn9_36⟩ := hF_36.2.2
          have hn_36 := (rch_le hT.2.2.2 _ hn9_36.1).2
          refine w_aload_n (i := 0) hX dX9_readPaper_87 rfl rfl ?_
          refine w_getR (q := m + 6) hX dX9_readPaper_88 fo_RX9_73 rfl (mod_s hT_36.1) (mod_r10 hT_36.1) ?_
          refine w_iload_n (i := 1) hX dX9_readPaper_91 rfl rfl ?_
          refine w_iconst hX dX9_readPaper_92 kI_3 ?_
          refine w_iaddN hX dX9_readPaper_93 ?_
          refine w_aload_n (i := 0) hX dX9_readPaper_94 rfl rfl ?_
          refine w_bipush hX dX9_readPaper_95 kB_14 ?_
          refine w_callVI (As := [.int (nI 14)]) (rest := [.int (nI (833 + (4 * (B 352)) + 3)), .ref (m + 6)]) (ci := 9) (o := m) (k2 := 0) (n2 := 0) hX dX9_readPaper_97 (s_m_hasWordf Γ (sI (sI (sI (sI ν1 m 8 (nI (ft s 1 (n + 2)))) (m + 6) (833 + (4 * (B 352))) (nI 0)) (m + 6) (833 + (4 * (B 352)) + 1) (nI 0)) (m + 6) (833 + (4 * (B 352)) + 2) (nI 0)) m s hT_36 (ft s 1 (n + 2)) hF_36 14) okX9_hasWord (ltb rfl) (mod_s hT_36.1) ml_RX9_167 imX9_hasWord seX9_hasWord rfl (leb rfl) (leb rfl) rfl rfl (fun r9 μ9 hq9 => ?_)
          obtain ⟨hr9, hm9⟩ := hq9; rw [hr9, hm9]; clear hr9 hm9 r9 μ9
          refine wb_eq (tgt := 107) hX dX9_readPaper_100 (by decide) (fun c14 => ?_) (fun c14 => ?_)
          · refine w_aload_n (i := 0) hX dX9_readPaper_107 rfl rfl ?_
            refine w_bipush hX dX9_readPaper_108 kB_15 ?_
            refine w_callVI (As := [.int (nI 15)]) (rest := [.int (nI (833 + (4 * (B 352)) + 3)), .ref (m + 6)]) (ci := 9) (o := m) (k2 := 0) (n2 := 0) hX dX9_readPaper_110 (s_m_hasWordf Γ (sI (sI (sI (sI ν1 m 8 (nI (ft s 1 (n + 2)))) (m + 6) (833 + (4 * (B 352))) (nI 0)) (m + 6) (833 + (4 * (B 352)) + 1) (nI 0)) (m + 6) (833 + (4 * (B 352)) + 2) (nI 0)) m s hT_36 (ft s 1 (n + 2)) hF_36 15) okX9_hasWord (ltb rfl) (mod_s hT_36.1) ml_RX9_167 imX9_hasWord seX9_hasWord rfl (leb rfl) (leb rfl) rfl rfl (fun r9 μ9 hq9 => ?_)
            obtain ⟨hr9, hm9⟩ := hq9; rw [hr9, hm9]; clear hr9 hm9 r9 μ9
            refine wb_eq (tgt := 120) hX dX9_readPaper_113 (by decide) (fun c15 => ?_) (fun c15 => ?_)
            · refine w_iconst hX dX9_readPaper_120 kI_0 ?_
              refine w_iastN hX dX9_readPaper_121 (mod_a6 hT_36.1) (by omega) (by omega) ?_
              have t39 : same (fun o2 k2 => o2 = m + 6 ∧ k2 = 833 + (4 * (B 352)) + 3) (sI (sI (sI (sI ν1 m 8 (nI (ft s 1 (n + 2)))) (m + 6) (833 + (4 * (B 352))) (nI 0)) (m + 6) (833 + (4 * (B 352)) + 1) (nI 0)) (m + 6) (833 + (4 * (B 352)) + 2) (nI 0)) (sI (sI (sI (sI (sI ν1 m 8 (nI (ft s 1 (n + 2)))) (m + 6) (833 + (4 * (B 352))) (nI 0)) (m + 6) (833 + (4 * (B 352)) + 1) (nI 0)) (m + 6) (833 + (4 * (B 352)) + 2) (nI 0)) (m + 6) (833 + (4 * (B 352)) + 3) (nI 0)) := same.rf.sI ⟨rfl, rfl⟩
              have hT_39 := hT_36.sm t39 (fun o k h => by omega)
              have hs_39 := hs_36.tr (t39.up (fun o k h => by unfold SMm; omega))
              have hF_39 := hF_36.sm t39 (fun h => by omega) (fun h => by omega)
              have hf_39 := hf_36
              obtain ⟨n9_39, hn9_39⟩ := hF_39.2.2
              have hn_39 := (rch_le hT.2.2.2 _ hn9_39.1).2
              have hpx : pPaper s n B M = .inl (ft s 1 (n + 2)) := by unfold pPaper; exact (bnd_r p1).trans (bnd_l (pWd_n p2))
              exact w_vret hX hE dX9_readPaper_122 (Or.inl rfl) (MX_l hpx hs_39 hF_39)
            · exact absurd ((Eq.refl false).symm.trans c15) (by decide)
          · exact absurd ((Eq.refl false).symm.trans c14) (by decide)
    · exact absurd c1 (by decide)
  · rw [e1]
    have hT_1 := hT.sm t1 (fun o k h => by unfold SMm at h; omega)
    obtain ⟨n9_1, hn9_1⟩ := hF_1.2.2
    have hf_1 := hF_1.2.1
    have hn_1 := (rch_le hT.2.2.2 _ hn9_1.1).2
    have hs_1 := hs.tr t1
    refine w_imulN hX dX9_readPaper_14 ?_
    refine w_iaddN hX dX9_readPaper_15 ?_
    refine w_istore_n (i := 1) (l2 := [some (.ref m), some (.int (nI (833 + (4 * v1))))]) hX dX9_readPaper_16 rfl (ltb rfl) rfl rfl ?_
    refine w_aload_n (i := 0) hX dX9_readPaper_17 rfl rfl ?_
    refine w_getI hX dX9_readPaper_18 fo_RX9_154 rfl (mod_s hT_1.1) ?_
    refine w_top (y := nI f1) hF_1.1 ?_
    refine wn_if_le (tgt := 25) hX dX9_readPaper_21 (by decide) (by omega) (fun c16 => ?_) (fun c16 => ?_)
    · exfalso; omega
    · have hpx : pPaper s n B M = .inl f1 := by unfold pPaper; exact bnd_l p1
      exact w_vret hX hE dX9_readPaper_24 (Or.inl rfl) (MX_l hpx hs_1 hF_1)
