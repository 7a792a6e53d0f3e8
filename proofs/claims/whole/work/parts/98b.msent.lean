def MX (m : Nat) (s : Tp) (res : Nat ⊕ PSt) (μ μ2 : Mem) : Prop := same (SMm m) μ μ2 ∧ match res with
  | .inl f => MFt μ2 m s f
  | .inr st => MSt μ2 m s st.1 ∧ MBk μ2 m st.2.1 ∧ MN μ2 m st.2.2
theorem MX_l {m f : Nat} {s : Tp} {res : Nat ⊕ PSt} {μ ν : Mem} (h : res = .inl f) (hs : same (SMm m) μ ν) (hF : MFt ν m s f) : MX m s res μ ν := by subst h; exact ⟨hs, hF⟩
theorem MX_r {m : Nat} {s : Tp} {res : Nat ⊕ PSt} {st : PSt} {μ ν : Mem} (h : res = .inr st) (hs : same (SMm m) μ ν) (hS : MSt ν m s st.1) (hB : MBk ν m st.2.1) (hN : MN ν m st.2.2) : MX m s res μ ν := by subst h; exact ⟨hs, hS, hB, hN⟩
theorem bnd_a {α β γ : Type} {x : Nat ⊕ α} {y : Nat ⊕ β} {g : β → Nat ⊕ γ} {f : Nat} (h : bnd x (fun _ => y) = .inl f) : bnd x (fun _ => bnd y g) = .inl f := by
  cases x with
  | inl e => cases h; rfl
  | inr a =>
    have h1 : y = .inl f := h
    show bnd y g = .inl f
    rw [h1]; rfl
set_option maxHeartbeats 1000000 in
theorem s_m_work_s (Γ : Gm) (μ : Mem) (m : Nat) (s : Tp) (n : Nat) (B : Nat → Nat) (M : NM) (hT : MT μ m s) (hS : MSt μ m s n) (hB : MBk μ m B) (hN : MN μ m M) (hP : PIv B M) (hkn : kd s n ≠ 0)  : SpV Γ MX9_readWork 4 0 0 [.ref m] μ (fun μ2 => MX m s (pWork s n B M) μ μ2) := by
  refine SpV.of okX9_readWork rfl [some (.ref m), none] ⟨rfl, trivial⟩ (leb rfl) (leb rfl) (fun X hX hE hnm => ?_)
  have hs : same (SMm m) μ μ := same.rf
  obtain ⟨hM9, hb0, hb85, hb126, hb352⟩ := M32 hP
  have hn := (rch_le hT.2.2.2 n hS.2.1).2
  have hL1 := hT.2.2.2.1
  refine w_sipush hX dX9_readWork_0 kS_566 ?_
  refine w_iconst hX dX9_readWork_3 kI_5 ?_
  refine w_aload_n (i := 0) hX dX9_readWork_4 rfl rfl ?_
  refine w_bipush hX dX9_readWork_5 kB_85 ?_
  refine w_bipush hX dX9_readWork_7 kB_8 ?_
  refine w_iconst hX dX9_readWork_9 kI_1 ?_
  refine w_callVI (As := [.int (nI 85), .int (nI 8), .int (nI 1)]) (rest := [.int (nI 5), .int (nI 566)]) (ci := 9) (o := m) (k2 := 0) (n2 := 0) hX dX9_readWork_10 (s_m_new Γ μ m s hT n hS M hN hP.2.2.2.2 B hB hkn 85 8 1 (by omega) (by omega) (by omega) (by omega) (fun h => by omega)) okX9_readNew (ltb rfl) (mod_s hT.1) ml_RX9_193 imX9_readNew seX9_readNew rfl (leb rfl) (leb rfl) rfl rfl (fun r1 ν1 hq9 => ?_)
  rcases hq9 with ⟨p1, e1, hS_1, hB_1, hN_1, t1⟩ | ⟨f1, v1, p1, e1, b1, hF_1, t1⟩
  · rw [e1]
    have hT_1 := hT.sm t1 (fun o k h => by unfold SMm at h; omega)
    have hn_1 := (rch_le hT.2.2.2 _ hS_1.2.1).2
    have hs_1 := hs.tr t1
    refine w_imulN hX dX9_readWork_13 ?_
    refine w_iaddN hX dX9_readWork_14 ?_
    refine w_istore_n (i := 1) (l2 := [some (.ref m), some (.int (nI (566 + (5 * (B 85)))))]) hX dX9_readWork_15 rfl (ltb rfl) rfl rfl ?_
    refine w_aload_n (i := 0) hX dX9_readWork_16 rfl rfl ?_
    refine w_getI hX dX9_readWork_17 fo_RX9_154 rfl (mod_s hT_1.1) ?_
    refine w_top (y := nI 0) hS_1.2.2 ?_
    refine wn_if_le (tgt := 24) hX dX9_readWork_20 (by decide) (by omega) (fun c1 => ?_) (fun c1 => ?_)
    · refine w_aload_n (i := 0) hX dX9_readWork_24 rfl rfl ?_
      refine w_getR (q := m + 6) hX dX9_readWork_25 fo_RX9_73 rfl (mod_s hT_1.1) (mod_r10 hT_1.1) ?_
      refine w_iload_n (i := 1) hX dX9_readWork_28 rfl rfl ?_
      refine w_aload_n (i := 0) hX dX9_readWork_29 rfl rfl ?_
      refine w_iconst hX dX9_readWork_30 kI_5 ?_
      refine w_iconst hX dX9_readWork_31 kI_0 ?_
      refine w_sipush hX dX9_readWork_32 kS_3649 ?_
      refine w_callVI (As := [.int (nI 5), .int (nI 0), .int (nI 3649)]) (rest := [.int (nI (566 + (5 * (B 85)))), .ref (m + 6)]) (ci := 9) (o := m) (k2 := 0) (n2 := 0) hX dX9_readWork_35 (s_m_after0 Γ ν1 m s hT_1 (n + 2) hS_1 5 0 3649 (by omega) (by omega) (by omega)) okX9_takeAfter (ltb rfl) (mod_s hT_1.1) ml_RX9_222 imX9_takeAfter seX9_takeAfter rfl (leb rfl) (leb rfl) rfl rfl (fun r2 ν2 hq9 => ?_)
      rcases hq9 with ⟨w2, p2, e2, hS_2, t2⟩ | ⟨f2, p2, e2, hF_2, t2⟩
      · rw [e2]
        have p2 : pNb s (n + 3) 0 3649 = .inr (vl s (n + 3)) := p2
        have hS_2 : MSt ν2 m s (n + 4) := hS_2
        obtain ⟨q2, -, l2, g2⟩ := pNb_inr p2
        have hT_2 := hT_1.sm t2 (fun o k h => by unfold SA2 at h; omega)
        have hB_2 := hB_1.sm t2 (fun o k h => by unfold SA2 at h; omega)
        have hN_2 := hN_1.sm t2 (fun o k h => by unfold SA2 at h; omega)
        have hn_2 := (rch_le hT_2.2.2.2 _ hS_2.2.1).2
        have hs_2 := hs_1.tr (t2.up (fun o k h => by unfold SA2 at h; unfold SMm; omega))
        refine w_iastN hX dX9_readWork_38 (mod_a6 hT_2.1) (by omega) (by omega) ?_
        have t3 : same (fun o2 k2 => o2 = m + 6 ∧ k2 = 566 + (5 * (B 85))) ν2 (sI ν2 (m + 6) (566 + (5 * (B 85))) (nI (vl s (n + 3)))) := same.rf.sI ⟨rfl, rfl⟩
        have hT_3 := hT_2.sm t3 (fun o k h => by omega)
        have hs_3 := hs_2.tr (t3.up (fun o k h => by unfold SMm; omega))
        have hS_3 := hS_2.sm t3 (fun h => by omega) (fun h => by omega)
        have hN_3 := hN_2.sm t3 (fun o k h => by omega)
        have hB_3 : MBk (sI ν2 (m + 6) (566 + (5 * (B 85))) (nI (vl s (n + 3)))) m (stB (stB B 85 (B 85 + 1)) (86 + 5 * B 85) ((vl s (n + 3)))) := by have h9 := hB_2.st (j := 86 + 5 * B 85) (v := (vl s (n + 3))) (by omega); rwa [show 480 + (86 + 5 * B 85) = 566 + (5 * (B 85)) by omega] at h9
        have hn_3 := hn_2
        refine w_aload_n (i := 0) hX dX9_readWork_39 rfl rfl ?_
        refine w_getR (q := m + 6) hX dX9_readWork_40 fo_RX9_73 rfl (mod_s hT_3.1) (mod_r10 hT_3.1) ?_
        refine w_iload_n (i := 1) hX dX9_readWork_43 rfl rfl ?_
        refine w_iconst hX dX9_readWork_44 kI_1 ?_
        refine w_iaddN hX dX9_readWork_45 ?_
        refine w_aload_n (i := 0) hX dX9_readWork_46 rfl rfl ?_
        refine w_bipush hX dX9_readWork_47 kB_6 ?_
        refine w_iconst hX dX9_readWork_49 kI_0 ?_
        refine w_sipush hX dX9_readWork_50 kS_1440 ?_
        refine w_callVI (As := [.int (nI 6), .int (nI 0), .int (nI 1440)]) (rest := [.int (nI (566 + (5 * (B 85)) + 1)), .ref (m + 6)]) (ci := 9) (o := m) (k2 := 0) (n2 := 0) hX dX9_readWork_53 (s_m_after0 Γ (sI ν2 (m + 6) (566 + (5 * (B 85))) (nI (vl s (n + 3)))) m s hT_3 (n + 4) hS_3 6 0 1440 (by omega) (by omega) (by omega)) okX9_takeAfter (ltb rfl) (mod_s hT_3.1) ml_RX9_222 imX9_takeAfter seX9_takeAfter rfl (leb rfl) (leb rfl) rfl rfl (fun r4 ν4 hq9 => ?_)
        rcases hq9 with ⟨w4, p4, e4, hS_4, t4⟩ | ⟨f4, p4, e4, hF_4, t4⟩
        · rw [e4]
          have p4 : pNb s (n + 5) 0 1440 = .inr (vl s (n + 5)) := p4
          have hS_4 : MSt ν4 m s (n + 6) := hS_4
          obtain ⟨q4, -, l4, g4⟩ := pNb_inr p4
          have hT_4 := hT_3.sm t4 (fun o k h => by unfold SA2 at h; omega)
          have hB_4 := hB_3.sm t4 (fun o k h => by unfold SA2 at h; omega)
          have hN_4 := hN_3.sm t4 (fun o k h => by unfold SA2 at h; omega)
          have hn_4 := (rch_le hT_4.2.2.2 _ hS_4.2.1).2
          have hs_4 := hs_3.tr (t4.up (fun o k h => by unfold SA2 at h; unfold SMm; omega))
          refine w_iastN hX dX9_readWork_56 (mod_a6 hT_4.1) (by omega) (by omega) ?_
          have t5 : same (fun o2 k2 => o2 = m + 6 ∧ k2 = 566 + (5 * (B 85)) + 1) ν4 (sI ν4 (m + 6) (566 + (5 * (B 85)) + 1) (nI (vl s (n + 5)))) := same.rf.sI ⟨rfl, rfl⟩
          have hT_5 := hT_4.sm t5 (fun o k h => by omega)
          have hs_5 := hs_4.tr (t5.up (fun o k h => by unfold SMm; omega))
          have hS_5 := hS_4.sm t5 (fun h => by omega) (fun h => by omega)
          have hN_5 := hN_4.sm t5 (fun o k h => by omega)
          have hB_5 : MBk (sI ν4 (m + 6) (566 + (5 * (B 85)) + 1) (nI (vl s (n + 5)))) m (stB (stB (stB B 85 (B 85 + 1)) (86 + 5 * B 85) ((vl s (n + 3)))) (86 + 5 * B 85 + 1) ((vl s (n + 5)))) := by have h9 := hB_4.st (j := 86 + 5 * B 85 + 1) (v := (vl s (n + 5))) (by omega); rwa [show 480 + (86 + 5 * B 85 + 1) = 566 + (5 * (B 85)) + 1 by omega] at h9
          have hn_5 := hn_4
          refine w_aload_n (i := 0) hX dX9_readWork_57 rfl rfl ?_
          refine w_getR (q := m + 6) hX dX9_readWork_58 fo_RX9_73 rfl (mod_s hT_5.1) (mod_r10 hT_5.1) ?_
          refine w_iload_n (i := 1) hX dX9_readWork_61 rfl rfl ?_
          refine w_iconst hX dX9_readWork_62 kI_2 ?_
          refine w_iaddN hX dX9_readWork_63 ?_
          refine w_aload_n (i := 0) hX dX9_readWork_64 rfl rfl ?_
          refine w_bipush hX dX9_readWork_65 kB_7 ?_
          refine w_aload_n (i := 0) hX dX9_readWork_67 rfl rfl ?_
          refine w_getR (q := m + 6) hX dX9_readWork_68 fo_RX9_73 rfl (mod_s hT_5.1) (mod_r10 hT_5.1) ?_
          refine w_iload_n (i := 1) hX dX9_readWork_71 rfl rfl ?_
          refine w_iconst hX dX9_readWork_72 kI_1 ?_
          refine w_iaddN hX dX9_readWork_73 ?_
          refine w_ialdN hX dX9_readWork_74 (mod_a6 hT_5.1) (by omega) (by omega) ?_
          refine w_top (y := nI ((vl s (n + 5)))) gI_same ?_
          refine w_iconst hX dX9_readWork_75 kI_1 ?_
          refine w_iaddN hX dX9_readWork_76 ?_
          refine w_sipush hX dX9_readWork_77 kS_1440 ?_
          refine w_callVI (As := [.int (nI 7), .int (nI ((vl s (n + 5)) + 1)), .int (nI 1440)]) (rest := [.int (nI (566 + (5 * (B 85)) + 2)), .ref (m + 6)]) (ci := 9) (o := m) (k2 := 0) (n2 := 0) hX dX9_readWork_80 (s_m_after0 Γ (sI ν4 (m + 6) (566 + (5 * (B 85)) + 1) (nI (vl s (n + 5)))) m s hT_5 (n + 6) hS_5 7 ((vl s (n + 5)) + 1) 1440 (by omega) (by omega) (by omega)) okX9_takeAfter (ltb rfl) (mod_s hT_5.1) ml_RX9_222 imX9_takeAfter seX9_takeAfter rfl (leb rfl) (leb rfl) rfl rfl (fun r6 ν6 hq9 => ?_)
          rcases hq9 with ⟨w6, p6, e6, hS_6, t6⟩ | ⟨f6, p6, e6, hF_6, t6⟩
          · rw [e6]
            have p6 : pNb s (n + 7) ((vl s (n + 5)) + 1) 1440 = .inr (vl s (n + 7)) := p6
            have hS_6 : MSt ν6 m s (n + 8) := hS_6
            obtain ⟨q6, -, l6, g6⟩ := pNb_inr p6
            have hT_6 := hT_5.sm t6 (fun o k h => by unfold SA2 at h; omega)
            have hB_6 := hB_5.sm t6 (fun o k h => by unfold SA2 at h; omega)
            have hN_6 := hN_5.sm t6 (fun o k h => by unfold SA2 at h; omega)
            have hn_6 := (rch_le hT_6.2.2.2 _ hS_6.2.1).2
            have hs_6 := hs_5.tr (t6.up (fun o k h => by unfold SA2 at h; unfold SMm; omega))
            refine w_iastN hX dX9_readWork_83 (mod_a6 hT_6.1) (by omega) (by omega) ?_
            have t7 : same (fun o2 k2 => o2 = m + 6 ∧ k2 = 566 + (5 * (B 85)) + 2) ν6 (sI ν6 (m + 6) (566 + (5 * (B 85)) + 2) (nI (vl s (n + 7)))) := same.rf.sI ⟨rfl, rfl⟩
            have hT_7 := hT_6.sm t7 (fun o k h => by omega)
            have hs_7 := hs_6.tr (t7.up (fun o k h => by unfold SMm; omega))
            have hS_7 := hS_6.sm t7 (fun h => by omega) (fun h => by omega)
            have hN_7 := hN_6.sm t7 (fun o k h => by omega)
            have hB_7 : MBk (sI ν6 (m + 6) (566 + (5 * (B 85)) + 2) (nI (vl s (n + 7)))) m (stB (stB (stB (stB B 85 (B 85 + 1)) (86 + 5 * B 85) ((vl s (n + 3)))) (86 + 5 * B 85 + 1) ((vl s (n + 5)))) (86 + 5 * B 85 + 2) ((vl s (n + 7)))) := by have h9 := hB_6.st (j := 86 + 5 * B 85 + 2) (v := (vl s (n + 7))) (by omega); rwa [show 480 + (86 + 5 * B 85 + 2) = 566 + (5 * (B 85)) + 2 by omega] at h9
            have hn_7 := hn_6
            refine w_aload_n (i := 0) hX dX9_readWork_84 rfl rfl ?_
            refine w_getR (q := m + 6) hX dX9_readWork_85 fo_RX9_73 rfl (mod_s hT_7.1) (mod_r10 hT_7.1) ?_
            refine w_iload_n (i := 1) hX dX9_readWork_88 rfl rfl ?_
            refine w_iconst hX dX9_readWork_89 kI_3 ?_
            refine w_iaddN hX dX9_readWork_90 ?_
            refine w_aload_n (i := 0) hX dX9_readWork_91 rfl rfl ?_
            refine w_bipush hX dX9_readWork_92 kB_8 ?_
            refine w_iconst hX dX9_readWork_94 kI_1 ?_
            refine w_sipush hX dX9_readWork_95 kS_1440 ?_
            refine w_callVI (As := [.int (nI 8), .int (nI 1), .int (nI 1440)]) (rest := [.int (nI (566 + (5 * (B 85)) + 3)), .ref (m + 6)]) (ci := 9) (o := m) (k2 := 0) (n2 := 0) hX dX9_readWork_98 (s_m_after0 Γ (sI ν6 (m + 6) (566 + (5 * (B 85)) + 2) (nI (vl s (n + 7)))) m s hT_7 (n + 8) hS_7 8 1 1440 (by omega) (by omega) (by omega)) okX9_takeAfter (ltb rfl) (mod_s hT_7.1) ml_RX9_222 imX9_takeAfter seX9_takeAfter rfl (leb rfl) (leb rfl) rfl rfl (fun r8 ν8 hq9 => ?_)
            rcases hq9 with ⟨w8, p8, e8, hS_8, t8⟩ | ⟨f8, p8, e8, hF_8, t8⟩
            · rw [e8]
              have p8 : pNb s (n + 9) 1 1440 = .inr (vl s (n + 9)) := p8
              have hS_8 : MSt ν8 m s (n + 10) := hS_8
              obtain ⟨q8, -, l8, g8⟩ := pNb_inr p8
              have hT_8 := hT_7.sm t8 (fun o k h => by unfold SA2 at h; omega)
              have hB_8 := hB_7.sm t8 (fun o k h => by unfold SA2 at h; omega)
              have hN_8 := hN_7.sm t8 (fun o k h => by unfold SA2 at h; omega)
              have hn_8 := (rch_le hT_8.2.2.2 _ hS_8.2.1).2
              have hs_8 := hs_7.tr (t8.up (fun o k h => by unfold SA2 at h; unfold SMm; omega))
              refine w_iastN hX dX9_readWork_101 (mod_a6 hT_8.1) (by omega) (by omega) ?_
              have t9 : same (fun o2 k2 => o2 = m + 6 ∧ k2 = 566 + (5 * (B 85)) + 3) ν8 (sI ν8 (m + 6) (566 + (5 * (B 85)) + 3) (nI (vl s (n + 9)))) := same.rf.sI ⟨rfl, rfl⟩
              have hT_9 := hT_8.sm t9 (fun o k h => by omega)
              have hs_9 := hs_8.tr (t9.up (fun o k h => by unfold SMm; omega))
              have hS_9 := hS_8.sm t9 (fun h => by omega) (fun h => by omega)
              have hN_9 := hN_8.sm t9 (fun o k h => by omega)
              have hB_9 : MBk (sI ν8 (m + 6) (566 + (5 * (B 85)) + 3) (nI (vl s (n + 9)))) m (stB (stB (stB (stB (stB B 85 (B 85 + 1)) (86 + 5 * B 85) ((vl s (n + 3)))) (86 + 5 * B 85 + 1) ((vl s (n + 5)))) (86 + 5 * B 85 + 2) ((vl s (n + 7)))) (86 + 5 * B 85 + 3) ((vl s (n + 9)))) := by have h9 := hB_8.st (j := 86 + 5 * B 85 + 3) (v := (vl s (n + 9))) (by omega); rwa [show 480 + (86 + 5 * B 85 + 3) = 566 + (5 * (B 85)) + 3 by omega] at h9
              have hn_9 := hn_8
              refine w_aload_n (i := 0) hX dX9_readWork_102 rfl rfl ?_
              refine w_getR (q := m + 6) hX dX9_readWork_103 fo_RX9_73 rfl (mod_s hT_9.1) (mod_r10 hT_9.1) ?_
              refine w_iload_n (i := 1) hX dX9_readWork_106 rfl rfl ?_
              refine w_iconst hX dX9_readWork_107 kI_4 ?_
              refine w_iaddN hX dX9_readWork_108 ?_
              refine w_aload_n (i := 0) hX dX9_readWork_109 rfl rfl ?_
              refine w_bipush hX dX9_readWork_110 kB_9 ?_
              refine w_iconst hX dX9_readWork_112 kI_0 ?_
              refine w_sipush hX dX9_readWork_113 kS_999 ?_
              refine w_callVI (As := [.int (nI 9), .int (nI 0), .int (nI 999)]) (rest := [.int (nI (566 + (5 * (B 85)) + 4)), .ref (m + 6)]) (ci := 9) (o := m) (k2 := 0) (n2 := 0) hX dX9_readWork_116 (s_m_after0 Γ (sI ν8 (m + 6) (566 + (5 * (B 85)) + 3) (nI (vl s (n + 9)))) m s hT_9 (n + 10) hS_9 9 0 999 (by omega) (by omega) (by omega)) okX9_takeAfter (ltb rfl) (mod_s hT_9.1) ml_RX9_222 imX9_takeAfter seX9_takeAfter rfl (leb rfl) (leb rfl) rfl rfl (fun r10 ν10 hq9 => ?_)
              rcases hq9 with ⟨w10, p10, e10, hS_10, t10⟩ | ⟨f10, p10, e10, hF_10, t10⟩
              · rw [e10]
                have p10 : pNb s (n + 11) 0 999 = .inr (vl s (n + 11)) := p10
                have hS_10 : MSt ν10 m s (n + 12) := hS_10
                obtain ⟨q10, -, l10, g10⟩ := pNb_inr p10
                have hT_10 := hT_9.sm t10 (fun o k h => by unfold SA2 at h; omega)
                have hB_10 := hB_9.sm t10 (fun o k h => by unfold SA2 at h; omega)
                have hN_10 := hN_9.sm t10 (fun o k h => by unfold SA2 at h; omega)
                have hn_10 := (rch_le hT_10.2.2.2 _ hS_10.2.1).2
                have hs_10 := hs_9.tr (t10.up (fun o k h => by unfold SA2 at h; unfold SMm; omega))
                refine w_iastN hX dX9_readWork_119 (mod_a6 hT_10.1) (by omega) (by omega) ?_
                have t11 : same (fun o2 k2 => o2 = m + 6 ∧ k2 = 566 + (5 * (B 85)) + 4) ν10 (sI ν10 (m + 6) (566 + (5 * (B 85)) + 4) (nI (vl s (n + 11)))) := same.rf.sI ⟨rfl, rfl⟩
                have hT_11 := hT_10.sm t11 (fun o k h => by omega)
                have hs_11 := hs_10.tr (t11.up (fun o k h => by unfold SMm; omega))
                have hS_11 := hS_10.sm t11 (fun h => by omega) (fun h => by omega)
                have hN_11 := hN_10.sm t11 (fun o k h => by omega)
                have hB_11 : MBk (sI ν10 (m + 6) (566 + (5 * (B 85)) + 4) (nI (vl s (n + 11)))) m (stB (stB (stB (stB (stB (stB B 85 (B 85 + 1)) (86 + 5 * B 85) ((vl s (n + 3)))) (86 + 5 * B 85 + 1) ((vl s (n + 5)))) (86 + 5 * B 85 + 2) ((vl s (n + 7)))) (86 + 5 * B 85 + 3) ((vl s (n + 9)))) (86 + 5 * B 85 + 4) ((vl s (n + 11)))) := by have h9 := hB_10.st (j := 86 + 5 * B 85 + 4) (v := (vl s (n + 11))) (by omega); rwa [show 480 + (86 + 5 * B 85 + 4) = 566 + (5 * (B 85)) + 4 by omega] at h9
                have hn_11 := hn_10
                have hpx : pWork s n B M = .inr (n + 12, (stB (stB (stB (stB (stB (stB B 85 (B 85 + 1)) (86 + 5 * B 85) ((vl s (n + 3)))) (86 + 5 * B 85 + 1) ((vl s (n + 5)))) (86 + 5 * B 85 + 2) ((vl s (n + 7)))) (86 + 5 * B 85 + 3) ((vl s (n + 9)))) (86 + 5 * B 85 + 4) ((vl s (n + 11)))), (addM M (wd s (n + 1)) 1 (B 85))) := by unfold pWork; exact (bnd_r p1).trans ((bnd_r (pWd_y w2)).trans ((bnd_r p2).trans ((bnd_r (pWd_y w4)).trans ((bnd_r p4).trans ((bnd_r (pWd_y w6)).trans ((bnd_r p6).trans ((bnd_r (pWd_y w8)).trans ((bnd_r p8).trans ((bnd_r (pWd_y w10)).trans (bnd_r p10))))))))))
                exact w_vret hX hE dX9_readWork_120 (Or.inl rfl) (MX_r hpx hs_11 hS_11 hB_11 hN_11)
              · rw [e10]
                let β10 := ν10
                have hT_10 := hT_9.sm t10 (fun o k h => by unfold SA2 at h; omega)
                obtain ⟨n9_10, hn9_10⟩ := hF_10.2.2
                have hf_10 := hF_10.2.1
                have hn_10 := (rch_le hT_10.2.2.2 _ hn9_10.1).2
                have hs_10 := hs_9.tr (t10.up (fun o k h => by unfold SA2 at h; unfold SMm; omega))
                refine w_iastN hX dX9_readWork_119 (mod_a6 hT_10.1) (by omega) (by omega) ?_
                have t12 : same (fun o2 k2 => o2 = m + 6 ∧ k2 = 566 + (5 * (B 85)) + 4) ν10 (sI ν10 (m + 6) (566 + (5 * (B 85)) + 4) (nI 0)) := same.rf.sI ⟨rfl, rfl⟩
                have hT_12 := hT_10.sm t12 (fun o k h => by omega)
                have hs_12 := hs_10.tr (t12.up (fun o k h => by unfold SMm; omega))
                have hF_12 := hF_10.sm t12 (fun h => by omega) (fun h => by omega)
                have hf_12 := hf_10
                obtain ⟨n9_12, hn9_12⟩ := hF_12.2.2
                have hn_12 := (rch_le hT.2.2.2 _ hn9_12.1).2
                have hpx : pWork s n B M = .inl f10 := by unfold pWork; exact (bnd_r p1).trans ((bnd_r (pWd_y w2)).trans ((bnd_r p2).trans ((bnd_r (pWd_y w4)).trans ((bnd_r p4).trans ((bnd_r (pWd_y w6)).trans ((bnd_r p6).trans ((bnd_r (pWd_y w8)).trans ((bnd_r p8).trans (bnd_a p10)))))))))
                exact w_vret hX hE dX9_readWork_120 (Or.inl rfl) (MX_l hpx hs_12 hF_12)
            · rw [e8]
              let β8 := ν8
              have hT_8 := hT_7.sm t8 (fun o k h => by unfold SA2 at h; omega)
              obtain ⟨n9_8, hn9_8⟩ := hF_8.2.2
              have hf_8 := hF_8.2.1
              have hn_8 := (rch_le hT_8.2.2.2 _ hn9_8.1).2
              have hs_8 := hs_7.tr (t8.up (fun o k h => by unfold SA2 at h; unfold SMm; omega))
              refine w_iastN hX dX9_readWork_101 (mod_a6 hT_8.1) (by omega) (by omega) ?_
              have t13 : same (fun o2 k2 => o2 = m + 6 ∧ k2 = 566 + (5 * (B 85)) + 3) ν8 (sI ν8 (m + 6) (566 + (5 * (B 85)) + 3) (nI 0)) := same.rf.sI ⟨rfl, rfl⟩
              have hT_13 := hT_8.sm t13 (fun o k h => by omega)
              have hs_13 := hs_8.tr (t13.up (fun o k h => by unfold SMm; omega))
              have hF_13 := hF_8.sm t13 (fun h => by omega) (fun h => by omega)
              have hf_13 := hf_8
              obtain ⟨n9_13, hn9_13⟩ := hF_13.2.2
              have hn_13 := (rch_le hT.2.2.2 _ hn9_13.1).2
              refine w_aload_n (i := 0) hX dX9_readWork_102 rfl rfl ?_
              refine w_getR (q := m + 6) hX dX9_readWork_103 fo_RX9_73 rfl (mod_s hT_13.1) (mod_r10 hT_13.1) ?_
              refine w_iload_n (i := 1) hX dX9_readWork_106 rfl rfl ?_
              refine w_iconst hX dX9_readWork_107 kI_4 ?_
              refine w_iaddN hX dX9_readWork_108 ?_
              refine w_aload_n (i := 0) hX dX9_readWork_109 rfl rfl ?_
              refine w_bipush hX dX9_readWork_110 kB_9 ?_
              refine w_iconst hX dX9_readWork_112 kI_0 ?_
              refine w_sipush hX dX9_readWork_113 kS_999 ?_
              refine w_callVI (As := [.int (nI 9), .int (nI 0), .int (nI 999)]) (rest := [.int (nI (566 + (5 * (B 85)) + 4)), .ref (m + 6)]) (ci := 9) (o := m) (k2 := 0) (n2 := 0) hX dX9_readWork_116 (s_m_afterf Γ (sI ν8 (m + 6) (566 + (5 * (B 85)) + 3) (nI 0)) m s hT_13 f8 hF_13 9 (nI 0) 999) okX9_takeAfter (ltb rfl) (mod_s hT_13.1) ml_RX9_222 imX9_takeAfter seX9_takeAfter rfl (leb rfl) (leb rfl) rfl rfl (fun r9 μ9 hq9 => ?_)
              obtain ⟨hr9, hm9⟩ := hq9; rw [hr9, hm9]; clear hr9 hm9 r9 μ9
              refine w_iastN hX dX9_readWork_119 (mod_a6 hT_13.1) (by omega) (by omega) ?_
              have t15 : same (fun o2 k2 => o2 = m + 6 ∧ k2 = 566 + (5 * (B 85)) + 4) (sI ν8 (m + 6) (566 + (5 * (B 85)) + 3) (nI 0)) (sI (sI ν8 (m + 6) (566 + (5 * (B 85)) + 3) (nI 0)) (m + 6) (566 + (5 * (B 85)) + 4) (nI 0)) := same.rf.sI ⟨rfl, rfl⟩
              have hT_15 := hT_13.sm t15 (fun o k h => by omega)
              have hs_15 := hs_13.tr (t15.up (fun o k h => by unfold SMm; omega))
              have hF_15 := hF_13.sm t15 (fun h => by omega) (fun h => by omega)
              have hf_15 := hf_13
              obtain ⟨n9_15, hn9_15⟩ := hF_15.2.2
              have hn_15 := (rch_le hT.2.2.2 _ hn9_15.1).2
              have hpx : pWork s n B M = .inl f8 := by unfold pWork; exact (bnd_r p1).trans ((bnd_r (pWd_y w2)).trans ((bnd_r p2).trans ((bnd_r (pWd_y w4)).trans ((bnd_r p4).trans ((bnd_r (pWd_y w6)).trans ((bnd_r p6).trans (bnd_a p8)))))))
              exact w_vret hX hE dX9_readWork_120 (Or.inl rfl) (MX_l hpx hs_15 hF_15)
          · rw [e6]
            let β6 := ν6
            have hT_6 := hT_5.sm t6 (fun o k h => by unfold SA2 at h; omega)
            obtain ⟨n9_6, hn9_6⟩ := hF_6.2.2
            have hf_6 := hF_6.2.1
            have hn_6 := (rch_le hT_6.2.2.2 _ hn9_6.1).2
            have hs_6 := hs_5.tr (t6.up (fun o k h => by unfold SA2 at h; unfold SMm; omega))
            refine w_iastN hX dX9_readWork_83 (mod_a6 hT_6.1) (by omega) (by omega) ?_
            have t16 : same (fun o2 k2 => o2 = m + 6 ∧ k2 = 566 + (5 * (B 85)) + 2) ν6 (sI ν6 (m + 6) (566 + (5 * (B 85)) + 2) (nI 0)) := same.rf.sI ⟨rfl, rfl⟩
            have hT_16 := hT_6.sm t16 (fun o k h => by omega)
            have hs_16 := hs_6.tr (t16.up (fun o k h => by unfold SMm; omega))
            have hF_16 := hF_6.sm t16 (fun h => by omega) (fun h => by omega)
            have hf_16 := hf_6
            obtain ⟨n9_16, hn9_16⟩ := hF_16.2.2
            have hn_16 := (rch_le hT.2.2.2 _ hn9_16.1).2
            refine w_aload_n (i := 0) hX dX9_readWork_84 rfl rfl ?_
            refine w_getR (q := m + 6) hX dX9_readWork_85 fo_RX9_73 rfl (mod_s hT_16.1) (mod_r10 hT_16.1) ?_
            refine w_iload_n (i := 1) hX dX9_readWork_88 rfl rfl ?_
            refine w_iconst hX dX9_readWork_89 kI_3 ?_
            refine w_iaddN hX dX9_readWork_90 ?_
            refine w_aload_n (i := 0) hX dX9_readWork_91 rfl rfl ?_
            refine w_bipush hX dX9_readWork_92 kB_8 ?_
            refine w_iconst hX dX9_readWork_94 kI_1 ?_
            refine w_sipush hX dX9_readWork_95 kS_1440 ?_
            refine w_callVI (As := [.int (nI 8), .int (nI 1), .int (nI 1440)]) (rest := [.int (nI (566 + (5 * (B 85)) + 3)), .ref (m + 6)]) (ci := 9) (o := m) (k2 := 0) (n2 := 0) hX dX9_readWork_98 (s_m_afterf Γ (sI ν6 (m + 6) (566 + (5 * (B 85)) + 2) (nI 0)) m s hT_16 f6 hF_16 8 (nI 1) 1440) okX9_takeAfter (ltb rfl) (mod_s hT_16.1) ml_RX9_222 imX9_takeAfter seX9_takeAfter rfl (leb rfl) (leb rfl) rfl rfl (fun r9 μ9 hq9 => ?_)
            obtain ⟨hr9, hm9⟩ := hq9; rw [hr9, hm9]; clear hr9 hm9 r9 μ9
            refine w_iastN hX dX9_readWork_101 (mod_a6 hT_16.1) (by omega) (by omega) ?_
            have t18 : same (fun o2 k2 => o2 = m + 6 ∧ k2 = 566 + (5 * (B 85)) + 3) (sI ν6 (m + 6) (566 + (5 * (B 85)) + 2) (nI 0)) (sI (sI ν6 (m + 6) (566 + (5 * (B 85)) + 2) (nI 0)) (m + 6) (566 + (5 * (B 85)) + 3) (nI 0)) := same.rf.sI ⟨rfl, rfl⟩
            have hT_18 := hT_16.sm t18 (fun o k h => by omega)
            have hs_18 := hs_16.tr (t18.up (fun o k h => by unfold SMm; omega))
            have hF_18 := hF_16.sm t18 (fun h => by omega) (fun h => by omega)
            have hf_18 := hf_16
            obtain ⟨n9_18, hn9_18⟩ := hF_18.2.2
            have hn_18 := (rch_le hT.2.2.2 _ hn9_18.1).2
            refine w_aload_n (i := 0) hX dX9_readWork_102 rfl rfl ?_
            refine w_getR (q := m + 6) hX dX9_readWork_103 fo_RX9_73 rfl (mod_s hT_18.1) (mod_r10 hT_18.1) ?_
            refine w_iload_n (i := 1) hX dX9_readWork_106 rfl rfl ?_
            refine w_iconst hX dX9_readWork_107 kI_4 ?_
            refine w_iaddN hX dX9_readWork_108 ?_
            refine w_aload_n (i := 0) hX dX9_readWork_109 rfl rfl ?_
            refine w_bipush hX dX9_readWork_110 kB_9 ?_
            refine w_iconst hX dX9_readWork_112 kI_0 ?_
            refine w_sipush hX dX9_readWork_113 kS_999 ?_
            refine w_callVI (As := [.int (nI 9), .int (nI 0), .int (nI 999)]) (rest := [.int (nI (566 + (5 * (B 85)) + 4)), .ref (m + 6)]) (ci := 9) (o := m) (k2 := 0) (n2 := 0) hX dX9_readWork_116 (s_m_afterf Γ (sI (sI ν6 (m + 6) (566 + (5 * (B 85)) + 2) (nI 0)) (m + 6) (566 + (5 * (B 85)) + 3) (nI 0)) m s hT_18 f6 hF_18 9 (nI 0) 999) okX9_takeAfter (ltb rfl) (mod_s hT_18.1) ml_RX9_222 imX9_takeAfter seX9_takeAfter rfl (leb rfl) (leb rfl) rfl rfl (fun r9 μ9 hq9 => ?_)
            obtain ⟨hr9, hm9⟩ := hq9; rw [hr9, hm9]; clear hr9 hm9 r9 μ9
            refine w_iastN hX dX9_readWork_119 (mod_a6 hT_18.1) (by omega) (by omega) ?_
            have t20 : same (fun o2 k2 => o2 = m + 6 ∧ k2 = 566 + (5 * (B 85)) + 4) (sI (sI ν6 (m + 6) (566 + (5 * (B 85)) + 2) (nI 0)) (m + 6) (566 + (5 * (B 85)) + 3) (nI 0)) (sI (sI (sI ν6 (m + 6) (566 + (5 * (B 85)) + 2) (nI 0)) (m + 6) (566 + (5 * (B 85)) + 3) (nI 0)) (m + 6) (566 + (5 * (B 85)) + 4) (nI 0)) := same.rf.sI ⟨rfl, rfl⟩
            have hT_20 := hT_18.sm t20 (fun o k h => by omega)
            have hs_20 := hs_18.tr (t20.up (fun o k h => by unfold SMm; omega))
            have hF_20 := hF_18.sm t20 (fun h => by omega) (fun h => by omega)
            have hf_20 := hf_18
            obtain ⟨n9_20, hn9_20⟩ := hF_20.2.2
            have hn_20 := (rch_le hT.2.2.2 _ hn9_20.1).2
            have hpx : pWork s n B M = .inl f6 := by unfold pWork; exact (bnd_r p1).trans ((bnd_r (pWd_y w2)).trans ((bnd_r p2).trans ((bnd_r (pWd_y w4)).trans ((bnd_r p4).trans (bnd_a p6)))))
            exact w_vret hX hE dX9_readWork_120 (Or.inl rfl) (MX_l hpx hs_20 hF_20)
        · rw [e4]
          let β4 := ν4
          have hT_4 := hT_3.sm t4 (fun o k h => by unfold SA2 at h; omega)
          obtain ⟨n9_4, hn9_4⟩ := hF_4.2.2
          have hf_4 := hF_4.2.1
          have hn_4 := (rch_le hT_4.2.2.2 _ hn9_4.1).2
          have hs_4 := hs_3.tr (t4.up (fun o k h => by unfold SA2 at h; unfold SMm; omega))
          refine w_iastN hX dX9_readWork_56 (mod_a6 hT_4.1) (by omega) (by omega) ?_
          have t21 : same (fun o2 k2 => o2 = m + 6 ∧ k2 = 566 + (5 * (B 85)) + 1) ν4 (sI ν4 (m + 6) (566 + (5 * (B 85)) + 1) (nI 0)) := same.rf.sI ⟨rfl, rfl⟩
          have hT_21 := hT_4.sm t21 (fun o k h => by omega)
          have hs_21 := hs_4.tr (t21.up (fun o k h => by unfold SMm; omega))
          have hF_21 := hF_4.sm t21 (fun h => by omega) (fun h => by omega)
          have hf_21 := hf_4
          obtain ⟨n9_21, hn9_21⟩ := hF_21.2.2
          have hn_21 := (rch_le hT.2.2.2 _ hn9_21.1).2
          refine w_aload_n (i := 0) hX dX9_readWork_57 rfl rfl ?_
          refine w_getR (q := m + 6) hX dX9_readWork_58 fo_RX9_73 rfl (mod_s hT_21.1) (mod_r10 hT_21.1) ?_
          refine w_iload_n (i := 1) hX dX9_readWork_61 rfl rfl ?_
          refine w_iconst hX dX9_readWork_62 kI_2 ?_
          refine w_iaddN hX dX9_readWork_63 ?_
          refine w_aload_n (i := 0) hX dX9_readWork_64 rfl rfl ?_
          refine w_bipush hX dX9_readWork_65 kB_7 ?_
          refine w_aload_n (i := 0) hX dX9_readWork_67 rfl rfl ?_
          refine w_getR (q := m + 6) hX dX9_readWork_68 fo_RX9_73 rfl (mod_s hT_21.1) (mod_r10 hT_21.1) ?_
          refine w_iload_n (i := 1) hX dX9_readWork_71 rfl rfl ?_
          refine w_iconst hX dX9_readWork_72 kI_1 ?_
          refine w_iaddN hX dX9_readWork_73 ?_
          refine w_ialdN hX dX9_readWork_74 (mod_a6 hT_21.1) (by omega) (by omega) ?_
          refine w_top (y := nI 0) gI_same ?_
          refine w_iconst hX dX9_readWork_75 kI_1 ?_
          refine w_iaddN hX dX9_readWork_76 ?_
          refine w_sipush hX dX9_readWork_77 kS_1440 ?_
          refine w_callVI (As := [.int (nI 7), .int (nI (0 + 1)), .int (nI 1440)]) (rest := [.int (nI (566 + (5 * (B 85)) + 2)), .ref (m + 6)]) (ci := 9) (o := m) (k2 := 0) (n2 := 0) hX dX9_readWork_80 (s_m_afterf Γ (sI ν4 (m + 6) (566 + (5 * (B 85)) + 1) (nI 0)) m s hT_21 f4 hF_21 7 (nI (0 + 1)) 1440) okX9_takeAfter (ltb rfl) (mod_s hT_21.1) ml_RX9_222 imX9_takeAfter seX9_takeAfter rfl (leb rfl) (leb rfl) rfl rfl (fun r9 μ9 hq9 => ?_)
          obtain ⟨hr9, hm9⟩ := hq9; rw [hr9, hm9]; clear hr9 hm9 r9 μ9
          refine w_iastN hX dX9_readWork_83 (mod_a6 hT_21.1) (by omega) (by omega) ?_
          have t23 : same (fun o2 k2 => o2 = m + 6 ∧ k2 = 566 + (5 * (B 85)) + 2) (sI ν4 (m + 6) (566 + (5 * (B 85)) + 1) (nI 0)) (sI (sI ν4 (m + 6) (566 + (5 * (B 85)) + 1) (nI 0)) (m + 6) (566 + (5 * (B 85)) + 2) (nI 0)) := same.rf.sI ⟨rfl, rfl⟩
          have hT_23 := hT_21.sm t23 (fun o k h => by omega)
          have hs_23 := hs_21.tr (t23.up (fun o k h => by unfold SMm; omega))
          have hF_23 := hF_21.sm t23 (fun h => by omega) (fun h => by omega)
          have hf_23 := hf_21
          obtain ⟨n9_23, hn9_23⟩ := hF_23.2.2
          have hn_23 := (rch_le hT.2.2.2 _ hn9_23.1).2
          refine w_aload_n (i := 0) hX dX9_readWork_84 rfl rfl ?_
          refine w_getR (q := m + 6) hX dX9_readWork_85 fo_RX9_73 rfl (mod_s hT_23.1) (mod_r10 hT_23.1) ?_
          refine w_iload_n (i := 1) hX dX9_readWork_88 rfl rfl ?_
          refine w_iconst hX dX9_readWork_89 kI_3 ?_
          refine w_iaddN hX dX9_readWork_90 ?_
          refine w_aload_n (i := 0) hX dX9_readWork_91 rfl rfl ?_
          refine w_bipush hX dX9_readWork_92 kB_8 ?_
          refine w_iconst hX dX9_readWork_94 kI_1 ?_
          refine w_sipush hX dX9_readWork_95 kS_1440 ?_
          refine w_callVI (As := [.int (nI 8), .int (nI 1), .int (nI 1440)]) (rest := [.int (nI (566 + (5 * (B 85)) + 3)), .ref (m + 6)]) (ci := 9) (o := m) (k2 := 0) (n2 := 0) hX dX9_readWork_98 (s_m_afterf Γ (sI (sI ν4 (m + 6) (566 + (5 * (B 85)) + 1) (nI 0)) (m + 6) (566 + (5 * (B 85)) + 2) (nI 0)) m s hT_23 f4 hF_23 8 (nI 1) 1440) okX9_takeAfter (ltb rfl) (mod_s hT_23.1) ml_RX9_222 imX9_takeAfter seX9_takeAfter rfl (leb rfl) (leb rfl) rfl rfl (fun r9 μ9 hq9 => ?_)
          obtain ⟨hr9, hm9⟩ := hq9; rw [hr9, hm9]; clear hr9 hm9 r9 μ9
          refine w_iastN hX dX9_readWork_101 (mod_a6 hT_23.1) (by omega) (by omega) ?_
          have t25 : same (fun o2 k2 => o2 = m + 6 ∧ k2 = 566 + (5 * (B 85)) + 3) (sI (sI ν4 (m + 6) (566 + (5 * (B 85)) + 1) (nI 0)) (m + 6) (566 + (5 * (B 85)) + 2) (nI 0)) (sI (sI (sI ν4 (m + 6) (566 + (5 * (B 85)) + 1) (nI 0)) (m + 6) (566 + (5 * (B 85)) + 2) (nI 0)) (m + 6) (566 + (5 * (B 85)) + 3) (nI 0)) := same.rf.sI ⟨rfl, rfl⟩
          have hT_25 := hT_23.sm t25 (fun o k h => by omega)
          have hs_25 := hs_23.tr (t25.up (fun o k h => by unfold SMm; omega))
          have hF_25 := hF_23.sm t25 (fun h => by omega) (fun h => by omega)
          have hf_25 := hf_23
          obtain ⟨n9_25, hn9_25⟩ := hF_25.2.2
          have hn_25 := (rch_le hT.2.2.2 _ hn9_25.1).2
          refine w_aload_n (i := 0) hX dX9_readWork_102 rfl rfl ?_
          refine w_getR (q := m + 6) hX dX9_readWork_103 fo_RX9_73 rfl (mod_s hT_25.1) (mod_r10 hT_25.1) ?_
          refine w_iload_n (i := 1) hX dX9_readWork_106 rfl rfl ?_
          refine w_iconst hX dX9_readWork_107 kI_4 ?_
          refine w_iaddN hX dX9_readWork_108 ?_
          refine w_aload_n (i := 0) hX dX9_readWork_109 rfl rfl ?_
          refine w_bipush hX dX9_readWork_110 kB_9 ?_
          refine w_iconst hX dX9_readWork_112 kI_0 ?_
          refine w_sipush hX dX9_readWork_113 kS_999 ?_
          refine w_callVI (As := [.int (nI 9), .int (nI 0), .int (nI 999)]) (rest := [.int (nI (566 + (5 * (B 85)) + 4)), .ref (m + 6)]) (ci := 9) (o := m) (k2 := 0) (n2 := 0) hX dX9_readWork_116 (s_m_afterf Γ (sI (sI (sI ν4 (m + 6) (566 + (5 * (B 85)) + 1) (nI 0)) (m + 6) (566 + (5 * (B 85)) + 2) (nI 0)) (m + 6) (566 + (5 * (B 85)) + 3) (nI 0)) m s hT_25 f4 hF_25 9 (nI 0) 999) okX9_takeAfter (ltb rfl) (mod_s hT_25.1) ml_RX9_222 imX9_takeAfter seX9_takeAfter rfl (leb rfl) (leb rfl) rfl rfl (fun r9 μ9 hq9 => ?_)
          obtain ⟨hr9, hm9⟩ := hq9; rw [hr9, hm9]; clear hr9 hm9 r9 μ9
          refine w_iastN hX dX9_readWork_119 (mod_a6 hT_25.1) (by omega) (by omega) ?_
          have t27 : same (fun o2 k2 => o2 = m + 6 ∧ k2 = 566 + (5 * (B 85)) + 4) (sI (sI (sI ν4 (m + 6) (566 + (5 * (B 85)) + 1) (nI 0)) (m + 6) (566 + (5 * (B 85)) + 2) (nI 0)) (m + 6) (566 + (5 * (B 85)) + 3) (nI 0)) (sI (sI (sI (sI ν4 (m + 6) (566 + (5 * (B 85)) + 1) (nI 0)) (m + 6) (566 + (5 * (B 85)) + 2) (nI 0)) (m + 6) (566 + (5 * (B 85)) + 3) (nI 0)) (m + 6) (566 + (5 * (B 85)) + 4) (nI 0)) := same.rf.sI ⟨rfl, rfl⟩
          have hT_27 := hT_25.sm t27 (fun o k h => by omega)
          have hs_27 := hs_25.tr (t27.up (fun o k h => by unfold SMm; omega))
          have hF_27 := hF_25.sm t27 (fun h => by omega) (fun h => by omega)
          have hf_27 := hf_25
          obtain ⟨n9_27, hn9_27⟩ := hF_27.2.2
          have hn_27 := (rch_le hT.2.2.2 _ hn9_27.1).2
          have hpx : pWork s n B M = .inl f4 := by unfold pWork; exact (bnd_r p1).trans ((bnd_r (pWd_y w2)).trans ((bnd_r p2).trans (bnd_a p4)))
          exact w_vret hX hE dX9_readWork_120 (Or.inl rfl) (MX_l hpx hs_27 hF_27)
      · rw [e2]
        let β2 := ν2
        have hT_2 := hT_1.sm t2 (fun o k h => by unfold SA2 at h; omega)
        obtain ⟨n9_2, hn9_2⟩ := hF_2.2.2
        have hf_2 := hF_2.2.1
        have hn_2 := (rch_le hT_2.2.2.2 _ hn9_2.1).2
        have hs_2 := hs_1.tr (t2.up (fun o k h => by unfold SA2 at h; unfold SMm; omega))
        refine w_iastN hX dX9_readWork_38 (mod_a6 hT_2.1) (by omega) (by omega) ?_
        have t28 : same (fun o2 k2 => o2 = m + 6 ∧ k2 = 566 + (5 * (B 85))) ν2 (sI ν2 (m + 6) (566 + (5 * (B 85))) (nI 0)) := same.rf.sI ⟨rfl, rfl⟩
        have hT_28 := hT_2.sm t28 (fun o k h => by omega)
        have hs_28 := hs_2.tr (t28.up (fun o k h => by unfold SMm; omega))
        have hF_28 := hF_2.sm t28 (fun h => by omega) (fun h => by omega)
        have hf_28 := hf_2
        obtain ⟨n9_28, hn9_28⟩ := hF_28.2.2
        have hn_28 := (rch_le hT.2.2.2 _ hn9_28.1).2
        refine w_aload_n (i := 0) hX dX9_readWork_39 rfl rfl ?_
        refine w_getR (q := m + 6) hX dX9_readWork_40 fo_RX9_73 rfl (mod_s hT_28.1) (mod_r10 hT_28.1) ?_
        refine w_iload_n (i := 1) hX dX9_readWork_43 rfl rfl ?_
        refine w_iconst hX dX9_readWork_44 kI_1 ?_
        refine w_iaddN hX dX9_readWork_45 ?_
        refine w_aload_n (i := 0) hX dX9_readWork_46 rfl rfl ?_
        refine w_bipush hX dX9_readWork_47 kB_6 ?_
        refine w_iconst hX dX9_readWork_49 kI_0 ?_
        refine w_sipush hX dX9_readWork_50 kS_1440 ?_
        refine w_callVI (As := [.int (nI 6), .int (nI 0), .int (nI 1440)]) (rest := [.int (nI (566 + (5 * (B 85)) + 1)), .ref (m + 6)]) (ci := 9) (o := m) (k2 := 0) (n2 := 0) hX dX9_readWork_53 (s_m_afterf Γ (sI ν2 (m + 6) (566 + (5 * (B 85))) (nI 0)) m s hT_28 f2 hF_28 6 (nI 0) 1440) okX9_takeAfter (ltb rfl) (mod_s hT_28.1) ml_RX9_222 imX9_takeAfter seX9_takeAfter rfl (leb rfl) (leb rfl) rfl rfl (fun r9 μ9 hq9 => ?_)
        obtain ⟨hr9, hm9⟩ := hq9; rw [hr9, hm9]; clear hr9 hm9 r9 μ9
        refine w_iastN hX dX9_readWork_56 (mod_a6 hT_28.1) (by omega) (by omega) ?_
        have t30 : same (fun o2 k2 => o2 = m + 6 ∧ k2 = 566 + (5 * (B 85)) + 1) (sI ν2 (m + 6) (566 + (5 * (B 85))) (nI 0)) (sI (sI ν2 (m + 6) (566 + (5 * (B 85))) (nI 0)) (m + 6) (566 + (5 * (B 85)) + 1) (nI 0)) := same.rf.sI ⟨rfl, rfl⟩
        have hT_30 := hT_28.sm t30 (fun o k h => by omega)
        have hs_30 := hs_28.tr (t30.up (fun o k h => by unfold SMm; omega))
        have hF_30 := hF_28.sm t30 (fun h => by omega) (fun h => by omega)
        have hf_30 := hf_28
        obtain ⟨n9_30, hn9_30⟩ := hF_30.2.2
        have hn_30 := (rch_le hT.2.2.2 _ hn9_30.1).2
        refine w_aload_n (i := 0) hX dX9_readWork_57 rfl rfl ?_
        refine w_getR (q := m + 6) hX dX9_readWork_58 fo_RX9_73 rfl (mod_s hT_30.1) (mod_r10 hT_30.1) ?_
        refine w_iload_n (i := 1) hX dX9_readWork_61 rfl rfl ?_
        refine w_iconst hX dX9_readWork_62 kI_2 ?_
        refine w_iaddN hX dX9_readWork_63 ?_
        refine w_aload_n (i := 0) hX dX9_readWork_64 rfl rfl ?_
        refine w_bipush hX dX9_readWork_65 kB_7 ?_
        refine w_aload_n (i := 0) hX dX9_readWork_67 rfl rfl ?_
        refine w_getR (q := m + 6) hX dX9_readWork_68 fo_RX9_73 rfl (mod_s hT_30.1) (mod_r10 hT_30.1) ?_
        refine w_iload_n (i := 1) hX dX9_readWork_71 rfl rfl ?_
        refine w_iconst hX dX9_readWork_72 kI_1 ?_
        refine w_iaddN hX dX9_readWork_73 ?_
        refine w_ialdN hX dX9_readWork_74 (mod_a6 hT_30.1) (by omega) (by omega) ?_
        refine w_top (y := nI 0) gI_same ?_
        refine w_iconst hX dX9_readWork_75 kI_1 ?_
        refine w_iaddN hX dX9_readWork_76 ?_
        refine w_sipush hX dX9_readWork_77 kS_1440 ?_
        refine w_callVI (As := [.int (nI 7), .int (nI (0 + 1)), .int (nI 1440)]) (rest := [.int (nI (566 + (5 * (B 85)) + 2)), .ref (m + 6)]) (ci := 9) (o := m) (k2 := 0) (n2 := 0) hX dX9_readWork_80 (s_m_afterf Γ (sI (sI ν2 (m + 6) (566 + (5 * (B 85))) (nI 0)) (m + 6) (566 + (5 * (B 85)) + 1) (nI 0)) m s hT_30 f2 hF_30 7 (nI (0 + 1)) 1440) okX9_takeAfter (ltb rfl) (mod_s hT_30.1) ml_RX9_222 imX9_takeAfter seX9_takeAfter rfl (leb rfl) (leb rfl) rfl rfl (fun r9 μ9 hq9 => ?_)
        obtain ⟨hr9, hm9⟩ := hq9; rw [hr9, hm9]; clear hr9 hm9 r9 μ9
        refine w_iastN hX dX9_readWork_83 (mod_a6 hT_30.1) (by omega) (by omega) ?_
        have t32 : same (fun o2 k2 => o2 = m + 6 ∧ k2 = 566 + (5 * (B 85)) + 2) (sI (sI ν2 (m + 6) (566 + (5 * (B 85))) (nI 0)) (m + 6) (566 + (5 * (B 85)) + 1) (nI 0)) (sI (sI (sI ν2 (m + 6) (566 + (5 * (B 85))) (nI 0)) (m + 6) (566 + (5 * (B 85)) + 1) (nI 0)) (m + 6) (566 + (5 * (B 85)) + 2) (nI 0)) := same.rf.sI ⟨rfl, rfl⟩
        have hT_32 := hT_30.sm t32 (fun o k h => by omega)
        have hs_32 := hs_30.tr (t32.up (fun o k h => by unfold SMm; omega))
        have hF_32 := hF_30.sm t32 (fun h => by omega) (fun h => by omega)
        have hf_32 := hf_30
        obtain ⟨n9_32, hn9_32⟩ := hF_32.2.2
        have hn_32 := (rch_le hT.2.2.2 _ hn9_32.1).2
        refine w_aload_n (i := 0) hX dX9_readWork_84 rfl rfl ?_
        refine w_getR (q := m + 6) hX dX9_readWork_85 fo_RX9_73 rfl (mod_s hT_32.1) (mod_r10 hT_32.1) ?_
        refine w_iload_n (i := 1) hX dX9_readWork_88 rfl rfl ?_
        refine w_iconst hX dX9_readWork_89 kI_3 ?_
        refine w_iaddN hX dX9_readWork_90 ?_
        refine w_aload_n (i := 0) hX dX9_readWork_91 rfl rfl ?_
        refine w_bipush hX dX9_readWork_92 kB_8 ?_
        refine w_iconst hX dX9_readWork_94 kI_1 ?_
        refine w_sipush hX dX9_readWork_95 kS_1440 ?_
        refine w_callVI (As := [.int (nI 8), .int (nI 1), .int (nI 1440)]) (rest := [.int (nI (566 + (5 * (B 85)) + 3)), .ref (m + 6)]) (ci := 9) (o := m) (k2 := 0) (n2 := 0) hX dX9_readWork_98 (s_m_afterf Γ (sI (sI (sI ν2 (m + 6) (566 + (5 * (B 85))) (nI 0)) (m + 6) (566 + (5 * (B 85)) + 1) (nI 0)) (m + 6) (566 + (5 * (B 85)) + 2) (nI 0)) m s hT_32 f2 hF_32 8 (nI 1) 1440) okX9_takeAfter (ltb rfl) (mod_s hT_32.1) ml_RX9_222 imX9_takeAfter seX9_takeAfter rfl (leb rfl) (leb rfl) rfl rfl (fun r9 μ9 hq9 => ?_)
        obtain ⟨hr9, hm9⟩ := hq9; rw [hr9, hm9]; clear hr9 hm9 r9 μ9
        refine w_iastN hX dX9_readWork_101 (mod_a6 hT_32.1) (by omega) (by omega) ?_
        have t34 : same (fun o2 k2 => o2 = m + 6 ∧ k2 = 566 + (5 * (B 85)) + 3) (sI (sI (sI ν2 (m + 6) (566 + (5 * (B 85))) (nI 0)) (m + 6) (566 + (5 * (B 85)) + 1) (nI 0)) (m + 6) (566 + (5 * (B 85)) + 2) (nI 0)) (sI (sI (sI (sI ν2 (m + 6) (566 + (5 * (B 85))) (nI 0)) (m + 6) (566 + (5 * (B 85)) + 1) (nI 0)) (m + 6) (566 + (5 * (B 85)) + 2) (nI 0)) (m + 6) (566 + (5 * (B 85)) + 3) (nI 0)) := same.rf.sI ⟨rfl, rfl⟩
        have hT_34 := hT_32.sm t34 (fun o k h => by omega)
        have hs_34 := hs_32.tr (t34.up (fun o k h => by unfold SMm; omega))
        have hF_34 := hF_32.sm t34 (fun h => by omega) (fun h => by omega)
        have hf_34 := hf_32
        obtain ⟨n9_34, hn9_34⟩ := hF_34.2.2
        have hn_34 := (rch_le hT.2.2.2 _ hn9_34.1).2
        refine w_aload_n (i := 0) hX dX9_readWork_102 rfl rfl ?_
        refine w_getR (q := m + 6) hX dX9_readWork_103 fo_RX9_73 rfl (mod_s hT_34.1) (mod_r10 hT_34.1) ?_
        refine w_iload_n (i := 1) hX dX9_readWork_106 rfl rfl ?_
        refine w_iconst hX dX9_readWork_107 kI_4 ?_
        refine w_iaddN hX dX9_readWork_108 ?_
        refine w_aload_n (i := 0) hX dX9_readWork_109 rfl rfl ?_
        refine w_bipush hX dX9_readWork_110 kB_9 ?_
        refine w_iconst hX dX9_readWork_112 kI_0 ?_
        refine w_sipush hX dX9_readWork_113 kS_999 ?_
        refine w_callVI (As := [.int (nI 9), .int (nI 0), .int (nI 999)]) (rest := [.int (nI (566 + (5 * (B 85)) + 4)), .ref (m + 6)]) (ci := 9) (o := m) (k2 := 0) (n2 := 0) hX dX9_readWork_116 (s_m_afterf Γ (sI (sI (sI (sI ν2 (m + 6) (566 + (5 * (B 85))) (nI 0)) (m + 6) (566 + (5 * (B 85)) + 1) (nI 0)) (m + 6) (566 + (5 * (B 85)) + 2) (nI 0)) (m + 6) (566 + (5 * (B 85)) + 3) (nI 0)) m s hT_34 f2 hF_34 9 (nI 0) 999) okX9_takeAfter (ltb rfl) (mod_s hT_34.1) ml_RX9_222 imX9_takeAfter seX9_takeAfter rfl (leb rfl) (leb rfl) rfl rfl (fun r9 μ9 hq9 => ?_)
        obtain ⟨hr9, hm9⟩ := hq9; rw [hr9, hm9]; clear hr9 hm9 r9 μ9
        refine w_iastN hX dX9_readWork_119 (mod_a6 hT_34.1) (by omega) (by omega) ?_
        have t36 : same (fun o2 k2 => o2 = m + 6 ∧ k2 = 566 + (5 * (B 85)) + 4) (sI (sI (sI (sI ν2 (m + 6) (566 + (5 * (B 85))) (nI 0)) (m + 6) (566 + (5 * (B 85)) + 1) (nI 0)) (m + 6) (566 + (5 * (B 85)) + 2) (nI 0)) (m + 6) (566 + (5 * (B 85)) + 3) (nI 0)) (sI (sI (sI (sI (sI ν2 (m + 6) (566 + (5 * (B 85))) (nI 0)) (m + 6) (566 + (5 * (B 85)) + 1) (nI 0)) (m + 6) (566 + (5 * (B 85)) + 2) (nI 0)) (m + 6) (566 + (5 * (B 85)) + 3) (nI 0)) (m + 6) (566 + (5 * (B 85)) + 4) (nI 0)) := same.rf.sI ⟨rfl, rfl⟩
        have hT_36 := hT_34.sm t36 (fun o k h => by omega)
        have hs_36 := hs_34.tr (t36.up (fun o k h => by unfold SMm; omega))
        have hF_36 := hF_34.sm t36 (fun h => by omega) (fun h => by omega)
        have hf_36 := hf_34
        obtain ⟨n9_36, hn9_36⟩ := hF_36.2.2
        have hn_36 := (rch_le hT.2.2.2 _ hn9_36.1).2
        have hpx : pWork s n B M = .inl f2 := by unfold pWork; exact (bnd_r p1).trans (bnd_a p2)
        exact w_vret hX hE dX9_readWork_120 (Or.inl rfl) (MX_l hpx hs_36 hF_36)
    · exact absurd c1 (by decide)
  · rw [e1]
    have hT_1 := hT.sm t1 (fun o k h => by unfold SMm at h; omega)
    obtain ⟨n9_1, hn9_1⟩ := hF_1.2.2
    have hf_1 := hF_1.2.1
    have hn_1 := (rch_le hT.2.2.2 _ hn9_1.1).2
    have hs_1 := hs.tr t1
    refine w_imulN hX dX9_readWork_13 ?_
    refine w_iaddN hX dX9_readWork_14 ?_
    refine w_istore_n (i := 1) (l2 := [some (.ref m), some (.int (nI (566 + (5 * v1))))]) hX dX9_readWork_15 rfl (ltb rfl) rfl rfl ?_
    refine w_aload_n (i := 0) hX dX9_readWork_16 rfl rfl ?_
    refine w_getI hX dX9_readWork_17 fo_RX9_154 rfl (mod_s hT_1.1) ?_
    refine w_top (y := nI f1) hF_1.1 ?_
    refine wn_if_le (tgt := 24) hX dX9_readWork_20 (by decide) (by omega) (fun c2 => ?_) (fun c2 => ?_)
    · exfalso; omega
    · have hpx : pWork s n B M = .inl f1 := by unfold pWork; exact bnd_l p1
      exact w_vret hX hE dX9_readWork_23 (Or.inl rfl) (MX_l hpx hs_1 hF_1)
