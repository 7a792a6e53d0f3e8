set_option maxHeartbeats 1000000 in
theorem s_r_paper (Γ : Gm) (μ : Mem) (r t b : Nat) (s : Tp) (n : Nat) (B : Nat → Nat) (M : NM) (hr : RD μ r t b s) (htr : t + 1 < r) (hrb : r + 2 < b) (hS : RS μ r s n) (hR : Rb μ b B) (hC : CN μ b M) (hf : gI μ r 5 = nI 0) (hP : PIv B M)  : SpV Γ MX4_readPaper 4 0 0 [.ref r] μ (fun μ2 => RX r b s (bnd (pPaper s n B M) (pSemi s)) μ μ2) := by
  refine SpV.of okX4_readPaper rfl [some (.ref r), none, none, none] ⟨rfl, trivial⟩ (leb rfl) (leb rfl) (fun X hX hE hnm => ?_)
  have hs : same (SRB r b) μ μ := same.rf
  obtain ⟨hM9, hb0, hb85, hb126, hb352⟩ := M32 hP
  refine w_aload_n (i := 0) hX dX4_readPaper_0 rfl rfl ?_
  refine w_getR (q := b) hX dX4_readPaper_1 fo_RX4_41 rfl (rd_s hr.1) hr.2.2.1 ?_
  refine w_getI hX dX4_readPaper_4 fo_RX4_153 rfl (bk_s hR.1) ?_
  refine w_top (y := nI (B 352)) hR.2.2.2.2.2.2.2.2.2.1 ?_
  refine w_istore_n (i := 1) (l2 := [some (.ref r), some (.int (nI (B 352))), none, none]) hX dX4_readPaper_7 rfl (ltb rfl) rfl rfl ?_
  refine w_aload_n (i := 0) hX dX4_readPaper_8 rfl rfl ?_
  refine w_iload_n (i := 1) hX dX4_readPaper_9 rfl rfl ?_
  refine w_bipush hX dX4_readPaper_10 kB_12 ?_
  refine wn_icmp_ge (tgt := 19) hX dX4_readPaper_12 (by decide) (by first | omega | (have := kd_le (s := s) (n := n + 8); omega)) (by first | omega | (have := kd_le (s := s) (n := n + 8); omega)) (fun c1 => ?_) (fun c1 => ?_)
  · refine w_iconst hX dX4_readPaper_19 kI_0 ?_
    refine w_callVI (As := [.int (nI 0)]) (rest := []) (ci := 4) (o := r) (k2 := 0) (n2 := 0) hX dX4_readPaper_20 (s_r_more0 Γ μ r t b s hr htr hrb (n) hS) okX4_takeOneMore (ltb rfl) (rd_s hr.1) ml_RX4_93 imX4_takeOneMore seX4_takeOneMore rfl (leb rfl) (leb rfl) rfl rfl (fun r9 μ9 hq9 => ?_)
    obtain ⟨hr9, hm9⟩ := hq9; rw [hr9, hm9]; clear hr9 hm9 r9 μ9
    refine wn_if_eq (tgt := 45) hX dX4_readPaper_23 (by decide) (by first | omega | (have := kd_le (s := s) (n := n + 8); omega)) (fun c2 => ?_) (fun c2 => ?_)
    · have hpx : pPaper s n B M = .inl (ft s 5 (n)) := by unfold pPaper; exact bnd_l (pNew_5 (by omega))
      exact w_vret hX hE dX4_readPaper_45 (Or.inl rfl) (RX_l (bnd_l hpx) hs (ft_lt hr.2.2.2.2.2 (by omega) (by omega)))
    · exact absurd c2 (by decide)
  · refine w_iconst hX dX4_readPaper_15 kI_1 ?_
    refine w_goto (tgt := 20) hX dX4_readPaper_16 (by decide) ?_
    refine w_callVI (As := [.int (nI 1)]) (rest := []) (ci := 4) (o := r) (k2 := 0) (n2 := 0) hX dX4_readPaper_20 (s_r_more1 Γ μ r t b s hr htr hrb (n) hS) okX4_takeOneMore (ltb rfl) (rd_s hr.1) ml_RX4_93 imX4_takeOneMore seX4_takeOneMore rfl (leb rfl) (leb rfl) rfl rfl (fun r2 ν2 hq9 => ?_)
    obtain ⟨e2, hS_2, t2⟩ := hq9; rw [e2]
    have hr_2 := hr.sm t2 (fun o k h => by unfold SA at h; omega)
    have hR_2 := Rb_fr t2 (fun o k h => Or.inl (by unfold SA at h; omega)) hR
    have hC_2 := hC.sm t2 (fun o k h => by unfold SA at h; omega)
    have hf_2 : gI ν2 r 5 = nI 0 := by rw [(t2.2.2 _ _ (fun h => by unfold SA at h; omega)).1]; exact hf
    have hs_2 := hs.tr (t2.up (fun o k h => by unfold SA at h; unfold SRB; omega))
    refine wn_if_eq (tgt := 45) hX dX4_readPaper_23 (by decide) (by first | omega | (have := kd_le (s := s) (n := n + 8); omega)) (fun c3 => ?_) (fun c3 => ?_)
    · exact absurd c3 (by decide)
    · have hM32 : M.1 < 32 := by omega
      refine w_aload_n (i := 0) hX dX4_readPaper_26 rfl rfl ?_
      refine w_bipush hX dX4_readPaper_27 kB_17 ?_
      refine w_top (y := nI (kc 3)) rfl ?_
      refine w_iload_n (i := 1) hX dX4_readPaper_29 rfl rfl ?_
      refine w_callVI (As := [.int (nI (kc 3)), .int (nI (B 352))]) (rest := []) (ci := 4) (o := r) (k2 := 0) (n2 := 0) hX dX4_readPaper_30 (s_r_new Γ ν2 r t b s hr_2 htr hrb (n + 1) hS_2 hR_2.1 M hC_2 3 (B 352) (by omega) hM32) okX4_takeNewName (ltb rfl) (rd_s hr_2.1) ml_RX4_97 imX4_takeNewName seX4_takeNewName rfl (leb rfl) (leb rfl) rfl rfl (fun r3 ν3 hq9 => ?_)
      rcases hq9 with ⟨w3, u3, e3, hS_3, hC_3, t3⟩ | ⟨w3, e3, m3⟩ | ⟨w3, ⟨i3, u3⟩, e3, m3⟩
      · rw [e3, show bI true = nI 1 from rfl]
        have hr_3 := hr_2.sm t3 (fun o k h => by unfold SA at h; omega)
        have hR_3 := Rb_fr t3 (fun o k h => by unfold SA at h; omega) hR_2
        have hf_3 : gI ν3 r 5 = nI 0 := by rw [(t3.2.2 _ _ (fun h => by unfold SA at h; omega)).1]; exact hf_2
        have hs_3 := hs_2.tr (t3.up (fun o k h => by unfold SA at h; unfold SRB; omega))
        refine wn_if_eq (tgt := 45) hX dX4_readPaper_33 (by decide) (by first | omega | (have := kd_le (s := s) (n := n + 8); omega)) (fun c4 => ?_) (fun c4 => ?_)
        · exact absurd c4 (by decide)
        · refine w_aload_n (i := 0) hX dX4_readPaper_36 rfl rfl ?_
          refine w_bipush hX dX4_readPaper_37 kB_18 ?_
          refine w_callVI (As := [.int (nI 18)]) (rest := []) (ci := 4) (o := r) (k2 := 0) (n2 := 0) hX dX4_readPaper_39 (s_r_take Γ ν3 r t b s hr_3 htr hrb (n + 2) hS_3 18 (by omega)) okX4_take (ltb rfl) (rd_s hr_3.1) ml_RX4_101 imX4_take seX4_take rfl (leb rfl) (leb rfl) rfl rfl (fun r4 ν4 hq9 => ?_)
          rcases hq9 with ⟨w4, e4, hS_4, t4⟩ | ⟨w4, e4, m4⟩
          · rw [e4, show bI true = nI 1 from rfl]
            have hr_4 := hr_3.sm t4 (fun o k h => by unfold SA at h; omega)
            have hR_4 := Rb_fr t4 (fun o k h => Or.inl (by unfold SA at h; omega)) hR_3
            have hC_4 := hC_3.sm t4 (fun o k h => by unfold SA at h; omega)
            have hf_4 : gI ν4 r 5 = nI 0 := by rw [(t4.2.2 _ _ (fun h => by unfold SA at h; omega)).1]; exact hf_3
            have hs_4 := hs_3.tr (t4.up (fun o k h => by unfold SA at h; unfold SRB; omega))
            refine wn_if_ne (tgt := 46) hX dX4_readPaper_42 (by decide) (by first | omega | (have := kd_le (s := s) (n := n + 8); omega)) (fun c5 => ?_) (fun c5 => ?_)
            · refine w_aload_n (i := 0) hX dX4_readPaper_46 rfl rfl ?_
              refine w_getR (q := b) hX dX4_readPaper_47 fo_RX4_41 rfl (rd_s hr_4.1) hr_4.2.2.1 ?_
              refine w_getR (q := b + 5) hX dX4_readPaper_50 fo_RX4_156 rfl (bk_s hR_4.1) (bk_r4 hR_4.1) ?_
              refine w_astore_n (i := 2) (l2 := [some (.ref r), some (.int (nI (B 352))), some (.ref (b + 5)), none]) hX dX4_readPaper_53 rfl (ltb rfl) rfl rfl ?_
              refine w_iload_n (i := 1) hX dX4_readPaper_54 rfl rfl ?_
              refine w_iconst hX dX4_readPaper_55 kI_4 ?_
              refine w_imulN hX dX4_readPaper_56 ?_
              refine w_istore_n (i := 3) (l2 := [some (.ref r), some (.int (nI (B 352))), some (.ref (b + 5)), some (.int (nI ((B 352) * 4)))]) hX dX4_readPaper_57 rfl (ltb rfl) rfl rfl ?_
              refine w_aload_n (i := 2) hX dX4_readPaper_58 rfl rfl ?_
              refine w_iload_n (i := 3) hX dX4_readPaper_59 rfl rfl ?_
              refine w_aload_n (i := 0) hX dX4_readPaper_60 rfl rfl ?_
              refine w_iconst hX dX4_readPaper_61 kI_5 ?_
              refine w_top (y := nI (kc 0)) rfl ?_
              refine w_callVI (As := [.int (nI (kc 0))]) (rest := [.int (nI ((B 352) * 4)), .ref (b + 5)]) (ci := 4) (o := r) (k2 := 0) (n2 := 0) hX dX4_readPaper_62 (s_r_told Γ ν4 r t b s hr_4 htr hrb (n + 3) hS_4 hR_4.1 ((addM M (wd s (n + 1)) 3 (B 352))) hC_4 0 (by omega)) okX4_toldName (ltb rfl) (rd_s hr_4.1) ml_RX4_131 imX4_toldName seX4_toldName rfl (leb rfl) (leb rfl) rfl rfl (fun r5 ν5 hq9 => ?_)
              rcases hq9 with ⟨v5, p5, e5, m5⟩ | ⟨f5, p5, e5, m5⟩
              · rw [e5, m5]
                have lt5 := told_a hP p5
                refine w_iastN hX dX4_readPaper_65 (bk_a5 hR_4.1) (by omega) (by omega) ?_
                have s6 : same (fun o2 k2 => (o2 = b + 5 ∧ k2 = (B 352) * 4)) ν4 (sI ν4 (b + 5) ((B 352) * 4) (nI v5)) := (same.rf).sI (⟨rfl, rfl⟩)
                have hr_6 := hr_4.sm s6 (fun o k h => by omega)
                have hS_6 := hS_4.sm s6 (fun k h1 h2 h => by omega)
                have hR_6 := Rb_fr s6 (fun o k h => by omega) hR_4
                have hC_6 := hC_4.sm s6 (fun o k h => by omega)
                have hf_6 : gI (sI ν4 (b + 5) ((B 352) * 4) (nI v5)) r 5 = nI 0 := by rw [(s6.2.2 _ _ (fun h => by omega)).1]; exact hf_4
                have hs_6 := hs_4.tr (s6.up (fun o k h => by unfold SRB; omega))
                have zz7 : gI (sI ν4 (b + 5) ((B 352) * 4) (nI v5)) (b + 5) ((B 352) * 4) = nI v5 := by rw [gI_same]
                refine w_aload_n (i := 2) hX dX4_readPaper_66 rfl rfl ?_
                refine w_iload_n (i := 3) hX dX4_readPaper_67 rfl rfl ?_
                refine w_ialdN hX dX4_readPaper_68 (bk_a5 hR_6.1) (by omega) (by omega) ?_
                refine w_top (y := nI v5) zz7 ?_
                refine w_iconst hX dX4_readPaper_69 kI_m1 ?_
                refine wc_icmp_ne (tgt := 74) hX dX4_readPaper_70 (by decide) (fun c6 => ?_) (fun c6 => ?_)
                · refine w_aload_n (i := 0) hX dX4_readPaper_74 rfl rfl ?_
                  refine w_callVV (As := []) (rest := []) (ci := 4) (o := r) (k2 := 0) (n2 := 0) hX dX4_readPaper_75 (s_r_advance Γ (sI ν4 (b + 5) ((B 352) * 4) (nI v5)) r t b s hr_6 htr hrb (n + 4) hS_6.1) okX4_advance (ltb rfl) (rd_s hr_6.1) ml_RX4_57 imX4_advance seX4_advance rfl (leb rfl) (leb rfl) rfl rfl (fun ν8 hq9 => ?_)
                  obtain ⟨hS_8, t8⟩ := hq9
                  have zz9 : gI ν8 (b + 5) ((B 352) * 4) = nI v5 := by rw [(t8.2.2 _ _ (fun h => by unfold SA at h; omega)).1]; exact zz7
                  have hr_8 := hr_6.sm t8 (fun o k h => by unfold SA at h; omega)
                  have hR_8 := Rb_fr t8 (fun o k h => Or.inl (by unfold SA at h; omega)) hR_6
                  have hC_8 := hC_6.sm t8 (fun o k h => by unfold SA at h; omega)
                  have hf_8 : gI ν8 r 5 = nI 0 := by rw [(t8.2.2 _ _ (fun h => by unfold SA at h; omega)).1]; exact hf_6
                  have hs_8 := hs_6.tr (t8.up (fun o k h => by unfold SA at h; unfold SRB; omega))
                  refine w_aload_n (i := 0) hX dX4_readPaper_78 rfl rfl ?_
                  refine w_bipush hX dX4_readPaper_79 kB_10 ?_
                  refine w_callVI (As := [.int (nI 10)]) (rest := []) (ci := 4) (o := r) (k2 := 0) (n2 := 0) hX dX4_readPaper_81 (s_r_take Γ ν8 r t b s hr_8 htr hrb (n + 4) hS_8 10 (by omega)) okX4_take (ltb rfl) (rd_s hr_8.1) ml_RX4_101 imX4_take seX4_take rfl (leb rfl) (leb rfl) rfl rfl (fun r10 ν10 hq9 => ?_)
                  rcases hq9 with ⟨w10, e10, hS_10, t10⟩ | ⟨w10, e10, m10⟩
                  · rw [e10, show bI true = nI 1 from rfl]
                    have zz11 : gI ν10 (b + 5) ((B 352) * 4) = nI v5 := by rw [(t10.2.2 _ _ (fun h => by unfold SA at h; omega)).1]; exact zz9
                    have hr_10 := hr_8.sm t10 (fun o k h => by unfold SA at h; omega)
                    have hR_10 := Rb_fr t10 (fun o k h => Or.inl (by unfold SA at h; omega)) hR_8
                    have hC_10 := hC_8.sm t10 (fun o k h => by unfold SA at h; omega)
                    have hf_10 : gI ν10 r 5 = nI 0 := by rw [(t10.2.2 _ _ (fun h => by unfold SA at h; omega)).1]; exact hf_8
                    have hs_10 := hs_8.tr (t10.up (fun o k h => by unfold SA at h; unfold SRB; omega))
                    refine wn_if_eq (tgt := 189) hX dX4_readPaper_84 (by decide) (by first | omega | (have := kd_le (s := s) (n := n + 8); omega)) (fun c7 => ?_) (fun c7 => ?_)
                    · exact absurd c7 (by decide)
                    · refine w_aload_n (i := 0) hX dX4_readPaper_87 rfl rfl ?_
                      refine w_iconst hX dX4_readPaper_88 kI_0 ?_
                      refine w_sipush hX dX4_readPaper_89 kS_3649 ?_
                      refine w_aload_n (i := 2) hX dX4_readPaper_92 rfl rfl ?_
                      refine w_iload_n (i := 3) hX dX4_readPaper_93 rfl rfl ?_
                      refine w_iconst hX dX4_readPaper_94 kI_1 ?_
                      refine w_iaddN hX dX4_readPaper_95 ?_
                      refine w_callVI (As := [.int (nI 0), .int (nI 3649), .ref (b + 5), .int (nI ((B 352) * 4 + 1))]) (rest := []) (ci := 4) (o := r) (k2 := 0) (n2 := 0) hX dX4_readPaper_96 (s_r_takeN Γ ν10 r t b s hr_10 htr hrb (n + 5) hS_10 0 3649 (by omega) (by omega) (b + 5) ((B 352) * 4 + 1) 48 (bk_a5 hR_10.1) (by omega) (by omega) (by omega)) okX4_takeNumber (ltb rfl) (rd_s hr_10.1) ml_RX4_123 imX4_takeNumber seX4_takeNumber rfl (leb rfl) (leb rfl) rfl rfl (fun r12 ν12 hq9 => ?_)
                      rcases hq9 with ⟨p12, e12, hS_12, z12, t12⟩ | ⟨f12, p12, e12, m12⟩
                      · rw [e12, show bI true = nI 1 from rfl]
                        obtain ⟨q12, -, l12, g12⟩ := pNb_inr p12
                        have zz13 : gI ν12 (b + 5) ((B 352) * 4) = nI v5 := by rw [(t12.2.2 _ _ (fun h => by unfold SA at h; omega)).1]; exact zz11
                        have hr_12 := hr_10.sm t12 (fun o k h => by unfold SA at h; omega)
                        have hR_12 := Rb_fr t12 (fun o k h => by unfold SA at h; omega) hR_10
                        have hC_12 := hC_10.sm t12 (fun o k h => by unfold SA at h; omega)
                        have hf_12 : gI ν12 r 5 = nI 0 := by rw [(t12.2.2 _ _ (fun h => by unfold SA at h; omega)).1]; exact hf_10
                        have hs_12 := hs_10.tr (t12.up (fun o k h => by unfold SA at h; unfold SRB; omega))
                        refine wn_if_eq (tgt := 189) hX dX4_readPaper_99 (by decide) (by first | omega | (have := kd_le (s := s) (n := n + 8); omega)) (fun c8 => ?_) (fun c8 => ?_)
                        · exact absurd c8 (by decide)
                        · refine w_aload_n (i := 0) hX dX4_readPaper_102 rfl rfl ?_
                          refine w_bipush hX dX4_readPaper_103 kB_7 ?_
                          refine w_callVI (As := [.int (nI 7)]) (rest := []) (ci := 4) (o := r) (k2 := 0) (n2 := 0) hX dX4_readPaper_105 (s_r_take Γ ν12 r t b s hr_12 htr hrb (n + 6) hS_12 7 (by omega)) okX4_take (ltb rfl) (rd_s hr_12.1) ml_RX4_101 imX4_take seX4_take rfl (leb rfl) (leb rfl) rfl rfl (fun r14 ν14 hq9 => ?_)
                          rcases hq9 with ⟨w14, e14, hS_14, t14⟩ | ⟨w14, e14, m14⟩
                          · rw [e14, show bI true = nI 1 from rfl]
                            have zz15 : gI ν14 (b + 5) ((B 352) * 4) = nI v5 := by rw [(t14.2.2 _ _ (fun h => by unfold SA at h; omega)).1]; exact zz13
                            have zz16 : gI ν14 (b + 5) ((B 352) * 4 + 1) = nI (vl s (n + 5)) := by rw [(t14.2.2 _ _ (fun h => by unfold SA at h; omega)).1]; exact z12
                            have hr_14 := hr_12.sm t14 (fun o k h => by unfold SA at h; omega)
                            have hR_14 := Rb_fr t14 (fun o k h => Or.inl (by unfold SA at h; omega)) hR_12
                            have hC_14 := hC_12.sm t14 (fun o k h => by unfold SA at h; omega)
                            have hf_14 : gI ν14 r 5 = nI 0 := by rw [(t14.2.2 _ _ (fun h => by unfold SA at h; omega)).1]; exact hf_12
                            have hs_14 := hs_12.tr (t14.up (fun o k h => by unfold SA at h; unfold SRB; omega))
                            refine wn_if_eq (tgt := 189) hX dX4_readPaper_108 (by decide) (by first | omega | (have := kd_le (s := s) (n := n + 8); omega)) (fun c9 => ?_) (fun c9 => ?_)
                            · exact absurd c9 (by decide)
                            · refine w_aload_n (i := 0) hX dX4_readPaper_111 rfl rfl ?_
                              refine w_iconst hX dX4_readPaper_112 kI_0 ?_
                              refine w_sipush hX dX4_readPaper_113 kS_1439 ?_
                              refine w_aload_n (i := 2) hX dX4_readPaper_116 rfl rfl ?_
                              refine w_iload_n (i := 3) hX dX4_readPaper_117 rfl rfl ?_
                              refine w_iconst hX dX4_readPaper_118 kI_2 ?_
                              refine w_iaddN hX dX4_readPaper_119 ?_
                              refine w_callVI (As := [.int (nI 0), .int (nI 1439), .ref (b + 5), .int (nI ((B 352) * 4 + 2))]) (rest := []) (ci := 4) (o := r) (k2 := 0) (n2 := 0) hX dX4_readPaper_120 (s_r_takeN Γ ν14 r t b s hr_14 htr hrb (n + 7) hS_14 0 1439 (by omega) (by omega) (b + 5) ((B 352) * 4 + 2) 48 (bk_a5 hR_14.1) (by omega) (by omega) (by omega)) okX4_takeNumber (ltb rfl) (rd_s hr_14.1) ml_RX4_123 imX4_takeNumber seX4_takeNumber rfl (leb rfl) (leb rfl) rfl rfl (fun r17 ν17 hq9 => ?_)
                              rcases hq9 with ⟨p17, e17, hS_17, z17, t17⟩ | ⟨f17, p17, e17, m17⟩
                              · rw [e17, show bI true = nI 1 from rfl]
                                obtain ⟨q17, -, l17, g17⟩ := pNb_inr p17
                                have zz18 : gI ν17 (b + 5) ((B 352) * 4) = nI v5 := by rw [(t17.2.2 _ _ (fun h => by unfold SA at h; omega)).1]; exact zz15
                                have zz19 : gI ν17 (b + 5) ((B 352) * 4 + 1) = nI (vl s (n + 5)) := by rw [(t17.2.2 _ _ (fun h => by unfold SA at h; omega)).1]; exact zz16
                                have hr_17 := hr_14.sm t17 (fun o k h => by unfold SA at h; omega)
                                have hR_17 := Rb_fr t17 (fun o k h => by unfold SA at h; omega) hR_14
                                have hC_17 := hC_14.sm t17 (fun o k h => by unfold SA at h; omega)
                                have hf_17 : gI ν17 r 5 = nI 0 := by rw [(t17.2.2 _ _ (fun h => by unfold SA at h; omega)).1]; exact hf_14
                                have hs_17 := hs_14.tr (t17.up (fun o k h => by unfold SA at h; unfold SRB; omega))
                                refine wn_if_eq (tgt := 189) hX dX4_readPaper_123 (by decide) (by first | omega | (have := kd_le (s := s) (n := n + 8); omega)) (fun c10 => ?_) (fun c10 => ?_)
                                · exact absurd c10 (by decide)
                                · refine w_aload_n (i := 2) hX dX4_readPaper_126 rfl rfl ?_
                                  refine w_iload_n (i := 3) hX dX4_readPaper_127 rfl rfl ?_
                                  refine w_iconst hX dX4_readPaper_128 kI_3 ?_
                                  refine w_iaddN hX dX4_readPaper_129 ?_
                                  refine w_aload_n (i := 0) hX dX4_readPaper_130 rfl rfl ?_
                                  refine w_getI hX dX4_readPaper_131 fo_RX4_62 rfl (rd_s hr_17.1) ?_
                                  refine w_top (y := nI (kd s (n + 8))) hS_17.2.1 ?_
                                  refine w_bipush hX dX4_readPaper_134 kB_19 ?_
                                  refine wn_icmp_ne (tgt := 143) hX dX4_readPaper_136 (by decide) (by first | omega | (have := kd_le (s := s) (n := n + 8); omega)) (by first | omega | (have := kd_le (s := s) (n := n + 8); omega)) (fun c11 => ?_) (fun c11 => ?_)
                                  · refine w_aload_n (i := 0) hX dX4_readPaper_143 rfl rfl ?_
                                    refine w_getI hX dX4_readPaper_144 fo_RX4_62 rfl (rd_s hr_17.1) ?_
                                    refine w_top (y := nI (kd s (n + 8))) hS_17.2.1 ?_
                                    refine w_bipush hX dX4_readPaper_147 kB_20 ?_
                                    refine wn_icmp_ne (tgt := 156) hX dX4_readPaper_149 (by decide) (by first | omega | (have := kd_le (s := s) (n := n + 8); omega)) (by first | omega | (have := kd_le (s := s) (n := n + 8); omega)) (fun c12 => ?_) (fun c12 => ?_)
                                    · refine w_iconst hX dX4_readPaper_156 kI_0 ?_
                                      refine w_iastN hX dX4_readPaper_157 (bk_a5 hR_17.1) (by omega) (by omega) ?_
                                      have s20 : same (fun o2 k2 => (o2 = b + 5 ∧ k2 = (B 352) * 4 + 3)) ν17 (sI ν17 (b + 5) ((B 352) * 4 + 3) (nI 0)) := (same.rf).sI (⟨rfl, rfl⟩)
                                      have zz21 : gI (sI ν17 (b + 5) ((B 352) * 4 + 3) (nI 0)) (b + 5) ((B 352) * 4) = nI v5 := by rw [(s20.2.2 _ _ (fun h => by omega)).1]; exact zz18
                                      have zz22 : gI (sI ν17 (b + 5) ((B 352) * 4 + 3) (nI 0)) (b + 5) ((B 352) * 4 + 1) = nI (vl s (n + 5)) := by rw [(s20.2.2 _ _ (fun h => by omega)).1]; exact zz19
                                      have zz23 : gI (sI ν17 (b + 5) ((B 352) * 4 + 3) (nI 0)) (b + 5) ((B 352) * 4 + 2) = nI (vl s (n + 7)) := by rw [(s20.2.2 _ _ (fun h => by omega)).1]; exact z17
                                      have hr_20 := hr_17.sm s20 (fun o k h => by omega)
                                      have hS_20 := hS_17.sm s20 (fun k h1 h2 h => by omega)
                                      have hR_20 := Rb_fr s20 (fun o k h => by omega) hR_17
                                      have hC_20 := hC_17.sm s20 (fun o k h => by omega)
                                      have hf_20 : gI (sI ν17 (b + 5) ((B 352) * 4 + 3) (nI 0)) r 5 = nI 0 := by rw [(s20.2.2 _ _ (fun h => by omega)).1]; exact hf_17
                                      have hs_20 := hs_17.tr (s20.up (fun o k h => by unfold SRB; omega))
                                      have zz24 : gI (sI ν17 (b + 5) ((B 352) * 4 + 3) (nI 0)) (b + 5) ((B 352) * 4 + 3) = nI 0 := by rw [gI_same]
                                      refine w_aload_n (i := 2) hX dX4_readPaper_158 rfl rfl ?_
                                      refine w_iload_n (i := 3) hX dX4_readPaper_159 rfl rfl ?_
                                      refine w_iconst hX dX4_readPaper_160 kI_3 ?_
                                      refine w_iaddN hX dX4_readPaper_161 ?_
                                      refine w_ialdN hX dX4_readPaper_162 (bk_a5 hR_20.1) (by omega) (by omega) ?_
                                      refine w_top (y := nI 0) zz24 ?_
                                      refine wn_if_le (tgt := 170) hX dX4_readPaper_163 (by decide) (by first | omega | (have := kd_le (s := s) (n := n + 8); omega)) (fun c13 => ?_) (fun c13 => ?_)
                                      · refine w_aload_n (i := 0) hX dX4_readPaper_170 rfl rfl ?_
                                        refine w_getR (q := b) hX dX4_readPaper_171 fo_RX4_41 rfl (rd_s hr_20.1) hr_20.2.2.1 ?_
                                        refine w_dup hX dX4_readPaper_174 rfl ?_
                                        refine w_getI hX dX4_readPaper_175 fo_RX4_153 rfl (bk_s hR_20.1) ?_
                                        refine w_top (y := nI (B 352)) hR_20.2.2.2.2.2.2.2.2.2.1 ?_
                                        refine w_iconst hX dX4_readPaper_178 kI_1 ?_
                                        refine w_iaddN hX dX4_readPaper_179 ?_
                                        refine w_putI hX dX4_readPaper_180 fo_RX4_153 rfl rfl rfl rfl (bk_s hR_20.1) ?_
                                        have s25 : same (fun o2 k2 => (o2 = b ∧ k2 = 13)) (sI ν17 (b + 5) ((B 352) * 4 + 3) (nI 0)) (sI (sI ν17 (b + 5) ((B 352) * 4 + 3) (nI 0)) b 13 (nI (B 352 + 1))) := (same.rf).sI (⟨rfl, rfl⟩)
                                        have zz26 : gI (sI (sI ν17 (b + 5) ((B 352) * 4 + 3) (nI 0)) b 13 (nI (B 352 + 1))) (b + 5) ((B 352) * 4) = nI v5 := by rw [(s25.2.2 _ _ (fun h => by omega)).1]; exact zz21
                                        have zz27 : gI (sI (sI ν17 (b + 5) ((B 352) * 4 + 3) (nI 0)) b 13 (nI (B 352 + 1))) (b + 5) ((B 352) * 4 + 1) = nI (vl s (n + 5)) := by rw [(s25.2.2 _ _ (fun h => by omega)).1]; exact zz22
                                        have zz28 : gI (sI (sI ν17 (b + 5) ((B 352) * 4 + 3) (nI 0)) b 13 (nI (B 352 + 1))) (b + 5) ((B 352) * 4 + 2) = nI (vl s (n + 7)) := by rw [(s25.2.2 _ _ (fun h => by omega)).1]; exact zz23
                                        have zz29 : gI (sI (sI ν17 (b + 5) ((B 352) * 4 + 3) (nI 0)) b 13 (nI (B 352 + 1))) (b + 5) ((B 352) * 4 + 3) = nI 0 := by rw [(s25.2.2 _ _ (fun h => by omega)).1]; exact zz24
                                        have hr_25 := hr_20.sm s25 (fun o k h => by omega)
                                        have hS_25 := hS_20.sm s25 (fun k h1 h2 h => by omega)
                                        have hR_25 := Rb_paper hR_20 (by omega) (by omega) zz21 zz22 zz23 zz24
                                        have hC_25 := hC_20.sm s25 (fun o k h => by omega)
                                        have hf_25 : gI (sI (sI ν17 (b + 5) ((B 352) * 4 + 3) (nI 0)) b 13 (nI (B 352 + 1))) r 5 = nI 0 := by rw [(s25.2.2 _ _ (fun h => by omega)).1]; exact hf_20
                                        have hs_25 := hs_20.tr (s25.up (fun o k h => by unfold SRB; omega))
                                        refine w_aload_n (i := 0) hX dX4_readPaper_183 rfl rfl ?_
                                        refine w_iconst hX dX4_readPaper_184 kI_2 ?_
                                        refine w_callVI (As := [.int (nI 2)]) (rest := []) (ci := 4) (o := r) (k2 := 0) (n2 := 0) hX dX4_readPaper_185 (s_r_take Γ (sI (sI ν17 (b + 5) ((B 352) * 4 + 3) (nI 0)) b 13 (nI (B 352 + 1))) r t b s hr_25 htr hrb (n + 8) hS_25 2 (by omega)) okX4_take (ltb rfl) (rd_s hr_25.1) ml_RX4_101 imX4_take seX4_take rfl (leb rfl) (leb rfl) rfl rfl (fun r30 ν30 hq9 => ?_)
                                        rcases hq9 with ⟨w30, e30, hS_30, t30⟩ | ⟨w30, e30, m30⟩
                                        · rw [e30, show bI true = nI 1 from rfl]
                                          have zz31 : gI ν30 (b + 5) ((B 352) * 4) = nI v5 := by rw [(t30.2.2 _ _ (fun h => by unfold SA at h; omega)).1]; exact zz26
                                          have zz32 : gI ν30 (b + 5) ((B 352) * 4 + 1) = nI (vl s (n + 5)) := by rw [(t30.2.2 _ _ (fun h => by unfold SA at h; omega)).1]; exact zz27
                                          have zz33 : gI ν30 (b + 5) ((B 352) * 4 + 2) = nI (vl s (n + 7)) := by rw [(t30.2.2 _ _ (fun h => by unfold SA at h; omega)).1]; exact zz28
                                          have zz34 : gI ν30 (b + 5) ((B 352) * 4 + 3) = nI 0 := by rw [(t30.2.2 _ _ (fun h => by unfold SA at h; omega)).1]; exact zz29
                                          have hr_30 := hr_25.sm t30 (fun o k h => by unfold SA at h; omega)
                                          have hR_30 := Rb_fr t30 (fun o k h => Or.inl (by unfold SA at h; omega)) hR_25
                                          have hC_30 := hC_25.sm t30 (fun o k h => by unfold SA at h; omega)
                                          have hf_30 : gI ν30 r 5 = nI 0 := by rw [(t30.2.2 _ _ (fun h => by unfold SA at h; omega)).1]; exact hf_25
                                          have hs_30 := hs_25.tr (t30.up (fun o k h => by unfold SA at h; unfold SRB; omega))
                                          refine w_pop hX dX4_readPaper_188 rfl ?_
                                          have hpx : pPaper s n B M = .inr (n + 8, paB (stB B 352 (B 352 + 1)) (B 352) v5 (vl s (n + 5)) (vl s (n + 7)) 0, (addM M (wd s (n + 1)) 3 (B 352))) := by unfold pPaper; exact (bnd_r (pNew_y (by omega) w3 u3)).trans ((bnd_r (pWd_y w4)).trans ((bnd_r p5).trans ((bnd_r (pWd_y w10)).trans ((bnd_r p12).trans ((bnd_r (pWd_y w14)).trans ((bnd_r p17).trans ((if_neg (by omega)).trans (if_neg (by omega)))))))))
                                          exact w_vret hX hE dX4_readPaper_189 (Or.inl rfl) (RX_r ((bnd_r hpx).trans (bnd_r (pWd_y w30))) hs_30 hf_30 hS_30 hR_30 hC_30)
                                        · rw [e30, m30, show bI false = nI 0 from rfl]
                                          refine w_pop hX dX4_readPaper_188 rfl ?_
                                          have hpx : pPaper s n B M = .inr (n + 8, paB (stB B 352 (B 352 + 1)) (B 352) v5 (vl s (n + 5)) (vl s (n + 7)) 0, (addM M (wd s (n + 1)) 3 (B 352))) := by unfold pPaper; exact (bnd_r (pNew_y (by omega) w3 u3)).trans ((bnd_r (pWd_y w4)).trans ((bnd_r p5).trans ((bnd_r (pWd_y w10)).trans ((bnd_r p12).trans ((bnd_r (pWd_y w14)).trans ((bnd_r p17).trans ((if_neg (by omega)).trans (if_neg (by omega)))))))))
                                          exact w_vret hX hE dX4_readPaper_189 (Or.inl rfl) (RX_l ((bnd_r hpx).trans (bnd_l (pWd_n w30))) hs_25 (ft_lt hr.2.2.2.2.2 (by omega) (by omega)))
                                      · exact absurd c13 (by decide)
                                    · refine w_iconst hX dX4_readPaper_152 kI_2 ?_
                                      refine w_goto (tgt := 157) hX dX4_readPaper_153 (by decide) ?_
                                      refine w_iastN hX dX4_readPaper_157 (bk_a5 hR_17.1) (by omega) (by omega) ?_
                                      have s35 : same (fun o2 k2 => (o2 = b + 5 ∧ k2 = (B 352) * 4 + 3)) ν17 (sI ν17 (b + 5) ((B 352) * 4 + 3) (nI 2)) := (same.rf).sI (⟨rfl, rfl⟩)
                                      have zz36 : gI (sI ν17 (b + 5) ((B 352) * 4 + 3) (nI 2)) (b + 5) ((B 352) * 4) = nI v5 := by rw [(s35.2.2 _ _ (fun h => by omega)).1]; exact zz18
                                      have zz37 : gI (sI ν17 (b + 5) ((B 352) * 4 + 3) (nI 2)) (b + 5) ((B 352) * 4 + 1) = nI (vl s (n + 5)) := by rw [(s35.2.2 _ _ (fun h => by omega)).1]; exact zz19
                                      have zz38 : gI (sI ν17 (b + 5) ((B 352) * 4 + 3) (nI 2)) (b + 5) ((B 352) * 4 + 2) = nI (vl s (n + 7)) := by rw [(s35.2.2 _ _ (fun h => by omega)).1]; exact z17
                                      have hr_35 := hr_17.sm s35 (fun o k h => by omega)
                                      have hS_35 := hS_17.sm s35 (fun k h1 h2 h => by omega)
                                      have hR_35 := Rb_fr s35 (fun o k h => by omega) hR_17
                                      have hC_35 := hC_17.sm s35 (fun o k h => by omega)
                                      have hf_35 : gI (sI ν17 (b + 5) ((B 352) * 4 + 3) (nI 2)) r 5 = nI 0 := by rw [(s35.2.2 _ _ (fun h => by omega)).1]; exact hf_17
                                      have hs_35 := hs_17.tr (s35.up (fun o k h => by unfold SRB; omega))
                                      have zz39 : gI (sI ν17 (b + 5) ((B 352) * 4 + 3) (nI 2)) (b + 5) ((B 352) * 4 + 3) = nI 2 := by rw [gI_same]
                                      refine w_aload_n (i := 2) hX dX4_readPaper_158 rfl rfl ?_
                                      refine w_iload_n (i := 3) hX dX4_readPaper_159 rfl rfl ?_
                                      refine w_iconst hX dX4_readPaper_160 kI_3 ?_
                                      refine w_iaddN hX dX4_readPaper_161 ?_
                                      refine w_ialdN hX dX4_readPaper_162 (bk_a5 hR_35.1) (by omega) (by omega) ?_
                                      refine w_top (y := nI 2) zz39 ?_
                                      refine wn_if_le (tgt := 170) hX dX4_readPaper_163 (by decide) (by first | omega | (have := kd_le (s := s) (n := n + 8); omega)) (fun c14 => ?_) (fun c14 => ?_)
                                      · exact absurd c14 (by decide)
                                      · refine w_aload_n (i := 0) hX dX4_readPaper_166 rfl rfl ?_
                                        refine w_callVV (As := []) (rest := []) (ci := 4) (o := r) (k2 := 0) (n2 := 0) hX dX4_readPaper_167 (s_r_advance Γ (sI ν17 (b + 5) ((B 352) * 4 + 3) (nI 2)) r t b s hr_35 htr hrb (n + 9) hS_35.1) okX4_advance (ltb rfl) (rd_s hr_35.1) ml_RX4_57 imX4_advance seX4_advance rfl (leb rfl) (leb rfl) rfl rfl (fun ν40 hq9 => ?_)
                                        obtain ⟨hS_40, t40⟩ := hq9
                                        have zz41 : gI ν40 (b + 5) ((B 352) * 4) = nI v5 := by rw [(t40.2.2 _ _ (fun h => by unfold SA at h; omega)).1]; exact zz36
                                        have zz42 : gI ν40 (b + 5) ((B 352) * 4 + 1) = nI (vl s (n + 5)) := by rw [(t40.2.2 _ _ (fun h => by unfold SA at h; omega)).1]; exact zz37
                                        have zz43 : gI ν40 (b + 5) ((B 352) * 4 + 2) = nI (vl s (n + 7)) := by rw [(t40.2.2 _ _ (fun h => by unfold SA at h; omega)).1]; exact zz38
                                        have zz44 : gI ν40 (b + 5) ((B 352) * 4 + 3) = nI 2 := by rw [(t40.2.2 _ _ (fun h => by unfold SA at h; omega)).1]; exact zz39
                                        have hr_40 := hr_35.sm t40 (fun o k h => by unfold SA at h; omega)
                                        have hR_40 := Rb_fr t40 (fun o k h => Or.inl (by unfold SA at h; omega)) hR_35
                                        have hC_40 := hC_35.sm t40 (fun o k h => by unfold SA at h; omega)
                                        have hf_40 : gI ν40 r 5 = nI 0 := by rw [(t40.2.2 _ _ (fun h => by unfold SA at h; omega)).1]; exact hf_35
                                        have hs_40 := hs_35.tr (t40.up (fun o k h => by unfold SA at h; unfold SRB; omega))
                                        refine w_aload_n (i := 0) hX dX4_readPaper_170 rfl rfl ?_
                                        refine w_getR (q := b) hX dX4_readPaper_171 fo_RX4_41 rfl (rd_s hr_40.1) hr_40.2.2.1 ?_
                                        refine w_dup hX dX4_readPaper_174 rfl ?_
                                        refine w_getI hX dX4_readPaper_175 fo_RX4_153 rfl (bk_s hR_40.1) ?_
                                        refine w_top (y := nI (B 352)) hR_40.2.2.2.2.2.2.2.2.2.1 ?_
                                        refine w_iconst hX dX4_readPaper_178 kI_1 ?_
                                        refine w_iaddN hX dX4_readPaper_179 ?_
                                        refine w_putI hX dX4_readPaper_180 fo_RX4_153 rfl rfl rfl rfl (bk_s hR_40.1) ?_
                                        have s45 : same (fun o2 k2 => (o2 = b ∧ k2 = 13)) ν40 (sI ν40 b 13 (nI (B 352 + 1))) := (same.rf).sI (⟨rfl, rfl⟩)
                                        have zz46 : gI (sI ν40 b 13 (nI (B 352 + 1))) (b + 5) ((B 352) * 4) = nI v5 := by rw [(s45.2.2 _ _ (fun h => by omega)).1]; exact zz41
                                        have zz47 : gI (sI ν40 b 13 (nI (B 352 + 1))) (b + 5) ((B 352) * 4 + 1) = nI (vl s (n + 5)) := by rw [(s45.2.2 _ _ (fun h => by omega)).1]; exact zz42
                                        have zz48 : gI (sI ν40 b 13 (nI (B 352 + 1))) (b + 5) ((B 352) * 4 + 2) = nI (vl s (n + 7)) := by rw [(s45.2.2 _ _ (fun h => by omega)).1]; exact zz43
                                        have zz49 : gI (sI ν40 b 13 (nI (B 352 + 1))) (b + 5) ((B 352) * 4 + 3) = nI 2 := by rw [(s45.2.2 _ _ (fun h => by omega)).1]; exact zz44
                                        have hr_45 := hr_40.sm s45 (fun o k h => by omega)
                                        have hS_45 := hS_40.sm s45 (fun k h1 h2 h => by omega)
                                        have hR_45 := Rb_paper hR_40 (by omega) (by omega) zz41 zz42 zz43 zz44
                                        have hC_45 := hC_40.sm s45 (fun o k h => by omega)
                                        have hf_45 : gI (sI ν40 b 13 (nI (B 352 + 1))) r 5 = nI 0 := by rw [(s45.2.2 _ _ (fun h => by omega)).1]; exact hf_40
                                        have hs_45 := hs_40.tr (s45.up (fun o k h => by unfold SRB; omega))
                                        refine w_aload_n (i := 0) hX dX4_readPaper_183 rfl rfl ?_
                                        refine w_iconst hX dX4_readPaper_184 kI_2 ?_
                                        refine w_callVI (As := [.int (nI 2)]) (rest := []) (ci := 4) (o := r) (k2 := 0) (n2 := 0) hX dX4_readPaper_185 (s_r_take Γ (sI ν40 b 13 (nI (B 352 + 1))) r t b s hr_45 htr hrb (n + 9) hS_45 2 (by omega)) okX4_take (ltb rfl) (rd_s hr_45.1) ml_RX4_101 imX4_take seX4_take rfl (leb rfl) (leb rfl) rfl rfl (fun r50 ν50 hq9 => ?_)
                                        rcases hq9 with ⟨w50, e50, hS_50, t50⟩ | ⟨w50, e50, m50⟩
                                        · rw [e50, show bI true = nI 1 from rfl]
                                          have zz51 : gI ν50 (b + 5) ((B 352) * 4) = nI v5 := by rw [(t50.2.2 _ _ (fun h => by unfold SA at h; omega)).1]; exact zz46
                                          have zz52 : gI ν50 (b + 5) ((B 352) * 4 + 1) = nI (vl s (n + 5)) := by rw [(t50.2.2 _ _ (fun h => by unfold SA at h; omega)).1]; exact zz47
                                          have zz53 : gI ν50 (b + 5) ((B 352) * 4 + 2) = nI (vl s (n + 7)) := by rw [(t50.2.2 _ _ (fun h => by unfold SA at h; omega)).1]; exact zz48
                                          have zz54 : gI ν50 (b + 5) ((B 352) * 4 + 3) = nI 2 := by rw [(t50.2.2 _ _ (fun h => by unfold SA at h; omega)).1]; exact zz49
                                          have hr_50 := hr_45.sm t50 (fun o k h => by unfold SA at h; omega)
                                          have hR_50 := Rb_fr t50 (fun o k h => Or.inl (by unfold SA at h; omega)) hR_45
                                          have hC_50 := hC_45.sm t50 (fun o k h => by unfold SA at h; omega)
                                          have hf_50 : gI ν50 r 5 = nI 0 := by rw [(t50.2.2 _ _ (fun h => by unfold SA at h; omega)).1]; exact hf_45
                                          have hs_50 := hs_45.tr (t50.up (fun o k h => by unfold SA at h; unfold SRB; omega))
                                          refine w_pop hX dX4_readPaper_188 rfl ?_
                                          have hpx : pPaper s n B M = .inr (n + 9, paB (stB B 352 (B 352 + 1)) (B 352) v5 (vl s (n + 5)) (vl s (n + 7)) 2, (addM M (wd s (n + 1)) 3 (B 352))) := by unfold pPaper; exact (bnd_r (pNew_y (by omega) w3 u3)).trans ((bnd_r (pWd_y w4)).trans ((bnd_r p5).trans ((bnd_r (pWd_y w10)).trans ((bnd_r p12).trans ((bnd_r (pWd_y w14)).trans ((bnd_r p17).trans ((if_neg (by omega)).trans (if_pos (by omega)))))))))
                                          exact w_vret hX hE dX4_readPaper_189 (Or.inl rfl) (RX_r ((bnd_r hpx).trans (bnd_r (pWd_y w50))) hs_50 hf_50 hS_50 hR_50 hC_50)
                                        · rw [e50, m50, show bI false = nI 0 from rfl]
                                          refine w_pop hX dX4_readPaper_188 rfl ?_
                                          have hpx : pPaper s n B M = .inr (n + 9, paB (stB B 352 (B 352 + 1)) (B 352) v5 (vl s (n + 5)) (vl s (n + 7)) 2, (addM M (wd s (n + 1)) 3 (B 352))) := by unfold pPaper; exact (bnd_r (pNew_y (by omega) w3 u3)).trans ((bnd_r (pWd_y w4)).trans ((bnd_r p5).trans ((bnd_r (pWd_y w10)).trans ((bnd_r p12).trans ((bnd_r (pWd_y w14)).trans ((bnd_r p17).trans ((if_neg (by omega)).trans (if_pos (by omega)))))))))
                                          exact w_vret hX hE dX4_readPaper_189 (Or.inl rfl) (RX_l ((bnd_r hpx).trans (bnd_l (pWd_n w50))) hs_45 (ft_lt hr.2.2.2.2.2 (by omega) (by omega)))
                                  · refine w_iconst hX dX4_readPaper_139 kI_1 ?_
                                    refine w_goto (tgt := 157) hX dX4_readPaper_140 (by decide) ?_
                                    refine w_iastN hX dX4_readPaper_157 (bk_a5 hR_17.1) (by omega) (by omega) ?_
                                    have s55 : same (fun o2 k2 => (o2 = b + 5 ∧ k2 = (B 352) * 4 + 3)) ν17 (sI ν17 (b + 5) ((B 352) * 4 + 3) (nI 1)) := (same.rf).sI (⟨rfl, rfl⟩)
                                    have zz56 : gI (sI ν17 (b + 5) ((B 352) * 4 + 3) (nI 1)) (b + 5) ((B 352) * 4) = nI v5 := by rw [(s55.2.2 _ _ (fun h => by omega)).1]; exact zz18
                                    have zz57 : gI (sI ν17 (b + 5) ((B 352) * 4 + 3) (nI 1)) (b + 5) ((B 352) * 4 + 1) = nI (vl s (n + 5)) := by rw [(s55.2.2 _ _ (fun h => by omega)).1]; exact zz19
                                    have zz58 : gI (sI ν17 (b + 5) ((B 352) * 4 + 3) (nI 1)) (b + 5) ((B 352) * 4 + 2) = nI (vl s (n + 7)) := by rw [(s55.2.2 _ _ (fun h => by omega)).1]; exact z17
                                    have hr_55 := hr_17.sm s55 (fun o k h => by omega)
                                    have hS_55 := hS_17.sm s55 (fun k h1 h2 h => by omega)
                                    have hR_55 := Rb_fr s55 (fun o k h => by omega) hR_17
                                    have hC_55 := hC_17.sm s55 (fun o k h => by omega)
                                    have hf_55 : gI (sI ν17 (b + 5) ((B 352) * 4 + 3) (nI 1)) r 5 = nI 0 := by rw [(s55.2.2 _ _ (fun h => by omega)).1]; exact hf_17
                                    have hs_55 := hs_17.tr (s55.up (fun o k h => by unfold SRB; omega))
                                    have zz59 : gI (sI ν17 (b + 5) ((B 352) * 4 + 3) (nI 1)) (b + 5) ((B 352) * 4 + 3) = nI 1 := by rw [gI_same]
                                    refine w_aload_n (i := 2) hX dX4_readPaper_158 rfl rfl ?_
                                    refine w_iload_n (i := 3) hX dX4_readPaper_159 rfl rfl ?_
                                    refine w_iconst hX dX4_readPaper_160 kI_3 ?_
                                    refine w_iaddN hX dX4_readPaper_161 ?_
                                    refine w_ialdN hX dX4_readPaper_162 (bk_a5 hR_55.1) (by omega) (by omega) ?_
                                    refine w_top (y := nI 1) zz59 ?_
                                    refine wn_if_le (tgt := 170) hX dX4_readPaper_163 (by decide) (by first | omega | (have := kd_le (s := s) (n := n + 8); omega)) (fun c15 => ?_) (fun c15 => ?_)
                                    · exact absurd c15 (by decide)
                                    · refine w_aload_n (i := 0) hX dX4_readPaper_166 rfl rfl ?_
                                      refine w_callVV (As := []) (rest := []) (ci := 4) (o := r) (k2 := 0) (n2 := 0) hX dX4_readPaper_167 (s_r_advance Γ (sI ν17 (b + 5) ((B 352) * 4 + 3) (nI 1)) r t b s hr_55 htr hrb (n + 9) hS_55.1) okX4_advance (ltb rfl) (rd_s hr_55.1) ml_RX4_57 imX4_advance seX4_advance rfl (leb rfl) (leb rfl) rfl rfl (fun ν60 hq9 => ?_)
                                      obtain ⟨hS_60, t60⟩ := hq9
                                      have zz61 : gI ν60 (b + 5) ((B 352) * 4) = nI v5 := by rw [(t60.2.2 _ _ (fun h => by unfold SA at h; omega)).1]; exact zz56
                                      have zz62 : gI ν60 (b + 5) ((B 352) * 4 + 1) = nI (vl s (n + 5)) := by rw [(t60.2.2 _ _ (fun h => by unfold SA at h; omega)).1]; exact zz57
                                      have zz63 : gI ν60 (b + 5) ((B 352) * 4 + 2) = nI (vl s (n + 7)) := by rw [(t60.2.2 _ _ (fun h => by unfold SA at h; omega)).1]; exact zz58
                                      have zz64 : gI ν60 (b + 5) ((B 352) * 4 + 3) = nI 1 := by rw [(t60.2.2 _ _ (fun h => by unfold SA at h; omega)).1]; exact zz59
                                      have hr_60 := hr_55.sm t60 (fun o k h => by unfold SA at h; omega)
                                      have hR_60 := Rb_fr t60 (fun o k h => Or.inl (by unfold SA at h; omega)) hR_55
                                      have hC_60 := hC_55.sm t60 (fun o k h => by unfold SA at h; omega)
                                      have hf_60 : gI ν60 r 5 = nI 0 := by rw [(t60.2.2 _ _ (fun h => by unfold SA at h; omega)).1]; exact hf_55
                                      have hs_60 := hs_55.tr (t60.up (fun o k h => by unfold SA at h; unfold SRB; omega))
                                      refine w_aload_n (i := 0) hX dX4_readPaper_170 rfl rfl ?_
                                      refine w_getR (q := b) hX dX4_readPaper_171 fo_RX4_41 rfl (rd_s hr_60.1) hr_60.2.2.1 ?_
                                      refine w_dup hX dX4_readPaper_174 rfl ?_
                                      refine w_getI hX dX4_readPaper_175 fo_RX4_153 rfl (bk_s hR_60.1) ?_
                                      refine w_top (y := nI (B 352)) hR_60.2.2.2.2.2.2.2.2.2.1 ?_
                                      refine w_iconst hX dX4_readPaper_178 kI_1 ?_
                                      refine w_iaddN hX dX4_readPaper_179 ?_
                                      refine w_putI hX dX4_readPaper_180 fo_RX4_153 rfl rfl rfl rfl (bk_s hR_60.1) ?_
                                      have s65 : same (fun o2 k2 => (o2 = b ∧ k2 = 13)) ν60 (sI ν60 b 13 (nI (B 352 + 1))) := (same.rf).sI (⟨rfl, rfl⟩)
                                      have zz66 : gI (sI ν60 b 13 (nI (B 352 + 1))) (b + 5) ((B 352) * 4) = nI v5 := by rw [(s65.2.2 _ _ (fun h => by omega)).1]; exact zz61
                                      have zz67 : gI (sI ν60 b 13 (nI (B 352 + 1))) (b + 5) ((B 352) * 4 + 1) = nI (vl s (n + 5)) := by rw [(s65.2.2 _ _ (fun h => by omega)).1]; exact zz62
                                      have zz68 : gI (sI ν60 b 13 (nI (B 352 + 1))) (b + 5) ((B 352) * 4 + 2) = nI (vl s (n + 7)) := by rw [(s65.2.2 _ _ (fun h => by omega)).1]; exact zz63
                                      have zz69 : gI (sI ν60 b 13 (nI (B 352 + 1))) (b + 5) ((B 352) * 4 + 3) = nI 1 := by rw [(s65.2.2 _ _ (fun h => by omega)).1]; exact zz64
                                      have hr_65 := hr_60.sm s65 (fun o k h => by omega)
                                      have hS_65 := hS_60.sm s65 (fun k h1 h2 h => by omega)
                                      have hR_65 := Rb_paper hR_60 (by omega) (by omega) zz61 zz62 zz63 zz64
                                      have hC_65 := hC_60.sm s65 (fun o k h => by omega)
                                      have hf_65 : gI (sI ν60 b 13 (nI (B 352 + 1))) r 5 = nI 0 := by rw [(s65.2.2 _ _ (fun h => by omega)).1]; exact hf_60
                                      have hs_65 := hs_60.tr (s65.up (fun o k h => by unfold SRB; omega))
                                      refine w_aload_n (i := 0) hX dX4_readPaper_183 rfl rfl ?_
                                      refine w_iconst hX dX4_readPaper_184 kI_2 ?_
                                      refine w_callVI (As := [.int (nI 2)]) (rest := []) (ci := 4) (o := r) (k2 := 0) (n2 := 0) hX dX4_readPaper_185 (s_r_take Γ (sI ν60 b 13 (nI (B 352 + 1))) r t b s hr_65 htr hrb (n + 9) hS_65 2 (by omega)) okX4_take (ltb rfl) (rd_s hr_65.1) ml_RX4_101 imX4_take seX4_take rfl (leb rfl) (leb rfl) rfl rfl (fun r70 ν70 hq9 => ?_)
                                      rcases hq9 with ⟨w70, e70, hS_70, t70⟩ | ⟨w70, e70, m70⟩
                                      · rw [e70, show bI true = nI 1 from rfl]
                                        have zz71 : gI ν70 (b + 5) ((B 352) * 4) = nI v5 := by rw [(t70.2.2 _ _ (fun h => by unfold SA at h; omega)).1]; exact zz66
                                        have zz72 : gI ν70 (b + 5) ((B 352) * 4 + 1) = nI (vl s (n + 5)) := by rw [(t70.2.2 _ _ (fun h => by unfold SA at h; omega)).1]; exact zz67
                                        have zz73 : gI ν70 (b + 5) ((B 352) * 4 + 2) = nI (vl s (n + 7)) := by rw [(t70.2.2 _ _ (fun h => by unfold SA at h; omega)).1]; exact zz68
                                        have zz74 : gI ν70 (b + 5) ((B 352) * 4 + 3) = nI 1 := by rw [(t70.2.2 _ _ (fun h => by unfold SA at h; omega)).1]; exact zz69
                                        have hr_70 := hr_65.sm t70 (fun o k h => by unfold SA at h; omega)
                                        have hR_70 := Rb_fr t70 (fun o k h => Or.inl (by unfold SA at h; omega)) hR_65
                                        have hC_70 := hC_65.sm t70 (fun o k h => by unfold SA at h; omega)
                                        have hf_70 : gI ν70 r 5 = nI 0 := by rw [(t70.2.2 _ _ (fun h => by unfold SA at h; omega)).1]; exact hf_65
                                        have hs_70 := hs_65.tr (t70.up (fun o k h => by unfold SA at h; unfold SRB; omega))
                                        refine w_pop hX dX4_readPaper_188 rfl ?_
                                        have hpx : pPaper s n B M = .inr (n + 9, paB (stB B 352 (B 352 + 1)) (B 352) v5 (vl s (n + 5)) (vl s (n + 7)) 1, (addM M (wd s (n + 1)) 3 (B 352))) := by unfold pPaper; exact (bnd_r (pNew_y (by omega) w3 u3)).trans ((bnd_r (pWd_y w4)).trans ((bnd_r p5).trans ((bnd_r (pWd_y w10)).trans ((bnd_r p12).trans ((bnd_r (pWd_y w14)).trans ((bnd_r p17).trans (if_pos (by omega))))))))
                                        exact w_vret hX hE dX4_readPaper_189 (Or.inl rfl) (RX_r ((bnd_r hpx).trans (bnd_r (pWd_y w70))) hs_70 hf_70 hS_70 hR_70 hC_70)
                                      · rw [e70, m70, show bI false = nI 0 from rfl]
                                        refine w_pop hX dX4_readPaper_188 rfl ?_
                                        have hpx : pPaper s n B M = .inr (n + 9, paB (stB B 352 (B 352 + 1)) (B 352) v5 (vl s (n + 5)) (vl s (n + 7)) 1, (addM M (wd s (n + 1)) 3 (B 352))) := by unfold pPaper; exact (bnd_r (pNew_y (by omega) w3 u3)).trans ((bnd_r (pWd_y w4)).trans ((bnd_r p5).trans ((bnd_r (pWd_y w10)).trans ((bnd_r p12).trans ((bnd_r (pWd_y w14)).trans ((bnd_r p17).trans (if_pos (by omega))))))))
                                        exact w_vret hX hE dX4_readPaper_189 (Or.inl rfl) (RX_l ((bnd_r hpx).trans (bnd_l (pWd_n w70))) hs_65 (ft_lt hr.2.2.2.2.2 (by omega) (by omega)))
                              · rw [e17, m17, show bI false = nI 0 from rfl]
                                refine wn_if_eq (tgt := 189) hX dX4_readPaper_123 (by decide) (by first | omega | (have := kd_le (s := s) (n := n + 8); omega)) (fun c16 => ?_) (fun c16 => ?_)
                                · have hpx : pPaper s n B M = .inl f17 := by unfold pPaper; exact (bnd_r (pNew_y (by omega) w3 u3)).trans ((bnd_r (pWd_y w4)).trans ((bnd_r p5).trans ((bnd_r (pWd_y w10)).trans ((bnd_r p12).trans ((bnd_r (pWd_y w14)).trans (bnd_l p17))))))
                                  exact w_vret hX hE dX4_readPaper_189 (Or.inl rfl) (RX_l (bnd_l hpx) hs_14 (pNb_l hr.2.2.2.2.2 p17))
                                · exact absurd c16 (by decide)
                          · rw [e14, m14, show bI false = nI 0 from rfl]
                            refine wn_if_eq (tgt := 189) hX dX4_readPaper_108 (by decide) (by first | omega | (have := kd_le (s := s) (n := n + 8); omega)) (fun c17 => ?_) (fun c17 => ?_)
                            · have hpx : pPaper s n B M = .inl (ft s 1 (n + 6)) := by unfold pPaper; exact (bnd_r (pNew_y (by omega) w3 u3)).trans ((bnd_r (pWd_y w4)).trans ((bnd_r p5).trans ((bnd_r (pWd_y w10)).trans ((bnd_r p12).trans (bnd_l (pWd_n w14))))))
                              exact w_vret hX hE dX4_readPaper_189 (Or.inl rfl) (RX_l (bnd_l hpx) hs_12 (ft_lt hr.2.2.2.2.2 (by omega) (by omega)))
                            · exact absurd c17 (by decide)
                      · rw [e12, m12, show bI false = nI 0 from rfl]
                        refine wn_if_eq (tgt := 189) hX dX4_readPaper_99 (by decide) (by first | omega | (have := kd_le (s := s) (n := n + 8); omega)) (fun c18 => ?_) (fun c18 => ?_)
                        · have hpx : pPaper s n B M = .inl f12 := by unfold pPaper; exact (bnd_r (pNew_y (by omega) w3 u3)).trans ((bnd_r (pWd_y w4)).trans ((bnd_r p5).trans ((bnd_r (pWd_y w10)).trans (bnd_l p12))))
                          exact w_vret hX hE dX4_readPaper_189 (Or.inl rfl) (RX_l (bnd_l hpx) hs_10 (pNb_l hr.2.2.2.2.2 p12))
                        · exact absurd c18 (by decide)
                  · rw [e10, m10, show bI false = nI 0 from rfl]
                    refine wn_if_eq (tgt := 189) hX dX4_readPaper_84 (by decide) (by first | omega | (have := kd_le (s := s) (n := n + 8); omega)) (fun c19 => ?_) (fun c19 => ?_)
                    · have hpx : pPaper s n B M = .inl (ft s 1 (n + 4)) := by unfold pPaper; exact (bnd_r (pNew_y (by omega) w3 u3)).trans ((bnd_r (pWd_y w4)).trans ((bnd_r p5).trans (bnd_l (pWd_n w10))))
                      exact w_vret hX hE dX4_readPaper_189 (Or.inl rfl) (RX_l (bnd_l hpx) hs_8 (ft_lt hr.2.2.2.2.2 (by omega) (by omega)))
                    · exact absurd c19 (by decide)
                · exact absurd c6 (nI_m1 (by first | omega | (have := kd_le (s := s) (n := n + 8); omega)))
              · rw [e5, m5]
                refine w_iastN hX dX4_readPaper_65 (bk_a5 hR_4.1) (by omega) (by omega) ?_
                refine w_aload_n (i := 2) hX dX4_readPaper_66 rfl rfl ?_
                refine w_iload_n (i := 3) hX dX4_readPaper_67 rfl rfl ?_
                refine w_ialdN hX dX4_readPaper_68 (bk_a5 hR_4.1) (by omega) (by omega) ?_
                refine w_top (y := (-1 : Int32)) gI_same ?_
                refine w_iconst hX dX4_readPaper_69 kI_m1 ?_
                refine wc_icmp_ne (tgt := 74) hX dX4_readPaper_70 (by decide) (fun c20 => ?_) (fun c20 => ?_)
                · exact absurd rfl c20
                · have hpx : pPaper s n B M = .inl f5 := by unfold pPaper; exact (bnd_r (pNew_y (by omega) w3 u3)).trans ((bnd_r (pWd_y w4)).trans (bnd_l p5))
                  exact w_vret hX hE dX4_readPaper_73 (Or.inl rfl) (RX_l2 (bnd_l hpx) ((hs_4.sI (Or.inl ⟨rfl, by omega⟩)).sI (Or.inr (Or.inr ⟨by omega, by omega⟩))) (by rw [gI_no (by omega), gI_same]) (pNm_l hr.2.2.2.2.2 p5))
            · exact absurd c5 (by decide)
          · rw [e4, m4, show bI false = nI 0 from rfl]
            refine wn_if_ne (tgt := 46) hX dX4_readPaper_42 (by decide) (by first | omega | (have := kd_le (s := s) (n := n + 8); omega)) (fun c21 => ?_) (fun c21 => ?_)
            · exact absurd c21 (by decide)
            · have hpx : pPaper s n B M = .inl (ft s 1 (n + 2)) := by unfold pPaper; exact (bnd_r (pNew_y (by omega) w3 u3)).trans (bnd_l (pWd_n w4))
              exact w_vret hX hE dX4_readPaper_45 (Or.inl rfl) (RX_l (bnd_l hpx) hs_3 (ft_lt hr.2.2.2.2.2 (by omega) (by omega)))
      · rw [e3, m3, show bI false = nI 0 from rfl]
        refine wn_if_eq (tgt := 45) hX dX4_readPaper_33 (by decide) (by first | omega | (have := kd_le (s := s) (n := n + 8); omega)) (fun c22 => ?_) (fun c22 => ?_)
        · have hpx : pPaper s n B M = .inl (ft s 1 (n + 1)) := by unfold pPaper; exact bnd_l (pNew_1 (by omega) w3)
          exact w_vret hX hE dX4_readPaper_45 (Or.inl rfl) (RX_l (bnd_l hpx) hs_2 (ft_lt hr.2.2.2.2.2 (by omega) (by omega)))
        · exact absurd c22 (by decide)
      · rw [e3, m3, show bI false = nI 0 from rfl]
        refine wn_if_eq (tgt := 45) hX dX4_readPaper_33 (by decide) (by first | omega | (have := kd_le (s := s) (n := n + 8); omega)) (fun c23 => ?_) (fun c23 => ?_)
        · have hpx : pPaper s n B M = .inl (ft s 3 (n + 1)) := by unfold pPaper; exact bnd_l (pNew_3 (by omega) w3 u3)
          exact w_vret hX hE dX4_readPaper_45 (Or.inl rfl) (RX_l (bnd_l hpx) hs_2 (ft_lt hr.2.2.2.2.2 (by omega) (by omega)))
        · exact absurd c23 (by decide)
set_option maxHeartbeats 1000000 in
theorem s_r_rule0 (Γ : Gm) (μ : Mem) (r t b : Nat) (s : Tp) (n : Nat) (B : Nat → Nat) (M : NM) (hr : RD μ r t b s) (htr : t + 1 < r) (hrb : r + 2 < b) (hS : RS μ r s n) (hR : Rb μ b B) (hC : CN μ b M) (hf : gI μ r 5 = nI 0) (hP : PIv B M) (hk9 : kd s n = 21) : SpV Γ MX4_readRule 4 0 0 [.ref r] μ (fun μ2 => RX r b s (bnd (pRule s n B M 0) (pSemi s)) μ μ2) := by
  refine SpV.of okX4_readRule rfl [some (.ref r), none, none, none, none, none] ⟨rfl, trivial⟩ (leb rfl) (leb rfl) (fun X hX hE hnm => ?_)
  have hs : same (SRB r b) μ μ := same.rf
  obtain ⟨hM9, hb0, hb85, hb126, hb352⟩ := M32 hP
  have hb401 := hP.1.2.2.2.2.2.1
  refine w_aload_n (i := 0) hX dX4_readRule_0 rfl rfl ?_
  refine w_getR (q := b) hX dX4_readRule_1 fo_RX4_41 rfl (rd_s hr.1) hr.2.2.1 ?_
  refine w_getI hX dX4_readRule_4 fo_RX4_159 rfl (bk_s hR.1) ?_
  refine w_top (y := nI (B 401)) hR.2.2.2.2.2.2.2.2.2.2.2.1 ?_
  refine w_istore_n (i := 1) (l2 := [some (.ref r), some (.int (nI (B 401))), none, none, none, none]) hX dX4_readRule_7 rfl (ltb rfl) rfl rfl ?_
  refine w_aload_n (i := 0) hX dX4_readRule_8 rfl rfl ?_
  refine w_getI hX dX4_readRule_9 fo_RX4_62 rfl (rd_s hr.1) ?_
  refine w_top (y := nI (kd s (n))) hS.2.1 ?_
  refine w_bipush hX dX4_readRule_12 kB_22 ?_
  refine wn_icmp_ne (tgt := 21) hX dX4_readRule_14 (by decide) (by first | omega | (have := kd_le (s := s) (n := n); omega)) (by first | omega | (have := kd_le (s := s) (n := n); omega)) (fun c1 => ?_) (fun c1 => ?_)
  · refine w_iconst hX dX4_readRule_21 kI_0 ?_
    refine w_istore_n (i := 2) (l2 := [some (.ref r), some (.int (nI (B 401))), some (.int (nI 0)), none, none, none]) hX dX4_readRule_22 rfl (ltb rfl) rfl rfl ?_
    refine w_aload_n (i := 0) hX dX4_readRule_23 rfl rfl ?_
    refine w_iload_n (i := 1) hX dX4_readRule_24 rfl rfl ?_
    refine w_bipush hX dX4_readRule_25 kB_16 ?_
    refine wn_icmp_ge (tgt := 34) hX dX4_readRule_27 (by decide) (by first | omega | (have := kd_le (s := s) (n := n); omega)) (by first | omega | (have := kd_le (s := s) (n := n); omega)) (fun c2 => ?_) (fun c2 => ?_)
    · refine w_iconst hX dX4_readRule_34 kI_0 ?_
      refine w_callVI (As := [.int (nI 0)]) (rest := []) (ci := 4) (o := r) (k2 := 0) (n2 := 0) hX dX4_readRule_35 (s_r_more0 Γ μ r t b s hr htr hrb (n) hS) okX4_takeOneMore (ltb rfl) (rd_s hr.1) ml_RX4_93 imX4_takeOneMore seX4_takeOneMore rfl (leb rfl) (leb rfl) rfl rfl (fun r9 μ9 hq9 => ?_)
      obtain ⟨hr9, hm9⟩ := hq9; rw [hr9, hm9]; clear hr9 hm9 r9 μ9
      refine wn_if_ne (tgt := 42) hX dX4_readRule_38 (by decide) (by first | omega | (have := kd_le (s := s) (n := n); omega)) (fun c3 => ?_) (fun c3 => ?_)
      · exact absurd c3 (by decide)
      · have hpx : pRule s n B M 0 = .inl (ft s 5 (n)) := by unfold pRule; exact if_pos (by omega)
        exact w_vret hX hE dX4_readRule_41 (Or.inl rfl) (RX_l (bnd_l hpx) hs (ft_lt hr.2.2.2.2.2 (by omega) (by omega)))
    · refine w_iconst hX dX4_readRule_30 kI_1 ?_
      refine w_goto (tgt := 35) hX dX4_readRule_31 (by decide) ?_
      refine w_callVI (As := [.int (nI 1)]) (rest := []) (ci := 4) (o := r) (k2 := 0) (n2 := 0) hX dX4_readRule_35 (s_r_more1 Γ μ r t b s hr htr hrb (n) hS) okX4_takeOneMore (ltb rfl) (rd_s hr.1) ml_RX4_93 imX4_takeOneMore seX4_takeOneMore rfl (leb rfl) (leb rfl) rfl rfl (fun r2 ν2 hq9 => ?_)
      obtain ⟨e2, hS_2, t2⟩ := hq9; rw [e2]
      have hr_2 := hr.sm t2 (fun o k h => by unfold SA at h; omega)
      have hR_2 := Rb_fr t2 (fun o k h => Or.inl (by unfold SA at h; omega)) hR
      have hC_2 := hC.sm t2 (fun o k h => by unfold SA at h; omega)
      have hf_2 : gI ν2 r 5 = nI 0 := by rw [(t2.2.2 _ _ (fun h => by unfold SA at h; omega)).1]; exact hf
      have hs_2 := hs.tr (t2.up (fun o k h => by unfold SA at h; unfold SRB; omega))
      refine wn_if_ne (tgt := 42) hX dX4_readRule_38 (by decide) (by first | omega | (have := kd_le (s := s) (n := n); omega)) (fun c4 => ?_) (fun c4 => ?_)
      · refine w_aload_n (i := 0) hX dX4_readRule_42 rfl rfl ?_
        refine w_bipush hX dX4_readRule_43 kB_17 ?_
        refine w_top (y := nI (kc 3)) rfl ?_
        refine w_callVI (As := [.int (nI (kc 3))]) (rest := []) (ci := 4) (o := r) (k2 := 0) (n2 := 0) hX dX4_readRule_45 (s_r_told Γ ν2 r t b s hr_2 htr hrb (n + 1) hS_2 hR_2.1 M hC_2 3 (by omega)) okX4_toldName (ltb rfl) (rd_s hr_2.1) ml_RX4_131 imX4_toldName seX4_toldName rfl (leb rfl) (leb rfl) rfl rfl (fun r3 ν3 hq9 => ?_)
        rcases hq9 with ⟨v3, p3, e3, m3⟩ | ⟨f3, p3, e3, m3⟩
        · rw [e3, m3]
          have lt3 := told_p hP p3
          refine w_istore_n (i := 3) (l2 := [some (.ref r), some (.int (nI (B 401))), some (.int (nI 0)), some (.int (nI v3)), none, none]) hX dX4_readRule_48 rfl (ltb rfl) rfl rfl ?_
          refine w_iload_n (i := 3) hX dX4_readRule_49 rfl rfl ?_
          refine w_iconst hX dX4_readRule_50 kI_m1 ?_
          refine wc_icmp_ne (tgt := 55) hX dX4_readRule_51 (by decide) (fun c5 => ?_) (fun c5 => ?_)
          · refine w_aload_n (i := 0) hX dX4_readRule_55 rfl rfl ?_
            refine w_callVV (As := []) (rest := []) (ci := 4) (o := r) (k2 := 0) (n2 := 0) hX dX4_readRule_56 (s_r_advance Γ ν2 r t b s hr_2 htr hrb (n + 2) hS_2.1) okX4_advance (ltb rfl) (rd_s hr_2.1) ml_RX4_57 imX4_advance seX4_advance rfl (leb rfl) (leb rfl) rfl rfl (fun ν4 hq9 => ?_)
            obtain ⟨hS_4, t4⟩ := hq9
            have hr_4 := hr_2.sm t4 (fun o k h => by unfold SA at h; omega)
            have hR_4 := Rb_fr t4 (fun o k h => Or.inl (by unfold SA at h; omega)) hR_2
            have hC_4 := hC_2.sm t4 (fun o k h => by unfold SA at h; omega)
            have hf_4 : gI ν4 r 5 = nI 0 := by rw [(t4.2.2 _ _ (fun h => by unfold SA at h; omega)).1]; exact hf_2
            have hs_4 := hs_2.tr (t4.up (fun o k h => by unfold SA at h; unfold SRB; omega))
            refine w_aload_n (i := 0) hX dX4_readRule_59 rfl rfl ?_
            refine w_bipush hX dX4_readRule_60 kB_17 ?_
            refine w_top (y := nI (kc 3)) rfl ?_
            refine w_callVI (As := [.int (nI (kc 3))]) (rest := []) (ci := 4) (o := r) (k2 := 0) (n2 := 0) hX dX4_readRule_62 (s_r_told Γ ν4 r t b s hr_4 htr hrb (n + 2) hS_4 hR_4.1 M hC_4 3 (by omega)) okX4_toldName (ltb rfl) (rd_s hr_4.1) ml_RX4_131 imX4_toldName seX4_toldName rfl (leb rfl) (leb rfl) rfl rfl (fun r5 ν5 hq9 => ?_)
            rcases hq9 with ⟨v5, p5, e5, m5⟩ | ⟨f5, p5, e5, m5⟩
            · rw [e5, m5]
              have lt5 := told_p hP p5
              refine w_istore (l2 := [some (.ref r), some (.int (nI (B 401))), some (.int (nI 0)), some (.int (nI v3)), some (.int (nI v5)), none]) hX dX4_readRule_65 (ltb rfl) rfl rfl ?_
              refine w_iload hX dX4_readRule_67 rfl ?_
              refine w_iconst hX dX4_readRule_69 kI_m1 ?_
              refine wc_icmp_eq (tgt := 92) hX dX4_readRule_70 (by decide) (fun c6 => ?_) (fun c6 => ?_)
              · exact absurd c6 (nI_m1 (by first | omega | (have := kd_le (s := s) (n := n); omega)))
              · refine w_aload_n (i := 0) hX dX4_readRule_73 rfl rfl ?_
                refine w_iload_n (i := 3) hX dX4_readRule_74 rfl rfl ?_
                refine w_iload hX dX4_readRule_75 rfl ?_
                refine wn_icmp_eq (tgt := 84) hX dX4_readRule_77 (by decide) (by first | omega | (have := kd_le (s := s) (n := n); omega)) (by first | omega | (have := kd_le (s := s) (n := n); omega)) (fun c7 => ?_) (fun c7 => ?_)
                · refine w_iconst hX dX4_readRule_84 kI_0 ?_
                  refine w_iconst hX dX4_readRule_85 kI_3 ?_
                  refine w_callVI (As := [.int (nI 0), .int (nI 3)]) (rest := []) (ci := 4) (o := r) (k2 := 0) (n2 := 0) hX dX4_readRule_86 (s_r_check0 Γ ν4 r t b s hr_4 htr hrb (n + 2) 3 hS_4.2.2.1) okX4_check (ltb rfl) (rd_s hr_4.1) ml_RX4_86 imX4_check seX4_check rfl (leb rfl) (leb rfl) rfl rfl (fun r9 μ9 hq9 => ?_)
                  obtain ⟨hr9, hm9⟩ := hq9; rw [hr9, hm9, show 3 + 16 * pl s (n + 2) = ft s 3 (n + 2) from rfl]; clear hr9 hm9 r9 μ9
                  refine wn_if_ne (tgt := 93) hX dX4_readRule_89 (by decide) (by first | omega | (have := kd_le (s := s) (n := n); omega)) (fun c8 => ?_) (fun c8 => ?_)
                  · exact absurd c8 (by decide)
                  · have hpx : pRule s n B M 0 = .inl (ft s 3 (n + 2)) := by unfold pRule; exact (if_neg (by omega)).trans ((bnd_r p3).trans ((bnd_r p5).trans (if_pos (by omega))))
                    exact w_vret hX hE dX4_readRule_92 (Or.inl rfl) (RX_l (bnd_l hpx) hs_4 (ft_lt hr.2.2.2.2.2 (by omega) (by omega)))
                · refine w_iconst hX dX4_readRule_80 kI_1 ?_
                  refine w_goto (tgt := 85) hX dX4_readRule_81 (by decide) ?_
                  refine w_iconst hX dX4_readRule_85 kI_3 ?_
                  refine w_callVI (As := [.int (nI 1), .int (nI 3)]) (rest := []) (ci := 4) (o := r) (k2 := 0) (n2 := 0) hX dX4_readRule_86 (s_r_check1 Γ ν4 r t b s hr_4 htr hrb (n + 2) 3 hS_4.2.2.1) okX4_check (ltb rfl) (rd_s hr_4.1) ml_RX4_86 imX4_check seX4_check rfl (leb rfl) (leb rfl) rfl rfl (fun r9 μ9 hq9 => ?_)
                  obtain ⟨hr9, hm9⟩ := hq9; rw [hr9, hm9]; clear hr9 hm9 r9 μ9
                  refine wn_if_ne (tgt := 93) hX dX4_readRule_89 (by decide) (by first | omega | (have := kd_le (s := s) (n := n); omega)) (fun c9 => ?_) (fun c9 => ?_)
                  · refine w_aload_n (i := 0) hX dX4_readRule_93 rfl rfl ?_
                    refine w_callVV (As := []) (rest := []) (ci := 4) (o := r) (k2 := 0) (n2 := 0) hX dX4_readRule_94 (s_r_advance Γ ν4 r t b s hr_4 htr hrb (n + 3) hS_4.1) okX4_advance (ltb rfl) (rd_s hr_4.1) ml_RX4_57 imX4_advance seX4_advance rfl (leb rfl) (leb rfl) rfl rfl (fun ν6 hq9 => ?_)
                    obtain ⟨hS_6, t6⟩ := hq9
                    have hr_6 := hr_4.sm t6 (fun o k h => by unfold SA at h; omega)
                    have hR_6 := Rb_fr t6 (fun o k h => Or.inl (by unfold SA at h; omega)) hR_4
                    have hC_6 := hC_4.sm t6 (fun o k h => by unfold SA at h; omega)
                    have hf_6 : gI ν6 r 5 = nI 0 := by rw [(t6.2.2 _ _ (fun h => by unfold SA at h; omega)).1]; exact hf_4
                    have hs_6 := hs_4.tr (t6.up (fun o k h => by unfold SA at h; unfold SRB; omega))
                    refine w_iload_n (i := 1) hX dX4_readRule_97 rfl rfl ?_
                    refine w_iconst hX dX4_readRule_98 kI_4 ?_
                    refine w_imulN hX dX4_readRule_99 ?_
                    refine w_istore (l2 := [some (.ref r), some (.int (nI (B 401))), some (.int (nI 0)), some (.int (nI v3)), some (.int (nI v5)), some (.int (nI ((B 401) * 4)))]) hX dX4_readRule_100 (ltb rfl) rfl rfl ?_
                    refine w_aload_n (i := 0) hX dX4_readRule_102 rfl rfl ?_
                    refine w_getR (q := b) hX dX4_readRule_103 fo_RX4_41 rfl (rd_s hr_6.1) hr_6.2.2.1 ?_
                    refine w_getR (q := b + 6) hX dX4_readRule_106 fo_RX4_162 rfl (bk_s hR_6.1) (bk_r5 hR_6.1) ?_
                    refine w_iload hX dX4_readRule_109 rfl ?_
                    refine w_iload_n (i := 2) hX dX4_readRule_111 rfl rfl ?_
                    refine w_iastN hX dX4_readRule_112 (bk_a6 hR_6.1) (by omega) (by omega) ?_
                    refine w_aload_n (i := 0) hX dX4_readRule_113 rfl rfl ?_
                    refine w_getR (q := b) hX dX4_readRule_114 fo_RX4_41 rfl (rd_s hr_6.1) hr_6.2.2.1 ?_
                    refine w_getR (q := b + 6) hX dX4_readRule_117 fo_RX4_162 rfl (bk_s hR_6.1) (bk_r5 hR_6.1) ?_
                    refine w_iload hX dX4_readRule_120 rfl ?_
                    refine w_iconst hX dX4_readRule_122 kI_1 ?_
                    refine w_iaddN hX dX4_readRule_123 ?_
                    refine w_iload_n (i := 3) hX dX4_readRule_124 rfl rfl ?_
                    refine w_iastN hX dX4_readRule_125 (bk_a6 hR_6.1) (by omega) (by omega) ?_
                    refine w_aload_n (i := 0) hX dX4_readRule_126 rfl rfl ?_
                    refine w_getR (q := b) hX dX4_readRule_127 fo_RX4_41 rfl (rd_s hr_6.1) hr_6.2.2.1 ?_
                    refine w_getR (q := b + 6) hX dX4_readRule_130 fo_RX4_162 rfl (bk_s hR_6.1) (bk_r5 hR_6.1) ?_
                    refine w_iload hX dX4_readRule_133 rfl ?_
                    refine w_iconst hX dX4_readRule_135 kI_2 ?_
                    refine w_iaddN hX dX4_readRule_136 ?_
                    refine w_iload hX dX4_readRule_137 rfl ?_
                    refine w_iastN hX dX4_readRule_139 (bk_a6 hR_6.1) (by omega) (by omega) ?_
                    have s7 : same (fun o2 k2 => (o2 = b + 6 ∧ k2 = (B 401) * 4) ∨ (o2 = b + 6 ∧ k2 = (B 401) * 4 + 1) ∨ (o2 = b + 6 ∧ k2 = (B 401) * 4 + 2)) ν6 (sI (sI (sI ν6 (b + 6) ((B 401) * 4) (nI 0)) (b + 6) ((B 401) * 4 + 1) (nI v3)) (b + 6) ((B 401) * 4 + 2) (nI v5)) := (((same.rf).sI (Or.inl ⟨rfl, rfl⟩)).sI (Or.inr (Or.inl ⟨rfl, rfl⟩))).sI (Or.inr (Or.inr (⟨rfl, rfl⟩)))
                    have hr_7 := hr_6.sm s7 (fun o k h => by omega)
                    have hS_7 := hS_6.sm s7 (fun k h1 h2 h => by omega)
                    have hR_7 := Rb_fr s7 (fun o k h => by omega) hR_6
                    have hC_7 := hC_6.sm s7 (fun o k h => by omega)
                    have hf_7 : gI (sI (sI (sI ν6 (b + 6) ((B 401) * 4) (nI 0)) (b + 6) ((B 401) * 4 + 1) (nI v3)) (b + 6) ((B 401) * 4 + 2) (nI v5)) r 5 = nI 0 := by rw [(s7.2.2 _ _ (fun h => by omega)).1]; exact hf_6
                    have hs_7 := hs_6.tr (s7.up (fun o k h => by unfold SRB; omega))
                    have zz8 : gI (sI (sI (sI ν6 (b + 6) ((B 401) * 4) (nI 0)) (b + 6) ((B 401) * 4 + 1) (nI v3)) (b + 6) ((B 401) * 4 + 2) (nI v5)) (b + 6) ((B 401) * 4) = nI 0 := by rw [gI_nk (by omega), gI_nk (by omega), gI_same]
                    have zz9 : gI (sI (sI (sI ν6 (b + 6) ((B 401) * 4) (nI 0)) (b + 6) ((B 401) * 4 + 1) (nI v3)) (b + 6) ((B 401) * 4 + 2) (nI v5)) (b + 6) ((B 401) * 4 + 1) = nI v3 := by rw [gI_nk (by omega), gI_same]
                    have zz10 : gI (sI (sI (sI ν6 (b + 6) ((B 401) * 4) (nI 0)) (b + 6) ((B 401) * 4 + 1) (nI v3)) (b + 6) ((B 401) * 4 + 2) (nI v5)) (b + 6) ((B 401) * 4 + 2) = nI v5 := by rw [gI_same]
                    refine w_aload_n (i := 0) hX dX4_readRule_140 rfl rfl ?_
                    refine w_iconst hX dX4_readRule_141 kI_0 ?_
                    refine w_sipush hX dX4_readRule_142 kS_9999 ?_
                    refine w_aload_n (i := 0) hX dX4_readRule_145 rfl rfl ?_
                    refine w_getR (q := b) hX dX4_readRule_146 fo_RX4_41 rfl (rd_s hr_7.1) hr_7.2.2.1 ?_
                    refine w_getR (q := b + 6) hX dX4_readRule_149 fo_RX4_162 rfl (bk_s hR_7.1) (bk_r5 hR_7.1) ?_
                    refine w_iload hX dX4_readRule_152 rfl ?_
                    refine w_iconst hX dX4_readRule_154 kI_3 ?_
                    refine w_iaddN hX dX4_readRule_155 ?_
                    refine w_callVI (As := [.int (nI 0), .int (nI 9999), .ref (b + 6), .int (nI ((B 401) * 4 + 3))]) (rest := []) (ci := 4) (o := r) (k2 := 0) (n2 := 0) hX dX4_readRule_156 (s_r_takeN Γ (sI (sI (sI ν6 (b + 6) ((B 401) * 4) (nI 0)) (b + 6) ((B 401) * 4 + 1) (nI v3)) (b + 6) ((B 401) * 4 + 2) (nI v5)) r t b s hr_7 htr hrb (n + 3) hS_7 0 9999 (by omega) (by omega) (b + 6) ((B 401) * 4 + 3) 64 (bk_a6 hR_7.1) (by omega) (by omega) (by omega)) okX4_takeNumber (ltb rfl) (rd_s hr_7.1) ml_RX4_123 imX4_takeNumber seX4_takeNumber rfl (leb rfl) (leb rfl) rfl rfl (fun r11 ν11 hq9 => ?_)
                    rcases hq9 with ⟨p11, e11, hS_11, z11, t11⟩ | ⟨f11, p11, e11, m11⟩
                    · rw [e11, show bI true = nI 1 from rfl]
                      obtain ⟨q11, -, l11, g11⟩ := pNb_inr p11
                      have zz12 : gI ν11 (b + 6) ((B 401) * 4) = nI 0 := by rw [(t11.2.2 _ _ (fun h => by unfold SA at h; omega)).1]; exact zz8
                      have zz13 : gI ν11 (b + 6) ((B 401) * 4 + 1) = nI v3 := by rw [(t11.2.2 _ _ (fun h => by unfold SA at h; omega)).1]; exact zz9
                      have zz14 : gI ν11 (b + 6) ((B 401) * 4 + 2) = nI v5 := by rw [(t11.2.2 _ _ (fun h => by unfold SA at h; omega)).1]; exact zz10
                      have hr_11 := hr_7.sm t11 (fun o k h => by unfold SA at h; omega)
                      have hR_11 := Rb_fr t11 (fun o k h => by unfold SA at h; omega) hR_7
                      have hC_11 := hC_7.sm t11 (fun o k h => by unfold SA at h; omega)
                      have hf_11 : gI ν11 r 5 = nI 0 := by rw [(t11.2.2 _ _ (fun h => by unfold SA at h; omega)).1]; exact hf_7
                      have hs_11 := hs_7.tr (t11.up (fun o k h => by unfold SA at h; unfold SRB; omega))
                      refine wn_if_eq (tgt := 181) hX dX4_readRule_159 (by decide) (by first | omega | (have := kd_le (s := s) (n := n); omega)) (fun c10 => ?_) (fun c10 => ?_)
                      · exact absurd c10 (by decide)
                      · refine w_aload_n (i := 0) hX dX4_readRule_162 rfl rfl ?_
                        refine w_getR (q := b) hX dX4_readRule_163 fo_RX4_41 rfl (rd_s hr_11.1) hr_11.2.2.1 ?_
                        refine w_dup hX dX4_readRule_166 rfl ?_
                        refine w_getI hX dX4_readRule_167 fo_RX4_159 rfl (bk_s hR_11.1) ?_
                        refine w_top (y := nI (B 401)) hR_11.2.2.2.2.2.2.2.2.2.2.2.1 ?_
                        refine w_iconst hX dX4_readRule_170 kI_1 ?_
                        refine w_iaddN hX dX4_readRule_171 ?_
                        refine w_putI hX dX4_readRule_172 fo_RX4_159 rfl rfl rfl rfl (bk_s hR_11.1) ?_
                        have s15 : same (fun o2 k2 => (o2 = b ∧ k2 = 14)) ν11 (sI ν11 b 14 (nI (B 401 + 1))) := (same.rf).sI (⟨rfl, rfl⟩)
                        have zz16 : gI (sI ν11 b 14 (nI (B 401 + 1))) (b + 6) ((B 401) * 4) = nI 0 := by rw [(s15.2.2 _ _ (fun h => by omega)).1]; exact zz12
                        have zz17 : gI (sI ν11 b 14 (nI (B 401 + 1))) (b + 6) ((B 401) * 4 + 1) = nI v3 := by rw [(s15.2.2 _ _ (fun h => by omega)).1]; exact zz13
                        have zz18 : gI (sI ν11 b 14 (nI (B 401 + 1))) (b + 6) ((B 401) * 4 + 2) = nI v5 := by rw [(s15.2.2 _ _ (fun h => by omega)).1]; exact zz14
                        have zz19 : gI (sI ν11 b 14 (nI (B 401 + 1))) (b + 6) ((B 401) * 4 + 3) = nI (vl s (n + 3)) := by rw [(s15.2.2 _ _ (fun h => by omega)).1]; exact z11
                        have hr_15 := hr_11.sm s15 (fun o k h => by omega)
                        have hS_15 := hS_11.sm s15 (fun k h1 h2 h => by omega)
                        have hR_15 := Rb_rule hR_11 (by omega) (by omega) (by omega) zz12 zz13 zz14 z11
                        have hC_15 := hC_11.sm s15 (fun o k h => by omega)
                        have hf_15 : gI (sI ν11 b 14 (nI (B 401 + 1))) r 5 = nI 0 := by rw [(s15.2.2 _ _ (fun h => by omega)).1]; exact hf_11
                        have hs_15 := hs_11.tr (s15.up (fun o k h => by unfold SRB; omega))
                        refine w_aload_n (i := 0) hX dX4_readRule_175 rfl rfl ?_
                        refine w_iconst hX dX4_readRule_176 kI_2 ?_
                        refine w_callVI (As := [.int (nI 2)]) (rest := []) (ci := 4) (o := r) (k2 := 0) (n2 := 0) hX dX4_readRule_177 (s_r_take Γ (sI ν11 b 14 (nI (B 401 + 1))) r t b s hr_15 htr hrb (n + 4) hS_15 2 (by omega)) okX4_take (ltb rfl) (rd_s hr_15.1) ml_RX4_101 imX4_take seX4_take rfl (leb rfl) (leb rfl) rfl rfl (fun r20 ν20 hq9 => ?_)
                        rcases hq9 with ⟨w20, e20, hS_20, t20⟩ | ⟨w20, e20, m20⟩
                        · rw [e20, show bI true = nI 1 from rfl]
                          have zz21 : gI ν20 (b + 6) ((B 401) * 4) = nI 0 := by rw [(t20.2.2 _ _ (fun h => by unfold SA at h; omega)).1]; exact zz16
                          have zz22 : gI ν20 (b + 6) ((B 401) * 4 + 1) = nI v3 := by rw [(t20.2.2 _ _ (fun h => by unfold SA at h; omega)).1]; exact zz17
                          have zz23 : gI ν20 (b + 6) ((B 401) * 4 + 2) = nI v5 := by rw [(t20.2.2 _ _ (fun h => by unfold SA at h; omega)).1]; exact zz18
                          have zz24 : gI ν20 (b + 6) ((B 401) * 4 + 3) = nI (vl s (n + 3)) := by rw [(t20.2.2 _ _ (fun h => by unfold SA at h; omega)).1]; exact zz19
                          have hr_20 := hr_15.sm t20 (fun o k h => by unfold SA at h; omega)
                          have hR_20 := Rb_fr t20 (fun o k h => Or.inl (by unfold SA at h; omega)) hR_15
                          have hC_20 := hC_15.sm t20 (fun o k h => by unfold SA at h; omega)
                          have hf_20 : gI ν20 r 5 = nI 0 := by rw [(t20.2.2 _ _ (fun h => by unfold SA at h; omega)).1]; exact hf_15
                          have hs_20 := hs_15.tr (t20.up (fun o k h => by unfold SA at h; unfold SRB; omega))
                          refine w_pop hX dX4_readRule_180 rfl ?_
                          have hpx : pRule s n B M 0 = .inr (n + 4, ruB B (B 401) 0 v3 v5 (vl s (n + 3)), M) := by unfold pRule; exact (if_neg (by omega)).trans ((bnd_r p3).trans ((bnd_r p5).trans ((if_neg (by omega)).trans (bnd_r p11))))
                          exact w_vret hX hE dX4_readRule_181 (Or.inl rfl) (RX_r ((bnd_r hpx).trans (bnd_r (pWd_y w20))) hs_20 hf_20 hS_20 hR_20 hC_20)
                        · rw [e20, m20, show bI false = nI 0 from rfl]
                          refine w_pop hX dX4_readRule_180 rfl ?_
                          have hpx : pRule s n B M 0 = .inr (n + 4, ruB B (B 401) 0 v3 v5 (vl s (n + 3)), M) := by unfold pRule; exact (if_neg (by omega)).trans ((bnd_r p3).trans ((bnd_r p5).trans ((if_neg (by omega)).trans (bnd_r p11))))
                          exact w_vret hX hE dX4_readRule_181 (Or.inl rfl) (RX_l ((bnd_r hpx).trans (bnd_l (pWd_n w20))) hs_15 (ft_lt hr.2.2.2.2.2 (by omega) (by omega)))
                    · rw [e11, m11, show bI false = nI 0 from rfl]
                      refine wn_if_eq (tgt := 181) hX dX4_readRule_159 (by decide) (by first | omega | (have := kd_le (s := s) (n := n); omega)) (fun c11 => ?_) (fun c11 => ?_)
                      · have hpx : pRule s n B M 0 = .inl f11 := by unfold pRule; exact (if_neg (by omega)).trans ((bnd_r p3).trans ((bnd_r p5).trans ((if_neg (by omega)).trans (bnd_l p11))))
                        exact w_vret hX hE dX4_readRule_181 (Or.inl rfl) (RX_l (bnd_l hpx) hs_7 (pNb_l hr.2.2.2.2.2 p11))
                      · exact absurd c11 (by decide)
                  · exact absurd c9 (by decide)
            · rw [e5, m5]
              refine w_istore (l2 := [some (.ref r), some (.int (nI (B 401))), some (.int (nI 0)), some (.int (nI v3)), some (.int ((-1 : Int32))), none]) hX dX4_readRule_65 (ltb rfl) rfl rfl ?_
              refine w_iload hX dX4_readRule_67 rfl ?_
              refine w_iconst hX dX4_readRule_69 kI_m1 ?_
              refine wc_icmp_eq (tgt := 92) hX dX4_readRule_70 (by decide) (fun c12 => ?_) (fun c12 => ?_)
              · have hpx : pRule s n B M 0 = .inl f5 := by unfold pRule; exact (if_neg (by omega)).trans ((bnd_r p3).trans (bnd_l p5))
                exact w_vret hX hE dX4_readRule_92 (Or.inl rfl) (RX_l (bnd_l hpx) hs_4 (pNm_l hr.2.2.2.2.2 p5))
              · exact absurd rfl c12
          · exact absurd c5 (nI_m1 (by first | omega | (have := kd_le (s := s) (n := n); omega)))
        · rw [e3, m3]
          refine w_istore_n (i := 3) (l2 := [some (.ref r), some (.int (nI (B 401))), some (.int (nI 0)), some (.int ((-1 : Int32))), none, none]) hX dX4_readRule_48 rfl (ltb rfl) rfl rfl ?_
          refine w_iload_n (i := 3) hX dX4_readRule_49 rfl rfl ?_
          refine w_iconst hX dX4_readRule_50 kI_m1 ?_
          refine wc_icmp_ne (tgt := 55) hX dX4_readRule_51 (by decide) (fun c13 => ?_) (fun c13 => ?_)
          · exact absurd rfl c13
          · have hpx : pRule s n B M 0 = .inl f3 := by unfold pRule; exact (if_neg (by omega)).trans (bnd_l p3)
            exact w_vret hX hE dX4_readRule_54 (Or.inl rfl) (RX_l (bnd_l hpx) hs_2 (pNm_l hr.2.2.2.2.2 p3))
      · exact absurd c4 (by decide)
  · exact absurd c1 (by omega)
set_option maxHeartbeats 1000000 in
theorem s_r_rule1 (Γ : Gm) (μ : Mem) (r t b : Nat) (s : Tp) (n : Nat) (B : Nat → Nat) (M : NM) (hr : RD μ r t b s) (htr : t + 1 < r) (hrb : r + 2 < b) (hS : RS μ r s n) (hR : Rb μ b B) (hC : CN μ b M) (hf : gI μ r 5 = nI 0) (hP : PIv B M) (hk9 : kd s n = 22) : SpV Γ MX4_readRule 4 0 0 [.ref r] μ (fun μ2 => RX r b s (bnd (pRule s n B M 1) (pSemi s)) μ μ2) := by
  refine SpV.of okX4_readRule rfl [some (.ref r), none, none, none, none, none] ⟨rfl, trivial⟩ (leb rfl) (leb rfl) (fun X hX hE hnm => ?_)
  have hs : same (SRB r b) μ μ := same.rf
  obtain ⟨hM9, hb0, hb85, hb126, hb352⟩ := M32 hP
  have hb401 := hP.1.2.2.2.2.2.1
  refine w_aload_n (i := 0) hX dX4_readRule_0 rfl rfl ?_
  refine w_getR (q := b) hX dX4_readRule_1 fo_RX4_41 rfl (rd_s hr.1) hr.2.2.1 ?_
  refine w_getI hX dX4_readRule_4 fo_RX4_159 rfl (bk_s hR.1) ?_
  refine w_top (y := nI (B 401)) hR.2.2.2.2.2.2.2.2.2.2.2.1 ?_
  refine w_istore_n (i := 1) (l2 := [some (.ref r), some (.int (nI (B 401))), none, none, none, none]) hX dX4_readRule_7 rfl (ltb rfl) rfl rfl ?_
  refine w_aload_n (i := 0) hX dX4_readRule_8 rfl rfl ?_
  refine w_getI hX dX4_readRule_9 fo_RX4_62 rfl (rd_s hr.1) ?_
  refine w_top (y := nI (kd s (n))) hS.2.1 ?_
  refine w_bipush hX dX4_readRule_12 kB_22 ?_
  refine wn_icmp_ne (tgt := 21) hX dX4_readRule_14 (by decide) (by first | omega | (have := kd_le (s := s) (n := n); omega)) (by first | omega | (have := kd_le (s := s) (n := n); omega)) (fun c1 => ?_) (fun c1 => ?_)
  · exact absurd c1 (by omega)
  · refine w_iconst hX dX4_readRule_17 kI_1 ?_
    refine w_goto (tgt := 22) hX dX4_readRule_18 (by decide) ?_
    refine w_istore_n (i := 2) (l2 := [some (.ref r), some (.int (nI (B 401))), some (.int (nI 1)), none, none, none]) hX dX4_readRule_22 rfl (ltb rfl) rfl rfl ?_
    refine w_aload_n (i := 0) hX dX4_readRule_23 rfl rfl ?_
    refine w_iload_n (i := 1) hX dX4_readRule_24 rfl rfl ?_
    refine w_bipush hX dX4_readRule_25 kB_16 ?_
    refine wn_icmp_ge (tgt := 34) hX dX4_readRule_27 (by decide) (by first | omega | (have := kd_le (s := s) (n := n); omega)) (by first | omega | (have := kd_le (s := s) (n := n); omega)) (fun c2 => ?_) (fun c2 => ?_)
    · refine w_iconst hX dX4_readRule_34 kI_0 ?_
      refine w_callVI (As := [.int (nI 0)]) (rest := []) (ci := 4) (o := r) (k2 := 0) (n2 := 0) hX dX4_readRule_35 (s_r_more0 Γ μ r t b s hr htr hrb (n) hS) okX4_takeOneMore (ltb rfl) (rd_s hr.1) ml_RX4_93 imX4_takeOneMore seX4_takeOneMore rfl (leb rfl) (leb rfl) rfl rfl (fun r9 μ9 hq9 => ?_)
      obtain ⟨hr9, hm9⟩ := hq9; rw [hr9, hm9]; clear hr9 hm9 r9 μ9
      refine wn_if_ne (tgt := 42) hX dX4_readRule_38 (by decide) (by first | omega | (have := kd_le (s := s) (n := n); omega)) (fun c3 => ?_) (fun c3 => ?_)
      · exact absurd c3 (by decide)
      · have hpx : pRule s n B M 1 = .inl (ft s 5 (n)) := by unfold pRule; exact if_pos (by omega)
        exact w_vret hX hE dX4_readRule_41 (Or.inl rfl) (RX_l (bnd_l hpx) hs (ft_lt hr.2.2.2.2.2 (by omega) (by omega)))
    · refine w_iconst hX dX4_readRule_30 kI_1 ?_
      refine w_goto (tgt := 35) hX dX4_readRule_31 (by decide) ?_
      refine w_callVI (As := [.int (nI 1)]) (rest := []) (ci := 4) (o := r) (k2 := 0) (n2 := 0) hX dX4_readRule_35 (s_r_more1 Γ μ r t b s hr htr hrb (n) hS) okX4_takeOneMore (ltb rfl) (rd_s hr.1) ml_RX4_93 imX4_takeOneMore seX4_takeOneMore rfl (leb rfl) (leb rfl) rfl rfl (fun r2 ν2 hq9 => ?_)
      obtain ⟨e2, hS_2, t2⟩ := hq9; rw [e2]
      have hr_2 := hr.sm t2 (fun o k h => by unfold SA at h; omega)
      have hR_2 := Rb_fr t2 (fun o k h => Or.inl (by unfold SA at h; omega)) hR
      have hC_2 := hC.sm t2 (fun o k h => by unfold SA at h; omega)
      have hf_2 : gI ν2 r 5 = nI 0 := by rw [(t2.2.2 _ _ (fun h => by unfold SA at h; omega)).1]; exact hf
      have hs_2 := hs.tr (t2.up (fun o k h => by unfold SA at h; unfold SRB; omega))
      refine wn_if_ne (tgt := 42) hX dX4_readRule_38 (by decide) (by first | omega | (have := kd_le (s := s) (n := n); omega)) (fun c4 => ?_) (fun c4 => ?_)
      · refine w_aload_n (i := 0) hX dX4_readRule_42 rfl rfl ?_
        refine w_bipush hX dX4_readRule_43 kB_17 ?_
        refine w_top (y := nI (kc 3)) rfl ?_
        refine w_callVI (As := [.int (nI (kc 3))]) (rest := []) (ci := 4) (o := r) (k2 := 0) (n2 := 0) hX dX4_readRule_45 (s_r_told Γ ν2 r t b s hr_2 htr hrb (n + 1) hS_2 hR_2.1 M hC_2 3 (by omega)) okX4_toldName (ltb rfl) (rd_s hr_2.1) ml_RX4_131 imX4_toldName seX4_toldName rfl (leb rfl) (leb rfl) rfl rfl (fun r3 ν3 hq9 => ?_)
        rcases hq9 with ⟨v3, p3, e3, m3⟩ | ⟨f3, p3, e3, m3⟩
        · rw [e3, m3]
          have lt3 := told_p hP p3
          refine w_istore_n (i := 3) (l2 := [some (.ref r), some (.int (nI (B 401))), some (.int (nI 1)), some (.int (nI v3)), none, none]) hX dX4_readRule_48 rfl (ltb rfl) rfl rfl ?_
          refine w_iload_n (i := 3) hX dX4_readRule_49 rfl rfl ?_
          refine w_iconst hX dX4_readRule_50 kI_m1 ?_
          refine wc_icmp_ne (tgt := 55) hX dX4_readRule_51 (by decide) (fun c5 => ?_) (fun c5 => ?_)
          · refine w_aload_n (i := 0) hX dX4_readRule_55 rfl rfl ?_
            refine w_callVV (As := []) (rest := []) (ci := 4) (o := r) (k2 := 0) (n2 := 0) hX dX4_readRule_56 (s_r_advance Γ ν2 r t b s hr_2 htr hrb (n + 2) hS_2.1) okX4_advance (ltb rfl) (rd_s hr_2.1) ml_RX4_57 imX4_advance seX4_advance rfl (leb rfl) (leb rfl) rfl rfl (fun ν4 hq9 => ?_)
            obtain ⟨hS_4, t4⟩ := hq9
            have hr_4 := hr_2.sm t4 (fun o k h => by unfold SA at h; omega)
            have hR_4 := Rb_fr t4 (fun o k h => Or.inl (by unfold SA at h; omega)) hR_2
            have hC_4 := hC_2.sm t4 (fun o k h => by unfold SA at h; omega)
            have hf_4 : gI ν4 r 5 = nI 0 := by rw [(t4.2.2 _ _ (fun h => by unfold SA at h; omega)).1]; exact hf_2
            have hs_4 := hs_2.tr (t4.up (fun o k h => by unfold SA at h; unfold SRB; omega))
            refine w_aload_n (i := 0) hX dX4_readRule_59 rfl rfl ?_
            refine w_bipush hX dX4_readRule_60 kB_17 ?_
            refine w_top (y := nI (kc 3)) rfl ?_
            refine w_callVI (As := [.int (nI (kc 3))]) (rest := []) (ci := 4) (o := r) (k2 := 0) (n2 := 0) hX dX4_readRule_62 (s_r_told Γ ν4 r t b s hr_4 htr hrb (n + 2) hS_4 hR_4.1 M hC_4 3 (by omega)) okX4_toldName (ltb rfl) (rd_s hr_4.1) ml_RX4_131 imX4_toldName seX4_toldName rfl (leb rfl) (leb rfl) rfl rfl (fun r5 ν5 hq9 => ?_)
            rcases hq9 with ⟨v5, p5, e5, m5⟩ | ⟨f5, p5, e5, m5⟩
            · rw [e5, m5]
              have lt5 := told_p hP p5
              refine w_istore (l2 := [some (.ref r), some (.int (nI (B 401))), some (.int (nI 1)), some (.int (nI v3)), some (.int (nI v5)), none]) hX dX4_readRule_65 (ltb rfl) rfl rfl ?_
              refine w_iload hX dX4_readRule_67 rfl ?_
              refine w_iconst hX dX4_readRule_69 kI_m1 ?_
              refine wc_icmp_eq (tgt := 92) hX dX4_readRule_70 (by decide) (fun c6 => ?_) (fun c6 => ?_)
              · exact absurd c6 (nI_m1 (by first | omega | (have := kd_le (s := s) (n := n); omega)))
              · refine w_aload_n (i := 0) hX dX4_readRule_73 rfl rfl ?_
                refine w_iload_n (i := 3) hX dX4_readRule_74 rfl rfl ?_
                refine w_iload hX dX4_readRule_75 rfl ?_
                refine wn_icmp_eq (tgt := 84) hX dX4_readRule_77 (by decide) (by first | omega | (have := kd_le (s := s) (n := n); omega)) (by first | omega | (have := kd_le (s := s) (n := n); omega)) (fun c7 => ?_) (fun c7 => ?_)
                · refine w_iconst hX dX4_readRule_84 kI_0 ?_
                  refine w_iconst hX dX4_readRule_85 kI_3 ?_
                  refine w_callVI (As := [.int (nI 0), .int (nI 3)]) (rest := []) (ci := 4) (o := r) (k2 := 0) (n2 := 0) hX dX4_readRule_86 (s_r_check0 Γ ν4 r t b s hr_4 htr hrb (n + 2) 3 hS_4.2.2.1) okX4_check (ltb rfl) (rd_s hr_4.1) ml_RX4_86 imX4_check seX4_check rfl (leb rfl) (leb rfl) rfl rfl (fun r9 μ9 hq9 => ?_)
                  obtain ⟨hr9, hm9⟩ := hq9; rw [hr9, hm9, show 3 + 16 * pl s (n + 2) = ft s 3 (n + 2) from rfl]; clear hr9 hm9 r9 μ9
                  refine wn_if_ne (tgt := 93) hX dX4_readRule_89 (by decide) (by first | omega | (have := kd_le (s := s) (n := n); omega)) (fun c8 => ?_) (fun c8 => ?_)
                  · exact absurd c8 (by decide)
                  · have hpx : pRule s n B M 1 = .inl (ft s 3 (n + 2)) := by unfold pRule; exact (if_neg (by omega)).trans ((bnd_r p3).trans ((bnd_r p5).trans (if_pos (by omega))))
                    exact w_vret hX hE dX4_readRule_92 (Or.inl rfl) (RX_l (bnd_l hpx) hs_4 (ft_lt hr.2.2.2.2.2 (by omega) (by omega)))
                · refine w_iconst hX dX4_readRule_80 kI_1 ?_
                  refine w_goto (tgt := 85) hX dX4_readRule_81 (by decide) ?_
                  refine w_iconst hX dX4_readRule_85 kI_3 ?_
                  refine w_callVI (As := [.int (nI 1), .int (nI 3)]) (rest := []) (ci := 4) (o := r) (k2 := 0) (n2 := 0) hX dX4_readRule_86 (s_r_check1 Γ ν4 r t b s hr_4 htr hrb (n + 2) 3 hS_4.2.2.1) okX4_check (ltb rfl) (rd_s hr_4.1) ml_RX4_86 imX4_check seX4_check rfl (leb rfl) (leb rfl) rfl rfl (fun r9 μ9 hq9 => ?_)
                  obtain ⟨hr9, hm9⟩ := hq9; rw [hr9, hm9]; clear hr9 hm9 r9 μ9
                  refine wn_if_ne (tgt := 93) hX dX4_readRule_89 (by decide) (by first | omega | (have := kd_le (s := s) (n := n); omega)) (fun c9 => ?_) (fun c9 => ?_)
                  · refine w_aload_n (i := 0) hX dX4_readRule_93 rfl rfl ?_
                    refine w_callVV (As := []) (rest := []) (ci := 4) (o := r) (k2 := 0) (n2 := 0) hX dX4_readRule_94 (s_r_advance Γ ν4 r t b s hr_4 htr hrb (n + 3) hS_4.1) okX4_advance (ltb rfl) (rd_s hr_4.1) ml_RX4_57 imX4_advance seX4_advance rfl (leb rfl) (leb rfl) rfl rfl (fun ν6 hq9 => ?_)
                    obtain ⟨hS_6, t6⟩ := hq9
                    have hr_6 := hr_4.sm t6 (fun o k h => by unfold SA at h; omega)
                    have hR_6 := Rb_fr t6 (fun o k h => Or.inl (by unfold SA at h; omega)) hR_4
                    have hC_6 := hC_4.sm t6 (fun o k h => by unfold SA at h; omega)
                    have hf_6 : gI ν6 r 5 = nI 0 := by rw [(t6.2.2 _ _ (fun h => by unfold SA at h; omega)).1]; exact hf_4
                    have hs_6 := hs_4.tr (t6.up (fun o k h => by unfold SA at h; unfold SRB; omega))
                    refine w_iload_n (i := 1) hX dX4_readRule_97 rfl rfl ?_
                    refine w_iconst hX dX4_readRule_98 kI_4 ?_
                    refine w_imulN hX dX4_readRule_99 ?_
                    refine w_istore (l2 := [some (.ref r), some (.int (nI (B 401))), some (.int (nI 1)), some (.int (nI v3)), some (.int (nI v5)), some (.int (nI ((B 401) * 4)))]) hX dX4_readRule_100 (ltb rfl) rfl rfl ?_
                    refine w_aload_n (i := 0) hX dX4_readRule_102 rfl rfl ?_
                    refine w_getR (q := b) hX dX4_readRule_103 fo_RX4_41 rfl (rd_s hr_6.1) hr_6.2.2.1 ?_
                    refine w_getR (q := b + 6) hX dX4_readRule_106 fo_RX4_162 rfl (bk_s hR_6.1) (bk_r5 hR_6.1) ?_
                    refine w_iload hX dX4_readRule_109 rfl ?_
                    refine w_iload_n (i := 2) hX dX4_readRule_111 rfl rfl ?_
                    refine w_iastN hX dX4_readRule_112 (bk_a6 hR_6.1) (by omega) (by omega) ?_
                    refine w_aload_n (i := 0) hX dX4_readRule_113 rfl rfl ?_
                    refine w_getR (q := b) hX dX4_readRule_114 fo_RX4_41 rfl (rd_s hr_6.1) hr_6.2.2.1 ?_
                    refine w_getR (q := b + 6) hX dX4_readRule_117 fo_RX4_162 rfl (bk_s hR_6.1) (bk_r5 hR_6.1) ?_
                    refine w_iload hX dX4_readRule_120 rfl ?_
                    refine w_iconst hX dX4_readRule_122 kI_1 ?_
                    refine w_iaddN hX dX4_readRule_123 ?_
                    refine w_iload_n (i := 3) hX dX4_readRule_124 rfl rfl ?_
                    refine w_iastN hX dX4_readRule_125 (bk_a6 hR_6.1) (by omega) (by omega) ?_
                    refine w_aload_n (i := 0) hX dX4_readRule_126 rfl rfl ?_
                    refine w_getR (q := b) hX dX4_readRule_127 fo_RX4_41 rfl (rd_s hr_6.1) hr_6.2.2.1 ?_
                    refine w_getR (q := b + 6) hX dX4_readRule_130 fo_RX4_162 rfl (bk_s hR_6.1) (bk_r5 hR_6.1) ?_
                    refine w_iload hX dX4_readRule_133 rfl ?_
                    refine w_iconst hX dX4_readRule_135 kI_2 ?_
                    refine w_iaddN hX dX4_readRule_136 ?_
                    refine w_iload hX dX4_readRule_137 rfl ?_
                    refine w_iastN hX dX4_readRule_139 (bk_a6 hR_6.1) (by omega) (by omega) ?_
                    have s7 : same (fun o2 k2 => (o2 = b + 6 ∧ k2 = (B 401) * 4) ∨ (o2 = b + 6 ∧ k2 = (B 401) * 4 + 1) ∨ (o2 = b + 6 ∧ k2 = (B 401) * 4 + 2)) ν6 (sI (sI (sI ν6 (b + 6) ((B 401) * 4) (nI 1)) (b + 6) ((B 401) * 4 + 1) (nI v3)) (b + 6) ((B 401) * 4 + 2) (nI v5)) := (((same.rf).sI (Or.inl ⟨rfl, rfl⟩)).sI (Or.inr (Or.inl ⟨rfl, rfl⟩))).sI (Or.inr (Or.inr (⟨rfl, rfl⟩)))
                    have hr_7 := hr_6.sm s7 (fun o k h => by omega)
                    have hS_7 := hS_6.sm s7 (fun k h1 h2 h => by omega)
                    have hR_7 := Rb_fr s7 (fun o k h => by omega) hR_6
                    have hC_7 := hC_6.sm s7 (fun o k h => by omega)
                    have hf_7 : gI (sI (sI (sI ν6 (b + 6) ((B 401) * 4) (nI 1)) (b + 6) ((B 401) * 4 + 1) (nI v3)) (b + 6) ((B 401) * 4 + 2) (nI v5)) r 5 = nI 0 := by rw [(s7.2.2 _ _ (fun h => by omega)).1]; exact hf_6
                    have hs_7 := hs_6.tr (s7.up (fun o k h => by unfold SRB; omega))
                    have zz8 : gI (sI (sI (sI ν6 (b + 6) ((B 401) * 4) (nI 1)) (b + 6) ((B 401) * 4 + 1) (nI v3)) (b + 6) ((B 401) * 4 + 2) (nI v5)) (b + 6) ((B 401) * 4) = nI 1 := by rw [gI_nk (by omega), gI_nk (by omega), gI_same]
                    have zz9 : gI (sI (sI (sI ν6 (b + 6) ((B 401) * 4) (nI 1)) (b + 6) ((B 401) * 4 + 1) (nI v3)) (b + 6) ((B 401) * 4 + 2) (nI v5)) (b + 6) ((B 401) * 4 + 1) = nI v3 := by rw [gI_nk (by omega), gI_same]
                    have zz10 : gI (sI (sI (sI ν6 (b + 6) ((B 401) * 4) (nI 1)) (b + 6) ((B 401) * 4 + 1) (nI v3)) (b + 6) ((B 401) * 4 + 2) (nI v5)) (b + 6) ((B 401) * 4 + 2) = nI v5 := by rw [gI_same]
                    refine w_aload_n (i := 0) hX dX4_readRule_140 rfl rfl ?_
                    refine w_iconst hX dX4_readRule_141 kI_0 ?_
                    refine w_sipush hX dX4_readRule_142 kS_9999 ?_
                    refine w_aload_n (i := 0) hX dX4_readRule_145 rfl rfl ?_
                    refine w_getR (q := b) hX dX4_readRule_146 fo_RX4_41 rfl (rd_s hr_7.1) hr_7.2.2.1 ?_
                    refine w_getR (q := b + 6) hX dX4_readRule_149 fo_RX4_162 rfl (bk_s hR_7.1) (bk_r5 hR_7.1) ?_
                    refine w_iload hX dX4_readRule_152 rfl ?_
                    refine w_iconst hX dX4_readRule_154 kI_3 ?_
                    refine w_iaddN hX dX4_readRule_155 ?_
                    refine w_callVI (As := [.int (nI 0), .int (nI 9999), .ref (b + 6), .int (nI ((B 401) * 4 + 3))]) (rest := []) (ci := 4) (o := r) (k2 := 0) (n2 := 0) hX dX4_readRule_156 (s_r_takeN Γ (sI (sI (sI ν6 (b + 6) ((B 401) * 4) (nI 1)) (b + 6) ((B 401) * 4 + 1) (nI v3)) (b + 6) ((B 401) * 4 + 2) (nI v5)) r t b s hr_7 htr hrb (n + 3) hS_7 0 9999 (by omega) (by omega) (b + 6) ((B 401) * 4 + 3) 64 (bk_a6 hR_7.1) (by omega) (by omega) (by omega)) okX4_takeNumber (ltb rfl) (rd_s hr_7.1) ml_RX4_123 imX4_takeNumber seX4_takeNumber rfl (leb rfl) (leb rfl) rfl rfl (fun r11 ν11 hq9 => ?_)
                    rcases hq9 with ⟨p11, e11, hS_11, z11, t11⟩ | ⟨f11, p11, e11, m11⟩
                    · rw [e11, show bI true = nI 1 from rfl]
                      obtain ⟨q11, -, l11, g11⟩ := pNb_inr p11
                      have zz12 : gI ν11 (b + 6) ((B 401) * 4) = nI 1 := by rw [(t11.2.2 _ _ (fun h => by unfold SA at h; omega)).1]; exact zz8
                      have zz13 : gI ν11 (b + 6) ((B 401) * 4 + 1) = nI v3 := by rw [(t11.2.2 _ _ (fun h => by unfold SA at h; omega)).1]; exact zz9
                      have zz14 : gI ν11 (b + 6) ((B 401) * 4 + 2) = nI v5 := by rw [(t11.2.2 _ _ (fun h => by unfold SA at h; omega)).1]; exact zz10
                      have hr_11 := hr_7.sm t11 (fun o k h => by unfold SA at h; omega)
                      have hR_11 := Rb_fr t11 (fun o k h => by unfold SA at h; omega) hR_7
                      have hC_11 := hC_7.sm t11 (fun o k h => by unfold SA at h; omega)
                      have hf_11 : gI ν11 r 5 = nI 0 := by rw [(t11.2.2 _ _ (fun h => by unfold SA at h; omega)).1]; exact hf_7
                      have hs_11 := hs_7.tr (t11.up (fun o k h => by unfold SA at h; unfold SRB; omega))
                      refine wn_if_eq (tgt := 181) hX dX4_readRule_159 (by decide) (by first | omega | (have := kd_le (s := s) (n := n); omega)) (fun c10 => ?_) (fun c10 => ?_)
                      · exact absurd c10 (by decide)
                      · refine w_aload_n (i := 0) hX dX4_readRule_162 rfl rfl ?_
                        refine w_getR (q := b) hX dX4_readRule_163 fo_RX4_41 rfl (rd_s hr_11.1) hr_11.2.2.1 ?_
                        refine w_dup hX dX4_readRule_166 rfl ?_
                        refine w_getI hX dX4_readRule_167 fo_RX4_159 rfl (bk_s hR_11.1) ?_
                        refine w_top (y := nI (B 401)) hR_11.2.2.2.2.2.2.2.2.2.2.2.1 ?_
                        refine w_iconst hX dX4_readRule_170 kI_1 ?_
                        refine w_iaddN hX dX4_readRule_171 ?_
                        refine w_putI hX dX4_readRule_172 fo_RX4_159 rfl rfl rfl rfl (bk_s hR_11.1) ?_
                        have s15 : same (fun o2 k2 => (o2 = b ∧ k2 = 14)) ν11 (sI ν11 b 14 (nI (B 401 + 1))) := (same.rf).sI (⟨rfl, rfl⟩)
                        have zz16 : gI (sI ν11 b 14 (nI (B 401 + 1))) (b + 6) ((B 401) * 4) = nI 1 := by rw [(s15.2.2 _ _ (fun h => by omega)).1]; exact zz12
                        have zz17 : gI (sI ν11 b 14 (nI (B 401 + 1))) (b + 6) ((B 401) * 4 + 1) = nI v3 := by rw [(s15.2.2 _ _ (fun h => by omega)).1]; exact zz13
                        have zz18 : gI (sI ν11 b 14 (nI (B 401 + 1))) (b + 6) ((B 401) * 4 + 2) = nI v5 := by rw [(s15.2.2 _ _ (fun h => by omega)).1]; exact zz14
                        have zz19 : gI (sI ν11 b 14 (nI (B 401 + 1))) (b + 6) ((B 401) * 4 + 3) = nI (vl s (n + 3)) := by rw [(s15.2.2 _ _ (fun h => by omega)).1]; exact z11
                        have hr_15 := hr_11.sm s15 (fun o k h => by omega)
                        have hS_15 := hS_11.sm s15 (fun k h1 h2 h => by omega)
                        have hR_15 := Rb_rule hR_11 (by omega) (by omega) (by omega) zz12 zz13 zz14 z11
                        have hC_15 := hC_11.sm s15 (fun o k h => by omega)
                        have hf_15 : gI (sI ν11 b 14 (nI (B 401 + 1))) r 5 = nI 0 := by rw [(s15.2.2 _ _ (fun h => by omega)).1]; exact hf_11
                        have hs_15 := hs_11.tr (s15.up (fun o k h => by unfold SRB; omega))
                        refine w_aload_n (i := 0) hX dX4_readRule_175 rfl rfl ?_
                        refine w_iconst hX dX4_readRule_176 kI_2 ?_
                        refine w_callVI (As := [.int (nI 2)]) (rest := []) (ci := 4) (o := r) (k2 := 0) (n2 := 0) hX dX4_readRule_177 (s_r_take Γ (sI ν11 b 14 (nI (B 401 + 1))) r t b s hr_15 htr hrb (n + 4) hS_15 2 (by omega)) okX4_take (ltb rfl) (rd_s hr_15.1) ml_RX4_101 imX4_take seX4_take rfl (leb rfl) (leb rfl) rfl rfl (fun r20 ν20 hq9 => ?_)
                        rcases hq9 with ⟨w20, e20, hS_20, t20⟩ | ⟨w20, e20, m20⟩
                        · rw [e20, show bI true = nI 1 from rfl]
                          have zz21 : gI ν20 (b + 6) ((B 401) * 4) = nI 1 := by rw [(t20.2.2 _ _ (fun h => by unfold SA at h; omega)).1]; exact zz16
                          have zz22 : gI ν20 (b + 6) ((B 401) * 4 + 1) = nI v3 := by rw [(t20.2.2 _ _ (fun h => by unfold SA at h; omega)).1]; exact zz17
                          have zz23 : gI ν20 (b + 6) ((B 401) * 4 + 2) = nI v5 := by rw [(t20.2.2 _ _ (fun h => by unfold SA at h; omega)).1]; exact zz18
                          have zz24 : gI ν20 (b + 6) ((B 401) * 4 + 3) = nI (vl s (n + 3)) := by rw [(t20.2.2 _ _ (fun h => by unfold SA at h; omega)).1]; exact zz19
                          have hr_20 := hr_15.sm t20 (fun o k h => by unfold SA at h; omega)
                          have hR_20 := Rb_fr t20 (fun o k h => Or.inl (by unfold SA at h; omega)) hR_15
                          have hC_20 := hC_15.sm t20 (fun o k h => by unfold SA at h; omega)
                          have hf_20 : gI ν20 r 5 = nI 0 := by rw [(t20.2.2 _ _ (fun h => by unfold SA at h; omega)).1]; exact hf_15
                          have hs_20 := hs_15.tr (t20.up (fun o k h => by unfold SA at h; unfold SRB; omega))
                          refine w_pop hX dX4_readRule_180 rfl ?_
                          have hpx : pRule s n B M 1 = .inr (n + 4, ruB B (B 401) 1 v3 v5 (vl s (n + 3)), M) := by unfold pRule; exact (if_neg (by omega)).trans ((bnd_r p3).trans ((bnd_r p5).trans ((if_neg (by omega)).trans (bnd_r p11))))
                          exact w_vret hX hE dX4_readRule_181 (Or.inl rfl) (RX_r ((bnd_r hpx).trans (bnd_r (pWd_y w20))) hs_20 hf_20 hS_20 hR_20 hC_20)
                        · rw [e20, m20, show bI false = nI 0 from rfl]
                          refine w_pop hX dX4_readRule_180 rfl ?_
                          have hpx : pRule s n B M 1 = .inr (n + 4, ruB B (B 401) 1 v3 v5 (vl s (n + 3)), M) := by unfold pRule; exact (if_neg (by omega)).trans ((bnd_r p3).trans ((bnd_r p5).trans ((if_neg (by omega)).trans (bnd_r p11))))
                          exact w_vret hX hE dX4_readRule_181 (Or.inl rfl) (RX_l ((bnd_r hpx).trans (bnd_l (pWd_n w20))) hs_15 (ft_lt hr.2.2.2.2.2 (by omega) (by omega)))
                    · rw [e11, m11, show bI false = nI 0 from rfl]
                      refine wn_if_eq (tgt := 181) hX dX4_readRule_159 (by decide) (by first | omega | (have := kd_le (s := s) (n := n); omega)) (fun c11 => ?_) (fun c11 => ?_)
                      · have hpx : pRule s n B M 1 = .inl f11 := by unfold pRule; exact (if_neg (by omega)).trans ((bnd_r p3).trans ((bnd_r p5).trans ((if_neg (by omega)).trans (bnd_l p11))))
                        exact w_vret hX hE dX4_readRule_181 (Or.inl rfl) (RX_l (bnd_l hpx) hs_7 (pNb_l hr.2.2.2.2.2 p11))
                      · exact absurd c11 (by decide)
                  · exact absurd c9 (by decide)
            · rw [e5, m5]
              refine w_istore (l2 := [some (.ref r), some (.int (nI (B 401))), some (.int (nI 1)), some (.int (nI v3)), some (.int ((-1 : Int32))), none]) hX dX4_readRule_65 (ltb rfl) rfl rfl ?_
              refine w_iload hX dX4_readRule_67 rfl ?_
              refine w_iconst hX dX4_readRule_69 kI_m1 ?_
              refine wc_icmp_eq (tgt := 92) hX dX4_readRule_70 (by decide) (fun c12 => ?_) (fun c12 => ?_)
              · have hpx : pRule s n B M 1 = .inl f5 := by unfold pRule; exact (if_neg (by omega)).trans ((bnd_r p3).trans (bnd_l p5))
                exact w_vret hX hE dX4_readRule_92 (Or.inl rfl) (RX_l (bnd_l hpx) hs_4 (pNm_l hr.2.2.2.2.2 p5))
              · exact absurd rfl c12
          · exact absurd c5 (nI_m1 (by first | omega | (have := kd_le (s := s) (n := n); omega)))
        · rw [e3, m3]
          refine w_istore_n (i := 3) (l2 := [some (.ref r), some (.int (nI (B 401))), some (.int (nI 1)), some (.int ((-1 : Int32))), none, none]) hX dX4_readRule_48 rfl (ltb rfl) rfl rfl ?_
          refine w_iload_n (i := 3) hX dX4_readRule_49 rfl rfl ?_
          refine w_iconst hX dX4_readRule_50 kI_m1 ?_
          refine wc_icmp_ne (tgt := 55) hX dX4_readRule_51 (by decide) (fun c13 => ?_) (fun c13 => ?_)
          · exact absurd rfl c13
          · have hpx : pRule s n B M 1 = .inl f3 := by unfold pRule; exact (if_neg (by omega)).trans (bnd_l p3)
            exact w_vret hX hE dX4_readRule_54 (Or.inl rfl) (RX_l (bnd_l hpx) hs_2 (pNm_l hr.2.2.2.2.2 p3))
      · exact absurd c4 (by decide)
