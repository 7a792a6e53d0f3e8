def NTP (told : Nat) (s : Tp) (n : Nat) : Prop := kd s (n + 1) = 3 → vl s (n + 1) ≤ 24 → told.testBit (vl s (n + 1)) = false
theorem NTP.get {told n : Nat} {s : Tp} (h : NTP told s n) (hk : kd s (n + 1) = 3) (hv : vl s (n + 1) ≤ 24) : told.testBit (vl s (n + 1)) = false := h hk hv
theorem NTP_k {told n : Nat} {s : Tp} (h : kd s (n + 1) ≠ 3) : NTP told s n := fun hk => absurd hk h
theorem NTP_v {told n : Nat} {s : Tp} (h : ¬ vl s (n + 1) ≤ 24) : NTP told s n := fun _ hv => absurd hv h
theorem NTP_b {told n : Nat} {s : Tp} (h : ¬ (if told.testBit (vl s (n + 1)) = true then 1 else 0) = 1) : NTP told s n := fun _ _ => by
  rw [Bool.eq_false_iff]; intro h9; rw [if_pos h9] at h; exact h rfl
set_option maxHeartbeats 1000000 in
theorem s_m_person (Γ : Gm) (μ : Mem) (m : Nat) (s : Tp) (n : Nat) (B : Nat → Nat) (M : NM) (hT : MT μ m s) (hS : MSt μ m s n) (hB : MBk μ m B) (hN : MN μ m M) (hP : PIv B M) (hkn : kd s n ≠ 0)  : SpV Γ MX9_readPerson 4 0 0 [.ref m] μ (fun μ2 => MX m s (pPerson s n B M) μ μ2) := by
  refine SpV.of okX9_readPerson rfl [some (.ref m), none, none, none] ⟨rfl, trivial⟩ (leb rfl) (leb rfl) (fun X hX hE hnm => ?_)
  have hs : same (SMm m) μ μ := same.rf
  obtain ⟨hM9, hb0, hb85, hb126, hb352⟩ := M32 hP
  have hn := (rch_le hT.2.2.2 n hS.2.1).2
  have hL1 := hT.2.2.2.1
  refine w_sipush hX dX9_readPerson_0 kS_607 ?_
  refine w_bipush hX dX9_readPerson_3 kB_25 ?_
  refine w_aload_n (i := 0) hX dX9_readPerson_5 rfl rfl ?_
  refine w_bipush hX dX9_readPerson_6 kB_126 ?_
  refine w_bipush hX dX9_readPerson_8 kB_9 ?_
  refine w_iconst hX dX9_readPerson_10 kI_2 ?_
  refine w_callVI (As := [.int (nI 126), .int (nI 9), .int (nI 2)]) (rest := [.int (nI 25), .int (nI 607)]) (ci := 9) (o := m) (k2 := 0) (n2 := 0) hX dX9_readPerson_11 (s_m_new Γ μ m s hT n hS M hN hP.2.2.2.2 B hB hkn 126 9 2 (by omega) (by omega) (by omega) (by omega) (fun h => by omega)) okX9_readNew (ltb rfl) (mod_s hT.1) ml_RX9_193 imX9_readNew seX9_readNew rfl (leb rfl) (leb rfl) rfl rfl (fun r1 ν1 hq9 => ?_)
  rcases hq9 with ⟨p1, e1, hS_1, hB_1, hN_1, t1⟩ | ⟨f1, v1, p1, e1, b1, hF_1, t1⟩
  · rw [e1]
    have hT_1 := hT.sm t1 (fun o k h => by unfold SMm at h; omega)
    have hn_1 := (rch_le hT.2.2.2 _ hS_1.2.1).2
    have hs_1 := hs.tr t1
    refine w_imulN hX dX9_readPerson_14 ?_
    refine w_iaddN hX dX9_readPerson_15 ?_
    refine w_istore_n (i := 1) (l2 := [some (.ref m), some (.int (nI (607 + (25 * (B 126))))), none, none]) hX dX9_readPerson_16 rfl (ltb rfl) rfl rfl ?_
    refine w_aload_n (i := 0) hX dX9_readPerson_17 rfl rfl ?_
    refine w_iconst hX dX9_readPerson_18 kI_0 ?_
    refine w_putI hX dX9_readPerson_19 fo_RX9_228 rfl rfl rfl rfl (mod_s hT_1.1) ?_
    have t2 : same (fun o2 k2 => o2 = m ∧ k2 = 15) ν1 (sI ν1 m 15 (nI 0)) := same.rf.sI ⟨rfl, rfl⟩
    have hT_2 := hT_1.sm t2 (fun o k h => by omega)
    have hs_2 := hs_1.tr (t2.up (fun o k h => by unfold SMm; omega))
    have hS_2 := hS_1.sm t2 (fun h => by omega) (fun h => by omega)
    have hN_2 := hN_1.sm t2 (fun o k h => by omega)
    have hB_2 := hB_1.sm t2 (fun o k h => by omega)
    have hn_2 := hn_1
    have hb9 := (pNew_inr p1).1
    have hpn := pPerson_y p1
    simp only [] at hpn
    have loop : ∀ q i n2 told, ∀ B2 : Nat → Nat, ∀ ν : Mem, i + q = 25 → told < 2 ^ 25 → told.testBit 0 = false → pcn told 25 = i → gI ν m 15 = nI told → MT ν m s → MSt ν m s n2 → MBk ν m B2 → MN ν m (addM M (wd s (n + 1)) 2 (B 126)) → same (SMm m) μ ν → pPerson s n B M = pHrs s (addM M (wd s (n + 1)) 2 (B 126)) (B 126) (q + 1) n2 told B2 → WP Γ X 0 0 22 [some (.ref m), some (.int (nI (607 + (25 * (B 126))))), none, none] [] ν := by
      intro q
      induction q with
      | zero =>
        intro i n2 told B2 ν hiq ht25 htb hpc ht15 hT_k hS_k hB_k hN_k hs_k hres
        have h9 : pcn told 25 ≤ 24 := pcn_b0 htb 24; exact absurd hpc (by omega)
      | succ q ih =>
        intro i n2 told B2 ν hiq ht25 htb hpc ht15 hT_k hS_k hB_k hN_k hs_k hres
        have hn_k := (rch_le hT.2.2.2 n2 hS_k.2.1).2
        refine w_aload_n (i := 0) hX dX9_readPerson_22 rfl rfl ?_
        refine w_bipush hX dX9_readPerson_23 kB_11 ?_
        refine w_callVI (As := [.int (nI 11)]) (rest := []) (ci := 9) (o := m) (k2 := 0) (n2 := 0) hX dX9_readPerson_25 (s_m_hasWord0 Γ ν m s hT_k (n2) hS_k 11 (by omega)) okX9_hasWord (ltb rfl) (mod_s hT_k.1) ml_RX9_167 imX9_hasWord seX9_hasWord rfl (leb rfl) (leb rfl) rfl rfl (fun r3 ν3 hq9 => ?_)
        rcases hq9 with ⟨p3, e3, m3⟩ | ⟨p3, e3, m3⟩
        · rw [e3, m3]
          have hS_3 : MSt (sI ν m 7 (nI (n2 + 1))) m s (n2 + 1) := hS_k.next (show kd s (n2) ≠ 0 by omega)
          have t3 : same (SA2 m) ν (sI ν m 7 (nI (n2 + 1))) := same.rf.sI ⟨rfl, Or.inl rfl⟩
          have hT_3 := hT_k.sm t3 (fun o k h => by unfold SA2 at h; omega)
          have hB_3 := hB_k.sm t3 (fun o k h => by unfold SA2 at h; omega)
          have hN_3 := hN_k.sm t3 (fun o k h => by unfold SA2 at h; omega)
          have hn_3 := (rch_le hT_3.2.2.2 _ hS_3.2.1).2
          have hs_3 := hs_k.tr (t3.up (fun o k h => by unfold SA2 at h; unfold SMm; omega))
          refine wb_eq (tgt := 139) hX dX9_readPerson_28 (by decide) (fun c1 => ?_) (fun c1 => ?_)
          · exact absurd ((Eq.refl true).symm.trans c1) (by decide)
          · obtain ⟨z, hz, hz4, z0, z1, z2, z3, hpl, hwv, hvv, hcv0⟩ := hT_3.2.2.1 (n2 + 1) hS_3.2.1
            clear hcv0
            have j86 : NTP told s n2 → WP Γ X 0 0 86 [some (.ref m), some (.int (nI (607 + (25 * (B 126))))), none, none] [] (sI ν m 7 (nI (n2 + 1))) := by
              intro hnt
              refine w_aload_n (i := 0) hX dX9_readPerson_86 rfl rfl ?_
              refine w_iconst hX dX9_readPerson_87 kI_1 ?_
              refine w_bipush hX dX9_readPerson_88 kB_24 ?_
              refine w_callVI (As := [.int (nI 1), .int (nI 24)]) (rest := []) (ci := 9) (o := m) (k2 := 0) (n2 := 0) hX dX9_readPerson_90 (s_m_takeN0 Γ (sI ν m 7 (nI (n2 + 1))) m s hT_3 (n2 + 1) hS_3 1 24 (by omega) (by omega)) okX9_takeNumber (ltb rfl) (mod_s hT_3.1) ml_RX9_173 imX9_takeNumber seX9_takeNumber rfl (leb rfl) (leb rfl) rfl rfl (fun r4 ν4 hq9 => ?_)
              rcases hq9 with ⟨p4, e4, m4⟩ | ⟨f4, p4, e4, m4⟩
              · rw [e4, m4]
                obtain ⟨q4, -, l4, g4⟩ := pNb_inr p4
                have hS_4 : MSt (sI (sI ν m 7 (nI (n2 + 1))) m 7 (nI (n2 + 1 + 1))) m s (n2 + 2) := hS_3.next (show kd s (n2 + 1) ≠ 0 by omega)
                have t4 : same (SA2 m) (sI ν m 7 (nI (n2 + 1))) (sI (sI ν m 7 (nI (n2 + 1))) m 7 (nI (n2 + 1 + 1))) := same.rf.sI ⟨rfl, Or.inl rfl⟩
                have hT_4 := hT_3.sm t4 (fun o k h => by unfold SA2 at h; omega)
                have hB_4 := hB_3.sm t4 (fun o k h => by unfold SA2 at h; omega)
                have hN_4 := hN_3.sm t4 (fun o k h => by unfold SA2 at h; omega)
                have hn_4 := (rch_le hT_4.2.2.2 _ hS_4.2.1).2
                have hs_4 := hs_3.tr (t4.up (fun o k h => by unfold SA2 at h; unfold SMm; omega))
                have htf := hnt.get (by omega) (by omega)
                refine w_istore_n (i := 2) (l2 := [some (.ref m), some (.int (nI (607 + (25 * (B 126))))), some (.int (nI (vl s (n2 + 1)))), none]) hX dX9_readPerson_93 rfl (ltb rfl) rfl rfl ?_
                refine w_aload_n (i := 0) hX dX9_readPerson_94 rfl rfl ?_
                refine w_bipush hX dX9_readPerson_95 kB_9 ?_
                refine w_iconst hX dX9_readPerson_97 kI_0 ?_
                refine w_bipush hX dX9_readPerson_98 kB_99 ?_
                refine w_callVI (As := [.int (nI 9), .int (nI 0), .int (nI 99)]) (rest := []) (ci := 9) (o := m) (k2 := 0) (n2 := 0) hX dX9_readPerson_100 (s_m_after0 Γ (sI (sI ν m 7 (nI (n2 + 1))) m 7 (nI (n2 + 1 + 1))) m s hT_4 (n2 + 2) hS_4 9 0 99 (by omega) (by omega) (by omega)) okX9_takeAfter (ltb rfl) (mod_s hT_4.1) ml_RX9_222 imX9_takeAfter seX9_takeAfter rfl (leb rfl) (leb rfl) rfl rfl (fun r5 ν5 hq9 => ?_)
                rcases hq9 with ⟨w5, p5, e5, hS_5, t5⟩ | ⟨f5, p5, e5, hF_5, t5⟩
                · rw [e5]
                  have p5 : pNb s (n2 + 3) 0 99 = .inr (vl s (n2 + 3)) := p5
                  have hS_5 : MSt ν5 m s (n2 + 4) := hS_5
                  obtain ⟨q5, -, l5, g5⟩ := pNb_inr p5
                  have hT_5 := hT_4.sm t5 (fun o k h => by unfold SA2 at h; omega)
                  have hB_5 := hB_4.sm t5 (fun o k h => by unfold SA2 at h; omega)
                  have hN_5 := hN_4.sm t5 (fun o k h => by unfold SA2 at h; omega)
                  have hn_5 := (rch_le hT_5.2.2.2 _ hS_5.2.1).2
                  have hs_5 := hs_4.tr (t5.up (fun o k h => by unfold SA2 at h; unfold SMm; omega))
                  refine w_istore_n (i := 3) (l2 := [some (.ref m), some (.int (nI (607 + (25 * (B 126))))), some (.int (nI (vl s (n2 + 1)))), some (.int (nI (vl s (n2 + 3))))]) hX dX9_readPerson_103 rfl (ltb rfl) rfl rfl ?_
                  have ht16 : gI ν5 m 15 = nI told := by rw [(t5.2.2 _ _ (fun h => by unfold SA2 at h; omega)).1]; exact (by rw [gI_nk (by omega), gI_nk (by omega)]; exact ht15)
                  refine w_aload_n (i := 0) hX dX9_readPerson_104 rfl rfl ?_
                  refine w_dup hX dX9_readPerson_105 rfl ?_
                  refine w_getI hX dX9_readPerson_106 fo_RX9_228 rfl (mod_s hT_5.1) ?_
                  refine w_top (y := nI told) ht16 ?_
                  refine w_iconst hX dX9_readPerson_109 kI_1 ?_
                  refine w_iload_n (i := 2) hX dX9_readPerson_110 rfl rfl ?_
                  refine w_ishl hX dX9_readPerson_111 ?_
                  refine w_top (y := nI (2 ^ (vl s (n2 + 1)))) (shl_nI (by omega)) ?_
                  refine w_ior hX dX9_readPerson_112 ?_
                  refine w_top (y := nI (told ||| 2 ^ (vl s (n2 + 1)))) (fa_or _ _) ?_
                  refine w_putI hX dX9_readPerson_113 fo_RX9_228 rfl rfl rfl rfl (mod_s hT_5.1) ?_
                  have t6 : same (fun o2 k2 => o2 = m ∧ k2 = 15) ν5 (sI ν5 m 15 (nI (told ||| 2 ^ (vl s (n2 + 1))))) := same.rf.sI ⟨rfl, rfl⟩
                  have hT_6 := hT_5.sm t6 (fun o k h => by omega)
                  have hs_6 := hs_5.tr (t6.up (fun o k h => by unfold SMm; omega))
                  have hS_6 := hS_5.sm t6 (fun h => by omega) (fun h => by omega)
                  have hN_6 := hN_5.sm t6 (fun o k h => by omega)
                  have hB_6 := hB_5.sm t6 (fun o k h => by omega)
                  have hn_6 := hn_5
                  refine w_aload_n (i := 0) hX dX9_readPerson_116 rfl rfl ?_
                  refine w_getR (q := m + 6) hX dX9_readPerson_117 fo_RX9_73 rfl (mod_s hT_6.1) (mod_r10 hT_6.1) ?_
                  refine w_iload_n (i := 1) hX dX9_readPerson_120 rfl rfl ?_
                  refine w_iload_n (i := 2) hX dX9_readPerson_121 rfl rfl ?_
                  refine w_iaddN hX dX9_readPerson_122 ?_
                  refine w_aload_n (i := 0) hX dX9_readPerson_123 rfl rfl ?_
                  refine w_getI hX dX9_readPerson_124 fo_RX9_154 rfl (mod_s hT_6.1) ?_
                  refine w_top (y := nI 0) hS_6.2.2 ?_
                  refine wn_if_le (tgt := 134) hX dX9_readPerson_127 (by decide) (by first | omega | (split <;> omega)) (fun c2 => ?_) (fun c2 => ?_)
                  · refine w_iload_n (i := 3) hX dX9_readPerson_134 rfl rfl ?_
                    refine w_iastN hX dX9_readPerson_135 (mod_a6 hT_6.1) (by omega) (by omega) ?_
                    have t7 : same (fun o2 k2 => o2 = m + 6 ∧ k2 = 607 + (25 * (B 126)) + (vl s (n2 + 1))) (sI ν5 m 15 (nI (told ||| 2 ^ (vl s (n2 + 1))))) (sI (sI ν5 m 15 (nI (told ||| 2 ^ (vl s (n2 + 1))))) (m + 6) (607 + (25 * (B 126)) + (vl s (n2 + 1))) (nI (vl s (n2 + 3)))) := same.rf.sI ⟨rfl, rfl⟩
                    have hT_7 := hT_6.sm t7 (fun o k h => by omega)
                    have hs_7 := hs_6.tr (t7.up (fun o k h => by unfold SMm; omega))
                    have hS_7 := hS_6.sm t7 (fun h => by omega) (fun h => by omega)
                    have hN_7 := hN_6.sm t7 (fun o k h => by omega)
                    have hB_7 : MBk (sI (sI ν5 m 15 (nI (told ||| 2 ^ (vl s (n2 + 1))))) (m + 6) (607 + (25 * (B 126)) + (vl s (n2 + 1))) (nI (vl s (n2 + 3)))) m (stB B2 (127 + 25 * B 126 + vl s (n2 + 1)) ((vl s (n2 + 3)))) := by have h9 := hB_6.st (j := 127 + 25 * B 126 + vl s (n2 + 1)) (v := (vl s (n2 + 3))) (by omega); rwa [show 480 + (127 + 25 * B 126 + vl s (n2 + 1)) = 607 + (25 * (B 126)) + (vl s (n2 + 1)) by omega] at h9
                    have hn_7 := hn_6
                    refine w_goto (tgt := 22) hX dX9_readPerson_136 (by decide) ?_
                    refine w_sub (l2 := [some (.ref m), some (.int (nI (607 + (25 * (B 126))))), none, none]) (by simp [lsub]) (leb rfl) ?_
                    have hpx : pHrs s (addM M (wd s (n + 1)) 2 (B 126)) (B 126) (q + 1 + 1) n2 told B2 = pHrs s (addM M (wd s (n + 1)) 2 (B 126)) (B 126) (q + 1) (n2 + 4) (told ||| 2 ^ (vl s (n2 + 1))) (stB B2 (127 + 25 * B 126 + vl s (n2 + 1)) ((vl s (n2 + 3)))) := pHrs_S.trans ((if_neg (by omega)).trans ((bnd_r p4).trans ((if_neg (by rw [htf]; decide)).trans ((bnd_r (pWd_y w5)).trans (bnd_r p5)))))
                    exact ih (i + 1) (n2 + 4) (told ||| 2 ^ (vl s (n2 + 1))) _ _ (by omega) (Nat.or_lt_two_pow ht25 (Nat.pow_lt_pow_right (by omega) (by omega))) (by rw [or_tb, htb]; simp; omega) (by rw [pcn_or htf (by omega), hpc]) (by rw [gI_no (by omega), gI_same]) hT_7 hS_7 hB_7 hN_7 hs_7 (hres.trans hpx)
                  · exact absurd c2 (by decide)
                · rw [e5]
                  let β5 := ν5
                  have hT_5 := hT_4.sm t5 (fun o k h => by unfold SA2 at h; omega)
                  obtain ⟨n9_5, hn9_5⟩ := hF_5.2.2
                  have hf_5 := hF_5.2.1
                  have hn_5 := (rch_le hT_5.2.2.2 _ hn9_5.1).2
                  have hs_5 := hs_4.tr (t5.up (fun o k h => by unfold SA2 at h; unfold SMm; omega))
                  refine w_istore_n (i := 3) (l2 := [some (.ref m), some (.int (nI (607 + (25 * (B 126))))), some (.int (nI (vl s (n2 + 1)))), some (.int (nI 0))]) hX dX9_readPerson_103 rfl (ltb rfl) rfl rfl ?_
                  refine w_aload_n (i := 0) hX dX9_readPerson_104 rfl rfl ?_
                  refine w_dup hX dX9_readPerson_105 rfl ?_
                  refine w_getI hX dX9_readPerson_106 fo_RX9_228 rfl (mod_s hT_5.1) ?_
                  refine w_iconst hX dX9_readPerson_109 kI_1 ?_
                  refine w_iload_n (i := 2) hX dX9_readPerson_110 rfl rfl ?_
                  refine w_ishl hX dX9_readPerson_111 ?_
                  refine w_top (y := (nI 1) <<< ((nI (vl s (n2 + 1))) &&& 31)) rfl ?_
                  refine w_ior hX dX9_readPerson_112 ?_
                  refine w_top (y := (gI ν5 m 15) ||| ((nI 1) <<< ((nI (vl s (n2 + 1))) &&& 31))) rfl ?_
                  refine w_putI hX dX9_readPerson_113 fo_RX9_228 rfl rfl rfl rfl (mod_s hT_5.1) ?_
                  have t8 : same (fun o2 k2 => o2 = m ∧ k2 = 15) ν5 (sI ν5 m 15 ((gI ν5 m 15) ||| ((nI 1) <<< ((nI (vl s (n2 + 1))) &&& 31)))) := same.rf.sI ⟨rfl, rfl⟩
                  have hT_8 := hT_5.sm t8 (fun o k h => by omega)
                  have hs_8 := hs_5.tr (t8.up (fun o k h => by unfold SMm; omega))
                  have hF_8 := hF_5.sm t8 (fun h => by omega) (fun h => by omega)
                  have hf_8 := hf_5
                  obtain ⟨n9_8, hn9_8⟩ := hF_8.2.2
                  have hn_8 := (rch_le hT.2.2.2 _ hn9_8.1).2
                  refine w_aload_n (i := 0) hX dX9_readPerson_116 rfl rfl ?_
                  refine w_getR (q := m + 6) hX dX9_readPerson_117 fo_RX9_73 rfl (mod_s hT_8.1) (mod_r10 hT_8.1) ?_
                  refine w_iload_n (i := 1) hX dX9_readPerson_120 rfl rfl ?_
                  refine w_iload_n (i := 2) hX dX9_readPerson_121 rfl rfl ?_
                  refine w_iaddN hX dX9_readPerson_122 ?_
                  refine w_aload_n (i := 0) hX dX9_readPerson_123 rfl rfl ?_
                  refine w_getI hX dX9_readPerson_124 fo_RX9_154 rfl (mod_s hT_8.1) ?_
                  refine w_top (y := nI f5) hF_8.1 ?_
                  refine wn_if_le (tgt := 134) hX dX9_readPerson_127 (by decide) (by first | omega | (split <;> omega)) (fun c3 => ?_) (fun c3 => ?_)
                  · exfalso; omega
                  · refine w_iconst hX dX9_readPerson_130 kI_0 ?_
                    refine w_goto (tgt := 135) hX dX9_readPerson_131 (by decide) ?_
                    refine w_iastN hX dX9_readPerson_135 (mod_a6 hT_8.1) (by omega) (by omega) ?_
                    have t9 : same (fun o2 k2 => o2 = m + 6 ∧ k2 = 607 + (25 * (B 126)) + (vl s (n2 + 1))) (sI ν5 m 15 ((gI ν5 m 15) ||| ((nI 1) <<< ((nI (vl s (n2 + 1))) &&& 31)))) (sI (sI ν5 m 15 ((gI ν5 m 15) ||| ((nI 1) <<< ((nI (vl s (n2 + 1))) &&& 31)))) (m + 6) (607 + (25 * (B 126)) + (vl s (n2 + 1))) (nI 0)) := same.rf.sI ⟨rfl, rfl⟩
                    have hT_9 := hT_8.sm t9 (fun o k h => by omega)
                    have hs_9 := hs_8.tr (t9.up (fun o k h => by unfold SMm; omega))
                    have hF_9 := hF_8.sm t9 (fun h => by omega) (fun h => by omega)
                    have hf_9 := hf_8
                    obtain ⟨n9_9, hn9_9⟩ := hF_9.2.2
                    have hn_9 := (rch_le hT.2.2.2 _ hn9_9.1).2
                    refine w_goto (tgt := 22) hX dX9_readPerson_136 (by decide) ?_
                    refine w_aload_n (i := 0) hX dX9_readPerson_22 rfl rfl ?_
                    refine w_bipush hX dX9_readPerson_23 kB_11 ?_
                    refine w_callVI (As := [.int (nI 11)]) (rest := []) (ci := 9) (o := m) (k2 := 0) (n2 := 0) hX dX9_readPerson_25 (s_m_hasWordf Γ (sI (sI ν5 m 15 ((gI ν5 m 15) ||| ((nI 1) <<< ((nI (vl s (n2 + 1))) &&& 31)))) (m + 6) (607 + (25 * (B 126)) + (vl s (n2 + 1))) (nI 0)) m s hT_9 f5 hF_9 11) okX9_hasWord (ltb rfl) (mod_s hT_9.1) ml_RX9_167 imX9_hasWord seX9_hasWord rfl (leb rfl) (leb rfl) rfl rfl (fun r9 μ9 hq9 => ?_)
                    obtain ⟨hr9, hm9⟩ := hq9; rw [hr9, hm9]; clear hr9 hm9 r9 μ9
                    refine wb_eq (tgt := 139) hX dX9_readPerson_28 (by decide) (fun c4 => ?_) (fun c4 => ?_)
                    · have hpx : pHrs s (addM M (wd s (n + 1)) 2 (B 126)) (B 126) (q + 1 + 1) n2 told B2 = .inl f5 := pHrs_S.trans ((if_neg (by omega)).trans ((bnd_r p4).trans ((if_neg (by rw [htf]; decide)).trans (bnd_a p5))))
                      exact w_vret hX hE dX9_readPerson_139 (Or.inl rfl) (MX_l (hres.trans hpx) hs_9 hF_9)
                    · exact absurd ((Eq.refl false).symm.trans c4) (by decide)
              · rw [e4, m4]
                have hF_4 := hS_3.bad (pNb_l hT.2.2.2 p4)
                have t4 : same (SA2 m) (sI ν m 7 (nI (n2 + 1))) (sI (sI ν m 7 (nI (n2 + 1))) m 8 (nI f4)) := same.rf.sI ⟨rfl, Or.inr rfl⟩
                have hT_4 := hT_3.sm t4 (fun o k h => by unfold SA2 at h; omega)
                obtain ⟨n9_4, hn9_4⟩ := hF_4.2.2
                have hf_4 := hF_4.2.1
                have hn_4 := (rch_le hT_4.2.2.2 _ hn9_4.1).2
                have hs_4 := hs_3.tr (t4.up (fun o k h => by unfold SA2 at h; unfold SMm; omega))
                refine w_istore_n (i := 2) (l2 := [some (.ref m), some (.int (nI (607 + (25 * (B 126))))), some (.int (nI 0)), none]) hX dX9_readPerson_93 rfl (ltb rfl) rfl rfl ?_
                refine w_aload_n (i := 0) hX dX9_readPerson_94 rfl rfl ?_
                refine w_bipush hX dX9_readPerson_95 kB_9 ?_
                refine w_iconst hX dX9_readPerson_97 kI_0 ?_
                refine w_bipush hX dX9_readPerson_98 kB_99 ?_
                refine w_callVI (As := [.int (nI 9), .int (nI 0), .int (nI 99)]) (rest := []) (ci := 9) (o := m) (k2 := 0) (n2 := 0) hX dX9_readPerson_100 (s_m_afterf Γ (sI (sI ν m 7 (nI (n2 + 1))) m 8 (nI f4)) m s hT_4 f4 hF_4 9 (nI 0) 99) okX9_takeAfter (ltb rfl) (mod_s hT_4.1) ml_RX9_222 imX9_takeAfter seX9_takeAfter rfl (leb rfl) (leb rfl) rfl rfl (fun r9 μ9 hq9 => ?_)
                obtain ⟨hr9, hm9⟩ := hq9; rw [hr9, hm9]; clear hr9 hm9 r9 μ9
                refine w_istore_n (i := 3) (l2 := [some (.ref m), some (.int (nI (607 + (25 * (B 126))))), some (.int (nI 0)), some (.int (nI 0))]) hX dX9_readPerson_103 rfl (ltb rfl) rfl rfl ?_
                refine w_aload_n (i := 0) hX dX9_readPerson_104 rfl rfl ?_
                refine w_dup hX dX9_readPerson_105 rfl ?_
                refine w_getI hX dX9_readPerson_106 fo_RX9_228 rfl (mod_s hT_4.1) ?_
                refine w_iconst hX dX9_readPerson_109 kI_1 ?_
                refine w_iload_n (i := 2) hX dX9_readPerson_110 rfl rfl ?_
                refine w_ishl hX dX9_readPerson_111 ?_
                refine w_top (y := (nI 1) <<< ((nI 0) &&& 31)) rfl ?_
                refine w_ior hX dX9_readPerson_112 ?_
                refine w_top (y := (gI (sI (sI ν m 7 (nI (n2 + 1))) m 8 (nI f4)) m 15) ||| ((nI 1) <<< ((nI 0) &&& 31))) rfl ?_
                refine w_putI hX dX9_readPerson_113 fo_RX9_228 rfl rfl rfl rfl (mod_s hT_4.1) ?_
                have t12 : same (fun o2 k2 => o2 = m ∧ k2 = 15) (sI (sI ν m 7 (nI (n2 + 1))) m 8 (nI f4)) (sI (sI (sI ν m 7 (nI (n2 + 1))) m 8 (nI f4)) m 15 ((gI (sI (sI ν m 7 (nI (n2 + 1))) m 8 (nI f4)) m 15) ||| ((nI 1) <<< ((nI 0) &&& 31)))) := same.rf.sI ⟨rfl, rfl⟩
                have hT_12 := hT_4.sm t12 (fun o k h => by omega)
                have hs_12 := hs_4.tr (t12.up (fun o k h => by unfold SMm; omega))
                have hF_12 := hF_4.sm t12 (fun h => by omega) (fun h => by omega)
                have hf_12 := hf_4
                obtain ⟨n9_12, hn9_12⟩ := hF_12.2.2
                have hn_12 := (rch_le hT.2.2.2 _ hn9_12.1).2
                refine w_aload_n (i := 0) hX dX9_readPerson_116 rfl rfl ?_
                refine w_getR (q := m + 6) hX dX9_readPerson_117 fo_RX9_73 rfl (mod_s hT_12.1) (mod_r10 hT_12.1) ?_
                refine w_iload_n (i := 1) hX dX9_readPerson_120 rfl rfl ?_
                refine w_iload_n (i := 2) hX dX9_readPerson_121 rfl rfl ?_
                refine w_iaddN hX dX9_readPerson_122 ?_
                refine w_aload_n (i := 0) hX dX9_readPerson_123 rfl rfl ?_
                refine w_getI hX dX9_readPerson_124 fo_RX9_154 rfl (mod_s hT_12.1) ?_
                refine w_top (y := nI f4) hF_12.1 ?_
                refine wn_if_le (tgt := 134) hX dX9_readPerson_127 (by decide) (by first | omega | (split <;> omega)) (fun c5 => ?_) (fun c5 => ?_)
                · exfalso; omega
                · refine w_iconst hX dX9_readPerson_130 kI_0 ?_
                  refine w_goto (tgt := 135) hX dX9_readPerson_131 (by decide) ?_
                  refine w_iastN hX dX9_readPerson_135 (mod_a6 hT_12.1) (by omega) (by omega) ?_
                  have t13 : same (fun o2 k2 => o2 = m + 6 ∧ k2 = 607 + (25 * (B 126)) + 0) (sI (sI (sI ν m 7 (nI (n2 + 1))) m 8 (nI f4)) m 15 ((gI (sI (sI ν m 7 (nI (n2 + 1))) m 8 (nI f4)) m 15) ||| ((nI 1) <<< ((nI 0) &&& 31)))) (sI (sI (sI (sI ν m 7 (nI (n2 + 1))) m 8 (nI f4)) m 15 ((gI (sI (sI ν m 7 (nI (n2 + 1))) m 8 (nI f4)) m 15) ||| ((nI 1) <<< ((nI 0) &&& 31)))) (m + 6) (607 + (25 * (B 126)) + 0) (nI 0)) := same.rf.sI ⟨rfl, rfl⟩
                  have hT_13 := hT_12.sm t13 (fun o k h => by omega)
                  have hs_13 := hs_12.tr (t13.up (fun o k h => by unfold SMm; omega))
                  have hF_13 := hF_12.sm t13 (fun h => by omega) (fun h => by omega)
                  have hf_13 := hf_12
                  obtain ⟨n9_13, hn9_13⟩ := hF_13.2.2
                  have hn_13 := (rch_le hT.2.2.2 _ hn9_13.1).2
                  refine w_goto (tgt := 22) hX dX9_readPerson_136 (by decide) ?_
                  refine w_aload_n (i := 0) hX dX9_readPerson_22 rfl rfl ?_
                  refine w_bipush hX dX9_readPerson_23 kB_11 ?_
                  refine w_callVI (As := [.int (nI 11)]) (rest := []) (ci := 9) (o := m) (k2 := 0) (n2 := 0) hX dX9_readPerson_25 (s_m_hasWordf Γ (sI (sI (sI (sI ν m 7 (nI (n2 + 1))) m 8 (nI f4)) m 15 ((gI (sI (sI ν m 7 (nI (n2 + 1))) m 8 (nI f4)) m 15) ||| ((nI 1) <<< ((nI 0) &&& 31)))) (m + 6) (607 + (25 * (B 126)) + 0) (nI 0)) m s hT_13 f4 hF_13 11) okX9_hasWord (ltb rfl) (mod_s hT_13.1) ml_RX9_167 imX9_hasWord seX9_hasWord rfl (leb rfl) (leb rfl) rfl rfl (fun r9 μ9 hq9 => ?_)
                  obtain ⟨hr9, hm9⟩ := hq9; rw [hr9, hm9]; clear hr9 hm9 r9 μ9
                  refine wb_eq (tgt := 139) hX dX9_readPerson_28 (by decide) (fun c6 => ?_) (fun c6 => ?_)
                  · have hpx : pHrs s (addM M (wd s (n + 1)) 2 (B 126)) (B 126) (q + 1 + 1) n2 told B2 = .inl f4 := pHrs_S.trans ((if_neg (by omega)).trans (bnd_l p4))
                    exact w_vret hX hE dX9_readPerson_139 (Or.inl rfl) (MX_l (hres.trans hpx) hs_13 hF_13)
                  · exact absurd ((Eq.refl false).symm.trans c6) (by decide)
            refine w_aload_n (i := 0) hX dX9_readPerson_31 rfl rfl ?_
            refine w_getR (q := m + 2) hX dX9_readPerson_32 fo_RX9_24 rfl (mod_s hT_3.1) (mod_r4 hT_3.1) ?_
            refine w_aload_n (i := 0) hX dX9_readPerson_35 rfl rfl ?_
            refine w_getI hX dX9_readPerson_36 fo_RX9_151 rfl (mod_s hT_3.1) ?_
            refine w_top (y := nI (n2 + 1)) hS_3.1 ?_
            refine w_ialdN hX dX9_readPerson_39 (mod_a2 hT_3.1) (by omega) (by omega) ?_
            refine w_top (y := nI z) hz ?_
            refine w_iconst hX dX9_readPerson_40 kI_2 ?_
            refine wn_icmp_ne (tgt := 86) hX dX9_readPerson_41 (by decide) (by first | omega | (split <;> omega)) (by first | omega | (split <;> omega)) (fun c7 => ?_) (fun c7 => ?_)
            · exact j86 (by first | exact NTP_k (by omega) | exact NTP_v (fun h9 => absurd ((cmp_lt (by omega) (by omega)).2.mpr h9) (Int32.not_le.mpr c7)) | exact NTP_b c7)
            · have hv4 := vl_lt (s := s) (n := n2 + 1) (by omega)
              refine w_aload_n (i := 0) hX dX9_readPerson_44 rfl rfl ?_
              refine w_getR (q := m + 4) hX dX9_readPerson_45 fo_RX9_30 rfl (mod_s hT_3.1) (mod_r6 hT_3.1) ?_
              refine w_aload_n (i := 0) hX dX9_readPerson_48 rfl rfl ?_
              refine w_getI hX dX9_readPerson_49 fo_RX9_151 rfl (mod_s hT_3.1) ?_
              refine w_top (y := nI (n2 + 1)) hS_3.1 ?_
              refine w_laldN hX dX9_readPerson_52 (mod_a4 hT_3.1) (by omega) (by omega) ?_
              refine w_topL (y := lN (vl s (n2 + 1))) (hvv (by omega)) ?_
              refine w_ldc2 hX dX9_readPerson_53 kl_RX9_231 ?_
              refine w_topL (y := lN 24) rfl ?_
              refine w_lcmp hX dX9_readPerson_56 ?_
              refine wc_if_gt (tgt := 86) hX dX9_readPerson_57 (by decide) (fun c8 => ?_) (fun c8 => ?_)
              · exact j86 (by first | exact NTP_k (by omega) | exact NTP_v (fun h9 => absurd ((cmp_lt (by omega) (by omega)).2.mpr h9) (Int32.not_le.mpr c8)) | exact NTP_b c8)
              · have hv24 := (cmp_lt (by omega) (by omega)).2.mp c8
                refine w_aload_n (i := 0) hX dX9_readPerson_60 rfl rfl ?_
                refine w_getI hX dX9_readPerson_61 fo_RX9_228 rfl (mod_s hT_3.1) ?_
                refine w_top (y := nI told) (by rw [gI_nk (by omega)]; exact ht15) ?_
                refine w_aload_n (i := 0) hX dX9_readPerson_64 rfl rfl ?_
                refine w_getR (q := m + 4) hX dX9_readPerson_65 fo_RX9_30 rfl (mod_s hT_3.1) (mod_r6 hT_3.1) ?_
                refine w_aload_n (i := 0) hX dX9_readPerson_68 rfl rfl ?_
                refine w_getI hX dX9_readPerson_69 fo_RX9_151 rfl (mod_s hT_3.1) ?_
                refine w_top (y := nI (n2 + 1)) hS_3.1 ?_
                refine w_laldN hX dX9_readPerson_72 (mod_a4 hT_3.1) (by omega) (by omega) ?_
                refine w_topL (y := lN (vl s (n2 + 1))) (hvv (by omega)) ?_
                refine w_l2i hX dX9_readPerson_73 ?_
                refine w_top (y := nI (vl s (n2 + 1))) (lM_i32 _) ?_
                refine w_ishr hX dX9_readPerson_74 ?_
                refine w_iconst hX dX9_readPerson_75 kI_1 ?_
                refine w_iand hX dX9_readPerson_76 ?_
                refine w_top (y := nI (if told.testBit (vl s (n2 + 1)) = true then 1 else 0)) (bit31 (by omega) (by omega)) ?_
                refine w_iconst hX dX9_readPerson_77 kI_1 ?_
                refine wn_icmp_ne (tgt := 86) hX dX9_readPerson_78 (by decide) (by first | omega | (split <;> omega)) (by first | omega | (split <;> omega)) (fun c9 => ?_) (fun c9 => ?_)
                · exact j86 (by first | exact NTP_k (by omega) | exact NTP_v (fun h9 => absurd ((cmp_lt (by omega) (by omega)).2.mpr h9) (Int32.not_le.mpr c9)) | exact NTP_b c9)
                · have htt : told.testBit (vl s (n2 + 1)) = true := by by_cases h9 : told.testBit (vl s (n2 + 1)) = true; (exact h9); rw [if_neg h9] at c9; exact absurd c9 (by decide)
                  have hv1 : 1 ≤ vl s (n2 + 1) := by rcases Nat.eq_zero_or_pos (vl s (n2 + 1)) with h9 | h9; (rw [h9, htb] at htt; cases htt); exact h9
                  have hpnb : pNb s (n2 + 1) 1 24 = .inr (vl s (n2 + 1)) := by unfold pNb; rw [if_neg (by omega), if_neg (by omega)]
                  refine w_aload_n (i := 0) hX dX9_readPerson_81 rfl rfl ?_
                  refine w_iconst hX dX9_readPerson_82 kI_3 ?_
                  refine w_callVV (As := [.int (nI 3)]) (rest := []) (ci := 9) (o := m) (k2 := 0) (n2 := 0) hX dX9_readPerson_83 (s_m_wrong0 Γ (sI ν m 7 (nI (n2 + 1))) m s hT_3 (n2 + 1) hS_3 3) okX9_wrong (ltb rfl) (mod_s hT_3.1) ml_RX9_160 imX9_wrong seX9_wrong rfl (leb rfl) (leb rfl) rfl rfl (fun μ9 hq9 => ?_)
                  rw [hq9]; clear hq9 μ9
                  have hF_15 := hS_3.bad (ft_lt (w := 3) (n := n2 + 1) hT.2.2.2 (by omega) (by omega))
                  have t15 : same (SA2 m) (sI ν m 7 (nI (n2 + 1))) (sI (sI ν m 7 (nI (n2 + 1))) m 8 (nI (ft s 3 (n2 + 1)))) := same.rf.sI ⟨rfl, Or.inr rfl⟩
                  have hT_15 := hT_3.sm t15 (fun o k h => by unfold SA2 at h; omega)
                  obtain ⟨n9_15, hn9_15⟩ := hF_15.2.2
                  have hf_15 := hF_15.2.1
                  have hn_15 := (rch_le hT_15.2.2.2 _ hn9_15.1).2
                  have hs_15 := hs_3.tr (t15.up (fun o k h => by unfold SA2 at h; unfold SMm; omega))
                  refine w_aload_n (i := 0) hX dX9_readPerson_86 rfl rfl ?_
                  refine w_iconst hX dX9_readPerson_87 kI_1 ?_
                  refine w_bipush hX dX9_readPerson_88 kB_24 ?_
                  refine w_callVI (As := [.int (nI 1), .int (nI 24)]) (rest := []) (ci := 9) (o := m) (k2 := 0) (n2 := 0) hX dX9_readPerson_90 (s_m_takeNf Γ (sI (sI ν m 7 (nI (n2 + 1))) m 8 (nI (ft s 3 (n2 + 1)))) m s hT_15 (ft s 3 (n2 + 1)) hF_15 (nI 1) 24) okX9_takeNumber (ltb rfl) (mod_s hT_15.1) ml_RX9_173 imX9_takeNumber seX9_takeNumber rfl (leb rfl) (leb rfl) rfl rfl (fun r9 μ9 hq9 => ?_)
                  obtain ⟨hr9, hm9⟩ := hq9; rw [hr9, hm9]; clear hr9 hm9 r9 μ9
                  refine w_istore_n (i := 2) (l2 := [some (.ref m), some (.int (nI (607 + (25 * (B 126))))), some (.int (nI 0)), none]) hX dX9_readPerson_93 rfl (ltb rfl) rfl rfl ?_
                  refine w_aload_n (i := 0) hX dX9_readPerson_94 rfl rfl ?_
                  refine w_bipush hX dX9_readPerson_95 kB_9 ?_
                  refine w_iconst hX dX9_readPerson_97 kI_0 ?_
                  refine w_bipush hX dX9_readPerson_98 kB_99 ?_
                  refine w_callVI (As := [.int (nI 9), .int (nI 0), .int (nI 99)]) (rest := []) (ci := 9) (o := m) (k2 := 0) (n2 := 0) hX dX9_readPerson_100 (s_m_afterf Γ (sI (sI ν m 7 (nI (n2 + 1))) m 8 (nI (ft s 3 (n2 + 1)))) m s hT_15 (ft s 3 (n2 + 1)) hF_15 9 (nI 0) 99) okX9_takeAfter (ltb rfl) (mod_s hT_15.1) ml_RX9_222 imX9_takeAfter seX9_takeAfter rfl (leb rfl) (leb rfl) rfl rfl (fun r9 μ9 hq9 => ?_)
                  obtain ⟨hr9, hm9⟩ := hq9; rw [hr9, hm9]; clear hr9 hm9 r9 μ9
                  refine w_istore_n (i := 3) (l2 := [some (.ref m), some (.int (nI (607 + (25 * (B 126))))), some (.int (nI 0)), some (.int (nI 0))]) hX dX9_readPerson_103 rfl (ltb rfl) rfl rfl ?_
                  refine w_aload_n (i := 0) hX dX9_readPerson_104 rfl rfl ?_
                  refine w_dup hX dX9_readPerson_105 rfl ?_
                  refine w_getI hX dX9_readPerson_106 fo_RX9_228 rfl (mod_s hT_15.1) ?_
                  refine w_iconst hX dX9_readPerson_109 kI_1 ?_
                  refine w_iload_n (i := 2) hX dX9_readPerson_110 rfl rfl ?_
                  refine w_ishl hX dX9_readPerson_111 ?_
                  refine w_top (y := (nI 1) <<< ((nI 0) &&& 31)) rfl ?_
                  refine w_ior hX dX9_readPerson_112 ?_
                  refine w_top (y := (gI (sI (sI ν m 7 (nI (n2 + 1))) m 8 (nI (ft s 3 (n2 + 1)))) m 15) ||| ((nI 1) <<< ((nI 0) &&& 31))) rfl ?_
                  refine w_putI hX dX9_readPerson_113 fo_RX9_228 rfl rfl rfl rfl (mod_s hT_15.1) ?_
                  have t18 : same (fun o2 k2 => o2 = m ∧ k2 = 15) (sI (sI ν m 7 (nI (n2 + 1))) m 8 (nI (ft s 3 (n2 + 1)))) (sI (sI (sI ν m 7 (nI (n2 + 1))) m 8 (nI (ft s 3 (n2 + 1)))) m 15 ((gI (sI (sI ν m 7 (nI (n2 + 1))) m 8 (nI (ft s 3 (n2 + 1)))) m 15) ||| ((nI 1) <<< ((nI 0) &&& 31)))) := same.rf.sI ⟨rfl, rfl⟩
                  have hT_18 := hT_15.sm t18 (fun o k h => by omega)
                  have hs_18 := hs_15.tr (t18.up (fun o k h => by unfold SMm; omega))
                  have hF_18 := hF_15.sm t18 (fun h => by omega) (fun h => by omega)
                  have hf_18 := hf_15
                  obtain ⟨n9_18, hn9_18⟩ := hF_18.2.2
                  have hn_18 := (rch_le hT.2.2.2 _ hn9_18.1).2
                  refine w_aload_n (i := 0) hX dX9_readPerson_116 rfl rfl ?_
                  refine w_getR (q := m + 6) hX dX9_readPerson_117 fo_RX9_73 rfl (mod_s hT_18.1) (mod_r10 hT_18.1) ?_
                  refine w_iload_n (i := 1) hX dX9_readPerson_120 rfl rfl ?_
                  refine w_iload_n (i := 2) hX dX9_readPerson_121 rfl rfl ?_
                  refine w_iaddN hX dX9_readPerson_122 ?_
                  refine w_aload_n (i := 0) hX dX9_readPerson_123 rfl rfl ?_
                  refine w_getI hX dX9_readPerson_124 fo_RX9_154 rfl (mod_s hT_18.1) ?_
                  refine w_top (y := nI (ft s 3 (n2 + 1))) hF_18.1 ?_
                  refine wn_if_le (tgt := 134) hX dX9_readPerson_127 (by decide) (by first | omega | (split <;> omega)) (fun c10 => ?_) (fun c10 => ?_)
                  · exfalso; omega
                  · refine w_iconst hX dX9_readPerson_130 kI_0 ?_
                    refine w_goto (tgt := 135) hX dX9_readPerson_131 (by decide) ?_
                    refine w_iastN hX dX9_readPerson_135 (mod_a6 hT_18.1) (by omega) (by omega) ?_
                    have t19 : same (fun o2 k2 => o2 = m + 6 ∧ k2 = 607 + (25 * (B 126)) + 0) (sI (sI (sI ν m 7 (nI (n2 + 1))) m 8 (nI (ft s 3 (n2 + 1)))) m 15 ((gI (sI (sI ν m 7 (nI (n2 + 1))) m 8 (nI (ft s 3 (n2 + 1)))) m 15) ||| ((nI 1) <<< ((nI 0) &&& 31)))) (sI (sI (sI (sI ν m 7 (nI (n2 + 1))) m 8 (nI (ft s 3 (n2 + 1)))) m 15 ((gI (sI (sI ν m 7 (nI (n2 + 1))) m 8 (nI (ft s 3 (n2 + 1)))) m 15) ||| ((nI 1) <<< ((nI 0) &&& 31)))) (m + 6) (607 + (25 * (B 126)) + 0) (nI 0)) := same.rf.sI ⟨rfl, rfl⟩
                    have hT_19 := hT_18.sm t19 (fun o k h => by omega)
                    have hs_19 := hs_18.tr (t19.up (fun o k h => by unfold SMm; omega))
                    have hF_19 := hF_18.sm t19 (fun h => by omega) (fun h => by omega)
                    have hf_19 := hf_18
                    obtain ⟨n9_19, hn9_19⟩ := hF_19.2.2
                    have hn_19 := (rch_le hT.2.2.2 _ hn9_19.1).2
                    refine w_goto (tgt := 22) hX dX9_readPerson_136 (by decide) ?_
                    refine w_aload_n (i := 0) hX dX9_readPerson_22 rfl rfl ?_
                    refine w_bipush hX dX9_readPerson_23 kB_11 ?_
                    refine w_callVI (As := [.int (nI 11)]) (rest := []) (ci := 9) (o := m) (k2 := 0) (n2 := 0) hX dX9_readPerson_25 (s_m_hasWordf Γ (sI (sI (sI (sI ν m 7 (nI (n2 + 1))) m 8 (nI (ft s 3 (n2 + 1)))) m 15 ((gI (sI (sI ν m 7 (nI (n2 + 1))) m 8 (nI (ft s 3 (n2 + 1)))) m 15) ||| ((nI 1) <<< ((nI 0) &&& 31)))) (m + 6) (607 + (25 * (B 126)) + 0) (nI 0)) m s hT_19 (ft s 3 (n2 + 1)) hF_19 11) okX9_hasWord (ltb rfl) (mod_s hT_19.1) ml_RX9_167 imX9_hasWord seX9_hasWord rfl (leb rfl) (leb rfl) rfl rfl (fun r9 μ9 hq9 => ?_)
                    obtain ⟨hr9, hm9⟩ := hq9; rw [hr9, hm9]; clear hr9 hm9 r9 μ9
                    refine wb_eq (tgt := 139) hX dX9_readPerson_28 (by decide) (fun c11 => ?_) (fun c11 => ?_)
                    · have hpx : pHrs s (addM M (wd s (n + 1)) 2 (B 126)) (B 126) (q + 1 + 1) n2 told B2 = .inl (ft s 3 (n2 + 1)) := pHrs_S.trans ((if_neg (by omega)).trans ((bnd_r hpnb).trans (if_pos htt)))
                      exact w_vret hX hE dX9_readPerson_139 (Or.inl rfl) (MX_l (hres.trans hpx) hs_19 hF_19)
                    · exact absurd ((Eq.refl false).symm.trans c11) (by decide)
        · rw [e3, m3]
          refine wb_eq (tgt := 139) hX dX9_readPerson_28 (by decide) (fun c12 => ?_) (fun c12 => ?_)
          · have hpx : pHrs s (addM M (wd s (n + 1)) 2 (B 126)) (B 126) (q + 1 + 1) n2 told B2 = .inr (n2, B2, (addM M (wd s (n + 1)) 2 (B 126))) := pHrs_S.trans (if_pos (by omega))
            exact w_vret hX hE dX9_readPerson_139 (Or.inl rfl) (MX_r (hres.trans hpx) hs_k hS_k hB_k hN_k)
          · exact absurd ((Eq.refl false).symm.trans c12) (by decide)
    exact loop 25 0 (n + 2) 0 (stB B 126 (B 126 + 1)) _ (by omega) (by omega) (by simp) (pcn_z 25) gI_same hT_2 hS_2 hB_2 hN_2 hs_2 (by rw [hpn])
  · rw [e1]
    have hT_1 := hT.sm t1 (fun o k h => by unfold SMm at h; omega)
    obtain ⟨n9_1, hn9_1⟩ := hF_1.2.2
    have hf_1 := hF_1.2.1
    have hn_1 := (rch_le hT.2.2.2 _ hn9_1.1).2
    have hs_1 := hs.tr t1
    refine w_imulN hX dX9_readPerson_14 ?_
    refine w_iaddN hX dX9_readPerson_15 ?_
    refine w_istore_n (i := 1) (l2 := [some (.ref m), some (.int (nI (607 + (25 * v1)))), none, none]) hX dX9_readPerson_16 rfl (ltb rfl) rfl rfl ?_
    refine w_aload_n (i := 0) hX dX9_readPerson_17 rfl rfl ?_
    refine w_iconst hX dX9_readPerson_18 kI_0 ?_
    refine w_putI hX dX9_readPerson_19 fo_RX9_228 rfl rfl rfl rfl (mod_s hT_1.1) ?_
    have t21 : same (fun o2 k2 => o2 = m ∧ k2 = 15) ν1 (sI ν1 m 15 (nI 0)) := same.rf.sI ⟨rfl, rfl⟩
    have hT_21 := hT_1.sm t21 (fun o k h => by omega)
    have hs_21 := hs_1.tr (t21.up (fun o k h => by unfold SMm; omega))
    have hF_21 := hF_1.sm t21 (fun h => by omega) (fun h => by omega)
    have hf_21 := hf_1
    obtain ⟨n9_21, hn9_21⟩ := hF_21.2.2
    have hn_21 := (rch_le hT.2.2.2 _ hn9_21.1).2
    refine w_aload_n (i := 0) hX dX9_readPerson_22 rfl rfl ?_
    refine w_bipush hX dX9_readPerson_23 kB_11 ?_
    refine w_callVI (As := [.int (nI 11)]) (rest := []) (ci := 9) (o := m) (k2 := 0) (n2 := 0) hX dX9_readPerson_25 (s_m_hasWordf Γ (sI ν1 m 15 (nI 0)) m s hT_21 f1 hF_21 11) okX9_hasWord (ltb rfl) (mod_s hT_21.1) ml_RX9_167 imX9_hasWord seX9_hasWord rfl (leb rfl) (leb rfl) rfl rfl (fun r9 μ9 hq9 => ?_)
    obtain ⟨hr9, hm9⟩ := hq9; rw [hr9, hm9]; clear hr9 hm9 r9 μ9
    refine wb_eq (tgt := 139) hX dX9_readPerson_28 (by decide) (fun c13 => ?_) (fun c13 => ?_)
    · have hpx : pPerson s n B M = .inl f1 := by unfold pPerson; exact bnd_l p1
      exact w_vret hX hE dX9_readPerson_139 (Or.inl rfl) (MX_l hpx hs_21 hF_21)
    · exact absurd ((Eq.refl false).symm.trans c13) (by decide)
