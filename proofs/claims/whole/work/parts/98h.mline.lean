theorem MX_or {m : Nat} {s : Tp} {res : Nat ⊕ PSt} {μ ν : Mem} (h : MX m s res μ ν) : (∃ f, res = .inl f ∧ MFt ν m s f ∧ same (SMm m) μ ν) ∨ (∃ st : PSt, res = .inr st ∧ MSt ν m s st.1 ∧ MBk ν m st.2.1 ∧ MN ν m st.2.2 ∧ same (SMm m) μ ν) := by
  obtain ⟨hs, h⟩ := h
  cases res with
  | inl f => exact Or.inl ⟨f, rfl, h, hs⟩
  | inr st => exact Or.inr ⟨st, rfl, h.1, h.2.1, h.2.2, hs⟩
theorem pAll_ok {s : Tp} : ∀ f st st2, PIv st.2.1 st.2.2 → pAll s f st = .inr st2 → PIv st2.2.1 st2.2.2 := by
  intro f
  induction f with
  | zero => intro st st2 _ h; cases h
  | succ f ih =>
    intro st st2 hP h
    rw [pAll_S] at h
    by_cases c : kd s st.1 = 0
    · rw [if_pos c] at h; cases h; exact hP
    · rw [if_neg c] at h
      obtain ⟨a, h1, h2⟩ := bnd_inr h
      exact ih a st2 (pSen_ok hP h1).1 h2
theorem pRead_ok {s : Tp} {st : PSt} (h : pRead s = .inr st) : PIv st.2.1 st.2.2 := pAll_ok _ _ _ PI0 h
set_option maxHeartbeats 1000000 in
theorem s_m_line (Γ : Gm) (μ : Mem) (m : Nat) (s : Tp) (n : Nat) (B : Nat → Nat) (M : NM) (hT : MT μ m s) (hS : MSt μ m s n) (hB : MBk μ m B) (hN : MN μ m M) (hP : PIv B M) (hkn : kd s n ≠ 0)  : SpV Γ MX9_readLine 5 0 0 [.ref m] μ (fun μ2 => MX m s (pSen s n B M) μ μ2) := by
  refine SpV.of okX9_readLine rfl [some (.ref m)] ⟨rfl, trivial⟩ (leb rfl) (leb rfl) (fun X hX hE hnm => ?_)
  have hs : same (SMm m) μ μ := same.rf
  obtain ⟨hM9, hb0, hb85, hb126, hb352⟩ := M32 hP
  have hn := (rch_le hT.2.2.2 n hS.2.1).2
  have hL1 := hT.2.2.2.1
  refine w_aload_n (i := 0) hX dX9_readLine_0 rfl rfl ?_
  refine w_iconst hX dX9_readLine_1 kI_0 ?_
  refine w_callVI (As := [.int (nI 0)]) (rest := []) (ci := 9) (o := m) (k2 := 0) (n2 := 0) hX dX9_readLine_2 (s_m_isWord0 Γ μ m s hT (n) hS 0 (by omega)) okX9_isWord (ltb rfl) (mod_s hT.1) ml_RX9_164 imX9_isWord seX9_isWord rfl (leb rfl) (leb rfl) rfl rfl (fun r9 μ9 hq9 => ?_)
  obtain ⟨hr9, hm9⟩ := hq9; rw [hr9, hm9]; clear hr9 hm9 r9 μ9
  refine wb_eq (tgt := 19) hX dX9_readLine_5 (by decide) (fun c1 => ?_) (fun c1 => ?_)
  · refine w_aload_n (i := 0) hX dX9_readLine_19 rfl rfl ?_
    refine w_iconst hX dX9_readLine_20 kI_1 ?_
    refine w_callVI (As := [.int (nI 1)]) (rest := []) (ci := 9) (o := m) (k2 := 0) (n2 := 0) hX dX9_readLine_21 (s_m_isWord0 Γ μ m s hT (n) hS 1 (by omega)) okX9_isWord (ltb rfl) (mod_s hT.1) ml_RX9_164 imX9_isWord seX9_isWord rfl (leb rfl) (leb rfl) rfl rfl (fun r9 μ9 hq9 => ?_)
    obtain ⟨hr9, hm9⟩ := hq9; rw [hr9, hm9]; clear hr9 hm9 r9 μ9
    refine wb_eq (tgt := 34) hX dX9_readLine_24 (by decide) (fun c2 => ?_) (fun c2 => ?_)
    · refine w_aload_n (i := 0) hX dX9_readLine_34 rfl rfl ?_
      refine w_iconst hX dX9_readLine_35 kI_3 ?_
      refine w_callVI (As := [.int (nI 3)]) (rest := []) (ci := 9) (o := m) (k2 := 0) (n2 := 0) hX dX9_readLine_36 (s_m_isWord0 Γ μ m s hT (n) hS 3 (by omega)) okX9_isWord (ltb rfl) (mod_s hT.1) ml_RX9_164 imX9_isWord seX9_isWord rfl (leb rfl) (leb rfl) rfl rfl (fun r9 μ9 hq9 => ?_)
      obtain ⟨hr9, hm9⟩ := hq9; rw [hr9, hm9]; clear hr9 hm9 r9 μ9
      refine wb_eq (tgt := 49) hX dX9_readLine_39 (by decide) (fun c3 => ?_) (fun c3 => ?_)
      · refine w_aload_n (i := 0) hX dX9_readLine_49 rfl rfl ?_
        refine w_iconst hX dX9_readLine_50 kI_4 ?_
        refine w_callVI (As := [.int (nI 4)]) (rest := []) (ci := 9) (o := m) (k2 := 0) (n2 := 0) hX dX9_readLine_51 (s_m_isWord0 Γ μ m s hT (n) hS 4 (by omega)) okX9_isWord (ltb rfl) (mod_s hT.1) ml_RX9_164 imX9_isWord seX9_isWord rfl (leb rfl) (leb rfl) rfl rfl (fun r9 μ9 hq9 => ?_)
        obtain ⟨hr9, hm9⟩ := hq9; rw [hr9, hm9]; clear hr9 hm9 r9 μ9
        refine wb_eq (tgt := 64) hX dX9_readLine_54 (by decide) (fun c4 => ?_) (fun c4 => ?_)
        · refine w_aload_n (i := 0) hX dX9_readLine_64 rfl rfl ?_
          refine w_bipush hX dX9_readLine_65 kB_10 ?_
          refine w_callVI (As := [.int (nI 10)]) (rest := []) (ci := 9) (o := m) (k2 := 0) (n2 := 0) hX dX9_readLine_67 (s_m_isWord0 Γ μ m s hT (n) hS 10 (by omega)) okX9_isWord (ltb rfl) (mod_s hT.1) ml_RX9_164 imX9_isWord seX9_isWord rfl (leb rfl) (leb rfl) rfl rfl (fun r9 μ9 hq9 => ?_)
          obtain ⟨hr9, hm9⟩ := hq9; rw [hr9, hm9]; clear hr9 hm9 r9 μ9
          refine wb_eq (tgt := 80) hX dX9_readLine_70 (by decide) (fun c5 => ?_) (fun c5 => ?_)
          · refine w_aload_n (i := 0) hX dX9_readLine_80 rfl rfl ?_
            refine w_bipush hX dX9_readLine_81 kB_12 ?_
            refine w_callVI (As := [.int (nI 12)]) (rest := []) (ci := 9) (o := m) (k2 := 0) (n2 := 0) hX dX9_readLine_83 (s_m_isWord0 Γ μ m s hT (n) hS 12 (by omega)) okX9_isWord (ltb rfl) (mod_s hT.1) ml_RX9_164 imX9_isWord seX9_isWord rfl (leb rfl) (leb rfl) rfl rfl (fun r9 μ9 hq9 => ?_)
            obtain ⟨hr9, hm9⟩ := hq9; rw [hr9, hm9]; clear hr9 hm9 r9 μ9
            refine wb_eq (tgt := 96) hX dX9_readLine_86 (by decide) (fun c6 => ?_) (fun c6 => ?_)
            · refine w_aload_n (i := 0) hX dX9_readLine_96 rfl rfl ?_
              refine w_bipush hX dX9_readLine_97 kB_16 ?_
              refine w_callVI (As := [.int (nI 16)]) (rest := []) (ci := 9) (o := m) (k2 := 0) (n2 := 0) hX dX9_readLine_99 (s_m_isWord0 Γ μ m s hT (n) hS 16 (by omega)) okX9_isWord (ltb rfl) (mod_s hT.1) ml_RX9_164 imX9_isWord seX9_isWord rfl (leb rfl) (leb rfl) rfl rfl (fun r9 μ9 hq9 => ?_)
              obtain ⟨hr9, hm9⟩ := hq9; rw [hr9, hm9]; clear hr9 hm9 r9 μ9
              refine wb_ne (tgt := 114) hX dX9_readLine_102 (by decide) (fun c7 => ?_) (fun c7 => ?_)
              · refine w_aload_n (i := 0) hX dX9_readLine_114 rfl rfl ?_
                refine w_callVV (As := []) (rest := []) (ci := 9) (o := m) (k2 := 0) (n2 := 0) hX dX9_readLine_115 (s_m_bind0 Γ μ m s n B M hT hS hB hN hP hkn (of_decide_eq_true c7)) okX9_readBind (ltb rfl) (mod_s hT.1) ml_RX9_212 imX9_readBind seX9_readBind rfl (leb rfl) (leb rfl) rfl rfl (fun ν2 hq9 => ?_)
                refine w_goto (tgt := 126) hX dX9_readLine_118 (by decide) ?_
                exact w_vret hX hE dX9_readLine_126 (Or.inl rfl) (by rw [pSen_21 (of_decide_eq_true c7)]; exact hq9)
              · refine w_aload_n (i := 0) hX dX9_readLine_105 rfl rfl ?_
                refine w_bipush hX dX9_readLine_106 kB_17 ?_
                refine w_callVI (As := [.int (nI 17)]) (rest := []) (ci := 9) (o := m) (k2 := 0) (n2 := 0) hX dX9_readLine_108 (s_m_isWord0 Γ μ m s hT (n) hS 17 (by omega)) okX9_isWord (ltb rfl) (mod_s hT.1) ml_RX9_164 imX9_isWord seX9_isWord rfl (leb rfl) (leb rfl) rfl rfl (fun r9 μ9 hq9 => ?_)
                obtain ⟨hr9, hm9⟩ := hq9; rw [hr9, hm9]; clear hr9 hm9 r9 μ9
                refine wb_eq (tgt := 121) hX dX9_readLine_111 (by decide) (fun c8 => ?_) (fun c8 => ?_)
                · refine w_aload_n (i := 0) hX dX9_readLine_121 rfl rfl ?_
                  refine w_iconst hX dX9_readLine_122 kI_1 ?_
                  refine w_callVV (As := [.int (nI 1)]) (rest := []) (ci := 9) (o := m) (k2 := 0) (n2 := 0) hX dX9_readLine_123 (s_m_wrong0 Γ μ m s hT (n) hS 1) okX9_wrong (ltb rfl) (mod_s hT.1) ml_RX9_160 imX9_wrong seX9_wrong rfl (leb rfl) (leb rfl) rfl rfl (fun μ9 hq9 => ?_)
                  rw [hq9]; clear hq9 μ9
                  have hF_1 := hS.bad (ft_lt (w := 1) (n := n) hT.2.2.2 (by omega) (by omega))
                  have t1 : same (SA2 m) μ (sI μ m 8 (nI (ft s 1 (n)))) := same.rf.sI ⟨rfl, Or.inr rfl⟩
                  have hT_1 := hT.sm t1 (fun o k h => by unfold SA2 at h; omega)
                  obtain ⟨n9_1, hn9_1⟩ := hF_1.2.2
                  have hf_1 := hF_1.2.1
                  have hn_1 := (rch_le hT_1.2.2.2 _ hn9_1.1).2
                  have hs_1 := hs.tr (t1.up (fun o k h => by unfold SA2 at h; unfold SMm; omega))
                  exact w_vret hX hE dX9_readLine_126 (Or.inl rfl) (MX_l (pSen_x ⟨of_decide_eq_false c1, of_decide_eq_false c2, of_decide_eq_false c3, of_decide_eq_false c4, of_decide_eq_false c5, of_decide_eq_false c6, of_decide_eq_false c7, of_decide_eq_false c8⟩) hs_1 hF_1)
                · refine w_aload_n (i := 0) hX dX9_readLine_114 rfl rfl ?_
                  refine w_callVV (As := []) (rest := []) (ci := 9) (o := m) (k2 := 0) (n2 := 0) hX dX9_readLine_115 (s_m_bind1 Γ μ m s n B M hT hS hB hN hP hkn (of_decide_eq_true c8)) okX9_readBind (ltb rfl) (mod_s hT.1) ml_RX9_212 imX9_readBind seX9_readBind rfl (leb rfl) (leb rfl) rfl rfl (fun ν2 hq9 => ?_)
                  refine w_goto (tgt := 126) hX dX9_readLine_118 (by decide) ?_
                  exact w_vret hX hE dX9_readLine_126 (Or.inl rfl) (by rw [pSen_22 (of_decide_eq_true c8)]; exact hq9)
            · refine w_aload_n (i := 0) hX dX9_readLine_89 rfl rfl ?_
              refine w_callVV (As := []) (rest := []) (ci := 9) (o := m) (k2 := 0) (n2 := 0) hX dX9_readLine_90 (s_m_paper_s Γ μ m s n B M hT hS hB hN hP hkn) okX9_readPaper (ltb rfl) (mod_s hT.1) ml_RX9_209 imX9_readPaper seX9_readPaper rfl (leb rfl) (leb rfl) rfl rfl (fun ν2 hq9 => ?_)
              refine w_goto (tgt := 126) hX dX9_readLine_93 (by decide) ?_
              exact w_vret hX hE dX9_readLine_126 (Or.inl rfl) (by rw [pSen_17 (of_decide_eq_true c6)]; exact hq9)
          · refine w_aload_n (i := 0) hX dX9_readLine_73 rfl rfl ?_
            refine w_callVV (As := []) (rest := []) (ci := 9) (o := m) (k2 := 0) (n2 := 0) hX dX9_readLine_74 (s_m_person Γ μ m s n B M hT hS hB hN hP hkn) okX9_readPerson (ltb rfl) (mod_s hT.1) ml_RX9_206 imX9_readPerson seX9_readPerson rfl (leb rfl) (leb rfl) rfl rfl (fun ν2 hq9 => ?_)
            refine w_goto (tgt := 126) hX dX9_readLine_77 (by decide) ?_
            exact w_vret hX hE dX9_readLine_126 (Or.inl rfl) (by rw [pSen_15 (of_decide_eq_true c5)]; exact hq9)
        · refine w_aload_n (i := 0) hX dX9_readLine_57 rfl rfl ?_
          refine w_callVV (As := []) (rest := []) (ci := 9) (o := m) (k2 := 0) (n2 := 0) hX dX9_readLine_58 (s_m_work_s Γ μ m s n B M hT hS hB hN hP hkn) okX9_readWork (ltb rfl) (mod_s hT.1) ml_RX9_203 imX9_readWork seX9_readWork rfl (leb rfl) (leb rfl) rfl rfl (fun ν2 hq9 => ?_)
          refine w_goto (tgt := 126) hX dX9_readLine_61 (by decide) ?_
          exact w_vret hX hE dX9_readLine_126 (Or.inl rfl) (by rw [pSen_9 (of_decide_eq_true c4)]; exact hq9)
      · refine w_aload_n (i := 0) hX dX9_readLine_42 rfl rfl ?_
        refine w_callVV (As := []) (rest := []) (ci := 9) (o := m) (k2 := 0) (n2 := 0) hX dX9_readLine_43 (s_m_way_s Γ μ m s n B M hT hS hB hN hP hkn) okX9_readWay (ltb rfl) (mod_s hT.1) ml_RX9_200 imX9_readWay seX9_readWay rfl (leb rfl) (leb rfl) rfl rfl (fun ν2 hq9 => ?_)
        refine w_goto (tgt := 126) hX dX9_readLine_46 (by decide) ?_
        exact w_vret hX hE dX9_readLine_126 (Or.inl rfl) (by rw [pSen_8 (of_decide_eq_true c3)]; exact hq9)
    · refine w_aload_n (i := 0) hX dX9_readLine_27 rfl rfl ?_
      refine w_callVV (As := []) (rest := []) (ci := 9) (o := m) (k2 := 0) (n2 := 0) hX dX9_readLine_28 (s_m_back Γ μ m s n B M hT hS hB hN hP hkn) okX9_readBack (ltb rfl) (mod_s hT.1) ml_RX9_197 imX9_readBack seX9_readBack rfl (leb rfl) (leb rfl) rfl rfl (fun ν2 hq9 => ?_)
      refine w_goto (tgt := 126) hX dX9_readLine_31 (by decide) ?_
      exact w_vret hX hE dX9_readLine_126 (Or.inl rfl) (by rw [pSen_6 (of_decide_eq_true c2)]; exact hq9)
  · refine w_aload_n (i := 0) hX dX9_readLine_8 rfl rfl ?_
    refine w_iconst hX dX9_readLine_9 kI_0 ?_
    refine w_iconst hX dX9_readLine_10 kI_3 ?_
    refine w_iconst hX dX9_readLine_11 kI_0 ?_
    refine w_callVI (As := [.int (nI 0), .int (nI 3), .int (nI 0)]) (rest := []) (ci := 9) (o := m) (k2 := 0) (n2 := 0) hX dX9_readLine_12 (s_m_new Γ μ m s hT n hS M hN hP.2.2.2.2 B hB hkn 0 3 0 (by omega) (by omega) (by omega) (by omega) (fun h => by omega)) okX9_readNew (ltb rfl) (mod_s hT.1) ml_RX9_193 imX9_readNew seX9_readNew rfl (leb rfl) (leb rfl) rfl rfl (fun r2 ν2 hq9 => ?_)
    rcases hq9 with ⟨p2, e2, hS_2, hB_2, hN_2, t2⟩ | ⟨f2, v2, p2, e2, b2, hF_2, t2⟩
    · rw [e2]
      have hT_2 := hT.sm t2 (fun o k h => by unfold SMm at h; omega)
      have hn_2 := (rch_le hT.2.2.2 _ hS_2.2.1).2
      have hs_2 := hs.tr t2
      refine w_pop hX dX9_readLine_15 rfl ?_
      refine w_goto (tgt := 126) hX dX9_readLine_16 (by decide) ?_
      exact w_vret hX hE dX9_readLine_126 (Or.inl rfl) (MX_r ((pSen_5 (of_decide_eq_true c1)).trans p2) hs_2 hS_2 hB_2 hN_2)
    · rw [e2]
      have hT_2 := hT.sm t2 (fun o k h => by unfold SMm at h; omega)
      obtain ⟨n9_2, hn9_2⟩ := hF_2.2.2
      have hf_2 := hF_2.2.1
      have hn_2 := (rch_le hT.2.2.2 _ hn9_2.1).2
      have hs_2 := hs.tr t2
      refine w_pop hX dX9_readLine_15 rfl ?_
      refine w_goto (tgt := 126) hX dX9_readLine_16 (by decide) ?_
      exact w_vret hX hE dX9_readLine_126 (Or.inl rfl) (MX_l ((pSen_5 (of_decide_eq_true c1)).trans p2) hs_2 hF_2)
