theorem sI_id {μ : Mem} {o k : Nat} {v : Int32} (h : gI μ o k = v) : sI μ o k v = μ := by
  obtain ⟨a, b, c, d⟩ := μ
  unfold sI
  have e : (fun a' b' => if a' = o ∧ b' = k then v else b a' b') = b := by
    funext a' b'
    by_cases c9 : a' = o ∧ b' = k
    · rw [if_pos c9, c9.1, c9.2]; exact h.symm
    · rw [if_neg c9]
  show (a, (fun a' b' => if a' = o ∧ b' = k then v else b a' b'), c, d) = (a, b, c, d)
  rw [e]
def MT (μ : Mem) (m : Nat) (s : Tp) : Prop := isMod μ m ∧ (∀ k, k < 18 → gL μ (m + 5) k = lN (phi (kw k))) ∧ (∀ j, rch s j → TOK μ m s j) ∧ okT s
theorem MT.sm {S : Nat → Nat → Prop} {μ ν : Mem} {m : Nat} {s : Tp} (h : MT μ m s) (hs : same S μ ν) (hS : ∀ o k, S o k → ¬ (m + 2 ≤ o ∧ o ≤ m + 5)) : MT ν m s :=
  ⟨hs.isMod h.1, fun k hk => by rw [(hs.2.2 _ _ (fun h9 => hS _ _ h9 ⟨by omega, by omega⟩)).2]; exact h.2.1 k hk, fun j hj => (h.2.2.1 j hj).sm hs (fun h9 => hS _ _ h9 ⟨by omega, by omega⟩) (fun h9 => hS _ _ h9 ⟨by omega, by omega⟩) (fun h9 => hS _ _ h9 ⟨by omega, by omega⟩), h.2.2.2⟩
def MSt (μ : Mem) (m : Nat) (s : Tp) (n : Nat) : Prop := gI μ m 7 = nI n ∧ rch s n ∧ gI μ m 8 = nI 0
def MFt (μ : Mem) (m : Nat) (s : Tp) (f : Nat) : Prop := gI μ m 8 = nI f ∧ (1 ≤ f ∧ f < 2 ^ 20) ∧ ∃ n, rch s n ∧ gI μ m 7 = nI n
def TKC (μ : Mem) (m : Nat) (s : Tp) (j z : Nat) : Prop := z = 3 → ∃ c, c ≤ 126 ∧ gL μ (m + 4) j = lN c ∧ (c = 59 ↔ kd s j = 2)
theorem TKC.get {μ : Mem} {m j z : Nat} {s : Tp} (h : TKC μ m s j z) (hz : z = 3) : ∃ c, c ≤ 126 ∧ gL μ (m + 4) j = lN c ∧ (c = 59 ↔ kd s j = 2) := h hz
def SA2 (m : Nat) : Nat → Nat → Prop := fun o k => o = m ∧ (k = 7 ∨ k = 8)
theorem MSt.sm {S : Nat → Nat → Prop} {μ ν : Mem} {m n : Nat} {s : Tp} (h : MSt μ m s n) (hs : same S μ ν) (h7 : ¬ S m 7) (h8 : ¬ S m 8) : MSt ν m s n := ⟨by rw [(hs.2.2 _ _ h7).1]; exact h.1, h.2.1, by rw [(hs.2.2 _ _ h8).1]; exact h.2.2⟩
theorem MFt.sm {S : Nat → Nat → Prop} {μ ν : Mem} {m f : Nat} {s : Tp} (h : MFt μ m s f) (hs : same S μ ν) (h7 : ¬ S m 7) (h8 : ¬ S m 8) : MFt ν m s f := by
  obtain ⟨a, b, n, c, d⟩ := h
  exact ⟨by rw [(hs.2.2 _ _ h8).1]; exact a, b, n, c, by rw [(hs.2.2 _ _ h7).1]; exact d⟩
theorem MSt.next {μ : Mem} {m n : Nat} {s : Tp} (h : MSt μ m s n) (hk : kd s n ≠ 0) : MSt (sI μ m 7 (nI (n + 1))) m s (n + 1) := ⟨gI_same, rch_S h.2.1 hk, by rw [gI_nk (by omega)]; exact h.2.2⟩
theorem MSt.bad {μ : Mem} {m n f : Nat} {s : Tp} (h : MSt μ m s n) (hf : 1 ≤ f ∧ f < 2 ^ 20) : MFt (sI μ m 8 (nI f)) m s f := ⟨gI_same, hf, n, h.2.1, by rw [gI_nk (by omega)]; exact h.1⟩
set_option maxHeartbeats 1000000 in
theorem s_m_wrong0 (Γ : Gm) (μ : Mem) (m : Nat) (s : Tp) (hT : MT μ m s) (n : Nat) (hS : MSt μ m s n) (w : Nat) : SpV Γ MX9_wrong 0 0 0 [.ref m, .int (nI w)] μ (fun μ2 => μ2 = sI μ m 8 (nI (ft s w n))) := by
  refine SpV.of okX9_wrong rfl [some (.ref m), some (.int (nI w))] ⟨rfl, rfl, trivial⟩ (leb rfl) (leb rfl) (fun X hX hE hnm => ?_)
  obtain ⟨z, hz, hz4, z0, z1, z2, z3, hpl, hwv, hvv, hcv0⟩ := hT.2.2.1 n hS.2.1
  have hcv : TKC μ m s n z := hcv0
  clear hcv0
  have hn := (rch_le hT.2.2.2 n hS.2.1).2
  have hk22 := kd_le (s := s) (n := n)
  have hplL := (pl_le (s := s) n).2
  have hL1 := hT.2.2.2.1
  refine w_aload_n (i := 0) hX dX9_wrong_0 rfl rfl ?_
  refine w_getI hX dX9_wrong_1 fo_RX9_154 rfl (mod_s hT.1) ?_
  refine w_top (y := nI 0) hS.2.2 ?_
  refine wn_if_ne (tgt := 25) hX dX9_wrong_4 (by decide) (by omega) (fun c1 => ?_) (fun c1 => ?_)
  · exact absurd c1 (by decide)
  · refine w_aload_n (i := 0) hX dX9_wrong_7 rfl rfl ?_
    refine w_iload_n (i := 1) hX dX9_wrong_8 rfl rfl ?_
    refine w_bipush hX dX9_wrong_9 kB_16 ?_
    refine w_aload_n (i := 0) hX dX9_wrong_11 rfl rfl ?_
    refine w_getR (q := m + 3) hX dX9_wrong_12 fo_RX9_27 rfl (mod_s hT.1) (mod_r5 hT.1) ?_
    refine w_aload_n (i := 0) hX dX9_wrong_15 rfl rfl ?_
    refine w_getI hX dX9_wrong_16 fo_RX9_151 rfl (mod_s hT.1) ?_
    refine w_top (y := nI n) hS.1 ?_
    refine w_ialdN hX dX9_wrong_19 (mod_a3 hT.1) (by omega) (by omega) ?_
    refine w_top (y := nI (pl s n)) hpl ?_
    refine w_imulN hX dX9_wrong_20 ?_
    refine w_iaddN hX dX9_wrong_21 ?_
    refine w_putI hX dX9_wrong_22 fo_RX9_154 rfl rfl rfl rfl (mod_s hT.1) ?_
    exact w_vret hX hE dX9_wrong_25 (Or.inl rfl) rfl
set_option maxHeartbeats 1000000 in
theorem s_m_wrongf (Γ : Gm) (μ : Mem) (m : Nat) (s : Tp) (hT : MT μ m s) (f : Nat) (hF : MFt μ m s f) (w : Nat) : SpV Γ MX9_wrong 0 0 0 [.ref m, .int (nI w)] μ (fun μ2 => μ2 = μ) := by
  refine SpV.of okX9_wrong rfl [some (.ref m), some (.int (nI w))] ⟨rfl, rfl, trivial⟩ (leb rfl) (leb rfl) (fun X hX hE hnm => ?_)
  obtain ⟨n9, hn9⟩ := hF.2.2; have hf9 := hF.2.1; have hn := (rch_le hT.2.2.2 n9 hn9.1).2
  refine w_aload_n (i := 0) hX dX9_wrong_0 rfl rfl ?_
  refine w_getI hX dX9_wrong_1 fo_RX9_154 rfl (mod_s hT.1) ?_
  refine w_top (y := nI f) hF.1 ?_
  refine wn_if_ne (tgt := 25) hX dX9_wrong_4 (by decide) (by omega) (fun c1 => ?_) (fun c1 => ?_)
  · exact w_vret hX hE dX9_wrong_25 (Or.inl rfl) rfl
  · exfalso; omega
set_option maxHeartbeats 1000000 in
theorem s_m_isSign0 (Γ : Gm) (μ : Mem) (m : Nat) (s : Tp) (hT : MT μ m s) (n : Nat) (hS : MSt μ m s n)  : SpI Γ MX9_isSign 0 0 0 [.ref m, .int (nI 59)] μ (fun r μ2 => r = bI (decide (kd s n = 2)) ∧ μ2 = μ) := by
  refine SpI.of okX9_isSign rfl [some (.ref m), some (.int (nI 59))] ⟨rfl, rfl, trivial⟩ (leb rfl) (leb rfl) (fun X hX hE hnm => ?_)
  obtain ⟨z, hz, hz4, z0, z1, z2, z3, hpl, hwv, hvv, hcv0⟩ := hT.2.2.1 n hS.2.1
  have hcv : TKC μ m s n z := hcv0
  clear hcv0
  have hn := (rch_le hT.2.2.2 n hS.2.1).2
  have hk22 := kd_le (s := s) (n := n)
  have hplL := (pl_le (s := s) n).2
  have hL1 := hT.2.2.2.1
  refine w_aload_n (i := 0) hX dX9_isSign_0 rfl rfl ?_
  refine w_getI hX dX9_isSign_1 fo_RX9_154 rfl (mod_s hT.1) ?_
  refine w_top (y := nI 0) hS.2.2 ?_
  refine wn_if_ne (tgt := 39) hX dX9_isSign_4 (by decide) (by omega) (fun c1 => ?_) (fun c1 => ?_)
  · exact absurd c1 (by decide)
  · refine w_aload_n (i := 0) hX dX9_isSign_7 rfl rfl ?_
    refine w_getR (q := m + 2) hX dX9_isSign_8 fo_RX9_24 rfl (mod_s hT.1) (mod_r4 hT.1) ?_
    refine w_aload_n (i := 0) hX dX9_isSign_11 rfl rfl ?_
    refine w_getI hX dX9_isSign_12 fo_RX9_151 rfl (mod_s hT.1) ?_
    refine w_top (y := nI n) hS.1 ?_
    refine w_ialdN hX dX9_isSign_15 (mod_a2 hT.1) (by omega) (by omega) ?_
    refine w_top (y := nI z) hz ?_
    refine w_iconst hX dX9_isSign_16 kI_3 ?_
    refine wn_icmp_ne (tgt := 39) hX dX9_isSign_17 (by decide) (by omega) (by omega) (fun c2 => ?_) (fun c2 => ?_)
    · refine w_iconst hX dX9_isSign_39 kI_0 ?_
      exact w_iret hX hE dX9_isSign_40 (Or.inl rfl) rfl ⟨bI_2 (decide_eq_false (fun e => by have := z3 e; omega)), rfl⟩
    · obtain ⟨c9, hc9⟩ := hcv.get (by omega)
      refine w_aload_n (i := 0) hX dX9_isSign_20 rfl rfl ?_
      refine w_getR (q := m + 4) hX dX9_isSign_21 fo_RX9_30 rfl (mod_s hT.1) (mod_r6 hT.1) ?_
      refine w_aload_n (i := 0) hX dX9_isSign_24 rfl rfl ?_
      refine w_getI hX dX9_isSign_25 fo_RX9_151 rfl (mod_s hT.1) ?_
      refine w_top (y := nI n) hS.1 ?_
      refine w_laldN hX dX9_isSign_28 (mod_a4 hT.1) (by omega) (by omega) ?_
      refine w_topL (y := lN c9) hc9.2.1 ?_
      refine w_iload_n (i := 1) hX dX9_isSign_29 rfl rfl ?_
      refine w_i2l hX dX9_isSign_30 ?_
      refine w_topL (y := lN 59) (nI_lN (by omega)) ?_
      refine w_lcmp hX dX9_isSign_31 ?_
      refine wc_if_ne (tgt := 39) hX dX9_isSign_32 (by decide) (fun c3 => ?_) (fun c3 => ?_)
      · refine w_iconst hX dX9_isSign_39 kI_0 ?_
        exact w_iret hX hE dX9_isSign_40 (Or.inl rfl) rfl ⟨bI_2 (decide_eq_false (fun e => c3 ((cmp0 (by omega) (by omega)).mpr (hc9.2.2.mpr e)))), rfl⟩
      · refine w_iconst hX dX9_isSign_35 kI_1 ?_
        refine w_goto (tgt := 40) hX dX9_isSign_36 (by decide) ?_
        exact w_iret hX hE dX9_isSign_40 (Or.inl rfl) rfl ⟨bI_1 (decide_eq_true (hc9.2.2.mp ((cmp0 (by omega) (by omega)).mp c3))), rfl⟩
set_option maxHeartbeats 1000000 in
theorem s_m_isSignf (Γ : Gm) (μ : Mem) (m : Nat) (s : Tp) (hT : MT μ m s) (f : Nat) (hF : MFt μ m s f)  : SpI Γ MX9_isSign 0 0 0 [.ref m, .int (nI 59)] μ (fun r μ2 => r = bI false ∧ μ2 = μ) := by
  refine SpI.of okX9_isSign rfl [some (.ref m), some (.int (nI 59))] ⟨rfl, rfl, trivial⟩ (leb rfl) (leb rfl) (fun X hX hE hnm => ?_)
  obtain ⟨n9, hn9⟩ := hF.2.2; have hf9 := hF.2.1; have hn := (rch_le hT.2.2.2 n9 hn9.1).2
  refine w_aload_n (i := 0) hX dX9_isSign_0 rfl rfl ?_
  refine w_getI hX dX9_isSign_1 fo_RX9_154 rfl (mod_s hT.1) ?_
  refine w_top (y := nI f) hF.1 ?_
  refine wn_if_ne (tgt := 39) hX dX9_isSign_4 (by decide) (by omega) (fun c1 => ?_) (fun c1 => ?_)
  · refine w_iconst hX dX9_isSign_39 kI_0 ?_
    exact w_iret hX hE dX9_isSign_40 (Or.inl rfl) rfl ⟨rfl, rfl⟩
  · exfalso; omega
theorem kd_kw {s : Tp} {n w : Nat} (hw : w < 18) (h4 : 4 ≤ kd s n) : phi (wd s n) = phi (kw w) ↔ kd s n = 5 + w := by
  rw [phi_inj (wd_lt h4) (kw_lt w hw), ← kwd_iff hw, (kd4 h4).2.2.2]
set_option maxHeartbeats 1000000 in
theorem s_m_isWord0 (Γ : Gm) (μ : Mem) (m : Nat) (s : Tp) (hT : MT μ m s) (n : Nat) (hS : MSt μ m s n) (w : Nat) (hw : w < 18) : SpI Γ MX9_isWord 0 0 0 [.ref m, .int (nI w)] μ (fun r μ2 => r = bI (decide (kd s n = 5 + w)) ∧ μ2 = μ) := by
  refine SpI.of okX9_isWord rfl [some (.ref m), some (.int (nI w))] ⟨rfl, rfl, trivial⟩ (leb rfl) (leb rfl) (fun X hX hE hnm => ?_)
  obtain ⟨z, hz, hz4, z0, z1, z2, z3, hpl, hwv, hvv, hcv0⟩ := hT.2.2.1 n hS.2.1
  have hcv : TKC μ m s n z := hcv0
  clear hcv0
  have hn := (rch_le hT.2.2.2 n hS.2.1).2
  have hk22 := kd_le (s := s) (n := n)
  have hplL := (pl_le (s := s) n).2
  have hL1 := hT.2.2.2.1
  refine w_aload_n (i := 0) hX dX9_isWord_0 rfl rfl ?_
  refine w_getI hX dX9_isWord_1 fo_RX9_154 rfl (mod_s hT.1) ?_
  refine w_top (y := nI 0) hS.2.2 ?_
  refine wn_if_ne (tgt := 43) hX dX9_isWord_4 (by decide) (by omega) (fun c1 => ?_) (fun c1 => ?_)
  · exact absurd c1 (by decide)
  · refine w_aload_n (i := 0) hX dX9_isWord_7 rfl rfl ?_
    refine w_getR (q := m + 2) hX dX9_isWord_8 fo_RX9_24 rfl (mod_s hT.1) (mod_r4 hT.1) ?_
    refine w_aload_n (i := 0) hX dX9_isWord_11 rfl rfl ?_
    refine w_getI hX dX9_isWord_12 fo_RX9_151 rfl (mod_s hT.1) ?_
    refine w_top (y := nI n) hS.1 ?_
    refine w_ialdN hX dX9_isWord_15 (mod_a2 hT.1) (by omega) (by omega) ?_
    refine w_top (y := nI z) hz ?_
    refine w_iconst hX dX9_isWord_16 kI_1 ?_
    refine wn_icmp_ne (tgt := 43) hX dX9_isWord_17 (by decide) (by omega) (by omega) (fun c2 => ?_) (fun c2 => ?_)
    · refine w_iconst hX dX9_isWord_43 kI_0 ?_
      exact w_iret hX hE dX9_isWord_44 (Or.inl rfl) rfl ⟨bI_2 (decide_eq_false (by omega)), rfl⟩
    · refine w_aload_n (i := 0) hX dX9_isWord_20 rfl rfl ?_
      refine w_getR (q := m + 4) hX dX9_isWord_21 fo_RX9_30 rfl (mod_s hT.1) (mod_r6 hT.1) ?_
      refine w_aload_n (i := 0) hX dX9_isWord_24 rfl rfl ?_
      refine w_getI hX dX9_isWord_25 fo_RX9_151 rfl (mod_s hT.1) ?_
      refine w_top (y := nI n) hS.1 ?_
      refine w_laldN hX dX9_isWord_28 (mod_a4 hT.1) (by omega) (by omega) ?_
      refine w_topL (y := lN (phi (wd s n))) (hwv (by omega)) ?_
      refine w_aload_n (i := 0) hX dX9_isWord_29 rfl rfl ?_
      refine w_getR (q := m + 5) hX dX9_isWord_30 fo_RX9_70 rfl (mod_s hT.1) (mod_r9 hT.1) ?_
      refine w_iload_n (i := 1) hX dX9_isWord_33 rfl rfl ?_
      refine w_laldN hX dX9_isWord_34 (mod_a5 hT.1) (by omega) (by omega) ?_
      refine w_topL (y := lN (phi (kw w))) (hT.2.1 w hw) ?_
      refine w_lcmp hX dX9_isWord_35 ?_
      refine wc_if_ne (tgt := 43) hX dX9_isWord_36 (by decide) (fun c3 => ?_) (fun c3 => ?_)
      · refine w_iconst hX dX9_isWord_43 kI_0 ?_
        exact w_iret hX hE dX9_isWord_44 (Or.inl rfl) rfl ⟨bI_2 (decide_eq_false (fun e => c3 ((cmp0 (by have := phi_lt (v := wd s n); omega) (by have := phi_lt (v := kw w); omega)).mpr ((kd_kw hw (by omega)).mpr e)))), rfl⟩
      · refine w_iconst hX dX9_isWord_39 kI_1 ?_
        refine w_goto (tgt := 44) hX dX9_isWord_40 (by decide) ?_
        exact w_iret hX hE dX9_isWord_44 (Or.inl rfl) rfl ⟨bI_1 (decide_eq_true ((kd_kw hw (by omega)).mp ((cmp0 (by have := phi_lt (v := wd s n); omega) (by have := phi_lt (v := kw w); omega)).mp c3))), rfl⟩
set_option maxHeartbeats 1000000 in
theorem s_m_isWordf (Γ : Gm) (μ : Mem) (m : Nat) (s : Tp) (hT : MT μ m s) (f : Nat) (hF : MFt μ m s f) (w : Nat) : SpI Γ MX9_isWord 0 0 0 [.ref m, .int (nI w)] μ (fun r μ2 => r = bI false ∧ μ2 = μ) := by
  refine SpI.of okX9_isWord rfl [some (.ref m), some (.int (nI w))] ⟨rfl, rfl, trivial⟩ (leb rfl) (leb rfl) (fun X hX hE hnm => ?_)
  obtain ⟨n9, hn9⟩ := hF.2.2; have hf9 := hF.2.1; have hn := (rch_le hT.2.2.2 n9 hn9.1).2
  refine w_aload_n (i := 0) hX dX9_isWord_0 rfl rfl ?_
  refine w_getI hX dX9_isWord_1 fo_RX9_154 rfl (mod_s hT.1) ?_
  refine w_top (y := nI f) hF.1 ?_
  refine wn_if_ne (tgt := 43) hX dX9_isWord_4 (by decide) (by omega) (fun c1 => ?_) (fun c1 => ?_)
  · refine w_iconst hX dX9_isWord_43 kI_0 ?_
    exact w_iret hX hE dX9_isWord_44 (Or.inl rfl) rfl ⟨rfl, rfl⟩
  · exfalso; omega
set_option maxHeartbeats 1000000 in
theorem s_m_takeSign0 (Γ : Gm) (μ : Mem) (m : Nat) (s : Tp) (hT : MT μ m s) (n : Nat) (hS : MSt μ m s n)  : SpV Γ MX9_takeSign 1 0 0 [.ref m, .int (nI 59)] μ (fun μ2 => (kd s n = 2 ∧ μ2 = sI μ m 7 (nI (n + 1))) ∨ (kd s n ≠ 2 ∧ μ2 = sI μ m 8 (nI (ft s 1 n)))) := by
  refine SpV.of okX9_takeSign rfl [some (.ref m), some (.int (nI 59))] ⟨rfl, rfl, trivial⟩ (leb rfl) (leb rfl) (fun X hX hE hnm => ?_)
  obtain ⟨z, hz, hz4, z0, z1, z2, z3, hpl, hwv, hvv, hcv0⟩ := hT.2.2.1 n hS.2.1
  have hcv : TKC μ m s n z := hcv0
  clear hcv0
  have hn := (rch_le hT.2.2.2 n hS.2.1).2
  have hk22 := kd_le (s := s) (n := n)
  have hplL := (pl_le (s := s) n).2
  have hL1 := hT.2.2.2.1
  refine w_aload_n (i := 0) hX dX9_takeSign_0 rfl rfl ?_
  refine w_iload_n (i := 1) hX dX9_takeSign_1 rfl rfl ?_
  refine w_callVI (As := [.int (nI 59)]) (rest := []) (ci := 9) (o := m) (k2 := 0) (n2 := 0) hX dX9_takeSign_2 (s_m_isSign0 Γ μ m s hT n hS) okX9_isSign (ltb rfl) (mod_s hT.1) ml_RX9_157 imX9_isSign seX9_isSign rfl (leb rfl) (leb rfl) rfl rfl (fun r9 μ9 hq9 => ?_)
  obtain ⟨hr9, hm9⟩ := hq9; rw [hr9, hm9]; clear hr9 hm9 r9 μ9
  refine wb_eq (tgt := 21) hX dX9_takeSign_5 (by decide) (fun hk => ?_) (fun hk => ?_)
  · refine w_aload_n (i := 0) hX dX9_takeSign_21 rfl rfl ?_
    refine w_iconst hX dX9_takeSign_22 kI_1 ?_
    refine w_callVV (As := [.int (nI 1)]) (rest := []) (ci := 9) (o := m) (k2 := 0) (n2 := 0) hX dX9_takeSign_23 (s_m_wrong0 Γ μ m s hT n hS 1) okX9_wrong (ltb rfl) (mod_s hT.1) ml_RX9_160 imX9_wrong seX9_wrong rfl (leb rfl) (leb rfl) rfl rfl (fun μ9 hq9 => ?_)
    rw [hq9]; clear hq9 μ9
    exact w_vret hX hE dX9_takeSign_26 (Or.inl rfl) (Or.inr ⟨of_decide_eq_false hk, rfl⟩)
  · refine w_aload_n (i := 0) hX dX9_takeSign_8 rfl rfl ?_
    refine w_dup hX dX9_takeSign_9 rfl ?_
    refine w_getI hX dX9_takeSign_10 fo_RX9_151 rfl (mod_s hT.1) ?_
    refine w_top (y := nI n) hS.1 ?_
    refine w_iconst hX dX9_takeSign_13 kI_1 ?_
    refine w_iaddN hX dX9_takeSign_14 ?_
    refine w_putI hX dX9_takeSign_15 fo_RX9_151 rfl rfl rfl rfl (mod_s hT.1) ?_
    refine w_goto (tgt := 26) hX dX9_takeSign_18 (by decide) ?_
    exact w_vret hX hE dX9_takeSign_26 (Or.inl rfl) (Or.inl ⟨of_decide_eq_true hk, rfl⟩)
set_option maxHeartbeats 1000000 in
theorem s_m_takeSignf (Γ : Gm) (μ : Mem) (m : Nat) (s : Tp) (hT : MT μ m s) (f : Nat) (hF : MFt μ m s f)  : SpV Γ MX9_takeSign 1 0 0 [.ref m, .int (nI 59)] μ (fun μ2 => μ2 = μ) := by
  refine SpV.of okX9_takeSign rfl [some (.ref m), some (.int (nI 59))] ⟨rfl, rfl, trivial⟩ (leb rfl) (leb rfl) (fun X hX hE hnm => ?_)
  obtain ⟨n9, hn9⟩ := hF.2.2; have hf9 := hF.2.1; have hn := (rch_le hT.2.2.2 n9 hn9.1).2
  refine w_aload_n (i := 0) hX dX9_takeSign_0 rfl rfl ?_
  refine w_iload_n (i := 1) hX dX9_takeSign_1 rfl rfl ?_
  refine w_callVI (As := [.int (nI 59)]) (rest := []) (ci := 9) (o := m) (k2 := 0) (n2 := 0) hX dX9_takeSign_2 (s_m_isSignf Γ μ m s hT f hF) okX9_isSign (ltb rfl) (mod_s hT.1) ml_RX9_157 imX9_isSign seX9_isSign rfl (leb rfl) (leb rfl) rfl rfl (fun r9 μ9 hq9 => ?_)
  obtain ⟨hr9, hm9⟩ := hq9; rw [hr9, hm9]; clear hr9 hm9 r9 μ9
  refine wb_eq (tgt := 21) hX dX9_takeSign_5 (by decide) (fun c1 => ?_) (fun c1 => ?_)
  · refine w_aload_n (i := 0) hX dX9_takeSign_21 rfl rfl ?_
    refine w_iconst hX dX9_takeSign_22 kI_1 ?_
    refine w_callVV (As := [.int (nI 1)]) (rest := []) (ci := 9) (o := m) (k2 := 0) (n2 := 0) hX dX9_takeSign_23 (s_m_wrongf Γ μ m s hT f hF 1) okX9_wrong (ltb rfl) (mod_s hT.1) ml_RX9_160 imX9_wrong seX9_wrong rfl (leb rfl) (leb rfl) rfl rfl (fun μ9 hq9 => ?_)
    rw [hq9]; clear hq9 μ9
    exact w_vret hX hE dX9_takeSign_26 (Or.inl rfl) rfl
  · exact absurd ((Eq.refl false).symm.trans c1) (by decide)
set_option maxHeartbeats 1000000 in
theorem s_m_hasWord0 (Γ : Gm) (μ : Mem) (m : Nat) (s : Tp) (hT : MT μ m s) (n : Nat) (hS : MSt μ m s n) (w : Nat) (hw : w < 18) : SpI Γ MX9_hasWord 1 0 0 [.ref m, .int (nI w)] μ (fun r μ2 => (kd s n = 5 + w ∧ r = bI true ∧ μ2 = sI μ m 7 (nI (n + 1))) ∨ (kd s n ≠ 5 + w ∧ r = bI false ∧ μ2 = μ)) := by
  refine SpI.of okX9_hasWord rfl [some (.ref m), some (.int (nI w)), none] ⟨rfl, rfl, trivial⟩ (leb rfl) (leb rfl) (fun X hX hE hnm => ?_)
  obtain ⟨z, hz, hz4, z0, z1, z2, z3, hpl, hwv, hvv, hcv0⟩ := hT.2.2.1 n hS.2.1
  have hcv : TKC μ m s n z := hcv0
  clear hcv0
  have hn := (rch_le hT.2.2.2 n hS.2.1).2
  have hk22 := kd_le (s := s) (n := n)
  have hplL := (pl_le (s := s) n).2
  have hL1 := hT.2.2.2.1
  refine w_aload_n (i := 0) hX dX9_hasWord_0 rfl rfl ?_
  refine w_iload_n (i := 1) hX dX9_hasWord_1 rfl rfl ?_
  refine w_callVI (As := [.int (nI w)]) (rest := []) (ci := 9) (o := m) (k2 := 0) (n2 := 0) hX dX9_hasWord_2 (s_m_isWord0 Γ μ m s hT n hS w hw) okX9_isWord (ltb rfl) (mod_s hT.1) ml_RX9_164 imX9_isWord seX9_isWord rfl (leb rfl) (leb rfl) rfl rfl (fun r9 μ9 hq9 => ?_)
  obtain ⟨hr9, hm9⟩ := hq9; rw [hr9, hm9]; clear hr9 hm9 r9 μ9
  refine w_istore_n (i := 2) (l2 := [some (.ref m), some (.int (nI w)), some (.int (bI (decide (kd s n = 5 + w))))]) hX dX9_hasWord_5 rfl (ltb rfl) rfl rfl ?_
  refine w_aload_n (i := 0) hX dX9_hasWord_6 rfl rfl ?_
  refine w_dup hX dX9_hasWord_7 rfl ?_
  refine w_getI hX dX9_hasWord_8 fo_RX9_151 rfl (mod_s hT.1) ?_
  refine w_top (y := nI n) hS.1 ?_
  refine w_iload_n (i := 2) hX dX9_hasWord_11 rfl rfl ?_
  refine wb_eq (tgt := 19) hX dX9_hasWord_12 (by decide) (fun hk => ?_) (fun hk => ?_)
  · refine w_iconst hX dX9_hasWord_19 kI_0 ?_
    refine w_iaddN hX dX9_hasWord_20 ?_
    refine w_putI hX dX9_hasWord_21 fo_RX9_151 rfl rfl rfl rfl (mod_s hT.1) ?_
    refine w_iload_n (i := 2) hX dX9_hasWord_24 rfl rfl ?_
    exact w_iret hX hE dX9_hasWord_25 (Or.inl rfl) (bI_nar _) (Or.inr ⟨of_decide_eq_false hk, by rw [hk], sI_id (by rw [Nat.add_zero]; exact hS.1)⟩)
  · refine w_iconst hX dX9_hasWord_15 kI_1 ?_
    refine w_goto (tgt := 20) hX dX9_hasWord_16 (by decide) ?_
    refine w_iaddN hX dX9_hasWord_20 ?_
    refine w_putI hX dX9_hasWord_21 fo_RX9_151 rfl rfl rfl rfl (mod_s hT.1) ?_
    refine w_iload_n (i := 2) hX dX9_hasWord_24 rfl rfl ?_
    exact w_iret hX hE dX9_hasWord_25 (Or.inl rfl) (bI_nar _) (Or.inl ⟨of_decide_eq_true hk, by rw [hk], rfl⟩)
set_option maxHeartbeats 1000000 in
theorem s_m_hasWordf (Γ : Gm) (μ : Mem) (m : Nat) (s : Tp) (hT : MT μ m s) (f : Nat) (hF : MFt μ m s f) (w : Nat) : SpI Γ MX9_hasWord 1 0 0 [.ref m, .int (nI w)] μ (fun r μ2 => r = bI false ∧ μ2 = μ) := by
  refine SpI.of okX9_hasWord rfl [some (.ref m), some (.int (nI w)), none] ⟨rfl, rfl, trivial⟩ (leb rfl) (leb rfl) (fun X hX hE hnm => ?_)
  obtain ⟨n9, hn9⟩ := hF.2.2; have hf9 := hF.2.1; have hn := (rch_le hT.2.2.2 n9 hn9.1).2
  refine w_aload_n (i := 0) hX dX9_hasWord_0 rfl rfl ?_
  refine w_iload_n (i := 1) hX dX9_hasWord_1 rfl rfl ?_
  refine w_callVI (As := [.int (nI w)]) (rest := []) (ci := 9) (o := m) (k2 := 0) (n2 := 0) hX dX9_hasWord_2 (s_m_isWordf Γ μ m s hT f hF w) okX9_isWord (ltb rfl) (mod_s hT.1) ml_RX9_164 imX9_isWord seX9_isWord rfl (leb rfl) (leb rfl) rfl rfl (fun r9 μ9 hq9 => ?_)
  obtain ⟨hr9, hm9⟩ := hq9; rw [hr9, hm9]; clear hr9 hm9 r9 μ9
  refine w_istore_n (i := 2) (l2 := [some (.ref m), some (.int (nI w)), some (.int (bI false))]) hX dX9_hasWord_5 rfl (ltb rfl) rfl rfl ?_
  refine w_aload_n (i := 0) hX dX9_hasWord_6 rfl rfl ?_
  refine w_dup hX dX9_hasWord_7 rfl ?_
  refine w_getI hX dX9_hasWord_8 fo_RX9_151 rfl (mod_s hT.1) ?_
  refine w_top (y := nI n9) hn9.2 ?_
  refine w_iload_n (i := 2) hX dX9_hasWord_11 rfl rfl ?_
  refine wb_eq (tgt := 19) hX dX9_hasWord_12 (by decide) (fun c1 => ?_) (fun c1 => ?_)
  · refine w_iconst hX dX9_hasWord_19 kI_0 ?_
    refine w_iaddN hX dX9_hasWord_20 ?_
    refine w_putI hX dX9_hasWord_21 fo_RX9_151 rfl rfl rfl rfl (mod_s hT.1) ?_
    refine w_iload_n (i := 2) hX dX9_hasWord_24 rfl rfl ?_
    exact w_iret hX hE dX9_hasWord_25 (Or.inl rfl) (bI_nar _) ⟨rfl, sI_id (by rw [Nat.add_zero]; exact hn9.2)⟩
  · exact absurd ((Eq.refl false).symm.trans c1) (by decide)
set_option maxHeartbeats 1000000 in
theorem s_m_takeWord0 (Γ : Gm) (μ : Mem) (m : Nat) (s : Tp) (hT : MT μ m s) (n : Nat) (hS : MSt μ m s n) (w : Nat) (hw : w < 18) : SpV Γ MX9_takeWord 2 0 0 [.ref m, .int (nI w)] μ (fun μ2 => (kd s n = 5 + w ∧ μ2 = sI μ m 7 (nI (n + 1))) ∨ (kd s n ≠ 5 + w ∧ μ2 = sI μ m 8 (nI (ft s 1 n)))) := by
  refine SpV.of okX9_takeWord rfl [some (.ref m), some (.int (nI w))] ⟨rfl, rfl, trivial⟩ (leb rfl) (leb rfl) (fun X hX hE hnm => ?_)
  obtain ⟨z, hz, hz4, z0, z1, z2, z3, hpl, hwv, hvv, hcv0⟩ := hT.2.2.1 n hS.2.1
  have hcv : TKC μ m s n z := hcv0
  clear hcv0
  have hn := (rch_le hT.2.2.2 n hS.2.1).2
  have hk22 := kd_le (s := s) (n := n)
  have hplL := (pl_le (s := s) n).2
  have hL1 := hT.2.2.2.1
  refine w_aload_n (i := 0) hX dX9_takeWord_0 rfl rfl ?_
  refine w_iload_n (i := 1) hX dX9_takeWord_1 rfl rfl ?_
  refine w_callVI (As := [.int (nI w)]) (rest := []) (ci := 9) (o := m) (k2 := 0) (n2 := 0) hX dX9_takeWord_2 (s_m_hasWord0 Γ μ m s hT n hS w hw) okX9_hasWord (ltb rfl) (mod_s hT.1) ml_RX9_167 imX9_hasWord seX9_hasWord rfl (leb rfl) (leb rfl) rfl rfl (fun r5 ν5 hq9 => ?_)
  rcases hq9 with ⟨hk, hr5, hm5⟩ | ⟨hk, hr5, hm5⟩
  · rw [hr5, hm5, show bI true = nI 1 from rfl]
    refine wn_if_ne (tgt := 13) hX dX9_takeWord_5 (by decide) (by omega) (fun c1 => ?_) (fun c1 => ?_)
    · exact w_vret hX hE dX9_takeWord_13 (Or.inl rfl) (Or.inl ⟨hk, rfl⟩)
    · exact absurd c1 (by decide)
  · rw [hr5, hm5, show bI false = nI 0 from rfl]
    refine wn_if_ne (tgt := 13) hX dX9_takeWord_5 (by decide) (by omega) (fun c2 => ?_) (fun c2 => ?_)
    · exact absurd c2 (by decide)
    · refine w_aload_n (i := 0) hX dX9_takeWord_8 rfl rfl ?_
      refine w_iconst hX dX9_takeWord_9 kI_1 ?_
      refine w_callVV (As := [.int (nI 1)]) (rest := []) (ci := 9) (o := m) (k2 := 0) (n2 := 0) hX dX9_takeWord_10 (s_m_wrong0 Γ μ m s hT n hS 1) okX9_wrong (ltb rfl) (mod_s hT.1) ml_RX9_160 imX9_wrong seX9_wrong rfl (leb rfl) (leb rfl) rfl rfl (fun μ9 hq9 => ?_)
      rw [hq9]; clear hq9 μ9
      exact w_vret hX hE dX9_takeWord_13 (Or.inl rfl) (Or.inr ⟨hk, rfl⟩)
set_option maxHeartbeats 1000000 in
theorem s_m_takeWordf (Γ : Gm) (μ : Mem) (m : Nat) (s : Tp) (hT : MT μ m s) (f : Nat) (hF : MFt μ m s f) (w : Nat) : SpV Γ MX9_takeWord 2 0 0 [.ref m, .int (nI w)] μ (fun μ2 => μ2 = μ) := by
  refine SpV.of okX9_takeWord rfl [some (.ref m), some (.int (nI w))] ⟨rfl, rfl, trivial⟩ (leb rfl) (leb rfl) (fun X hX hE hnm => ?_)
  obtain ⟨n9, hn9⟩ := hF.2.2; have hf9 := hF.2.1; have hn := (rch_le hT.2.2.2 n9 hn9.1).2
  refine w_aload_n (i := 0) hX dX9_takeWord_0 rfl rfl ?_
  refine w_iload_n (i := 1) hX dX9_takeWord_1 rfl rfl ?_
  refine w_callVI (As := [.int (nI w)]) (rest := []) (ci := 9) (o := m) (k2 := 0) (n2 := 0) hX dX9_takeWord_2 (s_m_hasWordf Γ μ m s hT f hF w) okX9_hasWord (ltb rfl) (mod_s hT.1) ml_RX9_167 imX9_hasWord seX9_hasWord rfl (leb rfl) (leb rfl) rfl rfl (fun r9 μ9 hq9 => ?_)
  obtain ⟨hr9, hm9⟩ := hq9; rw [hr9, hm9]; clear hr9 hm9 r9 μ9
  refine wb_ne (tgt := 13) hX dX9_takeWord_5 (by decide) (fun c1 => ?_) (fun c1 => ?_)
  · exact absurd ((Eq.refl false).symm.trans c1) (by decide)
  · refine w_aload_n (i := 0) hX dX9_takeWord_8 rfl rfl ?_
    refine w_iconst hX dX9_takeWord_9 kI_1 ?_
    refine w_callVV (As := [.int (nI 1)]) (rest := []) (ci := 9) (o := m) (k2 := 0) (n2 := 0) hX dX9_takeWord_10 (s_m_wrongf Γ μ m s hT f hF 1) okX9_wrong (ltb rfl) (mod_s hT.1) ml_RX9_160 imX9_wrong seX9_wrong rfl (leb rfl) (leb rfl) rfl rfl (fun μ9 hq9 => ?_)
    rw [hq9]; clear hq9 μ9
    exact w_vret hX hE dX9_takeWord_13 (Or.inl rfl) rfl
theorem cmp_lt {a b : Nat} (ha : a < 2 ^ 31) (hb : b < 2 ^ 31) : (lg_cmp (lN a) (lN b) < nI 0 ↔ a < b) ∧ (lg_cmp (lN a) (lN b) ≤ nI 0 ↔ a ≤ b) := by
  have e1 := lN_ti (m := a) (by omega)
  have e2 := lN_ti (m := b) (by omega)
  rw [if_pos (by omega)] at e1 e2
  unfold lg_cmp
  by_cases c : lN a > lN b
  · rw [if_pos c]
    have h := Int64.lt_iff_toInt_lt.mp c
    exact ⟨⟨fun h => absurd h (by decide), fun h9 => by omega⟩, ⟨fun h => absurd h (by decide), fun h9 => by omega⟩⟩
  · rw [if_neg c]
    by_cases c2 : lN a = lN b
    · rw [if_pos c2]
      have : (lN a).toInt = (lN b).toInt := by rw [c2]
      exact ⟨⟨fun h => absurd h (by decide), fun h9 => by omega⟩, ⟨fun _ => by omega, fun _ => by decide⟩⟩
    · rw [if_neg c2]
      have h1 : ¬ (lN b).toInt < (lN a).toInt := fun h => c (Int64.lt_iff_toInt_lt.mpr h)
      have h2 : (lN a).toInt ≠ (lN b).toInt := fun h => c2 (Int64.toInt_inj.mp h)
      exact ⟨⟨fun _ => by omega, fun _ => by decide⟩, ⟨fun _ => by omega, fun _ => by decide⟩⟩
set_option maxHeartbeats 1000000 in
theorem s_m_takeN0 (Γ : Gm) (μ : Mem) (m : Nat) (s : Tp) (hT : MT μ m s) (n : Nat) (hS : MSt μ m s n) (lo hi : Nat) (hlo : lo < 2 ^ 30) (hhi : hi < 2 ^ 30) : SpI Γ MX9_takeNumber 1 0 0 [.ref m, .int (nI lo), .int (nI hi)] μ (fun r μ2 => (pNb s n lo hi = .inr (vl s n) ∧ r = nI (vl s n) ∧ μ2 = sI μ m 7 (nI (n + 1))) ∨ (∃ f, pNb s n lo hi = .inl f ∧ r = nI 0 ∧ μ2 = sI μ m 8 (nI f))) := by
  refine SpI.of okX9_takeNumber rfl [some (.ref m), some (.int (nI lo)), some (.int (nI hi))] ⟨rfl, rfl, rfl, trivial⟩ (leb rfl) (leb rfl) (fun X hX hE hnm => ?_)
  obtain ⟨z, hz, hz4, z0, z1, z2, z3, hpl, hwv, hvv, hcv0⟩ := hT.2.2.1 n hS.2.1
  have hcv : TKC μ m s n z := hcv0
  clear hcv0
  have hn := (rch_le hT.2.2.2 n hS.2.1).2
  have hk22 := kd_le (s := s) (n := n)
  have hplL := (pl_le (s := s) n).2
  have hL1 := hT.2.2.2.1
  have hft1 := ft_lt (w := 1) (n := n) hT.2.2.2 (by omega) (by omega)
  have hft4 := ft_lt (w := 4) (n := n) hT.2.2.2 (by omega) (by omega)
  refine w_aload_n (i := 0) hX dX9_takeNumber_0 rfl rfl ?_
  refine w_getI hX dX9_takeNumber_1 fo_RX9_154 rfl (mod_s hT.1) ?_
  refine w_top (y := nI 0) hS.2.2 ?_
  refine wn_if_ne (tgt := 28) hX dX9_takeNumber_4 (by decide) (by omega) (fun c1 => ?_) (fun c1 => ?_)
  · exact absurd c1 (by decide)
  · refine w_aload_n (i := 0) hX dX9_takeNumber_7 rfl rfl ?_
    refine w_getR (q := m + 2) hX dX9_takeNumber_8 fo_RX9_24 rfl (mod_s hT.1) (mod_r4 hT.1) ?_
    refine w_aload_n (i := 0) hX dX9_takeNumber_11 rfl rfl ?_
    refine w_getI hX dX9_takeNumber_12 fo_RX9_151 rfl (mod_s hT.1) ?_
    refine w_top (y := nI n) hS.1 ?_
    refine w_ialdN hX dX9_takeNumber_15 (mod_a2 hT.1) (by omega) (by omega) ?_
    refine w_top (y := nI z) hz ?_
    refine w_iconst hX dX9_takeNumber_16 kI_2 ?_
    refine wn_icmp_eq (tgt := 28) hX dX9_takeNumber_17 (by decide) (by omega) (by omega) (fun c2 => ?_) (fun c2 => ?_)
    · refine w_aload_n (i := 0) hX dX9_takeNumber_28 rfl rfl ?_
      refine w_getI hX dX9_takeNumber_29 fo_RX9_154 rfl (mod_s hT.1) ?_
      refine w_top (y := nI 0) hS.2.2 ?_
      refine wn_if_ne (tgt := 70) hX dX9_takeNumber_32 (by decide) (by omega) (fun c3 => ?_) (fun c3 => ?_)
      · exact absurd c3 (by decide)
      · have hv4 := vl_lt (s := s) (n := n) (by omega)
        refine w_aload_n (i := 0) hX dX9_takeNumber_35 rfl rfl ?_
        refine w_getR (q := m + 4) hX dX9_takeNumber_36 fo_RX9_30 rfl (mod_s hT.1) (mod_r6 hT.1) ?_
        refine w_aload_n (i := 0) hX dX9_takeNumber_39 rfl rfl ?_
        refine w_getI hX dX9_takeNumber_40 fo_RX9_151 rfl (mod_s hT.1) ?_
        refine w_top (y := nI n) hS.1 ?_
        refine w_laldN hX dX9_takeNumber_43 (mod_a4 hT.1) (by omega) (by omega) ?_
        refine w_topL (y := lN (vl s n)) (hvv (by omega)) ?_
        refine w_iload_n (i := 1) hX dX9_takeNumber_44 rfl rfl ?_
        refine w_i2l hX dX9_takeNumber_45 ?_
        refine w_topL (y := lN lo) (nI_lN (by omega)) ?_
        refine w_lcmp hX dX9_takeNumber_46 ?_
        refine wc_if_lt (tgt := 65) hX dX9_takeNumber_47 (by decide) (fun c4 => ?_) (fun c4 => ?_)
        · refine w_aload_n (i := 0) hX dX9_takeNumber_65 rfl rfl ?_
          refine w_iconst hX dX9_takeNumber_66 kI_4 ?_
          refine w_callVV (As := [.int (nI 4)]) (rest := []) (ci := 9) (o := m) (k2 := 0) (n2 := 0) hX dX9_takeNumber_67 (s_m_wrong0 Γ μ m s hT n hS 4) okX9_wrong (ltb rfl) (mod_s hT.1) ml_RX9_160 imX9_wrong seX9_wrong rfl (leb rfl) (leb rfl) rfl rfl (fun μ9 hq9 => ?_)
          rw [hq9]; clear hq9 μ9
          refine w_aload_n (i := 0) hX dX9_takeNumber_70 rfl rfl ?_
          refine w_getI hX dX9_takeNumber_71 fo_RX9_154 rfl (mod_s hT.1) ?_
          refine w_top (y := nI ((ft s 4 n))) gI_same ?_
          refine wn_if_le (tgt := 79) hX dX9_takeNumber_74 (by decide) (by omega) (fun c5 => ?_) (fun c5 => ?_)
          · exfalso; omega
          · refine w_iconst hX dX9_takeNumber_77 kI_0 ?_
            exact w_iret hX hE dX9_takeNumber_78 (Or.inl rfl) rfl (Or.inr ⟨ft s 4 n, by unfold pNb; rw [if_neg (by omega), if_pos (Or.inl ((cmp_lt (by omega) (by omega)).1.mp c4))], rfl, rfl⟩)
        · refine w_aload_n (i := 0) hX dX9_takeNumber_50 rfl rfl ?_
          refine w_getR (q := m + 4) hX dX9_takeNumber_51 fo_RX9_30 rfl (mod_s hT.1) (mod_r6 hT.1) ?_
          refine w_aload_n (i := 0) hX dX9_takeNumber_54 rfl rfl ?_
          refine w_getI hX dX9_takeNumber_55 fo_RX9_151 rfl (mod_s hT.1) ?_
          refine w_top (y := nI n) hS.1 ?_
          refine w_laldN hX dX9_takeNumber_58 (mod_a4 hT.1) (by omega) (by omega) ?_
          refine w_topL (y := lN (vl s n)) (hvv (by omega)) ?_
          refine w_iload_n (i := 2) hX dX9_takeNumber_59 rfl rfl ?_
          refine w_i2l hX dX9_takeNumber_60 ?_
          refine w_topL (y := lN hi) (nI_lN (by omega)) ?_
          refine w_lcmp hX dX9_takeNumber_61 ?_
          refine wc_if_le (tgt := 70) hX dX9_takeNumber_62 (by decide) (fun c6 => ?_) (fun c6 => ?_)
          · refine w_aload_n (i := 0) hX dX9_takeNumber_70 rfl rfl ?_
            refine w_getI hX dX9_takeNumber_71 fo_RX9_154 rfl (mod_s hT.1) ?_
            refine w_top (y := nI 0) hS.2.2 ?_
            refine wn_if_le (tgt := 79) hX dX9_takeNumber_74 (by decide) (by omega) (fun c7 => ?_) (fun c7 => ?_)
            · refine w_aload_n (i := 0) hX dX9_takeNumber_79 rfl rfl ?_
              refine w_dup hX dX9_takeNumber_80 rfl ?_
              refine w_getI hX dX9_takeNumber_81 fo_RX9_151 rfl (mod_s hT.1) ?_
              refine w_top (y := nI n) hS.1 ?_
              refine w_iconst hX dX9_takeNumber_84 kI_1 ?_
              refine w_iaddN hX dX9_takeNumber_85 ?_
              refine w_putI hX dX9_takeNumber_86 fo_RX9_151 rfl rfl rfl rfl (mod_s hT.1) ?_
              refine w_aload_n (i := 0) hX dX9_takeNumber_89 rfl rfl ?_
              refine w_getR (q := m + 4) hX dX9_takeNumber_90 fo_RX9_30 rfl (mod_s hT.1) (mod_r6 hT.1) ?_
              refine w_aload_n (i := 0) hX dX9_takeNumber_93 rfl rfl ?_
              refine w_getI hX dX9_takeNumber_94 fo_RX9_151 rfl (mod_s hT.1) ?_
              refine w_top (y := nI (n + 1)) gI_same ?_
              refine w_iconst hX dX9_takeNumber_97 kI_1 ?_
              refine w_isubN hX dX9_takeNumber_98 (by omega) ?_
              refine w_laldN hX dX9_takeNumber_99 (mod_a4 hT.1) (by omega) (by omega) ?_
              refine w_topL (y := lN (vl s n)) (by rw [gL_sI, Nat.add_sub_cancel]; exact hvv (by omega)) ?_
              refine w_l2i hX dX9_takeNumber_100 ?_
              refine w_top (y := nI (vl s n)) (lM_i32 _) ?_
              exact w_iret hX hE dX9_takeNumber_101 (Or.inl rfl) rfl (Or.inl ⟨by unfold pNb; rw [if_neg (by omega), if_neg (fun h9 => by rcases h9 with h9 | h9; (exact absurd ((cmp_lt (by omega) (by omega)).1.mpr h9) (Int32.not_lt.mpr c4)); exact absurd ((cmp_lt (by omega) (by omega)).2.mp c6) (by omega))], rfl, rfl⟩)
            · exact absurd c7 (by decide)
          · refine w_aload_n (i := 0) hX dX9_takeNumber_65 rfl rfl ?_
            refine w_iconst hX dX9_takeNumber_66 kI_4 ?_
            refine w_callVV (As := [.int (nI 4)]) (rest := []) (ci := 9) (o := m) (k2 := 0) (n2 := 0) hX dX9_takeNumber_67 (s_m_wrong0 Γ μ m s hT n hS 4) okX9_wrong (ltb rfl) (mod_s hT.1) ml_RX9_160 imX9_wrong seX9_wrong rfl (leb rfl) (leb rfl) rfl rfl (fun μ9 hq9 => ?_)
            rw [hq9]; clear hq9 μ9
            refine w_aload_n (i := 0) hX dX9_takeNumber_70 rfl rfl ?_
            refine w_getI hX dX9_takeNumber_71 fo_RX9_154 rfl (mod_s hT.1) ?_
            refine w_top (y := nI ((ft s 4 n))) gI_same ?_
            refine wn_if_le (tgt := 79) hX dX9_takeNumber_74 (by decide) (by omega) (fun c8 => ?_) (fun c8 => ?_)
            · exfalso; omega
            · refine w_iconst hX dX9_takeNumber_77 kI_0 ?_
              exact w_iret hX hE dX9_takeNumber_78 (Or.inl rfl) rfl (Or.inr ⟨ft s 4 n, by unfold pNb; rw [if_neg (by omega), if_pos (Or.inr (by have := mt (cmp_lt (by omega) (by omega)).2.mpr (Int32.not_le.mpr c6); omega))], rfl, rfl⟩)
    · refine w_aload_n (i := 0) hX dX9_takeNumber_20 rfl rfl ?_
      refine w_iconst hX dX9_takeNumber_21 kI_1 ?_
      refine w_callVV (As := [.int (nI 1)]) (rest := []) (ci := 9) (o := m) (k2 := 0) (n2 := 0) hX dX9_takeNumber_22 (s_m_wrong0 Γ μ m s hT n hS 1) okX9_wrong (ltb rfl) (mod_s hT.1) ml_RX9_160 imX9_wrong seX9_wrong rfl (leb rfl) (leb rfl) rfl rfl (fun μ9 hq9 => ?_)
      rw [hq9]; clear hq9 μ9
      refine w_goto (tgt := 70) hX dX9_takeNumber_25 (by decide) ?_
      refine w_aload_n (i := 0) hX dX9_takeNumber_70 rfl rfl ?_
      refine w_getI hX dX9_takeNumber_71 fo_RX9_154 rfl (mod_s hT.1) ?_
      refine w_top (y := nI ((ft s 1 n))) gI_same ?_
      refine wn_if_le (tgt := 79) hX dX9_takeNumber_74 (by decide) (by omega) (fun c9 => ?_) (fun c9 => ?_)
      · exfalso; omega
      · refine w_iconst hX dX9_takeNumber_77 kI_0 ?_
        exact w_iret hX hE dX9_takeNumber_78 (Or.inl rfl) rfl (Or.inr ⟨ft s 1 n, by unfold pNb; rw [if_pos (by omega)], rfl, rfl⟩)
set_option maxHeartbeats 1000000 in
theorem s_m_takeNf (Γ : Gm) (μ : Mem) (m : Nat) (s : Tp) (hT : MT μ m s) (f : Nat) (hF : MFt μ m s f) (lo : Int32) (hi : Nat) : SpI Γ MX9_takeNumber 1 0 0 [.ref m, .int lo, .int (nI hi)] μ (fun r μ2 => r = nI 0 ∧ μ2 = μ) := by
  refine SpI.of okX9_takeNumber rfl [some (.ref m), some (.int lo), some (.int (nI hi))] ⟨rfl, rfl, rfl, trivial⟩ (leb rfl) (leb rfl) (fun X hX hE hnm => ?_)
  obtain ⟨n9, hn9⟩ := hF.2.2; have hf9 := hF.2.1; have hn := (rch_le hT.2.2.2 n9 hn9.1).2
  refine w_aload_n (i := 0) hX dX9_takeNumber_0 rfl rfl ?_
  refine w_getI hX dX9_takeNumber_1 fo_RX9_154 rfl (mod_s hT.1) ?_
  refine w_top (y := nI f) hF.1 ?_
  refine wn_if_ne (tgt := 28) hX dX9_takeNumber_4 (by decide) (by omega) (fun c1 => ?_) (fun c1 => ?_)
  · refine w_aload_n (i := 0) hX dX9_takeNumber_28 rfl rfl ?_
    refine w_getI hX dX9_takeNumber_29 fo_RX9_154 rfl (mod_s hT.1) ?_
    refine w_top (y := nI f) hF.1 ?_
    refine wn_if_ne (tgt := 70) hX dX9_takeNumber_32 (by decide) (by omega) (fun c2 => ?_) (fun c2 => ?_)
    · refine w_aload_n (i := 0) hX dX9_takeNumber_70 rfl rfl ?_
      refine w_getI hX dX9_takeNumber_71 fo_RX9_154 rfl (mod_s hT.1) ?_
      refine w_top (y := nI f) hF.1 ?_
      refine wn_if_le (tgt := 79) hX dX9_takeNumber_74 (by decide) (by omega) (fun c3 => ?_) (fun c3 => ?_)
      · exfalso; omega
      · refine w_iconst hX dX9_takeNumber_77 kI_0 ?_
        exact w_iret hX hE dX9_takeNumber_78 (Or.inl rfl) rfl ⟨rfl, rfl⟩
    · exfalso; omega
  · exfalso; omega
