theorem pHrs_S {s : Tp} {M : NM} {q f n told : Nat} {B : Nat → Nat} : pHrs s M q (f + 1) n told B = if kd s n ≠ 16 then .inr (n, B, M) else bnd (pNb s (n + 1) 1 24) (fun h => if told.testBit h = true then .inl (ft s 3 (n + 1)) else bnd (pWd s (n + 2) 14) (fun _ => bnd (pNb s (n + 3) 0 99) (fun v => pHrs s M q f (n + 4) (told ||| 2 ^ h) (stB B (127 + 25 * q + h) v)))) := rfl
theorem pPerson_y {s : Tp} {n : Nat} {B : Nat → Nat} {M : NM} {st : PSt} (h : pNew s n B M 126 9 2 = .inr st) : pPerson s n B M = pHrs s st.2.2 (B 126) 26 (n + 2) 0 st.2.1 := by
  unfold pPerson
  generalize 26 = f9
  rw [h]; rfl
theorem pcn_or {S w n : Nat} (h : S.testBit w = false) (hw : w < n) : pcn (S ||| 2 ^ w) n = pcn S n + 1 := by
  have h1 := pcn_clr (S := S ||| 2 ^ w) (w := w) (by rw [or_tb]; simp) n
  rw [clr_or h, if_pos hw] at h1
  exact h1.symm
theorem pcn_b0 {S : Nat} (h : S.testBit 0 = false) : ∀ n, pcn S (n + 1) ≤ n := by
  intro n
  induction n with
  | zero => simp [pcn, h]
  | succ n ih => rw [pcn_k]; split <;> omega
theorem Rb_person {μ : Mem} {b : Nat} {B : Nat → Nat} (h : Rb μ b B) (h85 : 5 * B 85 ≤ 40) : Rb (sI μ b 12 (nI (B 126 + 1))) b (stB B 126 (B 126 + 1)) := by
  obtain ⟨h0, h1, h2, h3, h4, h5, h6, h7, h8, h9, h10, h11, h12⟩ := h
  have ne : ∀ i, i ≠ 126 → stB B 126 (B 126 + 1) i = B i := fun i hi => stB_ne hi
  have hw : wayN (stB B 126 (B 126 + 1)) = wayN B := by unfold wayN; rw [ne _ (by omega), ne _ (by omega), ne _ (by omega)]
  refine ⟨h0, by rw [gI_nk (by omega), ne _ (by omega)]; exact h1, fun t ht => ?_, fun i hi => by rw [gI_no (by omega), ne _ (by omega)]; exact h3 i hi, by rw [gI_nk (by omega), hw]; exact h4, by rw [gI_nk (by omega), ne _ (by omega)]; exact h5, fun i hi => by rw [ne _ (by omega)] at hi; rw [gI_no (by omega), ne _ (by omega)]; exact h6 i hi, by rw [gI_same, stB_same], fun q s hq h1' h2' => by rw [gI_no (by omega), ne _ (by omega)]; exact h8 q s hq h1' h2', by rw [gI_nk (by omega), ne _ (by omega)]; exact h9, fun i hi => by rw [ne _ (by omega)] at hi; rw [gI_no (by omega), ne _ (by omega)]; exact h10 i hi, by rw [gI_nk (by omega), ne _ (by omega)]; exact h11, fun i hi => by rw [ne _ (by omega)] at hi; rw [gI_no (by omega), ne _ (by omega)]; exact h12 i hi⟩
  obtain ⟨c1, c2, c3, c4⟩ := h2 t ht
  have en : nB (stB B 126 (B 126 + 1)) t = nB B t := ne _ (by omega)
  rw [en]
  refine ⟨c1, by rw [gI_no (by omega)]; exact c2, c3, fun k hk => ?_⟩
  have em : mS (stB B 126 (B 126 + 1)) t k = mS B t k := by unfold mS; rw [ne _ (by omega), ne _ (by omega)]
  rw [em, gI_no (by omega)]; exact c4 k hk
theorem Rb_wish {μ : Mem} {b q h v : Nat} {B : Nat → Nat} (hR : Rb μ b B) (h85 : 5 * B 85 ≤ 40) (hq : q < 9) (h1 : 1 ≤ h) (h2 : h ≤ 24) : Rb (sI μ (b + 4) (q * 24 + h - 1) (nI v)) b (stB B (127 + 25 * q + h) v) := by
  obtain ⟨h0, g1, g2, g3, g4, g5, g6, g7, g8, g9, g10, g11, g12⟩ := hR
  have ne : ∀ i, i < 127 ∨ 352 ≤ i → stB B (127 + 25 * q + h) v i = B i := fun i hi => stB_ne (by omega)
  have hw : wayN (stB B (127 + 25 * q + h) v) = wayN B := by unfold wayN; rw [ne _ (by omega), ne _ (by omega), ne _ (by omega)]
  refine ⟨h0, by rw [gI_no (by omega), ne _ (by omega)]; exact g1, fun t ht => ?_, fun i hi => by rw [gI_no (by omega), ne _ (by omega)]; exact g3 i hi, by rw [gI_no (by omega), hw]; exact g4, by rw [gI_no (by omega), ne _ (by omega)]; exact g5, fun i hi => by rw [ne _ (by omega)] at hi; rw [gI_no (by omega), ne _ (by omega)]; exact g6 i hi, by rw [gI_no (by omega), ne _ (by omega)]; exact g7, fun q' s' hq' h1' h2' => ?_, by rw [gI_no (by omega), ne _ (by omega)]; exact g9, fun i hi => by rw [ne _ (by omega)] at hi; rw [gI_no (by omega), ne _ (by omega)]; exact g10 i hi, by rw [gI_no (by omega), ne _ (by omega)]; exact g11, fun i hi => by rw [ne _ (by omega)] at hi; rw [gI_no (by omega), ne _ (by omega)]; exact g12 i hi⟩
  · obtain ⟨c1, c2, c3, c4⟩ := g2 t ht
    have en : nB (stB B (127 + 25 * q + h) v) t = nB B t := ne _ (by omega)
    rw [en]
    refine ⟨c1, by rw [gI_no (by omega)]; exact c2, c3, fun k hk => ?_⟩
    have em : mS (stB B (127 + 25 * q + h) v) t k = mS B t k := by unfold mS; rw [ne _ (by omega), ne _ (by omega)]
    rw [em, gI_no (by omega)]; exact c4 k hk
  · by_cases e : q' = q ∧ s' = h
    · obtain ⟨rfl, rfl⟩ := e
      rw [show 24 * q' + s' - 1 = q' * 24 + s' - 1 by omega, gI_same, stB_same]
    · rw [gI_nk (by omega), stB_ne (by omega)]; exact g8 q' s' hq' h1' h2'
set_option maxHeartbeats 1000000 in
theorem s_b_setW (Γ : Gm) (μ : Mem) (b : Nat) (hb : isBk μ b) (q h v : Nat) (hq : q < 9) (h1 : 1 ≤ h) (h2 : h ≤ 24) : SpV Γ MX0_setWorth 0 0 0 [.ref b, .int (nI q), .int (nI h), .int (nI v)] μ (fun μ2 => μ2 = sI μ (b + 4) (q * 24 + h - 1) (nI v)) := by
  refine SpV.of okX0_setWorth rfl [some (.ref b), some (.int (nI q)), some (.int (nI h)), some (.int (nI v))] ⟨rfl, rfl, rfl, rfl, trivial⟩ (leb rfl) (leb rfl) (fun X hX hE hnm => ?_)
  refine w_aload_n (i := 0) hX dX0_setWorth_0 rfl rfl ?_
  refine w_getR (q := b + 4) hX dX0_setWorth_1 fo_RX0_24 rfl (bk_s hb) (bk_r3 hb) ?_
  refine w_iload_n (i := 1) hX dX0_setWorth_4 rfl rfl ?_
  refine w_bipush hX dX0_setWorth_5 kB_24 ?_
  refine w_imulN hX dX0_setWorth_7 ?_
  refine w_iload_n (i := 2) hX dX0_setWorth_8 rfl rfl ?_
  refine w_iaddN hX dX0_setWorth_9 ?_
  refine w_iconst hX dX0_setWorth_10 kI_1 ?_
  refine w_isubN hX dX0_setWorth_11 (by omega) ?_
  refine w_iload_n (i := 3) hX dX0_setWorth_12 rfl rfl ?_
  refine w_iastN hX dX0_setWorth_13 (bk_a4 hb) (by omega) (by omega) ?_
  exact w_vret hX hE dX0_setWorth_14 (Or.inl rfl) rfl
set_option maxHeartbeats 1000000 in
theorem s_r_person (Γ : Gm) (μ : Mem) (r t b : Nat) (s : Tp) (n : Nat) (B : Nat → Nat) (M : NM) (hr : RD μ r t b s) (htr : t + 1 < r) (hrb : r + 2 < b) (hS : RS μ r s n) (hR : Rb μ b B) (hC : CN μ b M) (hf : gI μ r 5 = nI 0) (hP : PIv B M)  : SpV Γ MX4_readPerson 4 0 0 [.ref r] μ (fun μ2 => RX r b s (bnd (pPerson s n B M) (pSemi s)) μ μ2) := by
  refine SpV.of okX4_readPerson rfl [some (.ref r), none, none, none, none] ⟨rfl, trivial⟩ (leb rfl) (leb rfl) (fun X hX hE hnm => ?_)
  have hs : same (SRB r b) μ μ := same.rf
  obtain ⟨hM9, hb0, hb85, hb126, hb352⟩ := M32 hP
  refine w_aload_n (i := 0) hX dX4_readPerson_0 rfl rfl ?_
  refine w_getR (q := b) hX dX4_readPerson_1 fo_RX4_41 rfl (rd_s hr.1) hr.2.2.1 ?_
  refine w_getI hX dX4_readPerson_4 fo_RX4_147 rfl (bk_s hR.1) ?_
  refine w_top (y := nI (B 126)) hR.2.2.2.2.2.2.2.1 ?_
  refine w_istore_n (i := 1) (l2 := [some (.ref r), some (.int (nI (B 126))), none, none, none]) hX dX4_readPerson_7 rfl (ltb rfl) rfl rfl ?_
  refine w_aload_n (i := 0) hX dX4_readPerson_8 rfl rfl ?_
  refine w_iload_n (i := 1) hX dX4_readPerson_9 rfl rfl ?_
  refine w_bipush hX dX4_readPerson_10 kB_9 ?_
  refine wn_icmp_ge (tgt := 19) hX dX4_readPerson_12 (by decide) (by first | omega | (have := kd_le (s := s) (n := n); omega)) (by first | omega | (have := kd_le (s := s) (n := n); omega)) (fun c1 => ?_) (fun c1 => ?_)
  · refine w_iconst hX dX4_readPerson_19 kI_0 ?_
    refine w_callVI (As := [.int (nI 0)]) (rest := []) (ci := 4) (o := r) (k2 := 0) (n2 := 0) hX dX4_readPerson_20 (s_r_more0 Γ μ r t b s hr htr hrb (n) hS) okX4_takeOneMore (ltb rfl) (rd_s hr.1) ml_RX4_93 imX4_takeOneMore seX4_takeOneMore rfl (leb rfl) (leb rfl) rfl rfl (fun r9 μ9 hq9 => ?_)
    obtain ⟨hr9, hm9⟩ := hq9; rw [hr9, hm9]; clear hr9 hm9 r9 μ9
    refine wn_if_eq (tgt := 36) hX dX4_readPerson_23 (by decide) (by first | omega | (have := kd_le (s := s) (n := n); omega)) (fun c2 => ?_) (fun c2 => ?_)
    · have hpx : pPerson s n B M = .inl (ft s 5 (n)) := by unfold pPerson; exact bnd_l (pNew_5 (by omega))
      exact w_vret hX hE dX4_readPerson_36 (Or.inl rfl) (RX_l (bnd_l hpx) hs (ft_lt hr.2.2.2.2.2 (by omega) (by omega)))
    · exact absurd c2 (by decide)
  · refine w_iconst hX dX4_readPerson_15 kI_1 ?_
    refine w_goto (tgt := 20) hX dX4_readPerson_16 (by decide) ?_
    refine w_callVI (As := [.int (nI 1)]) (rest := []) (ci := 4) (o := r) (k2 := 0) (n2 := 0) hX dX4_readPerson_20 (s_r_more1 Γ μ r t b s hr htr hrb (n) hS) okX4_takeOneMore (ltb rfl) (rd_s hr.1) ml_RX4_93 imX4_takeOneMore seX4_takeOneMore rfl (leb rfl) (leb rfl) rfl rfl (fun r2 ν2 hq9 => ?_)
    obtain ⟨e2, hS_2, t2⟩ := hq9; rw [e2]
    have hr_2 := hr.sm t2 (fun o k h => by unfold SA at h; omega)
    have hR_2 := Rb_fr t2 (fun o k h => Or.inl (by unfold SA at h; omega)) hR
    have hC_2 := hC.sm t2 (fun o k h => by unfold SA at h; omega)
    have hf_2 : gI ν2 r 5 = nI 0 := by rw [(t2.2.2 _ _ (fun h => by unfold SA at h; omega)).1]; exact hf
    have hs_2 := hs.tr (t2.up (fun o k h => by unfold SA at h; unfold SRB; omega))
    refine wn_if_eq (tgt := 36) hX dX4_readPerson_23 (by decide) (by first | omega | (have := kd_le (s := s) (n := n); omega)) (fun c3 => ?_) (fun c3 => ?_)
    · exact absurd c3 (by decide)
    · have hM32 : M.1 < 32 := by omega
      refine w_aload_n (i := 0) hX dX4_readPerson_26 rfl rfl ?_
      refine w_bipush hX dX4_readPerson_27 kB_15 ?_
      refine w_top (y := nI (kc 2)) rfl ?_
      refine w_iload_n (i := 1) hX dX4_readPerson_29 rfl rfl ?_
      refine w_callVI (As := [.int (nI (kc 2)), .int (nI (B 126))]) (rest := []) (ci := 4) (o := r) (k2 := 0) (n2 := 0) hX dX4_readPerson_30 (s_r_new Γ ν2 r t b s hr_2 htr hrb (n + 1) hS_2 hR_2.1 M hC_2 2 (B 126) (by omega) hM32) okX4_takeNewName (ltb rfl) (rd_s hr_2.1) ml_RX4_97 imX4_takeNewName seX4_takeNewName rfl (leb rfl) (leb rfl) rfl rfl (fun r3 ν3 hq9 => ?_)
      rcases hq9 with ⟨w3, u3, e3, hS_3, hC_3, t3⟩ | ⟨w3, e3, m3⟩ | ⟨w3, ⟨i3, u3⟩, e3, m3⟩
      · rw [e3, show bI true = nI 1 from rfl]
        have hr_3 := hr_2.sm t3 (fun o k h => by unfold SA at h; omega)
        have hR_3 := Rb_fr t3 (fun o k h => by unfold SA at h; omega) hR_2
        have hf_3 : gI ν3 r 5 = nI 0 := by rw [(t3.2.2 _ _ (fun h => by unfold SA at h; omega)).1]; exact hf_2
        have hs_3 := hs_2.tr (t3.up (fun o k h => by unfold SA at h; unfold SRB; omega))
        refine wn_if_ne (tgt := 37) hX dX4_readPerson_33 (by decide) (by first | omega | (have := kd_le (s := s) (n := n); omega)) (fun c4 => ?_) (fun c4 => ?_)
        · refine w_aload_n (i := 0) hX dX4_readPerson_37 rfl rfl ?_
          refine w_getR (q := b) hX dX4_readPerson_38 fo_RX4_41 rfl (rd_s hr_3.1) hr_3.2.2.1 ?_
          refine w_dup hX dX4_readPerson_41 rfl ?_
          refine w_getI hX dX4_readPerson_42 fo_RX4_147 rfl (bk_s hR_3.1) ?_
          refine w_top (y := nI (B 126)) hR_3.2.2.2.2.2.2.2.1 ?_
          refine w_iconst hX dX4_readPerson_45 kI_1 ?_
          refine w_iaddN hX dX4_readPerson_46 ?_
          refine w_putI hX dX4_readPerson_47 fo_RX4_147 rfl rfl rfl rfl (bk_s hR_3.1) ?_
          have s4 : same (fun o2 k2 => (o2 = b ∧ k2 = 12)) ν3 (sI ν3 b 12 (nI (B 126 + 1))) := (same.rf).sI (⟨rfl, rfl⟩)
          have hr_4 := hr_3.sm s4 (fun o k h => by omega)
          have hS_4 := hS_3.sm s4 (fun k h1 h2 h => by omega)
          have hR_4 := Rb_person hR_3 (by omega)
          have hC_4 := hC_3.sm s4 (fun o k h => by omega)
          have hf_4 : gI (sI ν3 b 12 (nI (B 126 + 1))) r 5 = nI 0 := by rw [(s4.2.2 _ _ (fun h => by omega)).1]; exact hf_3
          have hs_4 := hs_3.tr (s4.up (fun o k h => by unfold SRB; omega))
          refine w_iconst hX dX4_readPerson_50 kI_0 ?_
          refine w_istore_n (i := 2) (l2 := [some (.ref r), some (.int (nI (B 126))), some (.int (nI 0)), none, none]) hX dX4_readPerson_51 rfl (ltb rfl) rfl rfl ?_
          refine w_iconst hX dX4_readPerson_52 kI_0 ?_
          refine w_istore_n (i := 3) (l2 := [some (.ref r), some (.int (nI (B 126))), some (.int (nI 0)), some (.int (nI 0)), none]) hX dX4_readPerson_53 rfl (ltb rfl) rfl rfl ?_
          have hpn := pPerson_y (pNew_y (by omega) w3 u3)
          simp only [] at hpn
          have loop : ∀ q i n2 told, ∀ B2 : Nat → Nat, ∀ ν : Mem, i + q = 25 → told < 2 ^ 25 → told.testBit 0 = false → pcn told 25 = i → B2 85 = B 85 → RD ν r t b s → RS ν r s n2 → Rb ν b B2 → CN ν b (addM M (wd s (n + 1)) 2 (B 126)) → gI ν r 5 = nI 0 → same (SRB r b) μ ν → bnd (pPerson s n B M) (pSemi s) = bnd (pHrs s (addM M (wd s (n + 1)) 2 (B 126)) (B 126) (q + 1) n2 told B2) (pSemi s) → WP Γ X 0 0 54 [some (.ref r), some (.int (nI (B 126))), some (.int (nI told)), some (.int (nI i)), none] [] ν := by
            intro q
            induction q with
            | zero =>
              intro i n2 told B2 ν hiq ht25 htb hpc hB85 hrk hSk hRk hCk hfk hsk hres
              have h9 : pcn told 25 ≤ 24 := pcn_b0 htb 24; exact absurd hpc (by omega)
            | succ q ih =>
              intro i n2 told B2 ν hiq ht25 htb hpc hB85 hrk hSk hRk hCk hfk hsk hres
              have hk22 := kd_le (s := s) (n := n2)
              refine w_iload_n (i := 3) hX dX4_readPerson_54 rfl rfl ?_
              refine w_bipush hX dX4_readPerson_55 kB_24 ?_
              refine wn_icmp_gt (tgt := 170) hX dX4_readPerson_57 (by decide) (by first | omega | (split <;> omega)) (by first | omega | (split <;> omega)) (fun c5 => ?_) (fun c5 => ?_)
              · exfalso; omega
              · refine w_aload_n (i := 0) hX dX4_readPerson_60 rfl rfl ?_
                refine w_getI hX dX4_readPerson_61 fo_RX4_62 rfl (rd_s hrk.1) ?_
                refine w_top (y := nI (kd s (n2))) hSk.2.1 ?_
                refine w_bipush hX dX4_readPerson_64 kB_16 ?_
                refine wn_icmp_ne (tgt := 170) hX dX4_readPerson_66 (by decide) (by first | omega | (split <;> omega)) (by first | omega | (split <;> omega)) (fun c6 => ?_) (fun c6 => ?_)
                · refine w_aload_n (i := 0) hX dX4_readPerson_170 rfl rfl ?_
                  refine w_iconst hX dX4_readPerson_171 kI_2 ?_
                  refine w_callVI (As := [.int (nI 2)]) (rest := []) (ci := 4) (o := r) (k2 := 0) (n2 := 0) hX dX4_readPerson_172 (s_r_take Γ ν r t b s hrk htr hrb (n2) hSk 2 (by omega)) okX4_take (ltb rfl) (rd_s hrk.1) ml_RX4_101 imX4_take seX4_take rfl (leb rfl) (leb rfl) rfl rfl (fun r5 ν5 hq9 => ?_)
                  rcases hq9 with ⟨w5, e5, hS_5, t5⟩ | ⟨w5, e5, m5⟩
                  · rw [e5, show bI true = nI 1 from rfl]
                    have hr_5 := hrk.sm t5 (fun o k h => by unfold SA at h; omega)
                    have hR_5 := Rb_fr t5 (fun o k h => Or.inl (by unfold SA at h; omega)) hRk
                    have hC_5 := hCk.sm t5 (fun o k h => by unfold SA at h; omega)
                    have hf_5 : gI ν5 r 5 = nI 0 := by rw [(t5.2.2 _ _ (fun h => by unfold SA at h; omega)).1]; exact hfk
                    have hs_5 := hsk.tr (t5.up (fun o k h => by unfold SA at h; unfold SRB; omega))
                    refine w_pop hX dX4_readPerson_175 rfl ?_
                    have hpx : pHrs s (addM M (wd s (n + 1)) 2 (B 126)) (B 126) (q + 1 + 1) n2 told B2 = .inr (n2, B2, (addM M (wd s (n + 1)) 2 (B 126))) := pHrs_S.trans (if_pos (by omega))
                    exact w_vret hX hE dX4_readPerson_176 (Or.inl rfl) (RX_r (hres.trans ((bnd_r hpx).trans (bnd_r (pWd_y w5)))) hs_5 hf_5 hS_5 hR_5 hC_5)
                  · rw [e5, m5, show bI false = nI 0 from rfl]
                    refine w_pop hX dX4_readPerson_175 rfl ?_
                    have hpx : pHrs s (addM M (wd s (n + 1)) 2 (B 126)) (B 126) (q + 1 + 1) n2 told B2 = .inr (n2, B2, (addM M (wd s (n + 1)) 2 (B 126))) := pHrs_S.trans (if_pos (by omega))
                    exact w_vret hX hE dX4_readPerson_176 (Or.inl rfl) (RX_l (hres.trans ((bnd_r hpx).trans (bnd_l (pWd_n w5)))) hsk (ft_lt hr.2.2.2.2.2 (by omega) (by omega)))
                · refine w_aload_n (i := 0) hX dX4_readPerson_69 rfl rfl ?_
                  refine w_callVV (As := []) (rest := []) (ci := 4) (o := r) (k2 := 0) (n2 := 0) hX dX4_readPerson_70 (s_r_advance Γ ν r t b s hrk htr hrb (n2 + 1) hSk.1) okX4_advance (ltb rfl) (rd_s hrk.1) ml_RX4_57 imX4_advance seX4_advance rfl (leb rfl) (leb rfl) rfl rfl (fun ν6 hq9 => ?_)
                  obtain ⟨hS_6, t6⟩ := hq9
                  have hr_6 := hrk.sm t6 (fun o k h => by unfold SA at h; omega)
                  have hR_6 := Rb_fr t6 (fun o k h => Or.inl (by unfold SA at h; omega)) hRk
                  have hC_6 := hCk.sm t6 (fun o k h => by unfold SA at h; omega)
                  have hf_6 : gI ν6 r 5 = nI 0 := by rw [(t6.2.2 _ _ (fun h => by unfold SA at h; omega)).1]; exact hfk
                  have hs_6 := hsk.tr (t6.up (fun o k h => by unfold SA at h; unfold SRB; omega))
                  refine w_aload_n (i := 0) hX dX4_readPerson_73 rfl rfl ?_
                  refine w_getI hX dX4_readPerson_74 fo_RX4_114 rfl (rd_s hr_6.1) ?_
                  refine w_top (y := gI ν6 r 8) rfl ?_
                  refine w_istore (l2 := [some (.ref r), some (.int (nI (B 126))), some (.int (nI told)), some (.int (nI i)), some (.int (gI ν6 r 8))]) hX dX4_readPerson_77 (ltb rfl) rfl rfl ?_
                  refine w_aload_n (i := 0) hX dX4_readPerson_79 rfl rfl ?_
                  refine w_iconst hX dX4_readPerson_80 kI_1 ?_
                  refine w_bipush hX dX4_readPerson_81 kB_24 ?_
                  refine w_callVI (As := [.int (nI 1), .int (nI 24)]) (rest := []) (ci := 4) (o := r) (k2 := 0) (n2 := 0) hX dX4_readPerson_83 (s_r_isNum Γ ν6 r t b s hr_6 htr hrb (n2 + 1) hS_6 1 24 (by omega) (by omega)) okX4_isNumber (ltb rfl) (rd_s hr_6.1) ml_RX4_117 imX4_isNumber seX4_isNumber rfl (leb rfl) (leb rfl) rfl rfl (fun r7 ν7 hq9 => ?_)
                  rcases hq9 with ⟨p7, e7, m7⟩ | ⟨f7, p7, e7, m7⟩
                  · rw [e7, m7, show bI true = nI 1 from rfl]
                    obtain ⟨q7, -, l7, g7⟩ := pNb_inr p7
                    refine wn_if_eq (tgt := 111) hX dX4_readPerson_86 (by decide) (by first | omega | (split <;> omega)) (fun c7 => ?_) (fun c7 => ?_)
                    · exact absurd c7 (by decide)
                    · refine w_locs (ls2 := [some (.ref r), some (.int (nI (B 126))), some (.int (nI told)), some (.int (nI i)), some (.int (nI (vl s (n2 + 1))))]) (by rw [hS_6.2.2.2.1 q7]) ?_
                      refine w_aload_n (i := 0) hX dX4_readPerson_89 rfl rfl ?_
                      refine w_iload_n (i := 2) hX dX4_readPerson_90 rfl rfl ?_
                      refine w_iload hX dX4_readPerson_91 rfl ?_
                      refine w_ishr hX dX4_readPerson_93 ?_
                      refine w_iconst hX dX4_readPerson_94 kI_1 ?_
                      refine w_iand hX dX4_readPerson_95 ?_
                      refine w_top (y := nI (if told.testBit (vl s (n2 + 1)) = true then 1 else 0)) (bit31 (by omega) (by omega)) ?_
                      refine wn_if_ne (tgt := 103) hX dX4_readPerson_96 (by decide) (by first | omega | (split <;> omega)) (fun c8 => ?_) (fun c8 => ?_)
                      · refine w_iconst hX dX4_readPerson_103 kI_0 ?_
                        refine w_iconst hX dX4_readPerson_104 kI_3 ?_
                        refine w_callVI (As := [.int (nI 0), .int (nI 3)]) (rest := []) (ci := 4) (o := r) (k2 := 0) (n2 := 0) hX dX4_readPerson_105 (s_r_check0 Γ ν6 r t b s hr_6 htr hrb (n2 + 1) 3 hS_6.2.2.1) okX4_check (ltb rfl) (rd_s hr_6.1) ml_RX4_86 imX4_check seX4_check rfl (leb rfl) (leb rfl) rfl rfl (fun r9 μ9 hq9 => ?_)
                        obtain ⟨hr9, hm9⟩ := hq9; rw [hr9, hm9, show 3 + 16 * pl s (n2 + 1) = ft s 3 (n2 + 1) from rfl]; clear hr9 hm9 r9 μ9
                        refine wn_if_ne (tgt := 112) hX dX4_readPerson_108 (by decide) (by first | omega | (split <;> omega)) (fun c9 => ?_) (fun c9 => ?_)
                        · exact absurd c9 (by decide)
                        · have hpx : pHrs s (addM M (wd s (n + 1)) 2 (B 126)) (B 126) (q + 1 + 1) n2 told B2 = .inl (ft s 3 (n2 + 1)) := pHrs_S.trans ((if_neg (by omega)).trans ((bnd_r p7).trans (if_pos (by by_cases h9 : told.testBit (vl s (n2 + 1)) = true; (exact h9); rw [if_neg h9] at c8; exact absurd rfl c8))))
                          exact w_vret hX hE dX4_readPerson_111 (Or.inl rfl) (RX_l (hres.trans (bnd_l hpx)) hs_6 (ft_lt hr.2.2.2.2.2 (by omega) (by omega)))
                      · have htf : told.testBit (vl s (n2 + 1)) = false := by rw [Bool.eq_false_iff]; intro h9; rw [if_pos h9] at c8; omega
                        refine w_iconst hX dX4_readPerson_99 kI_1 ?_
                        refine w_goto (tgt := 104) hX dX4_readPerson_100 (by decide) ?_
                        refine w_iconst hX dX4_readPerson_104 kI_3 ?_
                        refine w_callVI (As := [.int (nI 1), .int (nI 3)]) (rest := []) (ci := 4) (o := r) (k2 := 0) (n2 := 0) hX dX4_readPerson_105 (s_r_check1 Γ ν6 r t b s hr_6 htr hrb (n2 + 1) 3 hS_6.2.2.1) okX4_check (ltb rfl) (rd_s hr_6.1) ml_RX4_86 imX4_check seX4_check rfl (leb rfl) (leb rfl) rfl rfl (fun r9 μ9 hq9 => ?_)
                        obtain ⟨hr9, hm9⟩ := hq9; rw [hr9, hm9]; clear hr9 hm9 r9 μ9
                        refine wn_if_ne (tgt := 112) hX dX4_readPerson_108 (by decide) (by first | omega | (split <;> omega)) (fun c10 => ?_) (fun c10 => ?_)
                        · refine w_iload_n (i := 2) hX dX4_readPerson_112 rfl rfl ?_
                          refine w_iconst hX dX4_readPerson_113 kI_1 ?_
                          refine w_iload hX dX4_readPerson_114 rfl ?_
                          refine w_ishl hX dX4_readPerson_116 ?_
                          refine w_top (y := nI (2 ^ (vl s (n2 + 1)))) (shl_nI (by omega)) ?_
                          refine w_ior hX dX4_readPerson_117 ?_
                          refine w_top (y := nI (told ||| 2 ^ (vl s (n2 + 1)))) (fa_or _ _) ?_
                          refine w_istore_n (i := 2) (l2 := [some (.ref r), some (.int (nI (B 126))), some (.int (nI (told ||| 2 ^ (vl s (n2 + 1))))), some (.int (nI i)), some (.int (nI (vl s (n2 + 1))))]) hX dX4_readPerson_118 rfl (ltb rfl) rfl rfl ?_
                          refine w_aload_n (i := 0) hX dX4_readPerson_119 rfl rfl ?_
                          refine w_callVV (As := []) (rest := []) (ci := 4) (o := r) (k2 := 0) (n2 := 0) hX dX4_readPerson_120 (s_r_advance Γ ν6 r t b s hr_6 htr hrb (n2 + 2) hS_6.1) okX4_advance (ltb rfl) (rd_s hr_6.1) ml_RX4_57 imX4_advance seX4_advance rfl (leb rfl) (leb rfl) rfl rfl (fun ν8 hq9 => ?_)
                          obtain ⟨hS_8, t8⟩ := hq9
                          have hr_8 := hr_6.sm t8 (fun o k h => by unfold SA at h; omega)
                          have hR_8 := Rb_fr t8 (fun o k h => Or.inl (by unfold SA at h; omega)) hR_6
                          have hC_8 := hC_6.sm t8 (fun o k h => by unfold SA at h; omega)
                          have hf_8 : gI ν8 r 5 = nI 0 := by rw [(t8.2.2 _ _ (fun h => by unfold SA at h; omega)).1]; exact hf_6
                          have hs_8 := hs_6.tr (t8.up (fun o k h => by unfold SA at h; unfold SRB; omega))
                          refine w_aload_n (i := 0) hX dX4_readPerson_123 rfl rfl ?_
                          refine w_bipush hX dX4_readPerson_124 kB_14 ?_
                          refine w_callVI (As := [.int (nI 14)]) (rest := []) (ci := 4) (o := r) (k2 := 0) (n2 := 0) hX dX4_readPerson_126 (s_r_take Γ ν8 r t b s hr_8 htr hrb (n2 + 2) hS_8 14 (by omega)) okX4_take (ltb rfl) (rd_s hr_8.1) ml_RX4_101 imX4_take seX4_take rfl (leb rfl) (leb rfl) rfl rfl (fun r9 ν9 hq9 => ?_)
                          rcases hq9 with ⟨w9, e9, hS_9, t9⟩ | ⟨w9, e9, m9⟩
                          · rw [e9, show bI true = nI 1 from rfl]
                            have hr_9 := hr_8.sm t9 (fun o k h => by unfold SA at h; omega)
                            have hR_9 := Rb_fr t9 (fun o k h => Or.inl (by unfold SA at h; omega)) hR_8
                            have hC_9 := hC_8.sm t9 (fun o k h => by unfold SA at h; omega)
                            have hf_9 : gI ν9 r 5 = nI 0 := by rw [(t9.2.2 _ _ (fun h => by unfold SA at h; omega)).1]; exact hf_8
                            have hs_9 := hs_8.tr (t9.up (fun o k h => by unfold SA at h; unfold SRB; omega))
                            refine wn_if_eq (tgt := 147) hX dX4_readPerson_129 (by decide) (by first | omega | (split <;> omega)) (fun c11 => ?_) (fun c11 => ?_)
                            · exact absurd c11 (by decide)
                            · refine w_aload_n (i := 0) hX dX4_readPerson_132 rfl rfl ?_
                              refine w_iconst hX dX4_readPerson_133 kI_0 ?_
                              refine w_bipush hX dX4_readPerson_134 kB_99 ?_
                              refine w_aload_n (i := 0) hX dX4_readPerson_136 rfl rfl ?_
                              refine w_getR (q := r + 2) hX dX4_readPerson_137 fo_RX4_15 rfl (rd_s hr_9.1) (rd_r1 hr_9.1) ?_
                              refine w_iconst hX dX4_readPerson_140 kI_0 ?_
                              refine w_callVI (As := [.int (nI 0), .int (nI 99), .ref (r + 2), .int (nI 0)]) (rest := []) (ci := 4) (o := r) (k2 := 0) (n2 := 0) hX dX4_readPerson_141 (s_r_takeN Γ ν9 r t b s hr_9 htr hrb (n2 + 3) hS_9 0 99 (by omega) (by omega) (r + 2) (0) 1 (rd_a2 hr_9.1) (by omega) (by omega) (by omega)) okX4_takeNumber (ltb rfl) (rd_s hr_9.1) ml_RX4_123 imX4_takeNumber seX4_takeNumber rfl (leb rfl) (leb rfl) rfl rfl (fun r10 ν10 hq9 => ?_)
                              rcases hq9 with ⟨p10, e10, hS_10, z10, t10⟩ | ⟨f10, p10, e10, m10⟩
                              · rw [e10, show bI true = nI 1 from rfl]
                                obtain ⟨q10, -, l10, g10⟩ := pNb_inr p10
                                have hr_10 := hr_9.sm t10 (fun o k h => by unfold SA at h; omega)
                                have hR_10 := Rb_fr t10 (fun o k h => by unfold SA at h; omega) hR_9
                                have hC_10 := hC_9.sm t10 (fun o k h => by unfold SA at h; omega)
                                have hf_10 : gI ν10 r 5 = nI 0 := by rw [(t10.2.2 _ _ (fun h => by unfold SA at h; omega)).1]; exact hf_9
                                have hs_10 := hs_9.tr (t10.up (fun o k h => by unfold SA at h; unfold SRB; omega))
                                refine wn_if_ne (tgt := 148) hX dX4_readPerson_144 (by decide) (by first | omega | (split <;> omega)) (fun c12 => ?_) (fun c12 => ?_)
                                · refine w_aload_n (i := 0) hX dX4_readPerson_148 rfl rfl ?_
                                  refine w_getR (q := b) hX dX4_readPerson_149 fo_RX4_41 rfl (rd_s hr_10.1) hr_10.2.2.1 ?_
                                  refine w_iload_n (i := 1) hX dX4_readPerson_152 rfl rfl ?_
                                  refine w_iload hX dX4_readPerson_153 rfl ?_
                                  refine w_aload_n (i := 0) hX dX4_readPerson_155 rfl rfl ?_
                                  refine w_getR (q := r + 2) hX dX4_readPerson_156 fo_RX4_15 rfl (rd_s hr_10.1) (rd_r1 hr_10.1) ?_
                                  refine w_iconst hX dX4_readPerson_159 kI_0 ?_
                                  refine w_ialdN hX dX4_readPerson_160 (rd_a2 hr_10.1) (by omega) (by omega) ?_
                                  refine w_top (y := nI (vl s (n2 + 3))) z10 ?_
                                  refine w_callVV (As := [.int (nI (B 126)), .int (nI (vl s (n2 + 1))), .int (nI (vl s (n2 + 3)))]) (rest := []) (ci := 0) (o := b) (k2 := 0) (n2 := 0) hX dX4_readPerson_161 (s_b_setW Γ ν10 b hR_10.1 (B 126) (vl s (n2 + 1)) (vl s (n2 + 3)) (by omega) (by omega) (by omega)) okX0_setWorth (ltb rfl) (bk_s hR_10.1) ml_RX4_150 imX0_setWorth seX0_setWorth rfl (leb rfl) (leb rfl) rfl rfl (fun μ9 hq9 => ?_)
                                  rw [hq9]; clear hq9 μ9
                                  refine w_iincN (w := 1) (l2 := [some (.ref r), some (.int (nI (B 126))), some (.int (nI (told ||| 2 ^ (vl s (n2 + 1))))), some (.int (nI (i + 1))), some (.int (nI (vl s (n2 + 1))))]) hX dX4_readPerson_164 rfl kI_1 rfl rfl ?_
                                  refine w_goto (tgt := 54) hX dX4_readPerson_167 (by decide) ?_
                                  have s11 : same (fun o2 k2 => (o2 = b + 4 ∧ k2 = B 126 * 24 + vl s (n2 + 1) - 1)) ν10 (sI ν10 (b + 4) (B 126 * 24 + vl s (n2 + 1) - 1) (nI (vl s (n2 + 3)))) := (same.rf).sI (⟨rfl, rfl⟩)
                                  have zz12 : gI (sI ν10 (b + 4) (B 126 * 24 + vl s (n2 + 1) - 1) (nI (vl s (n2 + 3)))) (r + 2) (0) = nI (vl s (n2 + 3)) := by rw [(s11.2.2 _ _ (fun h => by omega)).1]; exact z10
                                  have hr_11 := hr_10.sm s11 (fun o k h => by omega)
                                  have hS_11 := hS_10.sm s11 (fun k h1 h2 h => by omega)
                                  have hR_11 := Rb_wish (v := vl s (n2 + 3)) hR_10 (by omega) (by omega) (show 1 ≤ vl s (n2 + 1) by omega) (by omega)
                                  have hC_11 := hC_10.sm s11 (fun o k h => by omega)
                                  have hf_11 : gI (sI ν10 (b + 4) (B 126 * 24 + vl s (n2 + 1) - 1) (nI (vl s (n2 + 3)))) r 5 = nI 0 := by rw [(s11.2.2 _ _ (fun h => by omega)).1]; exact hf_10
                                  have hs_11 := hs_10.tr (s11.up (fun o k h => by unfold SRB; omega))
                                  refine w_sub (l2 := [some (.ref r), some (.int (nI (B 126))), some (.int (nI (told ||| 2 ^ (vl s (n2 + 1))))), some (.int (nI (i + 1))), none]) (by simp [lsub]) (leb rfl) ?_
                                  have hpx : pHrs s (addM M (wd s (n + 1)) 2 (B 126)) (B 126) (q + 1 + 1) n2 told B2 = pHrs s (addM M (wd s (n + 1)) 2 (B 126)) (B 126) (q + 1) (n2 + 4) (told ||| 2 ^ (vl s (n2 + 1))) (stB B2 (127 + 25 * B 126 + vl s (n2 + 1)) (vl s (n2 + 3))) := pHrs_S.trans ((if_neg (by omega)).trans ((bnd_r p7).trans ((if_neg (by rw [htf]; decide)).trans ((bnd_r (pWd_y w9)).trans (bnd_r p10)))))
                                  exact ih (i + 1) (n2 + 4) (told ||| 2 ^ (vl s (n2 + 1))) _ _ (by omega) (Nat.or_lt_two_pow ht25 (Nat.pow_lt_pow_right (by omega) (by omega))) (by rw [or_tb, htb]; simp; omega) (by rw [pcn_or htf (by omega), hpc]) (by rw [stB_ne (by omega)]; exact hB85) hr_11 hS_11 hR_11 hC_11 hf_11 hs_11 (hres.trans (congrArg (fun z => bnd z (pSemi s)) hpx))
                                · exact absurd c12 (by decide)
                              · rw [e10, m10, show bI false = nI 0 from rfl]
                                refine wn_if_ne (tgt := 148) hX dX4_readPerson_144 (by decide) (by first | omega | (split <;> omega)) (fun c13 => ?_) (fun c13 => ?_)
                                · exact absurd c13 (by decide)
                                · have hpx : pHrs s (addM M (wd s (n + 1)) 2 (B 126)) (B 126) (q + 1 + 1) n2 told B2 = .inl f10 := pHrs_S.trans ((if_neg (by omega)).trans ((bnd_r p7).trans ((if_neg (by rw [htf]; decide)).trans ((bnd_r (pWd_y w9)).trans (bnd_l p10)))))
                                  exact w_vret hX hE dX4_readPerson_147 (Or.inl rfl) (RX_l (hres.trans (bnd_l hpx)) hs_9 (pNb_l hr.2.2.2.2.2 p10))
                          · rw [e9, m9, show bI false = nI 0 from rfl]
                            refine wn_if_eq (tgt := 147) hX dX4_readPerson_129 (by decide) (by first | omega | (split <;> omega)) (fun c14 => ?_) (fun c14 => ?_)
                            · have hpx : pHrs s (addM M (wd s (n + 1)) 2 (B 126)) (B 126) (q + 1 + 1) n2 told B2 = .inl (ft s 1 (n2 + 2)) := pHrs_S.trans ((if_neg (by omega)).trans ((bnd_r p7).trans ((if_neg (by rw [htf]; decide)).trans (bnd_l (pWd_n w9)))))
                              exact w_vret hX hE dX4_readPerson_147 (Or.inl rfl) (RX_l (hres.trans (bnd_l hpx)) hs_8 (ft_lt hr.2.2.2.2.2 (by omega) (by omega)))
                            · exact absurd c14 (by decide)
                        · exact absurd c10 (by decide)
                  · rw [e7, m7, show bI false = nI 0 from rfl]
                    refine wn_if_eq (tgt := 111) hX dX4_readPerson_86 (by decide) (by first | omega | (split <;> omega)) (fun c15 => ?_) (fun c15 => ?_)
                    · have hpx : pHrs s (addM M (wd s (n + 1)) 2 (B 126)) (B 126) (q + 1 + 1) n2 told B2 = .inl f7 := pHrs_S.trans ((if_neg (by omega)).trans (bnd_l p7))
                      exact w_vret hX hE dX4_readPerson_111 (Or.inl rfl) (RX_l (hres.trans (bnd_l hpx)) hs_6 (pNb_l hr.2.2.2.2.2 p7))
                    · exact absurd c15 (by decide)
          exact loop 25 0 (n + 2) 0 (stB B 126 (B 126 + 1)) _ (by omega) (by omega) (by simp) (pcn_z 25) (stB_ne (by omega)) hr_4 hS_4 hR_4 hC_4 hf_4 hs_4 (by rw [hpn])
        · exact absurd c4 (by decide)
      · rw [e3, m3, show bI false = nI 0 from rfl]
        refine wn_if_ne (tgt := 37) hX dX4_readPerson_33 (by decide) (by first | omega | (have := kd_le (s := s) (n := n); omega)) (fun c16 => ?_) (fun c16 => ?_)
        · exact absurd c16 (by decide)
        · have hpx : pPerson s n B M = .inl (ft s 1 (n + 1)) := by unfold pPerson; exact bnd_l (pNew_1 (by omega) w3)
          exact w_vret hX hE dX4_readPerson_36 (Or.inl rfl) (RX_l (bnd_l hpx) hs_2 (ft_lt hr.2.2.2.2.2 (by omega) (by omega)))
      · rw [e3, m3, show bI false = nI 0 from rfl]
        refine wn_if_ne (tgt := 37) hX dX4_readPerson_33 (by decide) (by first | omega | (have := kd_le (s := s) (n := n); omega)) (fun c17 => ?_) (fun c17 => ?_)
        · exact absurd c17 (by decide)
        · have hpx : pPerson s n B M = .inl (ft s 3 (n + 1)) := by unfold pPerson; exact bnd_l (pNew_3 (by omega) w3 u3)
          exact w_vret hX hE dX4_readPerson_36 (Or.inl rfl) (RX_l (bnd_l hpx) hs_2 (ft_lt hr.2.2.2.2.2 (by omega) (by omega)))
