def SBA (m : Nat) : Nat → Nat → Prop := fun o k => (o = m ∧ (k = 0 ∨ k = 2 ∨ k = 3 ∨ k = 7 ∨ k = 8 ∨ k = 14 ∨ k = 15)) ∨ (o = m + 2 ∨ o = m + 3 ∨ o = m + 4) ∨ (o = m + 6 ∧ 480 ≤ k ∧ k < 960) ∨ (m + 7 ≤ o ∧ o ≤ m + 9)
def SBB (m : Nat) : Nat → Nat → Prop := fun o k => (o = m ∧ (k = 0 ∨ k = 2 ∨ k = 3 ∨ k = 7 ∨ k = 8 ∨ k = 14 ∨ k = 15)) ∨ (o = m + 2 ∨ o = m + 3 ∨ o = m + 4) ∨ (o = m + 6 ∧ k < 960) ∨ (m + 7 ≤ o ∧ o ≤ m + 9) ∨ o = m + 22
def BKP (μ μ2 : Mem) (m : Nat) (s : Tp) (r : Int32) : Prop := match pRead s with
  | .inl f => r = nI f ∧ 1 ≤ f ∧ f < 2 ^ 20 ∧ same (SBA m) μ μ2 ∧ gI μ2 m 2 = nI 0
  | .inr st => r = nI 0 ∧ same (SBB m) μ μ2 ∧ gI μ2 m 2 = nI 0 ∧ (∀ j, j < 480 → gI μ2 (m + 6) j = nI (st.2.1 j)) ∧ ∀ j, j < 4 → gI μ2 (m + 22) j = nI 0
theorem BKP_l {μ μ2 : Mem} {m f : Nat} {s : Tp} (h : pRead s = .inl f) (h1 : 1 ≤ f ∧ f < 2 ^ 20) (hs : same (SBA m) μ μ2) (h2 : gI μ2 m 2 = nI 0) : BKP μ μ2 m s (nI f) := by
  unfold BKP; rw [h]; exact ⟨rfl, h1.1, h1.2, hs, h2⟩
theorem BKP_r {μ μ2 : Mem} {m : Nat} {s : Tp} {st : PSt} (h : pRead s = .inr st) (hs : same (SBB m) μ μ2) (h2 : gI μ2 m 2 = nI 0) (hv : ∀ j, j < 480 → gI μ2 (m + 6) j = nI (st.2.1 j)) (hz : ∀ j, j < 4 → gI μ2 (m + 22) j = nI 0) : BKP μ μ2 m s (nI 0) := by
  unfold BKP; rw [h]; exact ⟨rfl, hs, h2, hv, hz⟩
set_option maxHeartbeats 1000000 in
theorem s_m_book (Γ : Gm) (μ : Mem) (m : Nat) (s : Tp) (hT : mtR μ m s) (hok : okT s) (hkw : ∀ k, k < 18 → gL μ (m + 5) k = lN (phi (kw k))) : SpI Γ MX9_book 6 0 0 [.ref m] μ (fun r μ2 => BKP μ μ2 m s r) := by
  refine SpI.of okX9_book rfl [some (.ref m), none] ⟨rfl, trivial⟩ (leb rfl) (leb rfl) (fun X hX hE hnm => ?_)
  refine w_aload_n (i := 0) hX dX9_book_0 rfl rfl ?_
  refine w_iconst hX dX9_book_1 kI_0 ?_
  refine w_putI hX dX9_book_2 fo_RX9_1 rfl rfl rfl rfl (mod_s hT.1) ?_
  refine w_aload_n (i := 0) hX dX9_book_5 rfl rfl ?_
  have hT0 : mtR (sI μ m 0 (nI 0)) m s := ⟨hT.1, by rw [gI_nk (by omega)]; exact hT.2.1, fun j hj => by rw [gI_no (by omega)]; exact hT.2.2 j hj⟩
  refine w_callVV (As := []) (rest := []) (ci := 9) (o := m) (k2 := 0) (n2 := 0) hX dX9_book_6 (s_m_cut Γ (sI μ m 0 (nI 0)) m s hT0 hok) okX9_cutAll (ltb rfl) (mod_s hT.1) ml_RX9_177 imX9_cutAll seX9_cutAll rfl (leb rfl) (leb rfl) rfl rfl (fun ν0 hq9 => ?_)
  obtain ⟨hk0, h80, h70, h20, hs0⟩ := hq9
  have hT_0 : isMod ν0 m ∧ True := ⟨hs0.isMod hT.1, trivial⟩
  have hs0m : same (SBA m) μ ν0 := (same.rf.sI (Or.inl ⟨rfl, Or.inl rfl⟩)).tr (hs0.up (fun o k h => by unfold SBA; omega))
  refine w_aload_n (i := 0) hX dX9_book_9 rfl rfl ?_
  refine w_iconst hX dX9_book_10 kI_0 ?_
  refine w_putI hX dX9_book_11 fo_RX9_180 rfl rfl rfl rfl (mod_s hT_0.1) ?_
  refine w_iconst hX dX9_book_14 kI_0 ?_
  refine w_istore_n (i := 1) (l2 := [some (.ref m), some (.int (nI 0))]) hX dX9_book_15 rfl (ltb rfl) rfl rfl ?_
  have out : ∀ ν f, MT ν m s → MFt ν m s f → same (SBA m) μ ν → gI ν m 2 = nI 0 → pRead s = .inl f → WP Γ X 0 0 40 [some (.ref m), none] [] ν := by
    intro ν f hT_f hF_f hsf h2f hres
    have hf9 := hF_f.2.1
    refine w_aload_n (i := 0) hX dX9_book_40 rfl rfl ?_
    refine w_getI hX dX9_book_41 fo_RX9_154 rfl (mod_s hT_f.1) ?_
    refine w_top (y := nI f) hF_f.1 ?_
    refine wn_if_ne (tgt := 72) hX dX9_book_44 (by decide) (by omega) (fun c1 => ?_) (fun c1 => ?_)
    · refine w_aload_n (i := 0) hX dX9_book_72 rfl rfl ?_
      refine w_getI hX dX9_book_73 fo_RX9_154 rfl (mod_s hT_f.1) ?_
      refine w_top (y := nI f) hF_f.1 ?_
      refine wn_if_le (tgt := 84) hX dX9_book_76 (by decide) (by omega) (fun c2 => ?_) (fun c2 => ?_)
      · exfalso; omega
      · refine w_aload_n (i := 0) hX dX9_book_79 rfl rfl ?_
        refine w_getI hX dX9_book_80 fo_RX9_154 rfl (mod_s hT_f.1) ?_
        refine w_top (y := nI f) hF_f.1 ?_
        exact w_iret hX hE dX9_book_83 (Or.inl rfl) rfl (BKP_l hres hf9 hsf h2f)
    · exfalso; omega
  have fin : ∀ ν n, ∀ B : Nat → Nat, ∀ M : NM, MT ν m s → MSt ν m s n → MBk ν m B → same (SBA m) μ ν → gI ν m 2 = nI 0 → pRead s = .inr (n, B, M) → WP Γ X 0 0 72 [some (.ref m), none] [] ν := by
    intro ν n B M hT_g hS_g hB_g hsg h2g hres
    refine w_aload_n (i := 0) hX dX9_book_72 rfl rfl ?_
    refine w_getI hX dX9_book_73 fo_RX9_154 rfl (mod_s hT_g.1) ?_
    refine w_top (y := nI 0) hS_g.2.2 ?_
    refine wn_if_le (tgt := 84) hX dX9_book_76 (by decide) (by omega) (fun c3 => ?_) (fun c3 => ?_)
    · refine w_aload_n (i := 0) hX dX9_book_84 rfl rfl ?_
      refine w_iconst hX dX9_book_85 kI_1 ?_
      refine w_iconst hX dX9_book_86 kI_0 ?_
      refine w_callVV (As := [.int (nI 1), .int (nI 0)]) (rest := []) (ci := 9) (o := m) (k2 := 0) (n2 := 0) hX dX9_book_87 (s_m_carry Γ ν m 1 0 hT_g.1 (by omega) (by omega) (by omega)) okX9_carry (ltb rfl) (mod_s hT_g.1) ml_RX9_189 imX9_carry seX9_carry rfl (leb rfl) (leb rfl) rfl rfl (fun ν3 hq9 => ?_)
      obtain ⟨hs3, hv3⟩ := hq9
      have hT_3 : isMod ν3 m ∧ True := ⟨hs3.isMod hT_g.1, trivial⟩
      refine w_iconst hX dX9_book_90 kI_0 ?_
      refine w_istore_n (i := 1) (l2 := [some (.ref m), some (.int (nI 0))]) hX dX9_book_91 rfl (ltb rfl) rfl rfl ?_
      have mk : ∀ k, k ≤ 4 → ∀ ν4 : Mem, same (fun o q => o = m + 22) ν3 ν4 → (∀ j, j < k → gI ν4 (m + 22) j = nI 0) → WP Γ X 0 0 92 [some (.ref m), some (.int (nI k))] [] ν4 := by
        refine loopU 4 ?_
        intro k hk ih ν4 hs4 hz4
        have hT_4 : isMod ν4 m ∧ True := ⟨hs4.isMod hT_3.1, trivial⟩
        refine w_iload_n (i := 1) hX dX9_book_92 rfl rfl ?_
        refine w_iconst hX dX9_book_93 kI_4 ?_
        refine wn_icmp_ge (tgt := 110) hX dX9_book_94 (by decide) (by omega) (by omega) (fun c4 => ?_) (fun c4 => ?_)
        · refine w_iconst hX dX9_book_110 kI_0 ?_
          exact w_iret hX hE dX9_book_111 (Or.inl rfl) rfl (BKP_r hres ((hsg.up (fun o k h => by unfold SBA at h; unfold SBB; omega)).tr ((hs3.up (fun o k h => by unfold SBB; omega)).tr (hs4.up (fun o k h => by unfold SBB; omega)))) (by rw [(hs4.2.2 _ _ (fun h => by omega)).1, (hs3.2.2 _ _ (fun h => by omega)).1]; exact h2g) (fun j hj => by rw [(hs4.2.2 _ _ (fun h => by omega)).1]; have h9 := hv3 j hj; rw [show 480 * 0 + j = j by omega, show 480 * 1 + j = 480 + j by omega, hB_g j hj] at h9; exact h9) (fun j hj => hz4 j (by omega)))
        · refine w_aload_n (i := 0) hX dX9_book_97 rfl rfl ?_
          refine w_getR (q := m + 22) hX dX9_book_98 fo_RX9_125 rfl (mod_s hT_4.1) (mod_r32 hT_4.1) ?_
          refine w_iload_n (i := 1) hX dX9_book_101 rfl rfl ?_
          refine w_iconst hX dX9_book_102 kI_0 ?_
          refine w_zastN hX dX9_book_103 (mod_a22 hT_4.1) (by omega) (by omega) rfl ?_
          refine w_iincN (w := 1) (l2 := [some (.ref m), some (.int (nI (k + 1)))]) hX dX9_book_104 rfl kI_1 rfl rfl ?_
          refine w_goto (tgt := 92) hX dX9_book_107 (by decide) ?_
          exact ih (by omega) _ (hs4.sI rfl) (fun j hj => by by_cases e : j = k; (rw [e, gI_same]; rfl); rw [gI_nk (by omega)]; exact hz4 j (by omega))
      exact mk 0 (Nat.zero_le _) ν3 same.rf (fun j hj => absurd hj (Nat.not_lt_zero _))
    · exact absurd c3 (by decide)
  have main : ∀ q n, ∀ B : Nat → Nat, ∀ M : NM, ∀ ν : Mem, 1000 ≤ pl s n + q → PIv B M → MT ν m s → MSt ν m s n → MBk ν m B → MN ν m M → same (SBA m) μ ν → gI ν m 2 = nI 0 → pRead s = pAll s (q + 1) (n, B, M) → WP Γ X 0 0 40 [some (.ref m), none] [] ν := by
    intro q
    induction q with
    | zero =>
      intro n B M ν hpq hP hT_k hS_k hB_k hN_k hs_k h2k hres
      obtain ⟨z, hz, hz4, z0, z1, z2, z3, hpl, hwv, hvv, hcv0⟩ := hT_k.2.2.1 n hS_k.2.1
      clear hcv0
      have hn := (rch_le hT_k.2.2.2 n hS_k.2.1).2
      have hL1 := hok.1
      refine w_aload_n (i := 0) hX dX9_book_40 rfl rfl ?_
      refine w_getI hX dX9_book_41 fo_RX9_154 rfl (mod_s hT_k.1) ?_
      refine w_top (y := nI 0) hS_k.2.2 ?_
      refine wn_if_ne (tgt := 72) hX dX9_book_44 (by decide) (by omega) (fun c5 => ?_) (fun c5 => ?_)
      · exact absurd c5 (by decide)
      · refine w_aload_n (i := 0) hX dX9_book_47 rfl rfl ?_
        refine w_getR (q := m + 2) hX dX9_book_48 fo_RX9_24 rfl (mod_s hT_k.1) (mod_r4 hT_k.1) ?_
        refine w_aload_n (i := 0) hX dX9_book_51 rfl rfl ?_
        refine w_getI hX dX9_book_52 fo_RX9_151 rfl (mod_s hT_k.1) ?_
        refine w_top (y := nI n) hS_k.1 ?_
        refine w_ialdN hX dX9_book_55 (mod_a2 hT_k.1) (by omega) (by omega) ?_
        refine w_top (y := nI z) hz ?_
        refine wn_if_eq (tgt := 72) hX dX9_book_56 (by decide) (by omega) (fun c6 => ?_) (fun c6 => ?_)
        · exact fin ν n B M hT_k hS_k hB_k hs_k h2k (by rw [hres, pAll_S, if_pos (show kd s n = 0 by omega)])
        · have h9 := (ps_lt (s := s) (n := n) (by omega)).2.1; exfalso; omega
    | succ q ih =>
      intro n B M ν hpq hP hT_k hS_k hB_k hN_k hs_k h2k hres
      obtain ⟨z, hz, hz4, z0, z1, z2, z3, hpl, hwv, hvv, hcv0⟩ := hT_k.2.2.1 n hS_k.2.1
      clear hcv0
      have hn := (rch_le hT_k.2.2.2 n hS_k.2.1).2
      have hL1 := hok.1
      refine w_aload_n (i := 0) hX dX9_book_40 rfl rfl ?_
      refine w_getI hX dX9_book_41 fo_RX9_154 rfl (mod_s hT_k.1) ?_
      refine w_top (y := nI 0) hS_k.2.2 ?_
      refine wn_if_ne (tgt := 72) hX dX9_book_44 (by decide) (by omega) (fun c7 => ?_) (fun c7 => ?_)
      · exact absurd c7 (by decide)
      · refine w_aload_n (i := 0) hX dX9_book_47 rfl rfl ?_
        refine w_getR (q := m + 2) hX dX9_book_48 fo_RX9_24 rfl (mod_s hT_k.1) (mod_r4 hT_k.1) ?_
        refine w_aload_n (i := 0) hX dX9_book_51 rfl rfl ?_
        refine w_getI hX dX9_book_52 fo_RX9_151 rfl (mod_s hT_k.1) ?_
        refine w_top (y := nI n) hS_k.1 ?_
        refine w_ialdN hX dX9_book_55 (mod_a2 hT_k.1) (by omega) (by omega) ?_
        refine w_top (y := nI z) hz ?_
        refine wn_if_eq (tgt := 72) hX dX9_book_56 (by decide) (by omega) (fun c8 => ?_) (fun c8 => ?_)
        · exact fin ν n B M hT_k hS_k hB_k hs_k h2k (by rw [hres, pAll_S, if_pos (show kd s n = 0 by omega)])
        · have hkn : kd s n ≠ 0 := by omega
          have hres2 : pRead s = bnd (bnd (pSen s n B M) (pSemi s)) (pAll s (q + 1)) := by rw [hres, pAll_S, if_neg hkn]
          refine w_aload_n (i := 0) hX dX9_book_59 rfl rfl ?_
          refine w_callVV (As := []) (rest := []) (ci := 9) (o := m) (k2 := 0) (n2 := 0) hX dX9_book_60 (s_m_line Γ ν m s n B M hT_k hS_k hB_k hN_k hP hkn) okX9_readLine (ltb rfl) (mod_s hT_k.1) ml_RX9_183 imX9_readLine seX9_readLine rfl (leb rfl) (leb rfl) rfl rfl (fun ν2 hq9 => ?_)
          replace hq9 := MX_or hq9
          rcases hq9 with ⟨f, hps, hF_2, hs2⟩ | ⟨st2, hps, hS_2, hB_2, hN_2, hs2⟩
          · have hT_2 := hT_k.sm hs2 (fun o k h => by unfold SMm at h; omega)
            have hsx := hs_k.tr (hs2.up (fun o k h => by unfold SMm at h; unfold SBA; omega))
            have h2x : gI ν2 m 2 = nI 0 := by rw [(hs2.2.2 _ _ (fun h => by unfold SMm at h; omega)).1]; exact h2k
            refine w_aload_n (i := 0) hX dX9_book_63 rfl rfl ?_
            refine w_bipush hX dX9_book_64 kB_59 ?_
            refine w_callVV (As := [.int (nI 59)]) (rest := []) (ci := 9) (o := m) (k2 := 0) (n2 := 0) hX dX9_book_66 (s_m_takeSignf Γ ν2 m s hT_2 f hF_2) okX9_takeSign (ltb rfl) (mod_s hT_2.1) ml_RX9_186 imX9_takeSign seX9_takeSign rfl (leb rfl) (leb rfl) rfl rfl (fun μ9 hq9 => ?_)
            rw [hq9]; clear hq9 μ9
            refine w_goto (tgt := 40) hX dX9_book_69 (by decide) ?_
            exact out ν2 f hT_2 hF_2 hsx h2x (hres2.trans (bnd_l (bnd_l hps)))
          · have hT_2 := hT_k.sm hs2 (fun o k h => by unfold SMm at h; omega)
            have hsx := hs_k.tr (hs2.up (fun o k h => by unfold SMm at h; unfold SBA; omega))
            have h2x : gI ν2 m 2 = nI 0 := by rw [(hs2.2.2 _ _ (fun h => by unfold SMm at h; omega)).1]; exact h2k
            refine w_aload_n (i := 0) hX dX9_book_63 rfl rfl ?_
            refine w_bipush hX dX9_book_64 kB_59 ?_
            refine w_callVV (As := [.int (nI 59)]) (rest := []) (ci := 9) (o := m) (k2 := 0) (n2 := 0) hX dX9_book_66 (s_m_takeSign0 Γ ν2 m s hT_2 st2.1 hS_2) okX9_takeSign (ltb rfl) (mod_s hT_2.1) ml_RX9_186 imX9_takeSign seX9_takeSign rfl (leb rfl) (leb rfl) rfl rfl (fun ν3 hq9 => ?_)
            rcases hq9 with ⟨hk2, hm2⟩ | ⟨hk2, hm2⟩
            · rw [hm2]
              refine w_goto (tgt := 40) hX dX9_book_69 (by decide) ?_
              have t9 : same (SA2 m) ν2 (sI ν2 m 7 (nI (st2.1 + 1))) := same.rf.sI ⟨rfl, Or.inl rfl⟩
              have h9 : bnd (pSen s n B M) (pSemi s) = .inr (st2.1 + 1, st2.2) := (bnd_r hps).trans (bnd_r (pWd_y hk2))
              have hok9 := pSen_ok hP h9
              have hlt0 : n + 1 < st2.1 + 1 := hok9.2
              have hlt := (ps_lt hkn).2.2
              have hmo := pl_mono (s := s) (st2.1 + 1 - (n + 1)) (n + 1)
              rw [show n + 1 + (st2.1 + 1 - (n + 1)) = st2.1 + 1 by omega] at hmo
              exact ih (st2.1 + 1) st2.2.1 st2.2.2 _ (by omega) hok9.1 (hT_2.sm t9 (fun o k h => by unfold SA2 at h; omega)) (hS_2.next (by omega)) (hB_2.sm t9 (fun o k h => by unfold SA2 at h; omega)) (hN_2.sm t9 (fun o k h => by unfold SA2 at h; omega)) (hsx.tr (t9.up (fun o k h => by unfold SA2 at h; unfold SBA; omega))) (by rw [gI_nk (by omega)]; exact h2x) (hres2.trans (bnd_r h9))
            · rw [hm2]
              refine w_goto (tgt := 40) hX dX9_book_69 (by decide) ?_
              have t9 : same (SA2 m) ν2 (sI ν2 m 8 (nI (ft s 1 st2.1))) := same.rf.sI ⟨rfl, Or.inr rfl⟩
              exact out _ (ft s 1 st2.1) (hT_2.sm t9 (fun o k h => by unfold SA2 at h; omega)) (hS_2.bad (ft_lt hok (by omega) (by omega))) (hsx.tr (t9.up (fun o k h => by unfold SA2 at h; unfold SBA; omega))) (by rw [gI_nk (by omega)]; exact h2x) (hres2.trans (bnd_l ((bnd_r hps).trans (bnd_l (pWd_n hk2)))))
  have clr : ∀ k, k ≤ 480 → ∀ ν : Mem, same (fun o q => o = m + 6 ∧ 480 ≤ q ∧ q < 960) (sI ν0 m 14 (nI 0)) ν → (∀ j, j < k → gI ν (m + 6) (480 + j) = nI 0) → WP Γ X 0 0 16 [some (.ref m), some (.int (nI k))] [] ν := by
    refine loopU 480 ?_
    intro k hk ih ν hsc hz
    have hT_c : isMod ν m ∧ True := ⟨hsc.isMod hT_0.1, trivial⟩
    refine w_iload_n (i := 1) hX dX9_book_16 rfl rfl ?_
    refine w_sipush hX dX9_book_17 kS_480 ?_
    refine wn_icmp_ge (tgt := 40) hX dX9_book_20 (by decide) (by omega) (by omega) (fun c9 => ?_) (fun c9 => ?_)
    · refine w_sub (l2 := [some (.ref m), none]) (by simp [lsub]) (leb rfl) ?_
      have hg : ∀ o q, ¬ (o = m + 6 ∧ 480 ≤ q ∧ q < 960) → ¬ (o = m ∧ q = 14) → gI ν o q = gI ν0 o q := fun o q h1 h2 => by rw [(hsc.2.2 o q h1).1, gI_ne (fun h => h2 h)]
      have t14 : same (fun o q => o = m ∧ q = 14) ν0 (sI ν0 m 14 (nI 0)) := same.rf.sI ⟨rfl, rfl⟩
      have hTa : MT ν m s := ⟨hT_c.1, fun k9 hk9 => by rw [(hsc.2.2 _ _ (fun h => by omega)).2, gL_sI, (hs0.2.2 _ _ (fun h => by omega)).2, gL_sI]; exact hkw k9 hk9, fun j hj => ((hk0 j hj).sm t14 (fun h => by omega) (fun h => by omega) (fun h => by omega)).sm hsc (fun h => by omega) (fun h => by omega) (fun h => by omega), hok⟩
      exact main 1000 0 (fun _ => 0) M0 ν (by omega) PI0 hTa ⟨by rw [hg _ _ (by omega) (by omega)]; exact h70, fun i hi => absurd hi (Nat.not_lt_zero _), by rw [hg _ _ (by omega) (by omega)]; exact h80⟩ (fun j hj => hz j (by omega)) ⟨by rw [(hsc.2.2 _ _ (fun h => by omega)).1, gI_same]; rfl, Nat.zero_le _, fun i hi => absurd hi (Nat.not_lt_zero _)⟩ ((hs0m.sI (Or.inl ⟨rfl, by omega⟩)).tr (hsc.up (fun o k h => by unfold SBA; omega))) (by rw [hg _ _ (by omega) (by omega)]; exact h20) rfl
    · refine w_aload_n (i := 0) hX dX9_book_23 rfl rfl ?_
      refine w_getR (q := m + 6) hX dX9_book_24 fo_RX9_73 rfl (mod_s hT_c.1) (mod_r10 hT_c.1) ?_
      refine w_sipush hX dX9_book_27 kS_480 ?_
      refine w_iload_n (i := 1) hX dX9_book_30 rfl rfl ?_
      refine w_iaddN hX dX9_book_31 ?_
      refine w_iconst hX dX9_book_32 kI_0 ?_
      refine w_iastN hX dX9_book_33 (mod_a6 hT_c.1) (by omega) (by omega) ?_
      refine w_iincN (w := 1) (l2 := [some (.ref m), some (.int (nI (k + 1)))]) hX dX9_book_34 rfl kI_1 rfl rfl ?_
      refine w_goto (tgt := 16) hX dX9_book_37 (by decide) ?_
      exact ih (by omega) _ (hsc.sI ⟨rfl, by omega, by omega⟩) (fun j hj => by by_cases e : j = k; (rw [e, gI_same]); rw [gI_nk (by omega)]; exact hz j (by omega))
  exact clr 0 (Nat.zero_le _) _ same.rf (fun j hj => absurd hj (Nat.not_lt_zero _))
