theorem Rb_fr {S : Nat → Nat → Prop} {μ ν : Mem} {b : Nat} {B : Nat → Nat} (h : same S μ ν) (hS : ∀ o k, S o k → o < b ∨ b + 16 ≤ o ∨ (b + 7 ≤ o ∧ o ≤ b + 9) ∨ (o = b ∧ k = 15) ∨ (o = b + 3 ∧ 5 * B 85 ≤ k) ∨ (o = b + 5 ∧ 4 * B 352 ≤ k) ∨ (o = b + 6 ∧ 4 * B 401 ≤ k)) (hR : Rb μ b B) : Rb ν b B := by
  obtain ⟨h0, h1, h2, h3, h4, h5, h6, h7, h8, h9, h10, h11, h12⟩ := hR
  have g : ∀ o k, ¬ (o < b ∨ b + 16 ≤ o ∨ (b + 7 ≤ o ∧ o ≤ b + 9) ∨ (o = b ∧ k = 15) ∨ (o = b + 3 ∧ 5 * B 85 ≤ k) ∨ (o = b + 5 ∧ 4 * B 352 ≤ k) ∨ (o = b + 6 ∧ 4 * B 401 ≤ k)) → gI ν o k = gI μ o k := fun o k hn => (h.2.2 o k (fun q => hn (hS o k q))).1
  refine ⟨h.isBk h0, ?_, fun t ht => ?_, fun i hi => ?_, ?_, ?_, fun i hi => ?_, ?_, fun q s hq h1' h2' => ?_, ?_, fun i hi => ?_, ?_, fun i hi => ?_⟩
  · rw [g _ _ (by omega)]; exact h1
  · obtain ⟨c1, c2, c3, c4⟩ := h2 t ht
    exact ⟨h.isClk c1, by rw [g _ _ (by omega)]; exact c2, c3, fun k hk => by rw [g _ _ (by omega)]; exact c4 k hk⟩
  · rw [g _ _ (by omega)]; exact h3 i hi
  · rw [g _ _ (by omega)]; exact h4
  · rw [g _ _ (by omega)]; exact h5
  · rw [g _ _ (by omega)]; exact h6 i hi
  · rw [g _ _ (by omega)]; exact h7
  · rw [g _ _ (by omega)]; exact h8 q s hq h1' h2'
  · rw [g _ _ (by omega)]; exact h9
  · rw [g _ _ (by omega)]; exact h10 i hi
  · rw [g _ _ (by omega)]; exact h11
  · rw [g _ _ (by omega)]; exact h12 i hi
def SRB (r b : Nat) : Nat → Nat → Prop := fun o k => (o = r ∧ 4 ≤ k) ∨ o = r + 2 ∨ (b ≤ o ∧ o ≤ b + 15)
def RX (r b : Nat) (s : Tp) (res : Nat ⊕ PSt) (μ μ2 : Mem) : Prop := same (SRB r b) μ μ2 ∧ match res with
  | .inl f => gI μ2 r 5 = nI f ∧ 1 ≤ f ∧ f < 2 ^ 20
  | .inr st => gI μ2 r 5 = nI 0 ∧ RS μ2 r s st.1 ∧ Rb μ2 b st.2.1 ∧ CN μ2 b st.2.2
theorem RX_l {r b f : Nat} {s : Tp} {res : Nat ⊕ PSt} {μ ν : Mem} (h : res = .inl f) (hs : same (SRB r b) μ ν) (hf : 1 ≤ f ∧ f < 2 ^ 20) : RX r b s res μ (sI ν r 5 (nI f)) := by
  subst h
  exact ⟨hs.sI (Or.inl ⟨rfl, by omega⟩), gI_same, hf⟩
theorem RX_r {r b : Nat} {s : Tp} {res : Nat ⊕ PSt} {st : PSt} {μ ν : Mem} (h : res = .inr st) (hs : same (SRB r b) μ ν) (h5 : gI ν r 5 = nI 0) (hS : RS ν r s st.1) (hR : Rb ν b st.2.1) (hC : CN ν b st.2.2) : RX r b s res μ ν := by
  subst h
  exact ⟨hs, h5, hS, hR, hC⟩
theorem bnd_l {α β : Type} {x : Nat ⊕ α} {f : α → Nat ⊕ β} {e : Nat} (h : x = .inl e) : bnd x f = .inl e := by rw [h]; rfl
theorem bnd_r {α β : Type} {x : Nat ⊕ α} {f : α → Nat ⊕ β} {a : α} (h : x = .inr a) : bnd x f = f a := by rw [h]; rfl
theorem pWd_y {s : Tp} {n w : Nat} (h : kd s n = w) : pWd s n w = .inr () := if_pos h
theorem pWd_n {s : Tp} {n w : Nat} (h : kd s n ≠ w) : pWd s n w = .inl (ft s 1 n) := if_neg h
theorem pNew_5 {s : Tp} {n a0 most what : Nat} {B : Nat → Nat} {M : NM} (h : most ≤ B a0) : pNew s n B M a0 most what = .inl (ft s 5 n) := if_pos h
theorem pNew_1 {s : Tp} {n a0 most what : Nat} {B : Nat → Nat} {M : NM} (h : B a0 < most) (h1 : kd s (n + 1) ≠ 4) : pNew s n B M a0 most what = .inl (ft s 1 (n + 1)) := (if_neg (by omega)).trans (if_pos h1)
theorem pNew_3 {s : Tp} {n a0 most what i : Nat} {B : Nat → Nat} {M : NM} (h : B a0 < most) (h1 : kd s (n + 1) = 4) (h2 : fnm M (wd s (n + 1)) = some i) : pNew s n B M a0 most what = .inl (ft s 3 (n + 1)) := by
  unfold pNew; rw [if_neg (by omega), if_neg (by omega), h2]
theorem pNew_y {s : Tp} {n a0 most what : Nat} {B : Nat → Nat} {M : NM} (h : B a0 < most) (h1 : kd s (n + 1) = 4) (h2 : fnm M (wd s (n + 1)) = none) : pNew s n B M a0 most what = .inr (n + 2, stB B a0 (B a0 + 1), addM M (wd s (n + 1)) what (B a0)) := by
  unfold pNew; rw [if_neg (by omega), if_neg (by omega), h2]
theorem pNb_l {s : Tp} {n lo hi f : Nat} (hs : okT s) (h : pNb s n lo hi = .inl f) : 1 ≤ f ∧ f < 2 ^ 20 := by
  unfold pNb at h
  by_cases c : kd s n ≠ 3
  · rw [if_pos c] at h; cases h; exact ft_lt hs (by omega) (by omega)
  · rw [if_neg c] at h
    by_cases c2 : vl s n < lo ∨ hi < vl s n
    · rw [if_pos c2] at h; cases h; exact ft_lt hs (by omega) (by omega)
    · rw [if_neg c2] at h; cases h
theorem pNm_l {s : Tp} {n what f : Nat} {M : NM} (hs : okT s) (h : pNm s n M what = .inl f) : 1 ≤ f ∧ f < 2 ^ 20 := by
  unfold pNm at h
  by_cases c : kd s n ≠ 4
  · rw [if_pos c] at h; cases h; exact ft_lt hs (by omega) (by omega)
  · rw [if_neg c] at h
    cases h9 : fnm M (wd s n) with
    | none => rw [h9] at h; cases h; exact ft_lt hs (by omega) (by omega)
    | some i =>
      rw [h9] at h
      have h7 : (if M.2.2.1 i = what then Sum.inr (M.2.2.2 i) else Sum.inl (ft s 2 n) : Nat ⊕ Nat) = .inl f := h
      by_cases c2 : M.2.2.1 i = what
      · rw [if_pos c2] at h7; cases h7
      · rw [if_neg c2] at h7; cases h7; exact ft_lt hs (by omega) (by omega)
theorem Rb_town {μ : Mem} {b : Nat} {B : Nat → Nat} (h : Rb μ b B) : Rb (sI μ b 9 (nI (B 0 + 1))) b (stB B 0 (B 0 + 1)) := by
  obtain ⟨h0, h1, h2, h3, h4, h5, h6, h7, h8, h9, h10, h11, h12⟩ := h
  have ne : ∀ i, i ≠ 0 → stB B 0 (B 0 + 1) i = B i := fun i hi => stB_ne hi
  have hw : wayN (stB B 0 (B 0 + 1)) = wayN B := by unfold wayN; rw [ne _ (by omega), ne _ (by omega), ne _ (by omega)]
  refine ⟨h0, by rw [gI_same, stB_same], fun t ht => ?_, fun i hi => by rw [gI_no (by omega), ne _ (by omega)]; exact h3 i hi, by rw [gI_nk (by omega), hw]; exact h4, by rw [gI_nk (by omega), ne _ (by omega)]; exact h5, fun i hi => by rw [gI_no (by omega), ne _ (by omega)]; exact h6 i (by rw [ne _ (by omega)] at hi; exact hi), by rw [gI_nk (by omega), ne _ (by omega)]; exact h7, fun q s hq h1' h2' => by rw [gI_no (by omega), ne _ (by omega)]; exact h8 q s hq h1' h2', by rw [gI_nk (by omega), ne _ (by omega)]; exact h9, fun i hi => by rw [gI_no (by omega), ne _ (by omega)]; exact h10 i (by rw [ne _ (by omega)] at hi; exact hi), by rw [gI_nk (by omega), ne _ (by omega)]; exact h11, fun i hi => by rw [gI_no (by omega), ne _ (by omega)]; exact h12 i (by rw [ne _ (by omega)] at hi; exact hi)⟩
  obtain ⟨c1, c2, c3, c4⟩ := h2 t ht
  have en : nB (stB B 0 (B 0 + 1)) t = nB B t := ne _ (by omega)
  have em : mS (stB B 0 (B 0 + 1)) t = mS B t := by funext k; unfold mS; rw [ne _ (by omega), ne _ (by omega)]
  rw [en, em]
  exact ⟨c1, by rw [gI_no (by omega)]; exact c2, c3, fun k hk => by rw [gI_no (by omega)]; exact c4 k hk⟩
theorem M32 {B : Nat → Nat} {M : NM} (h : PIv B M) : M.1 = B 0 + B 85 + B 126 + B 352 ∧ B 0 ≤ 3 ∧ B 85 ≤ 8 ∧ B 126 ≤ 9 ∧ B 352 ≤ 12 := ⟨h.2.2.1, h.1.1.1, h.1.2.2.1.1, h.1.2.2.2.1.1, h.1.2.2.2.2.1.1⟩
set_option maxHeartbeats 1000000 in
theorem s_r_town (Γ : Gm) (μ : Mem) (r t b : Nat) (s : Tp) (n : Nat) (B : Nat → Nat) (M : NM) (hr : RD μ r t b s) (htr : t + 1 < r) (hrb : r + 2 < b) (hS : RS μ r s n) (hR : Rb μ b B) (hC : CN μ b M) (hf : gI μ r 5 = nI 0) (hP : PIv B M)  : SpV Γ MX4_readTown 4 0 0 [.ref r] μ (fun μ2 => RX r b s (bnd (pTown s n B M) (pSemi s)) μ μ2) := by
  refine SpV.of okX4_readTown rfl [some (.ref r), none] ⟨rfl, trivial⟩ (leb rfl) (leb rfl) (fun X hX hE hnm => ?_)
  have hs : same (SRB r b) μ μ := same.rf
  obtain ⟨hM9, hb0, hb85, hb126, hb352⟩ := M32 hP
  refine w_aload_n (i := 0) hX dX4_readTown_0 rfl rfl ?_
  refine w_getR (q := b) hX dX4_readTown_1 fo_RX4_41 rfl (rd_s hr.1) hr.2.2.1 ?_
  refine w_getI hX dX4_readTown_4 fo_RX4_90 rfl (bk_s hR.1) ?_
  refine w_top (y := nI (B 0)) hR.2.1 ?_
  refine w_istore_n (i := 1) (l2 := [some (.ref r), some (.int (nI (B 0)))]) hX dX4_readTown_7 rfl (ltb rfl) rfl rfl ?_
  refine w_aload_n (i := 0) hX dX4_readTown_8 rfl rfl ?_
  refine w_iload_n (i := 1) hX dX4_readTown_9 rfl rfl ?_
  refine w_iconst hX dX4_readTown_10 kI_3 ?_
  refine wn_icmp_ge (tgt := 18) hX dX4_readTown_11 (by decide) (by first | omega | (have := kd_le (s := s) (n := n); omega)) (by first | omega | (have := kd_le (s := s) (n := n); omega)) (fun c1 => ?_) (fun c1 => ?_)
  · refine w_iconst hX dX4_readTown_18 kI_0 ?_
    refine w_callVI (As := [.int (nI 0)]) (rest := []) (ci := 4) (o := r) (k2 := 0) (n2 := 0) hX dX4_readTown_19 (s_r_more0 Γ μ r t b s hr htr hrb (n) hS) okX4_takeOneMore (ltb rfl) (rd_s hr.1) ml_RX4_93 imX4_takeOneMore seX4_takeOneMore rfl (leb rfl) (leb rfl) rfl rfl (fun r9 μ9 hq9 => ?_)
    obtain ⟨hr9, hm9⟩ := hq9; rw [hr9, hm9]; clear hr9 hm9 r9 μ9
    refine wn_if_eq (tgt := 53) hX dX4_readTown_22 (by decide) (by first | omega | (have := kd_le (s := s) (n := n); omega)) (fun c2 => ?_) (fun c2 => ?_)
    · have hpx : pTown s n B M = .inl (ft s 5 (n)) := by unfold pTown; exact pNew_5 (by omega)
      exact w_vret hX hE dX4_readTown_53 (Or.inl rfl) (RX_l (bnd_l hpx) hs (ft_lt hr.2.2.2.2.2 (by omega) (by omega)))
    · exact absurd c2 (by decide)
  · refine w_iconst hX dX4_readTown_14 kI_1 ?_
    refine w_goto (tgt := 19) hX dX4_readTown_15 (by decide) ?_
    refine w_callVI (As := [.int (nI 1)]) (rest := []) (ci := 4) (o := r) (k2 := 0) (n2 := 0) hX dX4_readTown_19 (s_r_more1 Γ μ r t b s hr htr hrb (n) hS) okX4_takeOneMore (ltb rfl) (rd_s hr.1) ml_RX4_93 imX4_takeOneMore seX4_takeOneMore rfl (leb rfl) (leb rfl) rfl rfl (fun r2 ν2 hq9 => ?_)
    obtain ⟨e2, hS_2, t2⟩ := hq9; rw [e2]
    have hr_2 := hr.sm t2 (fun o k h => by unfold SA at h; omega)
    have hR_2 := Rb_fr t2 (fun o k h => Or.inl (by unfold SA at h; omega)) hR
    have hC_2 := hC.sm t2 (fun o k h => by unfold SA at h; omega)
    have hf_2 : gI ν2 r 5 = nI 0 := by rw [(t2.2.2 _ _ (fun h => by unfold SA at h; omega)).1]; exact hf
    have hs_2 := hs.tr (t2.up (fun o k h => by unfold SA at h; unfold SRB; omega))
    refine wn_if_eq (tgt := 53) hX dX4_readTown_22 (by decide) (by first | omega | (have := kd_le (s := s) (n := n); omega)) (fun c3 => ?_) (fun c3 => ?_)
    · exact absurd c3 (by decide)
    · have hM32 : M.1 < 32 := by omega
      refine w_aload_n (i := 0) hX dX4_readTown_25 rfl rfl ?_
      refine w_iconst hX dX4_readTown_26 kI_5 ?_
      refine w_top (y := nI (kc 0)) rfl ?_
      refine w_iload_n (i := 1) hX dX4_readTown_27 rfl rfl ?_
      refine w_callVI (As := [.int (nI (kc 0)), .int (nI (B 0))]) (rest := []) (ci := 4) (o := r) (k2 := 0) (n2 := 0) hX dX4_readTown_28 (s_r_new Γ ν2 r t b s hr_2 htr hrb (n + 1) hS_2 hR_2.1 M hC_2 0 (B 0) (by omega) hM32) okX4_takeNewName (ltb rfl) (rd_s hr_2.1) ml_RX4_97 imX4_takeNewName seX4_takeNewName rfl (leb rfl) (leb rfl) rfl rfl (fun r3 ν3 hq9 => ?_)
      rcases hq9 with ⟨w3, u3, e3, hS_3, hC_3, t3⟩ | ⟨w3, e3, m3⟩ | ⟨w3, ⟨i3, u3⟩, e3, m3⟩
      · rw [e3, show bI true = nI 1 from rfl]
        have hr_3 := hr_2.sm t3 (fun o k h => by unfold SA at h; omega)
        have hR_3 := Rb_fr t3 (fun o k h => by unfold SA at h; omega) hR_2
        have hf_3 : gI ν3 r 5 = nI 0 := by rw [(t3.2.2 _ _ (fun h => by unfold SA at h; omega)).1]; exact hf_2
        have hs_3 := hs_2.tr (t3.up (fun o k h => by unfold SA at h; unfold SRB; omega))
        refine wn_if_eq (tgt := 53) hX dX4_readTown_31 (by decide) (by first | omega | (have := kd_le (s := s) (n := n); omega)) (fun c4 => ?_) (fun c4 => ?_)
        · exact absurd c4 (by decide)
        · refine w_aload_n (i := 0) hX dX4_readTown_34 rfl rfl ?_
          refine w_getR (q := b) hX dX4_readTown_35 fo_RX4_41 rfl (rd_s hr_3.1) hr_3.2.2.1 ?_
          refine w_dup hX dX4_readTown_38 rfl ?_
          refine w_getI hX dX4_readTown_39 fo_RX4_90 rfl (bk_s hR_3.1) ?_
          refine w_top (y := nI (B 0)) hR_3.2.1 ?_
          refine w_iconst hX dX4_readTown_42 kI_1 ?_
          refine w_iaddN hX dX4_readTown_43 ?_
          refine w_putI hX dX4_readTown_44 fo_RX4_90 rfl rfl rfl rfl (bk_s hR_3.1) ?_
          have s4 : same (fun o2 k2 => o2 = b ∧ k2 = 9) ν3 (sI ν3 b 9 (nI (B 0 + 1))) := same.rf.sI ⟨rfl, rfl⟩
          have hr_4 := hr_3.sm s4 (fun o k h => by omega)
          have hS_4 := hS_3.sm s4 (fun k h1 h2 h => by omega)
          have hR_4 := Rb_town hR_3
          have hC_4 := hC_3.sm s4 (fun o k h => by omega)
          have hf_4 : gI (sI ν3 b 9 (nI (B 0 + 1))) r 5 = nI 0 := by rw [gI_no (by omega)]; exact hf_3
          have hs_4 := hs_3.tr (s4.up (fun o k h => by unfold SRB; omega))
          refine w_aload_n (i := 0) hX dX4_readTown_47 rfl rfl ?_
          refine w_iconst hX dX4_readTown_48 kI_2 ?_
          refine w_callVI (As := [.int (nI 2)]) (rest := []) (ci := 4) (o := r) (k2 := 0) (n2 := 0) hX dX4_readTown_49 (s_r_take Γ (sI ν3 b 9 (nI (B 0 + 1))) r t b s hr_4 htr hrb (n + 2) hS_4 2 (by omega)) okX4_take (ltb rfl) (rd_s hr_4.1) ml_RX4_101 imX4_take seX4_take rfl (leb rfl) (leb rfl) rfl rfl (fun r5 ν5 hq9 => ?_)
          rcases hq9 with ⟨w5, e5, hS_5, t5⟩ | ⟨w5, e5, m5⟩
          · rw [e5, show bI true = nI 1 from rfl]
            have hr_5 := hr_4.sm t5 (fun o k h => by unfold SA at h; omega)
            have hR_5 := Rb_fr t5 (fun o k h => Or.inl (by unfold SA at h; omega)) hR_4
            have hC_5 := hC_4.sm t5 (fun o k h => by unfold SA at h; omega)
            have hf_5 : gI ν5 r 5 = nI 0 := by rw [(t5.2.2 _ _ (fun h => by unfold SA at h; omega)).1]; exact hf_4
            have hs_5 := hs_4.tr (t5.up (fun o k h => by unfold SA at h; unfold SRB; omega))
            refine w_pop hX dX4_readTown_52 rfl ?_
            have hpx : pTown s n B M = .inr (n + 2, stB B 0 (B 0 + 1), (addM M (wd s (n + 1)) 0 (B 0))) := by unfold pTown; exact pNew_y (by omega) w3 u3
            exact w_vret hX hE dX4_readTown_53 (Or.inl rfl) (RX_r ((bnd_r hpx).trans (bnd_r (pWd_y w5))) hs_5 hf_5 hS_5 hR_5 hC_5)
          · rw [e5, m5, show bI false = nI 0 from rfl]
            refine w_pop hX dX4_readTown_52 rfl ?_
            have hpx : pTown s n B M = .inr (n + 2, stB B 0 (B 0 + 1), (addM M (wd s (n + 1)) 0 (B 0))) := by unfold pTown; exact pNew_y (by omega) w3 u3
            exact w_vret hX hE dX4_readTown_53 (Or.inl rfl) (RX_l ((bnd_r hpx).trans (bnd_l (pWd_n w5))) hs_4 (ft_lt hr.2.2.2.2.2 (by omega) (by omega)))
      · rw [e3, m3, show bI false = nI 0 from rfl]
        refine wn_if_eq (tgt := 53) hX dX4_readTown_31 (by decide) (by first | omega | (have := kd_le (s := s) (n := n); omega)) (fun c5 => ?_) (fun c5 => ?_)
        · have hpx : pTown s n B M = .inl (ft s 1 (n + 1)) := by unfold pTown; exact pNew_1 (by omega) w3
          exact w_vret hX hE dX4_readTown_53 (Or.inl rfl) (RX_l (bnd_l hpx) hs_2 (ft_lt hr.2.2.2.2.2 (by omega) (by omega)))
        · exact absurd c5 (by decide)
      · rw [e3, m3, show bI false = nI 0 from rfl]
        refine wn_if_eq (tgt := 53) hX dX4_readTown_31 (by decide) (by first | omega | (have := kd_le (s := s) (n := n); omega)) (fun c6 => ?_) (fun c6 => ?_)
        · have hpx : pTown s n B M = .inl (ft s 3 (n + 1)) := by unfold pTown; exact pNew_3 (by omega) w3 u3
          exact w_vret hX hE dX4_readTown_53 (Or.inl rfl) (RX_l (bnd_l hpx) hs_2 (ft_lt hr.2.2.2.2.2 (by omega) (by omega)))
        · exact absurd c6 (by decide)
