theorem RX_l2 {r b f : Nat} {s : Tp} {res : Nat ⊕ PSt} {μ ν : Mem} (h : res = .inl f) (hs : same (SRB r b) μ ν) (h5 : gI ν r 5 = nI f) (hf : 1 ≤ f ∧ f < 2 ^ 20) : RX r b s res μ ν := by
  subst h
  exact ⟨hs, h5, hf⟩
theorem told_t {s : Tp} {n v : Nat} {B : Nat → Nat} {M : NM} (h : PIv B M) (hp : pNm s n M 0 = .inr v) : v < B 0 := by
  obtain ⟨-, i, h1, -, h3, h4⟩ := pNm_inr hp
  have := (h.2.2.2.1 i h1).2.1 h3
  omega
theorem told_p {s : Tp} {n v : Nat} {B : Nat → Nat} {M : NM} (h : PIv B M) (hp : pNm s n M 3 = .inr v) : v < B 352 := by
  obtain ⟨-, i, h1, -, h3, h4⟩ := pNm_inr hp
  have := (h.2.2.2.1 i h1).2.2.1 h3
  omega
theorem told_a {s : Tp} {n v w u : Nat} {B : Nat → Nat} {M : NM} (h : PIv B M) (hp : pNm s n (addM M w 3 u) 0 = .inr v) : v < B 0 := by
  obtain ⟨-, i, h1, -, h3, h4⟩ := pNm_inr hp
  obtain ⟨g1, g2, g3⟩ := addM_num h.2.2 h1 h3 (by omega)
  have := (h.2.2.2.1 i g1).2.1 g2
  rw [g3] at h4
  omega
theorem Rb_way {μ : Mem} {b a c v : Nat} {B : Nat → Nat} (h : Rb μ b B) (hW : WB B) (ha : a < 3) (hc : c < 3) (hne : a ≠ c) (h0 : ¬ 0 < B (76 + 3 * a + c)) (hv : 1 ≤ v) : Rb (sI (sI (sI μ (b + 2) (a * 3 + c) (nI v)) (b + 2) (c * 3 + a) (nI v)) b 10 (nI (wayN B + 1))) b (stB (stB B (76 + 3 * a + c) v) (76 + 3 * c + a) v) := by
  have hsy := (hW.2.1 a c ha hc).2.1
  obtain ⟨h0', h1, h2, h3, h4, h5, h6, h7, h8, h9, h10, h11, h12⟩ := h
  have ne : ∀ i, i < 76 ∨ 85 ≤ i → stB (stB B (76 + 3 * a + c) v) (76 + 3 * c + a) v i = B i := fun i hi => by rw [stB_ne (by omega), stB_ne (by omega)]
  have hw : wayN (stB (stB B (76 + 3 * a + c) v) (76 + 3 * c + a) v) = wayN B + 1 := by
    have h00 : B (76 + 3 * a + c) = 0 := by omega
    have h01 : B (76 + 3 * c + a) = 0 := by omega
    have ca : a = 0 ∨ a = 1 ∨ a = 2 := by omega
    have cc : c = 0 ∨ c = 1 ∨ c = 2 := by omega
    rcases ca with rfl | rfl | rfl <;> rcases cc with rfl | rfl | rfl <;> first | exact absurd rfl hne | (simp [wayN, stB] at *; simp [h00, h01, show 0 < v by omega] <;> omega)
  refine ⟨h0', by rw [gI_nk (by omega), gI_no (by omega), gI_no (by omega), ne _ (by omega)]; exact h1, fun t ht => ?_, fun i hi => ?_, by rw [gI_same, hw], by rw [gI_nk (by omega), gI_no (by omega), gI_no (by omega), ne _ (by omega)]; exact h5, fun i hi => by rw [gI_no (by omega), gI_no (by omega), gI_no (by omega), ne _ (by omega)]; exact h6 i (by rw [ne _ (by omega)] at hi; exact hi), by rw [gI_nk (by omega), gI_no (by omega), gI_no (by omega), ne _ (by omega)]; exact h7, fun q s hq h1' h2' => by rw [gI_no (by omega), gI_no (by omega), gI_no (by omega), ne _ (by omega)]; exact h8 q s hq h1' h2', by rw [gI_nk (by omega), gI_no (by omega), gI_no (by omega), ne _ (by omega)]; exact h9, fun i hi => by rw [gI_no (by omega), gI_no (by omega), gI_no (by omega), ne _ (by omega)]; exact h10 i (by rw [ne _ (by omega)] at hi; exact hi), by rw [gI_nk (by omega), gI_no (by omega), gI_no (by omega), ne _ (by omega)]; exact h11, fun i hi => by rw [gI_no (by omega), gI_no (by omega), gI_no (by omega), ne _ (by omega)]; exact h12 i (by rw [ne _ (by omega)] at hi; exact hi)⟩
  · obtain ⟨c1, c2, c3, c4⟩ := h2 t ht
    have en : nB (stB (stB B (76 + 3 * a + c) v) (76 + 3 * c + a) v) t = nB B t := ne _ (by omega)
    rw [en]
    refine ⟨c1, by rw [gI_no (by omega), gI_no (by omega), gI_no (by omega)]; exact c2, c3, fun k hk => ?_⟩
    have em : mS (stB (stB B (76 + 3 * a + c) v) (76 + 3 * c + a) v) t k = mS B t k := by unfold mS; rw [ne _ (by omega), ne _ (by omega)]
    rw [em, gI_no (by omega), gI_no (by omega), gI_no (by omega)]; exact c4 k hk
  · rw [gI_no (by omega)]
    by_cases e1 : i = c * 3 + a
    · rw [e1, gI_same, show 76 + (c * 3 + a) = 76 + 3 * c + a by omega, stB_same]
    · rw [gI_nk e1, stB_ne (by omega)]
      by_cases e2 : i = a * 3 + c
      · rw [e2, gI_same, show 76 + (a * 3 + c) = 76 + 3 * a + c by omega, stB_same]
      · rw [gI_nk e2, stB_ne (by omega)]; exact h3 i hi
set_option maxHeartbeats 1000000 in
theorem s_b_addWay (Γ : Gm) (μ : Mem) (b : Nat) (B : Nat → Nat) (hR : Rb μ b B) (a c v : Nat) (ha : a < 3) (hc : c < 3) : SpV Γ MX0_addWay 0 0 0 [.ref b, .int (nI a), .int (nI c), .int (nI v)] μ (fun μ2 => μ2 = sI (sI (sI μ (b + 2) (a * 3 + c) (nI v)) (b + 2) (c * 3 + a) (nI v)) b 10 (nI (wayN B + 1))) := by
  refine SpV.of okX0_addWay rfl [some (.ref b), some (.int (nI a)), some (.int (nI c)), some (.int (nI v))] ⟨rfl, rfl, rfl, rfl, trivial⟩ (leb rfl) (leb rfl) (fun X hX hE hnm => ?_)
  refine w_aload_n (i := 0) hX dX0_addWay_0 rfl rfl ?_
  refine w_getR (q := b + 2) hX dX0_addWay_1 fo_RX0_17 rfl (bk_s hR.1) (bk_r1 hR.1) ?_
  refine w_iload_n (i := 1) hX dX0_addWay_4 rfl rfl ?_
  refine w_iconst hX dX0_addWay_5 kI_3 ?_
  refine w_imulN hX dX0_addWay_6 ?_
  refine w_iload_n (i := 2) hX dX0_addWay_7 rfl rfl ?_
  refine w_iaddN hX dX0_addWay_8 ?_
  refine w_iload_n (i := 3) hX dX0_addWay_9 rfl rfl ?_
  refine w_iastN hX dX0_addWay_10 (bk_a2 hR.1) (by omega) (by omega) ?_
  refine w_aload_n (i := 0) hX dX0_addWay_11 rfl rfl ?_
  refine w_getR (q := b + 2) hX dX0_addWay_12 fo_RX0_17 rfl (bk_s hR.1) (bk_r1 hR.1) ?_
  refine w_iload_n (i := 2) hX dX0_addWay_15 rfl rfl ?_
  refine w_iconst hX dX0_addWay_16 kI_3 ?_
  refine w_imulN hX dX0_addWay_17 ?_
  refine w_iload_n (i := 1) hX dX0_addWay_18 rfl rfl ?_
  refine w_iaddN hX dX0_addWay_19 ?_
  refine w_iload_n (i := 3) hX dX0_addWay_20 rfl rfl ?_
  refine w_iastN hX dX0_addWay_21 (bk_a2 hR.1) (by omega) (by omega) ?_
  refine w_aload_n (i := 0) hX dX0_addWay_22 rfl rfl ?_
  refine w_dup hX dX0_addWay_23 rfl ?_
  refine w_getI hX dX0_addWay_24 fo_RX0_57 rfl (bk_s hR.1) ?_
  refine w_top (y := nI (wayN B)) (by rw [gI_no (by omega), gI_no (by omega)]; exact hR.2.2.2.2.1) ?_
  refine w_iconst hX dX0_addWay_27 kI_1 ?_
  refine w_iaddN hX dX0_addWay_28 ?_
  refine w_putI hX dX0_addWay_29 fo_RX0_57 rfl rfl rfl rfl (bk_s hR.1) ?_
  exact w_vret hX hE dX0_addWay_32 (Or.inl rfl) rfl
set_option maxHeartbeats 1000000 in
theorem s_r_way (Γ : Gm) (μ : Mem) (r t b : Nat) (s : Tp) (n : Nat) (B : Nat → Nat) (M : NM) (hr : RD μ r t b s) (htr : t + 1 < r) (hrb : r + 2 < b) (hS : RS μ r s n) (hR : Rb μ b B) (hC : CN μ b M) (hf : gI μ r 5 = nI 0) (hP : PIv B M)  : SpV Γ MX4_readWay 4 0 0 [.ref r] μ (fun μ2 => RX r b s (bnd (pWay s n B M) (pSemi s)) μ μ2) := by
  refine SpV.of okX4_readWay rfl [some (.ref r), none, none] ⟨rfl, trivial⟩ (leb rfl) (leb rfl) (fun X hX hE hnm => ?_)
  have hs : same (SRB r b) μ μ := same.rf
  obtain ⟨hM9, hb0, hb85, hb126, hb352⟩ := M32 hP
  refine w_aload_n (i := 0) hX dX4_readWay_0 rfl rfl ?_
  refine w_callVV (As := []) (rest := []) (ci := 4) (o := r) (k2 := 0) (n2 := 0) hX dX4_readWay_1 (s_r_advance Γ μ r t b s hr htr hrb (n + 1) hS.1) okX4_advance (ltb rfl) (rd_s hr.1) ml_RX4_57 imX4_advance seX4_advance rfl (leb rfl) (leb rfl) rfl rfl (fun ν1 hq9 => ?_)
  obtain ⟨hS_1, t1⟩ := hq9
  have hr_1 := hr.sm t1 (fun o k h => by unfold SA at h; omega)
  have hR_1 := Rb_fr t1 (fun o k h => Or.inl (by unfold SA at h; omega)) hR
  have hC_1 := hC.sm t1 (fun o k h => by unfold SA at h; omega)
  have hf_1 : gI ν1 r 5 = nI 0 := by rw [(t1.2.2 _ _ (fun h => by unfold SA at h; omega)).1]; exact hf
  have hs_1 := hs.tr (t1.up (fun o k h => by unfold SA at h; unfold SRB; omega))
  refine w_aload_n (i := 0) hX dX4_readWay_4 rfl rfl ?_
  refine w_iconst hX dX4_readWay_5 kI_5 ?_
  refine w_top (y := nI (kc 0)) rfl ?_
  refine w_callVI (As := [.int (nI (kc 0))]) (rest := []) (ci := 4) (o := r) (k2 := 0) (n2 := 0) hX dX4_readWay_6 (s_r_told Γ ν1 r t b s hr_1 htr hrb (n + 1) hS_1 hR_1.1 M hC_1 0 (by omega)) okX4_toldName (ltb rfl) (rd_s hr_1.1) ml_RX4_131 imX4_toldName seX4_toldName rfl (leb rfl) (leb rfl) rfl rfl (fun r2 ν2 hq9 => ?_)
  rcases hq9 with ⟨v2, p2, e2, m2⟩ | ⟨f2, p2, e2, m2⟩
  · rw [e2, m2]
    have lt2 := told_t hP p2
    refine w_istore_n (i := 1) (l2 := [some (.ref r), some (.int (nI v2)), none]) hX dX4_readWay_9 rfl (ltb rfl) rfl rfl ?_
    refine w_iload_n (i := 1) hX dX4_readWay_10 rfl rfl ?_
    refine w_iconst hX dX4_readWay_11 kI_m1 ?_
    refine wc_icmp_ne (tgt := 16) hX dX4_readWay_12 (by decide) (fun c1 => ?_) (fun c1 => ?_)
    · refine w_aload_n (i := 0) hX dX4_readWay_16 rfl rfl ?_
      refine w_callVV (As := []) (rest := []) (ci := 4) (o := r) (k2 := 0) (n2 := 0) hX dX4_readWay_17 (s_r_advance Γ ν1 r t b s hr_1 htr hrb (n + 2) hS_1.1) okX4_advance (ltb rfl) (rd_s hr_1.1) ml_RX4_57 imX4_advance seX4_advance rfl (leb rfl) (leb rfl) rfl rfl (fun ν3 hq9 => ?_)
      obtain ⟨hS_3, t3⟩ := hq9
      have hr_3 := hr_1.sm t3 (fun o k h => by unfold SA at h; omega)
      have hR_3 := Rb_fr t3 (fun o k h => Or.inl (by unfold SA at h; omega)) hR_1
      have hC_3 := hC_1.sm t3 (fun o k h => by unfold SA at h; omega)
      have hf_3 : gI ν3 r 5 = nI 0 := by rw [(t3.2.2 _ _ (fun h => by unfold SA at h; omega)).1]; exact hf_1
      have hs_3 := hs_1.tr (t3.up (fun o k h => by unfold SA at h; unfold SRB; omega))
      refine w_aload_n (i := 0) hX dX4_readWay_20 rfl rfl ?_
      refine w_iconst hX dX4_readWay_21 kI_5 ?_
      refine w_top (y := nI (kc 0)) rfl ?_
      refine w_callVI (As := [.int (nI (kc 0))]) (rest := []) (ci := 4) (o := r) (k2 := 0) (n2 := 0) hX dX4_readWay_22 (s_r_told Γ ν3 r t b s hr_3 htr hrb (n + 2) hS_3 hR_3.1 M hC_3 0 (by omega)) okX4_toldName (ltb rfl) (rd_s hr_3.1) ml_RX4_131 imX4_toldName seX4_toldName rfl (leb rfl) (leb rfl) rfl rfl (fun r4 ν4 hq9 => ?_)
      rcases hq9 with ⟨v4, p4, e4, m4⟩ | ⟨f4, p4, e4, m4⟩
      · rw [e4, m4]
        have lt4 := told_t hP p4
        refine w_istore_n (i := 2) (l2 := [some (.ref r), some (.int (nI v2)), some (.int (nI v4))]) hX dX4_readWay_25 rfl (ltb rfl) rfl rfl ?_
        refine w_iload_n (i := 2) hX dX4_readWay_26 rfl rfl ?_
        refine w_iconst hX dX4_readWay_27 kI_m1 ?_
        refine wc_icmp_eq (tgt := 61) hX dX4_readWay_28 (by decide) (fun c2 => ?_) (fun c2 => ?_)
        · exact absurd c2 (nI_m1 (by first | omega | (have := kd_le (s := s) (n := n); omega)))
        · refine w_aload_n (i := 0) hX dX4_readWay_31 rfl rfl ?_
          refine w_iload_n (i := 1) hX dX4_readWay_32 rfl rfl ?_
          refine w_iload_n (i := 2) hX dX4_readWay_33 rfl rfl ?_
          refine wn_icmp_eq (tgt := 53) hX dX4_readWay_34 (by decide) (by first | omega | (have := kd_le (s := s) (n := n); omega)) (by first | omega | (have := kd_le (s := s) (n := n); omega)) (fun c3 => ?_) (fun c3 => ?_)
          · refine w_iconst hX dX4_readWay_53 kI_0 ?_
            refine w_iconst hX dX4_readWay_54 kI_3 ?_
            refine w_callVI (As := [.int (nI 0), .int (nI 3)]) (rest := []) (ci := 4) (o := r) (k2 := 0) (n2 := 0) hX dX4_readWay_55 (s_r_check0 Γ ν3 r t b s hr_3 htr hrb (n + 2) 3 hS_3.2.2.1) okX4_check (ltb rfl) (rd_s hr_3.1) ml_RX4_86 imX4_check seX4_check rfl (leb rfl) (leb rfl) rfl rfl (fun r9 μ9 hq9 => ?_)
            obtain ⟨hr9, hm9⟩ := hq9; rw [hr9, hm9, show 3 + 16 * pl s (n + 2) = ft s 3 (n + 2) from rfl]; clear hr9 hm9 r9 μ9
            refine wn_if_ne (tgt := 62) hX dX4_readWay_58 (by decide) (by first | omega | (have := kd_le (s := s) (n := n); omega)) (fun c4 => ?_) (fun c4 => ?_)
            · exact absurd c4 (by decide)
            · have hpx : pWay s n B M = .inl (ft s 3 (n + 2)) := by unfold pWay; exact (bnd_r p2).trans ((bnd_r p4).trans (if_pos (Or.inl (by omega))))
              exact w_vret hX hE dX4_readWay_61 (Or.inl rfl) (RX_l (bnd_l hpx) hs_3 (ft_lt hr.2.2.2.2.2 (by omega) (by omega)))
          · refine w_aload_n (i := 0) hX dX4_readWay_37 rfl rfl ?_
            refine w_getR (q := b) hX dX4_readWay_38 fo_RX4_41 rfl (rd_s hr_3.1) hr_3.2.2.1 ?_
            refine w_iload_n (i := 1) hX dX4_readWay_41 rfl rfl ?_
            refine w_iload_n (i := 2) hX dX4_readWay_42 rfl rfl ?_
            refine w_callVI (As := [.int (nI v2), .int (nI v4)]) (rest := [.ref r]) (ci := 0) (o := b) (k2 := 0) (n2 := 0) hX dX4_readWay_43 (s_b_hasWay Γ ν3 b B hR_3 hP.1 v2 v4 (by omega) (by omega)) okX0_hasWay (ltb rfl) (bk_s hR_3.1) ml_RX4_134 imX0_hasWay seX0_hasWay rfl (leb rfl) (leb rfl) rfl rfl (fun r9 μ9 hq9 => ?_)
            obtain ⟨hr9, hm9⟩ := hq9; rw [hr9, hm9]; clear hr9 hm9 r9 μ9
            refine wb_ne (tgt := 53) hX dX4_readWay_46 (by decide) (fun hw9 => ?_) (fun hw9 => ?_)
            · refine w_iconst hX dX4_readWay_53 kI_0 ?_
              refine w_iconst hX dX4_readWay_54 kI_3 ?_
              refine w_callVI (As := [.int (nI 0), .int (nI 3)]) (rest := []) (ci := 4) (o := r) (k2 := 0) (n2 := 0) hX dX4_readWay_55 (s_r_check0 Γ ν3 r t b s hr_3 htr hrb (n + 2) 3 hS_3.2.2.1) okX4_check (ltb rfl) (rd_s hr_3.1) ml_RX4_86 imX4_check seX4_check rfl (leb rfl) (leb rfl) rfl rfl (fun r9 μ9 hq9 => ?_)
              obtain ⟨hr9, hm9⟩ := hq9; rw [hr9, hm9, show 3 + 16 * pl s (n + 2) = ft s 3 (n + 2) from rfl]; clear hr9 hm9 r9 μ9
              refine wn_if_ne (tgt := 62) hX dX4_readWay_58 (by decide) (by first | omega | (have := kd_le (s := s) (n := n); omega)) (fun c6 => ?_) (fun c6 => ?_)
              · exact absurd c6 (by decide)
              · have hpx : pWay s n B M = .inl (ft s 3 (n + 2)) := by unfold pWay; exact (bnd_r p2).trans ((bnd_r p4).trans (if_pos (Or.inr (of_decide_eq_true hw9))))
                exact w_vret hX hE dX4_readWay_61 (Or.inl rfl) (RX_l (bnd_l hpx) hs_3 (ft_lt hr.2.2.2.2.2 (by omega) (by omega)))
            · refine w_iconst hX dX4_readWay_49 kI_1 ?_
              refine w_goto (tgt := 54) hX dX4_readWay_50 (by decide) ?_
              refine w_iconst hX dX4_readWay_54 kI_3 ?_
              refine w_callVI (As := [.int (nI 1), .int (nI 3)]) (rest := []) (ci := 4) (o := r) (k2 := 0) (n2 := 0) hX dX4_readWay_55 (s_r_check1 Γ ν3 r t b s hr_3 htr hrb (n + 2) 3 hS_3.2.2.1) okX4_check (ltb rfl) (rd_s hr_3.1) ml_RX4_86 imX4_check seX4_check rfl (leb rfl) (leb rfl) rfl rfl (fun r9 μ9 hq9 => ?_)
              obtain ⟨hr9, hm9⟩ := hq9; rw [hr9, hm9]; clear hr9 hm9 r9 μ9
              refine wn_if_ne (tgt := 62) hX dX4_readWay_58 (by decide) (by first | omega | (have := kd_le (s := s) (n := n); omega)) (fun c7 => ?_) (fun c7 => ?_)
              · refine w_aload_n (i := 0) hX dX4_readWay_62 rfl rfl ?_
                refine w_callVV (As := []) (rest := []) (ci := 4) (o := r) (k2 := 0) (n2 := 0) hX dX4_readWay_63 (s_r_advance Γ ν3 r t b s hr_3 htr hrb (n + 3) hS_3.1) okX4_advance (ltb rfl) (rd_s hr_3.1) ml_RX4_57 imX4_advance seX4_advance rfl (leb rfl) (leb rfl) rfl rfl (fun ν5 hq9 => ?_)
                obtain ⟨hS_5, t5⟩ := hq9
                have hr_5 := hr_3.sm t5 (fun o k h => by unfold SA at h; omega)
                have hR_5 := Rb_fr t5 (fun o k h => Or.inl (by unfold SA at h; omega)) hR_3
                have hC_5 := hC_3.sm t5 (fun o k h => by unfold SA at h; omega)
                have hf_5 : gI ν5 r 5 = nI 0 := by rw [(t5.2.2 _ _ (fun h => by unfold SA at h; omega)).1]; exact hf_3
                have hs_5 := hs_3.tr (t5.up (fun o k h => by unfold SA at h; unfold SRB; omega))
                refine w_aload_n (i := 0) hX dX4_readWay_66 rfl rfl ?_
                refine w_iconst hX dX4_readWay_67 kI_1 ?_
                refine w_sipush hX dX4_readWay_68 kS_9999 ?_
                refine w_aload_n (i := 0) hX dX4_readWay_71 rfl rfl ?_
                refine w_getR (q := r + 2) hX dX4_readWay_72 fo_RX4_15 rfl (rd_s hr_5.1) (rd_r1 hr_5.1) ?_
                refine w_iconst hX dX4_readWay_75 kI_0 ?_
                refine w_callVI (As := [.int (nI 1), .int (nI 9999), .ref (r + 2), .int (nI 0)]) (rest := []) (ci := 4) (o := r) (k2 := 0) (n2 := 0) hX dX4_readWay_76 (s_r_takeN Γ ν5 r t b s hr_5 htr hrb (n + 3) hS_5 1 9999 (by omega) (by omega) (r + 2) (0) 1 (rd_a2 hr_5.1) (by omega) (by omega) (by omega)) okX4_takeNumber (ltb rfl) (rd_s hr_5.1) ml_RX4_123 imX4_takeNumber seX4_takeNumber rfl (leb rfl) (leb rfl) rfl rfl (fun r6 ν6 hq9 => ?_)
                rcases hq9 with ⟨p6, e6, hS_6, z6, t6⟩ | ⟨f6, p6, e6, m6⟩
                · rw [e6, show bI true = nI 1 from rfl]
                  obtain ⟨q6, -, l6, g6⟩ := pNb_inr p6
                  have hr_6 := hr_5.sm t6 (fun o k h => by unfold SA at h; omega)
                  have hR_6 := Rb_fr t6 (fun o k h => by unfold SA at h; omega) hR_5
                  have hC_6 := hC_5.sm t6 (fun o k h => by unfold SA at h; omega)
                  have hf_6 : gI ν6 r 5 = nI 0 := by rw [(t6.2.2 _ _ (fun h => by unfold SA at h; omega)).1]; exact hf_5
                  have hs_6 := hs_5.tr (t6.up (fun o k h => by unfold SA at h; unfold SRB; omega))
                  refine wn_if_eq (tgt := 103) hX dX4_readWay_79 (by decide) (by first | omega | (have := kd_le (s := s) (n := n); omega)) (fun c8 => ?_) (fun c8 => ?_)
                  · exact absurd c8 (by decide)
                  · refine w_aload_n (i := 0) hX dX4_readWay_82 rfl rfl ?_
                    refine w_getR (q := b) hX dX4_readWay_83 fo_RX4_41 rfl (rd_s hr_6.1) hr_6.2.2.1 ?_
                    refine w_iload_n (i := 1) hX dX4_readWay_86 rfl rfl ?_
                    refine w_iload_n (i := 2) hX dX4_readWay_87 rfl rfl ?_
                    refine w_aload_n (i := 0) hX dX4_readWay_88 rfl rfl ?_
                    refine w_getR (q := r + 2) hX dX4_readWay_89 fo_RX4_15 rfl (rd_s hr_6.1) (rd_r1 hr_6.1) ?_
                    refine w_iconst hX dX4_readWay_92 kI_0 ?_
                    refine w_ialdN hX dX4_readWay_93 (rd_a2 hr_6.1) (by omega) (by omega) ?_
                    refine w_top (y := nI (vl s (n + 3))) z6 ?_
                    refine w_callVV (As := [.int (nI v2), .int (nI v4), .int (nI (vl s (n + 3)))]) (rest := []) (ci := 0) (o := b) (k2 := 0) (n2 := 0) hX dX4_readWay_94 (s_b_addWay Γ ν6 b B hR_6 v2 v4 (vl s (n + 3)) (by omega) (by omega)) okX0_addWay (ltb rfl) (bk_s hR_6.1) ml_RX4_137 imX0_addWay seX0_addWay rfl (leb rfl) (leb rfl) rfl rfl (fun μ9 hq9 => ?_)
                    rw [hq9]; clear hq9 μ9
                    have s7 : same (fun o2 k2 => (o2 = b + 2 ∧ k2 = v2 * 3 + v4) ∨ (o2 = b + 2 ∧ k2 = v4 * 3 + v2) ∨ (o2 = b ∧ k2 = 10)) ν6 (sI (sI (sI ν6 (b + 2) (v2 * 3 + v4) (nI (vl s (n + 3)))) (b + 2) (v4 * 3 + v2) (nI (vl s (n + 3)))) b 10 (nI (wayN B + 1))) := (((same.rf).sI (Or.inl ⟨rfl, rfl⟩)).sI (Or.inr (Or.inl ⟨rfl, rfl⟩))).sI (Or.inr (Or.inr (⟨rfl, rfl⟩)))
                    have zz8 : gI (sI (sI (sI ν6 (b + 2) (v2 * 3 + v4) (nI (vl s (n + 3)))) (b + 2) (v4 * 3 + v2) (nI (vl s (n + 3)))) b 10 (nI (wayN B + 1))) (r + 2) (0) = nI (vl s (n + 3)) := by rw [(s7.2.2 _ _ (fun h => by omega)).1]; exact z6
                    have hr_7 := hr_6.sm s7 (fun o k h => by omega)
                    have hS_7 := hS_6.sm s7 (fun k h1 h2 h => by omega)
                    have hR_7 := Rb_way hR_6 hP.1 (by omega) (by omega) (by omega) (fun h9 => absurd (show 0 < wy B v2 v4 from h9) (of_decide_eq_false hw9)) (show 1 ≤ vl s (n + 3) by omega)
                    have hC_7 := hC_6.sm s7 (fun o k h => by omega)
                    have hf_7 : gI (sI (sI (sI ν6 (b + 2) (v2 * 3 + v4) (nI (vl s (n + 3)))) (b + 2) (v4 * 3 + v2) (nI (vl s (n + 3)))) b 10 (nI (wayN B + 1))) r 5 = nI 0 := by rw [(s7.2.2 _ _ (fun h => by omega)).1]; exact hf_6
                    have hs_7 := hs_6.tr (s7.up (fun o k h => by unfold SRB; omega))
                    refine w_aload_n (i := 0) hX dX4_readWay_97 rfl rfl ?_
                    refine w_iconst hX dX4_readWay_98 kI_2 ?_
                    refine w_callVI (As := [.int (nI 2)]) (rest := []) (ci := 4) (o := r) (k2 := 0) (n2 := 0) hX dX4_readWay_99 (s_r_take Γ (sI (sI (sI ν6 (b + 2) (v2 * 3 + v4) (nI (vl s (n + 3)))) (b + 2) (v4 * 3 + v2) (nI (vl s (n + 3)))) b 10 (nI (wayN B + 1))) r t b s hr_7 htr hrb (n + 4) hS_7 2 (by omega)) okX4_take (ltb rfl) (rd_s hr_7.1) ml_RX4_101 imX4_take seX4_take rfl (leb rfl) (leb rfl) rfl rfl (fun r9 ν9 hq9 => ?_)
                    rcases hq9 with ⟨w9, e9, hS_9, t9⟩ | ⟨w9, e9, m9⟩
                    · rw [e9, show bI true = nI 1 from rfl]
                      have zz10 : gI ν9 (r + 2) (0) = nI (vl s (n + 3)) := by rw [(t9.2.2 _ _ (fun h => by unfold SA at h; omega)).1]; exact zz8
                      have hr_9 := hr_7.sm t9 (fun o k h => by unfold SA at h; omega)
                      have hR_9 := Rb_fr t9 (fun o k h => Or.inl (by unfold SA at h; omega)) hR_7
                      have hC_9 := hC_7.sm t9 (fun o k h => by unfold SA at h; omega)
                      have hf_9 : gI ν9 r 5 = nI 0 := by rw [(t9.2.2 _ _ (fun h => by unfold SA at h; omega)).1]; exact hf_7
                      have hs_9 := hs_7.tr (t9.up (fun o k h => by unfold SA at h; unfold SRB; omega))
                      refine w_pop hX dX4_readWay_102 rfl ?_
                      have hpx : pWay s n B M = .inr (n + 4, stB (stB B (76 + 3 * v2 + v4) (vl s (n + 3))) (76 + 3 * v4 + v2) (vl s (n + 3)), M) := by unfold pWay; exact (bnd_r p2).trans ((bnd_r p4).trans ((if_neg (fun h9 => by have h8 := of_decide_eq_false hw9; unfold wy at h8; omega)).trans (bnd_r p6)))
                      exact w_vret hX hE dX4_readWay_103 (Or.inl rfl) (RX_r ((bnd_r hpx).trans (bnd_r (pWd_y w9))) hs_9 hf_9 hS_9 hR_9 hC_9)
                    · rw [e9, m9, show bI false = nI 0 from rfl]
                      refine w_pop hX dX4_readWay_102 rfl ?_
                      have hpx : pWay s n B M = .inr (n + 4, stB (stB B (76 + 3 * v2 + v4) (vl s (n + 3))) (76 + 3 * v4 + v2) (vl s (n + 3)), M) := by unfold pWay; exact (bnd_r p2).trans ((bnd_r p4).trans ((if_neg (fun h9 => by have h8 := of_decide_eq_false hw9; unfold wy at h8; omega)).trans (bnd_r p6)))
                      exact w_vret hX hE dX4_readWay_103 (Or.inl rfl) (RX_l ((bnd_r hpx).trans (bnd_l (pWd_n w9))) hs_7 (ft_lt hr.2.2.2.2.2 (by omega) (by omega)))
                · rw [e6, m6, show bI false = nI 0 from rfl]
                  refine wn_if_eq (tgt := 103) hX dX4_readWay_79 (by decide) (by first | omega | (have := kd_le (s := s) (n := n); omega)) (fun c9 => ?_) (fun c9 => ?_)
                  · have hpx : pWay s n B M = .inl f6 := by unfold pWay; exact (bnd_r p2).trans ((bnd_r p4).trans ((if_neg (fun h9 => by have h8 := of_decide_eq_false hw9; unfold wy at h8; omega)).trans (bnd_l p6)))
                    exact w_vret hX hE dX4_readWay_103 (Or.inl rfl) (RX_l (bnd_l hpx) hs_5 (pNb_l hr.2.2.2.2.2 p6))
                  · exact absurd c9 (by decide)
              · exact absurd c7 (by decide)
      · rw [e4, m4]
        refine w_istore_n (i := 2) (l2 := [some (.ref r), some (.int (nI v2)), some (.int ((-1 : Int32)))]) hX dX4_readWay_25 rfl (ltb rfl) rfl rfl ?_
        refine w_iload_n (i := 2) hX dX4_readWay_26 rfl rfl ?_
        refine w_iconst hX dX4_readWay_27 kI_m1 ?_
        refine wc_icmp_eq (tgt := 61) hX dX4_readWay_28 (by decide) (fun c10 => ?_) (fun c10 => ?_)
        · have hpx : pWay s n B M = .inl f4 := by unfold pWay; exact (bnd_r p2).trans (bnd_l p4)
          exact w_vret hX hE dX4_readWay_61 (Or.inl rfl) (RX_l (bnd_l hpx) hs_3 (pNm_l hr.2.2.2.2.2 p4))
        · exact absurd rfl c10
    · exact absurd c1 (nI_m1 (by first | omega | (have := kd_le (s := s) (n := n); omega)))
  · rw [e2, m2]
    refine w_istore_n (i := 1) (l2 := [some (.ref r), some (.int ((-1 : Int32))), none]) hX dX4_readWay_9 rfl (ltb rfl) rfl rfl ?_
    refine w_iload_n (i := 1) hX dX4_readWay_10 rfl rfl ?_
    refine w_iconst hX dX4_readWay_11 kI_m1 ?_
    refine wc_icmp_ne (tgt := 16) hX dX4_readWay_12 (by decide) (fun c11 => ?_) (fun c11 => ?_)
    · exact absurd rfl c11
    · have hpx : pWay s n B M = .inl f2 := by unfold pWay; exact bnd_l p2
      exact w_vret hX hE dX4_readWay_15 (Or.inl rfl) (RX_l (bnd_l hpx) hs_1 (pNm_l hr.2.2.2.2.2 p2))
