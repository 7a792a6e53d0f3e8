theorem Rb_work {μ : Mem} {b v1 v2 v3 v4 v5 : Nat} {B : Nat → Nat} (h : Rb μ b B) (h8 : B 85 < 8) (z1 : gI μ (b + 3) (B 85 * 5) = nI v1) (z2 : gI μ (b + 3) (B 85 * 5 + 1) = nI v2) (z3 : gI μ (b + 3) (B 85 * 5 + 2) = nI v3) (z4 : gI μ (b + 3) (B 85 * 5 + 3) = nI v4) (z5 : gI μ (b + 3) (B 85 * 5 + 4) = nI v5) : Rb (sI μ b 11 (nI (B 85 + 1))) b (wkB (stB B 85 (B 85 + 1)) (B 85) v1 v2 v3 v4 v5) := by
  obtain ⟨h0', h1, h2, h3, h4, h5, h6, h7, h8', h9, h10, h11, h12⟩ := h
  have ne : ∀ i, i < 85 ∨ 126 ≤ i → wkB (stB B 85 (B 85 + 1)) (B 85) v1 v2 v3 v4 v5 i = B i := fun i hi => by rw [wk_ne (by omega), stB_ne (by omega)]
  have e85 : wkB (stB B 85 (B 85 + 1)) (B 85) v1 v2 v3 v4 v5 85 = B 85 + 1 := by rw [wk_ne (by omega), stB_same]
  have hw : wayN (wkB (stB B 85 (B 85 + 1)) (B 85) v1 v2 v3 v4 v5) = wayN B := by unfold wayN; rw [ne _ (by omega), ne _ (by omega), ne _ (by omega)]
  refine ⟨h0', by rw [gI_nk (by omega), ne _ (by omega)]; exact h1, fun t ht => ?_, fun i hi => by rw [gI_no (by omega), ne _ (by omega)]; exact h3 i hi, by rw [gI_nk (by omega), hw]; exact h4, by rw [gI_same, e85], fun i hi => ?_, by rw [gI_nk (by omega), ne _ (by omega)]; exact h7, fun q s hq h1' h2' => by rw [gI_no (by omega), ne _ (by omega)]; exact h8' q s hq h1' h2', by rw [gI_nk (by omega), ne _ (by omega)]; exact h9, fun i hi => by rw [gI_no (by omega), ne _ (by omega)]; exact h10 i (by rw [ne _ (by omega)] at hi; exact hi), by rw [gI_nk (by omega), ne _ (by omega)]; exact h11, fun i hi => by rw [gI_no (by omega), ne _ (by omega)]; exact h12 i (by rw [ne _ (by omega)] at hi; exact hi)⟩
  · obtain ⟨c1, c2, c3, c4⟩ := h2 t ht
    have en : nB (wkB (stB B 85 (B 85 + 1)) (B 85) v1 v2 v3 v4 v5) t = nB B t := ne _ (by omega)
    rw [en]
    refine ⟨c1, by rw [gI_no (by omega)]; exact c2, c3, fun k hk => ?_⟩
    have em : mS (wkB (stB B 85 (B 85 + 1)) (B 85) v1 v2 v3 v4 v5) t k = mS B t k := by unfold mS; rw [ne _ (by omega), ne _ (by omega)]
    rw [em, gI_no (by omega)]; exact c4 k hk
  · rw [e85] at hi
    rw [gI_no (by omega)]
    rcases (show i < 5 * B 85 ∨ i = B 85 * 5 ∨ i = B 85 * 5 + 1 ∨ i = B 85 * 5 + 2 ∨ i = B 85 * 5 + 3 ∨ i = B 85 * 5 + 4 by omega) with e | e | e | e | e | e
    · rw [wk_ne (by omega), stB_ne (by omega)]; exact h6 i e
    · rw [e, z1]; unfold wkB; rw [stB_ne (by omega), stB_ne (by omega), stB_ne (by omega), stB_ne (by omega), show 86 + B 85 * 5 = 86 + 5 * B 85 by omega, stB_same]
    · rw [e, z2]; unfold wkB; rw [stB_ne (by omega), stB_ne (by omega), stB_ne (by omega), show 86 + (B 85 * 5 + 1) = 86 + 5 * B 85 + 1 by omega, stB_same]
    · rw [e, z3]; unfold wkB; rw [stB_ne (by omega), stB_ne (by omega), show 86 + (B 85 * 5 + 2) = 86 + 5 * B 85 + 2 by omega, stB_same]
    · rw [e, z4]; unfold wkB; rw [stB_ne (by omega), show 86 + (B 85 * 5 + 3) = 86 + 5 * B 85 + 3 by omega, stB_same]
    · rw [e, z5]; unfold wkB; rw [show 86 + (B 85 * 5 + 4) = 86 + 5 * B 85 + 4 by omega, stB_same]
theorem Rb_paper {μ : Mem} {b v1 v2 v3 v4 : Nat} {B : Nat → Nat} (h : Rb μ b B) (h85 : 5 * B 85 ≤ 40) (h8 : B 352 < 12) (z1 : gI μ (b + 5) (B 352 * 4) = nI v1) (z2 : gI μ (b + 5) (B 352 * 4 + 1) = nI v2) (z3 : gI μ (b + 5) (B 352 * 4 + 2) = nI v3) (z4 : gI μ (b + 5) (B 352 * 4 + 3) = nI v4) : Rb (sI μ b 13 (nI (B 352 + 1))) b (paB (stB B 352 (B 352 + 1)) (B 352) v1 v2 v3 v4) := by
  obtain ⟨h0', h1, h2, h3, h4, h5, h6, h7, h8', h9, h10, h11, h12⟩ := h
  have ne : ∀ i, i < 352 ∨ 401 ≤ i → paB (stB B 352 (B 352 + 1)) (B 352) v1 v2 v3 v4 i = B i := fun i hi => by rw [pa_ne (by omega), stB_ne (by omega)]
  have e85 : paB (stB B 352 (B 352 + 1)) (B 352) v1 v2 v3 v4 352 = B 352 + 1 := by rw [pa_ne (by omega), stB_same]
  have hw : wayN (paB (stB B 352 (B 352 + 1)) (B 352) v1 v2 v3 v4) = wayN B := by unfold wayN; rw [ne _ (by omega), ne _ (by omega), ne _ (by omega)]
  refine ⟨h0', by rw [gI_nk (by omega), ne _ (by omega)]; exact h1, fun t ht => ?_, fun i hi => by rw [gI_no (by omega), ne _ (by omega)]; exact h3 i hi, by rw [gI_nk (by omega), hw]; exact h4, by rw [gI_nk (by omega), ne _ (by omega)]; exact h5, fun i hi => ?_, by rw [gI_nk (by omega), ne _ (by omega)]; exact h7, fun q s hq h1' h2' => by rw [gI_no (by omega), ne _ (by omega)]; exact h8' q s hq h1' h2', by rw [gI_same, e85], fun i hi => ?_, by rw [gI_nk (by omega), ne _ (by omega)]; exact h11, fun i hi => by rw [gI_no (by omega), ne _ (by omega)]; exact h12 i (by rw [ne _ (by omega)] at hi; exact hi)⟩
  · obtain ⟨c1, c2, c3, c4⟩ := h2 t ht
    have en : nB (paB (stB B 352 (B 352 + 1)) (B 352) v1 v2 v3 v4) t = nB B t := ne _ (by omega)
    rw [en]
    refine ⟨c1, by rw [gI_no (by omega)]; exact c2, c3, fun k hk => ?_⟩
    have em : mS (paB (stB B 352 (B 352 + 1)) (B 352) v1 v2 v3 v4) t k = mS B t k := by unfold mS; rw [ne _ (by omega), ne _ (by omega)]
    rw [em, gI_no (by omega)]; exact c4 k hk
  · rw [ne _ (by omega)] at hi
    rw [gI_no (by omega), ne _ (by omega)]; exact h6 i hi
  · rw [e85] at hi
    rw [gI_no (by omega)]
    rcases (show i < 4 * B 352 ∨ i = B 352 * 4 ∨ i = B 352 * 4 + 1 ∨ i = B 352 * 4 + 2 ∨ i = B 352 * 4 + 3 by omega) with e | e | e | e | e
    · rw [pa_ne (by omega), stB_ne (by omega)]; exact h10 i e
    · rw [e, z1]; unfold paB; rw [stB_ne (by omega), stB_ne (by omega), stB_ne (by omega), show 353 + B 352 * 4 = 353 + 4 * B 352 by omega, stB_same]
    · rw [e, z2]; unfold paB; rw [stB_ne (by omega), stB_ne (by omega), show 353 + (B 352 * 4 + 1) = 353 + 4 * B 352 + 1 by omega, stB_same]
    · rw [e, z3]; unfold paB; rw [stB_ne (by omega), show 353 + (B 352 * 4 + 2) = 353 + 4 * B 352 + 2 by omega, stB_same]
    · rw [e, z4]; unfold paB; rw [show 353 + (B 352 * 4 + 3) = 353 + 4 * B 352 + 3 by omega, stB_same]
theorem Rb_rule {μ : Mem} {b v1 v2 v3 v4 : Nat} {B : Nat → Nat} (h : Rb μ b B) (h85 : 5 * B 85 ≤ 40) (h52 : 4 * B 352 ≤ 48) (h8 : B 401 < 16) (z1 : gI μ (b + 6) (B 401 * 4) = nI v1) (z2 : gI μ (b + 6) (B 401 * 4 + 1) = nI v2) (z3 : gI μ (b + 6) (B 401 * 4 + 2) = nI v3) (z4 : gI μ (b + 6) (B 401 * 4 + 3) = nI v4) : Rb (sI μ b 14 (nI (B 401 + 1))) b (ruB B (B 401) v1 v2 v3 v4) := by
  obtain ⟨h0', h1, h2, h3, h4, h5, h6, h7, h8', h9, h10, h11, h12⟩ := h
  have ne : ∀ i, i < 401 → ruB B (B 401) v1 v2 v3 v4 i = B i := fun i hi => ru_ne (by omega)
  have e85 : ruB B (B 401) v1 v2 v3 v4 401 = B 401 + 1 := by unfold ruB; rw [stB_same]
  have hw : wayN (ruB B (B 401) v1 v2 v3 v4) = wayN B := by unfold wayN; rw [ne _ (by omega), ne _ (by omega), ne _ (by omega)]
  refine ⟨h0', by rw [gI_nk (by omega), ne _ (by omega)]; exact h1, fun t ht => ?_, fun i hi => by rw [gI_no (by omega), ne _ (by omega)]; exact h3 i hi, by rw [gI_nk (by omega), hw]; exact h4, by rw [gI_nk (by omega), ne _ (by omega)]; exact h5, fun i hi => ?_, by rw [gI_nk (by omega), ne _ (by omega)]; exact h7, fun q s hq h1' h2' => by rw [gI_no (by omega), ne _ (by omega)]; exact h8' q s hq h1' h2', by rw [gI_nk (by omega), ne _ (by omega)]; exact h9, fun i hi => ?_, by rw [gI_same, e85], fun i hi => ?_⟩
  · obtain ⟨c1, c2, c3, c4⟩ := h2 t ht
    have en : nB (ruB B (B 401) v1 v2 v3 v4) t = nB B t := ne _ (by omega)
    rw [en]
    refine ⟨c1, by rw [gI_no (by omega)]; exact c2, c3, fun k hk => ?_⟩
    have em : mS (ruB B (B 401) v1 v2 v3 v4) t k = mS B t k := by unfold mS; rw [ne _ (by omega), ne _ (by omega)]
    rw [em, gI_no (by omega)]; exact c4 k hk
  · rw [ne _ (by omega)] at hi
    rw [gI_no (by omega), ne _ (by omega)]; exact h6 i hi
  · rw [ne _ (by omega)] at hi
    rw [gI_no (by omega), ne _ (by omega)]; exact h10 i hi
  · rw [e85] at hi
    rw [gI_no (by omega)]
    rcases (show i < 4 * B 401 ∨ i = B 401 * 4 ∨ i = B 401 * 4 + 1 ∨ i = B 401 * 4 + 2 ∨ i = B 401 * 4 + 3 by omega) with e | e | e | e | e
    · rw [ru_ne (by omega)]; exact h12 i e
    · rw [e, z1]; unfold ruB; rw [stB_ne (by omega), stB_ne (by omega), stB_ne (by omega), stB_ne (by omega), show 402 + B 401 * 4 = 402 + 4 * B 401 by omega, stB_same]
    · rw [e, z2]; unfold ruB; rw [stB_ne (by omega), stB_ne (by omega), stB_ne (by omega), show 402 + (B 401 * 4 + 1) = 402 + 4 * B 401 + 1 by omega, stB_same]
    · rw [e, z3]; unfold ruB; rw [stB_ne (by omega), stB_ne (by omega), show 402 + (B 401 * 4 + 2) = 402 + 4 * B 401 + 2 by omega, stB_same]
    · rw [e, z4]; unfold ruB; rw [stB_ne (by omega), show 402 + (B 401 * 4 + 3) = 402 + 4 * B 401 + 3 by omega, stB_same]
set_option maxHeartbeats 1000000 in
theorem s_r_work (Γ : Gm) (μ : Mem) (r t b : Nat) (s : Tp) (n : Nat) (B : Nat → Nat) (M : NM) (hr : RD μ r t b s) (htr : t + 1 < r) (hrb : r + 2 < b) (hS : RS μ r s n) (hR : Rb μ b B) (hC : CN μ b M) (hf : gI μ r 5 = nI 0) (hP : PIv B M)  : SpV Γ MX4_readWork 4 0 0 [.ref r] μ (fun μ2 => RX r b s (bnd (pWork s n B M) (pSemi s)) μ μ2) := by
  refine SpV.of okX4_readWork rfl [some (.ref r), none, none, none] ⟨rfl, trivial⟩ (leb rfl) (leb rfl) (fun X hX hE hnm => ?_)
  have hs : same (SRB r b) μ μ := same.rf
  obtain ⟨hM9, hb0, hb85, hb126, hb352⟩ := M32 hP
  refine w_aload_n (i := 0) hX dX4_readWork_0 rfl rfl ?_
  refine w_getR (q := b) hX dX4_readWork_1 fo_RX4_41 rfl (rd_s hr.1) hr.2.2.1 ?_
  refine w_getI hX dX4_readWork_4 fo_RX4_141 rfl (bk_s hR.1) ?_
  refine w_top (y := nI (B 85)) hR.2.2.2.2.2.1 ?_
  refine w_istore_n (i := 1) (l2 := [some (.ref r), some (.int (nI (B 85))), none, none]) hX dX4_readWork_7 rfl (ltb rfl) rfl rfl ?_
  refine w_aload_n (i := 0) hX dX4_readWork_8 rfl rfl ?_
  refine w_iload_n (i := 1) hX dX4_readWork_9 rfl rfl ?_
  refine w_bipush hX dX4_readWork_10 kB_8 ?_
  refine wn_icmp_ge (tgt := 19) hX dX4_readWork_12 (by decide) (by first | omega | (have := kd_le (s := s) (n := n); omega)) (by first | omega | (have := kd_le (s := s) (n := n); omega)) (fun c1 => ?_) (fun c1 => ?_)
  · refine w_iconst hX dX4_readWork_19 kI_0 ?_
    refine w_callVI (As := [.int (nI 0)]) (rest := []) (ci := 4) (o := r) (k2 := 0) (n2 := 0) hX dX4_readWork_20 (s_r_more0 Γ μ r t b s hr htr hrb (n) hS) okX4_takeOneMore (ltb rfl) (rd_s hr.1) ml_RX4_93 imX4_takeOneMore seX4_takeOneMore rfl (leb rfl) (leb rfl) rfl rfl (fun r9 μ9 hq9 => ?_)
    obtain ⟨hr9, hm9⟩ := hq9; rw [hr9, hm9]; clear hr9 hm9 r9 μ9
    refine wn_if_eq (tgt := 36) hX dX4_readWork_23 (by decide) (by first | omega | (have := kd_le (s := s) (n := n); omega)) (fun c2 => ?_) (fun c2 => ?_)
    · have hpx : pWork s n B M = .inl (ft s 5 (n)) := by unfold pWork; exact bnd_l (pNew_5 (by omega))
      exact w_vret hX hE dX4_readWork_36 (Or.inl rfl) (RX_l (bnd_l hpx) hs (ft_lt hr.2.2.2.2.2 (by omega) (by omega)))
    · exact absurd c2 (by decide)
  · refine w_iconst hX dX4_readWork_15 kI_1 ?_
    refine w_goto (tgt := 20) hX dX4_readWork_16 (by decide) ?_
    refine w_callVI (As := [.int (nI 1)]) (rest := []) (ci := 4) (o := r) (k2 := 0) (n2 := 0) hX dX4_readWork_20 (s_r_more1 Γ μ r t b s hr htr hrb (n) hS) okX4_takeOneMore (ltb rfl) (rd_s hr.1) ml_RX4_93 imX4_takeOneMore seX4_takeOneMore rfl (leb rfl) (leb rfl) rfl rfl (fun r2 ν2 hq9 => ?_)
    obtain ⟨e2, hS_2, t2⟩ := hq9; rw [e2]
    have hr_2 := hr.sm t2 (fun o k h => by unfold SA at h; omega)
    have hR_2 := Rb_fr t2 (fun o k h => Or.inl (by unfold SA at h; omega)) hR
    have hC_2 := hC.sm t2 (fun o k h => by unfold SA at h; omega)
    have hf_2 : gI ν2 r 5 = nI 0 := by rw [(t2.2.2 _ _ (fun h => by unfold SA at h; omega)).1]; exact hf
    have hs_2 := hs.tr (t2.up (fun o k h => by unfold SA at h; unfold SRB; omega))
    refine wn_if_eq (tgt := 36) hX dX4_readWork_23 (by decide) (by first | omega | (have := kd_le (s := s) (n := n); omega)) (fun c3 => ?_) (fun c3 => ?_)
    · exact absurd c3 (by decide)
    · have hM32 : M.1 < 32 := by omega
      refine w_aload_n (i := 0) hX dX4_readWork_26 rfl rfl ?_
      refine w_bipush hX dX4_readWork_27 kB_9 ?_
      refine w_top (y := nI (kc 1)) rfl ?_
      refine w_iload_n (i := 1) hX dX4_readWork_29 rfl rfl ?_
      refine w_callVI (As := [.int (nI (kc 1)), .int (nI (B 85))]) (rest := []) (ci := 4) (o := r) (k2 := 0) (n2 := 0) hX dX4_readWork_30 (s_r_new Γ ν2 r t b s hr_2 htr hrb (n + 1) hS_2 hR_2.1 M hC_2 1 (B 85) (by omega) hM32) okX4_takeNewName (ltb rfl) (rd_s hr_2.1) ml_RX4_97 imX4_takeNewName seX4_takeNewName rfl (leb rfl) (leb rfl) rfl rfl (fun r3 ν3 hq9 => ?_)
      rcases hq9 with ⟨w3, u3, e3, hS_3, hC_3, t3⟩ | ⟨w3, e3, m3⟩ | ⟨w3, ⟨i3, u3⟩, e3, m3⟩
      · rw [e3, show bI true = nI 1 from rfl]
        have hr_3 := hr_2.sm t3 (fun o k h => by unfold SA at h; omega)
        have hR_3 := Rb_fr t3 (fun o k h => by unfold SA at h; omega) hR_2
        have hf_3 : gI ν3 r 5 = nI 0 := by rw [(t3.2.2 _ _ (fun h => by unfold SA at h; omega)).1]; exact hf_2
        have hs_3 := hs_2.tr (t3.up (fun o k h => by unfold SA at h; unfold SRB; omega))
        refine wn_if_ne (tgt := 37) hX dX4_readWork_33 (by decide) (by first | omega | (have := kd_le (s := s) (n := n); omega)) (fun c4 => ?_) (fun c4 => ?_)
        · refine w_aload_n (i := 0) hX dX4_readWork_37 rfl rfl ?_
          refine w_getR (q := b) hX dX4_readWork_38 fo_RX4_41 rfl (rd_s hr_3.1) hr_3.2.2.1 ?_
          refine w_getR (q := b + 3) hX dX4_readWork_41 fo_RX4_144 rfl (bk_s hR_3.1) (bk_r2 hR_3.1) ?_
          refine w_astore_n (i := 2) (l2 := [some (.ref r), some (.int (nI (B 85))), some (.ref (b + 3)), none]) hX dX4_readWork_44 rfl (ltb rfl) rfl rfl ?_
          refine w_iload_n (i := 1) hX dX4_readWork_45 rfl rfl ?_
          refine w_iconst hX dX4_readWork_46 kI_5 ?_
          refine w_imulN hX dX4_readWork_47 ?_
          refine w_istore_n (i := 3) (l2 := [some (.ref r), some (.int (nI (B 85))), some (.ref (b + 3)), some (.int (nI ((B 85) * 5)))]) hX dX4_readWork_48 rfl (ltb rfl) rfl rfl ?_
          refine w_aload_n (i := 0) hX dX4_readWork_49 rfl rfl ?_
          refine w_bipush hX dX4_readWork_50 kB_10 ?_
          refine w_callVI (As := [.int (nI 10)]) (rest := []) (ci := 4) (o := r) (k2 := 0) (n2 := 0) hX dX4_readWork_52 (s_r_take Γ ν3 r t b s hr_3 htr hrb (n + 2) hS_3 10 (by omega)) okX4_take (ltb rfl) (rd_s hr_3.1) ml_RX4_101 imX4_take seX4_take rfl (leb rfl) (leb rfl) rfl rfl (fun r4 ν4 hq9 => ?_)
          rcases hq9 with ⟨w4, e4, hS_4, t4⟩ | ⟨w4, e4, m4⟩
          · rw [e4, show bI true = nI 1 from rfl]
            have hr_4 := hr_3.sm t4 (fun o k h => by unfold SA at h; omega)
            have hR_4 := Rb_fr t4 (fun o k h => Or.inl (by unfold SA at h; omega)) hR_3
            have hC_4 := hC_3.sm t4 (fun o k h => by unfold SA at h; omega)
            have hf_4 : gI ν4 r 5 = nI 0 := by rw [(t4.2.2 _ _ (fun h => by unfold SA at h; omega)).1]; exact hf_3
            have hs_4 := hs_3.tr (t4.up (fun o k h => by unfold SA at h; unfold SRB; omega))
            refine wn_if_eq (tgt := 192) hX dX4_readWork_55 (by decide) (by first | omega | (have := kd_le (s := s) (n := n); omega)) (fun c5 => ?_) (fun c5 => ?_)
            · exact absurd c5 (by decide)
            · refine w_aload_n (i := 0) hX dX4_readWork_58 rfl rfl ?_
              refine w_iconst hX dX4_readWork_59 kI_0 ?_
              refine w_sipush hX dX4_readWork_60 kS_3649 ?_
              refine w_aload_n (i := 2) hX dX4_readWork_63 rfl rfl ?_
              refine w_iload_n (i := 3) hX dX4_readWork_64 rfl rfl ?_
              refine w_callVI (As := [.int (nI 0), .int (nI 3649), .ref (b + 3), .int (nI ((B 85) * 5))]) (rest := []) (ci := 4) (o := r) (k2 := 0) (n2 := 0) hX dX4_readWork_65 (s_r_takeN Γ ν4 r t b s hr_4 htr hrb (n + 3) hS_4 0 3649 (by omega) (by omega) (b + 3) ((B 85) * 5) 40 (bk_a3 hR_4.1) (by omega) (by omega) (by omega)) okX4_takeNumber (ltb rfl) (rd_s hr_4.1) ml_RX4_123 imX4_takeNumber seX4_takeNumber rfl (leb rfl) (leb rfl) rfl rfl (fun r5 ν5 hq9 => ?_)
              rcases hq9 with ⟨p5, e5, hS_5, z5, t5⟩ | ⟨f5, p5, e5, m5⟩
              · rw [e5, show bI true = nI 1 from rfl]
                obtain ⟨q5, -, l5, g5⟩ := pNb_inr p5
                have hr_5 := hr_4.sm t5 (fun o k h => by unfold SA at h; omega)
                have hR_5 := Rb_fr t5 (fun o k h => by unfold SA at h; omega) hR_4
                have hC_5 := hC_4.sm t5 (fun o k h => by unfold SA at h; omega)
                have hf_5 : gI ν5 r 5 = nI 0 := by rw [(t5.2.2 _ _ (fun h => by unfold SA at h; omega)).1]; exact hf_4
                have hs_5 := hs_4.tr (t5.up (fun o k h => by unfold SA at h; unfold SRB; omega))
                refine wn_if_eq (tgt := 192) hX dX4_readWork_68 (by decide) (by first | omega | (have := kd_le (s := s) (n := n); omega)) (fun c6 => ?_) (fun c6 => ?_)
                · exact absurd c6 (by decide)
                · refine w_aload_n (i := 0) hX dX4_readWork_71 rfl rfl ?_
                  refine w_bipush hX dX4_readWork_72 kB_11 ?_
                  refine w_callVI (As := [.int (nI 11)]) (rest := []) (ci := 4) (o := r) (k2 := 0) (n2 := 0) hX dX4_readWork_74 (s_r_take Γ ν5 r t b s hr_5 htr hrb (n + 4) hS_5 11 (by omega)) okX4_take (ltb rfl) (rd_s hr_5.1) ml_RX4_101 imX4_take seX4_take rfl (leb rfl) (leb rfl) rfl rfl (fun r6 ν6 hq9 => ?_)
                  rcases hq9 with ⟨w6, e6, hS_6, t6⟩ | ⟨w6, e6, m6⟩
                  · rw [e6, show bI true = nI 1 from rfl]
                    have zz7 : gI ν6 (b + 3) ((B 85) * 5) = nI (vl s (n + 3)) := by rw [(t6.2.2 _ _ (fun h => by unfold SA at h; omega)).1]; exact z5
                    have hr_6 := hr_5.sm t6 (fun o k h => by unfold SA at h; omega)
                    have hR_6 := Rb_fr t6 (fun o k h => Or.inl (by unfold SA at h; omega)) hR_5
                    have hC_6 := hC_5.sm t6 (fun o k h => by unfold SA at h; omega)
                    have hf_6 : gI ν6 r 5 = nI 0 := by rw [(t6.2.2 _ _ (fun h => by unfold SA at h; omega)).1]; exact hf_5
                    have hs_6 := hs_5.tr (t6.up (fun o k h => by unfold SA at h; unfold SRB; omega))
                    refine wn_if_eq (tgt := 192) hX dX4_readWork_77 (by decide) (by first | omega | (have := kd_le (s := s) (n := n); omega)) (fun c7 => ?_) (fun c7 => ?_)
                    · exact absurd c7 (by decide)
                    · refine w_aload_n (i := 0) hX dX4_readWork_80 rfl rfl ?_
                      refine w_iconst hX dX4_readWork_81 kI_0 ?_
                      refine w_sipush hX dX4_readWork_82 kS_1440 ?_
                      refine w_aload_n (i := 2) hX dX4_readWork_85 rfl rfl ?_
                      refine w_iload_n (i := 3) hX dX4_readWork_86 rfl rfl ?_
                      refine w_iconst hX dX4_readWork_87 kI_1 ?_
                      refine w_iaddN hX dX4_readWork_88 ?_
                      refine w_callVI (As := [.int (nI 0), .int (nI 1440), .ref (b + 3), .int (nI ((B 85) * 5 + 1))]) (rest := []) (ci := 4) (o := r) (k2 := 0) (n2 := 0) hX dX4_readWork_89 (s_r_takeN Γ ν6 r t b s hr_6 htr hrb (n + 5) hS_6 0 1440 (by omega) (by omega) (b + 3) ((B 85) * 5 + 1) 40 (bk_a3 hR_6.1) (by omega) (by omega) (by omega)) okX4_takeNumber (ltb rfl) (rd_s hr_6.1) ml_RX4_123 imX4_takeNumber seX4_takeNumber rfl (leb rfl) (leb rfl) rfl rfl (fun r8 ν8 hq9 => ?_)
                      rcases hq9 with ⟨p8, e8, hS_8, z8, t8⟩ | ⟨f8, p8, e8, m8⟩
                      · rw [e8, show bI true = nI 1 from rfl]
                        obtain ⟨q8, -, l8, g8⟩ := pNb_inr p8
                        have zz9 : gI ν8 (b + 3) ((B 85) * 5) = nI (vl s (n + 3)) := by rw [(t8.2.2 _ _ (fun h => by unfold SA at h; omega)).1]; exact zz7
                        have hr_8 := hr_6.sm t8 (fun o k h => by unfold SA at h; omega)
                        have hR_8 := Rb_fr t8 (fun o k h => by unfold SA at h; omega) hR_6
                        have hC_8 := hC_6.sm t8 (fun o k h => by unfold SA at h; omega)
                        have hf_8 : gI ν8 r 5 = nI 0 := by rw [(t8.2.2 _ _ (fun h => by unfold SA at h; omega)).1]; exact hf_6
                        have hs_8 := hs_6.tr (t8.up (fun o k h => by unfold SA at h; unfold SRB; omega))
                        refine wn_if_eq (tgt := 192) hX dX4_readWork_92 (by decide) (by first | omega | (have := kd_le (s := s) (n := n); omega)) (fun c8 => ?_) (fun c8 => ?_)
                        · exact absurd c8 (by decide)
                        · refine w_aload_n (i := 0) hX dX4_readWork_95 rfl rfl ?_
                          refine w_bipush hX dX4_readWork_96 kB_12 ?_
                          refine w_callVI (As := [.int (nI 12)]) (rest := []) (ci := 4) (o := r) (k2 := 0) (n2 := 0) hX dX4_readWork_98 (s_r_take Γ ν8 r t b s hr_8 htr hrb (n + 6) hS_8 12 (by omega)) okX4_take (ltb rfl) (rd_s hr_8.1) ml_RX4_101 imX4_take seX4_take rfl (leb rfl) (leb rfl) rfl rfl (fun r10 ν10 hq9 => ?_)
                          rcases hq9 with ⟨w10, e10, hS_10, t10⟩ | ⟨w10, e10, m10⟩
                          · rw [e10, show bI true = nI 1 from rfl]
                            have zz11 : gI ν10 (b + 3) ((B 85) * 5) = nI (vl s (n + 3)) := by rw [(t10.2.2 _ _ (fun h => by unfold SA at h; omega)).1]; exact zz9
                            have zz12 : gI ν10 (b + 3) ((B 85) * 5 + 1) = nI (vl s (n + 5)) := by rw [(t10.2.2 _ _ (fun h => by unfold SA at h; omega)).1]; exact z8
                            have hr_10 := hr_8.sm t10 (fun o k h => by unfold SA at h; omega)
                            have hR_10 := Rb_fr t10 (fun o k h => Or.inl (by unfold SA at h; omega)) hR_8
                            have hC_10 := hC_8.sm t10 (fun o k h => by unfold SA at h; omega)
                            have hf_10 : gI ν10 r 5 = nI 0 := by rw [(t10.2.2 _ _ (fun h => by unfold SA at h; omega)).1]; exact hf_8
                            have hs_10 := hs_8.tr (t10.up (fun o k h => by unfold SA at h; unfold SRB; omega))
                            refine wn_if_eq (tgt := 192) hX dX4_readWork_101 (by decide) (by first | omega | (have := kd_le (s := s) (n := n); omega)) (fun c9 => ?_) (fun c9 => ?_)
                            · exact absurd c9 (by decide)
                            · refine w_aload_n (i := 0) hX dX4_readWork_104 rfl rfl ?_
                              refine w_aload_n (i := 2) hX dX4_readWork_105 rfl rfl ?_
                              refine w_iload_n (i := 3) hX dX4_readWork_106 rfl rfl ?_
                              refine w_iconst hX dX4_readWork_107 kI_1 ?_
                              refine w_iaddN hX dX4_readWork_108 ?_
                              refine w_ialdN hX dX4_readWork_109 (bk_a3 hR_10.1) (by omega) (by omega) ?_
                              refine w_top (y := nI (vl s (n + 5))) zz12 ?_
                              refine w_iconst hX dX4_readWork_110 kI_1 ?_
                              refine w_iaddN hX dX4_readWork_111 ?_
                              refine w_sipush hX dX4_readWork_112 kS_1440 ?_
                              refine w_aload_n (i := 2) hX dX4_readWork_115 rfl rfl ?_
                              refine w_iload_n (i := 3) hX dX4_readWork_116 rfl rfl ?_
                              refine w_iconst hX dX4_readWork_117 kI_2 ?_
                              refine w_iaddN hX dX4_readWork_118 ?_
                              refine w_callVI (As := [.int (nI (vl s (n + 5) + 1)), .int (nI 1440), .ref (b + 3), .int (nI ((B 85) * 5 + 2))]) (rest := []) (ci := 4) (o := r) (k2 := 0) (n2 := 0) hX dX4_readWork_119 (s_r_takeN Γ ν10 r t b s hr_10 htr hrb (n + 7) hS_10 (vl s (n + 5) + 1) 1440 (by omega) (by omega) (b + 3) ((B 85) * 5 + 2) 40 (bk_a3 hR_10.1) (by omega) (by omega) (by omega)) okX4_takeNumber (ltb rfl) (rd_s hr_10.1) ml_RX4_123 imX4_takeNumber seX4_takeNumber rfl (leb rfl) (leb rfl) rfl rfl (fun r13 ν13 hq9 => ?_)
                              rcases hq9 with ⟨p13, e13, hS_13, z13, t13⟩ | ⟨f13, p13, e13, m13⟩
                              · rw [e13, show bI true = nI 1 from rfl]
                                obtain ⟨q13, -, l13, g13⟩ := pNb_inr p13
                                have zz14 : gI ν13 (b + 3) ((B 85) * 5) = nI (vl s (n + 3)) := by rw [(t13.2.2 _ _ (fun h => by unfold SA at h; omega)).1]; exact zz11
                                have zz15 : gI ν13 (b + 3) ((B 85) * 5 + 1) = nI (vl s (n + 5)) := by rw [(t13.2.2 _ _ (fun h => by unfold SA at h; omega)).1]; exact zz12
                                have hr_13 := hr_10.sm t13 (fun o k h => by unfold SA at h; omega)
                                have hR_13 := Rb_fr t13 (fun o k h => by unfold SA at h; omega) hR_10
                                have hC_13 := hC_10.sm t13 (fun o k h => by unfold SA at h; omega)
                                have hf_13 : gI ν13 r 5 = nI 0 := by rw [(t13.2.2 _ _ (fun h => by unfold SA at h; omega)).1]; exact hf_10
                                have hs_13 := hs_10.tr (t13.up (fun o k h => by unfold SA at h; unfold SRB; omega))
                                refine wn_if_eq (tgt := 192) hX dX4_readWork_122 (by decide) (by first | omega | (have := kd_le (s := s) (n := n); omega)) (fun c10 => ?_) (fun c10 => ?_)
                                · exact absurd c10 (by decide)
                                · refine w_aload_n (i := 0) hX dX4_readWork_125 rfl rfl ?_
                                  refine w_bipush hX dX4_readWork_126 kB_13 ?_
                                  refine w_callVI (As := [.int (nI 13)]) (rest := []) (ci := 4) (o := r) (k2 := 0) (n2 := 0) hX dX4_readWork_128 (s_r_take Γ ν13 r t b s hr_13 htr hrb (n + 8) hS_13 13 (by omega)) okX4_take (ltb rfl) (rd_s hr_13.1) ml_RX4_101 imX4_take seX4_take rfl (leb rfl) (leb rfl) rfl rfl (fun r16 ν16 hq9 => ?_)
                                  rcases hq9 with ⟨w16, e16, hS_16, t16⟩ | ⟨w16, e16, m16⟩
                                  · rw [e16, show bI true = nI 1 from rfl]
                                    have zz17 : gI ν16 (b + 3) ((B 85) * 5) = nI (vl s (n + 3)) := by rw [(t16.2.2 _ _ (fun h => by unfold SA at h; omega)).1]; exact zz14
                                    have zz18 : gI ν16 (b + 3) ((B 85) * 5 + 1) = nI (vl s (n + 5)) := by rw [(t16.2.2 _ _ (fun h => by unfold SA at h; omega)).1]; exact zz15
                                    have zz19 : gI ν16 (b + 3) ((B 85) * 5 + 2) = nI (vl s (n + 7)) := by rw [(t16.2.2 _ _ (fun h => by unfold SA at h; omega)).1]; exact z13
                                    have hr_16 := hr_13.sm t16 (fun o k h => by unfold SA at h; omega)
                                    have hR_16 := Rb_fr t16 (fun o k h => Or.inl (by unfold SA at h; omega)) hR_13
                                    have hC_16 := hC_13.sm t16 (fun o k h => by unfold SA at h; omega)
                                    have hf_16 : gI ν16 r 5 = nI 0 := by rw [(t16.2.2 _ _ (fun h => by unfold SA at h; omega)).1]; exact hf_13
                                    have hs_16 := hs_13.tr (t16.up (fun o k h => by unfold SA at h; unfold SRB; omega))
                                    refine wn_if_eq (tgt := 192) hX dX4_readWork_131 (by decide) (by first | omega | (have := kd_le (s := s) (n := n); omega)) (fun c11 => ?_) (fun c11 => ?_)
                                    · exact absurd c11 (by decide)
                                    · refine w_aload_n (i := 0) hX dX4_readWork_134 rfl rfl ?_
                                      refine w_iconst hX dX4_readWork_135 kI_1 ?_
                                      refine w_sipush hX dX4_readWork_136 kS_1440 ?_
                                      refine w_aload_n (i := 2) hX dX4_readWork_139 rfl rfl ?_
                                      refine w_iload_n (i := 3) hX dX4_readWork_140 rfl rfl ?_
                                      refine w_iconst hX dX4_readWork_141 kI_3 ?_
                                      refine w_iaddN hX dX4_readWork_142 ?_
                                      refine w_callVI (As := [.int (nI 1), .int (nI 1440), .ref (b + 3), .int (nI ((B 85) * 5 + 3))]) (rest := []) (ci := 4) (o := r) (k2 := 0) (n2 := 0) hX dX4_readWork_143 (s_r_takeN Γ ν16 r t b s hr_16 htr hrb (n + 9) hS_16 1 1440 (by omega) (by omega) (b + 3) ((B 85) * 5 + 3) 40 (bk_a3 hR_16.1) (by omega) (by omega) (by omega)) okX4_takeNumber (ltb rfl) (rd_s hr_16.1) ml_RX4_123 imX4_takeNumber seX4_takeNumber rfl (leb rfl) (leb rfl) rfl rfl (fun r20 ν20 hq9 => ?_)
                                      rcases hq9 with ⟨p20, e20, hS_20, z20, t20⟩ | ⟨f20, p20, e20, m20⟩
                                      · rw [e20, show bI true = nI 1 from rfl]
                                        obtain ⟨q20, -, l20, g20⟩ := pNb_inr p20
                                        have zz21 : gI ν20 (b + 3) ((B 85) * 5) = nI (vl s (n + 3)) := by rw [(t20.2.2 _ _ (fun h => by unfold SA at h; omega)).1]; exact zz17
                                        have zz22 : gI ν20 (b + 3) ((B 85) * 5 + 1) = nI (vl s (n + 5)) := by rw [(t20.2.2 _ _ (fun h => by unfold SA at h; omega)).1]; exact zz18
                                        have zz23 : gI ν20 (b + 3) ((B 85) * 5 + 2) = nI (vl s (n + 7)) := by rw [(t20.2.2 _ _ (fun h => by unfold SA at h; omega)).1]; exact zz19
                                        have hr_20 := hr_16.sm t20 (fun o k h => by unfold SA at h; omega)
                                        have hR_20 := Rb_fr t20 (fun o k h => by unfold SA at h; omega) hR_16
                                        have hC_20 := hC_16.sm t20 (fun o k h => by unfold SA at h; omega)
                                        have hf_20 : gI ν20 r 5 = nI 0 := by rw [(t20.2.2 _ _ (fun h => by unfold SA at h; omega)).1]; exact hf_16
                                        have hs_20 := hs_16.tr (t20.up (fun o k h => by unfold SA at h; unfold SRB; omega))
                                        refine wn_if_eq (tgt := 192) hX dX4_readWork_146 (by decide) (by first | omega | (have := kd_le (s := s) (n := n); omega)) (fun c12 => ?_) (fun c12 => ?_)
                                        · exact absurd c12 (by decide)
                                        · refine w_aload_n (i := 0) hX dX4_readWork_149 rfl rfl ?_
                                          refine w_bipush hX dX4_readWork_150 kB_14 ?_
                                          refine w_callVI (As := [.int (nI 14)]) (rest := []) (ci := 4) (o := r) (k2 := 0) (n2 := 0) hX dX4_readWork_152 (s_r_take Γ ν20 r t b s hr_20 htr hrb (n + 10) hS_20 14 (by omega)) okX4_take (ltb rfl) (rd_s hr_20.1) ml_RX4_101 imX4_take seX4_take rfl (leb rfl) (leb rfl) rfl rfl (fun r24 ν24 hq9 => ?_)
                                          rcases hq9 with ⟨w24, e24, hS_24, t24⟩ | ⟨w24, e24, m24⟩
                                          · rw [e24, show bI true = nI 1 from rfl]
                                            have zz25 : gI ν24 (b + 3) ((B 85) * 5) = nI (vl s (n + 3)) := by rw [(t24.2.2 _ _ (fun h => by unfold SA at h; omega)).1]; exact zz21
                                            have zz26 : gI ν24 (b + 3) ((B 85) * 5 + 1) = nI (vl s (n + 5)) := by rw [(t24.2.2 _ _ (fun h => by unfold SA at h; omega)).1]; exact zz22
                                            have zz27 : gI ν24 (b + 3) ((B 85) * 5 + 2) = nI (vl s (n + 7)) := by rw [(t24.2.2 _ _ (fun h => by unfold SA at h; omega)).1]; exact zz23
                                            have zz28 : gI ν24 (b + 3) ((B 85) * 5 + 3) = nI (vl s (n + 9)) := by rw [(t24.2.2 _ _ (fun h => by unfold SA at h; omega)).1]; exact z20
                                            have hr_24 := hr_20.sm t24 (fun o k h => by unfold SA at h; omega)
                                            have hR_24 := Rb_fr t24 (fun o k h => Or.inl (by unfold SA at h; omega)) hR_20
                                            have hC_24 := hC_20.sm t24 (fun o k h => by unfold SA at h; omega)
                                            have hf_24 : gI ν24 r 5 = nI 0 := by rw [(t24.2.2 _ _ (fun h => by unfold SA at h; omega)).1]; exact hf_20
                                            have hs_24 := hs_20.tr (t24.up (fun o k h => by unfold SA at h; unfold SRB; omega))
                                            refine wn_if_eq (tgt := 192) hX dX4_readWork_155 (by decide) (by first | omega | (have := kd_le (s := s) (n := n); omega)) (fun c13 => ?_) (fun c13 => ?_)
                                            · exact absurd c13 (by decide)
                                            · refine w_aload_n (i := 0) hX dX4_readWork_158 rfl rfl ?_
                                              refine w_iconst hX dX4_readWork_159 kI_0 ?_
                                              refine w_sipush hX dX4_readWork_160 kS_999 ?_
                                              refine w_aload_n (i := 2) hX dX4_readWork_163 rfl rfl ?_
                                              refine w_iload_n (i := 3) hX dX4_readWork_164 rfl rfl ?_
                                              refine w_iconst hX dX4_readWork_165 kI_4 ?_
                                              refine w_iaddN hX dX4_readWork_166 ?_
                                              refine w_callVI (As := [.int (nI 0), .int (nI 999), .ref (b + 3), .int (nI ((B 85) * 5 + 4))]) (rest := []) (ci := 4) (o := r) (k2 := 0) (n2 := 0) hX dX4_readWork_167 (s_r_takeN Γ ν24 r t b s hr_24 htr hrb (n + 11) hS_24 0 999 (by omega) (by omega) (b + 3) ((B 85) * 5 + 4) 40 (bk_a3 hR_24.1) (by omega) (by omega) (by omega)) okX4_takeNumber (ltb rfl) (rd_s hr_24.1) ml_RX4_123 imX4_takeNumber seX4_takeNumber rfl (leb rfl) (leb rfl) rfl rfl (fun r29 ν29 hq9 => ?_)
                                              rcases hq9 with ⟨p29, e29, hS_29, z29, t29⟩ | ⟨f29, p29, e29, m29⟩
                                              · rw [e29, show bI true = nI 1 from rfl]
                                                obtain ⟨q29, -, l29, g29⟩ := pNb_inr p29
                                                have zz30 : gI ν29 (b + 3) ((B 85) * 5) = nI (vl s (n + 3)) := by rw [(t29.2.2 _ _ (fun h => by unfold SA at h; omega)).1]; exact zz25
                                                have zz31 : gI ν29 (b + 3) ((B 85) * 5 + 1) = nI (vl s (n + 5)) := by rw [(t29.2.2 _ _ (fun h => by unfold SA at h; omega)).1]; exact zz26
                                                have zz32 : gI ν29 (b + 3) ((B 85) * 5 + 2) = nI (vl s (n + 7)) := by rw [(t29.2.2 _ _ (fun h => by unfold SA at h; omega)).1]; exact zz27
                                                have zz33 : gI ν29 (b + 3) ((B 85) * 5 + 3) = nI (vl s (n + 9)) := by rw [(t29.2.2 _ _ (fun h => by unfold SA at h; omega)).1]; exact zz28
                                                have hr_29 := hr_24.sm t29 (fun o k h => by unfold SA at h; omega)
                                                have hR_29 := Rb_fr t29 (fun o k h => by unfold SA at h; omega) hR_24
                                                have hC_29 := hC_24.sm t29 (fun o k h => by unfold SA at h; omega)
                                                have hf_29 : gI ν29 r 5 = nI 0 := by rw [(t29.2.2 _ _ (fun h => by unfold SA at h; omega)).1]; exact hf_24
                                                have hs_29 := hs_24.tr (t29.up (fun o k h => by unfold SA at h; unfold SRB; omega))
                                                refine wn_if_eq (tgt := 192) hX dX4_readWork_170 (by decide) (by first | omega | (have := kd_le (s := s) (n := n); omega)) (fun c14 => ?_) (fun c14 => ?_)
                                                · exact absurd c14 (by decide)
                                                · refine w_aload_n (i := 0) hX dX4_readWork_173 rfl rfl ?_
                                                  refine w_getR (q := b) hX dX4_readWork_174 fo_RX4_41 rfl (rd_s hr_29.1) hr_29.2.2.1 ?_
                                                  refine w_dup hX dX4_readWork_177 rfl ?_
                                                  refine w_getI hX dX4_readWork_178 fo_RX4_141 rfl (bk_s hR_29.1) ?_
                                                  refine w_top (y := nI (B 85)) hR_29.2.2.2.2.2.1 ?_
                                                  refine w_iconst hX dX4_readWork_181 kI_1 ?_
                                                  refine w_iaddN hX dX4_readWork_182 ?_
                                                  refine w_putI hX dX4_readWork_183 fo_RX4_141 rfl rfl rfl rfl (bk_s hR_29.1) ?_
                                                  have s34 : same (fun o2 k2 => (o2 = b ∧ k2 = 11)) ν29 (sI ν29 b 11 (nI (B 85 + 1))) := (same.rf).sI (⟨rfl, rfl⟩)
                                                  have zz35 : gI (sI ν29 b 11 (nI (B 85 + 1))) (b + 3) ((B 85) * 5) = nI (vl s (n + 3)) := by rw [(s34.2.2 _ _ (fun h => by omega)).1]; exact zz30
                                                  have zz36 : gI (sI ν29 b 11 (nI (B 85 + 1))) (b + 3) ((B 85) * 5 + 1) = nI (vl s (n + 5)) := by rw [(s34.2.2 _ _ (fun h => by omega)).1]; exact zz31
                                                  have zz37 : gI (sI ν29 b 11 (nI (B 85 + 1))) (b + 3) ((B 85) * 5 + 2) = nI (vl s (n + 7)) := by rw [(s34.2.2 _ _ (fun h => by omega)).1]; exact zz32
                                                  have zz38 : gI (sI ν29 b 11 (nI (B 85 + 1))) (b + 3) ((B 85) * 5 + 3) = nI (vl s (n + 9)) := by rw [(s34.2.2 _ _ (fun h => by omega)).1]; exact zz33
                                                  have zz39 : gI (sI ν29 b 11 (nI (B 85 + 1))) (b + 3) ((B 85) * 5 + 4) = nI (vl s (n + 11)) := by rw [(s34.2.2 _ _ (fun h => by omega)).1]; exact z29
                                                  have hr_34 := hr_29.sm s34 (fun o k h => by omega)
                                                  have hS_34 := hS_29.sm s34 (fun k h1 h2 h => by omega)
                                                  have hR_34 := Rb_work hR_29 (by omega) zz30 zz31 zz32 zz33 z29
                                                  have hC_34 := hC_29.sm s34 (fun o k h => by omega)
                                                  have hf_34 : gI (sI ν29 b 11 (nI (B 85 + 1))) r 5 = nI 0 := by rw [(s34.2.2 _ _ (fun h => by omega)).1]; exact hf_29
                                                  have hs_34 := hs_29.tr (s34.up (fun o k h => by unfold SRB; omega))
                                                  refine w_aload_n (i := 0) hX dX4_readWork_186 rfl rfl ?_
                                                  refine w_iconst hX dX4_readWork_187 kI_2 ?_
                                                  refine w_callVI (As := [.int (nI 2)]) (rest := []) (ci := 4) (o := r) (k2 := 0) (n2 := 0) hX dX4_readWork_188 (s_r_take Γ (sI ν29 b 11 (nI (B 85 + 1))) r t b s hr_34 htr hrb (n + 12) hS_34 2 (by omega)) okX4_take (ltb rfl) (rd_s hr_34.1) ml_RX4_101 imX4_take seX4_take rfl (leb rfl) (leb rfl) rfl rfl (fun r40 ν40 hq9 => ?_)
                                                  rcases hq9 with ⟨w40, e40, hS_40, t40⟩ | ⟨w40, e40, m40⟩
                                                  · rw [e40, show bI true = nI 1 from rfl]
                                                    have zz41 : gI ν40 (b + 3) ((B 85) * 5) = nI (vl s (n + 3)) := by rw [(t40.2.2 _ _ (fun h => by unfold SA at h; omega)).1]; exact zz35
                                                    have zz42 : gI ν40 (b + 3) ((B 85) * 5 + 1) = nI (vl s (n + 5)) := by rw [(t40.2.2 _ _ (fun h => by unfold SA at h; omega)).1]; exact zz36
                                                    have zz43 : gI ν40 (b + 3) ((B 85) * 5 + 2) = nI (vl s (n + 7)) := by rw [(t40.2.2 _ _ (fun h => by unfold SA at h; omega)).1]; exact zz37
                                                    have zz44 : gI ν40 (b + 3) ((B 85) * 5 + 3) = nI (vl s (n + 9)) := by rw [(t40.2.2 _ _ (fun h => by unfold SA at h; omega)).1]; exact zz38
                                                    have zz45 : gI ν40 (b + 3) ((B 85) * 5 + 4) = nI (vl s (n + 11)) := by rw [(t40.2.2 _ _ (fun h => by unfold SA at h; omega)).1]; exact zz39
                                                    have hr_40 := hr_34.sm t40 (fun o k h => by unfold SA at h; omega)
                                                    have hR_40 := Rb_fr t40 (fun o k h => Or.inl (by unfold SA at h; omega)) hR_34
                                                    have hC_40 := hC_34.sm t40 (fun o k h => by unfold SA at h; omega)
                                                    have hf_40 : gI ν40 r 5 = nI 0 := by rw [(t40.2.2 _ _ (fun h => by unfold SA at h; omega)).1]; exact hf_34
                                                    have hs_40 := hs_34.tr (t40.up (fun o k h => by unfold SA at h; unfold SRB; omega))
                                                    refine w_pop hX dX4_readWork_191 rfl ?_
                                                    have hpx : pWork s n B M = .inr (n + 12, wkB (stB B 85 (B 85 + 1)) (B 85) (vl s (n + 3)) (vl s (n + 5)) (vl s (n + 7)) (vl s (n + 9)) (vl s (n + 11)), (addM M (wd s (n + 1)) 1 (B 85))) := by unfold pWork; exact (bnd_r (pNew_y (by omega) w3 u3)).trans ((bnd_r (pWd_y w4)).trans ((bnd_r p5).trans ((bnd_r (pWd_y w6)).trans ((bnd_r p8).trans ((bnd_r (pWd_y w10)).trans ((bnd_r p13).trans ((bnd_r (pWd_y w16)).trans ((bnd_r p20).trans ((bnd_r (pWd_y w24)).trans (bnd_r p29))))))))))
                                                    exact w_vret hX hE dX4_readWork_192 (Or.inl rfl) (RX_r ((bnd_r hpx).trans (bnd_r (pWd_y w40))) hs_40 hf_40 hS_40 hR_40 hC_40)
                                                  · rw [e40, m40, show bI false = nI 0 from rfl]
                                                    refine w_pop hX dX4_readWork_191 rfl ?_
                                                    have hpx : pWork s n B M = .inr (n + 12, wkB (stB B 85 (B 85 + 1)) (B 85) (vl s (n + 3)) (vl s (n + 5)) (vl s (n + 7)) (vl s (n + 9)) (vl s (n + 11)), (addM M (wd s (n + 1)) 1 (B 85))) := by unfold pWork; exact (bnd_r (pNew_y (by omega) w3 u3)).trans ((bnd_r (pWd_y w4)).trans ((bnd_r p5).trans ((bnd_r (pWd_y w6)).trans ((bnd_r p8).trans ((bnd_r (pWd_y w10)).trans ((bnd_r p13).trans ((bnd_r (pWd_y w16)).trans ((bnd_r p20).trans ((bnd_r (pWd_y w24)).trans (bnd_r p29))))))))))
                                                    exact w_vret hX hE dX4_readWork_192 (Or.inl rfl) (RX_l ((bnd_r hpx).trans (bnd_l (pWd_n w40))) hs_34 (ft_lt hr.2.2.2.2.2 (by omega) (by omega)))
                                              · rw [e29, m29, show bI false = nI 0 from rfl]
                                                refine wn_if_eq (tgt := 192) hX dX4_readWork_170 (by decide) (by first | omega | (have := kd_le (s := s) (n := n); omega)) (fun c15 => ?_) (fun c15 => ?_)
                                                · have hpx : pWork s n B M = .inl f29 := by unfold pWork; exact (bnd_r (pNew_y (by omega) w3 u3)).trans ((bnd_r (pWd_y w4)).trans ((bnd_r p5).trans ((bnd_r (pWd_y w6)).trans ((bnd_r p8).trans ((bnd_r (pWd_y w10)).trans ((bnd_r p13).trans ((bnd_r (pWd_y w16)).trans ((bnd_r p20).trans ((bnd_r (pWd_y w24)).trans (bnd_l p29))))))))))
                                                  exact w_vret hX hE dX4_readWork_192 (Or.inl rfl) (RX_l (bnd_l hpx) hs_24 (pNb_l hr.2.2.2.2.2 p29))
                                                · exact absurd c15 (by decide)
                                          · rw [e24, m24, show bI false = nI 0 from rfl]
                                            refine wn_if_eq (tgt := 192) hX dX4_readWork_155 (by decide) (by first | omega | (have := kd_le (s := s) (n := n); omega)) (fun c16 => ?_) (fun c16 => ?_)
                                            · have hpx : pWork s n B M = .inl (ft s 1 (n + 10)) := by unfold pWork; exact (bnd_r (pNew_y (by omega) w3 u3)).trans ((bnd_r (pWd_y w4)).trans ((bnd_r p5).trans ((bnd_r (pWd_y w6)).trans ((bnd_r p8).trans ((bnd_r (pWd_y w10)).trans ((bnd_r p13).trans ((bnd_r (pWd_y w16)).trans ((bnd_r p20).trans (bnd_l (pWd_n w24))))))))))
                                              exact w_vret hX hE dX4_readWork_192 (Or.inl rfl) (RX_l (bnd_l hpx) hs_20 (ft_lt hr.2.2.2.2.2 (by omega) (by omega)))
                                            · exact absurd c16 (by decide)
                                      · rw [e20, m20, show bI false = nI 0 from rfl]
                                        refine wn_if_eq (tgt := 192) hX dX4_readWork_146 (by decide) (by first | omega | (have := kd_le (s := s) (n := n); omega)) (fun c17 => ?_) (fun c17 => ?_)
                                        · have hpx : pWork s n B M = .inl f20 := by unfold pWork; exact (bnd_r (pNew_y (by omega) w3 u3)).trans ((bnd_r (pWd_y w4)).trans ((bnd_r p5).trans ((bnd_r (pWd_y w6)).trans ((bnd_r p8).trans ((bnd_r (pWd_y w10)).trans ((bnd_r p13).trans ((bnd_r (pWd_y w16)).trans (bnd_l p20))))))))
                                          exact w_vret hX hE dX4_readWork_192 (Or.inl rfl) (RX_l (bnd_l hpx) hs_16 (pNb_l hr.2.2.2.2.2 p20))
                                        · exact absurd c17 (by decide)
                                  · rw [e16, m16, show bI false = nI 0 from rfl]
                                    refine wn_if_eq (tgt := 192) hX dX4_readWork_131 (by decide) (by first | omega | (have := kd_le (s := s) (n := n); omega)) (fun c18 => ?_) (fun c18 => ?_)
                                    · have hpx : pWork s n B M = .inl (ft s 1 (n + 8)) := by unfold pWork; exact (bnd_r (pNew_y (by omega) w3 u3)).trans ((bnd_r (pWd_y w4)).trans ((bnd_r p5).trans ((bnd_r (pWd_y w6)).trans ((bnd_r p8).trans ((bnd_r (pWd_y w10)).trans ((bnd_r p13).trans (bnd_l (pWd_n w16))))))))
                                      exact w_vret hX hE dX4_readWork_192 (Or.inl rfl) (RX_l (bnd_l hpx) hs_13 (ft_lt hr.2.2.2.2.2 (by omega) (by omega)))
                                    · exact absurd c18 (by decide)
                              · rw [e13, m13, show bI false = nI 0 from rfl]
                                refine wn_if_eq (tgt := 192) hX dX4_readWork_122 (by decide) (by first | omega | (have := kd_le (s := s) (n := n); omega)) (fun c19 => ?_) (fun c19 => ?_)
                                · have hpx : pWork s n B M = .inl f13 := by unfold pWork; exact (bnd_r (pNew_y (by omega) w3 u3)).trans ((bnd_r (pWd_y w4)).trans ((bnd_r p5).trans ((bnd_r (pWd_y w6)).trans ((bnd_r p8).trans ((bnd_r (pWd_y w10)).trans (bnd_l p13))))))
                                  exact w_vret hX hE dX4_readWork_192 (Or.inl rfl) (RX_l (bnd_l hpx) hs_10 (pNb_l hr.2.2.2.2.2 p13))
                                · exact absurd c19 (by decide)
                          · rw [e10, m10, show bI false = nI 0 from rfl]
                            refine wn_if_eq (tgt := 192) hX dX4_readWork_101 (by decide) (by first | omega | (have := kd_le (s := s) (n := n); omega)) (fun c20 => ?_) (fun c20 => ?_)
                            · have hpx : pWork s n B M = .inl (ft s 1 (n + 6)) := by unfold pWork; exact (bnd_r (pNew_y (by omega) w3 u3)).trans ((bnd_r (pWd_y w4)).trans ((bnd_r p5).trans ((bnd_r (pWd_y w6)).trans ((bnd_r p8).trans (bnd_l (pWd_n w10))))))
                              exact w_vret hX hE dX4_readWork_192 (Or.inl rfl) (RX_l (bnd_l hpx) hs_8 (ft_lt hr.2.2.2.2.2 (by omega) (by omega)))
                            · exact absurd c20 (by decide)
                      · rw [e8, m8, show bI false = nI 0 from rfl]
                        refine wn_if_eq (tgt := 192) hX dX4_readWork_92 (by decide) (by first | omega | (have := kd_le (s := s) (n := n); omega)) (fun c21 => ?_) (fun c21 => ?_)
                        · have hpx : pWork s n B M = .inl f8 := by unfold pWork; exact (bnd_r (pNew_y (by omega) w3 u3)).trans ((bnd_r (pWd_y w4)).trans ((bnd_r p5).trans ((bnd_r (pWd_y w6)).trans (bnd_l p8))))
                          exact w_vret hX hE dX4_readWork_192 (Or.inl rfl) (RX_l (bnd_l hpx) hs_6 (pNb_l hr.2.2.2.2.2 p8))
                        · exact absurd c21 (by decide)
                  · rw [e6, m6, show bI false = nI 0 from rfl]
                    refine wn_if_eq (tgt := 192) hX dX4_readWork_77 (by decide) (by first | omega | (have := kd_le (s := s) (n := n); omega)) (fun c22 => ?_) (fun c22 => ?_)
                    · have hpx : pWork s n B M = .inl (ft s 1 (n + 4)) := by unfold pWork; exact (bnd_r (pNew_y (by omega) w3 u3)).trans ((bnd_r (pWd_y w4)).trans ((bnd_r p5).trans (bnd_l (pWd_n w6))))
                      exact w_vret hX hE dX4_readWork_192 (Or.inl rfl) (RX_l (bnd_l hpx) hs_5 (ft_lt hr.2.2.2.2.2 (by omega) (by omega)))
                    · exact absurd c22 (by decide)
              · rw [e5, m5, show bI false = nI 0 from rfl]
                refine wn_if_eq (tgt := 192) hX dX4_readWork_68 (by decide) (by first | omega | (have := kd_le (s := s) (n := n); omega)) (fun c23 => ?_) (fun c23 => ?_)
                · have hpx : pWork s n B M = .inl f5 := by unfold pWork; exact (bnd_r (pNew_y (by omega) w3 u3)).trans ((bnd_r (pWd_y w4)).trans (bnd_l p5))
                  exact w_vret hX hE dX4_readWork_192 (Or.inl rfl) (RX_l (bnd_l hpx) hs_4 (pNb_l hr.2.2.2.2.2 p5))
                · exact absurd c23 (by decide)
          · rw [e4, m4, show bI false = nI 0 from rfl]
            refine wn_if_eq (tgt := 192) hX dX4_readWork_55 (by decide) (by first | omega | (have := kd_le (s := s) (n := n); omega)) (fun c24 => ?_) (fun c24 => ?_)
            · have hpx : pWork s n B M = .inl (ft s 1 (n + 2)) := by unfold pWork; exact (bnd_r (pNew_y (by omega) w3 u3)).trans (bnd_l (pWd_n w4))
              exact w_vret hX hE dX4_readWork_192 (Or.inl rfl) (RX_l (bnd_l hpx) hs_3 (ft_lt hr.2.2.2.2.2 (by omega) (by omega)))
            · exact absurd c24 (by decide)
        · exact absurd c4 (by decide)
      · rw [e3, m3, show bI false = nI 0 from rfl]
        refine wn_if_ne (tgt := 37) hX dX4_readWork_33 (by decide) (by first | omega | (have := kd_le (s := s) (n := n); omega)) (fun c25 => ?_) (fun c25 => ?_)
        · exact absurd c25 (by decide)
        · have hpx : pWork s n B M = .inl (ft s 1 (n + 1)) := by unfold pWork; exact bnd_l (pNew_1 (by omega) w3)
          exact w_vret hX hE dX4_readWork_36 (Or.inl rfl) (RX_l (bnd_l hpx) hs_2 (ft_lt hr.2.2.2.2.2 (by omega) (by omega)))
      · rw [e3, m3, show bI false = nI 0 from rfl]
        refine wn_if_ne (tgt := 37) hX dX4_readWork_33 (by decide) (by first | omega | (have := kd_le (s := s) (n := n); omega)) (fun c26 => ?_) (fun c26 => ?_)
        · exact absurd c26 (by decide)
        · have hpx : pWork s n B M = .inl (ft s 3 (n + 1)) := by unfold pWork; exact bnd_l (pNew_3 (by omega) w3 u3)
          exact w_vret hX hE dX4_readWork_36 (Or.inl rfl) (RX_l (bnd_l hpx) hs_2 (ft_lt hr.2.2.2.2.2 (by omega) (by omega)))
