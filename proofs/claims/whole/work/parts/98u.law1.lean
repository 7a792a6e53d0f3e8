/-- what holds between two lines of the script -/
def LI (ν : Mem) (b c : Nat) (B : Nat → Nat) (s : Tp) (k9 : Nat) : Prop := XI ν b c B s k9 ∧ YI ν 57 B s k9 ∧ WB B ∧ okT s ∧ ν.1[80]? = some (.inr (1, 1))
def LIx (ν : Mem) : Prop := ∃ b c B s k9, LI ν b c B s k9
theorem LI.m {S : Nat → Nat → Prop} {μ ν : Mem} {b c k9 : Nat} {B : Nat → Nat} {s : Tp} (h : LI μ b c B s k9) (hs : same S μ ν) (hX : XI ν b c B s k9) (hS : ∀ o k, S o k → o < 57) : LI ν b c B s k9 := ⟨hX, h.2.1.sm hs (fun o k h9 => by have := hS o k h9; omega), h.2.2.1, h.2.2.2.1, by rw [hs.1]; exact h.2.2.2.2⟩
theorem LI.r {S : Nat → Nat → Prop} {μ ν : Mem} {b c k9 : Nat} {B : Nat → Nat} {s : Tp} (h : LI μ b c B s k9) (hs : same S μ ν) (hY : YI ν 57 B s k9) (hS : ∀ o k, S o k → 57 ≤ o) : LI ν b c B s k9 := ⟨h.1.sm hs (fun o k h9 => Or.inl (hS o k h9)), hY, h.2.2.1, h.2.2.2.1, by rw [hs.1]; exact h.2.2.2.2⟩
set_option maxHeartbeats 1000000 in
theorem l_worlds {Γ : Gm} {X : Cx} {k n i L : Nat} {xs : Nat → Int32} (hX : GX Γ X RL cL_law 280) (hC : SCR Γ X L xs) (hi : i + 8 ≤ L) (hL : L < 2 ^ 30) (ν : Mem) (b c : Nat) (B : Nat → Nat) (s : Tp) (k9 : Nat) (h : LI ν b c B s k9) (kk : ∀ ν2, LIx ν2 → WP Γ X k n 1551 [some (.ref scr), some (.ref 0), some (.ref 57), some (.ref 80), some (.int (nI i)), none, none] [] ν2) : WP Γ X k n 680 [some (.ref scr), some (.ref 0), some (.ref 57), some (.ref 80), some (.int (nI i)), none, none] [] ν := by
  have hb25 : 25 ≤ b := by have := h.1.2.1; omega
  refine w_aload_n (i := 1) hX dL_law_680 rfl rfl ?_
  refine w_callVI (As := []) (rest := []) (ci := 8) (o := 0) (k2 := k) (n2 := n) hX dL_law_681 (s_x_worlds Γ ν b c B h.1.1 h.1.2.2.1 h.2.2.1 hb25 h.1.2.2.2.2.2.2.2.2.1 ) okX8_worlds (ltb rfl) h.1.1.1 ml_RL_70 imX8_worlds seX8_worlds rfl (leb rfl) (leb rfl) (Nat.zero_add _) (Nat.zero_add _) (fun r9 ν1 hq9 => ?_)
  obtain ⟨hr9, hq9⟩ := hq9; rw [hr9]; clear hr9 r9
  have g : LI ν1 b c B s k9 := h.m hq9.2 (h.1.w hq9.2 hq9.1) (fun o k h9 => by unfold SW at h9; omega)
  refine w_aload_n (i := 2) hX dL_law_684 rfl rfl ?_
  refine w_callVI (As := []) (rest := [.int (A_worlds B )]) (ci := 9) (o := 57) (k2 := k) (n2 := n) hX dL_law_685 (s_m_worlds Γ ν1 57 B g.2.1.1 g.2.2.1 ) okX9_worlds (ltb rfl) (mod_s g.2.1.1.1.1) ml_RL_73 imX9_worlds seX9_worlds rfl (leb rfl) (leb rfl) (Nat.zero_add _) (Nat.zero_add _) (fun r9 ν2 hq9 => ?_)
  obtain ⟨hr9, hq9⟩ := hq9; rw [hr9]; clear hr9 r9
  have l2 : LI ν2 b c B s k9 := g.r hq9 (g.2.1.sm hq9 (fun o k h9 => by unfold SV at h9; omega)) (fun o k h9 => by unfold SV at h9; omega)
  refine wc_icmp_eq (tgt := 1551) hX dL_law_688 (by decide) (fun c1 => ?_) (fun c1 => ?_)
  · exact kk _ ⟨_, _, _, _, _, l2⟩
  · exact absurd rfl c1
set_option maxHeartbeats 1000000 in
theorem l_world {Γ : Gm} {X : Cx} {k n i L : Nat} {xs : Nat → Int32} (hX : GX Γ X RL cL_law 280) (hC : SCR Γ X L xs) (hi : i + 8 ≤ L) (hL : L < 2 ^ 30) (ν : Mem) (b c : Nat) (B : Nat → Nat) (s : Tp) (k9 : Nat) (h : LI ν b c B s k9) (kk : ∀ ν2, LIx ν2 → WP Γ X k n 1551 [some (.ref scr), some (.ref 0), some (.ref 57), some (.ref 80), some (.int (nI i)), none, none] [] ν2) : WP Γ X k n 693 [some (.ref scr), some (.ref 0), some (.ref 57), some (.ref 80), some (.int (nI i)), none, none] [] ν := by
  have hb25 : 25 ≤ b := by have := h.1.2.1; omega
  refine w_aload_n (i := 1) hX dL_law_693 rfl rfl ?_
  refine w_aload_n (i := 0) hX dL_law_694 rfl rfl ?_
  refine w_iload hX dL_law_695 rfl ?_
  refine w_iconst hX dL_law_697 kI_1 ?_
  refine w_iaddN hX dL_law_698 ?_
  refine w_sld hX hC (vp_in_nI (by omega) (by omega)) dL_law_699 ?_
  refine w_aload_n (i := 0) hX dL_law_700 rfl rfl ?_
  refine w_iload hX dL_law_701 rfl ?_
  refine w_iconst hX dL_law_703 kI_2 ?_
  refine w_iaddN hX dL_law_704 ?_
  refine w_sld hX hC (vp_in_nI (by omega) (by omega)) dL_law_705 ?_
  refine w_callVI (As := [.int (xs (nI (i + 1)).toNatClampNeg), .int (xs (nI (i + 2)).toNatClampNeg)]) (rest := []) (ci := 8) (o := 0) (k2 := k) (n2 := n) hX dL_law_706 (s_x_world Γ ν b c B h.1.1 h.1.2.2.1 h.2.2.1 hb25 h.1.2.2.2.2.2.2.2.2.1 (xs (nI (i + 1)).toNatClampNeg) (xs (nI (i + 2)).toNatClampNeg)) okX8_world (ltb rfl) h.1.1.1 ml_RL_74 imX8_world seX8_world rfl (leb rfl) (leb rfl) (Nat.zero_add _) (Nat.zero_add _) (fun r9 ν1 hq9 => ?_)
  obtain ⟨hr9, hq9⟩ := hq9; rw [hr9]; clear hr9 r9
  have g : LI ν1 b c B s k9 := h.m hq9.2 (h.1.w hq9.2 hq9.1) (fun o k h9 => by unfold SW at h9; omega)
  refine w_aload_n (i := 2) hX dL_law_709 rfl rfl ?_
  refine w_aload_n (i := 0) hX dL_law_710 rfl rfl ?_
  refine w_iload hX dL_law_711 rfl ?_
  refine w_iconst hX dL_law_713 kI_1 ?_
  refine w_iaddN hX dL_law_714 ?_
  refine w_sld hX hC (vp_in_nI (by omega) (by omega)) dL_law_715 ?_
  refine w_aload_n (i := 0) hX dL_law_716 rfl rfl ?_
  refine w_iload hX dL_law_717 rfl ?_
  refine w_iconst hX dL_law_719 kI_2 ?_
  refine w_iaddN hX dL_law_720 ?_
  refine w_sld hX hC (vp_in_nI (by omega) (by omega)) dL_law_721 ?_
  refine w_callVI (As := [.int (xs (nI (i + 1)).toNatClampNeg), .int (xs (nI (i + 2)).toNatClampNeg)]) (rest := [.int (A_world B (xs (nI (i + 1)).toNatClampNeg) (xs (nI (i + 2)).toNatClampNeg))]) (ci := 9) (o := 57) (k2 := k) (n2 := n) hX dL_law_722 (s_m_world Γ ν1 57 B g.2.1.1 g.2.2.1 (xs (nI (i + 1)).toNatClampNeg) (xs (nI (i + 2)).toNatClampNeg)) okX9_world (ltb rfl) (mod_s g.2.1.1.1.1) ml_RL_77 imX9_world seX9_world rfl (leb rfl) (leb rfl) (Nat.zero_add _) (Nat.zero_add _) (fun r9 ν2 hq9 => ?_)
  obtain ⟨hr9, hq9⟩ := hq9; rw [hr9]; clear hr9 r9
  have l2 : LI ν2 b c B s k9 := g.r hq9 (g.2.1.sm hq9 (fun o k h9 => by unfold SV at h9; omega)) (fun o k h9 => by unfold SV at h9; omega)
  refine wc_icmp_eq (tgt := 1551) hX dL_law_725 (by decide) (fun c1 => ?_) (fun c1 => ?_)
  · exact kk _ ⟨_, _, _, _, _, l2⟩
  · exact absurd rfl c1
set_option maxHeartbeats 1000000 in
theorem l_sure {Γ : Gm} {X : Cx} {k n i L : Nat} {xs : Nat → Int32} (hX : GX Γ X RL cL_law 280) (hC : SCR Γ X L xs) (hi : i + 8 ≤ L) (hL : L < 2 ^ 30) (ν : Mem) (b c : Nat) (B : Nat → Nat) (s : Tp) (k9 : Nat) (h : LI ν b c B s k9) (kk : ∀ ν2, LIx ν2 → WP Γ X k n 1551 [some (.ref scr), some (.ref 0), some (.ref 57), some (.ref 80), some (.int (nI i)), none, none] [] ν2) : WP Γ X k n 730 [some (.ref scr), some (.ref 0), some (.ref 57), some (.ref 80), some (.int (nI i)), none, none] [] ν := by
  have hb25 : 25 ≤ b := by have := h.1.2.1; omega
  refine w_aload_n (i := 1) hX dL_law_730 rfl rfl ?_
  refine w_aload_n (i := 0) hX dL_law_731 rfl rfl ?_
  refine w_iload hX dL_law_732 rfl ?_
  refine w_iconst hX dL_law_734 kI_1 ?_
  refine w_iaddN hX dL_law_735 ?_
  refine w_sld hX hC (vp_in_nI (by omega) (by omega)) dL_law_736 ?_
  refine w_callVI (As := [.int (xs (nI (i + 1)).toNatClampNeg)]) (rest := []) (ci := 8) (o := 0) (k2 := k) (n2 := n) hX dL_law_737 (s_x_sure Γ ν b c B h.1.1 h.1.2.2.1 h.2.2.1 hb25 h.1.2.2.2.2.2.2.2.2.1 (xs (nI (i + 1)).toNatClampNeg)) okX8_sure (ltb rfl) h.1.1.1 ml_RL_78 imX8_sure seX8_sure rfl (leb rfl) (leb rfl) (Nat.zero_add _) (Nat.zero_add _) (fun r9 ν1 hq9 => ?_)
  obtain ⟨hr9, hq9⟩ := hq9; rw [hr9]; clear hr9 r9
  have g : LI ν1 b c B s k9 := h.m hq9.2 (h.1.w hq9.2 hq9.1) (fun o k h9 => by unfold SW at h9; omega)
  refine w_aload_n (i := 2) hX dL_law_740 rfl rfl ?_
  refine w_aload_n (i := 0) hX dL_law_741 rfl rfl ?_
  refine w_iload hX dL_law_742 rfl ?_
  refine w_iconst hX dL_law_744 kI_1 ?_
  refine w_iaddN hX dL_law_745 ?_
  refine w_sld hX hC (vp_in_nI (by omega) (by omega)) dL_law_746 ?_
  refine w_callVI (As := [.int (xs (nI (i + 1)).toNatClampNeg)]) (rest := [.int (A_sure B (xs (nI (i + 1)).toNatClampNeg))]) (ci := 9) (o := 57) (k2 := k) (n2 := n) hX dL_law_747 (s_m_sure Γ ν1 57 B g.2.1.1 g.2.2.1 (xs (nI (i + 1)).toNatClampNeg)) okX9_sure (ltb rfl) (mod_s g.2.1.1.1.1) ml_RL_82 imX9_sure seX9_sure rfl (leb rfl) (leb rfl) (Nat.zero_add _) (Nat.zero_add _) (fun r9 ν2 hq9 => ?_)
  obtain ⟨hr9, hq9⟩ := hq9; rw [hr9]; clear hr9 r9
  have l2 : LI ν2 b c B s k9 := g.r hq9 (g.2.1.sm hq9 (fun o k h9 => by unfold SV at h9; omega)) (fun o k h9 => by unfold SV at h9; omega)
  refine wc_icmp_eq (tgt := 1551) hX dL_law_750 (by decide) (fun c1 => ?_) (fun c1 => ?_)
  · exact kk _ ⟨_, _, _, _, _, l2⟩
  · exact absurd rfl c1
set_option maxHeartbeats 1000000 in
theorem l_before {Γ : Gm} {X : Cx} {k n i L : Nat} {xs : Nat → Int32} (hX : GX Γ X RL cL_law 280) (hC : SCR Γ X L xs) (hi : i + 8 ≤ L) (hL : L < 2 ^ 30) (ν : Mem) (b c : Nat) (B : Nat → Nat) (s : Tp) (k9 : Nat) (h : LI ν b c B s k9) (kk : ∀ ν2, LIx ν2 → WP Γ X k n 1551 [some (.ref scr), some (.ref 0), some (.ref 57), some (.ref 80), some (.int (nI i)), none, none] [] ν2) : WP Γ X k n 755 [some (.ref scr), some (.ref 0), some (.ref 57), some (.ref 80), some (.int (nI i)), none, none] [] ν := by
  have hb25 : 25 ≤ b := by have := h.1.2.1; omega
  refine w_aload_n (i := 1) hX dL_law_755 rfl rfl ?_
  refine w_aload_n (i := 0) hX dL_law_756 rfl rfl ?_
  refine w_iload hX dL_law_757 rfl ?_
  refine w_iconst hX dL_law_759 kI_1 ?_
  refine w_iaddN hX dL_law_760 ?_
  refine w_sld hX hC (vp_in_nI (by omega) (by omega)) dL_law_761 ?_
  refine w_aload_n (i := 0) hX dL_law_762 rfl rfl ?_
  refine w_iload hX dL_law_763 rfl ?_
  refine w_iconst hX dL_law_765 kI_2 ?_
  refine w_iaddN hX dL_law_766 ?_
  refine w_sld hX hC (vp_in_nI (by omega) (by omega)) dL_law_767 ?_
  refine w_callVI (As := [.int (xs (nI (i + 1)).toNatClampNeg), .int (xs (nI (i + 2)).toNatClampNeg)]) (rest := []) (ci := 8) (o := 0) (k2 := k) (n2 := n) hX dL_law_768 (s_x_before Γ ν b c B h.1.1 h.1.2.2.1 h.2.2.1 hb25 h.1.2.2.2.2.2.2.2.2.1 (xs (nI (i + 1)).toNatClampNeg) (xs (nI (i + 2)).toNatClampNeg)) okX8_before (ltb rfl) h.1.1.1 ml_RL_83 imX8_before seX8_before rfl (leb rfl) (leb rfl) (Nat.zero_add _) (Nat.zero_add _) (fun r9 ν1 hq9 => ?_)
  obtain ⟨hr9, hq9⟩ := hq9; rw [hr9]; clear hr9 r9
  have g : LI ν1 b c B s k9 := h.m hq9.2 (h.1.w hq9.2 hq9.1) (fun o k h9 => by unfold SW at h9; omega)
  refine w_aload_n (i := 2) hX dL_law_771 rfl rfl ?_
  refine w_aload_n (i := 0) hX dL_law_772 rfl rfl ?_
  refine w_iload hX dL_law_773 rfl ?_
  refine w_iconst hX dL_law_775 kI_1 ?_
  refine w_iaddN hX dL_law_776 ?_
  refine w_sld hX hC (vp_in_nI (by omega) (by omega)) dL_law_777 ?_
  refine w_aload_n (i := 0) hX dL_law_778 rfl rfl ?_
  refine w_iload hX dL_law_779 rfl ?_
  refine w_iconst hX dL_law_781 kI_2 ?_
  refine w_iaddN hX dL_law_782 ?_
  refine w_sld hX hC (vp_in_nI (by omega) (by omega)) dL_law_783 ?_
  refine w_callVI (As := [.int (xs (nI (i + 1)).toNatClampNeg), .int (xs (nI (i + 2)).toNatClampNeg)]) (rest := [.int (A_before B (xs (nI (i + 1)).toNatClampNeg) (xs (nI (i + 2)).toNatClampNeg))]) (ci := 9) (o := 57) (k2 := k) (n2 := n) hX dL_law_784 (s_m_before Γ ν1 57 B g.2.1.1 g.2.2.1 (xs (nI (i + 1)).toNatClampNeg) (xs (nI (i + 2)).toNatClampNeg)) okX9_before (ltb rfl) (mod_s g.2.1.1.1.1) ml_RL_86 imX9_before seX9_before rfl (leb rfl) (leb rfl) (Nat.zero_add _) (Nat.zero_add _) (fun r9 ν2 hq9 => ?_)
  obtain ⟨hr9, hq9⟩ := hq9; rw [hr9]; clear hr9 r9
  have l2 : LI ν2 b c B s k9 := g.r hq9 (g.2.1.sm hq9 (fun o k h9 => by unfold SV at h9; omega)) (fun o k h9 => by unfold SV at h9; omega)
  refine wc_icmp_eq (tgt := 1551) hX dL_law_787 (by decide) (fun c1 => ?_) (fun c1 => ?_)
  · exact kk _ ⟨_, _, _, _, _, l2⟩
  · exact absurd rfl c1
set_option maxHeartbeats 1000000 in
theorem l_together {Γ : Gm} {X : Cx} {k n i L : Nat} {xs : Nat → Int32} (hX : GX Γ X RL cL_law 280) (hC : SCR Γ X L xs) (hi : i + 8 ≤ L) (hL : L < 2 ^ 30) (ν : Mem) (b c : Nat) (B : Nat → Nat) (s : Tp) (k9 : Nat) (h : LI ν b c B s k9) (kk : ∀ ν2, LIx ν2 → WP Γ X k n 1551 [some (.ref scr), some (.ref 0), some (.ref 57), some (.ref 80), some (.int (nI i)), none, none] [] ν2) : WP Γ X k n 792 [some (.ref scr), some (.ref 0), some (.ref 57), some (.ref 80), some (.int (nI i)), none, none] [] ν := by
  have hb25 : 25 ≤ b := by have := h.1.2.1; omega
  refine w_aload_n (i := 1) hX dL_law_792 rfl rfl ?_
  refine w_callVI (As := []) (rest := []) (ci := 8) (o := 0) (k2 := k) (n2 := n) hX dL_law_793 (s_x_together Γ ν b c B h.1.1 h.1.2.2.1 h.2.2.1 hb25 h.1.2.2.2.2.2.2.2.2.1 ) okX8_together (ltb rfl) h.1.1.1 ml_RL_87 imX8_together seX8_together rfl (leb rfl) (leb rfl) (Nat.zero_add _) (Nat.zero_add _) (fun r9 ν1 hq9 => ?_)
  obtain ⟨hr9, hq9⟩ := hq9; rw [hr9]; clear hr9 r9
  have g : LI ν1 b c B s k9 := h.m hq9.2 (h.1.w hq9.2 hq9.1) (fun o k h9 => by unfold SW at h9; omega)
  refine w_aload_n (i := 2) hX dL_law_796 rfl rfl ?_
  refine w_callVI (As := []) (rest := [.int (A_together B )]) (ci := 9) (o := 57) (k2 := k) (n2 := n) hX dL_law_797 (s_m_together Γ ν1 57 B g.2.1.1 g.2.2.1 ) okX9_together (ltb rfl) (mod_s g.2.1.1.1.1) ml_RL_90 imX9_together seX9_together rfl (leb rfl) (leb rfl) (Nat.zero_add _) (Nat.zero_add _) (fun r9 ν2 hq9 => ?_)
  obtain ⟨hr9, hq9⟩ := hq9; rw [hr9]; clear hr9 r9
  have l2 : LI ν2 b c B s k9 := g.r hq9 (g.2.1.sm hq9 (fun o k h9 => by unfold SV at h9; omega)) (fun o k h9 => by unfold SV at h9; omega)
  refine wc_icmp_eq (tgt := 1551) hX dL_law_800 (by decide) (fun c1 => ?_) (fun c1 => ?_)
  · exact kk _ ⟨_, _, _, _, _, l2⟩
  · exact absurd rfl c1
set_option maxHeartbeats 1000000 in
theorem l_open {Γ : Gm} {X : Cx} {k n i L : Nat} {xs : Nat → Int32} (hX : GX Γ X RL cL_law 280) (hC : SCR Γ X L xs) (hi : i + 8 ≤ L) (hL : L < 2 ^ 30) (ν : Mem) (b c : Nat) (B : Nat → Nat) (s : Tp) (k9 : Nat) (h : LI ν b c B s k9) (kk : ∀ ν2, LIx ν2 → WP Γ X k n 1551 [some (.ref scr), some (.ref 0), some (.ref 57), some (.ref 80), some (.int (nI i)), none, none] [] ν2) : WP Γ X k n 805 [some (.ref scr), some (.ref 0), some (.ref 57), some (.ref 80), some (.int (nI i)), none, none] [] ν := by
  have hb25 : 25 ≤ b := by have := h.1.2.1; omega
  refine w_aload_n (i := 1) hX dL_law_805 rfl rfl ?_
  refine w_callVI (As := []) (rest := []) (ci := 8) (o := 0) (k2 := k) (n2 := n) hX dL_law_806 (s_x_open Γ ν b c B h.1.1 h.1.2.2.1 h.2.2.1 hb25 h.1.2.2.2.2.2.2.2.2.1 ) okX8_open (ltb rfl) h.1.1.1 ml_RL_91 imX8_open seX8_open rfl (leb rfl) (leb rfl) (Nat.zero_add _) (Nat.zero_add _) (fun r9 ν1 hq9 => ?_)
  obtain ⟨hr9, hq9⟩ := hq9; rw [hr9]; clear hr9 r9
  have g : LI ν1 b c B s k9 := h.m hq9.2 (h.1.w hq9.2 hq9.1) (fun o k h9 => by unfold SW at h9; omega)
  refine w_aload_n (i := 2) hX dL_law_809 rfl rfl ?_
  refine w_callVI (As := []) (rest := [.int (A_open B )]) (ci := 9) (o := 57) (k2 := k) (n2 := n) hX dL_law_810 (s_m_open Γ ν1 57 B g.2.1.1 g.2.2.1 ) okX9_open (ltb rfl) (mod_s g.2.1.1.1.1) ml_RL_94 imX9_open seX9_open rfl (leb rfl) (leb rfl) (Nat.zero_add _) (Nat.zero_add _) (fun r9 ν2 hq9 => ?_)
  obtain ⟨hr9, hq9⟩ := hq9; rw [hr9]; clear hr9 r9
  have l2 : LI ν2 b c B s k9 := g.r hq9 (g.2.1.sm hq9 (fun o k h9 => by unfold SV at h9; omega)) (fun o k h9 => by unfold SV at h9; omega)
  refine wc_icmp_eq (tgt := 1551) hX dL_law_813 (by decide) (fun c1 => ?_) (fun c1 => ?_)
  · exact kk _ ⟨_, _, _, _, _, l2⟩
  · exact absurd rfl c1
