set_option maxHeartbeats 1000000 in
theorem l_count {Γ : Gm} {X : Cx} {k n i L : Nat} {xs : Nat → Int32} (hX : GX Γ X RL cL_law 280) (hC : SCR Γ X L xs) (hi : i + 8 ≤ L) (hL : L < 2 ^ 30) (ν : Mem) (b c : Nat) (B : Nat → Nat) (s : Tp) (k9 : Nat) (h : LI ν b c B s k9) (kk : ∀ ν2, LIx ν2 → WP Γ X k n 1551 [some (.ref scr), some (.ref 0), some (.ref 57), some (.ref 80), some (.int (nI i)), none, none] [] ν2) : WP Γ X k n 1526 [some (.ref scr), some (.ref 0), some (.ref 57), some (.ref 80), some (.int (nI i)), none, none] [] ν := by
  have hb25 : 25 ≤ b := by have := h.1.2.1; omega
  refine w_aload_n (i := 1) hX dL_law_1526 rfl rfl ?_
  refine w_aload_n (i := 0) hX dL_law_1527 rfl rfl ?_
  refine w_iload hX dL_law_1528 rfl ?_
  refine w_iconst hX dL_law_1530 kI_1 ?_
  refine w_iaddN hX dL_law_1531 ?_
  refine w_sld hX hC (vp_in_nI (by omega) (by omega)) dL_law_1532 ?_
  refine w_callVI (As := [.int (xs (nI (i + 1)).toNatClampNeg)]) (rest := []) (ci := 8) (o := 0) (k2 := k) (n2 := n) hX dL_law_1533 (s_x_count Γ ν b c B h.1.1 h.1.2.2.1 h.2.2.1 s h.1.2.2.2.2.1 (xs (nI (i + 1)).toNatClampNeg)) okX8_count (ltb rfl) h.1.1.1 ml_RL_153 imX8_count seX8_count rfl (leb rfl) (leb rfl) (Nat.zero_add _) (Nat.zero_add _) (fun r9 ν1 hq9 => ?_)
  obtain ⟨hr9, hq9⟩ := hq9; rw [hr9]; clear hr9 r9
  have g : LI ν1 b c B s k9 := by rw [hq9]; exact h
  refine w_aload_n (i := 2) hX dL_law_1536 rfl rfl ?_
  refine w_aload_n (i := 0) hX dL_law_1537 rfl rfl ?_
  refine w_iload hX dL_law_1538 rfl ?_
  refine w_iconst hX dL_law_1540 kI_1 ?_
  refine w_iaddN hX dL_law_1541 ?_
  refine w_sld hX hC (vp_in_nI (by omega) (by omega)) dL_law_1542 ?_
  refine w_callVI (As := [.int (xs (nI (i + 1)).toNatClampNeg)]) (rest := [.int (A_count B s.2 (xs (nI (i + 1)).toNatClampNeg))]) (ci := 9) (o := 57) (k2 := k) (n2 := n) hX dL_law_1543 (s_m_count Γ ν1 57 B g.2.1.1 g.2.2.1 s g.2.1.2.1 (xs (nI (i + 1)).toNatClampNeg)) okX9_count (ltb rfl) (mod_s g.2.1.1.1.1) ml_RL_156 imX9_count seX9_count rfl (leb rfl) (leb rfl) (Nat.zero_add _) (Nat.zero_add _) (fun r9 ν2 hq9 => ?_)
  obtain ⟨hr9, hq9⟩ := hq9; rw [hr9]; clear hr9 r9
  have l2 : LI ν2 b c B s k9 := by rw [hq9]; exact g.r (S := fun o k => o = 57 ∧ k = 0) (same.rf.sI ⟨rfl, rfl⟩) (g.2.1.sm (S := fun o k => o = 57 ∧ k = 0) (same.rf.sI ⟨rfl, rfl⟩) (fun o k h9 => by omega)) (fun o k h9 => by omega)
  refine wc_icmp_eq (tgt := 1551) hX dL_law_1546 (by decide) (fun c1 => ?_) (fun c1 => ?_)
  · exact kk _ ⟨_, _, _, _, _, l2⟩
  · exact absurd rfl c1
