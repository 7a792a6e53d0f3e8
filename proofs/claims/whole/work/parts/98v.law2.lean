set_option maxHeartbeats 1000000 in
theorem l_moment {Γ : Gm} {X : Cx} {k n i L : Nat} {xs : Nat → Int32} (hX : GX Γ X RL cL_law 280) (hC : SCR Γ X L xs) (hi : i + 8 ≤ L) (hL : L < 2 ^ 30) (ν : Mem) (b c : Nat) (B : Nat → Nat) (s : Tp) (k9 : Nat) (h : LI ν b c B s k9) (kk : ∀ ν2, LIx ν2 → WP Γ X k n 1551 [some (.ref scr), some (.ref 0), some (.ref 57), some (.ref 80), some (.int (nI i)), none, none] [] ν2) : WP Γ X k n 396 [some (.ref scr), some (.ref 0), some (.ref 57), some (.ref 80), some (.int (nI i)), none, none] [] ν := by
  have hb25 : 25 ≤ b := by have := h.1.2.1; omega
  refine w_aload_n (i := 1) hX dL_law_396 rfl rfl ?_
  refine w_aload_n (i := 0) hX dL_law_397 rfl rfl ?_
  refine w_iload hX dL_law_398 rfl ?_
  refine w_iconst hX dL_law_400 kI_1 ?_
  refine w_iaddN hX dL_law_401 ?_
  refine w_sld hX hC (vp_in_nI (by omega) (by omega)) dL_law_402 ?_
  refine w_aload_n (i := 0) hX dL_law_403 rfl rfl ?_
  refine w_iload hX dL_law_404 rfl ?_
  refine w_iconst hX dL_law_406 kI_2 ?_
  refine w_iaddN hX dL_law_407 ?_
  refine w_sld hX hC (vp_in_nI (by omega) (by omega)) dL_law_408 ?_
  refine w_aload_n (i := 0) hX dL_law_409 rfl rfl ?_
  refine w_iload hX dL_law_410 rfl ?_
  refine w_iconst hX dL_law_412 kI_3 ?_
  refine w_iaddN hX dL_law_413 ?_
  refine w_sld hX hC (vp_in_nI (by omega) (by omega)) dL_law_414 ?_
  refine w_aload_n (i := 0) hX dL_law_415 rfl rfl ?_
  refine w_iload hX dL_law_416 rfl ?_
  refine w_iconst hX dL_law_418 kI_4 ?_
  refine w_iaddN hX dL_law_419 ?_
  refine w_sld hX hC (vp_in_nI (by omega) (by omega)) dL_law_420 ?_
  refine w_callVI (As := [.int (xs (nI (i + 1)).toNatClampNeg), .int (xs (nI (i + 2)).toNatClampNeg), .int (xs (nI (i + 3)).toNatClampNeg), .int (xs (nI (i + 4)).toNatClampNeg)]) (rest := []) (ci := 8) (o := 0) (k2 := k) (n2 := n) hX dL_law_421 (s_x_moment Γ ν b c B h.1.1 h.1.2.2.1 h.2.2.1.1 (xs (nI (i + 1)).toNatClampNeg) (xs (nI (i + 2)).toNatClampNeg) (xs (nI (i + 3)).toNatClampNeg) (xs (nI (i + 4)).toNatClampNeg)) okX8_moment (ltb rfl) h.1.1.1 ml_RL_55 imX8_moment seX8_moment rfl (leb rfl) (leb rfl) (Nat.zero_add _) (Nat.zero_add _) (fun r9 ν1 hq9 => ?_)
  obtain ⟨hr9, hq9⟩ := hq9; rw [hr9]; clear hr9 r9
  have g : LI ν1 b c B s k9 := by rw [hq9]; exact h
  refine w_aload_n (i := 2) hX dL_law_424 rfl rfl ?_
  refine w_aload_n (i := 0) hX dL_law_425 rfl rfl ?_
  refine w_iload hX dL_law_426 rfl ?_
  refine w_iconst hX dL_law_428 kI_1 ?_
  refine w_iaddN hX dL_law_429 ?_
  refine w_sld hX hC (vp_in_nI (by omega) (by omega)) dL_law_430 ?_
  refine w_aload_n (i := 0) hX dL_law_431 rfl rfl ?_
  refine w_iload hX dL_law_432 rfl ?_
  refine w_iconst hX dL_law_434 kI_2 ?_
  refine w_iaddN hX dL_law_435 ?_
  refine w_sld hX hC (vp_in_nI (by omega) (by omega)) dL_law_436 ?_
  refine w_aload_n (i := 0) hX dL_law_437 rfl rfl ?_
  refine w_iload hX dL_law_438 rfl ?_
  refine w_iconst hX dL_law_440 kI_3 ?_
  refine w_iaddN hX dL_law_441 ?_
  refine w_sld hX hC (vp_in_nI (by omega) (by omega)) dL_law_442 ?_
  refine w_aload_n (i := 0) hX dL_law_443 rfl rfl ?_
  refine w_iload hX dL_law_444 rfl ?_
  refine w_iconst hX dL_law_446 kI_4 ?_
  refine w_iaddN hX dL_law_447 ?_
  refine w_sld hX hC (vp_in_nI (by omega) (by omega)) dL_law_448 ?_
  refine w_callVI (As := [.int (xs (nI (i + 1)).toNatClampNeg), .int (xs (nI (i + 2)).toNatClampNeg), .int (xs (nI (i + 3)).toNatClampNeg), .int (xs (nI (i + 4)).toNatClampNeg)]) (rest := [.int (A_moment B (xs (nI (i + 1)).toNatClampNeg) (xs (nI (i + 2)).toNatClampNeg) (xs (nI (i + 3)).toNatClampNeg) (xs (nI (i + 4)).toNatClampNeg))]) (ci := 9) (o := 57) (k2 := k) (n2 := n) hX dL_law_449 (s_m_moment Γ ν1 57 B g.2.1.1  (xs (nI (i + 1)).toNatClampNeg) (xs (nI (i + 2)).toNatClampNeg) (xs (nI (i + 3)).toNatClampNeg) (xs (nI (i + 4)).toNatClampNeg)) okX9_moment (ltb rfl) (mod_s g.2.1.1.1.1) ml_RL_58 imX9_moment seX9_moment rfl (leb rfl) (leb rfl) (Nat.zero_add _) (Nat.zero_add _) (fun r9 ν2 hq9 => ?_)
  obtain ⟨hr9, hq9⟩ := hq9; rw [hr9]; clear hr9 r9
  have l2 : LI ν2 b c B s k9 := by rw [hq9]; exact g.r (S := fun o k => o = 57 ∧ k = 0) (same.rf.sI ⟨rfl, rfl⟩) (g.2.1.sm (S := fun o k => o = 57 ∧ k = 0) (same.rf.sI ⟨rfl, rfl⟩) (fun o k h9 => by omega)) (fun o k h9 => by omega)
  refine wc_icmp_eq (tgt := 1551) hX dL_law_452 (by decide) (fun c1 => ?_) (fun c1 => ?_)
  · exact kk _ ⟨_, _, _, _, _, l2⟩
  · exact absurd rfl c1
set_option maxHeartbeats 1000000 in
theorem l_paper {Γ : Gm} {X : Cx} {k n i L : Nat} {xs : Nat → Int32} (hX : GX Γ X RL cL_law 280) (hC : SCR Γ X L xs) (hi : i + 8 ≤ L) (hL : L < 2 ^ 30) (ν : Mem) (b c : Nat) (B : Nat → Nat) (s : Tp) (k9 : Nat) (h : LI ν b c B s k9) (kk : ∀ ν2, LIx ν2 → WP Γ X k n 1551 [some (.ref scr), some (.ref 0), some (.ref 57), some (.ref 80), some (.int (nI i)), none, none] [] ν2) : WP Γ X k n 643 [some (.ref scr), some (.ref 0), some (.ref 57), some (.ref 80), some (.int (nI i)), none, none] [] ν := by
  have hb25 : 25 ≤ b := by have := h.1.2.1; omega
  refine w_aload_n (i := 1) hX dL_law_643 rfl rfl ?_
  refine w_aload_n (i := 0) hX dL_law_644 rfl rfl ?_
  refine w_iload hX dL_law_645 rfl ?_
  refine w_iconst hX dL_law_647 kI_1 ?_
  refine w_iaddN hX dL_law_648 ?_
  refine w_sld hX hC (vp_in_nI (by omega) (by omega)) dL_law_649 ?_
  refine w_aload_n (i := 0) hX dL_law_650 rfl rfl ?_
  refine w_iload hX dL_law_651 rfl ?_
  refine w_iconst hX dL_law_653 kI_2 ?_
  refine w_iaddN hX dL_law_654 ?_
  refine w_sld hX hC (vp_in_nI (by omega) (by omega)) dL_law_655 ?_
  refine w_callVI (As := [.int (xs (nI (i + 1)).toNatClampNeg), .int (xs (nI (i + 2)).toNatClampNeg)]) (rest := []) (ci := 8) (o := 0) (k2 := k) (n2 := n) hX dL_law_656 (s_x_paper Γ ν b c B h.1.1 h.1.2.2.1 h.2.2.1 (xs (nI (i + 1)).toNatClampNeg) (xs (nI (i + 2)).toNatClampNeg)) okX8_paper (ltb rfl) h.1.1.1 ml_RL_66 imX8_paper seX8_paper rfl (leb rfl) (leb rfl) (Nat.zero_add _) (Nat.zero_add _) (fun r9 ν1 hq9 => ?_)
  obtain ⟨hr9, hq9⟩ := hq9; rw [hr9]; clear hr9 r9
  have g : LI ν1 b c B s k9 := by rw [hq9]; exact h
  refine w_aload_n (i := 2) hX dL_law_659 rfl rfl ?_
  refine w_aload_n (i := 0) hX dL_law_660 rfl rfl ?_
  refine w_iload hX dL_law_661 rfl ?_
  refine w_iconst hX dL_law_663 kI_1 ?_
  refine w_iaddN hX dL_law_664 ?_
  refine w_sld hX hC (vp_in_nI (by omega) (by omega)) dL_law_665 ?_
  refine w_aload_n (i := 0) hX dL_law_666 rfl rfl ?_
  refine w_iload hX dL_law_667 rfl ?_
  refine w_iconst hX dL_law_669 kI_2 ?_
  refine w_iaddN hX dL_law_670 ?_
  refine w_sld hX hC (vp_in_nI (by omega) (by omega)) dL_law_671 ?_
  refine w_callVI (As := [.int (xs (nI (i + 1)).toNatClampNeg), .int (xs (nI (i + 2)).toNatClampNeg)]) (rest := [.int (A_paper B (xs (nI (i + 1)).toNatClampNeg) (xs (nI (i + 2)).toNatClampNeg))]) (ci := 9) (o := 57) (k2 := k) (n2 := n) hX dL_law_672 (s_m_paper Γ ν1 57 B g.2.1.1 g.2.2.1 (xs (nI (i + 1)).toNatClampNeg) (xs (nI (i + 2)).toNatClampNeg)) okX9_paper (ltb rfl) (mod_s g.2.1.1.1.1) ml_RL_69 imX9_paper seX9_paper rfl (leb rfl) (leb rfl) (Nat.zero_add _) (Nat.zero_add _) (fun r9 ν2 hq9 => ?_)
  obtain ⟨hr9, hq9⟩ := hq9; rw [hr9]; clear hr9 r9
  have l2 : LI ν2 b c B s k9 := by rw [hq9]; exact g.r (S := fun o k => o = 57 ∧ k = 0) (same.rf.sI ⟨rfl, rfl⟩) (g.2.1.sm (S := fun o k => o = 57 ∧ k = 0) (same.rf.sI ⟨rfl, rfl⟩) (fun o k h9 => by omega)) (fun o k h9 => by omega)
  refine wc_icmp_eq (tgt := 1551) hX dL_law_675 (by decide) (fun c1 => ?_) (fun c1 => ?_)
  · exact kk _ ⟨_, _, _, _, _, l2⟩
  · exact absurd rfl c1
set_option maxHeartbeats 1000000 in
theorem l_work {Γ : Gm} {X : Cx} {k n i L : Nat} {xs : Nat → Int32} (hX : GX Γ X RL cL_law 280) (hC : SCR Γ X L xs) (hi : i + 8 ≤ L) (hL : L < 2 ^ 30) (ν : Mem) (b c : Nat) (B : Nat → Nat) (s : Tp) (k9 : Nat) (h : LI ν b c B s k9) (kk : ∀ ν2, LIx ν2 → WP Γ X k n 1551 [some (.ref scr), some (.ref 0), some (.ref 57), some (.ref 80), some (.int (nI i)), none, none] [] ν2) : WP Γ X k n 818 [some (.ref scr), some (.ref 0), some (.ref 57), some (.ref 80), some (.int (nI i)), none, none] [] ν := by
  have hb25 : 25 ≤ b := by have := h.1.2.1; omega
  refine w_aload_n (i := 1) hX dL_law_818 rfl rfl ?_
  refine w_aload_n (i := 0) hX dL_law_819 rfl rfl ?_
  refine w_iload hX dL_law_820 rfl ?_
  refine w_iconst hX dL_law_822 kI_1 ?_
  refine w_iaddN hX dL_law_823 ?_
  refine w_sld hX hC (vp_in_nI (by omega) (by omega)) dL_law_824 ?_
  refine w_aload_n (i := 0) hX dL_law_825 rfl rfl ?_
  refine w_iload hX dL_law_826 rfl ?_
  refine w_iconst hX dL_law_828 kI_2 ?_
  refine w_iaddN hX dL_law_829 ?_
  refine w_sld hX hC (vp_in_nI (by omega) (by omega)) dL_law_830 ?_
  refine w_callVI (As := [.int (xs (nI (i + 1)).toNatClampNeg), .int (xs (nI (i + 2)).toNatClampNeg)]) (rest := []) (ci := 8) (o := 0) (k2 := k) (n2 := n) hX dL_law_831 (s_x_work Γ ν b c B h.1.1 h.1.2.2.1 h.2.2.1 (xs (nI (i + 1)).toNatClampNeg) (xs (nI (i + 2)).toNatClampNeg)) okX8_work (ltb rfl) h.1.1.1 ml_RL_95 imX8_work seX8_work rfl (leb rfl) (leb rfl) (Nat.zero_add _) (Nat.zero_add _) (fun r9 ν1 hq9 => ?_)
  obtain ⟨hr9, hq9⟩ := hq9; rw [hr9]; clear hr9 r9
  have g : LI ν1 b c B s k9 := by rw [hq9]; exact h
  refine w_aload_n (i := 2) hX dL_law_834 rfl rfl ?_
  refine w_aload_n (i := 0) hX dL_law_835 rfl rfl ?_
  refine w_iload hX dL_law_836 rfl ?_
  refine w_iconst hX dL_law_838 kI_1 ?_
  refine w_iaddN hX dL_law_839 ?_
  refine w_sld hX hC (vp_in_nI (by omega) (by omega)) dL_law_840 ?_
  refine w_aload_n (i := 0) hX dL_law_841 rfl rfl ?_
  refine w_iload hX dL_law_842 rfl ?_
  refine w_iconst hX dL_law_844 kI_2 ?_
  refine w_iaddN hX dL_law_845 ?_
  refine w_sld hX hC (vp_in_nI (by omega) (by omega)) dL_law_846 ?_
  refine w_callVI (As := [.int (xs (nI (i + 1)).toNatClampNeg), .int (xs (nI (i + 2)).toNatClampNeg)]) (rest := [.int (A_work B (xs (nI (i + 1)).toNatClampNeg) (xs (nI (i + 2)).toNatClampNeg))]) (ci := 9) (o := 57) (k2 := k) (n2 := n) hX dL_law_847 (s_m_work Γ ν1 57 B g.2.1.1 g.2.2.1 (xs (nI (i + 1)).toNatClampNeg) (xs (nI (i + 2)).toNatClampNeg)) okX9_work (ltb rfl) (mod_s g.2.1.1.1.1) ml_RL_98 imX9_work seX9_work rfl (leb rfl) (leb rfl) (Nat.zero_add _) (Nat.zero_add _) (fun r9 ν2 hq9 => ?_)
  obtain ⟨hr9, hq9⟩ := hq9; rw [hr9]; clear hr9 r9
  have l2 : LI ν2 b c B s k9 := by rw [hq9]; exact g.r (S := fun o k => o = 57 ∧ k = 0) (same.rf.sI ⟨rfl, rfl⟩) (g.2.1.sm (S := fun o k => o = 57 ∧ k = 0) (same.rf.sI ⟨rfl, rfl⟩) (fun o k h9 => by omega)) (fun o k h9 => by omega)
  refine wc_icmp_eq (tgt := 1551) hX dL_law_850 (by decide) (fun c1 => ?_) (fun c1 => ?_)
  · exact kk _ ⟨_, _, _, _, _, l2⟩
  · exact absurd rfl c1
set_option maxHeartbeats 1000000 in
theorem l_wish {Γ : Gm} {X : Cx} {k n i L : Nat} {xs : Nat → Int32} (hX : GX Γ X RL cL_law 280) (hC : SCR Γ X L xs) (hi : i + 8 ≤ L) (hL : L < 2 ^ 30) (ν : Mem) (b c : Nat) (B : Nat → Nat) (s : Tp) (k9 : Nat) (h : LI ν b c B s k9) (kk : ∀ ν2, LIx ν2 → WP Γ X k n 1551 [some (.ref scr), some (.ref 0), some (.ref 57), some (.ref 80), some (.int (nI i)), none, none] [] ν2) : WP Γ X k n 966 [some (.ref scr), some (.ref 0), some (.ref 57), some (.ref 80), some (.int (nI i)), none, none] [] ν := by
  have hb25 : 25 ≤ b := by have := h.1.2.1; omega
  refine w_aload_n (i := 1) hX dL_law_966 rfl rfl ?_
  refine w_aload_n (i := 0) hX dL_law_967 rfl rfl ?_
  refine w_iload hX dL_law_968 rfl ?_
  refine w_iconst hX dL_law_970 kI_1 ?_
  refine w_iaddN hX dL_law_971 ?_
  refine w_sld hX hC (vp_in_nI (by omega) (by omega)) dL_law_972 ?_
  refine w_aload_n (i := 0) hX dL_law_973 rfl rfl ?_
  refine w_iload hX dL_law_974 rfl ?_
  refine w_iconst hX dL_law_976 kI_2 ?_
  refine w_iaddN hX dL_law_977 ?_
  refine w_sld hX hC (vp_in_nI (by omega) (by omega)) dL_law_978 ?_
  refine w_callVI (As := [.int (xs (nI (i + 1)).toNatClampNeg), .int (xs (nI (i + 2)).toNatClampNeg)]) (rest := []) (ci := 8) (o := 0) (k2 := k) (n2 := n) hX dL_law_979 (s_x_wish Γ ν b c B h.1.1 h.1.2.2.1 h.2.2.1 (xs (nI (i + 1)).toNatClampNeg) (xs (nI (i + 2)).toNatClampNeg)) okX8_wish (ltb rfl) h.1.1.1 ml_RL_111 imX8_wish seX8_wish rfl (leb rfl) (leb rfl) (Nat.zero_add _) (Nat.zero_add _) (fun r9 ν1 hq9 => ?_)
  obtain ⟨hr9, hq9⟩ := hq9; rw [hr9]; clear hr9 r9
  have g : LI ν1 b c B s k9 := by rw [hq9]; exact h
  refine w_aload_n (i := 2) hX dL_law_982 rfl rfl ?_
  refine w_aload_n (i := 0) hX dL_law_983 rfl rfl ?_
  refine w_iload hX dL_law_984 rfl ?_
  refine w_iconst hX dL_law_986 kI_1 ?_
  refine w_iaddN hX dL_law_987 ?_
  refine w_sld hX hC (vp_in_nI (by omega) (by omega)) dL_law_988 ?_
  refine w_aload_n (i := 0) hX dL_law_989 rfl rfl ?_
  refine w_iload hX dL_law_990 rfl ?_
  refine w_iconst hX dL_law_992 kI_2 ?_
  refine w_iaddN hX dL_law_993 ?_
  refine w_sld hX hC (vp_in_nI (by omega) (by omega)) dL_law_994 ?_
  refine w_callVI (As := [.int (xs (nI (i + 1)).toNatClampNeg), .int (xs (nI (i + 2)).toNatClampNeg)]) (rest := [.int (A_wish B (xs (nI (i + 1)).toNatClampNeg) (xs (nI (i + 2)).toNatClampNeg))]) (ci := 9) (o := 57) (k2 := k) (n2 := n) hX dL_law_995 (s_m_wish Γ ν1 57 B g.2.1.1 g.2.2.1 (xs (nI (i + 1)).toNatClampNeg) (xs (nI (i + 2)).toNatClampNeg)) okX9_wish (ltb rfl) (mod_s g.2.1.1.1.1) ml_RL_114 imX9_wish seX9_wish rfl (leb rfl) (leb rfl) (Nat.zero_add _) (Nat.zero_add _) (fun r9 ν2 hq9 => ?_)
  obtain ⟨hr9, hq9⟩ := hq9; rw [hr9]; clear hr9 r9
  have l2 : LI ν2 b c B s k9 := by rw [hq9]; exact g.r (S := fun o k => o = 57 ∧ k = 0) (same.rf.sI ⟨rfl, rfl⟩) (g.2.1.sm (S := fun o k => o = 57 ∧ k = 0) (same.rf.sI ⟨rfl, rfl⟩) (fun o k h9 => by omega)) (fun o k h9 => by omega)
  refine wc_icmp_eq (tgt := 1551) hX dL_law_998 (by decide) (fun c1 => ?_) (fun c1 => ?_)
  · exact kk _ ⟨_, _, _, _, _, l2⟩
  · exact absurd rfl c1
set_option maxHeartbeats 1000000 in
theorem l_prefers {Γ : Gm} {X : Cx} {k n i L : Nat} {xs : Nat → Int32} (hX : GX Γ X RL cL_law 280) (hC : SCR Γ X L xs) (hi : i + 8 ≤ L) (hL : L < 2 ^ 30) (ν : Mem) (b c : Nat) (B : Nat → Nat) (s : Tp) (k9 : Nat) (h : LI ν b c B s k9) (kk : ∀ ν2, LIx ν2 → WP Γ X k n 1551 [some (.ref scr), some (.ref 0), some (.ref 57), some (.ref 80), some (.int (nI i)), none, none] [] ν2) : WP Γ X k n 1028 [some (.ref scr), some (.ref 0), some (.ref 57), some (.ref 80), some (.int (nI i)), none, none] [] ν := by
  have hb25 : 25 ≤ b := by have := h.1.2.1; omega
  refine w_aload_n (i := 1) hX dL_law_1028 rfl rfl ?_
  refine w_aload_n (i := 0) hX dL_law_1029 rfl rfl ?_
  refine w_iload hX dL_law_1030 rfl ?_
  refine w_iconst hX dL_law_1032 kI_1 ?_
  refine w_iaddN hX dL_law_1033 ?_
  refine w_sld hX hC (vp_in_nI (by omega) (by omega)) dL_law_1034 ?_
  refine w_aload_n (i := 0) hX dL_law_1035 rfl rfl ?_
  refine w_iload hX dL_law_1036 rfl ?_
  refine w_iconst hX dL_law_1038 kI_2 ?_
  refine w_iaddN hX dL_law_1039 ?_
  refine w_sld hX hC (vp_in_nI (by omega) (by omega)) dL_law_1040 ?_
  refine w_callVI (As := [.int (xs (nI (i + 1)).toNatClampNeg), .int (xs (nI (i + 2)).toNatClampNeg)]) (rest := []) (ci := 8) (o := 0) (k2 := k) (n2 := n) hX dL_law_1041 (s_x_prefers Γ ν b c B h.1.1 h.1.2.2.1 h.2.2.1 (xs (nI (i + 1)).toNatClampNeg) (xs (nI (i + 2)).toNatClampNeg)) okX8_prefers (ltb rfl) h.1.1.1 ml_RL_119 imX8_prefers seX8_prefers rfl (leb rfl) (leb rfl) (Nat.zero_add _) (Nat.zero_add _) (fun r9 ν1 hq9 => ?_)
  obtain ⟨hr9, hq9⟩ := hq9; rw [hr9]; clear hr9 r9
  have g : LI ν1 b c B s k9 := by rw [hq9]; exact h
  refine w_aload_n (i := 2) hX dL_law_1044 rfl rfl ?_
  refine w_aload_n (i := 0) hX dL_law_1045 rfl rfl ?_
  refine w_iload hX dL_law_1046 rfl ?_
  refine w_iconst hX dL_law_1048 kI_1 ?_
  refine w_iaddN hX dL_law_1049 ?_
  refine w_sld hX hC (vp_in_nI (by omega) (by omega)) dL_law_1050 ?_
  refine w_aload_n (i := 0) hX dL_law_1051 rfl rfl ?_
  refine w_iload hX dL_law_1052 rfl ?_
  refine w_iconst hX dL_law_1054 kI_2 ?_
  refine w_iaddN hX dL_law_1055 ?_
  refine w_sld hX hC (vp_in_nI (by omega) (by omega)) dL_law_1056 ?_
  refine w_callVI (As := [.int (xs (nI (i + 1)).toNatClampNeg), .int (xs (nI (i + 2)).toNatClampNeg)]) (rest := [.int (A_prefers B (xs (nI (i + 1)).toNatClampNeg) (xs (nI (i + 2)).toNatClampNeg))]) (ci := 9) (o := 57) (k2 := k) (n2 := n) hX dL_law_1057 (s_m_prefers Γ ν1 57 B g.2.1.1 g.2.2.1 (xs (nI (i + 1)).toNatClampNeg) (xs (nI (i + 2)).toNatClampNeg)) okX9_prefers (ltb rfl) (mod_s g.2.1.1.1.1) ml_RL_122 imX9_prefers seX9_prefers rfl (leb rfl) (leb rfl) (Nat.zero_add _) (Nat.zero_add _) (fun r9 ν2 hq9 => ?_)
  obtain ⟨hr9, hq9⟩ := hq9; rw [hr9]; clear hr9 r9
  have l2 : LI ν2 b c B s k9 := by rw [hq9]; exact g.r (S := fun o k => o = 57 ∧ k = 0) (same.rf.sI ⟨rfl, rfl⟩) (g.2.1.sm (S := fun o k => o = 57 ∧ k = 0) (same.rf.sI ⟨rfl, rfl⟩) (fun o k h9 => by omega)) (fun o k h9 => by omega)
  refine wc_icmp_eq (tgt := 1551) hX dL_law_1060 (by decide) (fun c1 => ?_) (fun c1 => ?_)
  · exact kk _ ⟨_, _, _, _, _, l2⟩
  · exact absurd rfl c1
set_option maxHeartbeats 1000000 in
theorem l_way {Γ : Gm} {X : Cx} {k n i L : Nat} {xs : Nat → Int32} (hX : GX Γ X RL cL_law 280) (hC : SCR Γ X L xs) (hi : i + 8 ≤ L) (hL : L < 2 ^ 30) (ν : Mem) (b c : Nat) (B : Nat → Nat) (s : Tp) (k9 : Nat) (h : LI ν b c B s k9) (kk : ∀ ν2, LIx ν2 → WP Γ X k n 1551 [some (.ref scr), some (.ref 0), some (.ref 57), some (.ref 80), some (.int (nI i)), none, none] [] ν2) : WP Γ X k n 1163 [some (.ref scr), some (.ref 0), some (.ref 57), some (.ref 80), some (.int (nI i)), none, none] [] ν := by
  have hb25 : 25 ≤ b := by have := h.1.2.1; omega
  refine w_aload_n (i := 1) hX dL_law_1163 rfl rfl ?_
  refine w_aload_n (i := 0) hX dL_law_1164 rfl rfl ?_
  refine w_iload hX dL_law_1165 rfl ?_
  refine w_iconst hX dL_law_1167 kI_1 ?_
  refine w_iaddN hX dL_law_1168 ?_
  refine w_sld hX hC (vp_in_nI (by omega) (by omega)) dL_law_1169 ?_
  refine w_aload_n (i := 0) hX dL_law_1170 rfl rfl ?_
  refine w_iload hX dL_law_1171 rfl ?_
  refine w_iconst hX dL_law_1173 kI_2 ?_
  refine w_iaddN hX dL_law_1174 ?_
  refine w_sld hX hC (vp_in_nI (by omega) (by omega)) dL_law_1175 ?_
  refine w_callVI (As := [.int (xs (nI (i + 1)).toNatClampNeg), .int (xs (nI (i + 2)).toNatClampNeg)]) (rest := []) (ci := 8) (o := 0) (k2 := k) (n2 := n) hX dL_law_1176 (s_x_way Γ ν b c B h.1.1 h.1.2.2.1 h.2.2.1 (xs (nI (i + 1)).toNatClampNeg) (xs (nI (i + 2)).toNatClampNeg)) okX8_way (ltb rfl) h.1.1.1 ml_RL_131 imX8_way seX8_way rfl (leb rfl) (leb rfl) (Nat.zero_add _) (Nat.zero_add _) (fun r9 ν1 hq9 => ?_)
  obtain ⟨hr9, hq9⟩ := hq9; rw [hr9]; clear hr9 r9
  have g : LI ν1 b c B s k9 := by rw [hq9]; exact h
  refine w_aload_n (i := 2) hX dL_law_1179 rfl rfl ?_
  refine w_aload_n (i := 0) hX dL_law_1180 rfl rfl ?_
  refine w_iload hX dL_law_1181 rfl ?_
  refine w_iconst hX dL_law_1183 kI_1 ?_
  refine w_iaddN hX dL_law_1184 ?_
  refine w_sld hX hC (vp_in_nI (by omega) (by omega)) dL_law_1185 ?_
  refine w_aload_n (i := 0) hX dL_law_1186 rfl rfl ?_
  refine w_iload hX dL_law_1187 rfl ?_
  refine w_iconst hX dL_law_1189 kI_2 ?_
  refine w_iaddN hX dL_law_1190 ?_
  refine w_sld hX hC (vp_in_nI (by omega) (by omega)) dL_law_1191 ?_
  refine w_callVI (As := [.int (xs (nI (i + 1)).toNatClampNeg), .int (xs (nI (i + 2)).toNatClampNeg)]) (rest := [.int (A_way B (xs (nI (i + 1)).toNatClampNeg) (xs (nI (i + 2)).toNatClampNeg))]) (ci := 9) (o := 57) (k2 := k) (n2 := n) hX dL_law_1192 (s_m_way Γ ν1 57 B g.2.1.1 g.2.2.1 (xs (nI (i + 1)).toNatClampNeg) (xs (nI (i + 2)).toNatClampNeg)) okX9_way (ltb rfl) (mod_s g.2.1.1.1.1) ml_RL_134 imX9_way seX9_way rfl (leb rfl) (leb rfl) (Nat.zero_add _) (Nat.zero_add _) (fun r9 ν2 hq9 => ?_)
  obtain ⟨hr9, hq9⟩ := hq9; rw [hr9]; clear hr9 r9
  have l2 : LI ν2 b c B s k9 := by rw [hq9]; exact g.r (S := fun o k => o = 57 ∧ k = 0) (same.rf.sI ⟨rfl, rfl⟩) (g.2.1.sm (S := fun o k => o = 57 ∧ k = 0) (same.rf.sI ⟨rfl, rfl⟩) (fun o k h9 => by omega)) (fun o k h9 => by omega)
  refine wc_icmp_eq (tgt := 1551) hX dL_law_1195 (by decide) (fun c1 => ?_) (fun c1 => ?_)
  · exact kk _ ⟨_, _, _, _, _, l2⟩
  · exact absurd rfl c1
set_option maxHeartbeats 1000000 in
theorem l_none {Γ : Gm} {X : Cx} {k n i L : Nat} {xs : Nat → Int32} (hX : GX Γ X RL cL_law 280) (hC : SCR Γ X L xs) (hi : i + 8 ≤ L) (hL : L < 2 ^ 30) (ν : Mem) (b c : Nat) (B : Nat → Nat) (s : Tp) (k9 : Nat) (h : LI ν b c B s k9) (kk : ∀ ν2, LIx ν2 → WP Γ X k n 1551 [some (.ref scr), some (.ref 0), some (.ref 57), some (.ref 80), some (.int (nI i)), none, none] [] ν2) : WP Γ X k n 1424 [some (.ref scr), some (.ref 0), some (.ref 57), some (.ref 80), some (.int (nI i)), none, none] [] ν := by
  have hb25 : 25 ≤ b := by have := h.1.2.1; omega
  refine w_aload_n (i := 1) hX dL_law_1424 rfl rfl ?_
  refine w_aload_n (i := 0) hX dL_law_1425 rfl rfl ?_
  refine w_iload hX dL_law_1426 rfl ?_
  refine w_iconst hX dL_law_1428 kI_1 ?_
  refine w_iaddN hX dL_law_1429 ?_
  refine w_sld hX hC (vp_in_nI (by omega) (by omega)) dL_law_1430 ?_
  refine w_aload_n (i := 0) hX dL_law_1431 rfl rfl ?_
  refine w_iload hX dL_law_1432 rfl ?_
  refine w_iconst hX dL_law_1434 kI_2 ?_
  refine w_iaddN hX dL_law_1435 ?_
  refine w_sld hX hC (vp_in_nI (by omega) (by omega)) dL_law_1436 ?_
  refine w_aload_n (i := 0) hX dL_law_1437 rfl rfl ?_
  refine w_iload hX dL_law_1438 rfl ?_
  refine w_iconst hX dL_law_1440 kI_3 ?_
  refine w_iaddN hX dL_law_1441 ?_
  refine w_sld hX hC (vp_in_nI (by omega) (by omega)) dL_law_1442 ?_
  refine w_callVI (As := [.int (xs (nI (i + 1)).toNatClampNeg), .int (xs (nI (i + 2)).toNatClampNeg), .int (xs (nI (i + 3)).toNatClampNeg)]) (rest := []) (ci := 8) (o := 0) (k2 := k) (n2 := n) hX dL_law_1443 (s_x_none Γ ν b c B h.1.1 h.1.2.2.1 h.2.2.1.1 (xs (nI (i + 1)).toNatClampNeg) (xs (nI (i + 2)).toNatClampNeg) (xs (nI (i + 3)).toNatClampNeg)) okX8_none (ltb rfl) h.1.1.1 ml_RL_143 imX8_none seX8_none rfl (leb rfl) (leb rfl) (Nat.zero_add _) (Nat.zero_add _) (fun r9 ν1 hq9 => ?_)
  obtain ⟨hr9, hq9⟩ := hq9; rw [hr9]; clear hr9 r9
  have g : LI ν1 b c B s k9 := by rw [hq9]; exact h
  refine w_aload_n (i := 2) hX dL_law_1446 rfl rfl ?_
  refine w_aload_n (i := 0) hX dL_law_1447 rfl rfl ?_
  refine w_iload hX dL_law_1448 rfl ?_
  refine w_iconst hX dL_law_1450 kI_1 ?_
  refine w_iaddN hX dL_law_1451 ?_
  refine w_sld hX hC (vp_in_nI (by omega) (by omega)) dL_law_1452 ?_
  refine w_aload_n (i := 0) hX dL_law_1453 rfl rfl ?_
  refine w_iload hX dL_law_1454 rfl ?_
  refine w_iconst hX dL_law_1456 kI_2 ?_
  refine w_iaddN hX dL_law_1457 ?_
  refine w_sld hX hC (vp_in_nI (by omega) (by omega)) dL_law_1458 ?_
  refine w_aload_n (i := 0) hX dL_law_1459 rfl rfl ?_
  refine w_iload hX dL_law_1460 rfl ?_
  refine w_iconst hX dL_law_1462 kI_3 ?_
  refine w_iaddN hX dL_law_1463 ?_
  refine w_sld hX hC (vp_in_nI (by omega) (by omega)) dL_law_1464 ?_
  refine w_callVI (As := [.int (xs (nI (i + 1)).toNatClampNeg), .int (xs (nI (i + 2)).toNatClampNeg), .int (xs (nI (i + 3)).toNatClampNeg)]) (rest := [.int (A_none B (xs (nI (i + 1)).toNatClampNeg) (xs (nI (i + 2)).toNatClampNeg) (xs (nI (i + 3)).toNatClampNeg))]) (ci := 9) (o := 57) (k2 := k) (n2 := n) hX dL_law_1465 (s_m_none Γ ν1 57 B g.2.1.1  (xs (nI (i + 1)).toNatClampNeg) (xs (nI (i + 2)).toNatClampNeg) (xs (nI (i + 3)).toNatClampNeg)) okX9_none (ltb rfl) (mod_s g.2.1.1.1.1) ml_RL_147 imX9_none seX9_none rfl (leb rfl) (leb rfl) (Nat.zero_add _) (Nat.zero_add _) (fun r9 ν2 hq9 => ?_)
  obtain ⟨hr9, hq9⟩ := hq9; rw [hr9]; clear hr9 r9
  have l2 : LI ν2 b c B s k9 := by rw [hq9]; exact g.r (S := fun o k => o = 57 ∧ k = 0) (same.rf.sI ⟨rfl, rfl⟩) (g.2.1.sm (S := fun o k => o = 57 ∧ k = 0) (same.rf.sI ⟨rfl, rfl⟩) (fun o k h9 => by omega)) (fun o k h9 => by omega)
  refine wc_icmp_eq (tgt := 1551) hX dL_law_1468 (by decide) (fun c1 => ?_) (fun c1 => ?_)
  · exact kk _ ⟨_, _, _, _, _, l2⟩
  · exact absurd rfl c1
set_option maxHeartbeats 1000000 in
theorem l_best {Γ : Gm} {X : Cx} {k n i L : Nat} {xs : Nat → Int32} (hX : GX Γ X RL cL_law 280) (hC : SCR Γ X L xs) (hi : i + 8 ≤ L) (hL : L < 2 ^ 30) (ν : Mem) (b c : Nat) (B : Nat → Nat) (s : Tp) (k9 : Nat) (h : LI ν b c B s k9) (kk : ∀ ν2, LIx ν2 → WP Γ X k n 1551 [some (.ref scr), some (.ref 0), some (.ref 57), some (.ref 80), some (.int (nI i)), none, none] [] ν2) : WP Γ X k n 855 [some (.ref scr), some (.ref 0), some (.ref 57), some (.ref 80), some (.int (nI i)), none, none] [] ν := by
  have hb25 : 25 ≤ b := by have := h.1.2.1; omega
  refine w_aload_n (i := 1) hX dL_law_855 rfl rfl ?_
  refine w_aload_n (i := 0) hX dL_law_856 rfl rfl ?_
  refine w_iload hX dL_law_857 rfl ?_
  refine w_iconst hX dL_law_859 kI_1 ?_
  refine w_iaddN hX dL_law_860 ?_
  refine w_sld hX hC (vp_in_nI (by omega) (by omega)) dL_law_861 ?_
  refine w_aload_n (i := 0) hX dL_law_862 rfl rfl ?_
  refine w_iload hX dL_law_863 rfl ?_
  refine w_iconst hX dL_law_865 kI_2 ?_
  refine w_iaddN hX dL_law_866 ?_
  refine w_sld hX hC (vp_in_nI (by omega) (by omega)) dL_law_867 ?_
  refine w_callVI (As := [.int (xs (nI (i + 1)).toNatClampNeg), .int (xs (nI (i + 2)).toNatClampNeg)]) (rest := []) (ci := 8) (o := 0) (k2 := k) (n2 := n) hX dL_law_868 (s_x_best Γ ν b c B h.1.1 h.1.2.2.1 h.2.2.1 hb25 h.1.2.2.2.2.2.2.2.2.2.1 (xs (nI (i + 1)).toNatClampNeg) (xs (nI (i + 2)).toNatClampNeg)) okX8_best (ltb rfl) h.1.1.1 ml_RL_99 imX8_best seX8_best rfl (leb rfl) (leb rfl) (Nat.zero_add _) (Nat.zero_add _) (fun r9 ν1 hq9 => ?_)
  obtain ⟨hr9, hq9⟩ := hq9; rw [hr9]; clear hr9 r9
  have g : LI ν1 b c B s k9 := h.m hq9.2 (h.1.p hq9.2 hq9.1) (fun o k h9 => by unfold SPl at h9; omega)
  refine w_aload_n (i := 2) hX dL_law_871 rfl rfl ?_
  refine w_aload_n (i := 0) hX dL_law_872 rfl rfl ?_
  refine w_iload hX dL_law_873 rfl ?_
  refine w_iconst hX dL_law_875 kI_1 ?_
  refine w_iaddN hX dL_law_876 ?_
  refine w_sld hX hC (vp_in_nI (by omega) (by omega)) dL_law_877 ?_
  refine w_aload_n (i := 0) hX dL_law_878 rfl rfl ?_
  refine w_iload hX dL_law_879 rfl ?_
  refine w_iconst hX dL_law_881 kI_2 ?_
  refine w_iaddN hX dL_law_882 ?_
  refine w_sld hX hC (vp_in_nI (by omega) (by omega)) dL_law_883 ?_
  refine w_callVI (As := [.int (xs (nI (i + 1)).toNatClampNeg), .int (xs (nI (i + 2)).toNatClampNeg)]) (rest := [.int (A_best B (xs (nI (i + 1)).toNatClampNeg) (xs (nI (i + 2)).toNatClampNeg))]) (ci := 9) (o := 57) (k2 := k) (n2 := n) hX dL_law_884 (s_m_best Γ ν1 57 B g.2.1.1 g.2.2.1 (xs (nI (i + 1)).toNatClampNeg) (xs (nI (i + 2)).toNatClampNeg)) okX9_best (ltb rfl) (mod_s g.2.1.1.1.1) ml_RL_102 imX9_best seX9_best rfl (leb rfl) (leb rfl) (Nat.zero_add _) (Nat.zero_add _) (fun r9 ν2 hq9 => ?_)
  obtain ⟨hr9, hq9⟩ := hq9; rw [hr9]; clear hr9 r9
  have l2 : LI ν2 b c B s k9 := g.r hq9.2 (g.2.1.gen hq9.2 hq9.1 (fun o k h9 => by unfold SPm at h9; omega)) (fun o k h9 => by unfold SPm at h9; omega)
  refine wc_icmp_eq (tgt := 1551) hX dL_law_887 (by decide) (fun c1 => ?_) (fun c1 => ?_)
  · exact kk _ ⟨_, _, _, _, _, l2⟩
  · exact absurd rfl c1
set_option maxHeartbeats 1000000 in
theorem l_order {Γ : Gm} {X : Cx} {k n i L : Nat} {xs : Nat → Int32} (hX : GX Γ X RL cL_law 280) (hC : SCR Γ X L xs) (hi : i + 8 ≤ L) (hL : L < 2 ^ 30) (ν : Mem) (b c : Nat) (B : Nat → Nat) (s : Tp) (k9 : Nat) (h : LI ν b c B s k9) (kk : ∀ ν2, LIx ν2 → WP Γ X k n 1551 [some (.ref scr), some (.ref 0), some (.ref 57), some (.ref 80), some (.int (nI i)), none, none] [] ν2) : WP Γ X k n 892 [some (.ref scr), some (.ref 0), some (.ref 57), some (.ref 80), some (.int (nI i)), none, none] [] ν := by
  have hb25 : 25 ≤ b := by have := h.1.2.1; omega
  refine w_aload_n (i := 1) hX dL_law_892 rfl rfl ?_
  refine w_aload_n (i := 0) hX dL_law_893 rfl rfl ?_
  refine w_iload hX dL_law_894 rfl ?_
  refine w_iconst hX dL_law_896 kI_1 ?_
  refine w_iaddN hX dL_law_897 ?_
  refine w_sld hX hC (vp_in_nI (by omega) (by omega)) dL_law_898 ?_
  refine w_aload_n (i := 0) hX dL_law_899 rfl rfl ?_
  refine w_iload hX dL_law_900 rfl ?_
  refine w_iconst hX dL_law_902 kI_2 ?_
  refine w_iaddN hX dL_law_903 ?_
  refine w_sld hX hC (vp_in_nI (by omega) (by omega)) dL_law_904 ?_
  refine w_callVI (As := [.int (xs (nI (i + 1)).toNatClampNeg), .int (xs (nI (i + 2)).toNatClampNeg)]) (rest := []) (ci := 8) (o := 0) (k2 := k) (n2 := n) hX dL_law_905 (s_x_order Γ ν b c B h.1.1 h.1.2.2.1 h.2.2.1 hb25 h.1.2.2.2.2.2.2.2.2.2.1 (xs (nI (i + 1)).toNatClampNeg) (xs (nI (i + 2)).toNatClampNeg)) okX8_order (ltb rfl) h.1.1.1 ml_RL_103 imX8_order seX8_order rfl (leb rfl) (leb rfl) (Nat.zero_add _) (Nat.zero_add _) (fun r9 ν1 hq9 => ?_)
  obtain ⟨hr9, hq9⟩ := hq9; rw [hr9]; clear hr9 r9
  have g : LI ν1 b c B s k9 := h.m hq9.2 (h.1.p hq9.2 hq9.1) (fun o k h9 => by unfold SPl at h9; omega)
  refine w_aload_n (i := 2) hX dL_law_908 rfl rfl ?_
  refine w_aload_n (i := 0) hX dL_law_909 rfl rfl ?_
  refine w_iload hX dL_law_910 rfl ?_
  refine w_iconst hX dL_law_912 kI_1 ?_
  refine w_iaddN hX dL_law_913 ?_
  refine w_sld hX hC (vp_in_nI (by omega) (by omega)) dL_law_914 ?_
  refine w_aload_n (i := 0) hX dL_law_915 rfl rfl ?_
  refine w_iload hX dL_law_916 rfl ?_
  refine w_iconst hX dL_law_918 kI_2 ?_
  refine w_iaddN hX dL_law_919 ?_
  refine w_sld hX hC (vp_in_nI (by omega) (by omega)) dL_law_920 ?_
  refine w_callVI (As := [.int (xs (nI (i + 1)).toNatClampNeg), .int (xs (nI (i + 2)).toNatClampNeg)]) (rest := [.int (A_order B (xs (nI (i + 1)).toNatClampNeg) (xs (nI (i + 2)).toNatClampNeg))]) (ci := 9) (o := 57) (k2 := k) (n2 := n) hX dL_law_921 (s_m_order Γ ν1 57 B g.2.1.1 g.2.2.1 (xs (nI (i + 1)).toNatClampNeg) (xs (nI (i + 2)).toNatClampNeg)) okX9_order (ltb rfl) (mod_s g.2.1.1.1.1) ml_RL_106 imX9_order seX9_order rfl (leb rfl) (leb rfl) (Nat.zero_add _) (Nat.zero_add _) (fun r9 ν2 hq9 => ?_)
  obtain ⟨hr9, hq9⟩ := hq9; rw [hr9]; clear hr9 r9
  have l2 : LI ν2 b c B s k9 := g.r hq9.2 (g.2.1.gen hq9.2 hq9.1 (fun o k h9 => by unfold SPm at h9; omega)) (fun o k h9 => by unfold SPm at h9; omega)
  refine wc_icmp_eq (tgt := 1551) hX dL_law_924 (by decide) (fun c1 => ?_) (fun c1 => ?_)
  · exact kk _ ⟨_, _, _, _, _, l2⟩
  · exact absurd rfl c1
set_option maxHeartbeats 1000000 in
theorem l_begins {Γ : Gm} {X : Cx} {k n i L : Nat} {xs : Nat → Int32} (hX : GX Γ X RL cL_law 280) (hC : SCR Γ X L xs) (hi : i + 8 ≤ L) (hL : L < 2 ^ 30) (ν : Mem) (b c : Nat) (B : Nat → Nat) (s : Tp) (k9 : Nat) (h : LI ν b c B s k9) (kk : ∀ ν2, LIx ν2 → WP Γ X k n 1551 [some (.ref scr), some (.ref 0), some (.ref 57), some (.ref 80), some (.int (nI i)), none, none] [] ν2) : WP Γ X k n 929 [some (.ref scr), some (.ref 0), some (.ref 57), some (.ref 80), some (.int (nI i)), none, none] [] ν := by
  have hb25 : 25 ≤ b := by have := h.1.2.1; omega
  refine w_aload_n (i := 1) hX dL_law_929 rfl rfl ?_
  refine w_aload_n (i := 0) hX dL_law_930 rfl rfl ?_
  refine w_iload hX dL_law_931 rfl ?_
  refine w_iconst hX dL_law_933 kI_1 ?_
  refine w_iaddN hX dL_law_934 ?_
  refine w_sld hX hC (vp_in_nI (by omega) (by omega)) dL_law_935 ?_
  refine w_aload_n (i := 0) hX dL_law_936 rfl rfl ?_
  refine w_iload hX dL_law_937 rfl ?_
  refine w_iconst hX dL_law_939 kI_2 ?_
  refine w_iaddN hX dL_law_940 ?_
  refine w_sld hX hC (vp_in_nI (by omega) (by omega)) dL_law_941 ?_
  refine w_callVI (As := [.int (xs (nI (i + 1)).toNatClampNeg), .int (xs (nI (i + 2)).toNatClampNeg)]) (rest := []) (ci := 8) (o := 0) (k2 := k) (n2 := n) hX dL_law_942 (s_x_begins Γ ν b c B h.1.1 h.1.2.2.1 h.2.2.1 hb25 h.1.2.2.2.2.2.2.2.2.2.1 (xs (nI (i + 1)).toNatClampNeg) (xs (nI (i + 2)).toNatClampNeg)) okX8_begins (ltb rfl) h.1.1.1 ml_RL_107 imX8_begins seX8_begins rfl (leb rfl) (leb rfl) (Nat.zero_add _) (Nat.zero_add _) (fun r9 ν1 hq9 => ?_)
  obtain ⟨hr9, hq9⟩ := hq9; rw [hr9]; clear hr9 r9
  have g : LI ν1 b c B s k9 := h.m hq9.2 (h.1.p hq9.2 hq9.1) (fun o k h9 => by unfold SPl at h9; omega)
  refine w_aload_n (i := 2) hX dL_law_945 rfl rfl ?_
  refine w_aload_n (i := 0) hX dL_law_946 rfl rfl ?_
  refine w_iload hX dL_law_947 rfl ?_
  refine w_iconst hX dL_law_949 kI_1 ?_
  refine w_iaddN hX dL_law_950 ?_
  refine w_sld hX hC (vp_in_nI (by omega) (by omega)) dL_law_951 ?_
  refine w_aload_n (i := 0) hX dL_law_952 rfl rfl ?_
  refine w_iload hX dL_law_953 rfl ?_
  refine w_iconst hX dL_law_955 kI_2 ?_
  refine w_iaddN hX dL_law_956 ?_
  refine w_sld hX hC (vp_in_nI (by omega) (by omega)) dL_law_957 ?_
  refine w_callVI (As := [.int (xs (nI (i + 1)).toNatClampNeg), .int (xs (nI (i + 2)).toNatClampNeg)]) (rest := [.int (A_begins B (xs (nI (i + 1)).toNatClampNeg) (xs (nI (i + 2)).toNatClampNeg))]) (ci := 9) (o := 57) (k2 := k) (n2 := n) hX dL_law_958 (s_m_begins Γ ν1 57 B g.2.1.1 g.2.2.1 (xs (nI (i + 1)).toNatClampNeg) (xs (nI (i + 2)).toNatClampNeg)) okX9_begins (ltb rfl) (mod_s g.2.1.1.1.1) ml_RL_110 imX9_begins seX9_begins rfl (leb rfl) (leb rfl) (Nat.zero_add _) (Nat.zero_add _) (fun r9 ν2 hq9 => ?_)
  obtain ⟨hr9, hq9⟩ := hq9; rw [hr9]; clear hr9 r9
  have l2 : LI ν2 b c B s k9 := g.r hq9.2 (g.2.1.gen hq9.2 hq9.1 (fun o k h9 => by unfold SPm at h9; omega)) (fun o k h9 => by unfold SPm at h9; omega)
  refine wc_icmp_eq (tgt := 1551) hX dL_law_961 (by decide) (fun c1 => ?_) (fun c1 => ?_)
  · exact kk _ ⟨_, _, _, _, _, l2⟩
  · exact absurd rfl c1
set_option maxHeartbeats 1000000 in
theorem l_most {Γ : Gm} {X : Cx} {k n i L : Nat} {xs : Nat → Int32} (hX : GX Γ X RL cL_law 280) (hC : SCR Γ X L xs) (hi : i + 8 ≤ L) (hL : L < 2 ^ 30) (ν : Mem) (b c : Nat) (B : Nat → Nat) (s : Tp) (k9 : Nat) (h : LI ν b c B s k9) (kk : ∀ ν2, LIx ν2 → WP Γ X k n 1551 [some (.ref scr), some (.ref 0), some (.ref 57), some (.ref 80), some (.int (nI i)), none, none] [] ν2) : WP Γ X k n 1065 [some (.ref scr), some (.ref 0), some (.ref 57), some (.ref 80), some (.int (nI i)), none, none] [] ν := by
  have hb25 : 25 ≤ b := by have := h.1.2.1; omega
  refine w_aload_n (i := 1) hX dL_law_1065 rfl rfl ?_
  refine w_aload_n (i := 0) hX dL_law_1066 rfl rfl ?_
  refine w_iload hX dL_law_1067 rfl ?_
  refine w_iconst hX dL_law_1069 kI_1 ?_
  refine w_iaddN hX dL_law_1070 ?_
  refine w_sld hX hC (vp_in_nI (by omega) (by omega)) dL_law_1071 ?_
  refine w_aload_n (i := 0) hX dL_law_1072 rfl rfl ?_
  refine w_iload hX dL_law_1073 rfl ?_
  refine w_iconst hX dL_law_1075 kI_2 ?_
  refine w_iaddN hX dL_law_1076 ?_
  refine w_sld hX hC (vp_in_nI (by omega) (by omega)) dL_law_1077 ?_
  refine w_callVI (As := [.int (xs (nI (i + 1)).toNatClampNeg), .int (xs (nI (i + 2)).toNatClampNeg)]) (rest := []) (ci := 8) (o := 0) (k2 := k) (n2 := n) hX dL_law_1078 (s_x_most Γ ν b c B h.1.1 h.1.2.2.1 h.2.2.1 hb25 h.1.2.2.2.2.2.2.2.2.2.2.1 (xs (nI (i + 1)).toNatClampNeg) (xs (nI (i + 2)).toNatClampNeg)) okX8_most (ltb rfl) h.1.1.1 ml_RL_123 imX8_most seX8_most rfl (leb rfl) (leb rfl) (Nat.zero_add _) (Nat.zero_add _) (fun r9 ν1 hq9 => ?_)
  obtain ⟨hr9, hq9⟩ := hq9; rw [hr9]; clear hr9 r9
  have g : LI ν1 b c B s k9 := h.m hq9.2 (h.1.j hq9.2 hq9.1) (fun o k h9 => by unfold SJ at h9; omega)
  refine w_aload_n (i := 2) hX dL_law_1081 rfl rfl ?_
  refine w_aload_n (i := 0) hX dL_law_1082 rfl rfl ?_
  refine w_iload hX dL_law_1083 rfl ?_
  refine w_iconst hX dL_law_1085 kI_1 ?_
  refine w_iaddN hX dL_law_1086 ?_
  refine w_sld hX hC (vp_in_nI (by omega) (by omega)) dL_law_1087 ?_
  refine w_aload_n (i := 0) hX dL_law_1088 rfl rfl ?_
  refine w_iload hX dL_law_1089 rfl ?_
  refine w_iconst hX dL_law_1091 kI_2 ?_
  refine w_iaddN hX dL_law_1092 ?_
  refine w_sld hX hC (vp_in_nI (by omega) (by omega)) dL_law_1093 ?_
  refine w_callVI (As := [.int (xs (nI (i + 1)).toNatClampNeg), .int (xs (nI (i + 2)).toNatClampNeg)]) (rest := [.int (A_most B (xs (nI (i + 1)).toNatClampNeg) (xs (nI (i + 2)).toNatClampNeg))]) (ci := 9) (o := 57) (k2 := k) (n2 := n) hX dL_law_1094 (s_m_most Γ ν1 57 B g.2.1.1 g.2.2.1 (xs (nI (i + 1)).toNatClampNeg) (xs (nI (i + 2)).toNatClampNeg)) okX9_most (ltb rfl) (mod_s g.2.1.1.1.1) ml_RL_126 imX9_most seX9_most rfl (leb rfl) (leb rfl) (Nat.zero_add _) (Nat.zero_add _) (fun r9 ν2 hq9 => ?_)
  obtain ⟨hr9, hq9⟩ := hq9; rw [hr9]; clear hr9 r9
  have l2 : LI ν2 b c B s k9 := g.r hq9 (g.2.1.sm hq9 (fun o k h9 => by unfold SF at h9; omega)) (fun o k h9 => by unfold SF at h9; omega)
  refine wc_icmp_eq (tgt := 1551) hX dL_law_1097 (by decide) (fun c1 => ?_) (fun c1 => ?_)
  · exact kk _ ⟨_, _, _, _, _, l2⟩
  · exact absurd rfl c1
set_option maxHeartbeats 1000000 in
theorem l_goes {Γ : Gm} {X : Cx} {k n i L : Nat} {xs : Nat → Int32} (hX : GX Γ X RL cL_law 280) (hC : SCR Γ X L xs) (hi : i + 8 ≤ L) (hL : L < 2 ^ 30) (ν : Mem) (b c : Nat) (B : Nat → Nat) (s : Tp) (k9 : Nat) (h : LI ν b c B s k9) (kk : ∀ ν2, LIx ν2 → WP Γ X k n 1551 [some (.ref scr), some (.ref 0), some (.ref 57), some (.ref 80), some (.int (nI i)), none, none] [] ν2) : WP Γ X k n 1102 [some (.ref scr), some (.ref 0), some (.ref 57), some (.ref 80), some (.int (nI i)), none, none] [] ν := by
  have hb25 : 25 ≤ b := by have := h.1.2.1; omega
  refine w_aload_n (i := 1) hX dL_law_1102 rfl rfl ?_
  refine w_aload_n (i := 0) hX dL_law_1103 rfl rfl ?_
  refine w_iload hX dL_law_1104 rfl ?_
  refine w_iconst hX dL_law_1106 kI_1 ?_
  refine w_iaddN hX dL_law_1107 ?_
  refine w_sld hX hC (vp_in_nI (by omega) (by omega)) dL_law_1108 ?_
  refine w_aload_n (i := 0) hX dL_law_1109 rfl rfl ?_
  refine w_iload hX dL_law_1110 rfl ?_
  refine w_iconst hX dL_law_1112 kI_2 ?_
  refine w_iaddN hX dL_law_1113 ?_
  refine w_sld hX hC (vp_in_nI (by omega) (by omega)) dL_law_1114 ?_
  refine w_aload_n (i := 0) hX dL_law_1115 rfl rfl ?_
  refine w_iload hX dL_law_1116 rfl ?_
  refine w_iconst hX dL_law_1118 kI_3 ?_
  refine w_iaddN hX dL_law_1119 ?_
  refine w_sld hX hC (vp_in_nI (by omega) (by omega)) dL_law_1120 ?_
  refine w_aload_n (i := 0) hX dL_law_1121 rfl rfl ?_
  refine w_iload hX dL_law_1122 rfl ?_
  refine w_iconst hX dL_law_1124 kI_4 ?_
  refine w_iaddN hX dL_law_1125 ?_
  refine w_sld hX hC (vp_in_nI (by omega) (by omega)) dL_law_1126 ?_
  refine w_callVI (As := [.int (xs (nI (i + 1)).toNatClampNeg), .int (xs (nI (i + 2)).toNatClampNeg), .int (xs (nI (i + 3)).toNatClampNeg), .int (xs (nI (i + 4)).toNatClampNeg)]) (rest := []) (ci := 8) (o := 0) (k2 := k) (n2 := n) hX dL_law_1127 (s_x_goes Γ ν b c B h.1.1 h.1.2.2.1 h.2.2.1 hb25 h.1.2.2.2.2.2.2.2.2.2.2.1 (xs (nI (i + 1)).toNatClampNeg) (xs (nI (i + 2)).toNatClampNeg) (xs (nI (i + 3)).toNatClampNeg) (xs (nI (i + 4)).toNatClampNeg)) okX8_goes (ltb rfl) h.1.1.1 ml_RL_127 imX8_goes seX8_goes rfl (leb rfl) (leb rfl) (Nat.zero_add _) (Nat.zero_add _) (fun r9 ν1 hq9 => ?_)
  obtain ⟨hr9, hq9⟩ := hq9; rw [hr9]; clear hr9 r9
  have g : LI ν1 b c B s k9 := h.m hq9.2 (h.1.j hq9.2 hq9.1) (fun o k h9 => by unfold SJ at h9; omega)
  refine w_aload_n (i := 2) hX dL_law_1130 rfl rfl ?_
  refine w_aload_n (i := 0) hX dL_law_1131 rfl rfl ?_
  refine w_iload hX dL_law_1132 rfl ?_
  refine w_iconst hX dL_law_1134 kI_1 ?_
  refine w_iaddN hX dL_law_1135 ?_
  refine w_sld hX hC (vp_in_nI (by omega) (by omega)) dL_law_1136 ?_
  refine w_aload_n (i := 0) hX dL_law_1137 rfl rfl ?_
  refine w_iload hX dL_law_1138 rfl ?_
  refine w_iconst hX dL_law_1140 kI_2 ?_
  refine w_iaddN hX dL_law_1141 ?_
  refine w_sld hX hC (vp_in_nI (by omega) (by omega)) dL_law_1142 ?_
  refine w_aload_n (i := 0) hX dL_law_1143 rfl rfl ?_
  refine w_iload hX dL_law_1144 rfl ?_
  refine w_iconst hX dL_law_1146 kI_3 ?_
  refine w_iaddN hX dL_law_1147 ?_
  refine w_sld hX hC (vp_in_nI (by omega) (by omega)) dL_law_1148 ?_
  refine w_aload_n (i := 0) hX dL_law_1149 rfl rfl ?_
  refine w_iload hX dL_law_1150 rfl ?_
  refine w_iconst hX dL_law_1152 kI_4 ?_
  refine w_iaddN hX dL_law_1153 ?_
  refine w_sld hX hC (vp_in_nI (by omega) (by omega)) dL_law_1154 ?_
  refine w_callVI (As := [.int (xs (nI (i + 1)).toNatClampNeg), .int (xs (nI (i + 2)).toNatClampNeg), .int (xs (nI (i + 3)).toNatClampNeg), .int (xs (nI (i + 4)).toNatClampNeg)]) (rest := [.int (A_goes B (xs (nI (i + 1)).toNatClampNeg) (xs (nI (i + 2)).toNatClampNeg) (xs (nI (i + 3)).toNatClampNeg) (xs (nI (i + 4)).toNatClampNeg))]) (ci := 9) (o := 57) (k2 := k) (n2 := n) hX dL_law_1155 (s_m_goes Γ ν1 57 B g.2.1.1 g.2.2.1 (xs (nI (i + 1)).toNatClampNeg) (xs (nI (i + 2)).toNatClampNeg) (xs (nI (i + 3)).toNatClampNeg) (xs (nI (i + 4)).toNatClampNeg)) okX9_goes (ltb rfl) (mod_s g.2.1.1.1.1) ml_RL_130 imX9_goes seX9_goes rfl (leb rfl) (leb rfl) (Nat.zero_add _) (Nat.zero_add _) (fun r9 ν2 hq9 => ?_)
  obtain ⟨hr9, hq9⟩ := hq9; rw [hr9]; clear hr9 r9
  have l2 : LI ν2 b c B s k9 := g.r hq9 (g.2.1.sm hq9 (fun o k h9 => by unfold SF at h9; omega)) (fun o k h9 => by unfold SF at h9; omega)
  refine wc_icmp_eq (tgt := 1551) hX dL_law_1158 (by decide) (fun c1 => ?_) (fun c1 => ?_)
  · exact kk _ ⟨_, _, _, _, _, l2⟩
  · exact absurd rfl c1
set_option maxHeartbeats 1000000 in
theorem l_vote {Γ : Gm} {X : Cx} {k n i L : Nat} {xs : Nat → Int32} (hX : GX Γ X RL cL_law 280) (hC : SCR Γ X L xs) (hi : i + 8 ≤ L) (hL : L < 2 ^ 30) (ν : Mem) (b c : Nat) (B : Nat → Nat) (s : Tp) (k9 : Nat) (h : LI ν b c B s k9) (kk : ∀ ν2, LIx ν2 → WP Γ X k n 1551 [some (.ref scr), some (.ref 0), some (.ref 57), some (.ref 80), some (.int (nI i)), none, none] [] ν2) : WP Γ X k n 1003 [some (.ref scr), some (.ref 0), some (.ref 57), some (.ref 80), some (.int (nI i)), none, none] [] ν := by
  have hb25 : 25 ≤ b := by have := h.1.2.1; omega
  refine w_aload_n (i := 1) hX dL_law_1003 rfl rfl ?_
  refine w_aload_n (i := 0) hX dL_law_1004 rfl rfl ?_
  refine w_iload hX dL_law_1005 rfl ?_
  refine w_iconst hX dL_law_1007 kI_1 ?_
  refine w_iaddN hX dL_law_1008 ?_
  refine w_sld hX hC (vp_in_nI (by omega) (by omega)) dL_law_1009 ?_
  refine w_callVI (As := [.int (xs (nI (i + 1)).toNatClampNeg)]) (rest := []) (ci := 8) (o := 0) (k2 := k) (n2 := n) hX dL_law_1010 (s_x_vote Γ ν b c B h.1.1 h.1.2.2.1 h.2.2.1 hb25 h.1.2.2.2.2.2.2.2.1 (xs (nI (i + 1)).toNatClampNeg)) okX8_vote (ltb rfl) h.1.1.1 ml_RL_115 imX8_vote seX8_vote rfl (leb rfl) (leb rfl) (Nat.zero_add _) (Nat.zero_add _) (fun r9 ν1 hq9 => ?_)
  obtain ⟨hr9, hq9⟩ := hq9; rw [hr9]; clear hr9 r9
  have g : LI ν1 b c B s k9 := h.m hq9 (h.1.sm hq9 (fun o k h9 => Or.inr h9)) (fun o k h9 => by omega)
  refine w_aload_n (i := 2) hX dL_law_1013 rfl rfl ?_
  refine w_aload_n (i := 0) hX dL_law_1014 rfl rfl ?_
  refine w_iload hX dL_law_1015 rfl ?_
  refine w_iconst hX dL_law_1017 kI_1 ?_
  refine w_iaddN hX dL_law_1018 ?_
  refine w_sld hX hC (vp_in_nI (by omega) (by omega)) dL_law_1019 ?_
  refine w_callVI (As := [.int (xs (nI (i + 1)).toNatClampNeg)]) (rest := [.int (A_vote B (xs (nI (i + 1)).toNatClampNeg))]) (ci := 9) (o := 57) (k2 := k) (n2 := n) hX dL_law_1020 (s_m_vote Γ ν1 57 B g.2.1.1 g.2.2.1 (xs (nI (i + 1)).toNatClampNeg)) okX9_vote (ltb rfl) (mod_s g.2.1.1.1.1) ml_RL_118 imX9_vote seX9_vote rfl (leb rfl) (leb rfl) (Nat.zero_add _) (Nat.zero_add _) (fun r9 ν2 hq9 => ?_)
  obtain ⟨hr9, hq9⟩ := hq9; rw [hr9]; clear hr9 r9
  have l2 : LI ν2 b c B s k9 := g.r hq9 (g.2.1.sm hq9 (fun o k h9 => by unfold SVm at h9; omega)) (fun o k h9 => by unfold SVm at h9; omega)
  refine wc_icmp_eq (tgt := 1551) hX dL_law_1023 (by decide) (fun c1 => ?_) (fun c1 => ?_)
  · exact kk _ ⟨_, _, _, _, _, l2⟩
  · exact absurd rfl c1
