/-! the five guarded calls -/
theorem w_more {Γ : Gm} {X : Cx} {k n k2 n2 pc : Nat} {ls : List (Option Value)} {st : List Value} {μ : Mem} (hfr : Γ.2.2.2.2.2 = false) (hk : k ≤ k2) (hn : n ≤ n2) (kk : WP Γ X k n pc ls st μ) : WP Γ X k2 n2 pc ls st μ := by
  obtain ⟨p, e, R, s, m, args, below, meth, c, Q⟩ := X
  intro H locs cells slots a h1 h2 hP hS hz hn9 hl
  exact kk H locs cells slots a (by omega) (by omega) hP hS (fun hf => by rw [hfr] at hf; cases hf) hn9 hl
theorem cmp_self (v : Int64) : lg_cmp v v = nI 0 := by simp [lg_cmp]; rfl
theorem LI.out {μ : Mem} {b c k9 : Nat} {B : Nat → Nat} {s : Tp} {v : Int64} (h : LI μ b c B s k9) : LI (sL μ 80 0 v) b c B s k9 :=
  have hs : same (fun o k => o = 80 ∧ k = 0) μ (sL μ 80 0 v) := same.rf.sL ⟨rfl, rfl⟩
  ⟨h.1.sm hs (fun o k h9 => by omega), h.2.1.sm hs (fun o k h9 => by omega), h.2.2.1, h.2.2.2.1, h.2.2.2.2⟩
theorem LI.th {μ : Mem} {b c k9 : Nat} {B : Nat → Nat} {s : Tp} {v : Int32} (h : LI μ b c B s k9) : LI (sI μ 57 0 v) b c B s k9 :=
  have hs : same (fun o k => o = 57 ∧ k = 0) μ (sI μ 57 0 v) := same.rf.sI ⟨rfl, rfl⟩
  ⟨h.1.sm hs (fun o k h9 => by omega), h.2.1.sm hs (fun o k h9 => by omega), h.2.2.1, h.2.2.2.1, h.2.2.2.2⟩
set_option maxHeartbeats 1000000 in
theorem s_m_thrown (Γ : Gm) (μ : Mem) (m : Nat) (hm : isMod μ m) : SpI Γ MX9_thrown 0 0 0 [.ref m] μ (fun r μ2 => r = gI μ m 0 ∧ μ2 = μ) := by
  refine SpI.of okX9_thrown rfl [some (.ref m)] ⟨rfl, trivial⟩ (leb rfl) (leb rfl) (fun X hX hE hnm => ?_)
  refine w_aload_n (i := 0) hX dX9_thrown_0 rfl rfl ?_
  refine w_getI hX dX9_thrown_1 fo_RX9_1 rfl (mod_s hm) ?_
  exact w_iret hX hE dX9_thrown_4 (Or.inl rfl) rfl ⟨rfl, rfl⟩
set_option maxHeartbeats 1000000 in
theorem l_shown {Γ : Gm} (hfr : Γ.2.2.2.2.2 = false) {X : Cx} {k n i L : Nat} {xs : Nat → Int32} (hX : GX Γ X RL cL_law 280) (hC : SCR Γ X L xs) (hi : i + 8 ≤ L) (hL : L < 2 ^ 30) (ν : Mem) (b c : Nat) (B : Nat → Nat) (s : Tp) (k9 : Nat) (h : LI ν b c B s k9) (kk : ∀ ν2, LIx ν2 → WP Γ X k n 1551 [some (.ref scr), some (.ref 0), some (.ref 57), some (.ref 80), some (.int (nI i)), none, none] [] ν2) : WP Γ X (1 + k) (6 + n) 328 [some (.ref scr), some (.ref 0), some (.ref 57), some (.ref 80), some (.int (nI i)), none, none] [] ν := by
  refine w_aload_n (i := 1) hX dL_law_328 rfl rfl ?_
  refine w_aload_n (i := 0) hX dL_law_329 rfl rfl ?_
  refine w_iload hX dL_law_330 rfl ?_
  refine w_iconst hX dL_law_332 kI_1 ?_
  refine w_iaddN hX dL_law_333 ?_
  refine w_sld hX hC (vp_in_nI (by omega) (by omega)) dL_law_334 ?_
  refine w_aload_n (i := 0) hX dL_law_335 rfl rfl ?_
  refine w_iload hX dL_law_336 rfl ?_
  refine w_iconst hX dL_law_338 kI_2 ?_
  refine w_iaddN hX dL_law_339 ?_
  refine w_sld hX hC (vp_in_nI (by omega) (by omega)) dL_law_340 ?_
  refine w_aload_n (i := 3) hX dL_law_341 rfl rfl ?_
  refine w_callSH (As := [.ref 0, .int (xs (nI (i + 1)).toNatClampNeg), .int (xs (nI (i + 2)).toNatClampNeg), .ref 80]) (rest := []) (k2 := k) (n2 := n) hX dL_law_342 (s_l_shown Γ hfr ν b c 80 B h.1.1 h.1.2.2.1 h.2.2.1.1 h.2.2.2.2 (xs (nI (i + 1)).toNatClampNeg) (xs (nI (i + 2)).toNatClampNeg)) hokL_shown ml_RL_46 (stL_shown) rfl (leb rfl) (leb rfl) rfl rfl (fun r9 ν1 hq9 => ?_)
  unfold GA at hq9
  rcases ha : A_shown B (xs (nI (i + 1)).toNatClampNeg) (xs (nI (i + 2)).toNatClampNeg) with _ | v
  · rw [ha] at hq9; obtain ⟨hr9, hm1⟩ := hq9; rw [hr9]; clear hr9 r9
    have g : LI ν1 b c B s k9 := by rw [hm1]; exact h
    refine w_istore (l2 := [some (.ref scr), some (.ref 0), some (.ref 57), some (.ref 80), some (.int (nI i)), some (.int (nI 1)), none]) hX dL_law_345 (ltb rfl) rfl rfl ?_
    refine w_aload_n (i := 2) hX dL_law_347 rfl rfl ?_
    refine w_aload_n (i := 0) hX dL_law_348 rfl rfl ?_
    refine w_iload hX dL_law_349 rfl ?_
    refine w_iconst hX dL_law_351 kI_1 ?_
    refine w_iaddN hX dL_law_352 ?_
    refine w_sld hX hC (vp_in_nI (by omega) (by omega)) dL_law_353 ?_
    refine w_aload_n (i := 0) hX dL_law_354 rfl rfl ?_
    refine w_iload hX dL_law_355 rfl ?_
    refine w_iconst hX dL_law_357 kI_2 ?_
    refine w_iaddN hX dL_law_358 ?_
    refine w_sld hX hC (vp_in_nI (by omega) (by omega)) dL_law_359 ?_
    refine w_callVI (As := [.int (xs (nI (i + 1)).toNatClampNeg), .int (xs (nI (i + 2)).toNatClampNeg)]) (rest := []) (ci := 9) (o := 57) (k2 := k) (n2 := n) hX dL_law_360 (s_m_shown Γ ν1 57 B g.2.1.1 (xs (nI (i + 1)).toNatClampNeg) (xs (nI (i + 2)).toNatClampNeg)) okX9_shown (ltb rfl) (mod_s g.2.1.1.1.1) ml_RL_51 imX9_shown seX9_shown rfl (leb rfl) (leb rfl) (Nat.zero_add _) (Nat.zero_add _) (fun r9 ν2 hq9 => ?_)
    obtain ⟨hr9, hm2⟩ := hq9; rw [ha] at hr9 hm2; rw [hr9]; clear hr9 r9
    have l2 : LI ν2 b c B s k9 := by rw [hm2]; exact g.th
    refine w_top (y := nI 0) rfl ?_
    refine w_istore (l2 := [some (.ref scr), some (.ref 0), some (.ref 57), some (.ref 80), some (.int (nI i)), some (.int (nI 1)), some (.int (nI 0))]) hX dL_law_363 (ltb rfl) rfl rfl ?_
    refine w_aload_n (i := 2) hX dL_law_365 rfl rfl ?_
    refine w_callVI (As := []) (rest := []) (ci := 9) (o := 57) (k2 := k) (n2 := n) hX dL_law_366 (s_m_thrown Γ ν2 57 l2.2.1.1.1.1) okX9_thrown (ltb rfl) (mod_s l2.2.1.1.1.1) ml_RL_52 imX9_thrown seX9_thrown rfl (leb rfl) (leb rfl) (Nat.zero_add _) (Nat.zero_add _) (fun r9 ν3 hq9 => ?_)
    obtain ⟨hr9, hm3⟩ := hq9; rw [hr9, hm3]; clear hr9 hm3 r9
    refine w_top (y := nI 1) (by rw [hm2, gI_same]; rfl) ?_
    refine w_iload hX dL_law_369 rfl ?_
    refine wn_icmp_eq (tgt := 376) hX dL_law_371 (by decide) (by omega) (by omega) (fun c1 => ?_) (fun c1 => ?_)
    · refine w_iload hX dL_law_376 rfl ?_
      refine wn_if_ne (tgt := 393) hX dL_law_378 (by decide) (by omega) (fun c2 => ?_) (fun c2 => ?_)
      · refine w_goto (tgt := 1551) hX dL_law_393 (by decide) ?_
        refine w_sub (l2 := [some (.ref scr), some (.ref 0), some (.ref 57), some (.ref 80), some (.int (nI i)), none, none]) (by simp [lsub]) (leb rfl) ?_
        exact kk _ ⟨_, _, _, _, _, l2⟩
      · exact absurd c2 (by decide)
    · exact absurd c1 (by decide)
  · rw [ha] at hq9; obtain ⟨hr9, hm1⟩ := hq9; rw [hr9]; clear hr9 r9
    have g : LI ν1 b c B s k9 := by rw [hm1]; exact h.out
    refine w_istore (l2 := [some (.ref scr), some (.ref 0), some (.ref 57), some (.ref 80), some (.int (nI i)), some (.int (nI 0)), none]) hX dL_law_345 (ltb rfl) rfl rfl ?_
    refine w_aload_n (i := 2) hX dL_law_347 rfl rfl ?_
    refine w_aload_n (i := 0) hX dL_law_348 rfl rfl ?_
    refine w_iload hX dL_law_349 rfl ?_
    refine w_iconst hX dL_law_351 kI_1 ?_
    refine w_iaddN hX dL_law_352 ?_
    refine w_sld hX hC (vp_in_nI (by omega) (by omega)) dL_law_353 ?_
    refine w_aload_n (i := 0) hX dL_law_354 rfl rfl ?_
    refine w_iload hX dL_law_355 rfl ?_
    refine w_iconst hX dL_law_357 kI_2 ?_
    refine w_iaddN hX dL_law_358 ?_
    refine w_sld hX hC (vp_in_nI (by omega) (by omega)) dL_law_359 ?_
    refine w_callVI (As := [.int (xs (nI (i + 1)).toNatClampNeg), .int (xs (nI (i + 2)).toNatClampNeg)]) (rest := []) (ci := 9) (o := 57) (k2 := k) (n2 := n) hX dL_law_360 (s_m_shown Γ ν1 57 B g.2.1.1 (xs (nI (i + 1)).toNatClampNeg) (xs (nI (i + 2)).toNatClampNeg)) okX9_shown (ltb rfl) (mod_s g.2.1.1.1.1) ml_RL_51 imX9_shown seX9_shown rfl (leb rfl) (leb rfl) (Nat.zero_add _) (Nat.zero_add _) (fun r9 ν2 hq9 => ?_)
    obtain ⟨hr9, hm2⟩ := hq9; rw [ha] at hr9 hm2; rw [hr9]; clear hr9 r9
    have l2 : LI ν2 b c B s k9 := by rw [hm2]; exact g.th
    refine w_top (y := v) rfl ?_
    refine w_istore (l2 := [some (.ref scr), some (.ref 0), some (.ref 57), some (.ref 80), some (.int (nI i)), some (.int (nI 0)), some (.int v)]) hX dL_law_363 (ltb rfl) rfl rfl ?_
    refine w_aload_n (i := 2) hX dL_law_365 rfl rfl ?_
    refine w_callVI (As := []) (rest := []) (ci := 9) (o := 57) (k2 := k) (n2 := n) hX dL_law_366 (s_m_thrown Γ ν2 57 l2.2.1.1.1.1) okX9_thrown (ltb rfl) (mod_s l2.2.1.1.1.1) ml_RL_52 imX9_thrown seX9_thrown rfl (leb rfl) (leb rfl) (Nat.zero_add _) (Nat.zero_add _) (fun r9 ν3 hq9 => ?_)
    obtain ⟨hr9, hm3⟩ := hq9; rw [hr9, hm3]; clear hr9 hm3 r9
    refine w_top (y := nI 0) (by rw [hm2, gI_same]; rfl) ?_
    refine w_iload hX dL_law_369 rfl ?_
    refine wn_icmp_eq (tgt := 376) hX dL_law_371 (by decide) (by omega) (by omega) (fun c3 => ?_) (fun c3 => ?_)
    · refine w_iload hX dL_law_376 rfl ?_
      refine wn_if_ne (tgt := 393) hX dL_law_378 (by decide) (by omega) (fun c4 => ?_) (fun c4 => ?_)
      · exact absurd c4 (by decide)
      · refine w_aload_n (i := 3) hX dL_law_381 rfl rfl ?_
        refine w_iconst hX dL_law_382 kI_0 ?_
        refine w_laldN hX dL_law_383 l2.2.2.2.2 (by omega) (by omega) ?_
        refine w_topL (y := v.toInt64) (by rw [hm2, gL_sI, hm1, gL_same]) ?_
        refine w_iload hX dL_law_384 rfl ?_
        refine w_i2l hX dL_law_386 ?_
        refine w_lcmp hX dL_law_387 ?_
        refine w_top (y := nI 0) (cmp_self _) ?_
        refine wn_if_eq (tgt := 393) hX dL_law_388 (by decide) (by omega) (fun c5 => ?_) (fun c5 => ?_)
        · refine w_goto (tgt := 1551) hX dL_law_393 (by decide) ?_
          refine w_sub (l2 := [some (.ref scr), some (.ref 0), some (.ref 57), some (.ref 80), some (.int (nI i)), none, none]) (by simp [lsub]) (leb rfl) ?_
          exact kk _ ⟨_, _, _, _, _, l2⟩
        · exact absurd c5 (by decide)
    · exact absurd c3 (by decide)
set_option maxHeartbeats 1000000 in
theorem l_backs {Γ : Gm} (hfr : Γ.2.2.2.2.2 = false) {X : Cx} {k n i L : Nat} {xs : Nat → Int32} (hX : GX Γ X RL cL_law 280) (hC : SCR Γ X L xs) (hi : i + 8 ≤ L) (hL : L < 2 ^ 30) (ν : Mem) (b c : Nat) (B : Nat → Nat) (s : Tp) (k9 : Nat) (h : LI ν b c B s k9) (kk : ∀ ν2, LIx ν2 → WP Γ X k n 1551 [some (.ref scr), some (.ref 0), some (.ref 57), some (.ref 80), some (.int (nI i)), none, none] [] ν2) : WP Γ X (1 + k) (6 + n) 457 [some (.ref scr), some (.ref 0), some (.ref 57), some (.ref 80), some (.int (nI i)), none, none] [] ν := by
  refine w_aload_n (i := 1) hX dL_law_457 rfl rfl ?_
  refine w_aload_n (i := 0) hX dL_law_458 rfl rfl ?_
  refine w_iload hX dL_law_459 rfl ?_
  refine w_iconst hX dL_law_461 kI_1 ?_
  refine w_iaddN hX dL_law_462 ?_
  refine w_sld hX hC (vp_in_nI (by omega) (by omega)) dL_law_463 ?_
  refine w_aload_n (i := 0) hX dL_law_464 rfl rfl ?_
  refine w_iload hX dL_law_465 rfl ?_
  refine w_iconst hX dL_law_467 kI_2 ?_
  refine w_iaddN hX dL_law_468 ?_
  refine w_sld hX hC (vp_in_nI (by omega) (by omega)) dL_law_469 ?_
  refine w_aload_n (i := 3) hX dL_law_470 rfl rfl ?_
  refine w_callSH (As := [.ref 0, .int (xs (nI (i + 1)).toNatClampNeg), .int (xs (nI (i + 2)).toNatClampNeg), .ref 80]) (rest := []) (k2 := k) (n2 := n) hX dL_law_471 (s_l_backs Γ hfr ν b c 80 B h.1.1 h.1.2.2.1 h.2.2.1.1 h.2.2.2.2 (xs (nI (i + 1)).toNatClampNeg) (xs (nI (i + 2)).toNatClampNeg)) hokL_backs ml_RL_59 (stL_backs) rfl (leb rfl) (leb rfl) rfl rfl (fun r9 ν1 hq9 => ?_)
  unfold GA at hq9
  rcases ha : A_backs B (xs (nI (i + 1)).toNatClampNeg) (xs (nI (i + 2)).toNatClampNeg) with _ | v
  · rw [ha] at hq9; obtain ⟨hr9, hm1⟩ := hq9; rw [hr9]; clear hr9 r9
    have g : LI ν1 b c B s k9 := by rw [hm1]; exact h
    refine w_istore (l2 := [some (.ref scr), some (.ref 0), some (.ref 57), some (.ref 80), some (.int (nI i)), some (.int (nI 1)), none]) hX dL_law_474 (ltb rfl) rfl rfl ?_
    refine w_aload_n (i := 2) hX dL_law_476 rfl rfl ?_
    refine w_aload_n (i := 0) hX dL_law_477 rfl rfl ?_
    refine w_iload hX dL_law_478 rfl ?_
    refine w_iconst hX dL_law_480 kI_1 ?_
    refine w_iaddN hX dL_law_481 ?_
    refine w_sld hX hC (vp_in_nI (by omega) (by omega)) dL_law_482 ?_
    refine w_aload_n (i := 0) hX dL_law_483 rfl rfl ?_
    refine w_iload hX dL_law_484 rfl ?_
    refine w_iconst hX dL_law_486 kI_2 ?_
    refine w_iaddN hX dL_law_487 ?_
    refine w_sld hX hC (vp_in_nI (by omega) (by omega)) dL_law_488 ?_
    refine w_callVI (As := [.int (xs (nI (i + 1)).toNatClampNeg), .int (xs (nI (i + 2)).toNatClampNeg)]) (rest := []) (ci := 9) (o := 57) (k2 := k) (n2 := n) hX dL_law_489 (s_m_backs Γ ν1 57 B g.2.1.1 (xs (nI (i + 1)).toNatClampNeg) (xs (nI (i + 2)).toNatClampNeg)) okX9_backs (ltb rfl) (mod_s g.2.1.1.1.1) ml_RL_61 imX9_backs seX9_backs rfl (leb rfl) (leb rfl) (Nat.zero_add _) (Nat.zero_add _) (fun r9 ν2 hq9 => ?_)
    obtain ⟨hr9, hm2⟩ := hq9; rw [ha] at hr9 hm2; rw [hr9]; clear hr9 r9
    have l2 : LI ν2 b c B s k9 := by rw [hm2]; exact g.th
    refine w_top (y := nI 0) rfl ?_
    refine w_istore (l2 := [some (.ref scr), some (.ref 0), some (.ref 57), some (.ref 80), some (.int (nI i)), some (.int (nI 1)), some (.int (nI 0))]) hX dL_law_492 (ltb rfl) rfl rfl ?_
    refine w_aload_n (i := 2) hX dL_law_494 rfl rfl ?_
    refine w_callVI (As := []) (rest := []) (ci := 9) (o := 57) (k2 := k) (n2 := n) hX dL_law_495 (s_m_thrown Γ ν2 57 l2.2.1.1.1.1) okX9_thrown (ltb rfl) (mod_s l2.2.1.1.1.1) ml_RL_52 imX9_thrown seX9_thrown rfl (leb rfl) (leb rfl) (Nat.zero_add _) (Nat.zero_add _) (fun r9 ν3 hq9 => ?_)
    obtain ⟨hr9, hm3⟩ := hq9; rw [hr9, hm3]; clear hr9 hm3 r9
    refine w_top (y := nI 1) (by rw [hm2, gI_same]; rfl) ?_
    refine w_iload hX dL_law_498 rfl ?_
    refine wn_icmp_eq (tgt := 505) hX dL_law_500 (by decide) (by omega) (by omega) (fun c1 => ?_) (fun c1 => ?_)
    · refine w_iload hX dL_law_505 rfl ?_
      refine wn_if_ne (tgt := 522) hX dL_law_507 (by decide) (by omega) (fun c2 => ?_) (fun c2 => ?_)
      · refine w_goto (tgt := 1551) hX dL_law_522 (by decide) ?_
        refine w_sub (l2 := [some (.ref scr), some (.ref 0), some (.ref 57), some (.ref 80), some (.int (nI i)), none, none]) (by simp [lsub]) (leb rfl) ?_
        exact kk _ ⟨_, _, _, _, _, l2⟩
      · exact absurd c2 (by decide)
    · exact absurd c1 (by decide)
  · rw [ha] at hq9; obtain ⟨hr9, hm1⟩ := hq9; rw [hr9]; clear hr9 r9
    have g : LI ν1 b c B s k9 := by rw [hm1]; exact h.out
    refine w_istore (l2 := [some (.ref scr), some (.ref 0), some (.ref 57), some (.ref 80), some (.int (nI i)), some (.int (nI 0)), none]) hX dL_law_474 (ltb rfl) rfl rfl ?_
    refine w_aload_n (i := 2) hX dL_law_476 rfl rfl ?_
    refine w_aload_n (i := 0) hX dL_law_477 rfl rfl ?_
    refine w_iload hX dL_law_478 rfl ?_
    refine w_iconst hX dL_law_480 kI_1 ?_
    refine w_iaddN hX dL_law_481 ?_
    refine w_sld hX hC (vp_in_nI (by omega) (by omega)) dL_law_482 ?_
    refine w_aload_n (i := 0) hX dL_law_483 rfl rfl ?_
    refine w_iload hX dL_law_484 rfl ?_
    refine w_iconst hX dL_law_486 kI_2 ?_
    refine w_iaddN hX dL_law_487 ?_
    refine w_sld hX hC (vp_in_nI (by omega) (by omega)) dL_law_488 ?_
    refine w_callVI (As := [.int (xs (nI (i + 1)).toNatClampNeg), .int (xs (nI (i + 2)).toNatClampNeg)]) (rest := []) (ci := 9) (o := 57) (k2 := k) (n2 := n) hX dL_law_489 (s_m_backs Γ ν1 57 B g.2.1.1 (xs (nI (i + 1)).toNatClampNeg) (xs (nI (i + 2)).toNatClampNeg)) okX9_backs (ltb rfl) (mod_s g.2.1.1.1.1) ml_RL_61 imX9_backs seX9_backs rfl (leb rfl) (leb rfl) (Nat.zero_add _) (Nat.zero_add _) (fun r9 ν2 hq9 => ?_)
    obtain ⟨hr9, hm2⟩ := hq9; rw [ha] at hr9 hm2; rw [hr9]; clear hr9 r9
    have l2 : LI ν2 b c B s k9 := by rw [hm2]; exact g.th
    refine w_top (y := v) rfl ?_
    refine w_istore (l2 := [some (.ref scr), some (.ref 0), some (.ref 57), some (.ref 80), some (.int (nI i)), some (.int (nI 0)), some (.int v)]) hX dL_law_492 (ltb rfl) rfl rfl ?_
    refine w_aload_n (i := 2) hX dL_law_494 rfl rfl ?_
    refine w_callVI (As := []) (rest := []) (ci := 9) (o := 57) (k2 := k) (n2 := n) hX dL_law_495 (s_m_thrown Γ ν2 57 l2.2.1.1.1.1) okX9_thrown (ltb rfl) (mod_s l2.2.1.1.1.1) ml_RL_52 imX9_thrown seX9_thrown rfl (leb rfl) (leb rfl) (Nat.zero_add _) (Nat.zero_add _) (fun r9 ν3 hq9 => ?_)
    obtain ⟨hr9, hm3⟩ := hq9; rw [hr9, hm3]; clear hr9 hm3 r9
    refine w_top (y := nI 0) (by rw [hm2, gI_same]; rfl) ?_
    refine w_iload hX dL_law_498 rfl ?_
    refine wn_icmp_eq (tgt := 505) hX dL_law_500 (by decide) (by omega) (by omega) (fun c3 => ?_) (fun c3 => ?_)
    · refine w_iload hX dL_law_505 rfl ?_
      refine wn_if_ne (tgt := 522) hX dL_law_507 (by decide) (by omega) (fun c4 => ?_) (fun c4 => ?_)
      · exact absurd c4 (by decide)
      · refine w_aload_n (i := 3) hX dL_law_510 rfl rfl ?_
        refine w_iconst hX dL_law_511 kI_0 ?_
        refine w_laldN hX dL_law_512 l2.2.2.2.2 (by omega) (by omega) ?_
        refine w_topL (y := v.toInt64) (by rw [hm2, gL_sI, hm1, gL_same]) ?_
        refine w_iload hX dL_law_513 rfl ?_
        refine w_i2l hX dL_law_515 ?_
        refine w_lcmp hX dL_law_516 ?_
        refine w_top (y := nI 0) (cmp_self _) ?_
        refine wn_if_eq (tgt := 522) hX dL_law_517 (by decide) (by omega) (fun c5 => ?_) (fun c5 => ?_)
        · refine w_goto (tgt := 1551) hX dL_law_522 (by decide) ?_
          refine w_sub (l2 := [some (.ref scr), some (.ref 0), some (.ref 57), some (.ref 80), some (.int (nI i)), none, none]) (by simp [lsub]) (leb rfl) ?_
          exact kk _ ⟨_, _, _, _, _, l2⟩
        · exact absurd c5 (by decide)
    · exact absurd c3 (by decide)
set_option maxHeartbeats 1000000 in
theorem l_between {Γ : Gm} (hfr : Γ.2.2.2.2.2 = false) {X : Cx} {k n i L : Nat} {xs : Nat → Int32} (hX : GX Γ X RL cL_law 280) (hC : SCR Γ X L xs) (hi : i + 8 ≤ L) (hL : L < 2 ^ 30) (ν : Mem) (b c : Nat) (B : Nat → Nat) (s : Tp) (k9 : Nat) (h : LI ν b c B s k9) (kk : ∀ ν2, LIx ν2 → WP Γ X k n 1551 [some (.ref scr), some (.ref 0), some (.ref 57), some (.ref 80), some (.int (nI i)), none, none] [] ν2) : WP Γ X (1 + k) (6 + n) 525 [some (.ref scr), some (.ref 0), some (.ref 57), some (.ref 80), some (.int (nI i)), none, none] [] ν := by
  refine w_aload_n (i := 1) hX dL_law_525 rfl rfl ?_
  refine w_aload_n (i := 0) hX dL_law_526 rfl rfl ?_
  refine w_iload hX dL_law_527 rfl ?_
  refine w_iconst hX dL_law_529 kI_1 ?_
  refine w_iaddN hX dL_law_530 ?_
  refine w_sld hX hC (vp_in_nI (by omega) (by omega)) dL_law_531 ?_
  refine w_aload_n (i := 0) hX dL_law_532 rfl rfl ?_
  refine w_iload hX dL_law_533 rfl ?_
  refine w_iconst hX dL_law_535 kI_2 ?_
  refine w_iaddN hX dL_law_536 ?_
  refine w_sld hX hC (vp_in_nI (by omega) (by omega)) dL_law_537 ?_
  refine w_aload_n (i := 0) hX dL_law_538 rfl rfl ?_
  refine w_iload hX dL_law_539 rfl ?_
  refine w_iconst hX dL_law_541 kI_3 ?_
  refine w_iaddN hX dL_law_542 ?_
  refine w_sld hX hC (vp_in_nI (by omega) (by omega)) dL_law_543 ?_
  refine w_aload_n (i := 0) hX dL_law_544 rfl rfl ?_
  refine w_iload hX dL_law_545 rfl ?_
  refine w_iconst hX dL_law_547 kI_4 ?_
  refine w_iaddN hX dL_law_548 ?_
  refine w_sld hX hC (vp_in_nI (by omega) (by omega)) dL_law_549 ?_
  refine w_aload_n (i := 0) hX dL_law_550 rfl rfl ?_
  refine w_iload hX dL_law_551 rfl ?_
  refine w_iconst hX dL_law_553 kI_5 ?_
  refine w_iaddN hX dL_law_554 ?_
  refine w_sld hX hC (vp_in_nI (by omega) (by omega)) dL_law_555 ?_
  refine w_aload_n (i := 0) hX dL_law_556 rfl rfl ?_
  refine w_iload hX dL_law_557 rfl ?_
  refine w_bipush hX dL_law_559 kB_6 ?_
  refine w_iaddN hX dL_law_561 ?_
  refine w_sld hX hC (vp_in_nI (by omega) (by omega)) dL_law_562 ?_
  refine w_aload_n (i := 3) hX dL_law_563 rfl rfl ?_
  refine w_callSH (As := [.ref 0, .int (xs (nI (i + 1)).toNatClampNeg), .int (xs (nI (i + 2)).toNatClampNeg), .int (xs (nI (i + 3)).toNatClampNeg), .int (xs (nI (i + 4)).toNatClampNeg), .int (xs (nI (i + 5)).toNatClampNeg), .int (xs (nI (i + 6)).toNatClampNeg), .ref 80]) (rest := []) (k2 := k) (n2 := n) hX dL_law_564 (s_l_between Γ hfr ν b c 80 B h.1.1 h.1.2.2.1 h.2.2.1.1 h.2.2.2.2 (xs (nI (i + 1)).toNatClampNeg) (xs (nI (i + 2)).toNatClampNeg) (xs (nI (i + 3)).toNatClampNeg) (xs (nI (i + 4)).toNatClampNeg) (xs (nI (i + 5)).toNatClampNeg) (xs (nI (i + 6)).toNatClampNeg)) hokL_between ml_RL_62 (stL_between) rfl (leb rfl) (leb rfl) rfl rfl (fun r9 ν1 hq9 => ?_)
  unfold GA at hq9
  rcases ha : A_between B (xs (nI (i + 1)).toNatClampNeg) (xs (nI (i + 2)).toNatClampNeg) (xs (nI (i + 3)).toNatClampNeg) (xs (nI (i + 4)).toNatClampNeg) (xs (nI (i + 5)).toNatClampNeg) (xs (nI (i + 6)).toNatClampNeg) with _ | v
  · rw [ha] at hq9; obtain ⟨hr9, hm1⟩ := hq9; rw [hr9]; clear hr9 r9
    have g : LI ν1 b c B s k9 := by rw [hm1]; exact h
    refine w_istore (l2 := [some (.ref scr), some (.ref 0), some (.ref 57), some (.ref 80), some (.int (nI i)), some (.int (nI 1)), none]) hX dL_law_567 (ltb rfl) rfl rfl ?_
    refine w_aload_n (i := 2) hX dL_law_569 rfl rfl ?_
    refine w_aload_n (i := 0) hX dL_law_570 rfl rfl ?_
    refine w_iload hX dL_law_571 rfl ?_
    refine w_iconst hX dL_law_573 kI_1 ?_
    refine w_iaddN hX dL_law_574 ?_
    refine w_sld hX hC (vp_in_nI (by omega) (by omega)) dL_law_575 ?_
    refine w_aload_n (i := 0) hX dL_law_576 rfl rfl ?_
    refine w_iload hX dL_law_577 rfl ?_
    refine w_iconst hX dL_law_579 kI_2 ?_
    refine w_iaddN hX dL_law_580 ?_
    refine w_sld hX hC (vp_in_nI (by omega) (by omega)) dL_law_581 ?_
    refine w_aload_n (i := 0) hX dL_law_582 rfl rfl ?_
    refine w_iload hX dL_law_583 rfl ?_
    refine w_iconst hX dL_law_585 kI_3 ?_
    refine w_iaddN hX dL_law_586 ?_
    refine w_sld hX hC (vp_in_nI (by omega) (by omega)) dL_law_587 ?_
    refine w_aload_n (i := 0) hX dL_law_588 rfl rfl ?_
    refine w_iload hX dL_law_589 rfl ?_
    refine w_iconst hX dL_law_591 kI_4 ?_
    refine w_iaddN hX dL_law_592 ?_
    refine w_sld hX hC (vp_in_nI (by omega) (by omega)) dL_law_593 ?_
    refine w_aload_n (i := 0) hX dL_law_594 rfl rfl ?_
    refine w_iload hX dL_law_595 rfl ?_
    refine w_iconst hX dL_law_597 kI_5 ?_
    refine w_iaddN hX dL_law_598 ?_
    refine w_sld hX hC (vp_in_nI (by omega) (by omega)) dL_law_599 ?_
    refine w_aload_n (i := 0) hX dL_law_600 rfl rfl ?_
    refine w_iload hX dL_law_601 rfl ?_
    refine w_bipush hX dL_law_603 kB_6 ?_
    refine w_iaddN hX dL_law_605 ?_
    refine w_sld hX hC (vp_in_nI (by omega) (by omega)) dL_law_606 ?_
    refine w_callVI (As := [.int (xs (nI (i + 1)).toNatClampNeg), .int (xs (nI (i + 2)).toNatClampNeg), .int (xs (nI (i + 3)).toNatClampNeg), .int (xs (nI (i + 4)).toNatClampNeg), .int (xs (nI (i + 5)).toNatClampNeg), .int (xs (nI (i + 6)).toNatClampNeg)]) (rest := []) (ci := 9) (o := 57) (k2 := k) (n2 := n) hX dL_law_607 (s_m_between Γ ν1 57 B g.2.1.1 (xs (nI (i + 1)).toNatClampNeg) (xs (nI (i + 2)).toNatClampNeg) (xs (nI (i + 3)).toNatClampNeg) (xs (nI (i + 4)).toNatClampNeg) (xs (nI (i + 5)).toNatClampNeg) (xs (nI (i + 6)).toNatClampNeg)) okX9_between (ltb rfl) (mod_s g.2.1.1.1.1) ml_RL_65 imX9_between seX9_between rfl (leb rfl) (leb rfl) (Nat.zero_add _) (Nat.zero_add _) (fun r9 ν2 hq9 => ?_)
    obtain ⟨hr9, hm2⟩ := hq9; rw [ha] at hr9 hm2; rw [hr9]; clear hr9 r9
    have l2 : LI ν2 b c B s k9 := by rw [hm2]; exact g.th
    refine w_top (y := nI 0) rfl ?_
    refine w_istore (l2 := [some (.ref scr), some (.ref 0), some (.ref 57), some (.ref 80), some (.int (nI i)), some (.int (nI 1)), some (.int (nI 0))]) hX dL_law_610 (ltb rfl) rfl rfl ?_
    refine w_aload_n (i := 2) hX dL_law_612 rfl rfl ?_
    refine w_callVI (As := []) (rest := []) (ci := 9) (o := 57) (k2 := k) (n2 := n) hX dL_law_613 (s_m_thrown Γ ν2 57 l2.2.1.1.1.1) okX9_thrown (ltb rfl) (mod_s l2.2.1.1.1.1) ml_RL_52 imX9_thrown seX9_thrown rfl (leb rfl) (leb rfl) (Nat.zero_add _) (Nat.zero_add _) (fun r9 ν3 hq9 => ?_)
    obtain ⟨hr9, hm3⟩ := hq9; rw [hr9, hm3]; clear hr9 hm3 r9
    refine w_top (y := nI 1) (by rw [hm2, gI_same]; rfl) ?_
    refine w_iload hX dL_law_616 rfl ?_
    refine wn_icmp_eq (tgt := 623) hX dL_law_618 (by decide) (by omega) (by omega) (fun c1 => ?_) (fun c1 => ?_)
    · refine w_iload hX dL_law_623 rfl ?_
      refine wn_if_ne (tgt := 640) hX dL_law_625 (by decide) (by omega) (fun c2 => ?_) (fun c2 => ?_)
      · refine w_goto (tgt := 1551) hX dL_law_640 (by decide) ?_
        refine w_sub (l2 := [some (.ref scr), some (.ref 0), some (.ref 57), some (.ref 80), some (.int (nI i)), none, none]) (by simp [lsub]) (leb rfl) ?_
        exact kk _ ⟨_, _, _, _, _, l2⟩
      · exact absurd c2 (by decide)
    · exact absurd c1 (by decide)
  · rw [ha] at hq9; obtain ⟨hr9, hm1⟩ := hq9; rw [hr9]; clear hr9 r9
    have g : LI ν1 b c B s k9 := by rw [hm1]; exact h.out
    refine w_istore (l2 := [some (.ref scr), some (.ref 0), some (.ref 57), some (.ref 80), some (.int (nI i)), some (.int (nI 0)), none]) hX dL_law_567 (ltb rfl) rfl rfl ?_
    refine w_aload_n (i := 2) hX dL_law_569 rfl rfl ?_
    refine w_aload_n (i := 0) hX dL_law_570 rfl rfl ?_
    refine w_iload hX dL_law_571 rfl ?_
    refine w_iconst hX dL_law_573 kI_1 ?_
    refine w_iaddN hX dL_law_574 ?_
    refine w_sld hX hC (vp_in_nI (by omega) (by omega)) dL_law_575 ?_
    refine w_aload_n (i := 0) hX dL_law_576 rfl rfl ?_
    refine w_iload hX dL_law_577 rfl ?_
    refine w_iconst hX dL_law_579 kI_2 ?_
    refine w_iaddN hX dL_law_580 ?_
    refine w_sld hX hC (vp_in_nI (by omega) (by omega)) dL_law_581 ?_
    refine w_aload_n (i := 0) hX dL_law_582 rfl rfl ?_
    refine w_iload hX dL_law_583 rfl ?_
    refine w_iconst hX dL_law_585 kI_3 ?_
    refine w_iaddN hX dL_law_586 ?_
    refine w_sld hX hC (vp_in_nI (by omega) (by omega)) dL_law_587 ?_
    refine w_aload_n (i := 0) hX dL_law_588 rfl rfl ?_
    refine w_iload hX dL_law_589 rfl ?_
    refine w_iconst hX dL_law_591 kI_4 ?_
    refine w_iaddN hX dL_law_592 ?_
    refine w_sld hX hC (vp_in_nI (by omega) (by omega)) dL_law_593 ?_
    refine w_aload_n (i := 0) hX dL_law_594 rfl rfl ?_
    refine w_iload hX dL_law_595 rfl ?_
    refine w_iconst hX dL_law_597 kI_5 ?_
    refine w_iaddN hX dL_law_598 ?_
    refine w_sld hX hC (vp_in_nI (by omega) (by omega)) dL_law_599 ?_
    refine w_aload_n (i := 0) hX dL_law_600 rfl rfl ?_
    refine w_iload hX dL_law_601 rfl ?_
    refine w_bipush hX dL_law_603 kB_6 ?_
    refine w_iaddN hX dL_law_605 ?_
    refine w_sld hX hC (vp_in_nI (by omega) (by omega)) dL_law_606 ?_
    refine w_callVI (As := [.int (xs (nI (i + 1)).toNatClampNeg), .int (xs (nI (i + 2)).toNatClampNeg), .int (xs (nI (i + 3)).toNatClampNeg), .int (xs (nI (i + 4)).toNatClampNeg), .int (xs (nI (i + 5)).toNatClampNeg), .int (xs (nI (i + 6)).toNatClampNeg)]) (rest := []) (ci := 9) (o := 57) (k2 := k) (n2 := n) hX dL_law_607 (s_m_between Γ ν1 57 B g.2.1.1 (xs (nI (i + 1)).toNatClampNeg) (xs (nI (i + 2)).toNatClampNeg) (xs (nI (i + 3)).toNatClampNeg) (xs (nI (i + 4)).toNatClampNeg) (xs (nI (i + 5)).toNatClampNeg) (xs (nI (i + 6)).toNatClampNeg)) okX9_between (ltb rfl) (mod_s g.2.1.1.1.1) ml_RL_65 imX9_between seX9_between rfl (leb rfl) (leb rfl) (Nat.zero_add _) (Nat.zero_add _) (fun r9 ν2 hq9 => ?_)
    obtain ⟨hr9, hm2⟩ := hq9; rw [ha] at hr9 hm2; rw [hr9]; clear hr9 r9
    have l2 : LI ν2 b c B s k9 := by rw [hm2]; exact g.th
    refine w_top (y := v) rfl ?_
    refine w_istore (l2 := [some (.ref scr), some (.ref 0), some (.ref 57), some (.ref 80), some (.int (nI i)), some (.int (nI 0)), some (.int v)]) hX dL_law_610 (ltb rfl) rfl rfl ?_
    refine w_aload_n (i := 2) hX dL_law_612 rfl rfl ?_
    refine w_callVI (As := []) (rest := []) (ci := 9) (o := 57) (k2 := k) (n2 := n) hX dL_law_613 (s_m_thrown Γ ν2 57 l2.2.1.1.1.1) okX9_thrown (ltb rfl) (mod_s l2.2.1.1.1.1) ml_RL_52 imX9_thrown seX9_thrown rfl (leb rfl) (leb rfl) (Nat.zero_add _) (Nat.zero_add _) (fun r9 ν3 hq9 => ?_)
    obtain ⟨hr9, hm3⟩ := hq9; rw [hr9, hm3]; clear hr9 hm3 r9
    refine w_top (y := nI 0) (by rw [hm2, gI_same]; rfl) ?_
    refine w_iload hX dL_law_616 rfl ?_
    refine wn_icmp_eq (tgt := 623) hX dL_law_618 (by decide) (by omega) (by omega) (fun c3 => ?_) (fun c3 => ?_)
    · refine w_iload hX dL_law_623 rfl ?_
      refine wn_if_ne (tgt := 640) hX dL_law_625 (by decide) (by omega) (fun c4 => ?_) (fun c4 => ?_)
      · exact absurd c4 (by decide)
      · refine w_aload_n (i := 3) hX dL_law_628 rfl rfl ?_
        refine w_iconst hX dL_law_629 kI_0 ?_
        refine w_laldN hX dL_law_630 l2.2.2.2.2 (by omega) (by omega) ?_
        refine w_topL (y := v.toInt64) (by rw [hm2, gL_sI, hm1, gL_same]) ?_
        refine w_iload hX dL_law_631 rfl ?_
        refine w_i2l hX dL_law_633 ?_
        refine w_lcmp hX dL_law_634 ?_
        refine w_top (y := nI 0) (cmp_self _) ?_
        refine wn_if_eq (tgt := 640) hX dL_law_635 (by decide) (by omega) (fun c5 => ?_) (fun c5 => ?_)
        · refine w_goto (tgt := 1551) hX dL_law_640 (by decide) ?_
          refine w_sub (l2 := [some (.ref scr), some (.ref 0), some (.ref 57), some (.ref 80), some (.int (nI i)), none, none]) (by simp [lsub]) (leb rfl) ?_
          exact kk _ ⟨_, _, _, _, _, l2⟩
        · exact absurd c5 (by decide)
    · exact absurd c3 (by decide)
set_option maxHeartbeats 1000000 in
theorem l_wage {Γ : Gm} (hfr : Γ.2.2.2.2.2 = false) {X : Cx} {k n i L : Nat} {xs : Nat → Int32} (hX : GX Γ X RL cL_law 280) (hC : SCR Γ X L xs) (hi : i + 8 ≤ L) (hL : L < 2 ^ 30) (ν : Mem) (b c : Nat) (B : Nat → Nat) (s : Tp) (k9 : Nat) (h : LI ν b c B s k9) (kk : ∀ ν2, LIx ν2 → WP Γ X k n 1551 [some (.ref scr), some (.ref 0), some (.ref 57), some (.ref 80), some (.int (nI i)), none, none] [] ν2) : WP Γ X (1 + k) (6 + n) 1200 [some (.ref scr), some (.ref 0), some (.ref 57), some (.ref 80), some (.int (nI i)), none, none] [] ν := by
  refine w_aload_n (i := 1) hX dL_law_1200 rfl rfl ?_
  refine w_aload_n (i := 0) hX dL_law_1201 rfl rfl ?_
  refine w_iload hX dL_law_1202 rfl ?_
  refine w_iconst hX dL_law_1204 kI_1 ?_
  refine w_iaddN hX dL_law_1205 ?_
  refine w_sld hX hC (vp_in_nI (by omega) (by omega)) dL_law_1206 ?_
  refine w_aload_n (i := 0) hX dL_law_1207 rfl rfl ?_
  refine w_iload hX dL_law_1208 rfl ?_
  refine w_iconst hX dL_law_1210 kI_2 ?_
  refine w_iaddN hX dL_law_1211 ?_
  refine w_sld hX hC (vp_in_nI (by omega) (by omega)) dL_law_1212 ?_
  refine w_aload_n (i := 0) hX dL_law_1213 rfl rfl ?_
  refine w_iload hX dL_law_1214 rfl ?_
  refine w_iconst hX dL_law_1216 kI_3 ?_
  refine w_iaddN hX dL_law_1217 ?_
  refine w_sld hX hC (vp_in_nI (by omega) (by omega)) dL_law_1218 ?_
  refine w_aload_n (i := 0) hX dL_law_1219 rfl rfl ?_
  refine w_iload hX dL_law_1220 rfl ?_
  refine w_iconst hX dL_law_1222 kI_4 ?_
  refine w_iaddN hX dL_law_1223 ?_
  refine w_sld hX hC (vp_in_nI (by omega) (by omega)) dL_law_1224 ?_
  refine w_aload_n (i := 0) hX dL_law_1225 rfl rfl ?_
  refine w_iload hX dL_law_1226 rfl ?_
  refine w_iconst hX dL_law_1228 kI_5 ?_
  refine w_iaddN hX dL_law_1229 ?_
  refine w_sld hX hC (vp_in_nI (by omega) (by omega)) dL_law_1230 ?_
  refine w_aload_n (i := 0) hX dL_law_1231 rfl rfl ?_
  refine w_iload hX dL_law_1232 rfl ?_
  refine w_bipush hX dL_law_1234 kB_6 ?_
  refine w_iaddN hX dL_law_1236 ?_
  refine w_sld hX hC (vp_in_nI (by omega) (by omega)) dL_law_1237 ?_
  refine w_aload_n (i := 0) hX dL_law_1238 rfl rfl ?_
  refine w_iload hX dL_law_1239 rfl ?_
  refine w_bipush hX dL_law_1241 kB_7 ?_
  refine w_iaddN hX dL_law_1243 ?_
  refine w_sld hX hC (vp_in_nI (by omega) (by omega)) dL_law_1244 ?_
  refine w_aload_n (i := 3) hX dL_law_1245 rfl rfl ?_
  refine w_callSH (As := [.ref 0, .int (xs (nI (i + 1)).toNatClampNeg), .int (xs (nI (i + 2)).toNatClampNeg), .int (xs (nI (i + 3)).toNatClampNeg), .int (xs (nI (i + 4)).toNatClampNeg), .int (xs (nI (i + 5)).toNatClampNeg), .int (xs (nI (i + 6)).toNatClampNeg), .int (xs (nI (i + 7)).toNatClampNeg), .ref 80]) (rest := []) (k2 := k) (n2 := n) hX dL_law_1246 (s_l_wage Γ hfr ν b c 80 B h.1.1 h.1.2.2.1 h.2.2.1.1 h.2.2.2.2 (xs (nI (i + 1)).toNatClampNeg) (xs (nI (i + 2)).toNatClampNeg) (xs (nI (i + 3)).toNatClampNeg) (xs (nI (i + 4)).toNatClampNeg) (xs (nI (i + 5)).toNatClampNeg) (xs (nI (i + 6)).toNatClampNeg) (xs (nI (i + 7)).toNatClampNeg)) hokL_wage ml_RL_135 (stL_wage) rfl (leb rfl) (leb rfl) rfl rfl (fun r9 ν1 hq9 => ?_)
  unfold GA at hq9
  rcases ha : A_wage B (xs (nI (i + 1)).toNatClampNeg) (xs (nI (i + 2)).toNatClampNeg) (xs (nI (i + 3)).toNatClampNeg) (xs (nI (i + 4)).toNatClampNeg) (xs (nI (i + 5)).toNatClampNeg) (xs (nI (i + 6)).toNatClampNeg) (xs (nI (i + 7)).toNatClampNeg) with _ | v
  · rw [ha] at hq9; obtain ⟨hr9, hm1⟩ := hq9; rw [hr9]; clear hr9 r9
    have g : LI ν1 b c B s k9 := by rw [hm1]; exact h
    refine w_istore (l2 := [some (.ref scr), some (.ref 0), some (.ref 57), some (.ref 80), some (.int (nI i)), some (.int (nI 1)), none]) hX dL_law_1249 (ltb rfl) rfl rfl ?_
    refine w_aload_n (i := 2) hX dL_law_1251 rfl rfl ?_
    refine w_aload_n (i := 0) hX dL_law_1252 rfl rfl ?_
    refine w_iload hX dL_law_1253 rfl ?_
    refine w_iconst hX dL_law_1255 kI_1 ?_
    refine w_iaddN hX dL_law_1256 ?_
    refine w_sld hX hC (vp_in_nI (by omega) (by omega)) dL_law_1257 ?_
    refine w_aload_n (i := 0) hX dL_law_1258 rfl rfl ?_
    refine w_iload hX dL_law_1259 rfl ?_
    refine w_iconst hX dL_law_1261 kI_2 ?_
    refine w_iaddN hX dL_law_1262 ?_
    refine w_sld hX hC (vp_in_nI (by omega) (by omega)) dL_law_1263 ?_
    refine w_aload_n (i := 0) hX dL_law_1264 rfl rfl ?_
    refine w_iload hX dL_law_1265 rfl ?_
    refine w_iconst hX dL_law_1267 kI_3 ?_
    refine w_iaddN hX dL_law_1268 ?_
    refine w_sld hX hC (vp_in_nI (by omega) (by omega)) dL_law_1269 ?_
    refine w_aload_n (i := 0) hX dL_law_1270 rfl rfl ?_
    refine w_iload hX dL_law_1271 rfl ?_
    refine w_iconst hX dL_law_1273 kI_4 ?_
    refine w_iaddN hX dL_law_1274 ?_
    refine w_sld hX hC (vp_in_nI (by omega) (by omega)) dL_law_1275 ?_
    refine w_aload_n (i := 0) hX dL_law_1276 rfl rfl ?_
    refine w_iload hX dL_law_1277 rfl ?_
    refine w_iconst hX dL_law_1279 kI_5 ?_
    refine w_iaddN hX dL_law_1280 ?_
    refine w_sld hX hC (vp_in_nI (by omega) (by omega)) dL_law_1281 ?_
    refine w_aload_n (i := 0) hX dL_law_1282 rfl rfl ?_
    refine w_iload hX dL_law_1283 rfl ?_
    refine w_bipush hX dL_law_1285 kB_6 ?_
    refine w_iaddN hX dL_law_1287 ?_
    refine w_sld hX hC (vp_in_nI (by omega) (by omega)) dL_law_1288 ?_
    refine w_aload_n (i := 0) hX dL_law_1289 rfl rfl ?_
    refine w_iload hX dL_law_1290 rfl ?_
    refine w_bipush hX dL_law_1292 kB_7 ?_
    refine w_iaddN hX dL_law_1294 ?_
    refine w_sld hX hC (vp_in_nI (by omega) (by omega)) dL_law_1295 ?_
    refine w_callVI (As := [.int (xs (nI (i + 1)).toNatClampNeg), .int (xs (nI (i + 2)).toNatClampNeg), .int (xs (nI (i + 3)).toNatClampNeg), .int (xs (nI (i + 4)).toNatClampNeg), .int (xs (nI (i + 5)).toNatClampNeg), .int (xs (nI (i + 6)).toNatClampNeg), .int (xs (nI (i + 7)).toNatClampNeg)]) (rest := []) (ci := 9) (o := 57) (k2 := k) (n2 := n) hX dL_law_1296 (s_m_wage Γ ν1 57 B g.2.1.1 (xs (nI (i + 1)).toNatClampNeg) (xs (nI (i + 2)).toNatClampNeg) (xs (nI (i + 3)).toNatClampNeg) (xs (nI (i + 4)).toNatClampNeg) (xs (nI (i + 5)).toNatClampNeg) (xs (nI (i + 6)).toNatClampNeg) (xs (nI (i + 7)).toNatClampNeg)) okX9_wage (ltb rfl) (mod_s g.2.1.1.1.1) ml_RL_138 imX9_wage seX9_wage rfl (leb rfl) (leb rfl) (Nat.zero_add _) (Nat.zero_add _) (fun r9 ν2 hq9 => ?_)
    obtain ⟨hr9, hm2⟩ := hq9; rw [ha] at hr9 hm2; rw [hr9]; clear hr9 r9
    have l2 : LI ν2 b c B s k9 := by rw [hm2]; exact g.th
    refine w_top (y := nI 0) rfl ?_
    refine w_istore (l2 := [some (.ref scr), some (.ref 0), some (.ref 57), some (.ref 80), some (.int (nI i)), some (.int (nI 1)), some (.int (nI 0))]) hX dL_law_1299 (ltb rfl) rfl rfl ?_
    refine w_aload_n (i := 2) hX dL_law_1301 rfl rfl ?_
    refine w_callVI (As := []) (rest := []) (ci := 9) (o := 57) (k2 := k) (n2 := n) hX dL_law_1302 (s_m_thrown Γ ν2 57 l2.2.1.1.1.1) okX9_thrown (ltb rfl) (mod_s l2.2.1.1.1.1) ml_RL_52 imX9_thrown seX9_thrown rfl (leb rfl) (leb rfl) (Nat.zero_add _) (Nat.zero_add _) (fun r9 ν3 hq9 => ?_)
    obtain ⟨hr9, hm3⟩ := hq9; rw [hr9, hm3]; clear hr9 hm3 r9
    refine w_top (y := nI 1) (by rw [hm2, gI_same]; rfl) ?_
    refine w_iload hX dL_law_1305 rfl ?_
    refine wn_icmp_eq (tgt := 1312) hX dL_law_1307 (by decide) (by omega) (by omega) (fun c1 => ?_) (fun c1 => ?_)
    · refine w_iload hX dL_law_1312 rfl ?_
      refine wn_if_ne (tgt := 1329) hX dL_law_1314 (by decide) (by omega) (fun c2 => ?_) (fun c2 => ?_)
      · refine w_goto (tgt := 1551) hX dL_law_1329 (by decide) ?_
        refine w_sub (l2 := [some (.ref scr), some (.ref 0), some (.ref 57), some (.ref 80), some (.int (nI i)), none, none]) (by simp [lsub]) (leb rfl) ?_
        exact kk _ ⟨_, _, _, _, _, l2⟩
      · exact absurd c2 (by decide)
    · exact absurd c1 (by decide)
  · rw [ha] at hq9; obtain ⟨hr9, hm1⟩ := hq9; rw [hr9]; clear hr9 r9
    have g : LI ν1 b c B s k9 := by rw [hm1]; exact h.out
    refine w_istore (l2 := [some (.ref scr), some (.ref 0), some (.ref 57), some (.ref 80), some (.int (nI i)), some (.int (nI 0)), none]) hX dL_law_1249 (ltb rfl) rfl rfl ?_
    refine w_aload_n (i := 2) hX dL_law_1251 rfl rfl ?_
    refine w_aload_n (i := 0) hX dL_law_1252 rfl rfl ?_
    refine w_iload hX dL_law_1253 rfl ?_
    refine w_iconst hX dL_law_1255 kI_1 ?_
    refine w_iaddN hX dL_law_1256 ?_
    refine w_sld hX hC (vp_in_nI (by omega) (by omega)) dL_law_1257 ?_
    refine w_aload_n (i := 0) hX dL_law_1258 rfl rfl ?_
    refine w_iload hX dL_law_1259 rfl ?_
    refine w_iconst hX dL_law_1261 kI_2 ?_
    refine w_iaddN hX dL_law_1262 ?_
    refine w_sld hX hC (vp_in_nI (by omega) (by omega)) dL_law_1263 ?_
    refine w_aload_n (i := 0) hX dL_law_1264 rfl rfl ?_
    refine w_iload hX dL_law_1265 rfl ?_
    refine w_iconst hX dL_law_1267 kI_3 ?_
    refine w_iaddN hX dL_law_1268 ?_
    refine w_sld hX hC (vp_in_nI (by omega) (by omega)) dL_law_1269 ?_
    refine w_aload_n (i := 0) hX dL_law_1270 rfl rfl ?_
    refine w_iload hX dL_law_1271 rfl ?_
    refine w_iconst hX dL_law_1273 kI_4 ?_
    refine w_iaddN hX dL_law_1274 ?_
    refine w_sld hX hC (vp_in_nI (by omega) (by omega)) dL_law_1275 ?_
    refine w_aload_n (i := 0) hX dL_law_1276 rfl rfl ?_
    refine w_iload hX dL_law_1277 rfl ?_
    refine w_iconst hX dL_law_1279 kI_5 ?_
    refine w_iaddN hX dL_law_1280 ?_
    refine w_sld hX hC (vp_in_nI (by omega) (by omega)) dL_law_1281 ?_
    refine w_aload_n (i := 0) hX dL_law_1282 rfl rfl ?_
    refine w_iload hX dL_law_1283 rfl ?_
    refine w_bipush hX dL_law_1285 kB_6 ?_
    refine w_iaddN hX dL_law_1287 ?_
    refine w_sld hX hC (vp_in_nI (by omega) (by omega)) dL_law_1288 ?_
    refine w_aload_n (i := 0) hX dL_law_1289 rfl rfl ?_
    refine w_iload hX dL_law_1290 rfl ?_
    refine w_bipush hX dL_law_1292 kB_7 ?_
    refine w_iaddN hX dL_law_1294 ?_
    refine w_sld hX hC (vp_in_nI (by omega) (by omega)) dL_law_1295 ?_
    refine w_callVI (As := [.int (xs (nI (i + 1)).toNatClampNeg), .int (xs (nI (i + 2)).toNatClampNeg), .int (xs (nI (i + 3)).toNatClampNeg), .int (xs (nI (i + 4)).toNatClampNeg), .int (xs (nI (i + 5)).toNatClampNeg), .int (xs (nI (i + 6)).toNatClampNeg), .int (xs (nI (i + 7)).toNatClampNeg)]) (rest := []) (ci := 9) (o := 57) (k2 := k) (n2 := n) hX dL_law_1296 (s_m_wage Γ ν1 57 B g.2.1.1 (xs (nI (i + 1)).toNatClampNeg) (xs (nI (i + 2)).toNatClampNeg) (xs (nI (i + 3)).toNatClampNeg) (xs (nI (i + 4)).toNatClampNeg) (xs (nI (i + 5)).toNatClampNeg) (xs (nI (i + 6)).toNatClampNeg) (xs (nI (i + 7)).toNatClampNeg)) okX9_wage (ltb rfl) (mod_s g.2.1.1.1.1) ml_RL_138 imX9_wage seX9_wage rfl (leb rfl) (leb rfl) (Nat.zero_add _) (Nat.zero_add _) (fun r9 ν2 hq9 => ?_)
    obtain ⟨hr9, hm2⟩ := hq9; rw [ha] at hr9 hm2; rw [hr9]; clear hr9 r9
    have l2 : LI ν2 b c B s k9 := by rw [hm2]; exact g.th
    refine w_top (y := v) rfl ?_
    refine w_istore (l2 := [some (.ref scr), some (.ref 0), some (.ref 57), some (.ref 80), some (.int (nI i)), some (.int (nI 0)), some (.int v)]) hX dL_law_1299 (ltb rfl) rfl rfl ?_
    refine w_aload_n (i := 2) hX dL_law_1301 rfl rfl ?_
    refine w_callVI (As := []) (rest := []) (ci := 9) (o := 57) (k2 := k) (n2 := n) hX dL_law_1302 (s_m_thrown Γ ν2 57 l2.2.1.1.1.1) okX9_thrown (ltb rfl) (mod_s l2.2.1.1.1.1) ml_RL_52 imX9_thrown seX9_thrown rfl (leb rfl) (leb rfl) (Nat.zero_add _) (Nat.zero_add _) (fun r9 ν3 hq9 => ?_)
    obtain ⟨hr9, hm3⟩ := hq9; rw [hr9, hm3]; clear hr9 hm3 r9
    refine w_top (y := nI 0) (by rw [hm2, gI_same]; rfl) ?_
    refine w_iload hX dL_law_1305 rfl ?_
    refine wn_icmp_eq (tgt := 1312) hX dL_law_1307 (by decide) (by omega) (by omega) (fun c3 => ?_) (fun c3 => ?_)
    · refine w_iload hX dL_law_1312 rfl ?_
      refine wn_if_ne (tgt := 1329) hX dL_law_1314 (by decide) (by omega) (fun c4 => ?_) (fun c4 => ?_)
      · exact absurd c4 (by decide)
      · refine w_aload_n (i := 3) hX dL_law_1317 rfl rfl ?_
        refine w_iconst hX dL_law_1318 kI_0 ?_
        refine w_laldN hX dL_law_1319 l2.2.2.2.2 (by omega) (by omega) ?_
        refine w_topL (y := v.toInt64) (by rw [hm2, gL_sI, hm1, gL_same]) ?_
        refine w_iload hX dL_law_1320 rfl ?_
        refine w_i2l hX dL_law_1322 ?_
        refine w_lcmp hX dL_law_1323 ?_
        refine w_top (y := nI 0) (cmp_self _) ?_
        refine wn_if_eq (tgt := 1329) hX dL_law_1324 (by decide) (by omega) (fun c5 => ?_) (fun c5 => ?_)
        · refine w_goto (tgt := 1551) hX dL_law_1329 (by decide) ?_
          refine w_sub (l2 := [some (.ref scr), some (.ref 0), some (.ref 57), some (.ref 80), some (.int (nI i)), none, none]) (by simp [lsub]) (leb rfl) ?_
          exact kk _ ⟨_, _, _, _, _, l2⟩
        · exact absurd c5 (by decide)
    · exact absurd c3 (by decide)
set_option maxHeartbeats 1000000 in
theorem l_deed {Γ : Gm} (hfr : Γ.2.2.2.2.2 = false) {X : Cx} {k n i L : Nat} {xs : Nat → Int32} (hX : GX Γ X RL cL_law 280) (hC : SCR Γ X L xs) (hi : i + 8 ≤ L) (hL : L < 2 ^ 30) (ν : Mem) (b c : Nat) (B : Nat → Nat) (s : Tp) (k9 : Nat) (h : LI ν b c B s k9) (kk : ∀ ν2, LIx ν2 → WP Γ X k n 1551 [some (.ref scr), some (.ref 0), some (.ref 57), some (.ref 80), some (.int (nI i)), none, none] [] ν2) : WP Γ X (1 + k) (6 + n) 1332 [some (.ref scr), some (.ref 0), some (.ref 57), some (.ref 80), some (.int (nI i)), none, none] [] ν := by
  refine w_aload_n (i := 1) hX dL_law_1332 rfl rfl ?_
  refine w_aload_n (i := 0) hX dL_law_1333 rfl rfl ?_
  refine w_iload hX dL_law_1334 rfl ?_
  refine w_iconst hX dL_law_1336 kI_1 ?_
  refine w_iaddN hX dL_law_1337 ?_
  refine w_sld hX hC (vp_in_nI (by omega) (by omega)) dL_law_1338 ?_
  refine w_aload_n (i := 0) hX dL_law_1339 rfl rfl ?_
  refine w_iload hX dL_law_1340 rfl ?_
  refine w_iconst hX dL_law_1342 kI_2 ?_
  refine w_iaddN hX dL_law_1343 ?_
  refine w_sld hX hC (vp_in_nI (by omega) (by omega)) dL_law_1344 ?_
  refine w_aload_n (i := 0) hX dL_law_1345 rfl rfl ?_
  refine w_iload hX dL_law_1346 rfl ?_
  refine w_iconst hX dL_law_1348 kI_3 ?_
  refine w_iaddN hX dL_law_1349 ?_
  refine w_sld hX hC (vp_in_nI (by omega) (by omega)) dL_law_1350 ?_
  refine w_aload_n (i := 0) hX dL_law_1351 rfl rfl ?_
  refine w_iload hX dL_law_1352 rfl ?_
  refine w_iconst hX dL_law_1354 kI_4 ?_
  refine w_iaddN hX dL_law_1355 ?_
  refine w_sld hX hC (vp_in_nI (by omega) (by omega)) dL_law_1356 ?_
  refine w_aload_n (i := 3) hX dL_law_1357 rfl rfl ?_
  refine w_callSH (As := [.ref 0, .int (xs (nI (i + 1)).toNatClampNeg), .int (xs (nI (i + 2)).toNatClampNeg), .int (xs (nI (i + 3)).toNatClampNeg), .int (xs (nI (i + 4)).toNatClampNeg), .ref 80]) (rest := []) (k2 := k) (n2 := n) hX dL_law_1358 (s_l_deed Γ hfr ν b c 80 B h.1.1 h.1.2.2.1 h.2.2.1.1 h.2.2.2.2 (xs (nI (i + 1)).toNatClampNeg) (xs (nI (i + 2)).toNatClampNeg) (xs (nI (i + 3)).toNatClampNeg) (xs (nI (i + 4)).toNatClampNeg)) hokL_deed ml_RL_139 (stL_deed) rfl (leb rfl) (leb rfl) rfl rfl (fun r9 ν1 hq9 => ?_)
  unfold GA at hq9
  rcases ha : A_deed B (xs (nI (i + 1)).toNatClampNeg) (xs (nI (i + 2)).toNatClampNeg) (xs (nI (i + 3)).toNatClampNeg) (xs (nI (i + 4)).toNatClampNeg) with _ | v
  · rw [ha] at hq9; obtain ⟨hr9, hm1⟩ := hq9; rw [hr9]; clear hr9 r9
    have g : LI ν1 b c B s k9 := by rw [hm1]; exact h
    refine w_istore (l2 := [some (.ref scr), some (.ref 0), some (.ref 57), some (.ref 80), some (.int (nI i)), some (.int (nI 1)), none]) hX dL_law_1361 (ltb rfl) rfl rfl ?_
    refine w_aload_n (i := 2) hX dL_law_1363 rfl rfl ?_
    refine w_aload_n (i := 0) hX dL_law_1364 rfl rfl ?_
    refine w_iload hX dL_law_1365 rfl ?_
    refine w_iconst hX dL_law_1367 kI_1 ?_
    refine w_iaddN hX dL_law_1368 ?_
    refine w_sld hX hC (vp_in_nI (by omega) (by omega)) dL_law_1369 ?_
    refine w_aload_n (i := 0) hX dL_law_1370 rfl rfl ?_
    refine w_iload hX dL_law_1371 rfl ?_
    refine w_iconst hX dL_law_1373 kI_2 ?_
    refine w_iaddN hX dL_law_1374 ?_
    refine w_sld hX hC (vp_in_nI (by omega) (by omega)) dL_law_1375 ?_
    refine w_aload_n (i := 0) hX dL_law_1376 rfl rfl ?_
    refine w_iload hX dL_law_1377 rfl ?_
    refine w_iconst hX dL_law_1379 kI_3 ?_
    refine w_iaddN hX dL_law_1380 ?_
    refine w_sld hX hC (vp_in_nI (by omega) (by omega)) dL_law_1381 ?_
    refine w_aload_n (i := 0) hX dL_law_1382 rfl rfl ?_
    refine w_iload hX dL_law_1383 rfl ?_
    refine w_iconst hX dL_law_1385 kI_4 ?_
    refine w_iaddN hX dL_law_1386 ?_
    refine w_sld hX hC (vp_in_nI (by omega) (by omega)) dL_law_1387 ?_
    refine w_callVI (As := [.int (xs (nI (i + 1)).toNatClampNeg), .int (xs (nI (i + 2)).toNatClampNeg), .int (xs (nI (i + 3)).toNatClampNeg), .int (xs (nI (i + 4)).toNatClampNeg)]) (rest := []) (ci := 9) (o := 57) (k2 := k) (n2 := n) hX dL_law_1388 (s_m_deed Γ ν1 57 B g.2.1.1 (xs (nI (i + 1)).toNatClampNeg) (xs (nI (i + 2)).toNatClampNeg) (xs (nI (i + 3)).toNatClampNeg) (xs (nI (i + 4)).toNatClampNeg)) okX9_deed (ltb rfl) (mod_s g.2.1.1.1.1) ml_RL_142 imX9_deed seX9_deed rfl (leb rfl) (leb rfl) (Nat.zero_add _) (Nat.zero_add _) (fun r9 ν2 hq9 => ?_)
    obtain ⟨hr9, hm2⟩ := hq9; rw [ha] at hr9 hm2; rw [hr9]; clear hr9 r9
    have l2 : LI ν2 b c B s k9 := by rw [hm2]; exact g.th
    refine w_top (y := nI 0) rfl ?_
    refine w_istore (l2 := [some (.ref scr), some (.ref 0), some (.ref 57), some (.ref 80), some (.int (nI i)), some (.int (nI 1)), some (.int (nI 0))]) hX dL_law_1391 (ltb rfl) rfl rfl ?_
    refine w_aload_n (i := 2) hX dL_law_1393 rfl rfl ?_
    refine w_callVI (As := []) (rest := []) (ci := 9) (o := 57) (k2 := k) (n2 := n) hX dL_law_1394 (s_m_thrown Γ ν2 57 l2.2.1.1.1.1) okX9_thrown (ltb rfl) (mod_s l2.2.1.1.1.1) ml_RL_52 imX9_thrown seX9_thrown rfl (leb rfl) (leb rfl) (Nat.zero_add _) (Nat.zero_add _) (fun r9 ν3 hq9 => ?_)
    obtain ⟨hr9, hm3⟩ := hq9; rw [hr9, hm3]; clear hr9 hm3 r9
    refine w_top (y := nI 1) (by rw [hm2, gI_same]; rfl) ?_
    refine w_iload hX dL_law_1397 rfl ?_
    refine wn_icmp_eq (tgt := 1404) hX dL_law_1399 (by decide) (by omega) (by omega) (fun c1 => ?_) (fun c1 => ?_)
    · refine w_iload hX dL_law_1404 rfl ?_
      refine wn_if_ne (tgt := 1421) hX dL_law_1406 (by decide) (by omega) (fun c2 => ?_) (fun c2 => ?_)
      · refine w_goto (tgt := 1551) hX dL_law_1421 (by decide) ?_
        refine w_sub (l2 := [some (.ref scr), some (.ref 0), some (.ref 57), some (.ref 80), some (.int (nI i)), none, none]) (by simp [lsub]) (leb rfl) ?_
        exact kk _ ⟨_, _, _, _, _, l2⟩
      · exact absurd c2 (by decide)
    · exact absurd c1 (by decide)
  · rw [ha] at hq9; obtain ⟨hr9, hm1⟩ := hq9; rw [hr9]; clear hr9 r9
    have g : LI ν1 b c B s k9 := by rw [hm1]; exact h.out
    refine w_istore (l2 := [some (.ref scr), some (.ref 0), some (.ref 57), some (.ref 80), some (.int (nI i)), some (.int (nI 0)), none]) hX dL_law_1361 (ltb rfl) rfl rfl ?_
    refine w_aload_n (i := 2) hX dL_law_1363 rfl rfl ?_
    refine w_aload_n (i := 0) hX dL_law_1364 rfl rfl ?_
    refine w_iload hX dL_law_1365 rfl ?_
    refine w_iconst hX dL_law_1367 kI_1 ?_
    refine w_iaddN hX dL_law_1368 ?_
    refine w_sld hX hC (vp_in_nI (by omega) (by omega)) dL_law_1369 ?_
    refine w_aload_n (i := 0) hX dL_law_1370 rfl rfl ?_
    refine w_iload hX dL_law_1371 rfl ?_
    refine w_iconst hX dL_law_1373 kI_2 ?_
    refine w_iaddN hX dL_law_1374 ?_
    refine w_sld hX hC (vp_in_nI (by omega) (by omega)) dL_law_1375 ?_
    refine w_aload_n (i := 0) hX dL_law_1376 rfl rfl ?_
    refine w_iload hX dL_law_1377 rfl ?_
    refine w_iconst hX dL_law_1379 kI_3 ?_
    refine w_iaddN hX dL_law_1380 ?_
    refine w_sld hX hC (vp_in_nI (by omega) (by omega)) dL_law_1381 ?_
    refine w_aload_n (i := 0) hX dL_law_1382 rfl rfl ?_
    refine w_iload hX dL_law_1383 rfl ?_
    refine w_iconst hX dL_law_1385 kI_4 ?_
    refine w_iaddN hX dL_law_1386 ?_
    refine w_sld hX hC (vp_in_nI (by omega) (by omega)) dL_law_1387 ?_
    refine w_callVI (As := [.int (xs (nI (i + 1)).toNatClampNeg), .int (xs (nI (i + 2)).toNatClampNeg), .int (xs (nI (i + 3)).toNatClampNeg), .int (xs (nI (i + 4)).toNatClampNeg)]) (rest := []) (ci := 9) (o := 57) (k2 := k) (n2 := n) hX dL_law_1388 (s_m_deed Γ ν1 57 B g.2.1.1 (xs (nI (i + 1)).toNatClampNeg) (xs (nI (i + 2)).toNatClampNeg) (xs (nI (i + 3)).toNatClampNeg) (xs (nI (i + 4)).toNatClampNeg)) okX9_deed (ltb rfl) (mod_s g.2.1.1.1.1) ml_RL_142 imX9_deed seX9_deed rfl (leb rfl) (leb rfl) (Nat.zero_add _) (Nat.zero_add _) (fun r9 ν2 hq9 => ?_)
    obtain ⟨hr9, hm2⟩ := hq9; rw [ha] at hr9 hm2; rw [hr9]; clear hr9 r9
    have l2 : LI ν2 b c B s k9 := by rw [hm2]; exact g.th
    refine w_top (y := v) rfl ?_
    refine w_istore (l2 := [some (.ref scr), some (.ref 0), some (.ref 57), some (.ref 80), some (.int (nI i)), some (.int (nI 0)), some (.int v)]) hX dL_law_1391 (ltb rfl) rfl rfl ?_
    refine w_aload_n (i := 2) hX dL_law_1393 rfl rfl ?_
    refine w_callVI (As := []) (rest := []) (ci := 9) (o := 57) (k2 := k) (n2 := n) hX dL_law_1394 (s_m_thrown Γ ν2 57 l2.2.1.1.1.1) okX9_thrown (ltb rfl) (mod_s l2.2.1.1.1.1) ml_RL_52 imX9_thrown seX9_thrown rfl (leb rfl) (leb rfl) (Nat.zero_add _) (Nat.zero_add _) (fun r9 ν3 hq9 => ?_)
    obtain ⟨hr9, hm3⟩ := hq9; rw [hr9, hm3]; clear hr9 hm3 r9
    refine w_top (y := nI 0) (by rw [hm2, gI_same]; rfl) ?_
    refine w_iload hX dL_law_1397 rfl ?_
    refine wn_icmp_eq (tgt := 1404) hX dL_law_1399 (by decide) (by omega) (by omega) (fun c3 => ?_) (fun c3 => ?_)
    · refine w_iload hX dL_law_1404 rfl ?_
      refine wn_if_ne (tgt := 1421) hX dL_law_1406 (by decide) (by omega) (fun c4 => ?_) (fun c4 => ?_)
      · exact absurd c4 (by decide)
      · refine w_aload_n (i := 3) hX dL_law_1409 rfl rfl ?_
        refine w_iconst hX dL_law_1410 kI_0 ?_
        refine w_laldN hX dL_law_1411 l2.2.2.2.2 (by omega) (by omega) ?_
        refine w_topL (y := v.toInt64) (by rw [hm2, gL_sI, hm1, gL_same]) ?_
        refine w_iload hX dL_law_1412 rfl ?_
        refine w_i2l hX dL_law_1414 ?_
        refine w_lcmp hX dL_law_1415 ?_
        refine w_top (y := nI 0) (cmp_self _) ?_
        refine wn_if_eq (tgt := 1421) hX dL_law_1416 (by decide) (by omega) (fun c5 => ?_) (fun c5 => ?_)
        · refine w_goto (tgt := 1551) hX dL_law_1421 (by decide) ?_
          refine w_sub (l2 := [some (.ref scr), some (.ref 0), some (.ref 57), some (.ref 80), some (.int (nI i)), none, none]) (by simp [lsub]) (leb rfl) ?_
          exact kk _ ⟨_, _, _, _, _, l2⟩
        · exact absurd c5 (by decide)
    · exact absurd c3 (by decide)
