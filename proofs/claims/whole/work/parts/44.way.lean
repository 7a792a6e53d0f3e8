/-- a told way; the shortest way as the reference has it (100000000: none) -/
def wy (B : Nat → Nat) (x y : Nat) : Nat := B (76 + 3 * x + y)
def wyF (B : Nat → Nat) (x y : Nat) : Nat := if x = y then 0 else
  let n := if 0 < wy B x y then wy B x y else 100000000
  let o := if 0 < wy B x (3 - x - y) ∧ 0 < wy B (3 - x - y) y then wy B x (3 - x - y) + wy B (3 - x - y) y else 100000000
  if o < n then o else n
def wyO (B : Nat → Nat) (x y : Nat) : Option Nat := if wyF B x y < 100000000 then some (wyF B x y) else none
/-- the class's: over the first k towns -/
def swy (B : Nat → Nat) (x y : Nat) : Nat → Option Nat
  | 0 => if 0 < wy B x y then some (wy B x y) else none
  | k + 1 => if 0 < wy B x k ∧ 0 < wy B k y then (match swy B x y k with
    | none => some (wy B x k + wy B k y)
    | some s => some (if wy B x k + wy B k y < s then wy B x k + wy B k y else s)) else swy B x y k
theorem wy_le {B : Nat → Nat} (h : WB B) {x y : Nat} (hx : x < 3) (hy : y < 3) : wy B x y ≤ 9999 := (h.2.1 x y hx hy).1
theorem wy_0 {B : Nat → Nat} (h : WB B) {x y : Nat} (hx : x < 3) (hy : y < 3) (h0 : x = y ∨ B 0 ≤ x ∨ B 0 ≤ y) : wy B x y = 0 := (h.2.1 x y hx hy).2.2 h0
theorem swy_le {B : Nat → Nat} (h : WB B) {x y : Nat} (hx : x < 3) (hy : y < 3) : ∀ k, k ≤ 3 → ∀ v, swy B x y k = some v → v ≤ 20000 := by
  intro k
  induction k with
  | zero =>
    intro _ v hv
    have := wy_le h hx hy
    simp only [swy] at hv
    split at hv
    · cases hv; omega
    · cases hv
  | succ k ih =>
    intro hk v hv
    have h1 := wy_le h hx (show k < 3 by omega)
    have h2 := wy_le h (show k < 3 by omega) hy
    simp only [swy] at hv
    split at hv
    · cases hs : swy B x y k with
      | none => rw [hs] at hv; cases hv; omega
      | some s =>
        rw [hs] at hv
        have := ih (by omega) s hs
        simp only [Option.some.injEq] at hv
        split at hv <;> omega
    · exact ih (by omega) v hv
theorem swy_eq {B : Nat → Nat} (h : WB B) {x y : Nat} (hx : x < B 0) (hy : y < B 0) (hne : x ≠ y) : swy B x y (B 0) = wyO B x y := by
  have h3 : B 0 ≤ 3 := h.1.1
  have d0 : ∀ k, k < 3 → wy B k k = 0 := fun k hk => wy_0 h hk hk (Or.inl rfl)
  have le : ∀ i j, i < 3 → j < 3 → wy B i j ≤ 9999 := fun i j hi hj => wy_le h hi hj
  have z : ∀ i j, i < 3 → j < 3 → (B 0 ≤ i ∨ B 0 ≤ j) → wy B i j = 0 := fun i j hi hj h0 => wy_0 h hi hj (Or.inr h0)
  have hB : B 0 = 2 ∨ B 0 = 3 := by omega
  have l01 := le 0 1 (by omega) (by omega)
  have l02 := le 0 2 (by omega) (by omega)
  have l12 := le 1 2 (by omega) (by omega)
  have l10 := le 1 0 (by omega) (by omega)
  have l20 := le 2 0 (by omega) (by omega)
  have l21 := le 2 1 (by omega) (by omega)
  have d00 := d0 0 (by omega)
  have d11 := d0 1 (by omega)
  have d22 := d0 2 (by omega)
  rcases hB with hB | hB
  · have z02 := z 0 2 (by omega) (by omega) (by omega)
    have z12 := z 1 2 (by omega) (by omega) (by omega)
    have z20 := z 2 0 (by omega) (by omega) (by omega)
    have z21 := z 2 1 (by omega) (by omega) (by omega)
    rw [hB] at hx hy ⊢
    have hxy : (x = 0 ∧ y = 1) ∨ (x = 1 ∧ y = 0) := by omega
    rcases hxy with ⟨rfl, rfl⟩ | ⟨rfl, rfl⟩
    · simp [swy, wyO, wyF, d00, d11, z02]
      by_cases h1 : 0 < wy B 0 1
      · simp [h1, show ¬ 100000000 < wy B 0 1 by omega]; omega
      · simp [h1]
    · simp [swy, wyO, wyF, d00, d11, z12]
      by_cases h1 : 0 < wy B 1 0
      · simp [h1, show ¬ 100000000 < wy B 1 0 by omega]; omega
      · simp [h1]
  · rw [hB] at hx hy ⊢
    have hxy : (x = 0 ∧ y = 1) ∨ (x = 1 ∧ y = 0) ∨ (x = 0 ∧ y = 2) ∨ (x = 2 ∧ y = 0) ∨ (x = 1 ∧ y = 2) ∨ (x = 2 ∧ y = 1) := by omega
    have core : ∀ (n o p : Nat), n ≤ 9999 → o ≤ 9999 → p ≤ 9999 → (if 0 < o ∧ 0 < p then (match (if 0 < n then some n else none : Option Nat) with
        | none => some (o + p)
        | some s => some (if o + p < s then o + p else s)) else (if 0 < n then some n else none)) = (if (if (if 0 < o ∧ 0 < p then o + p else 100000000) < (if 0 < n then n else 100000000) then (if 0 < o ∧ 0 < p then o + p else 100000000) else (if 0 < n then n else 100000000)) < 100000000 then some (if (if 0 < o ∧ 0 < p then o + p else 100000000) < (if 0 < n then n else 100000000) then (if 0 < o ∧ 0 < p then o + p else 100000000) else (if 0 < n then n else 100000000)) else none) := by
      intro n o p hn ho hp
      by_cases h1 : 0 < n <;> by_cases h2 : 0 < o ∧ 0 < p
      · simp only [h1, h2, if_true, and_self]
        by_cases h4 : o + p < n
        · simp only [h4, if_true]; rw [if_pos (by omega)]
        · simp only [h4, if_false]; rw [if_pos (by omega)]
      · simp only [h1, if_true, if_neg h2]
        rw [if_neg (by omega : ¬ 100000000 < n), if_pos (by omega)]
      · simp only [h1, if_false, if_pos h2]
        rw [if_pos (by omega : o + p < 100000000), if_pos (by omega)]
      · simp only [h1, if_false, if_neg h2]
        simp
    rcases hxy with ⟨rfl, rfl⟩ | ⟨rfl, rfl⟩ | ⟨rfl, rfl⟩ | ⟨rfl, rfl⟩ | ⟨rfl, rfl⟩ | ⟨rfl, rfl⟩
    · have := core _ _ _ l01 l02 l21
      simpa [swy, wyO, wyF, d00, d11, d22] using this
    · have := core _ _ _ l10 l12 l20
      simpa [swy, wyO, wyF, d00, d11, d22] using this
    · have := core _ _ _ l02 l01 l12
      simpa [swy, wyO, wyF, d00, d11, d22] using this
    · have := core _ _ _ l20 l21 l10
      simpa [swy, wyO, wyF, d00, d11, d22] using this
    · have := core _ _ _ l12 l10 l02
      simpa [swy, wyO, wyF, d00, d11, d22] using this
    · have := core _ _ _ l21 l20 l01
      simpa [swy, wyO, wyF, d00, d11, d22] using this
theorem wyO_0 {B : Nat → Nat} {x : Nat} : wyO B x x = some 0 := by simp [wyO, wyF]
def A_way (B : Nat → Nat) (x y : Int32) : Int32 := if (isT B x && isT B y) = true then oI (wyO B (tN x) (tN y)) else -1
set_option maxHeartbeats 1000000 in
theorem s_b_hasWay (Γ : Gm) (μ : Mem) (b : Nat) (B : Nat → Nat) (hR : Rb μ b B) (hW : WB B) (x y : Nat) (hx : x < 3) (hy : y < 3) : SpI Γ MX0_hasWay 0 0 0 [.ref b, .int (nI x), .int (nI y)] μ (fun r μ2 => r = bI (decide (0 < wy B x y)) ∧ μ2 = μ) := by
  refine SpI.of okX0_hasWay rfl [some (.ref b), some (.int (nI x)), some (.int (nI y))] ⟨rfl, rfl, rfl, trivial⟩ (leb rfl) (leb rfl) (fun X hX hE hnm => ?_)
  refine w_aload_n (i := 0) hX dX0_hasWay_0 rfl rfl ?_
  refine w_getR (q := b + 2) hX dX0_hasWay_1 fo_RX0_17 rfl (bk_s hR.1) (bk_r1 hR.1) ?_
  refine w_iload_n (i := 1) hX dX0_hasWay_4 rfl rfl ?_
  refine w_iconst hX dX0_hasWay_5 kI_3 ?_
  refine w_imulN hX dX0_hasWay_6 ?_
  refine w_iload_n (i := 2) hX dX0_hasWay_7 rfl rfl ?_
  refine w_iaddN hX dX0_hasWay_8 ?_
  refine w_ialdN hX dX0_hasWay_9 (bk_a2 hR.1) (by omega) (by omega) ?_
  refine w_top (y := nI (B (76 + 3 * x + y))) (by rw [hR.2.2.2.1 _ (by omega)]; congr 2; omega) ?_
  refine wn_if_le (tgt := 17) hX dX0_hasWay_10 (by decide) (by have := wy_le hW hx hy; unfold wy at this; omega) (fun c1 => ?_) (fun c1 => ?_)
  · refine w_iconst hX dX0_hasWay_17 kI_0 ?_
    exact w_iret hX hE dX0_hasWay_18 (Or.inl rfl) rfl ⟨bI_2 (by unfold wy; simp only [decide_eq_true_eq, decide_eq_false_iff_not]; omega), rfl⟩
  · refine w_iconst hX dX0_hasWay_13 kI_1 ?_
    refine w_goto (tgt := 18) hX dX0_hasWay_14 (by decide) ?_
    exact w_iret hX hE dX0_hasWay_18 (Or.inl rfl) rfl ⟨bI_1 (by unfold wy; simp only [decide_eq_true_eq, decide_eq_false_iff_not]; omega), rfl⟩
set_option maxHeartbeats 1000000 in
theorem s_b_way (Γ : Gm) (μ : Mem) (b : Nat) (B : Nat → Nat) (hR : Rb μ b B) (hW : WB B) (x y : Nat) (hx : x < B 0) (hy : y < B 0) : SpI Γ MX0_shortestWay 1 0 0 [.ref b, .int (nI x), .int (nI y)] μ (fun r μ2 => r = oI (wyO B x y) ∧ μ2 = μ) := by
  refine SpI.of okX0_shortestWay rfl [some (.ref b), some (.int (nI x)), some (.int (nI y)), none, none, none] ⟨rfl, rfl, rfl, trivial⟩ (leb rfl) (leb rfl) (fun X hX hE hnm => ?_)
  have hT := hW.1.1
  have loop : ∀ k, k ≤ B 0 → x ≠ y → WP Γ X 0 0 34 [some (.ref b), some (.int (nI x)), some (.int (nI y)), some (.int (oI (swy B x y k))), some (.int (nI k)), none] [] μ := by
    refine loopU (B 0) ?_
    intro k hk ih hne
    have hw1 : k < 3 → wy B x k ≤ 9999 := fun h => wy_le hW (by omega) h
    have hw2 : k < 3 → wy B k y ≤ 9999 := fun h => wy_le hW h (by omega)
    have hsl := swy_le hW (show x < 3 by omega) (show y < 3 by omega) k (by omega)
    refine w_iload hX dX0_shortestWay_34 rfl ?_
    refine w_aload_n (i := 0) hX dX0_shortestWay_36 rfl rfl ?_
    refine w_getI hX dX0_shortestWay_37 fo_RX0_54 rfl (bk_s hR.1) ?_
    refine w_top (y := nI (B 0)) hR.2.1 ?_
    refine wn_icmp_ge (tgt := 111) hX dX0_shortestWay_40 (by decide) (by omega) (by omega) (fun c1 => ?_) (fun c1 => ?_)
    · refine w_iload_n (i := 3) hX dX0_shortestWay_111 rfl rfl ?_
      exact w_iret hX hE dX0_shortestWay_112 (Or.inl rfl) rfl ⟨by rw [show k = B 0 by omega, swy_eq hW hx hy hne], rfl⟩
    · refine w_aload_n (i := 0) hX dX0_shortestWay_43 rfl rfl ?_
      refine w_iload_n (i := 1) hX dX0_shortestWay_44 rfl rfl ?_
      refine w_iload hX dX0_shortestWay_45 rfl ?_
      refine w_callVI (As := [.int (nI x), .int (nI k)]) (rest := []) (ci := 0) (o := b) (k2 := 0) (n2 := 0) hX dX0_shortestWay_47 (s_b_hasWay Γ μ b B hR hW x k (by omega) (by omega)) okX0_hasWay (ltb rfl) (bk_s hR.1) ml_RX0_75 imX0_hasWay seX0_hasWay rfl (leb rfl) (leb rfl) rfl rfl (fun r9 μ9 hq9 => ?_)
      obtain ⟨hr9, hm9⟩ := hq9; rw [hr9, hm9]; clear hr9 hm9 r9 μ9
      refine wb_eq (tgt := 105) hX dX0_shortestWay_50 (by decide) (fun c2 => ?_) (fun c2 => ?_)
      · refine w_iincN (w := 1) (l2 := [some (.ref b), some (.int (nI x)), some (.int (nI y)), some (.int (oI (swy B x y k))), some (.int (nI (k + 1))), none]) hX dX0_shortestWay_105 rfl kI_1 rfl rfl ?_
        refine w_goto (tgt := 34) hX dX0_shortestWay_108 (by decide) ?_
        have e9 : swy B x y k = swy B x y (k + 1) := by simp only [swy]; rw [if_neg (by simp only [decide_eq_false_iff_not] at *; omega)]
        rw [e9]
        exact ih (by omega) hne
      · refine w_aload_n (i := 0) hX dX0_shortestWay_53 rfl rfl ?_
        refine w_iload hX dX0_shortestWay_54 rfl ?_
        refine w_iload_n (i := 2) hX dX0_shortestWay_56 rfl rfl ?_
        refine w_callVI (As := [.int (nI k), .int (nI y)]) (rest := []) (ci := 0) (o := b) (k2 := 0) (n2 := 0) hX dX0_shortestWay_57 (s_b_hasWay Γ μ b B hR hW k y (by omega) (by omega)) okX0_hasWay (ltb rfl) (bk_s hR.1) ml_RX0_75 imX0_hasWay seX0_hasWay rfl (leb rfl) (leb rfl) rfl rfl (fun r9 μ9 hq9 => ?_)
        obtain ⟨hr9, hm9⟩ := hq9; rw [hr9, hm9]; clear hr9 hm9 r9 μ9
        refine wb_eq (tgt := 105) hX dX0_shortestWay_60 (by decide) (fun c3 => ?_) (fun c3 => ?_)
        · refine w_iincN (w := 1) (l2 := [some (.ref b), some (.int (nI x)), some (.int (nI y)), some (.int (oI (swy B x y k))), some (.int (nI (k + 1))), none]) hX dX0_shortestWay_105 rfl kI_1 rfl rfl ?_
          refine w_goto (tgt := 34) hX dX0_shortestWay_108 (by decide) ?_
          have e9 : swy B x y k = swy B x y (k + 1) := by simp only [swy]; rw [if_neg (by simp only [decide_eq_false_iff_not] at *; omega)]
          rw [e9]
          exact ih (by omega) hne
        · refine w_aload_n (i := 0) hX dX0_shortestWay_63 rfl rfl ?_
          refine w_getR (q := b + 2) hX dX0_shortestWay_64 fo_RX0_17 rfl (bk_s hR.1) (bk_r1 hR.1) ?_
          refine w_iload_n (i := 1) hX dX0_shortestWay_67 rfl rfl ?_
          refine w_iconst hX dX0_shortestWay_68 kI_3 ?_
          refine w_imulN hX dX0_shortestWay_69 ?_
          refine w_iload hX dX0_shortestWay_70 rfl ?_
          refine w_iaddN hX dX0_shortestWay_72 ?_
          refine w_ialdN hX dX0_shortestWay_73 (bk_a2 hR.1) (by omega) (by omega) ?_
          refine w_top (y := nI (wy B x k)) (by rw [hR.2.2.2.1 _ (by omega)]; unfold wy; congr 2; omega) ?_
          refine w_aload_n (i := 0) hX dX0_shortestWay_74 rfl rfl ?_
          refine w_getR (q := b + 2) hX dX0_shortestWay_75 fo_RX0_17 rfl (bk_s hR.1) (bk_r1 hR.1) ?_
          refine w_iload hX dX0_shortestWay_78 rfl ?_
          refine w_iconst hX dX0_shortestWay_80 kI_3 ?_
          refine w_imulN hX dX0_shortestWay_81 ?_
          refine w_iload_n (i := 2) hX dX0_shortestWay_82 rfl rfl ?_
          refine w_iaddN hX dX0_shortestWay_83 ?_
          refine w_ialdN hX dX0_shortestWay_84 (bk_a2 hR.1) (by omega) (by omega) ?_
          refine w_top (y := nI (wy B k y)) (by rw [hR.2.2.2.1 _ (by omega)]; unfold wy; congr 2; omega) ?_
          refine w_iaddN hX dX0_shortestWay_85 ?_
          refine w_istore (l2 := [some (.ref b), some (.int (nI x)), some (.int (nI y)), some (.int (oI (swy B x y k))), some (.int (nI k)), some (.int (nI (wy B x k + (wy B k y))))]) hX dX0_shortestWay_86 (ltb rfl) rfl rfl ?_
          refine w_iload_n (i := 3) hX dX0_shortestWay_88 rfl rfl ?_
          refine w_iconst hX dX0_shortestWay_89 kI_m1 ?_
          refine wc_icmp_ne (tgt := 98) hX dX0_shortestWay_90 (by decide) (fun c4 => ?_) (fun c4 => ?_)
          · refine w_iload_n (i := 3) hX dX0_shortestWay_98 rfl rfl ?_
            refine w_iload hX dX0_shortestWay_99 rfl ?_
            refine w_min hX dX0_shortestWay_101 ml_RX0_79 (leb rfl) (leb rfl) ?_
            refine w_istore_n (i := 3) (l2 := [some (.ref b), some (.int (nI x)), some (.int (nI y)), some (.int (if (nI (wy B x k + (wy B k y))) < (oI (swy B x y k)) then (nI (wy B x k + (wy B k y))) else (oI (swy B x y k)))), some (.int (nI k)), some (.int (nI (wy B x k + (wy B k y))))]) hX dX0_shortestWay_104 rfl (ltb rfl) rfl rfl ?_
            refine w_iincN (w := 1) (l2 := [some (.ref b), some (.int (nI x)), some (.int (nI y)), some (.int (if (nI (wy B x k + (wy B k y))) < (oI (swy B x y k)) then (nI (wy B x k + (wy B k y))) else (oI (swy B x y k)))), some (.int (nI (k + 1))), some (.int (nI (wy B x k + (wy B k y))))]) hX dX0_shortestWay_105 rfl kI_1 rfl rfl ?_
            refine w_goto (tgt := 34) hX dX0_shortestWay_108 (by decide) ?_
            have e9 : (if (nI (wy B x k + (wy B k y))) < (oI (swy B x y k)) then (nI (wy B x k + (wy B k y))) else (oI (swy B x y k))) = oI (swy B x y (k + 1)) := by
              simp only [decide_eq_true_eq] at c2 c3
              simp only [swy]; rw [if_pos (show 0 < wy B x k ∧ 0 < wy B k y from ⟨c2, c3⟩)]
              cases hs9 : swy B x y k with
              | none => rw [hs9] at c4; exact absurd rfl c4
              | some v9 =>
                have h8 := hsl v9 hs9
                show (if nI (wy B x k + wy B k y) < nI v9 then nI (wy B x k + wy B k y) else nI v9) = nI (if wy B x k + wy B k y < v9 then wy B x k + wy B k y else v9)
                have h7 := nI_ltI (a := wy B x k + wy B k y) (b := v9) (by have := hw1 (by omega); have := hw2 (by omega); omega) (by omega)
                by_cases h6 : wy B x k + wy B k y < v9
                · rw [if_pos h6, if_pos (h7.mpr h6)]
                · rw [if_neg h6, if_neg (fun e => h6 (h7.mp e))]
            rw [e9]
            refine w_sub (l2 := [some (.ref b), some (.int (nI x)), some (.int (nI y)), some (.int (oI (swy B x y (k + 1)))), some (.int (nI (k + 1))), none]) (by simp [lsub]) (leb rfl) ?_
            exact ih (by omega) hne
          · refine w_iload hX dX0_shortestWay_93 rfl ?_
            refine w_goto (tgt := 104) hX dX0_shortestWay_95 (by decide) ?_
            refine w_istore_n (i := 3) (l2 := [some (.ref b), some (.int (nI x)), some (.int (nI y)), some (.int (nI (wy B x k + (wy B k y)))), some (.int (nI k)), some (.int (nI (wy B x k + (wy B k y))))]) hX dX0_shortestWay_104 rfl (ltb rfl) rfl rfl ?_
            refine w_iincN (w := 1) (l2 := [some (.ref b), some (.int (nI x)), some (.int (nI y)), some (.int (nI (wy B x k + (wy B k y)))), some (.int (nI (k + 1))), some (.int (nI (wy B x k + (wy B k y))))]) hX dX0_shortestWay_105 rfl kI_1 rfl rfl ?_
            refine w_goto (tgt := 34) hX dX0_shortestWay_108 (by decide) ?_
            have e9 : (nI (wy B x k + (wy B k y))) = oI (swy B x y (k + 1)) := by
              simp only [decide_eq_true_eq] at c2 c3
              simp only [swy]; rw [if_pos (show 0 < wy B x k ∧ 0 < wy B k y from ⟨c2, c3⟩)]
              cases hs9 : swy B x y k with
              | none => rfl
              | some v9 => rw [hs9] at c4; exact absurd c4 (nI_m1 (by have := hsl v9 hs9; omega))
            rw [e9]
            refine w_sub (l2 := [some (.ref b), some (.int (nI x)), some (.int (nI y)), some (.int (oI (swy B x y (k + 1)))), some (.int (nI (k + 1))), none]) (by simp [lsub]) (leb rfl) ?_
            exact ih (by omega) hne
  refine w_iload_n (i := 1) hX dX0_shortestWay_0 rfl rfl ?_
  refine w_iload_n (i := 2) hX dX0_shortestWay_1 rfl rfl ?_
  refine wn_icmp_ne (tgt := 7) hX dX0_shortestWay_2 (by decide) (by omega) (by omega) (fun c5 => ?_) (fun c5 => ?_)
  · refine w_aload_n (i := 0) hX dX0_shortestWay_7 rfl rfl ?_
    refine w_iload_n (i := 1) hX dX0_shortestWay_8 rfl rfl ?_
    refine w_iload_n (i := 2) hX dX0_shortestWay_9 rfl rfl ?_
    refine w_callVI (As := [.int (nI x), .int (nI y)]) (rest := []) (ci := 0) (o := b) (k2 := 0) (n2 := 0) hX dX0_shortestWay_10 (s_b_hasWay Γ μ b B hR hW x y (by omega) (by omega)) okX0_hasWay (ltb rfl) (bk_s hR.1) ml_RX0_75 imX0_hasWay seX0_hasWay rfl (leb rfl) (leb rfl) rfl rfl (fun r9 μ9 hq9 => ?_)
    obtain ⟨hr9, hm9⟩ := hq9; rw [hr9, hm9]; clear hr9 hm9 r9 μ9
    refine wb_eq (tgt := 29) hX dX0_shortestWay_13 (by decide) (fun c6 => ?_) (fun c6 => ?_)
    · refine w_iconst hX dX0_shortestWay_29 kI_m1 ?_
      refine w_istore_n (i := 3) (l2 := [some (.ref b), some (.int (nI x)), some (.int (nI y)), some (.int ((-1 : Int32))), none, none]) hX dX0_shortestWay_30 rfl (ltb rfl) rfl rfl ?_
      refine w_iconst hX dX0_shortestWay_31 kI_0 ?_
      refine w_istore (l2 := [some (.ref b), some (.int (nI x)), some (.int (nI y)), some (.int ((-1 : Int32))), some (.int (nI 0)), none]) hX dX0_shortestWay_32 (ltb rfl) rfl rfl ?_
      have e9 : (-1 : Int32) = oI (swy B x y 0) := by simp only [decide_eq_false_iff_not] at c6; simp only [swy]; rw [if_neg c6]; rfl
      rw [e9]
      exact loop 0 (Nat.zero_le _) c5
    · refine w_aload_n (i := 0) hX dX0_shortestWay_16 rfl rfl ?_
      refine w_getR (q := b + 2) hX dX0_shortestWay_17 fo_RX0_17 rfl (bk_s hR.1) (bk_r1 hR.1) ?_
      refine w_iload_n (i := 1) hX dX0_shortestWay_20 rfl rfl ?_
      refine w_iconst hX dX0_shortestWay_21 kI_3 ?_
      refine w_imulN hX dX0_shortestWay_22 ?_
      refine w_iload_n (i := 2) hX dX0_shortestWay_23 rfl rfl ?_
      refine w_iaddN hX dX0_shortestWay_24 ?_
      refine w_ialdN hX dX0_shortestWay_25 (bk_a2 hR.1) (by omega) (by omega) ?_
      refine w_top (y := nI (wy B x y)) (by rw [hR.2.2.2.1 _ (by omega)]; unfold wy; congr 2; omega) ?_
      refine w_goto (tgt := 30) hX dX0_shortestWay_26 (by decide) ?_
      refine w_istore_n (i := 3) (l2 := [some (.ref b), some (.int (nI x)), some (.int (nI y)), some (.int (nI (wy B x y))), none, none]) hX dX0_shortestWay_30 rfl (ltb rfl) rfl rfl ?_
      refine w_iconst hX dX0_shortestWay_31 kI_0 ?_
      refine w_istore (l2 := [some (.ref b), some (.int (nI x)), some (.int (nI y)), some (.int (nI (wy B x y))), some (.int (nI 0)), none]) hX dX0_shortestWay_32 (ltb rfl) rfl rfl ?_
      have e9 : nI (wy B x y) = oI (swy B x y 0) := by simp only [decide_eq_true_eq] at c6; simp only [swy]; rw [if_pos c6]; rfl
      rw [e9]
      exact loop 0 (Nat.zero_le _) c5
  · refine w_iconst hX dX0_shortestWay_5 kI_0 ?_
    exact w_iret hX hE dX0_shortestWay_6 (Or.inl rfl) rfl ⟨by rw [c5, wyO_0]; rfl, rfl⟩
set_option maxHeartbeats 1000000 in
theorem s_x_way (Γ : Gm) (μ : Mem) (b c9 : Nat) (B : Nat → Nat) (hx : isX μ b c9) (hR : Rb μ b B) (hW : WB B) (x y : Int32) : SpI Γ MX8_way 2 0 0 [.ref 0, .int x, .int y] μ (fun r μ2 => r = A_way B x y ∧ μ2 = μ) := by
  refine SpI.of okX8_way rfl [some (.ref 0), some (.int x), some (.int y)] ⟨rfl, rfl, rfl, trivial⟩ (leb rfl) (leb rfl) (fun X hX hE hnm => ?_)
  refine w_iload_n (i := 1) hX dX8_way_0 rfl rfl ?_
  refine w_iconst hX dX8_way_1 kI_0 ?_
  refine w_aload_n (i := 0) hX dX8_way_2 rfl rfl ?_
  refine w_getR (q := b) hX dX8_way_3 fo_RX8_54 rfl hx.1 hx.2.2.2.2.2.2.2.1 ?_
  refine w_getI hX dX8_way_6 fo_RX8_191 rfl (bk_s hR.1) ?_
  refine w_top (y := nI (B 0)) hR.2.1 ?_
  refine w_iconst hX dX8_way_9 kI_1 ?_
  refine w_isub hX dX8_way_10 ?_
  refine w_callSI (As := [.int x, .int (nI 0), .int ((nI (B 0)) - (nI 1))]) (rest := []) (k2 := 0) (n2 := 0) hX dX8_way_11 (s_within Γ μ x (nI 0) (nI (B 0) - nI 1)) okX8_within ml_RX8_81 stX8_within rfl (leb rfl) (leb rfl) rfl rfl (fun r9 μ9 hq9 => ?_)
  obtain ⟨hr9, hm9⟩ := hq9; rw [hr9, hm9, isT_inR hW.1.1]; clear hr9 hm9 r9 μ9
  refine wb_eq (tgt := 34) hX dX8_way_14 (by decide) (fun hT => ?_) (fun hT => ?_)
  · refine w_iconst hX dX8_way_34 kI_m1 ?_
    exact w_iret hX hE dX8_way_35 (Or.inl rfl) rfl ⟨by simp [A_way, *], rfl⟩
  · refine w_iload_n (i := 2) hX dX8_way_17 rfl rfl ?_
    refine w_iconst hX dX8_way_18 kI_0 ?_
    refine w_aload_n (i := 0) hX dX8_way_19 rfl rfl ?_
    refine w_getR (q := b) hX dX8_way_20 fo_RX8_54 rfl hx.1 hx.2.2.2.2.2.2.2.1 ?_
    refine w_getI hX dX8_way_23 fo_RX8_191 rfl (bk_s hR.1) ?_
    refine w_top (y := nI (B 0)) hR.2.1 ?_
    refine w_iconst hX dX8_way_26 kI_1 ?_
    refine w_isub hX dX8_way_27 ?_
    refine w_callSI (As := [.int y, .int (nI 0), .int ((nI (B 0)) - (nI 1))]) (rest := []) (k2 := 0) (n2 := 0) hX dX8_way_28 (s_within Γ μ y (nI 0) (nI (B 0) - nI 1)) okX8_within ml_RX8_81 stX8_within rfl (leb rfl) (leb rfl) rfl rfl (fun r9 μ9 hq9 => ?_)
    obtain ⟨hr9, hm9⟩ := hq9; rw [hr9, hm9, isT_inR hW.1.1]; clear hr9 hm9 r9 μ9
    refine wb_ne (tgt := 36) hX dX8_way_31 (by decide) (fun hU => ?_) (fun hU => ?_)
    · have h1 := (isT_nI hW.1.1 hT).2; have h2 := (isT_nI hW.1.1 hU).2
      refine w_aload_n (i := 0) hX dX8_way_36 rfl rfl ?_
      refine w_getR (q := b) hX dX8_way_37 fo_RX8_54 rfl hx.1 hx.2.2.2.2.2.2.2.1 ?_
      refine w_iload_n (i := 1) hX dX8_way_40 rfl rfl ?_
      refine w_top (y := nI (tN x)) (isT_nI hW.1.1 hT).1 ?_
      refine w_iload_n (i := 2) hX dX8_way_41 rfl rfl ?_
      refine w_top (y := nI (tN y)) (isT_nI hW.1.1 hU).1 ?_
      refine w_callVI (As := [.int (nI (tN x)), .int (nI (tN y))]) (rest := []) (ci := 0) (o := b) (k2 := 0) (n2 := 0) hX dX8_way_42 (s_b_way Γ μ b B hR hW (tN x) (tN y) (by omega) (by omega)) okX0_shortestWay (ltb rfl) (bk_s hR.1) ml_RX8_194 imX0_shortestWay seX0_shortestWay rfl (leb rfl) (leb rfl) rfl rfl (fun r9 μ9 hq9 => ?_)
      obtain ⟨hr9, hm9⟩ := hq9; rw [hr9, hm9]; clear hr9 hm9 r9 μ9
      exact w_iret hX hE dX8_way_45 (Or.inl rfl) rfl ⟨by simp [A_way, *], rfl⟩
    · refine w_iconst hX dX8_way_34 kI_m1 ?_
      exact w_iret hX hE dX8_way_35 (Or.inl rfl) rfl ⟨by simp [A_way, *], rfl⟩
set_option maxHeartbeats 1000000 in
theorem s_m_wayOf (Γ : Gm) (μ : Mem) (m : Nat) (B : Nat → Nat) (hm : HM μ m B) (hW : WB B) (x y : Nat) (hx : x < 3) (hy : y < 3) : SpI Γ MX9_wayOf 0 0 0 [.ref m, .int (nI x), .int (nI y)] μ (fun r μ2 => r = nI (wyF B x y) ∧ μ2 = μ) := by
  refine SpI.of okX9_wayOf rfl [some (.ref m), some (.int (nI x)), some (.int (nI y)), none, none, none, none, none, none] ⟨rfl, rfl, rfl, trivial⟩ (leb rfl) (leb rfl) (fun X hX hE hnm => ?_)
  refine w_iload_n (i := 1) hX dX9_wayOf_0 rfl rfl ?_
  refine w_iload_n (i := 2) hX dX9_wayOf_1 rfl rfl ?_
  refine wn_icmp_ne (tgt := 7) hX dX9_wayOf_2 (by decide) (by omega) (by omega) (fun c1 => ?_) (fun c1 => ?_)
  · refine w_iconst hX dX9_wayOf_7 kI_3 ?_
    refine w_iload_n (i := 1) hX dX9_wayOf_8 rfl rfl ?_
    refine w_isubN hX dX9_wayOf_9 (by omega) ?_
    refine w_iload_n (i := 2) hX dX9_wayOf_10 rfl rfl ?_
    refine w_isubN hX dX9_wayOf_11 (by omega) ?_
    refine w_istore_n (i := 3) (l2 := [some (.ref m), some (.int (nI x)), some (.int (nI y)), some (.int (nI (3 - x - y))), none, none, none, none, none]) hX dX9_wayOf_12 rfl (ltb rfl) rfl rfl ?_
    have l1 := wy_le hW hx hy; have l2 := wy_le hW hx (show 3 - x - y < 3 by omega); have l3 := wy_le hW (show 3 - x - y < 3 by omega) hy
    refine w_aload_n (i := 0) hX dX9_wayOf_13 rfl rfl ?_
    refine w_getR (q := m + 6) hX dX9_wayOf_14 fo_RX9_73 rfl (mod_s hm.1.1) (mod_r10 hm.1.1) ?_
    refine w_bipush hX dX9_wayOf_17 kB_76 ?_
    refine w_iconst hX dX9_wayOf_19 kI_3 ?_
    refine w_iload_n (i := 1) hX dX9_wayOf_20 rfl rfl ?_
    refine w_imulN hX dX9_wayOf_21 ?_
    refine w_iaddN hX dX9_wayOf_22 ?_
    refine w_iload_n (i := 2) hX dX9_wayOf_23 rfl rfl ?_
    refine w_iaddN hX dX9_wayOf_24 ?_
    refine w_ialdN hX dX9_wayOf_25 (mod_a6 hm.1.1) (by omega) (by omega) ?_
    refine w_top (y := nI (wy B x y)) (by rw [(hm.1.2 _ (by omega)).1]; rfl) ?_
    refine w_istore (l2 := [some (.ref m), some (.int (nI x)), some (.int (nI y)), some (.int (nI (3 - x - y))), some (.int (nI (wy B x y))), none, none, none, none]) hX dX9_wayOf_26 (ltb rfl) rfl rfl ?_
    refine w_aload_n (i := 0) hX dX9_wayOf_28 rfl rfl ?_
    refine w_getR (q := m + 6) hX dX9_wayOf_29 fo_RX9_73 rfl (mod_s hm.1.1) (mod_r10 hm.1.1) ?_
    refine w_bipush hX dX9_wayOf_32 kB_76 ?_
    refine w_iconst hX dX9_wayOf_34 kI_3 ?_
    refine w_iload_n (i := 1) hX dX9_wayOf_35 rfl rfl ?_
    refine w_imulN hX dX9_wayOf_36 ?_
    refine w_iaddN hX dX9_wayOf_37 ?_
    refine w_iload_n (i := 3) hX dX9_wayOf_38 rfl rfl ?_
    refine w_iaddN hX dX9_wayOf_39 ?_
    refine w_ialdN hX dX9_wayOf_40 (mod_a6 hm.1.1) (by omega) (by omega) ?_
    refine w_top (y := nI (wy B x (3 - x - y))) (by rw [(hm.1.2 _ (by omega)).1]; rfl) ?_
    refine w_istore (l2 := [some (.ref m), some (.int (nI x)), some (.int (nI y)), some (.int (nI (3 - x - y))), some (.int (nI (wy B x y))), some (.int (nI (wy B x (3 - x - y)))), none, none, none]) hX dX9_wayOf_41 (ltb rfl) rfl rfl ?_
    refine w_aload_n (i := 0) hX dX9_wayOf_43 rfl rfl ?_
    refine w_getR (q := m + 6) hX dX9_wayOf_44 fo_RX9_73 rfl (mod_s hm.1.1) (mod_r10 hm.1.1) ?_
    refine w_bipush hX dX9_wayOf_47 kB_76 ?_
    refine w_iconst hX dX9_wayOf_49 kI_3 ?_
    refine w_iload_n (i := 3) hX dX9_wayOf_50 rfl rfl ?_
    refine w_imulN hX dX9_wayOf_51 ?_
    refine w_iaddN hX dX9_wayOf_52 ?_
    refine w_iload_n (i := 2) hX dX9_wayOf_53 rfl rfl ?_
    refine w_iaddN hX dX9_wayOf_54 ?_
    refine w_ialdN hX dX9_wayOf_55 (mod_a6 hm.1.1) (by omega) (by omega) ?_
    refine w_top (y := nI (wy B (3 - x - y) y)) (by rw [(hm.1.2 _ (by omega)).1]; rfl) ?_
    refine w_istore (l2 := [some (.ref m), some (.int (nI x)), some (.int (nI y)), some (.int (nI (3 - x - y))), some (.int (nI (wy B x y))), some (.int (nI (wy B x (3 - x - y)))), some (.int (nI (wy B (3 - x - y) y))), none, none]) hX dX9_wayOf_56 (ltb rfl) rfl rfl ?_
    refine w_iload hX dX9_wayOf_58 rfl ?_
    refine wn_if_le (tgt := 68) hX dX9_wayOf_60 (by decide) (by omega) (fun c2 => ?_) (fun c2 => ?_)
    · refine w_ldcw hX dX9_wayOf_68 ki_RX9_323 ?_
      refine w_top (y := nI 100000000) rfl ?_
      refine w_istore (l2 := [some (.ref m), some (.int (nI x)), some (.int (nI y)), some (.int (nI (3 - x - y))), some (.int (nI (wy B x y))), some (.int (nI (wy B x (3 - x - y)))), some (.int (nI (wy B (3 - x - y) y))), some (.int (nI 100000000)), none]) hX dX9_wayOf_71 (ltb rfl) rfl rfl ?_
      refine w_iload hX dX9_wayOf_73 rfl ?_
      refine wn_if_le (tgt := 91) hX dX9_wayOf_75 (by decide) (by omega) (fun c3 => ?_) (fun c3 => ?_)
      · refine w_ldcw hX dX9_wayOf_91 ki_RX9_323 ?_
        refine w_top (y := nI 100000000) rfl ?_
        refine w_istore (l2 := [some (.ref m), some (.int (nI x)), some (.int (nI y)), some (.int (nI (3 - x - y))), some (.int (nI (wy B x y))), some (.int (nI (wy B x (3 - x - y)))), some (.int (nI (wy B (3 - x - y) y))), some (.int (nI 100000000)), some (.int (nI 100000000))]) hX dX9_wayOf_94 (ltb rfl) rfl rfl ?_
        refine w_iload hX dX9_wayOf_96 rfl ?_
        refine w_iload hX dX9_wayOf_98 rfl ?_
        refine wn_icmp_ge (tgt := 108) hX dX9_wayOf_100 (by decide) (by omega) (by omega) (fun c4 => ?_) (fun c4 => ?_)
        · refine w_iload hX dX9_wayOf_108 rfl ?_
          exact w_iret hX hE dX9_wayOf_110 (Or.inl rfl) rfl ⟨by unfold wyF; rw [if_neg c1]; simp only [show wy B x y = wy B x y from rfl]; (repeat' split) <;> first | rfl | omega | (exfalso; omega), rfl⟩
        · exact absurd c4 (by decide)
      · refine w_iload hX dX9_wayOf_78 rfl ?_
        refine wn_if_le (tgt := 91) hX dX9_wayOf_80 (by decide) (by omega) (fun c5 => ?_) (fun c5 => ?_)
        · refine w_ldcw hX dX9_wayOf_91 ki_RX9_323 ?_
          refine w_top (y := nI 100000000) rfl ?_
          refine w_istore (l2 := [some (.ref m), some (.int (nI x)), some (.int (nI y)), some (.int (nI (3 - x - y))), some (.int (nI (wy B x y))), some (.int (nI (wy B x (3 - x - y)))), some (.int (nI (wy B (3 - x - y) y))), some (.int (nI 100000000)), some (.int (nI 100000000))]) hX dX9_wayOf_94 (ltb rfl) rfl rfl ?_
          refine w_iload hX dX9_wayOf_96 rfl ?_
          refine w_iload hX dX9_wayOf_98 rfl ?_
          refine wn_icmp_ge (tgt := 108) hX dX9_wayOf_100 (by decide) (by omega) (by omega) (fun c6 => ?_) (fun c6 => ?_)
          · refine w_iload hX dX9_wayOf_108 rfl ?_
            exact w_iret hX hE dX9_wayOf_110 (Or.inl rfl) rfl ⟨by unfold wyF; rw [if_neg c1]; simp only [show wy B x y = wy B x y from rfl]; (repeat' split) <;> first | rfl | omega | (exfalso; omega), rfl⟩
          · exact absurd c6 (by decide)
        · refine w_iload hX dX9_wayOf_83 rfl ?_
          refine w_iload hX dX9_wayOf_85 rfl ?_
          refine w_iaddN hX dX9_wayOf_87 ?_
          refine w_goto (tgt := 94) hX dX9_wayOf_88 (by decide) ?_
          refine w_istore (l2 := [some (.ref m), some (.int (nI x)), some (.int (nI y)), some (.int (nI (3 - x - y))), some (.int (nI (wy B x y))), some (.int (nI (wy B x (3 - x - y)))), some (.int (nI (wy B (3 - x - y) y))), some (.int (nI 100000000)), some (.int (nI (wy B x (3 - x - y) + (wy B (3 - x - y) y))))]) hX dX9_wayOf_94 (ltb rfl) rfl rfl ?_
          refine w_iload hX dX9_wayOf_96 rfl ?_
          refine w_iload hX dX9_wayOf_98 rfl ?_
          refine wn_icmp_ge (tgt := 108) hX dX9_wayOf_100 (by decide) (by omega) (by omega) (fun c7 => ?_) (fun c7 => ?_)
          · refine w_iload hX dX9_wayOf_108 rfl ?_
            exact w_iret hX hE dX9_wayOf_110 (Or.inl rfl) rfl ⟨by unfold wyF; rw [if_neg c1]; simp only [show wy B x y = wy B x y from rfl]; (repeat' split) <;> first | rfl | omega | (exfalso; omega), rfl⟩
          · refine w_iload hX dX9_wayOf_103 rfl ?_
            refine w_goto (tgt := 110) hX dX9_wayOf_105 (by decide) ?_
            exact w_iret hX hE dX9_wayOf_110 (Or.inl rfl) rfl ⟨by unfold wyF; rw [if_neg c1]; simp only [show wy B x y = wy B x y from rfl]; (repeat' split) <;> first | rfl | omega | (exfalso; omega), rfl⟩
    · refine w_iload hX dX9_wayOf_63 rfl ?_
      refine w_goto (tgt := 71) hX dX9_wayOf_65 (by decide) ?_
      refine w_istore (l2 := [some (.ref m), some (.int (nI x)), some (.int (nI y)), some (.int (nI (3 - x - y))), some (.int (nI (wy B x y))), some (.int (nI (wy B x (3 - x - y)))), some (.int (nI (wy B (3 - x - y) y))), some (.int (nI (wy B x y))), none]) hX dX9_wayOf_71 (ltb rfl) rfl rfl ?_
      refine w_iload hX dX9_wayOf_73 rfl ?_
      refine wn_if_le (tgt := 91) hX dX9_wayOf_75 (by decide) (by omega) (fun c8 => ?_) (fun c8 => ?_)
      · refine w_ldcw hX dX9_wayOf_91 ki_RX9_323 ?_
        refine w_top (y := nI 100000000) rfl ?_
        refine w_istore (l2 := [some (.ref m), some (.int (nI x)), some (.int (nI y)), some (.int (nI (3 - x - y))), some (.int (nI (wy B x y))), some (.int (nI (wy B x (3 - x - y)))), some (.int (nI (wy B (3 - x - y) y))), some (.int (nI (wy B x y))), some (.int (nI 100000000))]) hX dX9_wayOf_94 (ltb rfl) rfl rfl ?_
        refine w_iload hX dX9_wayOf_96 rfl ?_
        refine w_iload hX dX9_wayOf_98 rfl ?_
        refine wn_icmp_ge (tgt := 108) hX dX9_wayOf_100 (by decide) (by omega) (by omega) (fun c9 => ?_) (fun c9 => ?_)
        · refine w_iload hX dX9_wayOf_108 rfl ?_
          exact w_iret hX hE dX9_wayOf_110 (Or.inl rfl) rfl ⟨by unfold wyF; rw [if_neg c1]; simp only [show wy B x y = wy B x y from rfl]; (repeat' split) <;> first | rfl | omega | (exfalso; omega), rfl⟩
        · refine w_iload hX dX9_wayOf_103 rfl ?_
          refine w_goto (tgt := 110) hX dX9_wayOf_105 (by decide) ?_
          exact w_iret hX hE dX9_wayOf_110 (Or.inl rfl) rfl ⟨by unfold wyF; rw [if_neg c1]; simp only [show wy B x y = wy B x y from rfl]; (repeat' split) <;> first | rfl | omega | (exfalso; omega), rfl⟩
      · refine w_iload hX dX9_wayOf_78 rfl ?_
        refine wn_if_le (tgt := 91) hX dX9_wayOf_80 (by decide) (by omega) (fun c10 => ?_) (fun c10 => ?_)
        · refine w_ldcw hX dX9_wayOf_91 ki_RX9_323 ?_
          refine w_top (y := nI 100000000) rfl ?_
          refine w_istore (l2 := [some (.ref m), some (.int (nI x)), some (.int (nI y)), some (.int (nI (3 - x - y))), some (.int (nI (wy B x y))), some (.int (nI (wy B x (3 - x - y)))), some (.int (nI (wy B (3 - x - y) y))), some (.int (nI (wy B x y))), some (.int (nI 100000000))]) hX dX9_wayOf_94 (ltb rfl) rfl rfl ?_
          refine w_iload hX dX9_wayOf_96 rfl ?_
          refine w_iload hX dX9_wayOf_98 rfl ?_
          refine wn_icmp_ge (tgt := 108) hX dX9_wayOf_100 (by decide) (by omega) (by omega) (fun c11 => ?_) (fun c11 => ?_)
          · refine w_iload hX dX9_wayOf_108 rfl ?_
            exact w_iret hX hE dX9_wayOf_110 (Or.inl rfl) rfl ⟨by unfold wyF; rw [if_neg c1]; simp only [show wy B x y = wy B x y from rfl]; (repeat' split) <;> first | rfl | omega | (exfalso; omega), rfl⟩
          · refine w_iload hX dX9_wayOf_103 rfl ?_
            refine w_goto (tgt := 110) hX dX9_wayOf_105 (by decide) ?_
            exact w_iret hX hE dX9_wayOf_110 (Or.inl rfl) rfl ⟨by unfold wyF; rw [if_neg c1]; simp only [show wy B x y = wy B x y from rfl]; (repeat' split) <;> first | rfl | omega | (exfalso; omega), rfl⟩
        · refine w_iload hX dX9_wayOf_83 rfl ?_
          refine w_iload hX dX9_wayOf_85 rfl ?_
          refine w_iaddN hX dX9_wayOf_87 ?_
          refine w_goto (tgt := 94) hX dX9_wayOf_88 (by decide) ?_
          refine w_istore (l2 := [some (.ref m), some (.int (nI x)), some (.int (nI y)), some (.int (nI (3 - x - y))), some (.int (nI (wy B x y))), some (.int (nI (wy B x (3 - x - y)))), some (.int (nI (wy B (3 - x - y) y))), some (.int (nI (wy B x y))), some (.int (nI (wy B x (3 - x - y) + (wy B (3 - x - y) y))))]) hX dX9_wayOf_94 (ltb rfl) rfl rfl ?_
          refine w_iload hX dX9_wayOf_96 rfl ?_
          refine w_iload hX dX9_wayOf_98 rfl ?_
          refine wn_icmp_ge (tgt := 108) hX dX9_wayOf_100 (by decide) (by omega) (by omega) (fun c12 => ?_) (fun c12 => ?_)
          · refine w_iload hX dX9_wayOf_108 rfl ?_
            exact w_iret hX hE dX9_wayOf_110 (Or.inl rfl) rfl ⟨by unfold wyF; rw [if_neg c1]; simp only [show wy B x y = wy B x y from rfl]; (repeat' split) <;> first | rfl | omega | (exfalso; omega), rfl⟩
          · refine w_iload hX dX9_wayOf_103 rfl ?_
            refine w_goto (tgt := 110) hX dX9_wayOf_105 (by decide) ?_
            exact w_iret hX hE dX9_wayOf_110 (Or.inl rfl) rfl ⟨by unfold wyF; rw [if_neg c1]; simp only [show wy B x y = wy B x y from rfl]; (repeat' split) <;> first | rfl | omega | (exfalso; omega), rfl⟩
  · refine w_iconst hX dX9_wayOf_5 kI_0 ?_
    exact w_iret hX hE dX9_wayOf_6 (Or.inl rfl) rfl ⟨by unfold wyF; rw [if_pos c1], rfl⟩
theorem wyF_le {B : Nat → Nat} (h : WB B) {x y : Nat} (hx : x < 3) (hy : y < 3) : wyF B x y ≤ 100000000 := by
  by_cases hne : x = y
  · simp [wyF, hne]
  · have l1 := wy_le h hx hy
    unfold wyF
    rw [if_neg hne]
    simp only
    (repeat' split) <;> omega
set_option maxHeartbeats 1000000 in
theorem s_m_way (Γ : Gm) (μ : Mem) (m : Nat) (B : Nat → Nat) (hm : HM μ m B) (hW : WB B) (x y : Int32) : SpI Γ MX9_way 2 0 0 [.ref m, .int x, .int y] μ (fun r μ2 => r = A_way B x y ∧ μ2 = sI μ m 0 (nI 0)) := by
  refine SpI.of okX9_way rfl [some (.ref m), some (.int x), some (.int y), none] ⟨rfl, rfl, rfl, trivial⟩ (leb rfl) (leb rfl) (fun X hX hE hnm => ?_)
  refine w_aload_n (i := 0) hX dX9_way_0 rfl rfl ?_
  refine w_iconst hX dX9_way_1 kI_0 ?_
  refine w_putI hX dX9_way_2 fo_RX9_1 rfl rfl rfl rfl (mod_s hm.1.1) ?_
  refine w_aload_n (i := 0) hX dX9_way_5 rfl rfl ?_
  refine w_iload_n (i := 1) hX dX9_way_6 rfl rfl ?_
  refine w_callVI (As := [.int x]) (rest := []) (ci := 9) (o := m) (k2 := 0) (n2 := 0) hX dX9_way_7 (s_m_isTown Γ (sI μ m 0 (nI 0)) m B (hm.f (by omega)) x) okX9_isTown (ltb rfl) (mod_s hm.1.1) ml_RX9_267 imX9_isTown seX9_isTown rfl (leb rfl) (leb rfl) rfl rfl (fun r9 μ9 hq9 => ?_)
  obtain ⟨hr9, hm9⟩ := hq9; rw [hr9, hm9]; clear hr9 hm9 r9 μ9
  refine wb_eq (tgt := 30) hX dX9_way_10 (by decide) (fun hT => ?_) (fun hT => ?_)
  · refine w_ldcw hX dX9_way_30 ki_RX9_323 ?_
    refine w_top (y := nI 100000000) rfl ?_
    refine w_istore_n (i := 3) (l2 := [some (.ref m), some (.int x), some (.int y), some (.int (nI 100000000))]) hX dX9_way_33 rfl (ltb rfl) rfl rfl ?_
    refine w_iload_n (i := 3) hX dX9_way_34 rfl rfl ?_
    refine w_ldcw hX dX9_way_35 ki_RX9_323 ?_
    refine w_top (y := nI 100000000) rfl ?_
    refine wn_icmp_ge (tgt := 45) hX dX9_way_38 (by decide) (by omega) (by omega) (fun c2 => ?_) (fun c2 => ?_)
    · refine w_iconst hX dX9_way_45 kI_m1 ?_
      exact w_iret hX hE dX9_way_46 (Or.inl rfl) rfl ⟨by simp [A_way, *], rfl⟩
    · exact absurd c2 (by decide)
  · refine w_aload_n (i := 0) hX dX9_way_13 rfl rfl ?_
    refine w_iload_n (i := 2) hX dX9_way_14 rfl rfl ?_
    refine w_callVI (As := [.int y]) (rest := []) (ci := 9) (o := m) (k2 := 0) (n2 := 0) hX dX9_way_15 (s_m_isTown Γ (sI μ m 0 (nI 0)) m B (hm.f (by omega)) y) okX9_isTown (ltb rfl) (mod_s hm.1.1) ml_RX9_267 imX9_isTown seX9_isTown rfl (leb rfl) (leb rfl) rfl rfl (fun r9 μ9 hq9 => ?_)
    obtain ⟨hr9, hm9⟩ := hq9; rw [hr9, hm9]; clear hr9 hm9 r9 μ9
    refine wb_eq (tgt := 30) hX dX9_way_18 (by decide) (fun hU => ?_) (fun hU => ?_)
    · refine w_ldcw hX dX9_way_30 ki_RX9_323 ?_
      refine w_top (y := nI 100000000) rfl ?_
      refine w_istore_n (i := 3) (l2 := [some (.ref m), some (.int x), some (.int y), some (.int (nI 100000000))]) hX dX9_way_33 rfl (ltb rfl) rfl rfl ?_
      refine w_iload_n (i := 3) hX dX9_way_34 rfl rfl ?_
      refine w_ldcw hX dX9_way_35 ki_RX9_323 ?_
      refine w_top (y := nI 100000000) rfl ?_
      refine wn_icmp_ge (tgt := 45) hX dX9_way_38 (by decide) (by omega) (by omega) (fun c4 => ?_) (fun c4 => ?_)
      · refine w_iconst hX dX9_way_45 kI_m1 ?_
        exact w_iret hX hE dX9_way_46 (Or.inl rfl) rfl ⟨by simp [A_way, *], rfl⟩
      · exact absurd c4 (by decide)
    · have h0 := hW.1.1; have h1 := (isT_nI hW.1.1 hT).2; have h2 := (isT_nI hW.1.1 hU).2; have h3 := wyF_le hW (show tN x < 3 by omega) (show tN y < 3 by omega)
      refine w_aload_n (i := 0) hX dX9_way_21 rfl rfl ?_
      refine w_iload_n (i := 1) hX dX9_way_22 rfl rfl ?_
      refine w_top (y := nI (tN x)) (isT_nI hW.1.1 hT).1 ?_
      refine w_iload_n (i := 2) hX dX9_way_23 rfl rfl ?_
      refine w_top (y := nI (tN y)) (isT_nI hW.1.1 hU).1 ?_
      refine w_callVI (As := [.int (nI (tN x)), .int (nI (tN y))]) (rest := []) (ci := 9) (o := m) (k2 := 0) (n2 := 0) hX dX9_way_24 (s_m_wayOf Γ (sI μ m 0 (nI 0)) m B (hm.f (by omega)) hW (tN x) (tN y) (by omega) (by omega)) okX9_wayOf (ltb rfl) (mod_s hm.1.1) ml_RX9_378 imX9_wayOf seX9_wayOf rfl (leb rfl) (leb rfl) rfl rfl (fun r9 μ9 hq9 => ?_)
      obtain ⟨hr9, hm9⟩ := hq9; rw [hr9, hm9]; clear hr9 hm9 r9 μ9
      refine w_goto (tgt := 33) hX dX9_way_27 (by decide) ?_
      refine w_istore_n (i := 3) (l2 := [some (.ref m), some (.int x), some (.int y), some (.int (nI (wyF B (tN x) (tN y))))]) hX dX9_way_33 rfl (ltb rfl) rfl rfl ?_
      refine w_iload_n (i := 3) hX dX9_way_34 rfl rfl ?_
      refine w_ldcw hX dX9_way_35 ki_RX9_323 ?_
      refine w_top (y := nI 100000000) rfl ?_
      refine wn_icmp_ge (tgt := 45) hX dX9_way_38 (by decide) (by omega) (by omega) (fun c5 => ?_) (fun c5 => ?_)
      · refine w_iconst hX dX9_way_45 kI_m1 ?_
        exact w_iret hX hE dX9_way_46 (Or.inl rfl) rfl ⟨by unfold A_way; rw [if_pos (by simp [hT, hU])]; unfold wyO; rw [if_neg (Nat.not_lt.mpr c5)]; rfl, rfl⟩
      · refine w_iload_n (i := 3) hX dX9_way_41 rfl rfl ?_
        refine w_goto (tgt := 46) hX dX9_way_42 (by decide) ?_
        exact w_iret hX hE dX9_way_46 (Or.inl rfl) rfl ⟨by unfold A_way; rw [if_pos (by simp [hT, hU])]; unfold wyO; rw [if_pos c5]; rfl, rfl⟩
