def SPr (m : Nat) : Nat → Nat → Prop := fun o _ => m + 14 ≤ o ∧ o ≤ m + 16
set_option maxHeartbeats 1000000 in
theorem s_m_findRow (Γ : Gm) (μ : Mem) (m : Nat) (B : Nat → Nat) (hm : HM μ m B) (hW : WB B) (d i : Int32) : SpI Γ MX9_findRow 270 0 0 [.ref m, .int d, .int i] μ (fun r μ2 => r = bI (hdB B d && inC i (pcn (bP B (tN d)) 12)) ∧ (hdB B d = true → ∀ j, j < pcn (bP B (tN d)) 12 → gI μ2 (m + 15) j = nI (rwW B (tN d) j) ∧ gI μ2 (m + 16) j = nI (rwT B (tN d) j)) ∧ same (SPr m) μ μ2) := by
  refine SpI.of okX9_findRow rfl [some (.ref m), some (.int d), some (.int i), none] ⟨rfl, rfl, rfl, trivial⟩ (leb rfl) (leb rfl) (fun X hX hE hnm => ?_)
  refine w_aload_n (i := 0) hX dX9_findRow_0 rfl rfl ?_
  refine w_iload_n (i := 1) hX dX9_findRow_1 rfl rfl ?_
  refine w_callVI (As := [.int d]) (rest := []) (ci := 9) (o := m) (k2 := 0) (n2 := 0) hX dX9_findRow_2 (s_m_hasDay Γ μ m B hm hW d) okX9_hasDay (ltb rfl) (mod_s hm.1.1) ml_RX9_336 imX9_hasDay seX9_hasDay rfl (leb rfl) (leb rfl) rfl rfl (fun r9 μ9 hq9 => ?_)
  obtain ⟨hr9, hm9⟩ := hq9; rw [hr9, hm9]; clear hr9 hm9 r9 μ9
  refine wb_ne (tgt := 10) hX dX9_findRow_5 (by decide) (fun hH => ?_) (fun hH => ?_)
  · have hd9 := hd_n hH
    refine w_aload_n (i := 0) hX dX9_findRow_10 rfl rfl ?_
    refine w_iload_n (i := 1) hX dX9_findRow_11 rfl rfl ?_
    refine w_top (y := nI (tN d)) hd9.1 ?_
    refine w_callVI (As := [.int (nI (tN d))]) (rest := []) (ci := 9) (o := m) (k2 := 0) (n2 := 0) hX dX9_findRow_12 (s_a_best Γ μ m B none hm hW (tN d) hd9.2 (Or.inl rfl)) okX9_findBest (ltb rfl) (mod_s hm.1.1) ml_RX9_333 imX9_findBest seX9_findBest rfl (leb rfl) (leb rfl) rfl rfl (fun r9 ν hq9 => ?_)
    obtain ⟨hr9, hs2⟩ := hq9; rw [hr9, show bsS B (tN d) (WnB B (b0F B (tN d)) (skW B (tN d) none)) (2 ^ B 85) = bP B (tN d) from rfl]
    have hmk := hm.sm hs2 (fun o k h => by omega)
    obtain ⟨hbp, hbt, hbf⟩ := bP_ok (B := B) (d := tN d)
    have hn8 := hW.2.2.1.1; have h256 := p8 hn8
    have hpc8 := pcn8 hn8 hbp
    refine w_istore_n (i := 3) (l2 := [some (.ref m), some (.int d), some (.int i), some (.int (nI (bP B (tN d))))]) hX dX9_findRow_15 rfl (ltb rfl) rfl rfl ?_
    refine w_aload_n (i := 0) hX dX9_findRow_16 rfl rfl ?_
    refine w_iload_n (i := 3) hX dX9_findRow_17 rfl rfl ?_
    refine w_iconst hX dX9_findRow_18 kI_0 ?_
    refine w_iconst hX dX9_findRow_19 kI_0 ?_
    refine w_callVI (As := [.int (nI (bP B (tN d))), .int (nI 0), .int (nI 0)]) (rest := []) (ci := 9) (o := m) (k2 := 0) (n2 := 0) hX dX9_findRow_20 (s_m_rows Γ m B hW (tN d) hd9.2 256 (bP B (tN d)) (by omega) hbp hbt ν 0 0 hmk (by omega) (by omega)) okX9_rows (ltb rfl) (mod_s hmk.1.1) ml_RX9_342 imX9_rows seX9_rows rfl (leb rfl) (leb rfl) rfl rfl (fun r5 ν5 hq9 => ?_)
    obtain ⟨hr5, ha5, ho5, hs5⟩ := hq9; rw [hr5]
    have ha5 := ha5 hbf
    refine w_pop hX dX9_findRow_23 rfl ?_
    refine w_iload_n (i := 2) hX dX9_findRow_24 rfl rfl ?_
    refine wc_if_lt (tgt := 40) hX dX9_findRow_25 (by decide) (fun c2 => ?_) (fun c2 => ?_)
    · refine w_iconst hX dX9_findRow_40 kI_0 ?_
      have hrow : ∀ j, j < pcn (bP B (tN d)) 12 → gI ν5 (m + 15) j = nI (rwW B (tN d) j) ∧ gI ν5 (m + 16) j = nI (rwT B (tN d) j) := fun j hj => by have h9 := ha5 j hj; rw [Nat.zero_add] at h9; exact h9
      have e9 : inC i (pcn (bP B (tN d)) 12) = false := by unfold inC; rw [decide_eq_false (Int32.not_le.mpr c2)]; rfl
      exact w_iret hX hE dX9_findRow_41 (Or.inl rfl) rfl ⟨bI_2 (by rw [hH, e9]; rfl), fun _ => hrow, (hs2.up (fun o k h => by unfold SPr; omega)).tr (hs5.up (fun o k h => by unfold SPr; omega))⟩
    · refine w_iload_n (i := 2) hX dX9_findRow_28 rfl rfl ?_
      refine w_iload_n (i := 3) hX dX9_findRow_29 rfl rfl ?_
      refine w_callSI (As := [.int (nI (bP B (tN d)))]) (rest := [.int i]) (k2 := 0) (n2 := 0) hX dX9_findRow_30 (s_m_bits Γ ν5 (bP B (tN d)) (by omega)) okX9_bits ml_RX9_314 stX9_bits rfl (leb rfl) (leb rfl) rfl rfl (fun r9 μ9 hq9 => ?_)
      obtain ⟨hr9, hm9⟩ := hq9; rw [hr9, hm9]; clear hr9 hm9 r9 μ9
      refine wc_icmp_ge (tgt := 40) hX dX9_findRow_33 (by decide) (fun c3 => ?_) (fun c3 => ?_)
      · refine w_iconst hX dX9_findRow_40 kI_0 ?_
        have hrow : ∀ j, j < pcn (bP B (tN d)) 12 → gI ν5 (m + 15) j = nI (rwW B (tN d) j) ∧ gI ν5 (m + 16) j = nI (rwT B (tN d) j) := fun j hj => by have h9 := ha5 j hj; rw [Nat.zero_add] at h9; exact h9
        have e9 : inC i (pcn (bP B (tN d)) 12) = false := by unfold inC; rw [decide_eq_false (Int32.not_lt.mpr c3), Bool.and_false]
        exact w_iret hX hE dX9_findRow_41 (Or.inl rfl) rfl ⟨bI_2 (by rw [hH, e9]; rfl), fun _ => hrow, (hs2.up (fun o k h => by unfold SPr; omega)).tr (hs5.up (fun o k h => by unfold SPr; omega))⟩
      · refine w_iconst hX dX9_findRow_36 kI_1 ?_
        refine w_goto (tgt := 41) hX dX9_findRow_37 (by decide) ?_
        have hrow : ∀ j, j < pcn (bP B (tN d)) 12 → gI ν5 (m + 15) j = nI (rwW B (tN d) j) ∧ gI ν5 (m + 16) j = nI (rwT B (tN d) j) := fun j hj => by have h9 := ha5 j hj; rw [Nat.zero_add] at h9; exact h9
        have e9 : inC i (pcn (bP B (tN d)) 12) = true := by unfold inC; rw [decide_eq_true c2, decide_eq_true c3]; rfl
        exact w_iret hX hE dX9_findRow_41 (Or.inl rfl) rfl ⟨bI_1 (by rw [hH, e9]; rfl), fun _ => hrow, (hs2.up (fun o k h => by unfold SPr; omega)).tr (hs5.up (fun o k h => by unfold SPr; omega))⟩
  · refine w_iconst hX dX9_findRow_8 kI_0 ?_
    exact w_iret hX hE dX9_findRow_9 (Or.inl rfl) rfl ⟨bI_2 (by rw [hH, Bool.false_and]), fun h9 => (by rw [hH] at h9; cases h9), same.rf⟩
set_option maxHeartbeats 1000000 in
theorem s_m_order (Γ : Gm) (μ : Mem) (m : Nat) (B : Nat → Nat) (hm : HM μ m B) (hW : WB B) (d i : Int32) : SpI Γ MX9_order 271 0 0 [.ref m, .int d, .int i] μ (fun r μ2 => r = A_order B d i ∧ HM μ2 m B ∧ same (SPm m) μ μ2) := by
  refine SpI.of okX9_order rfl [some (.ref m), some (.int d), some (.int i)] ⟨rfl, rfl, rfl, trivial⟩ (leb rfl) (leb rfl) (fun X hX hE hnm => ?_)
  refine w_aload_n (i := 0) hX dX9_order_0 rfl rfl ?_
  refine w_iconst hX dX9_order_1 kI_0 ?_
  refine w_putI hX dX9_order_2 fo_RX9_1 rfl rfl rfl rfl (mod_s hm.1.1) ?_
  refine w_aload_n (i := 0) hX dX9_order_5 rfl rfl ?_
  refine w_iload_n (i := 1) hX dX9_order_6 rfl rfl ?_
  refine w_iload_n (i := 2) hX dX9_order_7 rfl rfl ?_
  refine w_callVI (As := [.int d, .int i]) (rest := []) (ci := 9) (o := m) (k2 := 0) (n2 := 0) hX dX9_order_8 (s_m_findRow Γ (sI μ m 0 (nI 0)) m B (hm.f (by omega)) hW d i) okX9_findRow (ltb rfl) (mod_s hm.1.1) ml_RX9_345 imX9_findRow seX9_findRow rfl (leb rfl) (leb rfl) rfl rfl (fun r9 ν hq9 => ?_)
  obtain ⟨hr9, hrow, hs9⟩ := hq9; rw [hr9]
  have hs : same (SPm m) μ ν := (same.rf.sI (Or.inr ⟨rfl, Or.inl rfl⟩)).tr (hs9.up (fun o k h => by unfold SPr at h; unfold SPm; omega))
  have hmk : HM ν m B := (hm.f (show 16 ≠ 0 by omega)).sm hs9 (fun o k h => by unfold SPr at h; omega)
  refine wb_eq (tgt := 23) hX dX9_order_11 (by decide) (fun hC => ?_) (fun hC => ?_)
  · refine w_iconst hX dX9_order_23 kI_m1 ?_
    exact w_iret hX hE dX9_order_24 (Or.inl rfl) rfl ⟨by unfold A_order; rw [if_neg (by rw [hC]; decide)], hmk, hs⟩
  · have hC2 := hC; rw [Bool.and_eq_true] at hC2
    have hpc8 := pcn8 hW.2.2.1.1 (bP_ok (B := B) (d := tN d)).1
    have hi9 := inC_nI (by omega) hC2.2
    refine w_aload_n (i := 0) hX dX9_order_14 rfl rfl ?_
    refine w_getR (q := m + 15) hX dX9_order_15 fo_RX9_103 rfl (mod_s hmk.1.1) (mod_r24 hmk.1.1) ?_
    refine w_iload_n (i := 2) hX dX9_order_18 rfl rfl ?_
    refine w_top (y := nI (tN i)) hi9.1 ?_
    refine w_ialdN hX dX9_order_19 (mod_a15 hmk.1.1) (by omega) (by omega) ?_
    refine w_top (y := nI (rwW B (tN d) (tN i))) (hrow hC2.1 _ hi9.2).1 ?_
    refine w_goto (tgt := 24) hX dX9_order_20 (by decide) ?_
    exact w_iret hX hE dX9_order_24 (Or.inl rfl) rfl ⟨by unfold A_order; rw [if_pos hC], hmk, hs⟩
set_option maxHeartbeats 1000000 in
theorem s_m_begins (Γ : Gm) (μ : Mem) (m : Nat) (B : Nat → Nat) (hm : HM μ m B) (hW : WB B) (d i : Int32) : SpI Γ MX9_begins 271 0 0 [.ref m, .int d, .int i] μ (fun r μ2 => r = A_begins B d i ∧ HM μ2 m B ∧ same (SPm m) μ μ2) := by
  refine SpI.of okX9_begins rfl [some (.ref m), some (.int d), some (.int i)] ⟨rfl, rfl, rfl, trivial⟩ (leb rfl) (leb rfl) (fun X hX hE hnm => ?_)
  refine w_aload_n (i := 0) hX dX9_begins_0 rfl rfl ?_
  refine w_iconst hX dX9_begins_1 kI_0 ?_
  refine w_putI hX dX9_begins_2 fo_RX9_1 rfl rfl rfl rfl (mod_s hm.1.1) ?_
  refine w_aload_n (i := 0) hX dX9_begins_5 rfl rfl ?_
  refine w_iload_n (i := 1) hX dX9_begins_6 rfl rfl ?_
  refine w_iload_n (i := 2) hX dX9_begins_7 rfl rfl ?_
  refine w_callVI (As := [.int d, .int i]) (rest := []) (ci := 9) (o := m) (k2 := 0) (n2 := 0) hX dX9_begins_8 (s_m_findRow Γ (sI μ m 0 (nI 0)) m B (hm.f (by omega)) hW d i) okX9_findRow (ltb rfl) (mod_s hm.1.1) ml_RX9_345 imX9_findRow seX9_findRow rfl (leb rfl) (leb rfl) rfl rfl (fun r9 ν hq9 => ?_)
  obtain ⟨hr9, hrow, hs9⟩ := hq9; rw [hr9]
  have hs : same (SPm m) μ ν := (same.rf.sI (Or.inr ⟨rfl, Or.inl rfl⟩)).tr (hs9.up (fun o k h => by unfold SPr at h; unfold SPm; omega))
  have hmk : HM ν m B := (hm.f (show 16 ≠ 0 by omega)).sm hs9 (fun o k h => by unfold SPr at h; omega)
  refine wb_eq (tgt := 23) hX dX9_begins_11 (by decide) (fun hC => ?_) (fun hC => ?_)
  · refine w_iconst hX dX9_begins_23 kI_m1 ?_
    exact w_iret hX hE dX9_begins_24 (Or.inl rfl) rfl ⟨by unfold A_begins; rw [if_neg (by rw [hC]; decide)], hmk, hs⟩
  · have hC2 := hC; rw [Bool.and_eq_true] at hC2
    have hpc8 := pcn8 hW.2.2.1.1 (bP_ok (B := B) (d := tN d)).1
    have hi9 := inC_nI (by omega) hC2.2
    refine w_aload_n (i := 0) hX dX9_begins_14 rfl rfl ?_
    refine w_getR (q := m + 16) hX dX9_begins_15 fo_RX9_106 rfl (mod_s hmk.1.1) (mod_r25 hmk.1.1) ?_
    refine w_iload_n (i := 2) hX dX9_begins_18 rfl rfl ?_
    refine w_top (y := nI (tN i)) hi9.1 ?_
    refine w_ialdN hX dX9_begins_19 (mod_a16 hmk.1.1) (by omega) (by omega) ?_
    refine w_top (y := nI (rwT B (tN d) (tN i))) (hrow hC2.1 _ hi9.2).2 ?_
    refine w_goto (tgt := 24) hX dX9_begins_20 (by decide) ?_
    exact w_iret hX hE dX9_begins_24 (Or.inl rfl) rfl ⟨by unfold A_begins; rw [if_pos hC], hmk, hs⟩
