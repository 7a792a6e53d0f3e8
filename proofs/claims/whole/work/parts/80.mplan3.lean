def SPm (m : Nat) : Nat → Nat → Prop := fun o k => (m + 14 ≤ o ∧ o ≤ m + 16) ∨ (o = m ∧ (k = 0 ∨ k = 16))
theorem HM_back {S : Nat → Nat → Prop} {μ ν : Mem} {m : Nat} {B : Nat → Nat} (h : HM μ m B) (hs : same S μ ν) (hS : ∀ o k, S o k → o ≠ m + 6) : HM (sI ν m 16 (-1 : Int32)) m B :=
  ⟨mb_f ⟨hs.isMod h.1.1, fun j hj => by rw [(hs.2.2 _ _ (fun h9 => hS _ _ h9 rfl)).1]; exact h.1.2 j hj⟩, ⟨gI_same, fun v h => by cases h⟩, h.2.2⟩
theorem HA_aw {μ : Mem} {m d : Nat} {B : Nat → Nat} (h : HM μ m B) (hd : d ≤ 9999) : HA (sI μ m 16 (nI d)) m B (some d) := ⟨mb_f h.1, ⟨gI_same, fun v h => by cases h; exact hd⟩, h.2.2⟩
theorem w4no {w : Int32} (h : inR w (nI 0) (nI 3) = false) : w ≠ nI 0 ∧ w ≠ nI 1 ∧ w ≠ nI 2 ∧ w ≠ nI 3 := by
  refine ⟨?_, ?_, ?_, ?_⟩ <;> (rintro rfl; revert h; decide)
set_option maxHeartbeats 1000000 in
theorem s_m_plain (Γ : Gm) (μ : Mem) (m : Nat) (B : Nat → Nat) (hm : HM μ m B) (hW : WB B) (d : Nat) (hd : d ≤ 3649) : SpI Γ MX9_plain 7 0 0 [.ref m, .int (nI d)] μ (fun r μ2 => r = nI (woS B (bQ B d) (B 85)) ∧ HM μ2 m B ∧ same (fun o k => o = m + 14 ∨ (o = m ∧ k = 16)) μ μ2) := by
  refine SpI.of okX9_plain rfl [some (.ref m), some (.int (nI d)), none] ⟨rfl, rfl, trivial⟩ (leb rfl) (leb rfl) (fun X hX hE hnm => ?_)
  refine w_aload_n (i := 0) hX dX9_plain_0 rfl rfl ?_
  refine w_iload_n (i := 1) hX dX9_plain_1 rfl rfl ?_
  refine w_putI hX dX9_plain_2 fo_RX9_85 rfl rfl rfl rfl (mod_s hm.1.1) ?_
  refine w_aload_n (i := 0) hX dX9_plain_5 rfl rfl ?_
  refine w_aload_n (i := 0) hX dX9_plain_6 rfl rfl ?_
  refine w_iload_n (i := 1) hX dX9_plain_7 rfl rfl ?_
  refine w_callVI (As := [.int (nI d)]) (rest := [.ref m]) (ci := 9) (o := m) (k2 := 0) (n2 := 0) hX dX9_plain_8 (s_a_best Γ (sI μ m 16 (nI d)) m B (some d) (HA_aw hm (by omega)) hW d hd (Or.inr rfl)) okX9_findBest (ltb rfl) (mod_s hm.1.1) ml_RX9_333 imX9_findBest seX9_findBest rfl (leb rfl) (leb rfl) rfl rfl (fun r9 ν hq9 => ?_)
  obtain ⟨hr9, hs⟩ := hq9; rw [hr9]
  have hmk := (HA_aw (d := d) hm (by omega)).sm hs (fun o k h => by omega)
  have hbq : bQ B d < 2 ^ B 85 := bsS_lt _ (Nat.two_pow_pos _)
  have h256 := p8 hW.2.2.1.1
  refine w_callVI (As := [.int (nI (bQ B d))]) (rest := []) (ci := 9) (o := m) (k2 := 0) (n2 := 0) hX dX9_plain_11 (s_a_worth Γ ν m B (some d) hmk hW (bQ B d) (by omega)) okX9_worthOf (ltb rfl) (mod_s hmk.1.1) ml_RX9_330 imX9_worthOf seX9_worthOf rfl (leb rfl) (leb rfl) rfl rfl (fun r9 μ9 hq9 => ?_)
  obtain ⟨hr9, hm9⟩ := hq9; rw [hr9, hm9]; clear hr9 hm9 r9 μ9
  refine w_istore_n (i := 2) (l2 := [some (.ref m), some (.int (nI d)), some (.int (nI (woS B (bQ B d) (B 85))))]) hX dX9_plain_14 rfl (ltb rfl) rfl rfl ?_
  refine w_aload_n (i := 0) hX dX9_plain_15 rfl rfl ?_
  refine w_iconst hX dX9_plain_16 kI_m1 ?_
  refine w_putI hX dX9_plain_17 fo_RX9_85 rfl rfl rfl rfl (mod_s hmk.1.1) ?_
  refine w_iload_n (i := 2) hX dX9_plain_20 rfl rfl ?_
  have hs2 : same (fun o k => o = m + 14 ∨ (o = m ∧ k = 16)) μ ν := (same.rf.sI (Or.inr ⟨rfl, rfl⟩)).tr (hs.up (fun o k h => Or.inl h))
  exact w_iret hX hE dX9_plain_21 (Or.inl rfl) rfl ⟨rfl, HM_back hm hs2 (fun o k h => by omega), hs2.sI (Or.inr ⟨rfl, rfl⟩)⟩
set_option maxHeartbeats 1000000 in
theorem s_m_hasDay (Γ : Gm) (μ : Mem) (m : Nat) (B : Nat → Nat) (hm : HM μ m B) (hW : WB B) (d : Int32) : SpI Γ MX9_hasDay 1 0 0 [.ref m, .int d] μ (fun r μ2 => r = bI (hdB B d) ∧ μ2 = μ) := by
  refine SpI.of okX9_hasDay rfl [some (.ref m), some (.int d)] ⟨rfl, rfl, trivial⟩ (leb rfl) (leb rfl) (fun X hX hE hnm => ?_)
  refine w_aload_n (i := 0) hX dX9_hasDay_0 rfl rfl ?_
  refine w_callVI (As := []) (rest := []) (ci := 9) (o := m) (k2 := 0) (n2 := 0) hX dX9_hasDay_1 (s_m_towns Γ μ m B hm.1) okX9_towns (ltb rfl) (mod_s hm.1.1) ml_RX9_236 imX9_towns seX9_towns rfl (leb rfl) (leb rfl) rfl rfl (fun r9 μ9 hq9 => ?_)
  obtain ⟨hr9, hm9⟩ := hq9; rw [hr9, hm9]; clear hr9 hm9 r9 μ9
  refine wn_if_le (tgt := 22) hX dX9_hasDay_4 (by decide) (by have := hW.1.1; omega) (fun c1 => ?_) (fun c1 => ?_)
  · refine w_iconst hX dX9_hasDay_22 kI_0 ?_
    exact w_iret hX hE dX9_hasDay_23 (Or.inl rfl) rfl ⟨bI_2 (by unfold hdB; rw [decide_eq_false (by omega), Bool.false_and]), rfl⟩
  · refine w_iload_n (i := 1) hX dX9_hasDay_7 rfl rfl ?_
    refine w_iconst hX dX9_hasDay_8 kI_0 ?_
    refine w_sipush hX dX9_hasDay_9 kS_3649 ?_
    refine w_callSI (As := [.int d, .int (nI 0), .int (nI 3649)]) (rest := []) (k2 := 0) (n2 := 0) hX dX9_hasDay_12 (s_m_isIn Γ μ d (nI 0) (nI 3649)) okX9_isIn ml_RX9_262 stX9_isIn rfl (leb rfl) (leb rfl) rfl rfl (fun r9 μ9 hq9 => ?_)
    obtain ⟨hr9, hm9⟩ := hq9; rw [hr9, hm9]; clear hr9 hm9 r9 μ9
    refine wb_eq (tgt := 22) hX dX9_hasDay_15 (by decide) (fun hD => ?_) (fun hD => ?_)
    · refine w_iconst hX dX9_hasDay_22 kI_0 ?_
      exact w_iret hX hE dX9_hasDay_23 (Or.inl rfl) rfl ⟨bI_2 (by unfold hdB; rw [hD, Bool.and_false]), rfl⟩
    · refine w_iconst hX dX9_hasDay_18 kI_1 ?_
      refine w_goto (tgt := 23) hX dX9_hasDay_19 (by decide) ?_
      exact w_iret hX hE dX9_hasDay_23 (Or.inl rfl) rfl ⟨bI_1 (by unfold hdB; rw [hD, decide_eq_true (by omega)]; rfl), rfl⟩
theorem hd_n {B : Nat → Nat} {d : Int32} (h : hdB B d = true) : d = nI (tN d) ∧ tN d ≤ 3649 := by
  unfold hdB at h
  rw [Bool.and_eq_true] at h
  exact inR_nI (by omega) h.2
set_option maxHeartbeats 1000000 in
theorem s_m_best (Γ : Gm) (μ : Mem) (m : Nat) (B : Nat → Nat) (hm : HM μ m B) (hW : WB B) (d w : Int32) : SpI Γ MX9_best 8 0 0 [.ref m, .int d, .int w] μ (fun r μ2 => r = A_best B d w ∧ HM μ2 m B ∧ same (SPm m) μ μ2) := by
  refine SpI.of okX9_best rfl [some (.ref m), some (.int d), some (.int w), none, none] ⟨rfl, rfl, rfl, trivial⟩ (leb rfl) (leb rfl) (fun X hX hE hnm => ?_)
  refine w_aload_n (i := 0) hX dX9_best_0 rfl rfl ?_
  refine w_iconst hX dX9_best_1 kI_0 ?_
  refine w_putI hX dX9_best_2 fo_RX9_1 rfl rfl rfl rfl (mod_s hm.1.1) ?_
  refine w_aload_n (i := 0) hX dX9_best_5 rfl rfl ?_
  refine w_iload_n (i := 1) hX dX9_best_6 rfl rfl ?_
  refine w_callVI (As := [.int d]) (rest := []) (ci := 9) (o := m) (k2 := 0) (n2 := 0) hX dX9_best_7 (s_m_hasDay Γ (sI μ m 0 (nI 0)) m B (HM.sI hm (by omega)) hW d) okX9_hasDay (ltb rfl) (mod_s hm.1.1) ml_RX9_336 imX9_hasDay seX9_hasDay rfl (leb rfl) (leb rfl) rfl rfl (fun r9 μ9 hq9 => ?_)
  obtain ⟨hr9, hm9⟩ := hq9; rw [hr9, hm9]; clear hr9 hm9 r9 μ9
  refine wb_eq (tgt := 22) hX dX9_best_10 (by decide) (fun hH => ?_) (fun hH => ?_)
  · refine w_iconst hX dX9_best_22 kI_m1 ?_
    exact w_iret hX hE dX9_best_23 (Or.inl rfl) rfl ⟨by unfold A_best; rw [if_neg (by rw [hH]; decide)], hm.f (by omega), same.rf.sI (Or.inr ⟨rfl, Or.inl rfl⟩)⟩
  · refine w_iload_n (i := 2) hX dX9_best_13 rfl rfl ?_
    refine w_iconst hX dX9_best_14 kI_0 ?_
    refine w_iconst hX dX9_best_15 kI_3 ?_
    refine w_callSI (As := [.int w, .int (nI 0), .int (nI 3)]) (rest := []) (k2 := 0) (n2 := 0) hX dX9_best_16 (s_m_isIn Γ (sI μ m 0 (nI 0)) w (nI 0) (nI 3)) okX9_isIn ml_RX9_262 stX9_isIn rfl (leb rfl) (leb rfl) rfl rfl (fun r9 μ9 hq9 => ?_)
    obtain ⟨hr9, hm9⟩ := hq9; rw [hr9, hm9]; clear hr9 hm9 r9 μ9
    refine wb_ne (tgt := 24) hX dX9_best_19 (by decide) (fun hV => ?_) (fun hV => ?_)
    · have hd9 := hd_n hH
      refine w_aload_n (i := 0) hX dX9_best_24 rfl rfl ?_
      refine w_iload_n (i := 1) hX dX9_best_25 rfl rfl ?_
      refine w_top (y := nI (tN d)) hd9.1 ?_
      refine w_callVI (As := [.int (nI (tN d))]) (rest := []) (ci := 9) (o := m) (k2 := 0) (n2 := 0) hX dX9_best_26 (s_m_plain Γ (sI μ m 0 (nI 0)) m B (hm.f (by omega)) hW (tN d) hd9.2) okX9_plain (ltb rfl) (mod_s hm.1.1) ml_RX9_339 imX9_plain seX9_plain rfl (leb rfl) (leb rfl) rfl rfl (fun r9 ν hq9 => ?_)
      obtain ⟨hr9, hmk, hs⟩ := hq9; rw [hr9]
      refine w_istore_n (i := 3) (l2 := [some (.ref m), some (.int d), some (.int w), some (.int (nI (woS B (bQ B (tN d)) (B 85)))), none]) hX dX9_best_29 rfl (ltb rfl) rfl rfl ?_
      refine w_aload_n (i := 0) hX dX9_best_30 rfl rfl ?_
      refine w_iload_n (i := 1) hX dX9_best_31 rfl rfl ?_
      refine w_top (y := nI (tN d)) hd9.1 ?_
      refine w_callVI (As := [.int (nI (tN d))]) (rest := []) (ci := 9) (o := m) (k2 := 0) (n2 := 0) hX dX9_best_32 (s_a_best Γ ν m B none hmk hW (tN d) hd9.2 (Or.inl rfl)) okX9_findBest (ltb rfl) (mod_s hmk.1.1) ml_RX9_333 imX9_findBest seX9_findBest rfl (leb rfl) (leb rfl) rfl rfl (fun r9 ν2 hq9 => ?_)
      obtain ⟨hr9, hs2⟩ := hq9; rw [hr9, show bsS B (tN d) (WnB B (b0F B (tN d)) (skW B (tN d) none)) (2 ^ B 85) = bP B (tN d) from rfl]
      have hm2 := hmk.sm hs2 (fun o k h => by omega)
      have hbp := (bP_ok (B := B) (d := tN d)).1
      have h256 := p8 hW.2.2.1.1
      have hsf : same (SPm m) μ ν2 := ((same.rf.sI (Or.inr ⟨rfl, Or.inl rfl⟩)).tr (hs.up (fun o k h => by unfold SPm; omega))).tr (hs2.up (fun o k h => by unfold SPm; omega))
      refine w_istore (l2 := [some (.ref m), some (.int d), some (.int w), some (.int (nI (woS B (bQ B (tN d)) (B 85)))), some (.int (nI (bP B (tN d))))]) hX dX9_best_35 (ltb rfl) rfl rfl ?_
      refine w_iload_n (i := 2) hX dX9_best_37 rfl rfl ?_
      refine wc_if_ne (tgt := 50) hX dX9_best_38 (by decide) (fun c3 => ?_) (fun c3 => ?_)
      · refine w_iload_n (i := 2) hX dX9_best_50 rfl rfl ?_
        refine w_iconst hX dX9_best_51 kI_1 ?_
        refine wc_icmp_ne (tgt := 60) hX dX9_best_52 (by decide) (fun c4 => ?_) (fun c4 => ?_)
        · refine w_iload_n (i := 2) hX dX9_best_60 rfl rfl ?_
          refine w_iconst hX dX9_best_61 kI_2 ?_
          refine wc_icmp_ne (tgt := 76) hX dX9_best_62 (by decide) (fun c5 => ?_) (fun c5 => ?_)
          · refine w_iload_n (i := 3) hX dX9_best_76 rfl rfl ?_
            exact w_iret hX hE dX9_best_77 (Or.inl rfl) rfl ⟨by unfold A_best; rw [if_pos hH, if_neg c3, if_neg c4, if_neg c5, if_pos (w3 hV c3 c4 c5)], hm2, hsf⟩
          · refine w_aload_n (i := 0) hX dX9_best_65 rfl rfl ?_
            refine w_iload hX dX9_best_66 rfl ?_
            refine w_callVI (As := [.int (nI (bP B (tN d)))]) (rest := []) (ci := 9) (o := m) (k2 := 0) (n2 := 0) hX dX9_best_68 (s_a_worth Γ ν2 m B none hm2 hW (bP B (tN d)) (by omega)) okX9_worthOf (ltb rfl) (mod_s hm2.1.1) ml_RX9_330 imX9_worthOf seX9_worthOf rfl (leb rfl) (leb rfl) rfl rfl (fun r9 μ9 hq9 => ?_)
            obtain ⟨hr9, hm9⟩ := hq9; rw [hr9, hm9]; clear hr9 hm9 r9 μ9
            refine w_iload_n (i := 3) hX dX9_best_71 rfl rfl ?_
            refine w_isub hX dX9_best_72 ?_
            refine w_goto (tgt := 77) hX dX9_best_73 (by decide) ?_
            exact w_iret hX hE dX9_best_77 (Or.inl rfl) rfl ⟨by unfold A_best; rw [if_pos hH, if_neg c3, if_neg c4, if_pos c5], hm2, hsf⟩
        · refine w_iload hX dX9_best_55 rfl ?_
          refine w_goto (tgt := 77) hX dX9_best_57 (by decide) ?_
          exact w_iret hX hE dX9_best_77 (Or.inl rfl) rfl ⟨by unfold A_best; rw [if_pos hH, if_neg c3, if_pos c4], hm2, hsf⟩
      · refine w_aload_n (i := 0) hX dX9_best_41 rfl rfl ?_
        refine w_iload hX dX9_best_42 rfl ?_
        refine w_callVI (As := [.int (nI (bP B (tN d)))]) (rest := []) (ci := 9) (o := m) (k2 := 0) (n2 := 0) hX dX9_best_44 (s_a_worth Γ ν2 m B none hm2 hW (bP B (tN d)) (by omega)) okX9_worthOf (ltb rfl) (mod_s hm2.1.1) ml_RX9_330 imX9_worthOf seX9_worthOf rfl (leb rfl) (leb rfl) rfl rfl (fun r9 μ9 hq9 => ?_)
        obtain ⟨hr9, hm9⟩ := hq9; rw [hr9, hm9]; clear hr9 hm9 r9 μ9
        refine w_goto (tgt := 77) hX dX9_best_47 (by decide) ?_
        exact w_iret hX hE dX9_best_77 (Or.inl rfl) rfl ⟨by unfold A_best; rw [if_pos hH, if_pos c3], hm2, hsf⟩
    · refine w_iconst hX dX9_best_22 kI_m1 ?_
      exact w_iret hX hE dX9_best_23 (Or.inl rfl) rfl ⟨by unfold A_best; rw [if_pos hH, if_neg (w4no hV).1, if_neg (w4no hV).2.1, if_neg (w4no hV).2.2.1, if_neg (w4no hV).2.2.2], hm.f (by omega), same.rf.sI (Or.inr ⟨rfl, Or.inl rfl⟩)⟩
def RQ (m : Nat) (B : Nat → Nat) (d S u t : Nat) (μ : Mem) (r : Int32) (μ2 : Mem) : Prop := r = bI (FF (W1F B d) (B 85) S t) ∧ (FF (W1F B d) (B 85) S t = true → ∀ i, i < pcn S 12 → gI μ2 (m + 15) (u + i) = nI (gW (W1F B d) (B 85) (sqn (W1F B d) (B 85) i S t).1 (sqn (W1F B d) (B 85) i S t).2) ∧ gI μ2 (m + 16) (u + i) = nI (gS (W1F B d) (B 85) (sqn (W1F B d) (B 85) i S t).1 (sqn (W1F B d) (B 85) i S t).2)) ∧ (∀ i, i < u → gI μ2 (m + 15) i = gI μ (m + 15) i ∧ gI μ2 (m + 16) i = gI μ (m + 16) i) ∧ same (fun o _ => o = m + 15 ∨ o = m + 16) μ μ2
theorem FF_no {W : Wn} {n S t : Nat} (hS : S ≠ 0) (h : ∀ j, j < n → nxP W n S t j = false) : FF W n S t = false := by
  rw [Bool.eq_false_iff]; intro h9
  rw [FF_eq, Bool.or_eq_true, exU_iff] at h9
  rcases h9 with h9 | ⟨k, h1, h2⟩
  · exact hS (of_decide_eq_true h9)
  · rw [h k h1] at h2; cases h2
theorem gW_eq {W : Wn} {n S t k : Nat} (hk : k < n) (h : ∀ j, j < k → nxP W n S t j = false) (h2 : nxP W n S t k = true) : gW W n S t = k := by
  have key : ∀ e j, j + e = k → nxt (nxP W n S t) (n - j) j = k := by
    intro e
    induction e with
    | zero => intro j hj; rw [show j = k by omega]; exact nxt_Y hk h2
    | succ e ih => intro j hj; rw [nxt_S (by omega) (h j (by omega))]; exact ih (j + 1) (by omega)
  exact key k 0 (by omega)
theorem pcn_z : ∀ k, pcn 0 k = 0 := by
  intro k
  induction k with
  | zero => rfl
  | succ k ih => simp [pcn, ih]
set_option maxHeartbeats 1000000 in
theorem s_m_rows1 (Γ : Gm) (μ : Mem) (m : Nat) (B : Nat → Nat) (hm : HM μ m B) (hW : WB B) (d S u t : Nat) (hd : d ≤ 3649) (d9 : Nat) (hd9 : 5 ≤ d9) (ih : ∀ (μ : Mem) S2 u t, HM μ m B → S2 < S → u + pcn S2 12 ≤ 8 → tdB B d S2 = true → t < 20000000 → SpI Γ MX9_rows d9 0 0 [.ref m, .int (nI S2), .int (nI u), .int (nI t)] μ (RQ m B d S2 u t μ)) (hS : S < 2 ^ B 85) (hu : u + pcn S 12 ≤ 8) (htd : tdB B d S = true) (ht : t < 20000000) : SpI Γ MX9_rows (d9 + 1) 0 0 [.ref m, .int (nI S), .int (nI u), .int (nI t)] μ (fun r μ2 => RQ m B d S u t μ r μ2) := by
  refine SpI.of okX9_rows rfl [some (.ref m), some (.int (nI S)), some (.int (nI u)), some (.int (nI t)), none, none] ⟨rfl, rfl, rfl, rfl, trivial⟩ (leb rfl) (leb rfl) (fun X hX hE hnm => ?_)
  have hn8 := hW.2.2.1.1; have h256 := p8 hn8; have hok := ok1F hW hd
  refine w_iload_n (i := 1) hX dX9_rows_0 rfl rfl ?_
  refine wn_if_ne (tgt := 6) hX dX9_rows_1 (by decide) (by first | omega | (split <;> omega) | (have := heg.2.2; omega)) (fun c1 => ?_) (fun c1 => ?_)
  · refine w_iconst hX dX9_rows_6 kI_0 ?_
    refine w_istore (l2 := [some (.ref m), some (.int (nI S)), some (.int (nI u)), some (.int (nI t)), some (.int (nI 0)), none]) hX dX9_rows_7 (ltb rfl) rfl rfl ?_
    have hu8 : u < 8 := by rcases Nat.eq_zero_or_pos (pcn S 12) with e | e; (exact absurd (pcn_ne (n := 12) (by omega) e) c1); omega
    have loop : ∀ k, k ≤ B 85 → ∀ ν : Mem, (same (fun o _ => o = m + 15 ∨ o = m + 16) μ ν) → (∀ i, i < u → gI ν (m + 15) i = gI μ (m + 15) i ∧ gI ν (m + 16) i = gI μ (m + 16) i) → (∀ j, j < k → nxP (W1F B d) (B 85) S t j = false) → WP Γ X 0 0 9 [some (.ref m), some (.int (nI S)), some (.int (nI u)), some (.int (nI t)), some (.int (nI k)), none] [] ν := by
      refine loopU (B 85) ?_
      intro k hk ihk ν hsm hoq hno
      have hmk := hm.sm hsm (fun o k h => by omega)
      refine w_iload hX dX9_rows_9 rfl ?_
      refine w_aload_n (i := 0) hX dX9_rows_11 rfl rfl ?_
      refine w_callVI (As := []) (rest := [.int (nI k)]) (ci := 9) (o := m) (k2 := 0) (n2 := 0) hX dX9_rows_12 (s_a_works Γ ν m B none hmk hW) okX9_works (ltb rfl) (mod_s hmk.1.1) ml_RX9_317 imX9_works seX9_works rfl (by omega) (leb rfl) rfl rfl (fun r9 μ9 hq9 => ?_)
      obtain ⟨hr9, hm9⟩ := hq9; rw [hr9, hm9]; clear hr9 hm9 r9 μ9
      refine wn_icmp_ge (tgt := 97) hX dX9_rows_15 (by decide) (by first | omega | (split <;> omega) | (have := heg.2.2; omega)) (by first | omega | (split <;> omega) | (have := heg.2.2; omega)) (fun c2 => ?_) (fun c2 => ?_)
      · refine w_iconst hX dX9_rows_97 kI_0 ?_
        have hF : FF (W1F B d) (B 85) S t = false := FF_no c1 (fun j hj => hno j (by omega))
        exact w_iret hX hE dX9_rows_98 (Or.inl rfl) rfl ⟨by rw [hF]; rfl, fun h9 => (by rw [hF] at h9; cases h9), hoq, hsm⟩
      · refine w_iload_n (i := 1) hX dX9_rows_18 rfl rfl ?_
        refine w_iload hX dX9_rows_19 rfl ?_
        refine w_ishr hX dX9_rows_21 ?_
        refine w_iconst hX dX9_rows_22 kI_1 ?_
        refine w_iand hX dX9_rows_23 ?_
        refine w_top (y := nI (if S.testBit k = true then 1 else 0)) (bit31 (by omega) (by omega)) ?_
        refine w_iconst hX dX9_rows_24 kI_1 ?_
        refine wn_icmp_ne (tgt := 91) hX dX9_rows_25 (by decide) (by first | omega | (split <;> omega) | (have := heg.2.2; omega)) (by first | omega | (split <;> omega) | (have := heg.2.2; omega)) (fun c3 => ?_) (fun c3 => ?_)
        · refine w_iincN (w := 1) (l2 := [some (.ref m), some (.int (nI S)), some (.int (nI u)), some (.int (nI t)), some (.int (nI (k + 1))), none]) hX dX9_rows_91 rfl kI_1 rfl rfl ?_
          refine w_goto (tgt := 9) hX dX9_rows_94 (by decide) ?_
          refine ihk (by omega) ν hsm hoq (fun j hj => ?_)
          by_cases e : j = k
          · subst e; rw [Bool.eq_false_iff]; intro h9; rw [if_pos (nxP_iff.mp h9).1] at c3; exact absurd rfl c3
          · exact hno j (by omega)
        · have hb : S.testBit k = true := by by_cases h9 : S.testBit k = true; (exact h9); rw [if_neg h9] at c3; omega
          have heg := eb_get (t := t) hok (show k < B 85 by omega)
          have hcl := clr_ls hb
          have hpc := pcn_clr hb 12; rw [if_pos (by omega)] at hpc
          have hl3 := (hW.2.2.1.2 k (by omega)).2.2.2.2.1
          refine w_aload_n (i := 0) hX dX9_rows_28 rfl rfl ?_
          refine w_iload hX dX9_rows_29 rfl ?_
          refine w_iload_n (i := 3) hX dX9_rows_31 rfl rfl ?_
          refine w_callVI (As := [.int (nI k), .int (nI t)]) (rest := []) (ci := 9) (o := m) (k2 := 0) (n2 := 0) hX dX9_rows_32 (s_a_begin Γ ν m B none hmk hW d k t hd (Or.inl rfl) (by omega) (tdB_iff.mp htd k (by omega) hb) (by omega)) okX9_beginFrom (ltb rfl) (mod_s hmk.1.1) ml_RX9_324 imX9_beginFrom seX9_beginFrom rfl (by omega) (leb rfl) rfl rfl (fun r9 μ9 hq9 => ?_)
          obtain ⟨hr9, hm9⟩ := hq9; rw [hr9, hm9, show WnB B (b0F B d) (skW B d none) = W1F B d from rfl]; clear hr9 hm9 r9 μ9
          refine w_istore (l2 := [some (.ref m), some (.int (nI S)), some (.int (nI u)), some (.int (nI t)), some (.int (nI k)), some (.int (nI ((eb (W1F B d) k t).getD 100000000)))]) hX dX9_rows_35 (ltb rfl) rfl rfl ?_
          refine w_aload_n (i := 0) hX dX9_rows_37 rfl rfl ?_
          refine w_getR (q := m + 15) hX dX9_rows_38 fo_RX9_103 rfl (mod_s hmk.1.1) (mod_r24 hmk.1.1) ?_
          refine w_iload_n (i := 2) hX dX9_rows_41 rfl rfl ?_
          refine w_iload hX dX9_rows_42 rfl ?_
          refine w_iastN hX dX9_rows_44 (mod_a15 hmk.1.1) (by omega) (by omega) ?_
          refine w_aload_n (i := 0) hX dX9_rows_45 rfl rfl ?_
          refine w_getR (q := m + 16) hX dX9_rows_46 fo_RX9_106 rfl (mod_s hmk.1.1) (mod_r25 hmk.1.1) ?_
          refine w_iload_n (i := 2) hX dX9_rows_49 rfl rfl ?_
          refine w_iload hX dX9_rows_50 rfl ?_
          refine w_iastN hX dX9_rows_52 (mod_a16 hmk.1.1) (by omega) (by omega) ?_
          refine w_iload hX dX9_rows_53 rfl ?_
          refine w_ldcw hX dX9_rows_55 ki_RX9_323 ?_
          refine w_top (y := nI 100000000) rfl ?_
          refine wn_icmp_ge (tgt := 91) hX dX9_rows_58 (by decide) (by first | omega | (split <;> omega) | (have := heg.2.2; omega)) (by first | omega | (split <;> omega) | (have := heg.2.2; omega)) (fun c4 => ?_) (fun c4 => ?_)
          · refine w_iincN (w := 1) (l2 := [some (.ref m), some (.int (nI S)), some (.int (nI u)), some (.int (nI t)), some (.int (nI (k + 1))), some (.int (nI ((eb (W1F B d) k t).getD 100000000)))]) hX dX9_rows_91 rfl kI_1 rfl rfl ?_
            refine w_goto (tgt := 9) hX dX9_rows_94 (by decide) ?_
            refine w_sub (l2 := [some (.ref m), some (.int (nI S)), some (.int (nI u)), some (.int (nI t)), some (.int (nI (k + 1))), none]) (by simp [lsub]) (leb rfl) ?_
            refine ihk (by omega) _ ((hsm.sI (Or.inl rfl)).sI (Or.inr rfl)) (fun i hi => ?_) (fun j hj => ?_)
            · rw [gI_no (by omega), gI_nk (by omega), gI_nk (by omega), gI_no (by omega)]; exact hoq i hi
            · by_cases e : j = k
              · subst e; rw [Bool.eq_false_iff]; intro h9; obtain ⟨-, s8, h8, h7⟩ := nxP_iff.mp h9; rw [heg.1 (by omega)] at h8; cases h8
              · exact hno j (by omega)
          · obtain ⟨s9, hs9, hs8, hs7⟩ := heg.2.1 (by omega)
            have hmR : HM (sI (sI ν (m + 15) u (nI k)) (m + 16) u (nI ((eb (W1F B d) k t).getD 100000000))) m B := (hmk.sI (by omega)).sI (by omega)
            refine w_locs (ls2 := [some (.ref m), some (.int (nI S)), some (.int (nI u)), some (.int (nI t)), some (.int (nI k)), some (.int (nI s9))]) (by rw [hs8]) ?_
            refine w_aload_n (i := 0) hX dX9_rows_61 rfl rfl ?_
            refine w_iload_n (i := 1) hX dX9_rows_62 rfl rfl ?_
            refine w_iconst hX dX9_rows_63 kI_1 ?_
            refine w_iload hX dX9_rows_64 rfl ?_
            refine w_ishl hX dX9_rows_66 ?_
            refine w_iconst hX dX9_rows_67 kI_m1 ?_
            refine w_ixor hX dX9_rows_68 ?_
            refine w_iand hX dX9_rows_69 ?_
            refine w_top (y := nI (clr S k)) (clr_nI (by omega) (by omega)) ?_
            refine w_iload_n (i := 2) hX dX9_rows_70 rfl rfl ?_
            refine w_iconst hX dX9_rows_71 kI_1 ?_
            refine w_iaddN hX dX9_rows_72 ?_
            refine w_iload hX dX9_rows_73 rfl ?_
            refine w_aload_n (i := 0) hX dX9_rows_75 rfl rfl ?_
            refine w_iload hX dX9_rows_76 rfl ?_
            refine w_iconst hX dX9_rows_78 kI_3 ?_
            refine w_callVI (As := [.int (nI k), .int (nI 3)]) (rest := [.int (nI s9), .int (nI (u + 1)), .int (nI (clr S k)), .ref m]) (ci := 9) (o := m) (k2 := 0) (n2 := 0) hX dX9_rows_79 (s_a_workOf Γ (sI (sI ν (m + 15) u (nI k)) (m + 16) u (nI ((eb (W1F B d) k t).getD 100000000))) m B none (HM.sI (HM.sI hmk (by omega)) (by omega)) hW k 3 (by omega) (by omega)) okX9_workOf (ltb rfl) (mod_s hmk.1.1) ml_RX9_320 imX9_workOf seX9_workOf rfl (by omega) (leb rfl) rfl rfl (fun r9 μ9 hq9 => ?_)
            obtain ⟨hr9, hm9⟩ := hq9; rw [hr9, hm9]; clear hr9 hm9 r9 μ9
            refine w_iaddN hX dX9_rows_82 ?_
            refine w_callVI (As := [.int (nI (clr S k)), .int (nI (u + 1)), .int (nI (s9 + (B (86 + 5 * k + 3))))]) (rest := []) (ci := 9) (o := m) (k2 := 0) (n2 := 0) hX dX9_rows_83 (ih (sI (sI ν (m + 15) u (nI k)) (m + 16) u (nI ((eb (W1F B d) k t).getD 100000000))) (clr S k) (u + 1) (s9 + B (86 + 5 * k + 3)) hmR (by omega) (by omega) (tdB_clr htd) (by omega)) okX9_rows (ltb rfl) (mod_s hmk.1.1) ml_RX9_342 imX9_rows seX9_rows rfl (by omega) (leb rfl) rfl rfl (fun r5 ν5 hq9 => ?_)
            obtain ⟨hr5, ha5, ho5, hs5⟩ := hq9; rw [hr5]
            refine wb_eq (tgt := 91) hX dX9_rows_86 (by decide) (fun hres => ?_) (fun hres => ?_)
            · refine w_iincN (w := 1) (l2 := [some (.ref m), some (.int (nI S)), some (.int (nI u)), some (.int (nI t)), some (.int (nI (k + 1))), some (.int (nI s9))]) hX dX9_rows_91 rfl kI_1 rfl rfl ?_
              refine w_goto (tgt := 9) hX dX9_rows_94 (by decide) ?_
              refine w_sub (l2 := [some (.ref m), some (.int (nI S)), some (.int (nI u)), some (.int (nI t)), some (.int (nI (k + 1))), none]) (by simp [lsub]) (leb rfl) ?_
              refine ihk (by omega) ν5 (((hsm.sI (Or.inl rfl)).sI (Or.inr rfl)).tr hs5) (fun i hi => ?_) (fun j hj => ?_)
              · have h9 := ho5 i (by omega); rw [h9.1, h9.2, gI_no (by omega), gI_nk (by omega), gI_nk (by omega), gI_no (by omega)]; exact hoq i hi
              · by_cases e : j = k
                · subst e; rw [Bool.eq_false_iff]; intro h9; obtain ⟨-, s8, h8, h7⟩ := nxP_iff.mp h9; rw [hs9] at h8; cases h8; have h6 := h7.symm.trans hres; cases h6
                · exact hno j (by omega)
            · refine w_iconst hX dX9_rows_89 kI_1 ?_
              have hnx : nxP (W1F B d) (B 85) S t k = true := nxP_iff.mpr ⟨hb, s9, hs9, hres⟩
              have hg := gW_eq (by omega) hno hnx
              have hgS : gS (W1F B d) (B 85) S t = s9 := by unfold gS; rw [hg, hs9]; rfl
              have hF : FF (W1F B d) (B 85) S t = true := by rw [FF_eq, (exU_iff _).mpr ⟨k, by omega, hnx⟩, Bool.or_true]
              refine w_iret hX hE dX9_rows_90 (Or.inl rfl) rfl ⟨by rw [hF]; rfl, fun _ i hi => ?_, fun i hi => ?_, ((hsm.sI (Or.inl rfl)).sI (Or.inr rfl)).tr hs5⟩
              · cases i with
                | zero => have h9 := ho5 u (by omega); show gI ν5 (m + 15) u = nI (gW _ _ S t) ∧ gI ν5 (m + 16) u = nI (gS _ _ S t); rw [h9.1, h9.2, gI_no (by omega), gI_same, gI_same, hg, hgS, hs8]; exact ⟨rfl, rfl⟩
                | succ i => have h9 := ha5 hres i (by omega); rw [show u + (i + 1) = u + 1 + i by omega]; show gI ν5 (m + 15) (u + 1 + i) = nI (gW _ _ (sqn _ _ i (clr S (gW _ _ S t)) (gS _ _ S t + _)).1 (sqn _ _ i (clr S (gW _ _ S t)) (gS _ _ S t + _)).2) ∧ gI ν5 (m + 16) (u + 1 + i) = nI (gS _ _ (sqn _ _ i (clr S (gW _ _ S t)) (gS _ _ S t + _)).1 (sqn _ _ i (clr S (gW _ _ S t)) (gS _ _ S t + _)).2); rw [hg, hgS]; exact h9
              · have h9 := ho5 i (by omega); rw [h9.1, h9.2, gI_no (by omega), gI_nk (by omega), gI_nk (by omega), gI_no (by omega)]; exact hoq i hi
    exact loop 0 (Nat.zero_le _) μ same.rf (fun i _ => ⟨rfl, rfl⟩) (fun j hj => absurd hj (Nat.not_lt_zero _))
  · refine w_iconst hX dX9_rows_4 kI_1 ?_
    subst c1
    exact w_iret hX hE dX9_rows_5 (Or.inl rfl) rfl ⟨by rw [FF_0]; rfl, fun _ i hi => absurd hi (by rw [pcn_z]; omega), fun i _ => ⟨rfl, rfl⟩, same.rf⟩
theorem s_m_rows (Γ : Gm) (m : Nat) (B : Nat → Nat) (hW : WB B) (d : Nat) (hd : d ≤ 3649) : ∀ n S, S < n → S < 2 ^ B 85 → tdB B d S = true → ∀ (μ : Mem) u t, HM μ m B → u + pcn S 12 ≤ 8 → t < 20000000 → SpI Γ MX9_rows (n + 5) 0 0 [.ref m, .int (nI S), .int (nI u), .int (nI t)] μ (RQ m B d S u t μ) := by
  intro n
  induction n with
  | zero => intro S h; omega
  | succ n ih =>
    intro S h1 h2 h3 μ u t hm hu ht
    have := s_m_rows1 Γ μ m B hm hW d S u t hd (n + 5) (by omega) (fun μ S2 u t g1 g2 g3 g4 g5 => ih S2 (by omega) (by omega) g4 μ u t g1 g3 g5) h2 hu h3 ht
    exact this
