theorem mk_or : ∀ k, k < 16 → ∀ i, i < 4 → nI k ||| (nI 1 <<< (nI i &&& 31)) = nI (k ||| 2 ^ i) := by decide
theorem mk_bit : ∀ k, k < 16 → ∀ i, i < 4 → (nI k >>> (nI i &&& 31)) &&& nI 1 = nI (if k.testBit i = true then 1 else 0) := by decide
theorem mk_lt : ∀ k, k < 16 → ∀ i, i < 4 → k ||| 2 ^ i < 16 := by decide
theorem mk_tb : ∀ k, k < 16 → ∀ i, i < 4 → ∀ j, j < 4 → (k ||| 2 ^ i).testBit j = (k.testBit j || decide (i = j)) := by decide
def A_mark (k : Nat) (v : Int32) (w : Bool) : Bool := inR v (nI 0) (nI 3) && (!w || k.testBit (tN v))
def N_mark (k : Nat) (v : Int32) (w : Bool) : Nat := if (inR v (nI 0) (nI 3) && !w) = true then k ||| 2 ^ tN v else k
set_option maxHeartbeats 1000000 in
theorem s_x_mark (Γ : Gm) (μ : Mem) (b c9 : Nat) (hx : isX μ b c9) (k9 : Nat) (hk16 : k9 < 16) (hk : gI μ 0 8 = nI k9) (v : Int32) (w : Bool) : SpI Γ MX8_mark 1 0 0 [.ref 0, .int v, .int (bI w)] μ (fun r μ2 => r = bI (A_mark k9 v w) ∧ gI μ2 0 8 = nI (N_mark k9 v w) ∧ same (fun o k => o = 0 ∧ k = 8) μ μ2) := by
  refine SpI.of okX8_mark rfl [some (.ref 0), some (.int v), some (.int (bI w))] ⟨rfl, rfl, rfl, trivial⟩ (leb rfl) (leb rfl) (fun X hX hE hnm => ?_)
  refine w_iload_n (i := 1) hX dX8_mark_0 rfl rfl ?_
  refine w_iconst hX dX8_mark_1 kI_0 ?_
  refine w_iconst hX dX8_mark_2 kI_3 ?_
  refine w_callSI (As := [.int v, .int (nI 0), .int (nI 3)]) (rest := []) (k2 := 0) (n2 := 0) hX dX8_mark_3 (s_within Γ μ v (nI 0) (nI 3)) okX8_within ml_RX8_81 stX8_within rfl (leb rfl) (leb rfl) rfl rfl (fun r9 μ9 hq9 => ?_)
  obtain ⟨hr9, hm9⟩ := hq9; rw [hr9, hm9]; clear hr9 hm9 r9 μ9
  refine wb_ne (tgt := 11) hX dX8_mark_6 (by decide) (fun hV => ?_) (fun hV => ?_)
  · have hvb := (inR_nI (by omega) hV).2
    refine w_iload_n (i := 2) hX dX8_mark_11 rfl rfl ?_
    refine wb_eq (tgt := 33) hX dX8_mark_12 (by decide) (fun hw => ?_) (fun hw => ?_)
    · refine w_aload_n (i := 0) hX dX8_mark_33 rfl rfl ?_
      refine w_dup hX dX8_mark_34 rfl ?_
      refine w_getI hX dX8_mark_35 fo_RX8_211 rfl hx.1 ?_
      refine w_top (y := nI k9) hk ?_
      refine w_iconst hX dX8_mark_38 kI_1 ?_
      refine w_iload_n (i := 1) hX dX8_mark_39 rfl rfl ?_
      refine w_top (y := nI (tN v)) (inR_nI (by omega) hV).1 ?_
      refine w_ishl hX dX8_mark_40 ?_
      refine w_ior hX dX8_mark_41 ?_
      refine w_top (y := nI (k9 ||| 2 ^ tN v)) (mk_or k9 hk16 (tN v) (by omega)) ?_
      refine w_putI hX dX8_mark_42 fo_RX8_211 rfl rfl rfl rfl hx.1 ?_
      refine w_iconst hX dX8_mark_45 kI_1 ?_
      exact w_iret hX hE dX8_mark_46 (Or.inl rfl) rfl ⟨bI_1 (by simp [A_mark, hV, hw]), by rw [gI_same]; simp [N_mark, hV, hw], same.rf.sI ⟨rfl, rfl⟩⟩
    · refine w_aload_n (i := 0) hX dX8_mark_15 rfl rfl ?_
      refine w_getI hX dX8_mark_16 fo_RX8_211 rfl hx.1 ?_
      refine w_top (y := nI k9) hk ?_
      refine w_iload_n (i := 1) hX dX8_mark_19 rfl rfl ?_
      refine w_top (y := nI (tN v)) (inR_nI (by omega) hV).1 ?_
      refine w_ishr hX dX8_mark_20 ?_
      refine w_iconst hX dX8_mark_21 kI_1 ?_
      refine w_iand hX dX8_mark_22 ?_
      refine w_top (y := nI (if k9.testBit (tN v) = true then 1 else 0)) (mk_bit k9 hk16 (tN v) (by omega)) ?_
      refine w_iconst hX dX8_mark_23 kI_1 ?_
      refine wn_icmp_ne (tgt := 31) hX dX8_mark_24 (by decide) (by first | omega | (split <;> omega)) (by first | omega | (split <;> omega)) (fun c3 => ?_) (fun c3 => ?_)
      · refine w_iconst hX dX8_mark_31 kI_0 ?_
        have e9 : k9.testBit (tN v) = false := by cases h9 : k9.testBit (tN v); rfl; rw [h9] at c3; exact absurd rfl c3
        exact w_iret hX hE dX8_mark_32 (Or.inl rfl) rfl ⟨bI_2 (by simp [A_mark, hV, hw, e9]), by simp [N_mark, hV, hw, hk], same.rf⟩
      · refine w_iconst hX dX8_mark_27 kI_1 ?_
        refine w_goto (tgt := 32) hX dX8_mark_28 (by decide) ?_
        have e9 : k9.testBit (tN v) = true := by by_cases h9 : k9.testBit (tN v) = true; exact h9; rw [if_neg h9] at c3; omega
        exact w_iret hX hE dX8_mark_32 (Or.inl rfl) rfl ⟨bI_1 (by simp [A_mark, hV, hw, e9]), by simp [N_mark, hV, hw, hk], same.rf⟩
  · refine w_iconst hX dX8_mark_9 kI_0 ?_
    exact w_iret hX hE dX8_mark_10 (Or.inl rfl) rfl ⟨bI_2 (by simp [A_mark, hV]), by simp [N_mark, hV, hk], same.rf⟩
set_option maxHeartbeats 1000000 in
theorem s_m_carry (Γ : Gm) (μ : Mem) (m f g : Nat) (hmd : isMod μ m) (hf : f < 6) (hg : g < 6) (hfg : f ≠ g) : SpV Γ MX9_carry 0 0 0 [.ref m, .int (nI f), .int (nI g)] μ (fun μ2 => same (fun o k => o = m + 6 ∧ 480 * g ≤ k ∧ k < 480 * g + 480) μ μ2 ∧ ∀ j, j < 480 → gI μ2 (m + 6) (480 * g + j) = gI μ (m + 6) (480 * f + j)) := by
  refine SpV.of okX9_carry rfl [some (.ref m), some (.int (nI f)), some (.int (nI g)), none] ⟨rfl, rfl, rfl, trivial⟩ (leb rfl) (leb rfl) (fun X hX hE hnm => ?_)
  have loop : ∀ k, k ≤ 480 → ∀ ν : Mem, same (fun o k => o = m + 6 ∧ 480 * g ≤ k ∧ k < 480 * g + 480) μ ν → (∀ j, j < k → gI ν (m + 6) (480 * g + j) = gI μ (m + 6) (480 * f + j)) → WP Γ X 0 0 2 [some (.ref m), some (.int (nI f)), some (.int (nI g)), some (.int (nI k))] [] ν := by
    refine loopU 480 ?_
    intro k hk ih ν hsm hcp
    have hmd := hsm.isMod hmd
    refine w_iload_n (i := 3) hX dX9_carry_2 rfl rfl ?_
    refine w_sipush hX dX9_carry_3 kS_480 ?_
    refine wn_icmp_ge (tgt := 39) hX dX9_carry_6 (by decide) (by omega) (by omega) (fun c1 => ?_) (fun c1 => ?_)
    · exact w_vret hX hE dX9_carry_39 (Or.inl rfl) ⟨hsm, fun j hj => hcp j (by omega)⟩
    · refine w_aload_n (i := 0) hX dX9_carry_9 rfl rfl ?_
      refine w_getR (q := m + 6) hX dX9_carry_10 fo_RX9_73 rfl (mod_s hmd) (mod_r10 hmd) ?_
      refine w_sipush hX dX9_carry_13 kS_480 ?_
      refine w_iload_n (i := 2) hX dX9_carry_16 rfl rfl ?_
      refine w_imulN hX dX9_carry_17 ?_
      refine w_iload_n (i := 3) hX dX9_carry_18 rfl rfl ?_
      refine w_iaddN hX dX9_carry_19 ?_
      refine w_aload_n (i := 0) hX dX9_carry_20 rfl rfl ?_
      refine w_getR (q := m + 6) hX dX9_carry_21 fo_RX9_73 rfl (mod_s hmd) (mod_r10 hmd) ?_
      refine w_sipush hX dX9_carry_24 kS_480 ?_
      refine w_iload_n (i := 1) hX dX9_carry_27 rfl rfl ?_
      refine w_imulN hX dX9_carry_28 ?_
      refine w_iload_n (i := 3) hX dX9_carry_29 rfl rfl ?_
      refine w_iaddN hX dX9_carry_30 ?_
      refine w_ialdN hX dX9_carry_31 (mod_a6 hmd) (by omega) (by omega) ?_
      refine w_top (y := gI μ (m + 6) (480 * f + k)) ((hsm.2.2 _ _ (fun h => by have h1 := h.2; omega)).1) ?_
      refine w_iastN hX dX9_carry_32 (mod_a6 hmd) (by omega) (by omega) ?_
      refine w_iincN (w := 1) (l2 := [some (.ref m), some (.int (nI f)), some (.int (nI g)), some (.int (nI (k + 1)))]) hX dX9_carry_33 rfl kI_1 rfl rfl ?_
      refine w_goto (tgt := 2) hX dX9_carry_36 (by decide) ?_
      refine ih (by omega) _ (hsm.sI ⟨rfl, by omega, by omega⟩) (fun j hj => ?_)
      by_cases hjk : j = k
      · rw [hjk, gI_same]
      · rw [gI_nk (by omega)]; exact hcp j (by omega)
  refine w_iconst hX dX9_carry_0 kI_0 ?_
  refine w_istore_n (i := 3) (l2 := [some (.ref m), some (.int (nI f)), some (.int (nI g)), some (.int (nI 0))]) hX dX9_carry_1 rfl (ltb rfl) rfl rfl ?_
  exact loop 0 (Nat.zero_le _) μ same.rf (fun j hj => by omega)
/-- the reference's marks -/
def mkR (μ : Mem) (m : Nat) (B : Nat → Nat) (k9 : Nat) : Prop := k9 < 16 ∧ ∀ i, i < 4 → gI μ (m + 22) i = bI (k9.testBit i) ∧ (k9.testBit i = true → ∀ j, j < 480 → gI μ (m + 6) (480 * (2 + i) + j) = nI (B j))
def SMk (m : Nat) : Nat → Nat → Prop := fun o k => (o = m ∧ k = 0) ∨ o = m + 6 ∨ o = m + 22
set_option maxHeartbeats 1000000 in
theorem s_m_mark (Γ : Gm) (μ : Mem) (m : Nat) (B : Nat → Nat) (hm : HM μ m B) (hW : WB B) (k9 : Nat) (hk : mkR μ m B k9) (v : Int32) (w : Bool) : SpI Γ MX9_mark 1 0 0 [.ref m, .int v, .int (bI w)] μ (fun r μ2 => r = bI (A_mark k9 v w) ∧ HM μ2 m B ∧ mkR μ2 m B (N_mark k9 v w) ∧ same (SMk m) μ μ2) := by
  refine SpI.of okX9_mark rfl [some (.ref m), some (.int v), some (.int (bI w))] ⟨rfl, rfl, rfl, trivial⟩ (leb rfl) (leb rfl) (fun X hX hE hnm => ?_)
  refine w_aload_n (i := 0) hX dX9_mark_0 rfl rfl ?_
  refine w_iconst hX dX9_mark_1 kI_0 ?_
  refine w_putI hX dX9_mark_2 fo_RX9_1 rfl rfl rfl rfl (mod_s hm.1.1) ?_
  refine w_iload_n (i := 1) hX dX9_mark_5 rfl rfl ?_
  refine w_iconst hX dX9_mark_6 kI_0 ?_
  refine w_iconst hX dX9_mark_7 kI_3 ?_
  refine w_callSI (As := [.int v, .int (nI 0), .int (nI 3)]) (rest := []) (k2 := 0) (n2 := 0) hX dX9_mark_8 (s_m_isIn Γ (sI μ m 0 (nI 0)) v (nI 0) (nI 3)) okX9_isIn ml_RX9_262 stX9_isIn rfl (leb rfl) (leb rfl) rfl rfl (fun r9 μ9 hq9 => ?_)
  obtain ⟨hr9, hm9⟩ := hq9; rw [hr9, hm9]; clear hr9 hm9 r9 μ9
  refine wb_eq (tgt := 27) hX dX9_mark_11 (by decide) (fun hV => ?_) (fun hV => ?_)
  · refine w_iconst hX dX9_mark_27 kI_0 ?_
    refine w_iret hX hE dX9_mark_28 (Or.inl rfl) rfl ⟨bI_2 (by simp [A_mark, hV]), hm.f (by omega), ?_, same.rf.sI (Or.inl ⟨rfl, rfl⟩)⟩
    have e9 : N_mark k9 v w = k9 := by simp [N_mark, hV]
    rw [e9]
    exact ⟨hk.1, fun i hi => ⟨by rw [gI_no (by omega)]; exact (hk.2 i hi).1, fun h j hj => by rw [gI_no (by omega)]; exact (hk.2 i hi).2 h j hj⟩⟩
  · have hvb := (inR_nI (by omega) hV).2
    refine w_iload_n (i := 2) hX dX9_mark_14 rfl rfl ?_
    refine wb_eq (tgt := 29) hX dX9_mark_15 (by decide) (fun hw => ?_) (fun hw => ?_)
    · refine w_iload_n (i := 2) hX dX9_mark_29 rfl rfl ?_
      refine wb_ne (tgt := 40) hX dX9_mark_30 (by decide) (fun c3 => ?_) (fun c3 => ?_)
      · exact absurd (hw.symm.trans c3) (by decide)
      · refine w_aload_n (i := 0) hX dX9_mark_33 rfl rfl ?_
        refine w_getR (q := m + 22) hX dX9_mark_34 fo_RX9_125 rfl (mod_s hm.1.1) (mod_r32 hm.1.1) ?_
        refine w_iload_n (i := 1) hX dX9_mark_37 rfl rfl ?_
        refine w_top (y := nI (tN v)) (inR_nI (by omega) hV).1 ?_
        refine w_iconst hX dX9_mark_38 kI_1 ?_
        refine w_zastN hX dX9_mark_39 (mod_a22 hm.1.1) (by omega) (by omega) rfl ?_
        refine w_aload_n (i := 0) hX dX9_mark_40 rfl rfl ?_
        refine w_iload_n (i := 2) hX dX9_mark_41 rfl rfl ?_
        refine wb_eq (tgt := 51) hX dX9_mark_42 (by decide) (fun c4 => ?_) (fun c4 => ?_)
        · refine w_iconst hX dX9_mark_51 kI_0 ?_
          refine w_iload_n (i := 2) hX dX9_mark_52 rfl rfl ?_
          refine wb_eq (tgt := 60) hX dX9_mark_53 (by decide) (fun c5 => ?_) (fun c5 => ?_)
          · refine w_iconst hX dX9_mark_60 kI_2 ?_
            refine w_iload_n (i := 1) hX dX9_mark_61 rfl rfl ?_
            refine w_top (y := nI (tN v)) (inR_nI (by omega) hV).1 ?_
            refine w_iaddN hX dX9_mark_62 ?_
            refine w_callVV (As := [.int (nI 0), .int (nI (2 + (tN v)))]) (rest := []) (ci := 9) (o := m) (k2 := 0) (n2 := 0) hX dX9_mark_63 (s_m_carry Γ (sI (sI μ m 0 (nI 0)) (m + 22) (tN v) (nI 1)) m 0 (2 + (tN v)) hm.1.1 (by omega) (by omega) (by omega)) okX9_carry (ltb rfl) (mod_s hm.1.1) ml_RX9_189 imX9_carry seX9_carry rfl (leb rfl) (leb rfl) rfl rfl (fun ν hq9 => ?_)
            obtain ⟨q1, q2⟩ := hq9
            refine w_iconst hX dX9_mark_66 kI_1 ?_
            have e9 : N_mark k9 v w = k9 ||| 2 ^ tN v := by simp [N_mark, hw, hV]
            have hqm := q1.isMod (hm.f (k := 0) (v := nI 0) (by omega)).1.1
            have hsB : ∀ j, j < 480 → gI ν (m + 6) j = nI (B j) := fun j hj => by rw [(q1.2.2 (m + 6) j (fun h => by have := h.2; omega)).1, gI_no (by omega), gI_no (by omega)]; exact (hm.1.2 j hj).1
            refine w_iret hX hE dX9_mark_67 (Or.inl rfl) rfl ⟨bI_1 (by simp [A_mark, hV, hw]), ⟨⟨hqm, fun j hj => ⟨hsB j hj, (hm.1.2 j hj).2⟩⟩, ⟨by rw [(q1.2.2 m 16 (fun h => by have := h.1; omega)).1, gI_no (by omega), gI_nk (by omega)]; exact hm.2.1.1, hm.2.1.2⟩, hm.2.2⟩, ?_, (((same.rf.sI (Or.inl ⟨rfl, rfl⟩) : same (SMk m) μ (sI μ m 0 (nI 0)))).sI (Or.inr (Or.inr rfl))).tr (q1.up (fun o k h => Or.inr (Or.inl h.1)))⟩
            rw [e9]
            refine ⟨mk_lt _ hk.1 _ (by omega), fun i hi => ?_⟩
            rw [mk_tb _ hk.1 _ (by omega) _ hi]
            by_cases hiv : tN v = i
            · subst hiv
              refine ⟨by rw [(q1.2.2 (m + 22) (tN v) (fun h => by have := h.1; omega)).1, gI_same]; simp; rfl, fun h j hj => ?_⟩
              rw [q2 j hj, show 480 * 0 + j = j by omega, gI_no (by omega), gI_no (by omega)]; exact (hm.1.2 j hj).1
            · refine ⟨by rw [(q1.2.2 (m + 22) i (fun h => by have := h.1; omega)).1, gI_nk (by omega), gI_no (by omega), (hk.2 i hi).1]; simp [hiv], fun h j hj => ?_⟩
              have h2 : k9.testBit i = true := by simpa [hiv] using h
              rw [(q1.2.2 (m + 6) (480 * (2 + i) + j) (fun h => by have := h.2; omega)).1, gI_no (by omega), gI_no (by omega)]; exact (hk.2 i hi).2 h2 j hj
          · exact absurd (hw.symm.trans c5) (by decide)
        · exact absurd (hw.symm.trans c4) (by decide)
    · refine w_aload_n (i := 0) hX dX9_mark_18 rfl rfl ?_
      refine w_getR (q := m + 22) hX dX9_mark_19 fo_RX9_125 rfl (mod_s hm.1.1) (mod_r32 hm.1.1) ?_
      refine w_iload_n (i := 1) hX dX9_mark_22 rfl rfl ?_
      refine w_top (y := nI (tN v)) (inR_nI (by omega) hV).1 ?_
      refine w_zaldN hX dX9_mark_23 (mod_a22 hm.1.1) (by omega) (by omega) ?_
      refine w_top (y := bI (k9.testBit (tN v))) (by rw [gI_no (by omega)]; exact (hk.2 _ (by omega)).1) ?_
      refine wb_ne (tgt := 29) hX dX9_mark_24 (by decide) (fun hb9 => ?_) (fun hb9 => ?_)
      · refine w_iload_n (i := 2) hX dX9_mark_29 rfl rfl ?_
        refine wb_ne (tgt := 40) hX dX9_mark_30 (by decide) (fun c7 => ?_) (fun c7 => ?_)
        · refine w_aload_n (i := 0) hX dX9_mark_40 rfl rfl ?_
          refine w_iload_n (i := 2) hX dX9_mark_41 rfl rfl ?_
          refine wb_eq (tgt := 51) hX dX9_mark_42 (by decide) (fun c8 => ?_) (fun c8 => ?_)
          · exact absurd (hw.symm.trans c8) (by decide)
          · refine w_iconst hX dX9_mark_45 kI_2 ?_
            refine w_iload_n (i := 1) hX dX9_mark_46 rfl rfl ?_
            refine w_top (y := nI (tN v)) (inR_nI (by omega) hV).1 ?_
            refine w_iaddN hX dX9_mark_47 ?_
            refine w_goto (tgt := 52) hX dX9_mark_48 (by decide) ?_
            refine w_iload_n (i := 2) hX dX9_mark_52 rfl rfl ?_
            refine wb_eq (tgt := 60) hX dX9_mark_53 (by decide) (fun c9 => ?_) (fun c9 => ?_)
            · exact absurd (hw.symm.trans c9) (by decide)
            · refine w_iconst hX dX9_mark_56 kI_0 ?_
              refine w_goto (tgt := 63) hX dX9_mark_57 (by decide) ?_
              refine w_callVV (As := [.int (nI (2 + (tN v))), .int (nI 0)]) (rest := []) (ci := 9) (o := m) (k2 := 0) (n2 := 0) hX dX9_mark_63 (s_m_carry Γ (sI μ m 0 (nI 0)) m (2 + (tN v)) 0 hm.1.1 (by omega) (by omega) (by omega)) okX9_carry (ltb rfl) (mod_s hm.1.1) ml_RX9_189 imX9_carry seX9_carry rfl (leb rfl) (leb rfl) rfl rfl (fun ν hq9 => ?_)
              obtain ⟨q1, q2⟩ := hq9
              refine w_iconst hX dX9_mark_66 kI_1 ?_
              have e9 : N_mark k9 v w = k9 := by simp [N_mark, hw]
              have hqm := q1.isMod (hm.f (k := 0) (v := nI 0) (by omega)).1.1
              have hsB : ∀ j, j < 480 → gI ν (m + 6) j = nI (B j) := fun j hj => by have h1 := q2 j hj; rw [show 480 * 0 + j = j by omega] at h1; rw [h1, gI_no (by omega)]; exact (hk.2 (tN v) (by omega)).2 hb9 j hj
              refine w_iret hX hE dX9_mark_67 (Or.inl rfl) rfl ⟨bI_1 (by simp [A_mark, hV, hw, hb9]), ⟨⟨hqm, fun j hj => ⟨hsB j hj, (hm.1.2 j hj).2⟩⟩, ⟨by rw [(q1.2.2 m 16 (fun h => by have := h.1; omega)).1, gI_nk (by omega)]; exact hm.2.1.1, hm.2.1.2⟩, hm.2.2⟩, ?_, ((same.rf.sI (Or.inl ⟨rfl, rfl⟩) : same (SMk m) μ (sI μ m 0 (nI 0)))).tr (q1.up (fun o k h => Or.inr (Or.inl h.1)))⟩
              rw [e9]
              exact ⟨hk.1, fun i hi => ⟨by rw [(q1.2.2 (m + 22) i (fun h => by have := h.1; omega)).1, gI_no (by omega)]; exact (hk.2 i hi).1, fun h j hj => by rw [(q1.2.2 (m + 6) (480 * (2 + i) + j) (fun h => by have := h.2; omega)).1, gI_no (by omega)]; exact (hk.2 i hi).2 h j hj⟩⟩
        · exact absurd (hw.symm.trans c7) (by decide)
      · refine w_iconst hX dX9_mark_27 kI_0 ?_
        refine w_iret hX hE dX9_mark_28 (Or.inl rfl) rfl ⟨bI_2 (by simp [A_mark, hV, hw, hb9]), hm.f (by omega), ?_, same.rf.sI (Or.inl ⟨rfl, rfl⟩)⟩
        have e9 : N_mark k9 v w = k9 := by simp [N_mark, hV, hw, hb9]
        rw [e9]
        exact ⟨hk.1, fun i hi => ⟨by rw [gI_no (by omega)]; exact (hk.2 i hi).1, fun h j hj => by rw [gI_no (by omega)]; exact (hk.2 i hi).2 h j hj⟩⟩
