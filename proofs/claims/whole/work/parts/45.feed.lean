/-- the byte of v that stands at shift sh -/
def byN (v : Int64) (sh : Nat) : Nat := v.toBitVec.toNat / 2 ^ sh % 256
theorem byN_lt (v : Int64) (sh : Nat) : byN v sh < 256 := Nat.mod_lt _ (by omega)
theorem by_class (v : Int64) {sh : Nat} (h : sh < 64) : (((v.toUInt64 >>> ((nI sh).toInt64.toUInt64 &&& Int64.toUInt64 63)).toInt64) &&& (255 : Int64)).toInt32 = nI (byN v sh) := by
  obtain ⟨n, hn, rfl⟩ := wb_of v
  rw [wb_shr hn h, show (255 : Int64) = lN (2 ^ 8 - 1) from rfl, wb_mask (Nat.lt_of_le_of_lt (Nat.div_le_self _ _) hn) (by omega), lN_i]
  unfold byN
  rw [wb_tn hn]
theorem by_model (v : Int64) (k : Nat) (h : k < 8) : (v >>> ((nI (56 - 8 * k)).toInt64 &&& 63)).toInt32 &&& nI 255 = nI (byN v (56 - 8 * k)) := by
  have hs : ∀ j : Fin 8, ((nI (56 - 8 * j.val)).toInt64 &&& 63).toBitVec.smod 64 = BitVec.ofNat 64 (56 - 8 * j.val) := by decide
  have e1 : (v >>> ((nI (56 - 8 * k)).toInt64 &&& 63)).toBitVec = v.toBitVec.sshiftRight (56 - 8 * k) := by
    rw [Int64.toBitVec_shiftRight, hs ⟨k, h⟩, BitVec.sshiftRight_eq']
    congr 1
    simp
    omega
  rw [pk_and _ 8 rfl]
  congr 1
  unfold byN
  have e2 : (v >>> ((nI (56 - 8 * k)).toInt64 &&& 63)).toInt32.toBitVec.toNat % 2 ^ 8 = (v.toBitVec.sshiftRight (56 - 8 * k)).toNat % 256 := by
    rw [← e1]
    show (BitVec.signExtend 32 _).toNat % _ = _
    rw [BitVec.signExtend_eq_setWidth_of_le _ (by omega), BitVec.toNat_setWidth]
    omega
  rw [e2]
  have hlt := v.toBitVec.isLt
  by_cases hm : v.toBitVec.msb = true
  · rw [BitVec.toNat_sshiftRight_of_msb_true hm, Nat.shiftRight_eq_div_pow]
    have hk : k = 0 ∨ k = 1 ∨ k = 2 ∨ k = 3 ∨ k = 4 ∨ k = 5 ∨ k = 6 ∨ k = 7 := by omega
    rcases hk with rfl | rfl | rfl | rfl | rfl | rfl | rfl | rfl <;> simp only [Nat.reduceMul, Nat.reduceSub, Nat.reducePow] at * <;> omega
  · rw [BitVec.toNat_sshiftRight_of_msb_false (by simpa using hm), Nat.shiftRight_eq_div_pow]
theorem inR_N {a lo hi : Nat} (ha : a < 2 ^ 31) (hl : lo < 2 ^ 31) (hh : hi < 2 ^ 31) : inR (nI a) (nI lo) (nI hi) = (decide (lo ≤ a) && decide (a ≤ hi)) := by
  unfold inR
  rw [decide_eq_decide.mpr (nI_leI hl ha), decide_eq_decide.mpr (nI_leI ha hh)]
theorem i8 : ∀ c, c < 128 → (nI c).toInt8.toInt32 = nI c := by decide
/-- the signs of the tape -/
def okS (c : Nat) : Bool := decide (c = 10) || (decide (32 ≤ c) && decide (c ≤ 126))
abbrev Tp : Type := (Nat → Nat) × Nat
def pushT (s : Tp) (c : Nat) : Tp := if okS c = true ∧ s.2 < 1000 then ((fun j => if j = s.2 then c else s.1 j), s.2 + 1) else s
def apT (v : Int64) (s : Tp) : Nat → Tp
  | 0 => s
  | k + 1 => pushT (apT v s k) (byN v (56 - 8 * k))
def okT (s : Tp) : Prop := s.2 ≤ 1000 ∧ ∀ j, j < s.2 → okS (s.1 j) = true
theorem okS_lt {c : Nat} (h : okS c = true) : 10 ≤ c ∧ c ≤ 126 := by
  simp only [okS, Bool.or_eq_true, Bool.and_eq_true, decide_eq_true_eq] at h
  omega
theorem pushT_ok {s : Tp} {c : Nat} (h : okT s) : okT (pushT s c) := by
  unfold pushT
  split
  · rename_i hc
    refine ⟨by show s.2 + 1 ≤ 1000; omega, fun j hj => ?_⟩
    show okS (if j = s.2 then c else s.1 j) = true
    split
    · exact hc.1
    · exact h.2 j (by have : j < s.2 + 1 := hj; omega)
  · exact h
theorem apT_ok {v : Int64} {s : Tp} (h : okT s) : ∀ k, okT (apT v s k) := by
  intro k
  induction k with
  | zero => exact h
  | succ k ih => exact pushT_ok ih
/-- the class's tape at t, the reference's at m -/
def tpR (μ : Mem) (t : Nat) (s : Tp) : Prop := isTp μ t ∧ gI μ t 1 = nI s.2 ∧ ∀ j, j < s.2 → gI μ (t + 1) j = nI (s.1 j)
def mtR (μ : Mem) (m : Nat) (s : Tp) : Prop := isMod μ m ∧ gI μ m 2 = nI s.2 ∧ ∀ j, j < s.2 → gI μ (m + 1) j = nI (s.1 j)
def shI (k : Nat) : Int32 := nI 56 - nI (8 * k)
theorem shI_n {k : Nat} (h : k < 8) : shI k = nI (56 - 8 * k) := pk_sub (by omega)
theorem shI_s (k : Nat) : shI k + Int32.ofInt (-8) = shI (k + 1) := by
  have e : Int32.ofInt (-8) = -nI 8 := by decide
  unfold shI
  rw [e, show 8 * (k + 1) = 8 * k + 8 by omega, ← nI_add, Int32.sub_eq_add_neg, Int32.sub_eq_add_neg, Int32.neg_add, Int32.sub_eq_add_neg, Int32.add_assoc]
theorem shI_8 : shI 8 = (-8 : Int32) := by decide
set_option maxHeartbeats 1000000 in
theorem s_append (Γ : Gm) (μ : Mem) (t : Nat) (v : Int64) (s : Tp) (ht : tpR μ t s) (hs : okT s) : SpV Γ MX5_append 1 0 0 [.ref t, .long v] μ (fun μ2 => same (fun o k => (o = t ∧ k = 1) ∨ o = t + 1) μ μ2 ∧ tpR μ2 t (apT v s 8)) := by
  refine SpV.of okX5_append rfl [some (.ref t), some (.long v), none, none, none] ⟨rfl, rfl, trivial⟩ (leb rfl) (leb rfl) (fun X hX hE hnm => ?_)
  have loop : ∀ k, k ≤ 8 → ∀ ν : Mem, same (fun o k => (o = t ∧ k = 1) ∨ o = t + 1) μ ν → tpR ν t (apT v s k) → WP Γ X 0 0 3 [some (.ref t), some (.long v), none, some (.int (shI k)), none] [] ν := by
    refine loopU 8 ?_
    intro k hk ih ν hsm hr
    have hok := apT_ok (v := v) hs k
    have hby := byN_lt v (56 - 8 * k)
    have hlim := hok.1
    by_cases hk8 : k < 8
    · refine w_iload_n (i := 3) hX dX5_append_3 rfl rfl ?_
      refine w_top (y := nI (56 - 8 * k)) (shI_n hk8) ?_
      refine wn_if_lt (tgt := 74) hX dX5_append_4 (by decide) (by omega) (fun c1 => ?_) (fun c1 => ?_)
      · exact absurd c1 (by omega)
      · refine w_lload_n (i := 1) hX dX5_append_7 rfl rfl ?_
        refine w_iload_n (i := 3) hX dX5_append_8 rfl rfl ?_
        refine w_top (y := nI (56 - 8 * k)) (shI_n hk8) ?_
        refine w_lushr hX dX5_append_9 ?_
        refine w_ldc2 hX dX5_append_10 kl_RX5_13 ?_
        refine w_land hX dX5_append_13 ?_
        refine w_l2i hX dX5_append_14 ?_
        refine w_top (y := nI (byN v (56 - 8 * k))) (by_class (sh := 56 - 8 * k) v (Nat.lt_of_le_of_lt (Nat.sub_le _ _) (ltb rfl))) ?_
        refine w_istore (l2 := [some (.ref t), some (.long v), none, some (.int (shI k)), some (.int (nI (byN v (56 - 8 * k))))]) hX dX5_append_15 (ltb rfl) rfl rfl ?_
        refine w_iload hX dX5_append_17 rfl ?_
        refine w_bipush hX dX5_append_19 kB_10 ?_
        refine wn_icmp_eq (tgt := 36) hX dX5_append_21 (by decide) (by omega) (by omega) (fun c2 => ?_) (fun c2 => ?_)
        · refine w_aload_n (i := 0) hX dX5_append_36 rfl rfl ?_
          refine w_getI hX dX5_append_37 fo_RX5_21 rfl (tp_s hr.1) ?_
          refine w_top (y := nI ((apT v s k).2)) hr.2.1 ?_
          refine w_sipush hX dX5_append_40 kS_1000 ?_
          refine wn_icmp_ge (tgt := 68) hX dX5_append_43 (by decide) (by omega) (by omega) (fun c3 => ?_) (fun c3 => ?_)
          · refine w_iinc (l2 := [some (.ref t), some (.long v), none, some (.int (shI k + Int32.ofInt (-8))), some (.int (nI (byN v (56 - 8 * k))))]) hX dX5_append_68 rfl rfl rfl rfl ?_
            refine w_goto (tgt := 3) hX dX5_append_71 (by decide) ?_
            have e7 : ¬ (okS (byN v (56 - 8 * k)) = true ∧ (apT v s k).2 < 1000) := by
              simp only [okS, Bool.or_eq_true, Bool.and_eq_true, Bool.and_eq_false_iff, decide_eq_true_eq, decide_eq_false_iff_not] at *
              omega
            have e8 : apT v s (k + 1) = apT v s k := by simp only [apT, pushT]; rw [if_neg e7]
            rw [shI_s]
            refine w_sub (l2 := [some (.ref t), some (.long v), none, some (.int (shI (k + 1))), none]) (by simp [lsub]) (leb rfl) ?_
            exact ih (by omega) ν hsm (by rw [e8]; exact hr)
          · have h8 : byN v (56 - 8 * k) < 128 := by simp only [Bool.and_eq_true, decide_eq_true_eq] at *; omega
            refine w_aload_n (i := 0) hX dX5_append_46 rfl rfl ?_
            refine w_getR (q := t + 1) hX dX5_append_47 fo_RX5_9 rfl (tp_s hr.1) (tp_r0 hr.1) ?_
            refine w_aload_n (i := 0) hX dX5_append_50 rfl rfl ?_
            refine w_getI hX dX5_append_51 fo_RX5_21 rfl (tp_s hr.1) ?_
            refine w_top (y := nI ((apT v s k).2)) hr.2.1 ?_
            refine w_iload hX dX5_append_54 rfl ?_
            refine w_i2b hX dX5_append_56 ?_
            refine w_top (y := nI (byN v (56 - 8 * k))) (i8 _ h8) ?_
            refine w_bastN (w := nI (byN v (56 - 8 * k))) hX dX5_append_57 (tp_a1 hr.1) (by omega) (by omega) (by rw [vp_nar_byte]; exact i8 _ h8) ?_
            refine w_aload_n (i := 0) hX dX5_append_58 rfl rfl ?_
            refine w_dup hX dX5_append_59 rfl ?_
            refine w_getI hX dX5_append_60 fo_RX5_21 rfl (tp_s hr.1) ?_
            refine w_top (y := nI ((apT v s k).2)) (by rw [gI_no (by omega)]; exact hr.2.1) ?_
            refine w_iconst hX dX5_append_63 kI_1 ?_
            refine w_iaddN hX dX5_append_64 ?_
            refine w_putI hX dX5_append_65 fo_RX5_21 rfl rfl rfl rfl (tp_s hr.1) ?_
            refine w_iinc (l2 := [some (.ref t), some (.long v), none, some (.int (shI k + Int32.ofInt (-8))), some (.int (nI (byN v (56 - 8 * k))))]) hX dX5_append_68 rfl rfl rfl rfl ?_
            refine w_goto (tgt := 3) hX dX5_append_71 (by decide) ?_
            have e7 : okS (byN v (56 - 8 * k)) = true ∧ (apT v s k).2 < 1000 := by
              simp only [okS, Bool.or_eq_true, Bool.and_eq_true, Bool.and_eq_false_iff, decide_eq_true_eq, decide_eq_false_iff_not] at *
              omega
            have e8 : apT v s (k + 1) = ((fun j => if j = (apT v s k).2 then byN v (56 - 8 * k) else (apT v s k).1 j), (apT v s k).2 + 1) := by simp only [apT, pushT]; rw [if_pos e7]
            rw [shI_s]
            refine w_sub (l2 := [some (.ref t), some (.long v), none, some (.int (shI (k + 1))), none]) (by simp [lsub]) (leb rfl) ?_
            refine ih (by omega) _ ((hsm.sI (by first | exact Or.inl rfl | exact Or.inr ⟨rfl, rfl⟩ | exact Or.inl ⟨rfl, rfl⟩ | exact Or.inr rfl)).sI (by first | exact Or.inl ⟨rfl, rfl⟩ | exact Or.inr ⟨rfl, rfl⟩ | exact Or.inl rfl | exact Or.inr rfl)) ?_
            rw [e8]
            refine ⟨hr.1, gI_same, fun j hj => ?_⟩
            rw [gI_no (by omega)]
            show _ = nI (if j = (apT v s k).2 then byN v (56 - 8 * k) else (apT v s k).1 j)
            by_cases hj2 : j = (apT v s k).2
            · rw [if_pos hj2, hj2, gI_same]
            · rw [if_neg hj2, gI_nk hj2]; exact hr.2.2 j (by have : j < (apT v s k).2 + 1 := hj; omega)
        · refine w_iload hX dX5_append_24 rfl ?_
          refine w_bipush hX dX5_append_26 kB_32 ?_
          refine w_bipush hX dX5_append_28 kB_126 ?_
          refine w_callSNI (As := [.int (nI (byN v (56 - 8 * k))), .int (nI 32), .int (nI 126)]) (rest := []) (k2 := 0) (n2 := 0) hX dX5_append_30 (s_within Γ ν (nI (byN v (56 - 8 * k))) (nI 32) (nI 126)) okX8_within (List.mem_of_getElem? (i := 6) rfl) stX8_within rfl (leb rfl) (leb rfl) rfl rfl (fun r9 μ9 hq9 => ?_)
          obtain ⟨hr9, hm9⟩ := hq9; rw [hr9, hm9, inR_N (by omega) (by omega) (by omega)]; clear hr9 hm9 r9 μ9
          refine wb_eq (tgt := 68) hX dX5_append_33 (by decide) (fun c4 => ?_) (fun c4 => ?_)
          · refine w_iinc (l2 := [some (.ref t), some (.long v), none, some (.int (shI k + Int32.ofInt (-8))), some (.int (nI (byN v (56 - 8 * k))))]) hX dX5_append_68 rfl rfl rfl rfl ?_
            refine w_goto (tgt := 3) hX dX5_append_71 (by decide) ?_
            have e7 : ¬ (okS (byN v (56 - 8 * k)) = true ∧ (apT v s k).2 < 1000) := by
              simp only [okS, Bool.or_eq_true, Bool.and_eq_true, Bool.and_eq_false_iff, decide_eq_true_eq, decide_eq_false_iff_not] at *
              omega
            have e8 : apT v s (k + 1) = apT v s k := by simp only [apT, pushT]; rw [if_neg e7]
            rw [shI_s]
            refine w_sub (l2 := [some (.ref t), some (.long v), none, some (.int (shI (k + 1))), none]) (by simp [lsub]) (leb rfl) ?_
            exact ih (by omega) ν hsm (by rw [e8]; exact hr)
          · refine w_aload_n (i := 0) hX dX5_append_36 rfl rfl ?_
            refine w_getI hX dX5_append_37 fo_RX5_21 rfl (tp_s hr.1) ?_
            refine w_top (y := nI ((apT v s k).2)) hr.2.1 ?_
            refine w_sipush hX dX5_append_40 kS_1000 ?_
            refine wn_icmp_ge (tgt := 68) hX dX5_append_43 (by decide) (by omega) (by omega) (fun c5 => ?_) (fun c5 => ?_)
            · refine w_iinc (l2 := [some (.ref t), some (.long v), none, some (.int (shI k + Int32.ofInt (-8))), some (.int (nI (byN v (56 - 8 * k))))]) hX dX5_append_68 rfl rfl rfl rfl ?_
              refine w_goto (tgt := 3) hX dX5_append_71 (by decide) ?_
              have e7 : ¬ (okS (byN v (56 - 8 * k)) = true ∧ (apT v s k).2 < 1000) := by
                simp only [okS, Bool.or_eq_true, Bool.and_eq_true, Bool.and_eq_false_iff, decide_eq_true_eq, decide_eq_false_iff_not] at *
                omega
              have e8 : apT v s (k + 1) = apT v s k := by simp only [apT, pushT]; rw [if_neg e7]
              rw [shI_s]
              refine w_sub (l2 := [some (.ref t), some (.long v), none, some (.int (shI (k + 1))), none]) (by simp [lsub]) (leb rfl) ?_
              exact ih (by omega) ν hsm (by rw [e8]; exact hr)
            · have h8 : byN v (56 - 8 * k) < 128 := by simp only [Bool.and_eq_true, decide_eq_true_eq] at *; omega
              refine w_aload_n (i := 0) hX dX5_append_46 rfl rfl ?_
              refine w_getR (q := t + 1) hX dX5_append_47 fo_RX5_9 rfl (tp_s hr.1) (tp_r0 hr.1) ?_
              refine w_aload_n (i := 0) hX dX5_append_50 rfl rfl ?_
              refine w_getI hX dX5_append_51 fo_RX5_21 rfl (tp_s hr.1) ?_
              refine w_top (y := nI ((apT v s k).2)) hr.2.1 ?_
              refine w_iload hX dX5_append_54 rfl ?_
              refine w_i2b hX dX5_append_56 ?_
              refine w_top (y := nI (byN v (56 - 8 * k))) (i8 _ h8) ?_
              refine w_bastN (w := nI (byN v (56 - 8 * k))) hX dX5_append_57 (tp_a1 hr.1) (by omega) (by omega) (by rw [vp_nar_byte]; exact i8 _ h8) ?_
              refine w_aload_n (i := 0) hX dX5_append_58 rfl rfl ?_
              refine w_dup hX dX5_append_59 rfl ?_
              refine w_getI hX dX5_append_60 fo_RX5_21 rfl (tp_s hr.1) ?_
              refine w_top (y := nI ((apT v s k).2)) (by rw [gI_no (by omega)]; exact hr.2.1) ?_
              refine w_iconst hX dX5_append_63 kI_1 ?_
              refine w_iaddN hX dX5_append_64 ?_
              refine w_putI hX dX5_append_65 fo_RX5_21 rfl rfl rfl rfl (tp_s hr.1) ?_
              refine w_iinc (l2 := [some (.ref t), some (.long v), none, some (.int (shI k + Int32.ofInt (-8))), some (.int (nI (byN v (56 - 8 * k))))]) hX dX5_append_68 rfl rfl rfl rfl ?_
              refine w_goto (tgt := 3) hX dX5_append_71 (by decide) ?_
              have e7 : okS (byN v (56 - 8 * k)) = true ∧ (apT v s k).2 < 1000 := by
                simp only [okS, Bool.or_eq_true, Bool.and_eq_true, Bool.and_eq_false_iff, decide_eq_true_eq, decide_eq_false_iff_not] at *
                omega
              have e8 : apT v s (k + 1) = ((fun j => if j = (apT v s k).2 then byN v (56 - 8 * k) else (apT v s k).1 j), (apT v s k).2 + 1) := by simp only [apT, pushT]; rw [if_pos e7]
              rw [shI_s]
              refine w_sub (l2 := [some (.ref t), some (.long v), none, some (.int (shI (k + 1))), none]) (by simp [lsub]) (leb rfl) ?_
              refine ih (by omega) _ ((hsm.sI (by first | exact Or.inl rfl | exact Or.inr ⟨rfl, rfl⟩ | exact Or.inl ⟨rfl, rfl⟩ | exact Or.inr rfl)).sI (by first | exact Or.inl ⟨rfl, rfl⟩ | exact Or.inr ⟨rfl, rfl⟩ | exact Or.inl rfl | exact Or.inr rfl)) ?_
              rw [e8]
              refine ⟨hr.1, gI_same, fun j hj => ?_⟩
              rw [gI_no (by omega)]
              show _ = nI (if j = (apT v s k).2 then byN v (56 - 8 * k) else (apT v s k).1 j)
              by_cases hj2 : j = (apT v s k).2
              · rw [if_pos hj2, hj2, gI_same]
              · rw [if_neg hj2, gI_nk hj2]; exact hr.2.2 j (by have : j < (apT v s k).2 + 1 := hj; omega)
    · refine w_iload_n (i := 3) hX dX5_append_3 rfl rfl ?_
      refine w_top (y := (-8 : Int32)) (by rw [show k = 8 by omega]; exact shI_8) ?_
      refine wc_if_lt (tgt := 74) hX dX5_append_4 (by decide) (fun c9 => ?_) (fun c9 => absurd c9 (by decide))
      exact w_vret hX hE dX5_append_74 (Or.inl rfl) ⟨hsm, by rw [show k = 8 by omega] at hr; exact hr⟩
  refine w_bipush hX dX5_append_0 kB_56 ?_
  refine w_istore_n (i := 3) (l2 := [some (.ref t), some (.long v), none, some (.int (nI 56)), none]) hX dX5_append_2 rfl (ltb rfl) rfl rfl ?_
  have e9 : nI 56 = shI 0 := by decide
  rw [e9]
  exact loop 0 (Nat.zero_le _) μ same.rf ht
set_option maxHeartbeats 1000000 in
theorem s_lay (Γ : Gm) (μ : Mem) (m : Nat) (v : Int64) (s : Tp) (ht : mtR μ m s) (hs : okT s) : SpV Γ MX9_lay 0 0 0 [.ref m, .long v] μ (fun μ2 => same (fun o k => (o = m ∧ k = 2) ∨ o = m + 1) μ μ2 ∧ mtR μ2 m (apT v s 8)) := by
  refine SpV.of okX9_lay rfl [some (.ref m), some (.long v), none, none, none] ⟨rfl, rfl, trivial⟩ (leb rfl) (leb rfl) (fun X hX hE hnm => ?_)
  have loop : ∀ k, k ≤ 8 → ∀ ν : Mem, same (fun o k => (o = m ∧ k = 2) ∨ o = m + 1) μ ν → mtR ν m (apT v s k) → WP Γ X 0 0 3 [some (.ref m), some (.long v), none, some (.int (shI k)), none] [] ν := by
    refine loopU 8 ?_
    intro k hk ih ν hsm hr
    have hok := apT_ok (v := v) hs k
    have hby := byN_lt v (56 - 8 * k)
    have hlim := hok.1
    by_cases hk8 : k < 8
    · refine w_iload_n (i := 3) hX dX9_lay_3 rfl rfl ?_
      refine w_top (y := nI (56 - 8 * k)) (shI_n hk8) ?_
      refine wn_if_lt (tgt := 75) hX dX9_lay_4 (by decide) (by omega) (fun c1 => ?_) (fun c1 => ?_)
      · exact absurd c1 (by omega)
      · refine w_lload_n (i := 1) hX dX9_lay_7 rfl rfl ?_
        refine w_iload_n (i := 3) hX dX9_lay_8 rfl rfl ?_
        refine w_top (y := nI (56 - 8 * k)) (shI_n hk8) ?_
        refine w_lshr hX dX9_lay_9 ?_
        refine w_l2i hX dX9_lay_10 ?_
        refine w_sipush hX dX9_lay_11 kS_255 ?_
        refine w_iand hX dX9_lay_14 ?_
        refine w_top (y := nI (byN v (56 - 8 * k))) (by_model v k hk8) ?_
        refine w_istore (l2 := [some (.ref m), some (.long v), none, some (.int (shI k)), some (.int (nI (byN v (56 - 8 * k))))]) hX dX9_lay_15 (ltb rfl) rfl rfl ?_
        refine w_iload hX dX9_lay_17 rfl ?_
        refine w_bipush hX dX9_lay_19 kB_10 ?_
        refine wn_icmp_eq (tgt := 38) hX dX9_lay_21 (by decide) (by omega) (by omega) (fun c2 => ?_) (fun c2 => ?_)
        · refine w_aload_n (i := 0) hX dX9_lay_38 rfl rfl ?_
          refine w_getI hX dX9_lay_39 fo_RX9_11 rfl (mod_s hr.1) ?_
          refine w_top (y := nI ((apT v s k).2)) hr.2.1 ?_
          refine w_sipush hX dX9_lay_42 kS_1000 ?_
          refine wn_icmp_ge (tgt := 69) hX dX9_lay_45 (by decide) (by omega) (by omega) (fun c3 => ?_) (fun c3 => ?_)
          · refine w_iinc (l2 := [some (.ref m), some (.long v), none, some (.int (shI k + Int32.ofInt (-8))), some (.int (nI (byN v (56 - 8 * k))))]) hX dX9_lay_69 rfl rfl rfl rfl ?_
            refine w_goto (tgt := 3) hX dX9_lay_72 (by decide) ?_
            have e7 : ¬ (okS (byN v (56 - 8 * k)) = true ∧ (apT v s k).2 < 1000) := by
              simp only [okS, Bool.or_eq_true, Bool.and_eq_true, Bool.and_eq_false_iff, decide_eq_true_eq, decide_eq_false_iff_not] at *
              omega
            have e8 : apT v s (k + 1) = apT v s k := by simp only [apT, pushT]; rw [if_neg e7]
            rw [shI_s]
            refine w_sub (l2 := [some (.ref m), some (.long v), none, some (.int (shI (k + 1))), none]) (by simp [lsub]) (leb rfl) ?_
            exact ih (by omega) ν hsm (by rw [e8]; exact hr)
          · refine w_aload_n (i := 0) hX dX9_lay_48 rfl rfl ?_
            refine w_getR (q := m + 1) hX dX9_lay_49 fo_RX9_14 rfl (mod_s hr.1) (mod_r1 hr.1) ?_
            refine w_aload_n (i := 0) hX dX9_lay_52 rfl rfl ?_
            refine w_getI hX dX9_lay_53 fo_RX9_11 rfl (mod_s hr.1) ?_
            refine w_top (y := nI ((apT v s k).2)) hr.2.1 ?_
            refine w_iload hX dX9_lay_56 rfl ?_
            refine w_iastN hX dX9_lay_58 (mod_a1 hr.1) (by omega) (by omega) ?_
            refine w_aload_n (i := 0) hX dX9_lay_59 rfl rfl ?_
            refine w_dup hX dX9_lay_60 rfl ?_
            refine w_getI hX dX9_lay_61 fo_RX9_11 rfl (mod_s hr.1) ?_
            refine w_top (y := nI ((apT v s k).2)) (by rw [gI_no (by omega)]; exact hr.2.1) ?_
            refine w_iconst hX dX9_lay_64 kI_1 ?_
            refine w_iaddN hX dX9_lay_65 ?_
            refine w_putI hX dX9_lay_66 fo_RX9_11 rfl rfl rfl rfl (mod_s hr.1) ?_
            refine w_iinc (l2 := [some (.ref m), some (.long v), none, some (.int (shI k + Int32.ofInt (-8))), some (.int (nI (byN v (56 - 8 * k))))]) hX dX9_lay_69 rfl rfl rfl rfl ?_
            refine w_goto (tgt := 3) hX dX9_lay_72 (by decide) ?_
            have e7 : okS (byN v (56 - 8 * k)) = true ∧ (apT v s k).2 < 1000 := by
              simp only [okS, Bool.or_eq_true, Bool.and_eq_true, Bool.and_eq_false_iff, decide_eq_true_eq, decide_eq_false_iff_not] at *
              omega
            have e8 : apT v s (k + 1) = ((fun j => if j = (apT v s k).2 then byN v (56 - 8 * k) else (apT v s k).1 j), (apT v s k).2 + 1) := by simp only [apT, pushT]; rw [if_pos e7]
            rw [shI_s]
            refine w_sub (l2 := [some (.ref m), some (.long v), none, some (.int (shI (k + 1))), none]) (by simp [lsub]) (leb rfl) ?_
            refine ih (by omega) _ ((hsm.sI (by first | exact Or.inl rfl | exact Or.inr ⟨rfl, rfl⟩ | exact Or.inl ⟨rfl, rfl⟩ | exact Or.inr rfl)).sI (by first | exact Or.inl ⟨rfl, rfl⟩ | exact Or.inr ⟨rfl, rfl⟩ | exact Or.inl rfl | exact Or.inr rfl)) ?_
            rw [e8]
            refine ⟨hr.1, gI_same, fun j hj => ?_⟩
            rw [gI_no (by omega)]
            show _ = nI (if j = (apT v s k).2 then byN v (56 - 8 * k) else (apT v s k).1 j)
            by_cases hj2 : j = (apT v s k).2
            · rw [if_pos hj2, hj2, gI_same]
            · rw [if_neg hj2, gI_nk hj2]; exact hr.2.2 j (by have : j < (apT v s k).2 + 1 := hj; omega)
        · refine w_iload hX dX9_lay_24 rfl ?_
          refine w_bipush hX dX9_lay_26 kB_32 ?_
          refine wn_icmp_lt (tgt := 69) hX dX9_lay_28 (by decide) (by omega) (by omega) (fun c4 => ?_) (fun c4 => ?_)
          · refine w_iinc (l2 := [some (.ref m), some (.long v), none, some (.int (shI k + Int32.ofInt (-8))), some (.int (nI (byN v (56 - 8 * k))))]) hX dX9_lay_69 rfl rfl rfl rfl ?_
            refine w_goto (tgt := 3) hX dX9_lay_72 (by decide) ?_
            have e7 : ¬ (okS (byN v (56 - 8 * k)) = true ∧ (apT v s k).2 < 1000) := by
              simp only [okS, Bool.or_eq_true, Bool.and_eq_true, Bool.and_eq_false_iff, decide_eq_true_eq, decide_eq_false_iff_not] at *
              omega
            have e8 : apT v s (k + 1) = apT v s k := by simp only [apT, pushT]; rw [if_neg e7]
            rw [shI_s]
            refine w_sub (l2 := [some (.ref m), some (.long v), none, some (.int (shI (k + 1))), none]) (by simp [lsub]) (leb rfl) ?_
            exact ih (by omega) ν hsm (by rw [e8]; exact hr)
          · refine w_iload hX dX9_lay_31 rfl ?_
            refine w_bipush hX dX9_lay_33 kB_126 ?_
            refine wn_icmp_gt (tgt := 69) hX dX9_lay_35 (by decide) (by omega) (by omega) (fun c5 => ?_) (fun c5 => ?_)
            · refine w_iinc (l2 := [some (.ref m), some (.long v), none, some (.int (shI k + Int32.ofInt (-8))), some (.int (nI (byN v (56 - 8 * k))))]) hX dX9_lay_69 rfl rfl rfl rfl ?_
              refine w_goto (tgt := 3) hX dX9_lay_72 (by decide) ?_
              have e7 : ¬ (okS (byN v (56 - 8 * k)) = true ∧ (apT v s k).2 < 1000) := by
                simp only [okS, Bool.or_eq_true, Bool.and_eq_true, Bool.and_eq_false_iff, decide_eq_true_eq, decide_eq_false_iff_not] at *
                omega
              have e8 : apT v s (k + 1) = apT v s k := by simp only [apT, pushT]; rw [if_neg e7]
              rw [shI_s]
              refine w_sub (l2 := [some (.ref m), some (.long v), none, some (.int (shI (k + 1))), none]) (by simp [lsub]) (leb rfl) ?_
              exact ih (by omega) ν hsm (by rw [e8]; exact hr)
            · refine w_aload_n (i := 0) hX dX9_lay_38 rfl rfl ?_
              refine w_getI hX dX9_lay_39 fo_RX9_11 rfl (mod_s hr.1) ?_
              refine w_top (y := nI ((apT v s k).2)) hr.2.1 ?_
              refine w_sipush hX dX9_lay_42 kS_1000 ?_
              refine wn_icmp_ge (tgt := 69) hX dX9_lay_45 (by decide) (by omega) (by omega) (fun c6 => ?_) (fun c6 => ?_)
              · refine w_iinc (l2 := [some (.ref m), some (.long v), none, some (.int (shI k + Int32.ofInt (-8))), some (.int (nI (byN v (56 - 8 * k))))]) hX dX9_lay_69 rfl rfl rfl rfl ?_
                refine w_goto (tgt := 3) hX dX9_lay_72 (by decide) ?_
                have e7 : ¬ (okS (byN v (56 - 8 * k)) = true ∧ (apT v s k).2 < 1000) := by
                  simp only [okS, Bool.or_eq_true, Bool.and_eq_true, Bool.and_eq_false_iff, decide_eq_true_eq, decide_eq_false_iff_not] at *
                  omega
                have e8 : apT v s (k + 1) = apT v s k := by simp only [apT, pushT]; rw [if_neg e7]
                rw [shI_s]
                refine w_sub (l2 := [some (.ref m), some (.long v), none, some (.int (shI (k + 1))), none]) (by simp [lsub]) (leb rfl) ?_
                exact ih (by omega) ν hsm (by rw [e8]; exact hr)
              · refine w_aload_n (i := 0) hX dX9_lay_48 rfl rfl ?_
                refine w_getR (q := m + 1) hX dX9_lay_49 fo_RX9_14 rfl (mod_s hr.1) (mod_r1 hr.1) ?_
                refine w_aload_n (i := 0) hX dX9_lay_52 rfl rfl ?_
                refine w_getI hX dX9_lay_53 fo_RX9_11 rfl (mod_s hr.1) ?_
                refine w_top (y := nI ((apT v s k).2)) hr.2.1 ?_
                refine w_iload hX dX9_lay_56 rfl ?_
                refine w_iastN hX dX9_lay_58 (mod_a1 hr.1) (by omega) (by omega) ?_
                refine w_aload_n (i := 0) hX dX9_lay_59 rfl rfl ?_
                refine w_dup hX dX9_lay_60 rfl ?_
                refine w_getI hX dX9_lay_61 fo_RX9_11 rfl (mod_s hr.1) ?_
                refine w_top (y := nI ((apT v s k).2)) (by rw [gI_no (by omega)]; exact hr.2.1) ?_
                refine w_iconst hX dX9_lay_64 kI_1 ?_
                refine w_iaddN hX dX9_lay_65 ?_
                refine w_putI hX dX9_lay_66 fo_RX9_11 rfl rfl rfl rfl (mod_s hr.1) ?_
                refine w_iinc (l2 := [some (.ref m), some (.long v), none, some (.int (shI k + Int32.ofInt (-8))), some (.int (nI (byN v (56 - 8 * k))))]) hX dX9_lay_69 rfl rfl rfl rfl ?_
                refine w_goto (tgt := 3) hX dX9_lay_72 (by decide) ?_
                have e7 : okS (byN v (56 - 8 * k)) = true ∧ (apT v s k).2 < 1000 := by
                  simp only [okS, Bool.or_eq_true, Bool.and_eq_true, Bool.and_eq_false_iff, decide_eq_true_eq, decide_eq_false_iff_not] at *
                  omega
                have e8 : apT v s (k + 1) = ((fun j => if j = (apT v s k).2 then byN v (56 - 8 * k) else (apT v s k).1 j), (apT v s k).2 + 1) := by simp only [apT, pushT]; rw [if_pos e7]
                rw [shI_s]
                refine w_sub (l2 := [some (.ref m), some (.long v), none, some (.int (shI (k + 1))), none]) (by simp [lsub]) (leb rfl) ?_
                refine ih (by omega) _ ((hsm.sI (by first | exact Or.inl rfl | exact Or.inr ⟨rfl, rfl⟩ | exact Or.inl ⟨rfl, rfl⟩ | exact Or.inr rfl)).sI (by first | exact Or.inl ⟨rfl, rfl⟩ | exact Or.inr ⟨rfl, rfl⟩ | exact Or.inl rfl | exact Or.inr rfl)) ?_
                rw [e8]
                refine ⟨hr.1, gI_same, fun j hj => ?_⟩
                rw [gI_no (by omega)]
                show _ = nI (if j = (apT v s k).2 then byN v (56 - 8 * k) else (apT v s k).1 j)
                by_cases hj2 : j = (apT v s k).2
                · rw [if_pos hj2, hj2, gI_same]
                · rw [if_neg hj2, gI_nk hj2]; exact hr.2.2 j (by have : j < (apT v s k).2 + 1 := hj; omega)
    · refine w_iload_n (i := 3) hX dX9_lay_3 rfl rfl ?_
      refine w_top (y := (-8 : Int32)) (by rw [show k = 8 by omega]; exact shI_8) ?_
      refine wc_if_lt (tgt := 75) hX dX9_lay_4 (by decide) (fun c9 => ?_) (fun c9 => absurd c9 (by decide))
      exact w_vret hX hE dX9_lay_75 (Or.inl rfl) ⟨hsm, by rw [show k = 8 by omega] at hr; exact hr⟩
  refine w_bipush hX dX9_lay_0 kB_56 ?_
  refine w_istore_n (i := 3) (l2 := [some (.ref m), some (.long v), none, some (.int (nI 56)), none]) hX dX9_lay_2 rfl (ltb rfl) rfl rfl ?_
  have e9 : nI 56 = shI 0 := by decide
  rw [e9]
  exact loop 0 (Nat.zero_le _) μ same.rf ht
