def FB (B : Nat → Nat) : Nat := 2 ^ B 352 - 1
def VF (B : Nat → Nat) : Nat → Bool := VS B (FB B)
theorem bw_setn {f : Nat → Bool} {o n : Nat} (ho : o < n) : bw f n ||| 2 ^ o = bw (fun j => f j || decide (j = o)) n := by
  apply Nat.eq_of_testBit_eq
  intro j
  rw [Nat.testBit_or, bw_tb, bw_tb, Nat.testBit_two_pow]
  by_cases e : o = j
  · subst e; simp [ho]
  · have e2 : ¬ j = o := fun h => e h.symm
    simp [e, e2]
def wdF (V : Nat → Bool) (v k : Nat) : Nat := bw (fun b => decide (64 * k + b < v) && V (64 * k + b)) 64
theorem wdF_no {V : Nat → Bool} {v k : Nat} (h : V v = false) : wdF V (v + 1) k = wdF V v k := by
  refine bw_c (fun b _ => ?_)
  by_cases e : 64 * k + b = v
  · rw [e, h]; simp
  · have : (64 * k + b < v + 1) ↔ 64 * k + b < v := by omega
    simp [this]
theorem wdF_o {V : Nat → Bool} {v k : Nat} (h : k ≠ v / 64) : wdF V (v + 1) k = wdF V v k := by
  refine bw_c (fun b hb => ?_)
  have : (64 * k + b < v + 1) ↔ 64 * k + b < v := by omega
  simp [this]
theorem wdF_y {V : Nat → Bool} {v : Nat} (h : V v = true) : wdF V v (v / 64) ||| 2 ^ (v % 64) = wdF V (v + 1) (v / 64) := by
  unfold wdF
  rw [bw_setn (Nat.mod_lt _ (by omega))]
  refine bw_c (fun b hb => ?_)
  by_cases e : b = v % 64
  · have e2 : 64 * (v / 64) + b = v := by omega
    rw [e2, h]; simp [e]
  · have : (64 * (v / 64) + b < v + 1) ↔ 64 * (v / 64) + b < v := by omega
    simp [this, e]
def mtF (B : Nat → Nat) (v i : Nat) : Nat := bw (fun j => mtV (VF B) (B 352) i j v) (2 * B 352)
def fnR (μ : Mem) (w : Nat) (B : Nat → Nat) (v : Nat) : Prop := (∀ k, k < 64 → gL μ (w + 4) k = lN (wdF (VF B) v k)) ∧ gI μ w 7 = nI (cvV (VF B) v) ∧ ∀ i, i < 2 * B 352 → gI μ (w + 3) i = nI (mtF B v i)
theorem mtF_no {B : Nat → Nat} {v i : Nat} (h : VF B v = false) : mtF B (v + 1) i = mtF B v i := bw_c (fun j _ => by simp [mtV, h])
theorem fnR_skip {μ : Mem} {w : Nat} {B : Nat → Nat} {v v2 : Nat} (h : fnR μ w B v) (hl : v ≤ v2) (hs : ∀ x, v ≤ x → x < v2 → VF B x = false) : fnR μ w B v2 :=
  ⟨fun k hk => by
     have e : wdF (VF B) v2 k = wdF (VF B) v k := skip2 (F := fun x => wdF (VF B) x k) hl (fun x h1 h2 => wdF_no (V := VF B) (v := x) (k := k) (hs x h1 h2))
     rw [h.1 k hk, e],
   by
     have e : cvV (VF B) v2 = cvV (VF B) v := skip2 (F := cvV (VF B)) hl (fun x h1 h2 => cvV_no (hs x h1 h2))
     rw [h.2.1, e],
   fun i hi => by
     have e : mtF B v2 i = mtF B v i := skip2 (F := fun x => mtF B x i) hl (fun x h1 h2 => mtF_no (B := B) (v := x) (i := i) (hs x h1 h2))
     rw [h.2.2 i hi, e]⟩
/-- the picks of a world, of the first q papers -/
def pksF (n v q : Nat) : Nat := bw (fun t => decide (pkb n v (t / 2) = t % 2)) (2 * q)
theorem pksF_S {n v q : Nat} : pksF n v q ||| 2 ^ (2 * q + pkb n v q) = pksF n v (q + 1) := by
  unfold pksF
  rw [show 2 * (q + 1) = 2 * q + 1 + 1 by omega, bw_S, bw_S]
  have e1 : (2 * q + 1) / 2 = q := by omega
  have e2 : (2 * q + 1) % 2 = 1 := by omega
  have e3 : 2 * q / 2 = q := by omega
  have e4 : 2 * q % 2 = 0 := by omega
  have hb : pkb n v q = 0 ∨ pkb n v q = 1 := by have := pkb_lt (n := n) (w := v) (p := q); omega
  simp only [e1, e2, e3, e4]
  rcases hb with h | h <;> simp [h]
theorem pksF_lt {n v q : Nat} (hq : q ≤ 12) : pksF n v q < 2 ^ 24 := bw_31 (by omega)
theorem mtF_y {B : Nat → Nat} {v i : Nat} (h : VF B v = true) (hi : pkb (B 352) v (i / 2) = i % 2) : mtF B v i ||| pksF (B 352) v (B 352) = mtF B (v + 1) i := by
  unfold mtF pksF
  rw [bw_or]
  exact bw_c (fun j _ => by simp [mtV, h, hi])
theorem mtF_n {B : Nat → Nat} {v i : Nat} (hi : pkb (B 352) v (i / 2) ≠ i % 2) : mtF B (v + 1) i = mtF B v i := bw_c (fun j _ => by simp [mtV, hi])
set_option maxHeartbeats 1000000 in
theorem s_w_add (Γ : Gm) (μ : Mem) (w : Nat) (hw : isWd μ w) (B : Nat → Nat) (hW : WB B) (hP : gI μ w 6 = nI (B 352)) (v : Nat) (hv4 : v < 4096) (hv : VF B v = true) (hf : fnR μ w B v) : SpV Γ MX7_addWorld 1 0 0 [.ref w, .int (nI v)] μ (fun μ2 => fnR μ2 w B (v + 1) ∧ same (fun o k => o = w + 3 ∨ o = w + 4 ∨ (o = w ∧ k = 7)) μ μ2) := by
  refine SpV.of okX7_addWorld rfl [some (.ref w), some (.int (nI v)), none, none] ⟨rfl, rfl, trivial⟩ (leb rfl) (leb rfl) (fun X hX hE hnm => ?_)
  refine w_aload_n (i := 0) hX dX7_addWorld_0 rfl rfl ?_
  refine w_getR (q := w + 4) hX dX7_addWorld_1 fo_RX7_23 rfl (wd_s hw) (wd_r3 hw) ?_
  refine w_iload_n (i := 1) hX dX7_addWorld_4 rfl rfl ?_
  refine w_bipush hX dX7_addWorld_5 kB_64 ?_
  refine w_idivN hX dX7_addWorld_7 (by omega) (by omega) ?_
  refine w_dup2 hX dX7_addWorld_8 rfl rfl ?_
  refine w_laldN hX dX7_addWorld_9 (wd_a4 hw) (by omega) (by omega) ?_
  refine w_topL (y := lN (wdF (VF B) v (v / 64))) (hf.1 _ (by omega)) ?_
  refine w_lconst (v := 1) hX dX7_addWorld_10 rfl ?_
  refine w_iload_n (i := 1) hX dX7_addWorld_11 rfl rfl ?_
  refine w_bipush hX dX7_addWorld_12 kB_64 ?_
  refine w_iremN hX dX7_addWorld_14 (by omega) (by omega) ?_
  refine w_lshl hX dX7_addWorld_15 ?_
  refine w_topL (y := lN (2 ^ (v % 64))) (lM_shl (by omega)) ?_
  refine w_lor hX dX7_addWorld_16 ?_
  refine w_topL (y := lN (wdF (VF B) (v + 1) (v / 64))) ((lM_or _ _).trans (congrArg lN (wdF_y hv))) ?_
  refine w_lastN hX dX7_addWorld_17 (wd_a4 hw) (by omega) (by omega) ?_
  refine w_aload_n (i := 0) hX dX7_addWorld_18 rfl rfl ?_
  refine w_dup hX dX7_addWorld_19 rfl ?_
  refine w_getI hX dX7_addWorld_20 fo_RX7_41 rfl (wd_s hw) ?_
  refine w_top (y := nI (cvV (VF B) v)) (by show gI μ w 7 = _; exact hf.2.1) ?_
  refine w_iconst hX dX7_addWorld_23 kI_1 ?_
  refine w_iaddN hX dX7_addWorld_24 ?_
  refine w_putI hX dX7_addWorld_25 fo_RX7_41 rfl rfl rfl rfl (wd_s hw) ?_
  have hPa : gI (sI (sL μ (w + 4) (v / 64) (lN (wdF (VF B) (v + 1) (v / 64)))) w 7 (nI (cvV (VF B) v + 1))) w 6 = nI (B 352) := by rw [gI_nk (by omega)]; exact hP
  have hP12 := hW.2.2.2.2.1.1
  have hwa : isWd (sI (sL μ (w + 4) (v / 64) (lN (wdF (VF B) (v + 1) (v / 64)))) w 7 (nI (cvV (VF B) v + 1))) w := hw
  refine w_iconst hX dX7_addWorld_28 kI_0 ?_
  refine w_istore_n (i := 2) (l2 := [some (.ref w), some (.int (nI v)), some (.int (nI 0)), none]) hX dX7_addWorld_29 rfl (ltb rfl) rfl rfl ?_
  refine w_iconst hX dX7_addWorld_30 kI_0 ?_
  refine w_istore_n (i := 3) (l2 := [some (.ref w), some (.int (nI v)), some (.int (nI 0)), some (.int (nI 0))]) hX dX7_addWorld_31 rfl (ltb rfl) rfl rfl ?_
  have lp2 : ∀ k, k ≤ B 352 → ∀ ν : Mem, same (fun o _ => o = w + 3) (sI (sL μ (w + 4) (v / 64) (lN (wdF (VF B) (v + 1) (v / 64)))) w 7 (nI (cvV (VF B) v + 1))) ν → (∀ i, i < 2 * B 352 → gI ν (w + 3) i = nI (if i / 2 < k then mtF B (v + 1) i else mtF B v i)) → WP Γ X 0 0 66 [some (.ref w), some (.int (nI v)), some (.int (nI (pksF (B 352) v (B 352)))), some (.int (nI k))] [] ν := by
    refine loopU (B 352) ?_
    intro k hk ih ν hsm hma
    have hwk := hsm.isWd hwa
    have hPk : gI ν w 6 = nI (B 352) := by rw [(hsm.2.2 _ _ (fun h => by omega)).1]; exact hPa
    have hpb := pkb_lt (n := B 352) (w := v) (p := k)
    refine w_iload_n (i := 3) hX dX7_addWorld_66 rfl rfl ?_
    refine w_aload_n (i := 0) hX dX7_addWorld_67 rfl rfl ?_
    refine w_getI hX dX7_addWorld_68 fo_RX7_38 rfl (wd_s hwk) ?_
    refine w_top (y := nI (B 352)) hPk ?_
    refine wn_icmp_ge (tgt := 102) hX dX7_addWorld_71 (by decide) (by omega) (by omega) (fun c1 => ?_) (fun c1 => ?_)
    · refine w_vret hX hE dX7_addWorld_102 (Or.inl rfl) ⟨⟨fun q hq => ?_, ?_, fun i hi => ?_⟩, ?_⟩
      · rw [(hsm.2.2 _ _ (fun h => by omega)).2]
        show gL (sL μ (w + 4) (v / 64) (lN (wdF (VF B) (v + 1) (v / 64)))) (w + 4) q = _
        by_cases e : q = v / 64
        · rw [e, gL_same]
        · rw [gL_ne (fun h => e h.2), hf.1 q hq, wdF_o e]
      · rw [(hsm.2.2 _ _ (fun h => by omega)).1, gI_same]; congr 1; simp [cvV, hv]
      · rw [hma i hi, if_pos (by omega)]
      · exact ((same.rf.sL (Or.inr (Or.inl rfl)) : same (fun o k => o = w + 3 ∨ o = w + 4 ∨ (o = w ∧ k = 7)) μ (sL μ (w + 4) (v / 64) (lN (wdF (VF B) (v + 1) (v / 64))))).sI (Or.inr (Or.inr ⟨rfl, rfl⟩))).tr (hsm.up (fun o k h => Or.inl h))
    · refine w_aload_n (i := 0) hX dX7_addWorld_74 rfl rfl ?_
      refine w_getR (q := w + 3) hX dX7_addWorld_75 fo_RX7_20 rfl (wd_s hwk) (wd_r2 hwk) ?_
      refine w_iload_n (i := 1) hX dX7_addWorld_78 rfl rfl ?_
      refine w_iload_n (i := 3) hX dX7_addWorld_79 rfl rfl ?_
      refine w_aload_n (i := 0) hX dX7_addWorld_80 rfl rfl ?_
      refine w_getI hX dX7_addWorld_81 fo_RX7_38 rfl (wd_s hwk) ?_
      refine w_top (y := nI (B 352)) hPk ?_
      refine w_iconst hX dX7_addWorld_84 kI_1 ?_
      refine w_isubN hX dX7_addWorld_85 (by omega) ?_
      refine w_iload_n (i := 3) hX dX7_addWorld_86 rfl rfl ?_
      refine w_isubN hX dX7_addWorld_87 (by omega) ?_
      refine w_callSI (As := [.int (nI v), .int (nI k), .int (nI (B 352 - 1 - k))]) (rest := [.ref (w + 3)]) (k2 := 0) (n2 := 0) hX dX7_addWorld_88 (s_w_pickOf Γ ν v k (B 352 - 1 - k) (by omega) (by omega)) okX7_pickOf ml_RX7_70 stX7_pickOf rfl (leb rfl) (leb rfl) rfl rfl (fun r9 μ9 hq9 => ?_)
      obtain ⟨hr9, hm9⟩ := hq9; rw [hr9, hm9, show v / 2 ^ (B 352 - 1 - k) % 2 = pkb (B 352) v k from rfl]; clear hr9 hm9 r9 μ9
      refine w_dup2 hX dX7_addWorld_91 rfl rfl ?_
      refine w_ialdN hX dX7_addWorld_92 (wd_a3 hwk) (by omega) (by omega) ?_
      refine w_top (y := nI (mtF B v (2 * k + pkb (B 352) v k))) ((hma _ (by omega)).trans (by rw [if_neg (by omega)])) ?_
      refine w_iload_n (i := 2) hX dX7_addWorld_93 rfl rfl ?_
      refine w_ior hX dX7_addWorld_94 ?_
      refine w_top (y := nI (mtF B (v + 1) (2 * k + pkb (B 352) v k))) ((fa_or _ _).trans (congrArg nI (mtF_y hv (by rw [show (2 * k + pkb (B 352) v k) / 2 = k by omega]; omega)))) ?_
      refine w_iastN hX dX7_addWorld_95 (wd_a3 hwk) (by omega) (by omega) ?_
      refine w_iincN (w := 1) (l2 := [some (.ref w), some (.int (nI v)), some (.int (nI (pksF (B 352) v (B 352)))), some (.int (nI (k + 1)))]) hX dX7_addWorld_96 rfl kI_1 rfl rfl ?_
      refine w_goto (tgt := 66) hX dX7_addWorld_99 (by decide) ?_
      refine ih (by omega) _ (hsm.sI rfl) (fun i hi => ?_)
      by_cases e : i = 2 * k + pkb (B 352) v k
      · rw [e, gI_same, if_pos (by omega)]
      · rw [gI_nk e, hma i hi]
        by_cases e2 : i / 2 = k
        · rw [if_neg (by omega), if_pos (by omega), mtF_n (by rw [e2]; omega)]
        · by_cases e3 : i / 2 < k
          · rw [if_pos e3, if_pos (by omega)]
          · rw [if_neg e3, if_neg (by omega)]
  have lp1 : ∀ k, k ≤ B 352 → WP Γ X 0 0 32 [some (.ref w), some (.int (nI v)), some (.int (nI (pksF (B 352) v k))), some (.int (nI k))] [] (sI (sL μ (w + 4) (v / 64) (lN (wdF (VF B) (v + 1) (v / 64)))) w 7 (nI (cvV (VF B) v + 1))) := by
    refine loopU (B 352) ?_
    intro k hk ih
    refine w_iload_n (i := 3) hX dX7_addWorld_32 rfl rfl ?_
    refine w_aload_n (i := 0) hX dX7_addWorld_33 rfl rfl ?_
    refine w_getI hX dX7_addWorld_34 fo_RX7_38 rfl (wd_s hw) ?_
    refine w_top (y := nI (B 352)) hPa ?_
    refine wn_icmp_ge (tgt := 64) hX dX7_addWorld_37 (by decide) (by omega) (by omega) (fun c2 => ?_) (fun c2 => ?_)
    · refine w_iconst hX dX7_addWorld_64 kI_0 ?_
      refine w_istore_n (i := 3) (l2 := [some (.ref w), some (.int (nI v)), some (.int (nI (pksF (B 352) v k))), some (.int (nI 0))]) hX dX7_addWorld_65 rfl (ltb rfl) rfl rfl ?_
      refine w_locs (ls2 := [some (.ref w), some (.int (nI v)), some (.int (nI (pksF (B 352) v (B 352)))), some (.int (nI 0))]) (by rw [show k = B 352 by omega]) ?_
      exact lp2 0 (Nat.zero_le _) _ same.rf (fun i hi => by rw [if_neg (by omega), gI_no (by omega)]; exact hf.2.2 i hi)
    · refine w_iload_n (i := 2) hX dX7_addWorld_40 rfl rfl ?_
      refine w_iconst hX dX7_addWorld_41 kI_1 ?_
      refine w_iload_n (i := 1) hX dX7_addWorld_42 rfl rfl ?_
      refine w_iload_n (i := 3) hX dX7_addWorld_43 rfl rfl ?_
      refine w_aload_n (i := 0) hX dX7_addWorld_44 rfl rfl ?_
      refine w_getI hX dX7_addWorld_45 fo_RX7_38 rfl (wd_s hw) ?_
      refine w_top (y := nI (B 352)) hPa ?_
      refine w_iconst hX dX7_addWorld_48 kI_1 ?_
      refine w_isubN hX dX7_addWorld_49 (by omega) ?_
      refine w_iload_n (i := 3) hX dX7_addWorld_50 rfl rfl ?_
      refine w_isubN hX dX7_addWorld_51 (by omega) ?_
      refine w_callSI (As := [.int (nI v), .int (nI k), .int (nI (B 352 - 1 - k))]) (rest := [.int (nI 1), .int (nI (pksF (B 352) v k))]) (k2 := 0) (n2 := 0) hX dX7_addWorld_52 (s_w_pickOf Γ (sI (sL μ (w + 4) (v / 64) (lN (wdF (VF B) (v + 1) (v / 64)))) w 7 (nI (cvV (VF B) v + 1))) v k (B 352 - 1 - k) (by omega) (by omega)) okX7_pickOf ml_RX7_70 stX7_pickOf rfl (leb rfl) (leb rfl) rfl rfl (fun r9 μ9 hq9 => ?_)
      obtain ⟨hr9, hm9⟩ := hq9; rw [hr9, hm9, show v / 2 ^ (B 352 - 1 - k) % 2 = pkb (B 352) v k from rfl]; clear hr9 hm9 r9 μ9
      refine w_ishl hX dX7_addWorld_55 ?_
      refine w_top (y := nI (2 ^ (2 * k + pkb (B 352) v k))) (shl_nI (by have := pkb_lt (n := B 352) (w := v) (p := k); omega)) ?_
      refine w_ior hX dX7_addWorld_56 ?_
      refine w_top (y := nI (pksF (B 352) v (k + 1))) ((fa_or _ _).trans (congrArg nI pksF_S)) ?_
      refine w_istore_n (i := 2) (l2 := [some (.ref w), some (.int (nI v)), some (.int (nI (pksF (B 352) v (k + 1)))), some (.int (nI k))]) hX dX7_addWorld_57 rfl (ltb rfl) rfl rfl ?_
      refine w_iincN (w := 1) (l2 := [some (.ref w), some (.int (nI v)), some (.int (nI (pksF (B 352) v (k + 1)))), some (.int (nI (k + 1)))]) hX dX7_addWorld_58 rfl kI_1 rfl rfl ?_
      refine w_goto (tgt := 32) hX dX7_addWorld_61 (by decide) ?_
      exact ih (by omega)
  exact lp1 0 (Nat.zero_le _)
