theorem oI_le {z : Option Nat} {a : Nat} (ha : a < 2 ^ 31) (hz : ∀ v, z = some v → v < 2 ^ 31) : nI a ≤ oI z ↔ ∃ v, z = some v ∧ a ≤ v := by
  cases z with
  | none =>
    constructor
    · intro h
      have h9 : nI a ≤ (-1 : Int32) := h
      rw [Int32.le_iff_toInt_le, nI_toInt ha] at h9
      have : (-1 : Int32).toInt = -1 := rfl
      omega
    · rintro ⟨v, h, _⟩; cases h
  | some v =>
    have hv := hz v rfl
    show nI a ≤ nI v ↔ _
    rw [Int32.le_iff_toInt_le, nI_toInt ha, nI_toInt hv]
    constructor
    · intro h; exact ⟨v, rfl, by omega⟩
    · rintro ⟨u, h, h2⟩; cases h; omega
theorem gW_lt {W : Wn} {n S t : Nat} (h : FF W n S t = true) (hS : S ≠ 0) : gW W n S t < n := (gW_ok h hS).1
set_option maxHeartbeats 1000000 in
theorem s_p_first (Γ : Gm) (μ : Mem) (p b d : Nat) (B : Nat → Nat) (hp : isPl μ p) (hR : Rb μ b B) (hW : WB B) (W : Wn) (hok : okWn W (B 85)) (hlen : ∀ w, w < B 85 → W.2.2.2.2 w = B (86 + 5 * w + 3)) (hwn : ∀ w, w < B 85 → B (86 + 5 * w) = d → wnM μ p W w) (hla : laM μ p B d W (2 ^ B 85)) (S t : Nat) (hS : S < 2 ^ B 85) (hS0 : S ≠ 0) (htd : tdB B d S = true) (ht : t < 20000000) (hF : FF W (B 85) S t = true)  : SpI Γ MX3_firstThatLeavesRoom 2 0 0 [.ref p, .ref b, .int (nI S), .int (nI t)] μ (fun r μ2 => r = nI (gW W (B 85) S t) ∧ μ2 = μ) := by
  refine SpI.of okX3_firstThatLeavesRoom rfl [some (.ref p), some (.ref b), some (.int (nI S)), some (.int (nI t)), none, none] ⟨rfl, rfl, rfl, rfl, trivial⟩ (leb rfl) (leb rfl) (fun X hX hE hnm => ?_)
  have hn8 := hW.2.2.1.1; have h256 := p8 hn8
  refine w_iconst hX dX3_firstThatLeavesRoom_0 kI_0 ?_
  refine w_istore (l2 := [some (.ref p), some (.ref b), some (.int (nI S)), some (.int (nI t)), some (.int (nI 0)), none]) hX dX3_firstThatLeavesRoom_1 (ltb rfl) rfl rfl ?_
  have loop : ∀ k, k ≤ B 85 → gW W (B 85) S t = nxt (nxP W (B 85) S t) (B 85 - k) k → WP Γ X 0 0 3 [some (.ref p), some (.ref b), some (.int (nI S)), some (.int (nI t)), some (.int (nI k)), none] [] μ := by
    refine loopU (B 85) ?_
    intro k hk ih hg
    refine w_iload hX dX3_firstThatLeavesRoom_3 rfl ?_
    refine w_aload_n (i := 1) hX dX3_firstThatLeavesRoom_5 rfl rfl ?_
    refine w_getI hX dX3_firstThatLeavesRoom_6 fo_RX3_60 rfl (bk_s hR.1) ?_
    refine w_top (y := nI (B 85)) hR.2.2.2.2.2.1 ?_
    refine wn_icmp_ge (tgt := 71) hX dX3_firstThatLeavesRoom_9 (by decide) (by first | omega | (split <;> omega)) (by first | omega | (split <;> omega)) (fun c1 => ?_) (fun c1 => ?_)
    · refine w_iconst hX dX3_firstThatLeavesRoom_71 kI_0 ?_
      rw [show B 85 - k = 0 by omega] at hg
      have h9 := gW_lt hF hS0; rw [hg] at h9; exact absurd (show k < B 85 from h9) (by omega)
    · refine w_iload_n (i := 2) hX dX3_firstThatLeavesRoom_12 rfl rfl ?_
      refine w_iload hX dX3_firstThatLeavesRoom_13 rfl ?_
      refine w_ishr hX dX3_firstThatLeavesRoom_15 ?_
      refine w_iconst hX dX3_firstThatLeavesRoom_16 kI_1 ?_
      refine w_iand hX dX3_firstThatLeavesRoom_17 ?_
      refine w_top (y := nI (if S.testBit k = true then 1 else 0)) (bit31 (by omega) (by omega)) ?_
      refine w_iconst hX dX3_firstThatLeavesRoom_18 kI_1 ?_
      refine wn_icmp_ne (tgt := 65) hX dX3_firstThatLeavesRoom_19 (by decide) (by first | omega | (split <;> omega)) (by first | omega | (split <;> omega)) (fun c2 => ?_) (fun c2 => ?_)
      · refine w_iincN (w := 1) (l2 := [some (.ref p), some (.ref b), some (.int (nI S)), some (.int (nI t)), some (.int (nI (k + 1))), none]) hX dX3_firstThatLeavesRoom_65 rfl kI_1 rfl rfl ?_
        refine w_goto (tgt := 3) hX dX3_firstThatLeavesRoom_68 (by decide) ?_
        refine ih (by omega) (hg.trans (nxt_S (by omega) ?_))
        rw [Bool.eq_false_iff]; intro h9; obtain ⟨h8, s8, h7, h6⟩ := nxP_iff.mp h9
        rw [if_pos h8] at c2; exact absurd rfl c2
      · have hb : S.testBit k = true := by by_cases h9 : S.testBit k = true; (exact h9); rw [if_neg h9] at c2; omega
        have hcl := clr_ls hb
        obtain ⟨y9, hy1, hy2⟩ := hla (clr S k) (by omega) (tdB_clr htd)
        refine w_aload_n (i := 0) hX dX3_firstThatLeavesRoom_22 rfl rfl ?_
        refine w_iload hX dX3_firstThatLeavesRoom_23 rfl ?_
        refine w_iload_n (i := 3) hX dX3_firstThatLeavesRoom_25 rfl rfl ?_
        refine w_callVI (As := [.int (nI k), .int (nI t)]) (rest := []) (ci := 3) (o := p) (k2 := 0) (n2 := 0) hX dX3_firstThatLeavesRoom_26 (s_p_eb Γ μ p hp W (B 85) hn8 hok k (by omega) (hwn k (by omega) (tdB_iff.mp htd k (by omega) hb)) t (by omega)) okX3_earliestBegin (ltb rfl) (pl_s hp) ml_RX3_109 imX3_earliestBegin seX3_earliestBegin rfl (leb rfl) (leb rfl) rfl rfl (fun r9 μ9 hq9 => ?_)
        obtain ⟨hr9, hm9⟩ := hq9; rw [hr9, hm9]; clear hr9 hm9 r9 μ9
        refine w_istore (l2 := [some (.ref p), some (.ref b), some (.int (nI S)), some (.int (nI t)), some (.int (nI k)), some (.int (oI (eb W k t)))]) hX dX3_firstThatLeavesRoom_29 (ltb rfl) rfl rfl ?_
        refine w_iload hX dX3_firstThatLeavesRoom_31 rfl ?_
        refine w_iconst hX dX3_firstThatLeavesRoom_33 kI_m1 ?_
        refine wc_icmp_eq (tgt := 65) hX dX3_firstThatLeavesRoom_34 (by decide) (fun c3 => ?_) (fun c3 => ?_)
        · refine w_iincN (w := 1) (l2 := [some (.ref p), some (.ref b), some (.int (nI S)), some (.int (nI t)), some (.int (nI (k + 1))), some (.int (oI (eb W k t)))]) hX dX3_firstThatLeavesRoom_65 rfl kI_1 rfl rfl ?_
          refine w_goto (tgt := 3) hX dX3_firstThatLeavesRoom_68 (by decide) ?_
          refine w_sub (l2 := [some (.ref p), some (.ref b), some (.int (nI S)), some (.int (nI t)), some (.int (nI (k + 1))), none]) (by simp [lsub]) (leb rfl) ?_
          refine ih (by omega) (hg.trans (nxt_S (by omega) ?_))
          rw [Bool.eq_false_iff]; intro h9; obtain ⟨h8, s8, h7, h6⟩ := nxP_iff.mp h9
          rw [(oI_m1 (fun v h => by have := eb_le hok (by omega) h; omega)).mp c3] at h7; cases h7
        · obtain ⟨s9, hs9⟩ : ∃ s, eb W k t = some s := by cases h9 : eb W k t with | none => rw [h9] at c3; exact absurd rfl c3 | some s => exact ⟨s, rfl⟩
          have hs9l := eb_le hok (by omega) hs9; have hl9 := hok k (by omega)
          refine w_locs (ls2 := [some (.ref p), some (.ref b), some (.int (nI S)), some (.int (nI t)), some (.int (nI k)), some (.int (nI s9))]) (by rw [hs9]; rfl) ?_
          refine w_iload hX dX3_firstThatLeavesRoom_37 rfl ?_
          refine w_aload_n (i := 1) hX dX3_firstThatLeavesRoom_39 rfl rfl ?_
          refine w_iload hX dX3_firstThatLeavesRoom_40 rfl ?_
          refine w_callSI (As := [.ref b, .int (nI k)]) (rest := [.int (nI s9)]) (k2 := 0) (n2 := 0) hX dX3_firstThatLeavesRoom_42 (s_p_len Γ μ b B hR hW k (by omega)) okX3_lengthOf ml_RX3_91 stX3_lengthOf rfl (leb rfl) (leb rfl) rfl rfl (fun r9 μ9 hq9 => ?_)
          obtain ⟨hr9, hm9⟩ := hq9; rw [hr9, hm9, ← hlen k (by omega)]; clear hr9 hm9 r9 μ9
          refine w_iaddN hX dX3_firstThatLeavesRoom_45 ?_
          refine w_aload_n (i := 0) hX dX3_firstThatLeavesRoom_46 rfl rfl ?_
          refine w_getR (q := p + 3) hX dX3_firstThatLeavesRoom_47 fo_RX3_20 rfl (pl_s hp) (pl_r2 hp) ?_
          refine w_iload_n (i := 2) hX dX3_firstThatLeavesRoom_50 rfl rfl ?_
          refine w_iconst hX dX3_firstThatLeavesRoom_51 kI_1 ?_
          refine w_iload hX dX3_firstThatLeavesRoom_52 rfl ?_
          refine w_ishl hX dX3_firstThatLeavesRoom_54 ?_
          refine w_iconst hX dX3_firstThatLeavesRoom_55 kI_m1 ?_
          refine w_ixor hX dX3_firstThatLeavesRoom_56 ?_
          refine w_iand hX dX3_firstThatLeavesRoom_57 ?_
          refine w_top (y := nI (clr S k)) (clr_nI (by omega) (by omega)) ?_
          refine w_ialdN hX dX3_firstThatLeavesRoom_58 (pl_a3 hp) (by omega) (by omega) ?_
          refine w_top (y := oI y9) hy1 ?_
          refine wc_icmp_gt (tgt := 65) hX dX3_firstThatLeavesRoom_59 (by decide) (fun c4 => ?_) (fun c4 => ?_)
          · refine w_iincN (w := 1) (l2 := [some (.ref p), some (.ref b), some (.int (nI S)), some (.int (nI t)), some (.int (nI (k + 1))), some (.int (nI s9))]) hX dX3_firstThatLeavesRoom_65 rfl kI_1 rfl rfl ?_
            refine w_goto (tgt := 3) hX dX3_firstThatLeavesRoom_68 (by decide) ?_
            refine w_sub (l2 := [some (.ref p), some (.ref b), some (.int (nI S)), some (.int (nI t)), some (.int (nI (k + 1))), none]) (by simp [lsub]) (leb rfl) ?_
            refine ih (by omega) (hg.trans (nxt_S (by omega) ?_))
            rw [Bool.eq_false_iff]; intro h9; obtain ⟨h8, s8, h7, h6⟩ := nxP_iff.mp h9
            rw [hs9] at h7; cases h7
            exact absurd ((oI_le (by omega) (fun v h => by have := hy2.1 v h; unfold FAR9 at this; omega)).mpr ((hy2.2 _ (by unfold FAR9; omega)).mp h6)) (Int32.not_le.mpr c4)
          · refine w_iload hX dX3_firstThatLeavesRoom_62 rfl ?_
            refine w_iret hX hE dX3_firstThatLeavesRoom_64 (Or.inl rfl) rfl ⟨?_, rfl⟩
            rw [hg, nxt_Y (by omega) (nxP_iff.mpr ⟨hb, s9, hs9, (hy2.2 _ (by unfold FAR9; omega)).mpr ((oI_le (by omega) (fun v h => by have := hy2.1 v h; unfold FAR9 at this; omega)).mp c4)⟩)]
  exact loop 0 (Nat.zero_le _) rfl
/-- along the row all goes well -/
theorem sq_ok {B : Nat → Nat} {d ch : Nat} {W : Wn} (hok : okWn W (B 85)) (h8 : B 85 ≤ 8) (hc : ch < 2 ^ B 85) (ht : tdB B d ch = true) (hF : FF W (B 85) ch 0 = true) : ∀ i, i ≤ pcn ch 12 → (sqn W (B 85) i ch 0).1 < 2 ^ B 85 ∧ tdB B d (sqn W (B 85) i ch 0).1 = true ∧ (sqn W (B 85) i ch 0).2 < 10000000 ∧ FF W (B 85) (sqn W (B 85) i ch 0).1 (sqn W (B 85) i ch 0).2 = true ∧ pcn (sqn W (B 85) i ch 0).1 12 + i = pcn ch 12 := by
  intro i
  induction i with
  | zero => intro _; exact ⟨hc, ht, by show 0 < 10000000; omega, hF, rfl⟩
  | succ i ih =>
    intro hi
    obtain ⟨h1, h2, h3, h4, h5⟩ := ih (by omega)
    have hne : (sqn W (B 85) i ch 0).1 ≠ 0 := pcn_pos (n := 12) (by omega)
    obtain ⟨g1, g2, g3, g4⟩ := gW_ok h4 hne
    rw [sqn_S]
    have hl := clr_ls g2
    have hb := eb_le hok g1 g3
    have hk := hok _ g1
    have hp := pcn_clr g2 12
    rw [if_pos (by omega)] at hp
    exact ⟨by omega, tdB_clr h2, by show _ + _ < _; omega, g4, by show pcn (clr _ _) 12 + (i + 1) = _; omega⟩
theorem pcn8 {n S : Nat} (hn : n ≤ 8) (hS : S < 2 ^ n) : pcn S 12 ≤ 8 := by
  have h1 : ∀ k, n ≤ k → pcn S k = pcn S n := by
    intro k
    induction k with
    | zero => intro h; rw [show n = 0 by omega]
    | succ k ih =>
      intro h
      by_cases e : n = k + 1
      · rw [e]
      · simp only [pcn]
        rw [ih (by omega), Nat.testBit_lt_two_pow (Nat.lt_of_lt_of_le hS (Nat.pow_le_pow_right (by omega) (by omega)))]
        rfl
  rw [h1 12 (by omega)]
  exact Nat.le_trans (pcn_le n) hn
set_option maxHeartbeats 1000000 in
theorem s_p_layRow (Γ : Gm) (μ : Mem) (p b d : Nat) (B : Nat → Nat) (hp : isPl μ p) (hR : Rb μ b B) (hW : WB B) (hpb : p + 5 < b) (W : Wn) (hok : okWn W (B 85)) (hlen : ∀ w, w < B 85 → W.2.2.2.2 w = B (86 + 5 * w + 3)) (hwn : ∀ w, w < B 85 → B (86 + 5 * w) = d → wnM μ p W w) (hla : laM μ p B d W (2 ^ B 85)) (ch : Nat) (hch : gI μ p 8 = nI ch) (hc : ch < 2 ^ B 85) (htd : tdB B d ch = true) (hF : FF W (B 85) ch 0 = true)  : SpV Γ MX3_layRow 3 0 0 [.ref p, .ref b] μ (fun μ2 => gI μ2 p 5 = nI (pcn ch 12) ∧ (∀ j, j < pcn ch 12 → gI μ2 (p + 4) j = nI (gW W (B 85) (sqn W (B 85) j ch 0).1 (sqn W (B 85) j ch 0).2) ∧ gI μ2 (p + 5) j = nI (gS W (B 85) (sqn W (B 85) j ch 0).1 (sqn W (B 85) j ch 0).2)) ∧ same (fun o k => o = p + 4 ∨ o = p + 5 ∨ (o = p ∧ k = 5)) μ μ2) := by
  refine SpV.of okX3_layRow rfl [some (.ref p), some (.ref b), none, none, none, none] ⟨rfl, rfl, trivial⟩ (leb rfl) (leb rfl) (fun X hX hE hnm => ?_)
  have hn8 := hW.2.2.1.1; have h256 := p8 hn8; have hpc8 := pcn8 hn8 hc
  refine w_aload_n (i := 0) hX dX3_layRow_0 rfl rfl ?_
  refine w_aload_n (i := 0) hX dX3_layRow_1 rfl rfl ?_
  refine w_getI hX dX3_layRow_2 fo_RX3_70 rfl (pl_s hp) ?_
  refine w_top (y := nI ch) hch ?_
  refine w_callSI (As := [.int (nI ch)]) (rest := [.ref p]) (k2 := 0) (n2 := 0) hX dX3_layRow_5 (s_bcI Γ μ ch (by omega)) okJ6_bitCount_0f7a4 ml_RX3_97 stJ6_bitCount_0f7a4 rfl (leb rfl) (leb rfl) rfl rfl (fun r9 μ9 hq9 => ?_)
  obtain ⟨hr9, hm9⟩ := hq9; rw [hr9, hm9]; clear hr9 hm9 r9 μ9
  refine w_putI hX dX3_layRow_8 fo_RX3_102 rfl rfl rfl rfl (pl_s hp) ?_
  refine w_aload_n (i := 0) hX dX3_layRow_11 rfl rfl ?_
  refine w_getI hX dX3_layRow_12 fo_RX3_70 rfl (pl_s hp) ?_
  refine w_top (y := nI ch) (by rw [gI_nk (by omega)]; exact hch) ?_
  refine w_istore_n (i := 2) (l2 := [some (.ref p), some (.ref b), some (.int (nI ch)), none, none, none]) hX dX3_layRow_15 rfl (ltb rfl) rfl rfl ?_
  refine w_iconst hX dX3_layRow_16 kI_0 ?_
  refine w_istore_n (i := 3) (l2 := [some (.ref p), some (.ref b), some (.int (nI ch)), some (.int (nI 0)), none, none]) hX dX3_layRow_17 rfl (ltb rfl) rfl rfl ?_
  refine w_iconst hX dX3_layRow_18 kI_0 ?_
  refine w_istore (l2 := [some (.ref p), some (.ref b), some (.int (nI ch)), some (.int (nI 0)), some (.int (nI 0)), none]) hX dX3_layRow_19 (ltb rfl) rfl rfl ?_
  have loop : ∀ i, i ≤ pcn ch 12 → ∀ ν : Mem, (same (fun o _ => o = p + 4 ∨ o = p + 5) (sI μ p 5 (nI (pcn ch 12))) ν) → (∀ j, j < i → gI ν (p + 4) j = nI (gW W (B 85) (sqn W (B 85) j ch 0).1 (sqn W (B 85) j ch 0).2) ∧ gI ν (p + 5) j = nI (gS W (B 85) (sqn W (B 85) j ch 0).1 (sqn W (B 85) j ch 0).2)) → WP Γ X 0 0 21 [some (.ref p), some (.ref b), some (.int (nI ((sqn W (B 85) i ch 0).1))), some (.int (nI ((sqn W (B 85) i ch 0).2))), some (.int (nI i)), none] [] ν := by
    refine loopU (pcn ch 12) ?_
    intro i hi ihi ν hsm hrw
    have hpk := hsm.isPl (show isPl (sI μ p 5 (nI (pcn ch 12))) p from hp)
    have hRk := Rb_same hsm (fun o k h => Or.inl (by omega)) (Rb_same (same.rf.sI rfl : same (fun o _ => o = p) μ (sI μ p 5 (nI (pcn ch 12)))) (fun o k h => Or.inl (by omega)) hR)
    obtain ⟨hq1, hq2, hq3, hq4, hq5⟩ := sq_ok hok hn8 hc htd hF i hi
    have hwnk : ∀ w, w < B 85 → B (86 + 5 * w) = d → wnM ν p W w := fun w h1 h2 => wnM_same (wnM_same (hwn w h1 h2) (same.rf.sI rfl : same (fun o _ => o = p) μ (sI μ p 5 (nI (pcn ch 12)))) (fun k h9 => by omega)) hsm (fun k h9 => by omega)
    have hlak : laM ν p B d W (2 ^ B 85) := fun T hT h9 => by obtain ⟨z, h1, h2⟩ := hla T hT h9; exact ⟨z, by rw [(hsm.2.2 _ _ (fun h => by omega)).1, gI_no (by omega)]; exact h1, h2⟩
    refine w_iload hX dX3_layRow_21 rfl ?_
    refine w_aload_n (i := 0) hX dX3_layRow_23 rfl rfl ?_
    refine w_getI hX dX3_layRow_24 fo_RX3_102 rfl (pl_s hpk) ?_
    refine w_top (y := nI (pcn ch 12)) (by rw [(hsm.2.2 _ _ (fun h => by omega)).1]; exact gI_same) ?_
    refine wn_icmp_ge (tgt := 92) hX dX3_layRow_27 (by decide) (by omega) (by omega) (fun c1 => ?_) (fun c1 => ?_)
    · exact w_vret hX hE dX3_layRow_92 (Or.inl rfl) ⟨by rw [(hsm.2.2 _ _ (fun h => by omega)).1]; exact gI_same, fun j hj => hrw j (by omega), (same.rf.sI (Or.inr (Or.inr ⟨rfl, rfl⟩))).tr (hsm.up (fun o k h => by omega))⟩
    · have hne : (sqn W (B 85) i ch 0).1 ≠ 0 := pcn_pos (n := 12) (by omega)
      obtain ⟨hg1, hg2, hg3, hg4⟩ := gW_ok hq4 hne
      have hgl := eb_le hok hg1 hg3
      refine w_aload_n (i := 0) hX dX3_layRow_30 rfl rfl ?_
      refine w_aload_n (i := 1) hX dX3_layRow_31 rfl rfl ?_
      refine w_iload_n (i := 2) hX dX3_layRow_32 rfl rfl ?_
      refine w_iload_n (i := 3) hX dX3_layRow_33 rfl rfl ?_
      refine w_callVI (As := [.ref b, .int (nI ((sqn W (B 85) i ch 0).1)), .int (nI ((sqn W (B 85) i ch 0).2))]) (rest := []) (ci := 3) (o := p) (k2 := 0) (n2 := 0) hX dX3_layRow_34 (s_p_first Γ ν p b d B hpk hRk hW W hok hlen hwnk hlak (sqn W (B 85) i ch 0).1 (sqn W (B 85) i ch 0).2 hq1 hne hq2 (by omega) hq4) okX3_firstThatLeavesRoom (ltb rfl) (pl_s hpk) ml_RX3_105 imX3_firstThatLeavesRoom seX3_firstThatLeavesRoom rfl (leb rfl) (leb rfl) rfl rfl (fun r9 μ9 hq9 => ?_)
      obtain ⟨hr9, hm9⟩ := hq9; rw [hr9, hm9]; clear hr9 hm9 r9 μ9
      refine w_istore (l2 := [some (.ref p), some (.ref b), some (.int (nI ((sqn W (B 85) i ch 0).1))), some (.int (nI ((sqn W (B 85) i ch 0).2))), some (.int (nI i)), some (.int (nI (gW W (B 85) (sqn W (B 85) i ch 0).1 (sqn W (B 85) i ch 0).2)))]) hX dX3_layRow_37 (ltb rfl) rfl rfl ?_
      refine w_aload_n (i := 0) hX dX3_layRow_39 rfl rfl ?_
      refine w_getR (q := p + 4) hX dX3_layRow_40 fo_RX3_23 rfl (pl_s hpk) (pl_r3 hpk) ?_
      refine w_iload hX dX3_layRow_43 rfl ?_
      refine w_iload hX dX3_layRow_45 rfl ?_
      refine w_iastN hX dX3_layRow_47 (pl_a4 hpk) (by omega) (by omega) ?_
      refine w_aload_n (i := 0) hX dX3_layRow_48 rfl rfl ?_
      refine w_getR (q := p + 5) hX dX3_layRow_49 fo_RX3_26 rfl (pl_s hpk) (pl_r4 hpk) ?_
      refine w_iload hX dX3_layRow_52 rfl ?_
      refine w_aload_n (i := 0) hX dX3_layRow_54 rfl rfl ?_
      refine w_iload hX dX3_layRow_55 rfl ?_
      refine w_iload_n (i := 3) hX dX3_layRow_57 rfl rfl ?_
      refine w_callVI (As := [.int (nI (gW W (B 85) (sqn W (B 85) i ch 0).1 (sqn W (B 85) i ch 0).2)), .int (nI ((sqn W (B 85) i ch 0).2))]) (rest := [.int (nI i), .ref (p + 5)]) (ci := 3) (o := p) (k2 := 0) (n2 := 0) hX dX3_layRow_58 (s_p_eb Γ (sI ν (p + 4) i (nI (gW W (B 85) (sqn W (B 85) i ch 0).1 (sqn W (B 85) i ch 0).2))) p hpk W (B 85) hn8 hok (gW W (B 85) (sqn W (B 85) i ch 0).1 (sqn W (B 85) i ch 0).2) hg1 (wnM_same (hwnk _ hg1 (tdB_iff.mp hq2 _ hg1 hg2)) (same.rf.sI rfl : same (fun o _ => o = p + 4) ν _) (fun k h9 => by omega)) (sqn W (B 85) i ch 0).2 (by omega)) okX3_earliestBegin (ltb rfl) (pl_s hpk) ml_RX3_109 imX3_earliestBegin seX3_earliestBegin rfl (leb rfl) (leb rfl) rfl rfl (fun r9 μ9 hq9 => ?_)
      obtain ⟨hr9, hm9⟩ := hq9; rw [hr9, hm9, hg3, show oI (some (gS W (B 85) (sqn W (B 85) i ch 0).1 (sqn W (B 85) i ch 0).2)) = nI (gS W (B 85) (sqn W (B 85) i ch 0).1 (sqn W (B 85) i ch 0).2) from rfl]; clear hr9 hm9 r9 μ9
      refine w_iastN hX dX3_layRow_61 (pl_a5 hpk) (by omega) (by omega) ?_
      refine w_aload_n (i := 0) hX dX3_layRow_62 rfl rfl ?_
      refine w_getR (q := p + 5) hX dX3_layRow_63 fo_RX3_26 rfl (pl_s hpk) (pl_r4 hpk) ?_
      refine w_iload hX dX3_layRow_66 rfl ?_
      refine w_ialdN hX dX3_layRow_68 (pl_a5 hpk) (by omega) (by omega) ?_
      refine w_top (y := nI (gS W (B 85) (sqn W (B 85) i ch 0).1 (sqn W (B 85) i ch 0).2)) gI_same ?_
      refine w_aload_n (i := 1) hX dX3_layRow_69 rfl rfl ?_
      refine w_iload hX dX3_layRow_70 rfl ?_
      refine w_callSI (As := [.ref b, .int (nI (gW W (B 85) (sqn W (B 85) i ch 0).1 (sqn W (B 85) i ch 0).2))]) (rest := [.int (nI (gS W (B 85) (sqn W (B 85) i ch 0).1 (sqn W (B 85) i ch 0).2))]) (k2 := 0) (n2 := 0) hX dX3_layRow_72 (s_p_len Γ (sI (sI ν (p + 4) i (nI (gW W (B 85) (sqn W (B 85) i ch 0).1 (sqn W (B 85) i ch 0).2))) (p + 5) i (nI (gS W (B 85) (sqn W (B 85) i ch 0).1 (sqn W (B 85) i ch 0).2))) b B (Rb_same (same.rf.sI (Or.inl rfl) |>.sI (Or.inr rfl) : same (fun o _ => o = p + 4 ∨ o = p + 5) ν _) (fun o k h => Or.inl (by omega)) hRk) hW (gW W (B 85) (sqn W (B 85) i ch 0).1 (sqn W (B 85) i ch 0).2) hg1) okX3_lengthOf ml_RX3_91 stX3_lengthOf rfl (leb rfl) (leb rfl) rfl rfl (fun r9 μ9 hq9 => ?_)
      obtain ⟨hr9, hm9⟩ := hq9; rw [hr9, hm9, ← hlen _ hg1]; clear hr9 hm9 r9 μ9
      refine w_iaddN hX dX3_layRow_75 ?_
      refine w_istore_n (i := 3) (l2 := [some (.ref p), some (.ref b), some (.int (nI ((sqn W (B 85) i ch 0).1))), some (.int (nI (gS W (B 85) (sqn W (B 85) i ch 0).1 (sqn W (B 85) i ch 0).2 + (W.2.2.2.2 (gW W (B 85) (sqn W (B 85) i ch 0).1 (sqn W (B 85) i ch 0).2))))), some (.int (nI i)), some (.int (nI (gW W (B 85) (sqn W (B 85) i ch 0).1 (sqn W (B 85) i ch 0).2)))]) hX dX3_layRow_76 rfl (ltb rfl) rfl rfl ?_
      refine w_iload_n (i := 2) hX dX3_layRow_77 rfl rfl ?_
      refine w_iconst hX dX3_layRow_78 kI_1 ?_
      refine w_iload hX dX3_layRow_79 rfl ?_
      refine w_ishl hX dX3_layRow_81 ?_
      refine w_iconst hX dX3_layRow_82 kI_m1 ?_
      refine w_ixor hX dX3_layRow_83 ?_
      refine w_iand hX dX3_layRow_84 ?_
      refine w_top (y := nI (clr (sqn W (B 85) i ch 0).1 (gW W (B 85) (sqn W (B 85) i ch 0).1 (sqn W (B 85) i ch 0).2))) (clr_nI (by omega) (by omega)) ?_
      refine w_istore_n (i := 2) (l2 := [some (.ref p), some (.ref b), some (.int (nI (clr (sqn W (B 85) i ch 0).1 (gW W (B 85) (sqn W (B 85) i ch 0).1 (sqn W (B 85) i ch 0).2)))), some (.int (nI (gS W (B 85) (sqn W (B 85) i ch 0).1 (sqn W (B 85) i ch 0).2 + (W.2.2.2.2 (gW W (B 85) (sqn W (B 85) i ch 0).1 (sqn W (B 85) i ch 0).2))))), some (.int (nI i)), some (.int (nI (gW W (B 85) (sqn W (B 85) i ch 0).1 (sqn W (B 85) i ch 0).2)))]) hX dX3_layRow_85 rfl (ltb rfl) rfl rfl ?_
      refine w_iincN (w := 1) (l2 := [some (.ref p), some (.ref b), some (.int (nI (clr (sqn W (B 85) i ch 0).1 (gW W (B 85) (sqn W (B 85) i ch 0).1 (sqn W (B 85) i ch 0).2)))), some (.int (nI (gS W (B 85) (sqn W (B 85) i ch 0).1 (sqn W (B 85) i ch 0).2 + (W.2.2.2.2 (gW W (B 85) (sqn W (B 85) i ch 0).1 (sqn W (B 85) i ch 0).2))))), some (.int (nI (i + 1))), some (.int (nI (gW W (B 85) (sqn W (B 85) i ch 0).1 (sqn W (B 85) i ch 0).2)))]) hX dX3_layRow_86 rfl kI_1 rfl rfl ?_
      refine w_goto (tgt := 21) hX dX3_layRow_89 (by decide) ?_
      refine w_sub (l2 := [some (.ref p), some (.ref b), some (.int (nI (clr (sqn W (B 85) i ch 0).1 (gW W (B 85) (sqn W (B 85) i ch 0).1 (sqn W (B 85) i ch 0).2)))), some (.int (nI (gS W (B 85) (sqn W (B 85) i ch 0).1 (sqn W (B 85) i ch 0).2 + (W.2.2.2.2 (gW W (B 85) (sqn W (B 85) i ch 0).1 (sqn W (B 85) i ch 0).2))))), some (.int (nI (i + 1))), none]) (by simp [lsub]) (leb rfl) ?_
      refine w_locs (ls2 := [some (.ref p), some (.ref b), some (.int (nI ((sqn W (B 85) (i + 1) ch 0).1))), some (.int (nI ((sqn W (B 85) (i + 1) ch 0).2))), some (.int (nI (i + 1))), none]) (by rw [sqn_S]) ?_
      refine ihi (by omega) _ ((hsm.sI (Or.inl rfl)).sI (Or.inr rfl)) (fun j hj => ?_)
      by_cases e : j = i
      · subst e; exact ⟨by rw [gI_no (by omega), gI_same], gI_same⟩
      · exact ⟨by rw [gI_no (by omega), gI_nk e]; exact (hrw j (by omega)).1, by rw [gI_nk e, gI_no (by omega)]; exact (hrw j (by omega)).2⟩
  exact loop 0 (Nat.zero_le _) (sI μ p 5 (nI (pcn ch 12))) same.rf (fun j hj => absurd hj (Nat.not_lt_zero _))
