theorem HM.sm {S : Nat → Nat → Prop} {μ ν : Mem} {m : Nat} {B : Nat → Nat} (h : HM μ m B) (hs : same S μ ν) (hS : ∀ o k, S o k → o ≠ m + 6 ∧ ¬ (o = m ∧ k = 16)) : HM ν m B :=
  ⟨⟨hs.isMod h.1.1, fun j hj => ⟨by rw [(hs.2.2 _ _ (fun h9 => (hS _ _ h9).1 rfl)).1]; exact (h.1.2 j hj).1, (h.1.2 j hj).2⟩⟩, ⟨by rw [(hs.2.2 _ _ (fun h9 => (hS _ _ h9).2 ⟨rfl, rfl⟩)).1]; exact h.2.1.1, h.2.1.2⟩, h.2.2⟩
theorem HM.sI {μ : Mem} {m o k : Nat} {v : Int32} {B : Nat → Nat} (h : HM μ m B) (ho : o ≠ m + 6 ∧ ¬ (o = m ∧ k = 16)) : HM (sI μ o k v) m B :=
  h.sm (S := fun o9 k9 => o9 = o ∧ k9 = k) (same.rf.sI ⟨rfl, rfl⟩) (fun o9 k9 h9 => by obtain ⟨rfl, rfl⟩ := h9; exact ho)
theorem HM.sL {μ : Mem} {m o k : Nat} {v : Int64} {B : Nat → Nat} (h : HM μ m B) (ho : o ≠ m + 6 ∧ ¬ (o = m ∧ k = 16)) : HM (sL μ o k v) m B :=
  h.sm (S := fun o9 k9 => o9 = o ∧ k9 = k) (same.rf.sL ⟨rfl, rfl⟩) (fun o9 k9 h9 => by obtain ⟨rfl, rfl⟩ := h9; exact ho)
def cnt (B : Nat → Nat) (p s : Nat) : Nat → Nat
  | 0 => 0
  | e + 1 => cnt B p s e + if wsh B p (e + 1) < wsh B p s then 1 else 0
theorem cnt_le {B : Nat → Nat} {p s : Nat} : ∀ n, cnt B p s n ≤ n := by
  intro n
  induction n with
  | zero => simp [cnt]
  | succ n ih => simp only [cnt]; split <;> omega
def plM (B : Nat → Nat) (s : Nat) : Nat → Nat
  | 0 => 0
  | k + 1 => plM B s k + cnt B k s 24
def lsM (B : Nat → Nat) (s : Nat) : Nat → Nat
  | 0 => 100
  | k + 1 => if wsh B k s < lsM B s k then wsh B k s else lsM B s k
def pl2 (B : Nat → Nat) (s K : Nat) : Nat → Nat
  | 0 => 0
  | e + 1 => pl2 B s K e + frn B s (e + 1) K
theorem pl2_S {B : Nat → Nat} {s K : Nat} : ∀ E, pl2 B s (K + 1) E = pl2 B s K E + cnt B K s E := by
  intro E
  induction E with
  | zero => rfl
  | succ E ih => simp only [pl2, cnt, frn]; rw [ih]; omega
theorem plM_2 {B : Nat → Nat} {s : Nat} : ∀ K, plM B s K = pl2 B s K 24 := by
  intro K
  induction K with
  | zero =>
    have h : ∀ E, pl2 B s 0 E = 0 := by
      intro E
      induction E with
      | zero => rfl
      | succ E ih => simp only [pl2, frn]; rw [ih]
    rw [h]; rfl
  | succ K ih => simp only [plM]; rw [pl2_S, ih]
theorem pl_eq {B : Nat → Nat} {s : Nat} : plM B s (B 126) = plC B s 24 := by
  rw [plM_2]
  have h : ∀ E, pl2 B s (B 126) E = plC B s E := by
    intro E
    induction E with
    | zero => rfl
    | succ E ih => simp only [pl2, plC]; rw [ih]
  exact h 24
theorem ls_eq {B : Nat → Nat} (h : WB B) {s : Nat} (hs : s ≤ 24) : ∀ k, lsM B s (k + 1) = lsC B s k := by
  intro k
  induction k with
  | zero => show (if wsh B 0 s < 100 then wsh B 0 s else 100) = wsh B 0 s; rw [if_pos (by have := wsh_le h (show 0 < 9 by omega) hs; omega)]
  | succ k ih => rw [lsM, lsC, ih]
def GS (B : Nat → Nat) (w s k : Nat) : Nat := if w = 1 then smW B s k else if w = 2 then plM B s k else lsM B s k
theorem plM_le {B : Nat → Nat} {s : Nat} : ∀ k, plM B s k ≤ 24 * k := by
  intro k
  induction k with
  | zero => simp [plM]
  | succ k ih => simp only [plM]; have := cnt_le (B := B) (p := k) (s := s) 24; omega
theorem lsM_le {B : Nat → Nat} {s : Nat} : ∀ k, lsM B s k ≤ 100 := by
  intro k
  induction k with
  | zero => simp [lsM]
  | succ k ih => simp only [lsM]; split <;> omega
theorem GS_le {B : Nat → Nat} (h : WB B) {w s : Nat} (hs : s ≤ 24) {k : Nat} (hk : k ≤ 9) : GS B w s k ≤ 999 := by
  unfold GS
  have h1 := smW_le h hs k hk
  have h2 := plM_le (B := B) (s := s) k
  have h3 := lsM_le (B := B) (s := s) k
  split
  · omega
  · split <;> omega
theorem GS_S1 {B : Nat → Nat} {w s k : Nat} (h : w = 1) : GS B w s (k + 1) = GS B w s k + wsh B k s := by subst h; rfl
theorem GS_S2 {B : Nat → Nat} {w s k : Nat} (h : w = 2) : GS B w s (k + 1) = GS B w s k + cnt B k s 24 := by subst h; rfl
theorem GS_S5 {B : Nat → Nat} {w s k : Nat} (h : w = 5) : GS B w s (k + 1) = if wsh B k s < GS B w s k then wsh B k s else GS B w s k := by subst h; rfl
theorem GS_0 {B : Nat → Nat} {w s : Nat} (h : w = 1 ∨ w = 2) : GS B w s 0 = 0 := by rcases h with rfl | rfl <;> rfl
theorem GS_05 {B : Nat → Nat} {w s : Nat} (h : w = 5) : GS B w s 0 = 100 := by subst h; rfl
def bb (B : Nat → Nat) (s : Nat) : Nat → Bool
  | 0 => true
  | n + 1 => bb B s n && (decide (n + 1 = s) || decide (frn B (n + 1) s (B 126) < frn B s (n + 1) (B 126)))
theorem bb_bte {B : Nat → Nat} {s : Nat} (hs : 1 ≤ s) : ∀ n, (bte B s n + (if s ≤ n then 1 else 0) ≤ n) ∧ (bb B s n = true ↔ bte B s n + (if s ≤ n then 1 else 0) = n) := by
  intro n
  induction n with
  | zero => rw [if_neg (by omega)]; simp [bte, bb]
  | succ n ih =>
    obtain ⟨i1, i2⟩ := ih
    simp only [bte, bb, Bool.and_eq_true, Bool.or_eq_true, decide_eq_true_eq]
    rw [i2]
    by_cases h1 : n + 1 = s
    · subst h1
      rw [if_neg (Nat.lt_irrefl _)]
      rw [if_neg (by omega : ¬ n + 1 ≤ n)] at i1 ⊢
      rw [if_pos (Nat.le_refl _)]
      exact ⟨by omega, ⟨fun h => by omega, fun h => ⟨by omega, Or.inl rfl⟩⟩⟩
    · have h2 : (s ≤ n + 1) ↔ s ≤ n := by omega
      simp only [h1, false_or, h2]
      generalize (if s ≤ n then 1 else 0) = t at i1 ⊢
      by_cases h4 : frn B (n + 1) s (B 126) < frn B s (n + 1) (B 126)
      · rw [if_pos h4]; exact ⟨by omega, ⟨fun h => by omega, fun h => ⟨by omega, h4⟩⟩⟩
      · rw [if_neg h4]; exact ⟨by omega, ⟨fun h => absurd h.2 h4, fun h => by omega⟩⟩
theorem bb_23 {B : Nat → Nat} {s : Nat} (hs : 1 ≤ s) (hs2 : s ≤ 24) : bb B s 24 = true ↔ bte B s 24 = 23 := by
  have h := (bb_bte (B := B) hs 24).2
  rw [if_pos hs2] at h
  rw [h]
  omega
set_option maxHeartbeats 1000000 in
theorem s_m_allLeft (Γ : Gm) (μ : Mem) (m : Nat) (B : Nat → Nat) (hm : HM μ m B) (hW : WB B)  : SpV Γ MX9_allAreLeft 0 0 0 [.ref m] μ (fun μ2 => same (fun o _ => o = m + 17) μ μ2 ∧ ∀ s, 1 ≤ s → s ≤ 24 → gI μ2 (m + 17) s = bI true) := by
  refine SpV.of okX9_allAreLeft rfl [some (.ref m), none] ⟨rfl, trivial⟩ (leb rfl) (leb rfl) (fun X hX hE hnm => ?_)
  refine w_iconst hX dX9_allAreLeft_0 kI_1 ?_
  refine w_istore_n (i := 1) (l2 := [some (.ref m), some (.int (nI 1))]) hX dX9_allAreLeft_1 rfl (ltb rfl) rfl rfl ?_
  have loop : ∀ k, k ≤ 24 → ∀ ν : Mem, (same (fun o _ => o = m + 17) μ ν) → (∀ s, 1 ≤ s → s ≤ k → gI ν (m + 17) s = bI true) → WP Γ X 0 0 2 [some (.ref m), some (.int (nI (k + 1)))] [] ν := by
    refine loopU (24) ?_
    intro k hk ih ν hsm hcp
    have hmk := hm.sm hsm (fun o k h => by omega)
    refine w_iload_n (i := 1) hX dX9_allAreLeft_2 rfl rfl ?_
    refine w_bipush hX dX9_allAreLeft_3 kB_24 ?_
    refine wn_icmp_gt (tgt := 21) hX dX9_allAreLeft_5 (by decide) (by omega) (by omega) (fun c1 => ?_) (fun c1 => ?_)
    · exact w_vret hX hE dX9_allAreLeft_21 (Or.inl rfl) ⟨hsm, fun s h1 h2 => hcp s h1 (by omega)⟩
    · refine w_aload_n (i := 0) hX dX9_allAreLeft_8 rfl rfl ?_
      refine w_getR (q := m + 17) hX dX9_allAreLeft_9 fo_RX9_109 rfl (mod_s hmk.1.1) (mod_r26 hmk.1.1) ?_
      refine w_iload_n (i := 1) hX dX9_allAreLeft_12 rfl rfl ?_
      refine w_iconst hX dX9_allAreLeft_13 kI_1 ?_
      refine w_zastN hX dX9_allAreLeft_14 (mod_a17 hmk.1.1) (by omega) (by omega) rfl ?_
      refine w_iincN (w := 1) (l2 := [some (.ref m), some (.int (nI (k + 1 + 1)))]) hX dX9_allAreLeft_15 rfl kI_1 rfl rfl ?_
      refine w_goto (tgt := 2) hX dX9_allAreLeft_18 (by decide) ?_
      refine ih (by omega) _ (hsm.sI rfl) (fun j h1 h2 => ?_)
      by_cases hjk : j = k + 1
      · rw [hjk, gI_same]; rfl
      · rw [gI_nk hjk]; exact hcp j h1 (by omega)
  exact loop 0 (Nat.zero_le _) μ same.rf (fun s h1 h2 => by omega)
set_option maxHeartbeats 1000000 in
theorem s_m_mostVotes (Γ : Gm) (μ : Mem) (m : Nat) (B : Nat → Nat) (hm : HM μ m B) (hW : WB B) (f : Nat → Nat) (hpt : ∀ s, 1 ≤ s → s ≤ 24 → gI μ (m + 18) s = nI (f s)) (hfb : ∀ s, s ≤ 24 → f s < 2 ^ 31) : SpI Γ MX9_mostVotes 0 0 0 [.ref m] μ (fun r μ2 => r = nI (mst f 23) ∧ μ2 = μ) := by
  refine SpI.of okX9_mostVotes rfl [some (.ref m), none, none] ⟨rfl, trivial⟩ (leb rfl) (leb rfl) (fun X hX hE hnm => ?_)
  refine w_iconst hX dX9_mostVotes_0 kI_1 ?_
  refine w_istore_n (i := 1) (l2 := [some (.ref m), some (.int (nI 1)), none]) hX dX9_mostVotes_1 rfl (ltb rfl) rfl rfl ?_
  refine w_iconst hX dX9_mostVotes_2 kI_2 ?_
  refine w_istore_n (i := 2) (l2 := [some (.ref m), some (.int (nI 1)), some (.int (nI 2))]) hX dX9_mostVotes_3 rfl (ltb rfl) rfl rfl ?_
  have loop : ∀ k, k ≤ 23 → WP Γ X 0 0 4 [some (.ref m), some (.int (nI (mst f k))), some (.int (nI (k + 2)))] [] μ := by
    refine loopU 23 ?_
    intro k hk ih
    have hml := mst_le (v := f) k
    have hb1 : k < 23 → f (k + 2) < 2 ^ 31 := fun h => hfb _ (by omega)
    have hb2 := hfb (mst f k) (by omega)
    refine w_iload_n (i := 2) hX dX9_mostVotes_4 rfl rfl ?_
    refine w_bipush hX dX9_mostVotes_5 kB_24 ?_
    refine wn_icmp_gt (tgt := 37) hX dX9_mostVotes_7 (by decide) (by omega) (by omega) (fun c1 => ?_) (fun c1 => ?_)
    · refine w_iload_n (i := 1) hX dX9_mostVotes_37 rfl rfl ?_
      exact w_iret hX hE dX9_mostVotes_38 (Or.inl rfl) rfl ⟨by rw [show k = 23 by omega], rfl⟩
    · refine w_aload_n (i := 0) hX dX9_mostVotes_10 rfl rfl ?_
      refine w_getR (q := m + 18) hX dX9_mostVotes_11 fo_RX9_113 rfl (mod_s hm.1.1) (mod_r27 hm.1.1) ?_
      refine w_iload_n (i := 2) hX dX9_mostVotes_14 rfl rfl ?_
      refine w_ialdN hX dX9_mostVotes_15 (mod_a18 hm.1.1) (by omega) (by omega) ?_
      refine w_top (y := nI (f (k + 2))) (hpt _ (by omega) (by omega)) ?_
      refine w_aload_n (i := 0) hX dX9_mostVotes_16 rfl rfl ?_
      refine w_getR (q := m + 18) hX dX9_mostVotes_17 fo_RX9_113 rfl (mod_s hm.1.1) (mod_r27 hm.1.1) ?_
      refine w_iload_n (i := 1) hX dX9_mostVotes_20 rfl rfl ?_
      refine w_ialdN hX dX9_mostVotes_21 (mod_a18 hm.1.1) (by omega) (by omega) ?_
      refine w_top (y := nI (f (mst f k))) (hpt _ (by omega) (by omega)) ?_
      refine wn_icmp_le (tgt := 29) hX dX9_mostVotes_22 (by decide) (by omega) (by omega) (fun c2 => ?_) (fun c2 => ?_)
      · refine w_iload_n (i := 1) hX dX9_mostVotes_29 rfl rfl ?_
        refine w_istore_n (i := 1) (l2 := [some (.ref m), some (.int (nI (mst f k))), some (.int (nI (k + 2)))]) hX dX9_mostVotes_30 rfl (ltb rfl) rfl rfl ?_
        refine w_iincN (w := 1) (l2 := [some (.ref m), some (.int (nI (mst f k))), some (.int (nI (k + 2 + 1)))]) hX dX9_mostVotes_31 rfl kI_1 rfl rfl ?_
        refine w_goto (tgt := 4) hX dX9_mostVotes_34 (by decide) ?_
        have e9 : mst f k = mst f (k + 1) := by simp only [mst]; rw [if_neg (by omega)]
        refine w_locs (ls2 := [some (.ref m), some (.int (nI (mst f (k + 1)))), some (.int (nI (k + 2 + 1)))]) (by rw [← e9]) ?_
        exact ih (by omega)
      · refine w_iload_n (i := 2) hX dX9_mostVotes_25 rfl rfl ?_
        refine w_goto (tgt := 30) hX dX9_mostVotes_26 (by decide) ?_
        refine w_istore_n (i := 1) (l2 := [some (.ref m), some (.int (nI (k + 2))), some (.int (nI (k + 2)))]) hX dX9_mostVotes_30 rfl (ltb rfl) rfl rfl ?_
        refine w_iincN (w := 1) (l2 := [some (.ref m), some (.int (nI (k + 2))), some (.int (nI (k + 2 + 1)))]) hX dX9_mostVotes_31 rfl kI_1 rfl rfl ?_
        refine w_goto (tgt := 4) hX dX9_mostVotes_34 (by decide) ?_
        have e9 : k + 2 = mst f (k + 1) := by simp only [mst]; rw [if_pos (by omega)]
        refine w_locs (ls2 := [some (.ref m), some (.int (nI (mst f (k + 1)))), some (.int (nI (k + 2 + 1)))]) (by rw [← e9]) ?_
        exact ih (by omega)
  exact loop 0 (Nat.zero_le _)
set_option maxHeartbeats 1000000 in
theorem s_m_poll (Γ : Gm) (μ : Mem) (m : Nat) (B : Nat → Nat) (hm : HM μ m B) (hW : WB B) (left : Nat → Bool) (hlf : ∀ s, 1 ≤ s → s ≤ 24 → gI μ (m + 17) s = bI (left s)) : SpV Γ MX9_poll 1 0 0 [.ref m] μ (fun μ2 => same (fun o _ => o = m + 18) μ μ2 ∧ ∀ s, s ≤ 24 → gI μ2 (m + 18) s = nI (vt B left (B 126) s)) := by
  refine SpV.of okX9_poll rfl [some (.ref m), none, none, none] ⟨rfl, trivial⟩ (leb rfl) (leb rfl) (fun X hX hE hnm => ?_)
  have big : ∀ ν : Mem, same (fun o _ => o = m + 18) μ ν → (∀ s, s < 25 → gI ν (m + 18) s = nI 0) → WP Γ X 0 0 23 [some (.ref m), some (.int (nI 0)), none, none] [] ν := by
    intro ν0 hs0 hf0
    have loop : ∀ k, k ≤ B 126 → ∀ ν : Mem, (same (fun o _ => o = m + 18) μ ν) → (∀ s, s ≤ 24 → gI ν (m + 18) s = nI (vt B left k s)) → WP Γ X 0 0 23 [some (.ref m), some (.int (nI k)), none, none] [] ν := by
      refine loopU (B 126) ?_
      intro k hk ih ν hsm hpt
      have hmk := hm.sm hsm (fun o k h => by omega)
      have hP := hW.2.2.2.1.1
      refine w_iload_n (i := 1) hX dX9_poll_23 rfl rfl ?_
      refine w_aload_n (i := 0) hX dX9_poll_24 rfl rfl ?_
      refine w_callVI (As := []) (rest := [.int (nI k)]) (ci := 9) (o := m) (k2 := 0) (n2 := 0) hX dX9_poll_25 (s_m_persons Γ ν m B hmk hW) okX9_persons (ltb rfl) (mod_s hmk.1.1) ml_RX9_348 imX9_persons seX9_persons rfl (leb rfl) (leb rfl) rfl rfl (fun r9 μ9 hq9 => ?_)
      obtain ⟨hr9, hm9⟩ := hq9; rw [hr9, hm9]; clear hr9 hm9 r9 μ9
      refine wn_icmp_ge (tgt := 97) hX dX9_poll_28 (by decide) (by omega) (by omega) (fun c1 => ?_) (fun c1 => ?_)
      · exact w_vret hX hE dX9_poll_97 (Or.inl rfl) ⟨hsm, fun s hs => by rw [show B 126 = k by omega]; exact hpt s hs⟩
      · refine w_iconst hX dX9_poll_31 kI_0 ?_
        refine w_istore_n (i := 2) (l2 := [some (.ref m), some (.int (nI k)), some (.int (nI 0)), none]) hX dX9_poll_32 rfl (ltb rfl) rfl rfl ?_
        refine w_iconst hX dX9_poll_33 kI_1 ?_
        refine w_istore_n (i := 3) (l2 := [some (.ref m), some (.int (nI k)), some (.int (nI 0)), some (.int (nI 1))]) hX dX9_poll_34 rfl (ltb rfl) rfl rfl ?_
        have inl : ∀ j, j ≤ 24 → WP Γ X 0 0 35 [some (.ref m), some (.int (nI k)), some (.int (nI (dr B left k j))), some (.int (nI (j + 1)))] [] ν := by
          refine loopU 24 ?_
          intro j hj ihj
          have hdl := dr_le (B := B) (left := left) (p := k) j
          have hw1 : j < 24 → wsh B k (j + 1) ≤ 99 := fun h => wsh_le hW (by omega) (by omega)
          have hw2 := wsh_le hW (show k < 9 by omega) (show dr B left k j ≤ 24 by omega)
          refine w_iload_n (i := 3) hX dX9_poll_35 rfl rfl ?_
          refine w_bipush hX dX9_poll_36 kB_24 ?_
          refine wn_icmp_gt (tgt := 81) hX dX9_poll_38 (by decide) (by omega) (by omega) (fun c2 => ?_) (fun c2 => ?_)
          · refine w_sub (l2 := [some (.ref m), some (.int (nI k)), some (.int (nI (dr B left k j))), none]) (by simp [lsub]) (leb rfl) ?_
            refine w_locs (ls2 := [some (.ref m), some (.int (nI k)), some (.int (nI (dr B left k 24))), none]) (by rw [show j = 24 by omega]) ?_
            refine w_aload_n (i := 0) hX dX9_poll_81 rfl rfl ?_
            refine w_getR (q := m + 18) hX dX9_poll_82 fo_RX9_113 rfl (mod_s hmk.1.1) (mod_r27 hmk.1.1) ?_
            refine w_iload_n (i := 2) hX dX9_poll_85 rfl rfl ?_
            refine w_dup2 hX dX9_poll_86 rfl rfl ?_
            refine w_ialdN hX dX9_poll_87 (mod_a18 hmk.1.1) (by have := dr_le (B := B) (left := left) (p := k) 24; omega) (by omega) ?_
            refine w_top (y := nI (vt B left k (dr B left k 24))) (hpt _ (by have := dr_le (B := B) (left := left) (p := k) 24; omega)) ?_
            refine w_iconst hX dX9_poll_88 kI_1 ?_
            refine w_iaddN hX dX9_poll_89 ?_
            refine w_iastN hX dX9_poll_90 (mod_a18 hmk.1.1) (by have := dr_le (B := B) (left := left) (p := k) 24; omega) (by omega) ?_
            refine w_iincN (w := 1) (l2 := [some (.ref m), some (.int (nI (k + 1))), some (.int (nI (dr B left k 24))), none]) hX dX9_poll_91 rfl kI_1 rfl rfl ?_
            refine w_goto (tgt := 23) hX dX9_poll_94 (by decide) ?_
            refine w_sub (l2 := [some (.ref m), some (.int (nI (k + 1))), none, none]) (by simp [lsub]) (leb rfl) ?_
            refine ih (by omega) _ (hsm.sI rfl) (fun s hs => ?_)
            simp only [vt]
            by_cases h9 : s = dr B left k 24
            · rw [if_pos h9, h9, gI_same]
            · rw [if_neg h9, gI_nk h9]; exact hpt s hs
          · refine w_aload_n (i := 0) hX dX9_poll_41 rfl rfl ?_
            refine w_getR (q := m + 17) hX dX9_poll_42 fo_RX9_109 rfl (mod_s hmk.1.1) (mod_r26 hmk.1.1) ?_
            refine w_iload_n (i := 3) hX dX9_poll_45 rfl rfl ?_
            refine w_zaldN hX dX9_poll_46 (mod_a17 hmk.1.1) (by omega) (by omega) ?_
            refine w_top (y := bI (left (j + 1))) (by rw [(hsm.2.2 _ _ (fun h => by omega)).1]; exact hlf _ (by omega) (by omega)) ?_
            refine wb_eq (tgt := 73) hX dX9_poll_47 (by decide) (fun hlj => ?_) (fun hlj => ?_)
            · refine w_iload_n (i := 2) hX dX9_poll_73 rfl rfl ?_
              refine w_istore_n (i := 2) (l2 := [some (.ref m), some (.int (nI k)), some (.int (nI (dr B left k j))), some (.int (nI (j + 1)))]) hX dX9_poll_74 rfl (ltb rfl) rfl rfl ?_
              refine w_iincN (w := 1) (l2 := [some (.ref m), some (.int (nI k)), some (.int (nI (dr B left k j))), some (.int (nI (j + 1 + 1)))]) hX dX9_poll_75 rfl kI_1 rfl rfl ?_
              refine w_goto (tgt := 35) hX dX9_poll_78 (by decide) ?_
              have e9 : dr B left k j = dr B left k (j + 1) := by
                simp only [dr]; rw [if_neg (fun h9 => by rw [hlj] at h9; exact absurd h9.1 (by decide))]
              refine w_locs (ls2 := [some (.ref m), some (.int (nI k)), some (.int (nI (dr B left k (j + 1)))), some (.int (nI (j + 1 + 1)))]) (by rw [← e9]) ?_
              exact ihj (by omega)
            · refine w_iload_n (i := 2) hX dX9_poll_50 rfl rfl ?_
              refine wn_if_eq (tgt := 69) hX dX9_poll_51 (by decide) (by omega) (fun c4 => ?_) (fun c4 => ?_)
              · refine w_iload_n (i := 3) hX dX9_poll_69 rfl rfl ?_
                refine w_goto (tgt := 74) hX dX9_poll_70 (by decide) ?_
                refine w_istore_n (i := 2) (l2 := [some (.ref m), some (.int (nI k)), some (.int (nI (j + 1))), some (.int (nI (j + 1)))]) hX dX9_poll_74 rfl (ltb rfl) rfl rfl ?_
                refine w_iincN (w := 1) (l2 := [some (.ref m), some (.int (nI k)), some (.int (nI (j + 1))), some (.int (nI (j + 1 + 1)))]) hX dX9_poll_75 rfl kI_1 rfl rfl ?_
                refine w_goto (tgt := 35) hX dX9_poll_78 (by decide) ?_
                have e9 : j + 1 = dr B left k (j + 1) := by
                  simp only [dr]; rw [if_pos ⟨hlj, by omega⟩]
                refine w_locs (ls2 := [some (.ref m), some (.int (nI k)), some (.int (nI (dr B left k (j + 1)))), some (.int (nI (j + 1 + 1)))]) (by rw [← e9]) ?_
                exact ihj (by omega)
              · refine w_aload_n (i := 0) hX dX9_poll_54 rfl rfl ?_
                refine w_iload_n (i := 1) hX dX9_poll_55 rfl rfl ?_
                refine w_iload_n (i := 3) hX dX9_poll_56 rfl rfl ?_
                refine w_callVI (As := [.int (nI k), .int (nI (j + 1))]) (rest := []) (ci := 9) (o := m) (k2 := 0) (n2 := 0) hX dX9_poll_57 (s_m_wishOf Γ ν m B hmk hW k (j + 1) (by omega) (by omega)) okX9_wishOf (ltb rfl) (mod_s hmk.1.1) ml_RX9_354 imX9_wishOf seX9_wishOf rfl (leb rfl) (leb rfl) rfl rfl (fun r9 μ9 hq9 => ?_)
                obtain ⟨hr9, hm9⟩ := hq9; rw [hr9, hm9]; clear hr9 hm9 r9 μ9
                refine w_aload_n (i := 0) hX dX9_poll_60 rfl rfl ?_
                refine w_iload_n (i := 1) hX dX9_poll_61 rfl rfl ?_
                refine w_iload_n (i := 2) hX dX9_poll_62 rfl rfl ?_
                refine w_callVI (As := [.int (nI k), .int (nI (dr B left k j))]) (rest := [.int (nI (wsh B k (j + 1)))]) (ci := 9) (o := m) (k2 := 0) (n2 := 0) hX dX9_poll_63 (s_m_wishOf Γ ν m B hmk hW k (dr B left k j) (by omega) (by omega)) okX9_wishOf (ltb rfl) (mod_s hmk.1.1) ml_RX9_354 imX9_wishOf seX9_wishOf rfl (leb rfl) (leb rfl) rfl rfl (fun r9 μ9 hq9 => ?_)
                obtain ⟨hr9, hm9⟩ := hq9; rw [hr9, hm9]; clear hr9 hm9 r9 μ9
                refine wn_icmp_le (tgt := 73) hX dX9_poll_66 (by decide) (by omega) (by omega) (fun c5 => ?_) (fun c5 => ?_)
                · refine w_iload_n (i := 2) hX dX9_poll_73 rfl rfl ?_
                  refine w_istore_n (i := 2) (l2 := [some (.ref m), some (.int (nI k)), some (.int (nI (dr B left k j))), some (.int (nI (j + 1)))]) hX dX9_poll_74 rfl (ltb rfl) rfl rfl ?_
                  refine w_iincN (w := 1) (l2 := [some (.ref m), some (.int (nI k)), some (.int (nI (dr B left k j))), some (.int (nI (j + 1 + 1)))]) hX dX9_poll_75 rfl kI_1 rfl rfl ?_
                  refine w_goto (tgt := 35) hX dX9_poll_78 (by decide) ?_
                  have e9 : dr B left k j = dr B left k (j + 1) := by
                    simp only [dr]; rw [if_neg (fun h9 => by have := h9.2; omega)]
                  refine w_locs (ls2 := [some (.ref m), some (.int (nI k)), some (.int (nI (dr B left k (j + 1)))), some (.int (nI (j + 1 + 1)))]) (by rw [← e9]) ?_
                  exact ihj (by omega)
                · refine w_iload_n (i := 3) hX dX9_poll_69 rfl rfl ?_
                  refine w_goto (tgt := 74) hX dX9_poll_70 (by decide) ?_
                  refine w_istore_n (i := 2) (l2 := [some (.ref m), some (.int (nI k)), some (.int (nI (j + 1))), some (.int (nI (j + 1)))]) hX dX9_poll_74 rfl (ltb rfl) rfl rfl ?_
                  refine w_iincN (w := 1) (l2 := [some (.ref m), some (.int (nI k)), some (.int (nI (j + 1))), some (.int (nI (j + 1 + 1)))]) hX dX9_poll_75 rfl kI_1 rfl rfl ?_
                  refine w_goto (tgt := 35) hX dX9_poll_78 (by decide) ?_
                  have e9 : j + 1 = dr B left k (j + 1) := by
                    simp only [dr]; rw [if_pos ⟨hlj, by omega⟩]
                  refine w_locs (ls2 := [some (.ref m), some (.int (nI k)), some (.int (nI (dr B left k (j + 1)))), some (.int (nI (j + 1 + 1)))]) (by rw [← e9]) ?_
                  exact ihj (by omega)
        exact inl 0 (Nat.zero_le _)
    exact loop 0 (Nat.zero_le _) ν0 hs0 (fun s hs => hf0 s (by omega))
  refine w_iconst hX dX9_poll_0 kI_0 ?_
  refine w_istore_n (i := 1) (l2 := [some (.ref m), some (.int (nI 0)), none, none]) hX dX9_poll_1 rfl (ltb rfl) rfl rfl ?_
  have loop : ∀ k, k ≤ 25 → ∀ ν : Mem, (same (fun o _ => o = m + 18) μ ν) → (∀ s, s < k → gI ν (m + 18) s = nI 0) → WP Γ X 0 0 2 [some (.ref m), some (.int (nI k)), none, none] [] ν := by
    refine loopU (25) ?_
    intro k hk ih ν hsm hcp
    have hmk := hm.sm hsm (fun o k h => by omega)
    refine w_iload_n (i := 1) hX dX9_poll_2 rfl rfl ?_
    refine w_bipush hX dX9_poll_3 kB_25 ?_
    refine wn_icmp_ge (tgt := 21) hX dX9_poll_5 (by decide) (by omega) (by omega) (fun c6 => ?_) (fun c6 => ?_)
    · refine w_iconst hX dX9_poll_21 kI_0 ?_
      refine w_istore_n (i := 1) (l2 := [some (.ref m), some (.int (nI 0)), none, none]) hX dX9_poll_22 rfl (ltb rfl) rfl rfl ?_
      have hs0 := hsm; have hf0 : ∀ s, s < 25 → gI ν (m + 18) s = nI 0 := fun s hs => hcp s (by omega)
      clear hcp hsm
      exact big ν hs0 hf0
    · refine w_aload_n (i := 0) hX dX9_poll_8 rfl rfl ?_
      refine w_getR (q := m + 18) hX dX9_poll_9 fo_RX9_113 rfl (mod_s hmk.1.1) (mod_r27 hmk.1.1) ?_
      refine w_iload_n (i := 1) hX dX9_poll_12 rfl rfl ?_
      refine w_iconst hX dX9_poll_13 kI_0 ?_
      refine w_iastN hX dX9_poll_14 (mod_a18 hmk.1.1) (by omega) (by omega) ?_
      refine w_iincN (w := 1) (l2 := [some (.ref m), some (.int (nI (k + 1))), none, none]) hX dX9_poll_15 rfl kI_1 rfl rfl ?_
      refine w_goto (tgt := 2) hX dX9_poll_18 (by decide) ?_
      refine ih (by omega) _ (hsm.sI rfl) (fun j h2 => ?_)
      by_cases hjk : j = k
      · rw [hjk, gI_same]
      · rw [gI_nk hjk]; exact hcp j (by omega)
  exact loop 0 (Nat.zero_le _) μ same.rf (fun s h => by omega)
set_option maxHeartbeats 1000000 in
theorem s_m_bySums (Γ : Gm) (μ : Mem) (m : Nat) (B : Nat → Nat) (hm : HM μ m B) (hW : WB B) (w : Nat) (hw : w = 1 ∨ w = 2 ∨ w = 5) : SpI Γ MX9_bySums 1 0 0 [.ref m, .int (nI w)] μ (fun r μ2 => r = nI (mst (fun s => GS B w s (B 126)) 23) ∧ same (fun o _ => o = m + 18) μ μ2) := by
  refine SpI.of okX9_bySums rfl [some (.ref m), some (.int (nI w)), none, none, none, none, none] ⟨rfl, rfl, trivial⟩ (leb rfl) (leb rfl) (fun X hX hE hnm => ?_)
  refine w_iconst hX dX9_bySums_0 kI_1 ?_
  refine w_istore_n (i := 2) (l2 := [some (.ref m), some (.int (nI w)), some (.int (nI 1)), none, none, none, none]) hX dX9_bySums_1 rfl (ltb rfl) rfl rfl ?_
  have loop : ∀ k, k ≤ 24 → ∀ ν : Mem, (same (fun o _ => o = m + 18) μ ν) → (∀ s, 1 ≤ s → s ≤ k → gI ν (m + 18) s = nI (GS B w s (B 126))) → WP Γ X 0 0 2 [some (.ref m), some (.int (nI w)), some (.int (nI (k + 1))), none, none, none, none] [] ν := by
    refine loopU (24) ?_
    intro k hk ih ν hsm h1
    have hmk := hm.sm hsm (fun o k h => by omega)
    have hP := hW.2.2.2.1.1
    refine w_iload_n (i := 2) hX dX9_bySums_2 rfl rfl ?_
    refine w_bipush hX dX9_bySums_3 kB_24 ?_
    refine wn_icmp_gt (tgt := 158) hX dX9_bySums_5 (by decide) (by omega) (by omega) (fun c1 => ?_) (fun c1 => ?_)
    · refine w_aload_n (i := 0) hX dX9_bySums_158 rfl rfl ?_
      refine w_callVI (As := []) (rest := []) (ci := 9) (o := m) (k2 := 0) (n2 := 0) hX dX9_bySums_159 (s_m_mostVotes Γ ν m B hmk hW (fun s => GS B w s (B 126)) (fun s h8 h9 => h1 s h8 (by omega)) (fun s h => by show GS B w s (B 126) < _; have := GS_le hW (w := w) (show s ≤ 24 by omega) hP; omega)) okX9_mostVotes (ltb rfl) (mod_s hmk.1.1) ml_RX9_360 imX9_mostVotes seX9_mostVotes rfl (leb rfl) (leb rfl) rfl rfl (fun r9 μ9 hq9 => ?_)
      obtain ⟨hr9, hm9⟩ := hq9; rw [hr9, hm9]; clear hr9 hm9 r9 μ9
      exact w_iret hX hE dX9_bySums_162 (Or.inl rfl) rfl ⟨rfl, hsm⟩
    · have mid : ∀ j, j ≤ B 126 → ∀ ν1 : Mem, (same (fun o _ => o = m + 18) μ ν1) → (∀ s, 1 ≤ s → s ≤ k → gI ν1 (m + 18) s = nI (GS B w s (B 126))) → (gI ν1 (m + 18) (k + 1) = nI (GS B w (k + 1) j)) → WP Γ X 0 0 27 [some (.ref m), some (.int (nI w)), some (.int (nI (k + 1))), some (.int (nI j)), none, none, none] [] ν1 := by
        refine loopU (B 126) ?_
        intro j hj ihj ν1 hsn g1 g3
        have hm1 := hm.sm hsn (fun o k h => by omega)
        have hgl := GS_le hW (w := w) (show k + 1 ≤ 24 by omega) (show j ≤ 9 by omega)
        have hw1 : j < 9 → wsh B j (k + 1) ≤ 99 := fun h => wsh_le hW (by omega) (by omega)
        have hcl := cnt_le (B := B) (p := j) (s := k + 1) 24
        refine w_iload_n (i := 3) hX dX9_bySums_27 rfl rfl ?_
        refine w_aload_n (i := 0) hX dX9_bySums_28 rfl rfl ?_
        refine w_callVI (As := []) (rest := [.int (nI j)]) (ci := 9) (o := m) (k2 := 0) (n2 := 0) hX dX9_bySums_29 (s_m_persons Γ ν1 m B hm1 hW) okX9_persons (ltb rfl) (mod_s hm1.1.1) ml_RX9_348 imX9_persons seX9_persons rfl (leb rfl) (leb rfl) rfl rfl (fun r9 μ9 hq9 => ?_)
        obtain ⟨hr9, hm9⟩ := hq9; rw [hr9, hm9]; clear hr9 hm9 r9 μ9
        refine wn_icmp_ge (tgt := 152) hX dX9_bySums_32 (by decide) (by omega) (by omega) (fun c2 => ?_) (fun c2 => ?_)
        · refine w_iincN (w := 1) (l2 := [some (.ref m), some (.int (nI w)), some (.int (nI (k + 1 + 1))), some (.int (nI j)), none, none, none]) hX dX9_bySums_152 rfl kI_1 rfl rfl ?_
          refine w_goto (tgt := 2) hX dX9_bySums_155 (by decide) ?_
          refine w_sub (l2 := [some (.ref m), some (.int (nI w)), some (.int (nI (k + 1 + 1))), none, none, none, none]) (by simp [lsub]) (leb rfl) ?_
          refine ih (by omega) _ hsn (fun s h8 h9 => ?_)
          by_cases h7 : s = k + 1
          · rw [h7, g3, show j = B 126 by omega]
          · exact g1 s h8 (by omega)
        · refine w_aload_n (i := 0) hX dX9_bySums_35 rfl rfl ?_
          refine w_iload_n (i := 3) hX dX9_bySums_36 rfl rfl ?_
          refine w_iload_n (i := 2) hX dX9_bySums_37 rfl rfl ?_
          refine w_callVI (As := [.int (nI j), .int (nI (k + 1))]) (rest := []) (ci := 9) (o := m) (k2 := 0) (n2 := 0) hX dX9_bySums_38 (s_m_wishOf Γ ν1 m B hm1 hW j (k + 1) (by omega) (by omega)) okX9_wishOf (ltb rfl) (mod_s hm1.1.1) ml_RX9_354 imX9_wishOf seX9_wishOf rfl (leb rfl) (leb rfl) rfl rfl (fun r9 μ9 hq9 => ?_)
          obtain ⟨hr9, hm9⟩ := hq9; rw [hr9, hm9]; clear hr9 hm9 r9 μ9
          refine w_istore (l2 := [some (.ref m), some (.int (nI w)), some (.int (nI (k + 1))), some (.int (nI j)), some (.int (nI (wsh B j (k + 1)))), none, none]) hX dX9_bySums_41 (ltb rfl) rfl rfl ?_
          refine w_iconst hX dX9_bySums_43 kI_0 ?_
          refine w_istore (l2 := [some (.ref m), some (.int (nI w)), some (.int (nI (k + 1))), some (.int (nI j)), some (.int (nI (wsh B j (k + 1)))), some (.int (nI 0)), none]) hX dX9_bySums_44 (ltb rfl) rfl rfl ?_
          refine w_iconst hX dX9_bySums_46 kI_1 ?_
          refine w_istore (l2 := [some (.ref m), some (.int (nI w)), some (.int (nI (k + 1))), some (.int (nI j)), some (.int (nI (wsh B j (k + 1)))), some (.int (nI 0)), some (.int (nI 1))]) hX dX9_bySums_47 (ltb rfl) rfl rfl ?_
          have inl : ∀ i, i ≤ 24 → WP Γ X 0 0 49 [some (.ref m), some (.int (nI w)), some (.int (nI (k + 1))), some (.int (nI j)), some (.int (nI (wsh B j (k + 1)))), some (.int (nI (cnt B j (k + 1) i))), some (.int (nI (i + 1)))] [] ν1 := by
            refine loopU 24 ?_
            intro i hi ihi
            have hw2 : i < 24 → wsh B j (i + 1) ≤ 99 := fun h => wsh_le hW (by omega) (by omega)
            refine w_iload hX dX9_bySums_49 rfl ?_
            refine w_bipush hX dX9_bySums_51 kB_24 ?_
            refine wn_icmp_gt (tgt := 84) hX dX9_bySums_53 (by decide) (by omega) (by omega) (fun c3 => ?_) (fun c3 => ?_)
            · refine w_sub (l2 := [some (.ref m), some (.int (nI w)), some (.int (nI (k + 1))), some (.int (nI j)), some (.int (nI (wsh B j (k + 1)))), some (.int (nI (cnt B j (k + 1) i))), none]) (by simp [lsub]) (leb rfl) ?_
              refine w_locs (ls2 := [some (.ref m), some (.int (nI w)), some (.int (nI (k + 1))), some (.int (nI j)), some (.int (nI (wsh B j (k + 1)))), some (.int (nI (cnt B j (k + 1) 24))), none]) (by rw [show i = 24 by omega]) ?_
              refine w_aload_n (i := 0) hX dX9_bySums_84 rfl rfl ?_
              refine w_getR (q := m + 18) hX dX9_bySums_85 fo_RX9_113 rfl (mod_s hm1.1.1) (mod_r27 hm1.1.1) ?_
              refine w_iload_n (i := 2) hX dX9_bySums_88 rfl rfl ?_
              refine w_iload_n (i := 1) hX dX9_bySums_89 rfl rfl ?_
              refine w_iconst hX dX9_bySums_90 kI_1 ?_
              refine wn_icmp_ne (tgt := 106) hX dX9_bySums_91 (by decide) (by omega) (by omega) (fun c4 => ?_) (fun c4 => ?_)
              · refine w_iload_n (i := 1) hX dX9_bySums_106 rfl rfl ?_
                refine w_iconst hX dX9_bySums_107 kI_2 ?_
                refine wn_icmp_ne (tgt := 123) hX dX9_bySums_108 (by decide) (by omega) (by omega) (fun c5 => ?_) (fun c5 => ?_)
                · refine w_iload hX dX9_bySums_123 rfl ?_
                  refine w_aload_n (i := 0) hX dX9_bySums_125 rfl rfl ?_
                  refine w_getR (q := m + 18) hX dX9_bySums_126 fo_RX9_113 rfl (mod_s hm1.1.1) (mod_r27 hm1.1.1) ?_
                  refine w_iload_n (i := 2) hX dX9_bySums_129 rfl rfl ?_
                  refine w_ialdN hX dX9_bySums_130 (mod_a18 hm1.1.1) (by omega) (by omega) ?_
                  refine w_top (y := nI (GS B w (k + 1) j)) g3 ?_
                  refine wn_icmp_ge (tgt := 139) hX dX9_bySums_131 (by decide) (by omega) (by omega) (fun c6 => ?_) (fun c6 => ?_)
                  · refine w_aload_n (i := 0) hX dX9_bySums_139 rfl rfl ?_
                    refine w_getR (q := m + 18) hX dX9_bySums_140 fo_RX9_113 rfl (mod_s hm1.1.1) (mod_r27 hm1.1.1) ?_
                    refine w_iload_n (i := 2) hX dX9_bySums_143 rfl rfl ?_
                    refine w_ialdN hX dX9_bySums_144 (mod_a18 hm1.1.1) (by omega) (by omega) ?_
                    refine w_top (y := nI (GS B w (k + 1) j)) g3 ?_
                    refine w_iastN hX dX9_bySums_145 (mod_a18 hm1.1.1) (by omega) (by omega) ?_
                    refine w_iincN (w := 1) (l2 := [some (.ref m), some (.int (nI w)), some (.int (nI (k + 1))), some (.int (nI (j + 1))), some (.int (nI (wsh B j (k + 1)))), some (.int (nI (cnt B j (k + 1) 24))), none]) hX dX9_bySums_146 rfl kI_1 rfl rfl ?_
                    refine w_goto (tgt := 27) hX dX9_bySums_149 (by decide) ?_
                    refine w_sub (l2 := [some (.ref m), some (.int (nI w)), some (.int (nI (k + 1))), some (.int (nI (j + 1))), none, none, none]) (by simp [lsub]) (leb rfl) ?_
                    refine ihj (by omega) _ (hsn.sI rfl) (fun s h8 h9 => by rw [gI_nk (by omega)]; exact g1 s h8 h9) (by rw [gI_same]; congr 1; first | exact (GS_S1 (by omega)).symm | exact (GS_S2 (by omega)).symm | (rw [GS_S5 (by omega), if_pos (by omega)]) | (rw [GS_S5 (by omega), if_neg (by omega)]))
                  · refine w_iload hX dX9_bySums_134 rfl ?_
                    refine w_goto (tgt := 145) hX dX9_bySums_136 (by decide) ?_
                    refine w_iastN hX dX9_bySums_145 (mod_a18 hm1.1.1) (by omega) (by omega) ?_
                    refine w_iincN (w := 1) (l2 := [some (.ref m), some (.int (nI w)), some (.int (nI (k + 1))), some (.int (nI (j + 1))), some (.int (nI (wsh B j (k + 1)))), some (.int (nI (cnt B j (k + 1) 24))), none]) hX dX9_bySums_146 rfl kI_1 rfl rfl ?_
                    refine w_goto (tgt := 27) hX dX9_bySums_149 (by decide) ?_
                    refine w_sub (l2 := [some (.ref m), some (.int (nI w)), some (.int (nI (k + 1))), some (.int (nI (j + 1))), none, none, none]) (by simp [lsub]) (leb rfl) ?_
                    refine ihj (by omega) _ (hsn.sI rfl) (fun s h8 h9 => by rw [gI_nk (by omega)]; exact g1 s h8 h9) (by rw [gI_same]; congr 1; first | exact (GS_S1 (by omega)).symm | exact (GS_S2 (by omega)).symm | (rw [GS_S5 (by omega), if_pos (by omega)]) | (rw [GS_S5 (by omega), if_neg (by omega)]))
                · refine w_aload_n (i := 0) hX dX9_bySums_111 rfl rfl ?_
                  refine w_getR (q := m + 18) hX dX9_bySums_112 fo_RX9_113 rfl (mod_s hm1.1.1) (mod_r27 hm1.1.1) ?_
                  refine w_iload_n (i := 2) hX dX9_bySums_115 rfl rfl ?_
                  refine w_ialdN hX dX9_bySums_116 (mod_a18 hm1.1.1) (by omega) (by omega) ?_
                  refine w_top (y := nI (GS B w (k + 1) j)) g3 ?_
                  refine w_iload hX dX9_bySums_117 rfl ?_
                  refine w_iaddN hX dX9_bySums_119 ?_
                  refine w_goto (tgt := 145) hX dX9_bySums_120 (by decide) ?_
                  refine w_iastN hX dX9_bySums_145 (mod_a18 hm1.1.1) (by omega) (by omega) ?_
                  refine w_iincN (w := 1) (l2 := [some (.ref m), some (.int (nI w)), some (.int (nI (k + 1))), some (.int (nI (j + 1))), some (.int (nI (wsh B j (k + 1)))), some (.int (nI (cnt B j (k + 1) 24))), none]) hX dX9_bySums_146 rfl kI_1 rfl rfl ?_
                  refine w_goto (tgt := 27) hX dX9_bySums_149 (by decide) ?_
                  refine w_sub (l2 := [some (.ref m), some (.int (nI w)), some (.int (nI (k + 1))), some (.int (nI (j + 1))), none, none, none]) (by simp [lsub]) (leb rfl) ?_
                  refine ihj (by omega) _ (hsn.sI rfl) (fun s h8 h9 => by rw [gI_nk (by omega)]; exact g1 s h8 h9) (by rw [gI_same]; congr 1; first | exact (GS_S1 (by omega)).symm | exact (GS_S2 (by omega)).symm | (rw [GS_S5 (by omega), if_pos (by omega)]) | (rw [GS_S5 (by omega), if_neg (by omega)]))
              · refine w_aload_n (i := 0) hX dX9_bySums_94 rfl rfl ?_
                refine w_getR (q := m + 18) hX dX9_bySums_95 fo_RX9_113 rfl (mod_s hm1.1.1) (mod_r27 hm1.1.1) ?_
                refine w_iload_n (i := 2) hX dX9_bySums_98 rfl rfl ?_
                refine w_ialdN hX dX9_bySums_99 (mod_a18 hm1.1.1) (by omega) (by omega) ?_
                refine w_top (y := nI (GS B w (k + 1) j)) g3 ?_
                refine w_iload hX dX9_bySums_100 rfl ?_
                refine w_iaddN hX dX9_bySums_102 ?_
                refine w_goto (tgt := 145) hX dX9_bySums_103 (by decide) ?_
                refine w_iastN hX dX9_bySums_145 (mod_a18 hm1.1.1) (by omega) (by omega) ?_
                refine w_iincN (w := 1) (l2 := [some (.ref m), some (.int (nI w)), some (.int (nI (k + 1))), some (.int (nI (j + 1))), some (.int (nI (wsh B j (k + 1)))), some (.int (nI (cnt B j (k + 1) 24))), none]) hX dX9_bySums_146 rfl kI_1 rfl rfl ?_
                refine w_goto (tgt := 27) hX dX9_bySums_149 (by decide) ?_
                refine w_sub (l2 := [some (.ref m), some (.int (nI w)), some (.int (nI (k + 1))), some (.int (nI (j + 1))), none, none, none]) (by simp [lsub]) (leb rfl) ?_
                refine ihj (by omega) _ (hsn.sI rfl) (fun s h8 h9 => by rw [gI_nk (by omega)]; exact g1 s h8 h9) (by rw [gI_same]; congr 1; first | exact (GS_S1 (by omega)).symm | exact (GS_S2 (by omega)).symm | (rw [GS_S5 (by omega), if_pos (by omega)]) | (rw [GS_S5 (by omega), if_neg (by omega)]))
            · refine w_iload hX dX9_bySums_56 rfl ?_
              refine w_aload_n (i := 0) hX dX9_bySums_58 rfl rfl ?_
              refine w_iload_n (i := 3) hX dX9_bySums_59 rfl rfl ?_
              refine w_iload hX dX9_bySums_60 rfl ?_
              refine w_callVI (As := [.int (nI j), .int (nI (i + 1))]) (rest := [.int (nI (cnt B j (k + 1) i))]) (ci := 9) (o := m) (k2 := 0) (n2 := 0) hX dX9_bySums_62 (s_m_wishOf Γ ν1 m B hm1 hW j (i + 1) (by omega) (by omega)) okX9_wishOf (ltb rfl) (mod_s hm1.1.1) ml_RX9_354 imX9_wishOf seX9_wishOf rfl (leb rfl) (leb rfl) rfl rfl (fun r9 μ9 hq9 => ?_)
              obtain ⟨hr9, hm9⟩ := hq9; rw [hr9, hm9]; clear hr9 hm9 r9 μ9
              refine w_iload hX dX9_bySums_65 rfl ?_
              refine wn_icmp_ge (tgt := 74) hX dX9_bySums_67 (by decide) (by omega) (by omega) (fun c7 => ?_) (fun c7 => ?_)
              · refine w_iconst hX dX9_bySums_74 kI_0 ?_
                refine w_iaddN hX dX9_bySums_75 ?_
                refine w_istore (l2 := [some (.ref m), some (.int (nI w)), some (.int (nI (k + 1))), some (.int (nI j)), some (.int (nI (wsh B j (k + 1)))), some (.int (nI (cnt B j (k + 1) i + 0))), some (.int (nI (i + 1)))]) hX dX9_bySums_76 (ltb rfl) rfl rfl ?_
                refine w_iincN (w := 1) (l2 := [some (.ref m), some (.int (nI w)), some (.int (nI (k + 1))), some (.int (nI j)), some (.int (nI (wsh B j (k + 1)))), some (.int (nI (cnt B j (k + 1) i + 0))), some (.int (nI (i + 1 + 1)))]) hX dX9_bySums_78 rfl kI_1 rfl rfl ?_
                refine w_goto (tgt := 49) hX dX9_bySums_81 (by decide) ?_
                have e9 : cnt B j (k + 1) i + 0 = cnt B j (k + 1) (i + 1) := by simp only [cnt]; rw [if_neg (by omega)]
                refine w_locs (ls2 := [some (.ref m), some (.int (nI w)), some (.int (nI (k + 1))), some (.int (nI j)), some (.int (nI (wsh B j (k + 1)))), some (.int (nI (cnt B j (k + 1) (i + 1)))), some (.int (nI (i + 1 + 1)))]) (by rw [← e9]) ?_
                exact ihi (by omega)
              · refine w_iconst hX dX9_bySums_70 kI_1 ?_
                refine w_goto (tgt := 75) hX dX9_bySums_71 (by decide) ?_
                refine w_iaddN hX dX9_bySums_75 ?_
                refine w_istore (l2 := [some (.ref m), some (.int (nI w)), some (.int (nI (k + 1))), some (.int (nI j)), some (.int (nI (wsh B j (k + 1)))), some (.int (nI (cnt B j (k + 1) i + 1))), some (.int (nI (i + 1)))]) hX dX9_bySums_76 (ltb rfl) rfl rfl ?_
                refine w_iincN (w := 1) (l2 := [some (.ref m), some (.int (nI w)), some (.int (nI (k + 1))), some (.int (nI j)), some (.int (nI (wsh B j (k + 1)))), some (.int (nI (cnt B j (k + 1) i + 1))), some (.int (nI (i + 1 + 1)))]) hX dX9_bySums_78 rfl kI_1 rfl rfl ?_
                refine w_goto (tgt := 49) hX dX9_bySums_81 (by decide) ?_
                have e9 : cnt B j (k + 1) i + 1 = cnt B j (k + 1) (i + 1) := by simp only [cnt]; rw [if_pos c7]
                refine w_locs (ls2 := [some (.ref m), some (.int (nI w)), some (.int (nI (k + 1))), some (.int (nI j)), some (.int (nI (wsh B j (k + 1)))), some (.int (nI (cnt B j (k + 1) (i + 1)))), some (.int (nI (i + 1 + 1)))]) (by rw [← e9]) ?_
                exact ihi (by omega)
          exact inl 0 (Nat.zero_le _)
      refine w_aload_n (i := 0) hX dX9_bySums_8 rfl rfl ?_
      refine w_getR (q := m + 18) hX dX9_bySums_9 fo_RX9_113 rfl (mod_s hmk.1.1) (mod_r27 hmk.1.1) ?_
      refine w_iload_n (i := 2) hX dX9_bySums_12 rfl rfl ?_
      refine w_iload_n (i := 1) hX dX9_bySums_13 rfl rfl ?_
      refine w_iconst hX dX9_bySums_14 kI_5 ?_
      refine wn_icmp_ne (tgt := 23) hX dX9_bySums_15 (by decide) (by omega) (by omega) (fun c8 => ?_) (fun c8 => ?_)
      · refine w_iconst hX dX9_bySums_23 kI_0 ?_
        refine w_iastN hX dX9_bySums_24 (mod_a18 hmk.1.1) (by omega) (by omega) ?_
        refine w_iconst hX dX9_bySums_25 kI_0 ?_
        refine w_istore_n (i := 3) (l2 := [some (.ref m), some (.int (nI w)), some (.int (nI (k + 1))), some (.int (nI 0)), none, none, none]) hX dX9_bySums_26 rfl (ltb rfl) rfl rfl ?_
        exact mid 0 (Nat.zero_le _) _ (hsm.sI rfl) (fun s h8 h9 => by rw [gI_nk (by omega)]; exact h1 s h8 h9) (by rw [gI_same]; congr 1; first | exact (GS_0 (by omega)).symm | exact (GS_05 (by omega)).symm)
      · refine w_bipush hX dX9_bySums_18 kB_100 ?_
        refine w_goto (tgt := 24) hX dX9_bySums_20 (by decide) ?_
        refine w_iastN hX dX9_bySums_24 (mod_a18 hmk.1.1) (by omega) (by omega) ?_
        refine w_iconst hX dX9_bySums_25 kI_0 ?_
        refine w_istore_n (i := 3) (l2 := [some (.ref m), some (.int (nI w)), some (.int (nI (k + 1))), some (.int (nI 0)), none, none, none]) hX dX9_bySums_26 rfl (ltb rfl) rfl rfl ?_
        exact mid 0 (Nat.zero_le _) _ (hsm.sI rfl) (fun s h8 h9 => by rw [gI_nk (by omega)]; exact h1 s h8 h9) (by rw [gI_same]; congr 1; first | exact (GS_0 (by omega)).symm | exact (GS_05 (by omega)).symm)
  exact loop 0 (Nat.zero_le _) μ same.rf (fun s h8 h9 => by omega)
set_option maxHeartbeats 1000000 in
theorem s_m_byPairs (Γ : Gm) (μ : Mem) (m : Nat) (B : Nat → Nat) (hm : HM μ m B) (hW : WB B)  : SpI Γ MX9_byPairs 2 0 0 [.ref m] μ (fun r μ2 => r = oI (prs B 24 0) ∧ μ2 = μ) := by
  refine SpI.of okX9_byPairs rfl [some (.ref m), none, none, none] ⟨rfl, trivial⟩ (leb rfl) (leb rfl) (fun X hX hE hnm => ?_)
  refine w_iconst hX dX9_byPairs_0 kI_1 ?_
  refine w_istore_n (i := 1) (l2 := [some (.ref m), some (.int (nI 1)), none, none]) hX dX9_byPairs_1 rfl (ltb rfl) rfl rfl ?_
  have loop : ∀ k, k ≤ 24 → prs B 24 0 = prs B (24 - k) k → WP Γ X 0 0 2 [some (.ref m), some (.int (nI (k + 1))), none, none] [] μ := by
    refine loopU 24 ?_
    intro k hk ih hv
    refine w_iload_n (i := 1) hX dX9_byPairs_2 rfl rfl ?_
    refine w_bipush hX dX9_byPairs_3 kB_24 ?_
    refine wn_icmp_gt (tgt := 66) hX dX9_byPairs_5 (by decide) (by omega) (by omega) (fun c1 => ?_) (fun c1 => ?_)
    · refine w_iconst hX dX9_byPairs_66 kI_m1 ?_
      exact w_iret hX hE dX9_byPairs_67 (Or.inl rfl) rfl ⟨by rw [hv, show 24 - k = 0 by omega]; rfl, rfl⟩
    · refine w_iconst hX dX9_byPairs_8 kI_1 ?_
      refine w_istore_n (i := 2) (l2 := [some (.ref m), some (.int (nI (k + 1))), some (.int (nI 1)), none]) hX dX9_byPairs_9 rfl (ltb rfl) rfl rfl ?_
      refine w_iconst hX dX9_byPairs_10 kI_1 ?_
      refine w_istore_n (i := 3) (l2 := [some (.ref m), some (.int (nI (k + 1))), some (.int (nI 1)), some (.int (nI 1))]) hX dX9_byPairs_11 rfl (ltb rfl) rfl rfl ?_
      have inl : ∀ j, j ≤ 24 → WP Γ X 0 0 12 [some (.ref m), some (.int (nI (k + 1))), some (.int (bI (bb B (k + 1) j))), some (.int (nI (j + 1)))] [] μ := by
        refine loopU 24 ?_
        intro j hj ihj
        have f1 := frn_le (B := B) (s := k + 1) (o := j + 1) (B 126); have f2 := frn_le (B := B) (s := j + 1) (o := k + 1) (B 126); have f3 := hW.2.2.2.1.1
        refine w_iload_n (i := 3) hX dX9_byPairs_12 rfl rfl ?_
        refine w_bipush hX dX9_byPairs_13 kB_24 ?_
        refine wn_icmp_gt (tgt := 54) hX dX9_byPairs_15 (by decide) (by omega) (by omega) (fun c2 => ?_) (fun c2 => ?_)
        · refine w_iload_n (i := 2) hX dX9_byPairs_54 rfl rfl ?_
          refine wb_eq (tgt := 60) hX dX9_byPairs_55 (by decide) (fun hbj => ?_) (fun hbj => ?_)
          · refine w_iincN (w := 1) (l2 := [some (.ref m), some (.int (nI (k + 1 + 1))), some (.int (bI (bb B (k + 1) j))), some (.int (nI (j + 1)))]) hX dX9_byPairs_60 rfl kI_1 rfl rfl ?_
            refine w_goto (tgt := 2) hX dX9_byPairs_63 (by decide) ?_
            refine w_sub (l2 := [some (.ref m), some (.int (nI (k + 1 + 1))), none, none]) (by simp [lsub]) (leb rfl) ?_
            exact ih (by omega) (by rw [hv, show 24 - k = (24 - (k + 1)) + 1 by omega]; simp only [prs]; rw [if_neg (fun e => by have e2 := (bb_23 (B := B) (s := k + 1) (by omega) (by omega)).mpr e; rw [show j = 24 by omega] at hbj; rw [e2] at hbj; cases hbj)])
          · refine w_iload_n (i := 1) hX dX9_byPairs_58 rfl rfl ?_
            exact w_iret hX hE dX9_byPairs_59 (Or.inl rfl) rfl ⟨by rw [hv, show 24 - k = (24 - (k + 1)) + 1 by omega]; simp only [prs]; rw [if_pos ((bb_23 (by omega) (by omega)).mp (by rw [show (24 : Nat) = j by omega]; exact hbj))]; rfl, rfl⟩
        · refine w_iload_n (i := 2) hX dX9_byPairs_18 rfl rfl ?_
          refine wb_eq (tgt := 46) hX dX9_byPairs_19 (by decide) (fun hbj => ?_) (fun hbj => ?_)
          · refine w_iconst hX dX9_byPairs_46 kI_0 ?_
            refine w_istore_n (i := 2) (l2 := [some (.ref m), some (.int (nI (k + 1))), some (.int (nI 0)), some (.int (nI (j + 1)))]) hX dX9_byPairs_47 rfl (ltb rfl) rfl rfl ?_
            refine w_iincN (w := 1) (l2 := [some (.ref m), some (.int (nI (k + 1))), some (.int (nI 0)), some (.int (nI (j + 1 + 1)))]) hX dX9_byPairs_48 rfl kI_1 rfl rfl ?_
            refine w_goto (tgt := 12) hX dX9_byPairs_51 (by decide) ?_
            have e9 : bb B (k + 1) (j + 1) = false := by simp only [bb, Bool.and_eq_true, Bool.or_eq_true, decide_eq_true_eq, Bool.and_eq_false_iff, Bool.or_eq_false_iff, decide_eq_false_iff_not]; first | exact ⟨hbj, by omega⟩ | exact Or.inl hbj | exact Or.inr (by omega)
            refine w_locs (ls2 := [some (.ref m), some (.int (nI (k + 1))), some (.int (bI (bb B (k + 1) (j + 1)))), some (.int (nI (j + 1 + 1)))]) (by rw [e9]; rfl) ?_
            exact ihj (by omega)
          · refine w_iload_n (i := 3) hX dX9_byPairs_22 rfl rfl ?_
            refine w_iload_n (i := 1) hX dX9_byPairs_23 rfl rfl ?_
            refine wn_icmp_eq (tgt := 42) hX dX9_byPairs_24 (by decide) (by omega) (by omega) (fun c5 => ?_) (fun c5 => ?_)
            · refine w_iconst hX dX9_byPairs_42 kI_1 ?_
              refine w_goto (tgt := 47) hX dX9_byPairs_43 (by decide) ?_
              refine w_istore_n (i := 2) (l2 := [some (.ref m), some (.int (nI (k + 1))), some (.int (nI 1)), some (.int (nI (j + 1)))]) hX dX9_byPairs_47 rfl (ltb rfl) rfl rfl ?_
              refine w_iincN (w := 1) (l2 := [some (.ref m), some (.int (nI (k + 1))), some (.int (nI 1)), some (.int (nI (j + 1 + 1)))]) hX dX9_byPairs_48 rfl kI_1 rfl rfl ?_
              refine w_goto (tgt := 12) hX dX9_byPairs_51 (by decide) ?_
              have e9 : bb B (k + 1) (j + 1) = true := by simp only [bb, Bool.and_eq_true, Bool.or_eq_true, decide_eq_true_eq, Bool.and_eq_false_iff, Bool.or_eq_false_iff, decide_eq_false_iff_not]; first | exact ⟨hbj, by omega⟩ | exact Or.inl hbj | exact Or.inr (by omega)
              refine w_locs (ls2 := [some (.ref m), some (.int (nI (k + 1))), some (.int (bI (bb B (k + 1) (j + 1)))), some (.int (nI (j + 1 + 1)))]) (by rw [e9]; rfl) ?_
              exact ihj (by omega)
            · refine w_aload_n (i := 0) hX dX9_byPairs_27 rfl rfl ?_
              refine w_iload_n (i := 1) hX dX9_byPairs_28 rfl rfl ?_
              refine w_iload_n (i := 3) hX dX9_byPairs_29 rfl rfl ?_
              refine w_callVI (As := [.int (nI (k + 1)), .int (nI (j + 1))]) (rest := []) (ci := 9) (o := m) (k2 := 0) (n2 := 0) hX dX9_byPairs_30 (s_m_prefer Γ μ m B hm hW (k + 1) (j + 1) (by omega) (by omega)) okX9_prefer (ltb rfl) (mod_s hm.1.1) ml_RX9_357 imX9_prefer seX9_prefer rfl (leb rfl) (leb rfl) rfl rfl (fun r9 μ9 hq9 => ?_)
              obtain ⟨hr9, hm9⟩ := hq9; rw [hr9, hm9]; clear hr9 hm9 r9 μ9
              refine w_aload_n (i := 0) hX dX9_byPairs_33 rfl rfl ?_
              refine w_iload_n (i := 3) hX dX9_byPairs_34 rfl rfl ?_
              refine w_iload_n (i := 1) hX dX9_byPairs_35 rfl rfl ?_
              refine w_callVI (As := [.int (nI (j + 1)), .int (nI (k + 1))]) (rest := [.int (nI (frn B (k + 1) (j + 1) (B 126)))]) (ci := 9) (o := m) (k2 := 0) (n2 := 0) hX dX9_byPairs_36 (s_m_prefer Γ μ m B hm hW (j + 1) (k + 1) (by omega) (by omega)) okX9_prefer (ltb rfl) (mod_s hm.1.1) ml_RX9_357 imX9_prefer seX9_prefer rfl (leb rfl) (leb rfl) rfl rfl (fun r9 μ9 hq9 => ?_)
              obtain ⟨hr9, hm9⟩ := hq9; rw [hr9, hm9]; clear hr9 hm9 r9 μ9
              refine wn_icmp_le (tgt := 46) hX dX9_byPairs_39 (by decide) (by omega) (by omega) (fun c6 => ?_) (fun c6 => ?_)
              · refine w_iconst hX dX9_byPairs_46 kI_0 ?_
                refine w_istore_n (i := 2) (l2 := [some (.ref m), some (.int (nI (k + 1))), some (.int (nI 0)), some (.int (nI (j + 1)))]) hX dX9_byPairs_47 rfl (ltb rfl) rfl rfl ?_
                refine w_iincN (w := 1) (l2 := [some (.ref m), some (.int (nI (k + 1))), some (.int (nI 0)), some (.int (nI (j + 1 + 1)))]) hX dX9_byPairs_48 rfl kI_1 rfl rfl ?_
                refine w_goto (tgt := 12) hX dX9_byPairs_51 (by decide) ?_
                have e9 : bb B (k + 1) (j + 1) = false := by simp only [bb, Bool.and_eq_true, Bool.or_eq_true, decide_eq_true_eq, Bool.and_eq_false_iff, Bool.or_eq_false_iff, decide_eq_false_iff_not]; first | exact ⟨hbj, by omega⟩ | exact Or.inl hbj | exact Or.inr (by omega)
                refine w_locs (ls2 := [some (.ref m), some (.int (nI (k + 1))), some (.int (bI (bb B (k + 1) (j + 1)))), some (.int (nI (j + 1 + 1)))]) (by rw [e9]; rfl) ?_
                exact ihj (by omega)
              · refine w_iconst hX dX9_byPairs_42 kI_1 ?_
                refine w_goto (tgt := 47) hX dX9_byPairs_43 (by decide) ?_
                refine w_istore_n (i := 2) (l2 := [some (.ref m), some (.int (nI (k + 1))), some (.int (nI 1)), some (.int (nI (j + 1)))]) hX dX9_byPairs_47 rfl (ltb rfl) rfl rfl ?_
                refine w_iincN (w := 1) (l2 := [some (.ref m), some (.int (nI (k + 1))), some (.int (nI 1)), some (.int (nI (j + 1 + 1)))]) hX dX9_byPairs_48 rfl kI_1 rfl rfl ?_
                refine w_goto (tgt := 12) hX dX9_byPairs_51 (by decide) ?_
                have e9 : bb B (k + 1) (j + 1) = true := by simp only [bb, Bool.and_eq_true, Bool.or_eq_true, decide_eq_true_eq, Bool.and_eq_false_iff, Bool.or_eq_false_iff, decide_eq_false_iff_not]; first | exact ⟨hbj, by omega⟩ | exact Or.inl hbj | exact Or.inr (by omega)
                refine w_locs (ls2 := [some (.ref m), some (.int (nI (k + 1))), some (.int (bI (bb B (k + 1) (j + 1)))), some (.int (nI (j + 1 + 1)))]) (by rw [e9]; rfl) ?_
                exact ihj (by omega)
      refine w_locs (ls2 := [some (.ref m), some (.int (nI (k + 1))), some (.int (bI (bb B (k + 1) 0))), some (.int (nI (0 + 1)))]) (by rfl) ?_
      exact inl 0 (Nat.zero_le _)
  exact loop 0 (Nat.zero_le _) rfl
theorem vt_cong {B : Nat → Nat} {l1 l2 : Nat → Bool} (h : ∀ s, 1 ≤ s → s ≤ 24 → l1 s = l2 s) : ∀ k s, vt B l1 k s = vt B l2 k s := by
  have hd : ∀ p n, n ≤ 24 → dr B l1 p n = dr B l2 p n := by
    intro p n
    induction n with
    | zero => intro _; rfl
    | succ n ih => intro hn; simp only [dr]; rw [ih (by omega), h (n + 1) (by omega) hn]
  intro k
  induction k with
  | zero => intro s; rfl
  | succ k ih => intro s; simp only [vt]; rw [ih s, hd k 24 (Nat.le_refl _)]
theorem run_end {B : Nat → Nat} {L : Nat} (h : okL L 1) (hP : 1 ≤ B 126) : mst (vt B (fun s => L.testBit s) (B 126)) 23 = rOff B 0 L := by
  obtain ⟨x, x1, x2, rfl⟩ := okL_bit h
  have h7 : ∀ s, 1 ≤ s → s ≤ 24 → (2 ^ x : Nat).testBit s = decide (s = x) := fun s h1 h2 => by
    rw [Nat.testBit_two_pow]
    by_cases e : s = x
    · simp [e]
    · simp [e, show ¬ x = s from fun q => e q.symm]
  simp only [rOff]
  rw [dr_one x1 h7 24 (by omega), if_pos x2, mst_one (by omega) x1 (vt_one x1 x2 h7 (B 126)) 23, if_pos (by omega)]
def SVm (m : Nat) : Nat → Nat → Prop := fun o k => (o = m ∧ k = 0) ∨ o = m + 17 ∨ o = m + 18
theorem all1 : ∀ s, 1 ≤ s → s ≤ 24 → (33554430 : Nat).testBit s = true := by
  have h : ∀ s, s < 25 → 1 ≤ s → (33554430 : Nat).testBit s = true := by decide
  exact fun s h1 h2 => h s (by omega) h1
set_option maxHeartbeats 1000000 in
theorem s_m_byRun (Γ : Gm) (μ : Mem) (m : Nat) (B : Nat → Nat) (hm : HM μ m B) (hW : WB B) (hP1 : 1 ≤ B 126) : SpI Γ MX9_byRun 2 0 0 [.ref m] μ (fun r μ2 => r = nI (rOff B 23 33554430) ∧ same (fun o _ => o = m + 17 ∨ o = m + 18) μ μ2) := by
  refine SpI.of okX9_byRun rfl [some (.ref m), none, none, none, none] ⟨rfl, trivial⟩ (leb rfl) (leb rfl) (fun X hX hE hnm => ?_)
  refine w_aload_n (i := 0) hX dX9_byRun_0 rfl rfl ?_
  refine w_callVV (As := []) (rest := []) (ci := 9) (o := m) (k2 := 0) (n2 := 0) hX dX9_byRun_1 (s_m_allLeft Γ μ m B hm hW) okX9_allAreLeft (ltb rfl) (mod_s hm.1.1) ml_RX9_363 imX9_allAreLeft seX9_allAreLeft rfl (leb rfl) (leb rfl) rfl rfl (fun νa hq9 => ?_)
  obtain ⟨ha1, ha2⟩ := hq9
  refine w_bipush hX dX9_byRun_4 kB_24 ?_
  refine w_istore_n (i := 1) (l2 := [some (.ref m), some (.int (nI 24)), none, none, none]) hX dX9_byRun_6 rfl (ltb rfl) rfl rfl ?_
  have loop : ∀ k, k ≤ 23 → ∀ (L : Nat) (ν : Mem), same (fun o _ => o = m + 17 ∨ o = m + 18) μ ν → okL L (24 - k) → rOff B 23 33554430 = rOff B (23 - k) L → (∀ s, 1 ≤ s → s ≤ 24 → gI ν (m + 17) s = bI (L.testBit s)) → WP Γ X 0 0 7 [some (.ref m), some (.int (nI (24 - k))), none, none, none] [] ν := by
    refine loopU 23 ?_
    intro k hk ih L ν hsm hok hv9 hlf
    have hmk := hm.sm hsm (fun o k h => by omega)
    have hP := hW.2.2.2.1.1
    refine w_aload_n (i := 0) hX dX9_byRun_7 rfl rfl ?_
    refine w_callVV (As := []) (rest := []) (ci := 9) (o := m) (k2 := 0) (n2 := 0) hX dX9_byRun_8 (s_m_poll Γ ν m B hmk hW (fun s => L.testBit s) hlf) okX9_poll (ltb rfl) (mod_s hmk.1.1) ml_RX9_366 imX9_poll seX9_poll rfl (leb rfl) (leb rfl) rfl rfl (fun νp hq9 => ?_)
    obtain ⟨hp1, hp2⟩ := hq9
    have hsp : same (fun o _ => o = m + 17 ∨ o = m + 18) μ νp := hsm.tr (hp1.up (fun o k h => Or.inr h))
    have hmp := hm.sm hsp (fun o k h => by omega)
    have hvl : ∀ s, vt B (fun s => L.testBit s) (B 126) s ≤ 9 := fun s => Nat.le_trans (vt_le _) hP
    have hml := mst_le (v := vt B (fun s => L.testBit s) (B 126)) 23
    have hlp : ∀ s, 1 ≤ s → s ≤ 24 → gI νp (m + 17) s = bI (L.testBit s) := fun s h1 h2 => by rw [(hp1.2.2 _ _ (fun h => by omega)).1]; exact hlf s h1 h2
    refine w_aload_n (i := 0) hX dX9_byRun_11 rfl rfl ?_
    refine w_callVI (As := []) (rest := []) (ci := 9) (o := m) (k2 := 0) (n2 := 0) hX dX9_byRun_12 (s_m_mostVotes Γ νp m B hmp hW (vt B (fun s => L.testBit s) (B 126)) (fun s h8 h9 => hp2 s h9) (fun s h => by have := hvl s; omega)) okX9_mostVotes (ltb rfl) (mod_s hmp.1.1) ml_RX9_360 imX9_mostVotes seX9_mostVotes rfl (leb rfl) (leb rfl) rfl rfl (fun r9 μ9 hq9 => ?_)
    obtain ⟨hr9, hm9⟩ := hq9; rw [hr9, hm9]; clear hr9 hm9 r9 μ9
    refine w_istore_n (i := 2) (l2 := [some (.ref m), some (.int (nI (24 - k))), some (.int (nI (mst (vt B (fun s => L.testBit s) (B 126)) 23))), none, none]) hX dX9_byRun_15 rfl (ltb rfl) rfl rfl ?_
    refine w_iconst hX dX9_byRun_16 kI_2 ?_
    refine w_aload_n (i := 0) hX dX9_byRun_17 rfl rfl ?_
    refine w_getR (q := m + 18) hX dX9_byRun_18 fo_RX9_113 rfl (mod_s hmp.1.1) (mod_r27 hmp.1.1) ?_
    refine w_iload_n (i := 2) hX dX9_byRun_21 rfl rfl ?_
    refine w_ialdN hX dX9_byRun_22 (mod_a18 hmp.1.1) (by omega) (by omega) ?_
    refine w_top (y := nI (vt B (fun s => L.testBit s) (B 126) (mst (vt B (fun s => L.testBit s) (B 126)) 23))) (hp2 _ (by omega)) ?_
    refine w_imulN hX dX9_byRun_23 ?_
    have hv0 := hvl (mst (vt B (fun s => L.testBit s) (B 126)) 23)
    refine w_aload_n (i := 0) hX dX9_byRun_24 rfl rfl ?_
    refine w_callVI (As := []) (rest := [.int (nI (2 * (vt B (fun s => L.testBit s) (B 126) (mst (vt B (fun s => L.testBit s) (B 126)) 23))))]) (ci := 9) (o := m) (k2 := 0) (n2 := 0) hX dX9_byRun_25 (s_m_persons Γ νp m B hmp hW) okX9_persons (ltb rfl) (mod_s hmp.1.1) ml_RX9_348 imX9_persons seX9_persons rfl (leb rfl) (leb rfl) rfl rfl (fun r9 μ9 hq9 => ?_)
    obtain ⟨hr9, hm9⟩ := hq9; rw [hr9, hm9]; clear hr9 hm9 r9 μ9
    refine wn_icmp_gt (tgt := 36) hX dX9_byRun_28 (by decide) (by omega) (by omega) (fun c1 => ?_) (fun c1 => ?_)
    · refine w_iload_n (i := 2) hX dX9_byRun_36 rfl rfl ?_
      refine w_iret hX hE dX9_byRun_37 (Or.inl rfl) rfl ⟨?_, hsp⟩
      congr 1
      by_cases hk3 : k = 23
      · rw [hv9, hk3]; exact run_end (by rw [hk3] at hok; exact hok) hP1
      · rw [hv9, show 23 - k = (23 - (k + 1)) + 1 by omega]; simp only [rOff]; rw [if_pos (by omega)]
    · refine w_iload_n (i := 1) hX dX9_byRun_31 rfl rfl ?_
      refine w_iconst hX dX9_byRun_32 kI_1 ?_
      refine wn_icmp_ne (tgt := 38) hX dX9_byRun_33 (by decide) (by omega) (by omega) (fun c2 => ?_) (fun c2 => ?_)
      · refine w_iconst hX dX9_byRun_38 kI_0 ?_
        refine w_istore_n (i := 3) (l2 := [some (.ref m), some (.int (nI (24 - k))), some (.int (nI (mst (vt B (fun s => L.testBit s) (B 126)) 23))), some (.int (nI 0)), none]) hX dX9_byRun_39 rfl (ltb rfl) rfl rfl ?_
        refine w_iconst hX dX9_byRun_40 kI_1 ?_
        refine w_istore (l2 := [some (.ref m), some (.int (nI (24 - k))), some (.int (nI (mst (vt B (fun s => L.testBit s) (B 126)) 23))), some (.int (nI 0)), some (.int (nI 1))]) hX dX9_byRun_41 (ltb rfl) rfl rfl ?_
        have inl : ∀ j, j ≤ 24 → WP Γ X 0 0 43 [some (.ref m), some (.int (nI (24 - k))), none, some (.int (nI (fwA (vt B (fun s => L.testBit s) (B 126)) (fun s => L.testBit s) j))), some (.int (nI (j + 1)))] [] νp := by
          refine loopU 24 ?_
          intro j hj ihj
          have hfl := fwA_le (f := vt B (fun s => L.testBit s) (B 126)) (left := (fun s => L.testBit s)) j
          have hv1 := hvl (j + 1); have hv2 := hvl (fwA (vt B (fun s => L.testBit s) (B 126)) (fun s => L.testBit s) j)
          refine w_iload hX dX9_byRun_43 rfl ?_
          refine w_bipush hX dX9_byRun_45 kB_24 ?_
          refine wn_icmp_gt (tgt := 93) hX dX9_byRun_47 (by decide) (by omega) (by omega) (fun c3 => ?_) (fun c3 => ?_)
          · refine w_sub (l2 := [some (.ref m), some (.int (nI (24 - k))), none, some (.int (nI (fwA (vt B (fun s => L.testBit s) (B 126)) (fun s => L.testBit s) j))), none]) (by simp [lsub]) (leb rfl) ?_
            refine w_locs (ls2 := [some (.ref m), some (.int (nI (24 - k))), none, some (.int (nI (fwD (vt B (fun s => L.testBit s) (B 126)) (fun s => L.testBit s) 24))), none]) (by rw [show j = 24 by omega, fw_eq]) ?_
            have hfd := fwD_le (f := vt B (fun s => L.testBit s) (B 126)) (left := (fun s => L.testBit s)) 24 (by omega)
            refine w_aload_n (i := 0) hX dX9_byRun_93 rfl rfl ?_
            refine w_getR (q := m + 17) hX dX9_byRun_94 fo_RX9_109 rfl (mod_s hmp.1.1) (mod_r26 hmp.1.1) ?_
            refine w_iload_n (i := 3) hX dX9_byRun_97 rfl rfl ?_
            refine w_iconst hX dX9_byRun_98 kI_0 ?_
            refine w_zastN hX dX9_byRun_99 (mod_a17 hmp.1.1) (by omega) (by omega) rfl ?_
            refine w_iincM (l2 := [some (.ref m), some (.int (nI (24 - k - 1))), none, some (.int (nI (fwD (vt B (fun s => L.testBit s) (B 126)) (fun s => L.testBit s) 24))), none]) hX dX9_byRun_100 rfl kI_m1 (by omega) rfl rfl ?_
            refine w_goto (tgt := 7) hX dX9_byRun_103 (by decide) ?_
            refine w_sub (l2 := [some (.ref m), some (.int (nI (24 - k - 1))), none, none, none]) (by simp [lsub]) (leb rfl) ?_
            refine w_locs (ls2 := [some (.ref m), some (.int (nI (24 - (k + 1)))), none, none, none]) (by rw [show 24 - k - 1 = 24 - (k + 1) by omega]) ?_
            refine ih (by omega) (clr L (fwD (vt B (fun s => L.testBit s) (B 126)) (fun s => L.testBit s) 24)) _ (hsp.sI (Or.inl rfl)) (by rw [show 24 - (k + 1) = 23 - k by omega]; exact okL_clr (by rw [show 23 - k + 1 = 24 - k by omega]; exact hok)) (by rw [hv9, show 23 - k = (23 - (k + 1)) + 1 by omega]; simp only [rOff]; rw [if_neg (by omega)]) (fun s h1 h2 => ?_)
            rw [clr_tb]
            by_cases h9 : s = fwD (vt B (fun s => L.testBit s) (B 126)) (fun s => L.testBit s) 24
            · rw [h9, gI_same]; simp; rfl
            · rw [gI_nk h9, hlp s h1 h2]; simp [h9]
          · refine w_aload_n (i := 0) hX dX9_byRun_50 rfl rfl ?_
            refine w_getR (q := m + 17) hX dX9_byRun_51 fo_RX9_109 rfl (mod_s hmp.1.1) (mod_r26 hmp.1.1) ?_
            refine w_iload hX dX9_byRun_54 rfl ?_
            refine w_zaldN hX dX9_byRun_56 (mod_a17 hmp.1.1) (by omega) (by omega) ?_
            refine w_top (y := bI (L.testBit (j + 1))) (hlp _ (by omega) (by omega)) ?_
            refine wb_eq (tgt := 85) hX dX9_byRun_57 (by decide) (fun hlj => ?_) (fun hlj => ?_)
            · refine w_iload_n (i := 3) hX dX9_byRun_85 rfl rfl ?_
              refine w_istore_n (i := 3) (l2 := [some (.ref m), some (.int (nI (24 - k))), none, some (.int (nI (fwA (vt B (fun s => L.testBit s) (B 126)) (fun s => L.testBit s) j))), some (.int (nI (j + 1)))]) hX dX9_byRun_86 rfl (ltb rfl) rfl rfl ?_
              refine w_iincN (w := 1) (l2 := [some (.ref m), some (.int (nI (24 - k))), none, some (.int (nI (fwA (vt B (fun s => L.testBit s) (B 126)) (fun s => L.testBit s) j))), some (.int (nI (j + 1 + 1)))]) hX dX9_byRun_87 rfl kI_1 rfl rfl ?_
              refine w_goto (tgt := 43) hX dX9_byRun_90 (by decide) ?_
              have e9 : fwA (vt B (fun s => L.testBit s) (B 126)) (fun s => L.testBit s) j = fwA (vt B (fun s => L.testBit s) (B 126)) (fun s => L.testBit s) (j + 1) := by
                simp only [fwA]; rw [if_neg (fun h9 => by rw [hlj] at h9; exact absurd h9.1 (by decide))]
              refine w_locs (ls2 := [some (.ref m), some (.int (nI (24 - k))), none, some (.int (nI (fwA (vt B (fun s => L.testBit s) (B 126)) (fun s => L.testBit s) (j + 1)))), some (.int (nI (j + 1 + 1)))]) (by rw [← e9]) ?_
              exact ihj (by omega)
            · refine w_iload_n (i := 3) hX dX9_byRun_60 rfl rfl ?_
              refine wn_if_eq (tgt := 80) hX dX9_byRun_61 (by decide) (by omega) (fun c5 => ?_) (fun c5 => ?_)
              · refine w_iload hX dX9_byRun_80 rfl ?_
                refine w_goto (tgt := 86) hX dX9_byRun_82 (by decide) ?_
                refine w_istore_n (i := 3) (l2 := [some (.ref m), some (.int (nI (24 - k))), none, some (.int (nI (j + 1))), some (.int (nI (j + 1)))]) hX dX9_byRun_86 rfl (ltb rfl) rfl rfl ?_
                refine w_iincN (w := 1) (l2 := [some (.ref m), some (.int (nI (24 - k))), none, some (.int (nI (j + 1))), some (.int (nI (j + 1 + 1)))]) hX dX9_byRun_87 rfl kI_1 rfl rfl ?_
                refine w_goto (tgt := 43) hX dX9_byRun_90 (by decide) ?_
                have e9 : j + 1 = fwA (vt B (fun s => L.testBit s) (B 126)) (fun s => L.testBit s) (j + 1) := by
                  simp only [fwA]; rw [if_pos ⟨hlj, by omega⟩]
                refine w_locs (ls2 := [some (.ref m), some (.int (nI (24 - k))), none, some (.int (nI (fwA (vt B (fun s => L.testBit s) (B 126)) (fun s => L.testBit s) (j + 1)))), some (.int (nI (j + 1 + 1)))]) (by rw [← e9]) ?_
                exact ihj (by omega)
              · refine w_aload_n (i := 0) hX dX9_byRun_64 rfl rfl ?_
                refine w_getR (q := m + 18) hX dX9_byRun_65 fo_RX9_113 rfl (mod_s hmp.1.1) (mod_r27 hmp.1.1) ?_
                refine w_iload hX dX9_byRun_68 rfl ?_
                refine w_ialdN hX dX9_byRun_70 (mod_a18 hmp.1.1) (by omega) (by omega) ?_
                refine w_top (y := nI (vt B (fun s => L.testBit s) (B 126) (j + 1))) (hp2 _ (by omega)) ?_
                refine w_aload_n (i := 0) hX dX9_byRun_71 rfl rfl ?_
                refine w_getR (q := m + 18) hX dX9_byRun_72 fo_RX9_113 rfl (mod_s hmp.1.1) (mod_r27 hmp.1.1) ?_
                refine w_iload_n (i := 3) hX dX9_byRun_75 rfl rfl ?_
                refine w_ialdN hX dX9_byRun_76 (mod_a18 hmp.1.1) (by omega) (by omega) ?_
                refine w_top (y := nI (vt B (fun s => L.testBit s) (B 126) (fwA (vt B (fun s => L.testBit s) (B 126)) (fun s => L.testBit s) j))) (hp2 _ (by omega)) ?_
                refine wn_icmp_gt (tgt := 85) hX dX9_byRun_77 (by decide) (by omega) (by omega) (fun c6 => ?_) (fun c6 => ?_)
                · refine w_iload_n (i := 3) hX dX9_byRun_85 rfl rfl ?_
                  refine w_istore_n (i := 3) (l2 := [some (.ref m), some (.int (nI (24 - k))), none, some (.int (nI (fwA (vt B (fun s => L.testBit s) (B 126)) (fun s => L.testBit s) j))), some (.int (nI (j + 1)))]) hX dX9_byRun_86 rfl (ltb rfl) rfl rfl ?_
                  refine w_iincN (w := 1) (l2 := [some (.ref m), some (.int (nI (24 - k))), none, some (.int (nI (fwA (vt B (fun s => L.testBit s) (B 126)) (fun s => L.testBit s) j))), some (.int (nI (j + 1 + 1)))]) hX dX9_byRun_87 rfl kI_1 rfl rfl ?_
                  refine w_goto (tgt := 43) hX dX9_byRun_90 (by decide) ?_
                  have e9 : fwA (vt B (fun s => L.testBit s) (B 126)) (fun s => L.testBit s) j = fwA (vt B (fun s => L.testBit s) (B 126)) (fun s => L.testBit s) (j + 1) := by
                    simp only [fwA]; rw [if_neg (fun h9 => by have := h9.2; omega)]
                  refine w_locs (ls2 := [some (.ref m), some (.int (nI (24 - k))), none, some (.int (nI (fwA (vt B (fun s => L.testBit s) (B 126)) (fun s => L.testBit s) (j + 1)))), some (.int (nI (j + 1 + 1)))]) (by rw [← e9]) ?_
                  exact ihj (by omega)
                · refine w_iload hX dX9_byRun_80 rfl ?_
                  refine w_goto (tgt := 86) hX dX9_byRun_82 (by decide) ?_
                  refine w_istore_n (i := 3) (l2 := [some (.ref m), some (.int (nI (24 - k))), none, some (.int (nI (j + 1))), some (.int (nI (j + 1)))]) hX dX9_byRun_86 rfl (ltb rfl) rfl rfl ?_
                  refine w_iincN (w := 1) (l2 := [some (.ref m), some (.int (nI (24 - k))), none, some (.int (nI (j + 1))), some (.int (nI (j + 1 + 1)))]) hX dX9_byRun_87 rfl kI_1 rfl rfl ?_
                  refine w_goto (tgt := 43) hX dX9_byRun_90 (by decide) ?_
                  have e9 : j + 1 = fwA (vt B (fun s => L.testBit s) (B 126)) (fun s => L.testBit s) (j + 1) := by
                    simp only [fwA]; rw [if_pos ⟨hlj, by omega⟩]
                  refine w_locs (ls2 := [some (.ref m), some (.int (nI (24 - k))), none, some (.int (nI (fwA (vt B (fun s => L.testBit s) (B 126)) (fun s => L.testBit s) (j + 1)))), some (.int (nI (j + 1 + 1)))]) (by rw [← e9]) ?_
                  exact ihj (by omega)
        refine w_sub (l2 := [some (.ref m), some (.int (nI (24 - k))), none, some (.int (nI 0)), some (.int (nI 1))]) (by simp [lsub]) (leb rfl) ?_
        exact inl 0 (Nat.zero_le _)
      · refine w_iload_n (i := 2) hX dX9_byRun_36 rfl rfl ?_
        refine w_iret hX hE dX9_byRun_37 (Or.inl rfl) rfl ⟨?_, hsp⟩
        congr 1
        by_cases hk3 : k = 23
        · rw [hv9, hk3]; exact run_end (by rw [hk3] at hok; exact hok) hP1
        · rw [hv9, show 23 - k = (23 - (k + 1)) + 1 by omega]; simp only [rOff]; rw [if_pos (by omega)]
  exact loop 0 (Nat.zero_le _) _ νa (ha1.up (fun o k h => Or.inl h)) ⟨by omega, ok0, by decide⟩ rfl (fun s h1 h2 => by rw [ha2 s h1 h2, all1 s h1 h2])
theorem inR_sw {w : Int32} (h : inR w (nI 0) (nI 5) = true) : ¬ (w.toInt < 0 ∨ 5 < w.toInt) := by
  simp only [inR, Bool.and_eq_true, decide_eq_true_eq, Int32.le_iff_toInt_le] at h
  rw [nI_toInt (by omega), nI_toInt (by omega)] at h
  omega
theorem inR_sw2 {w : Int32} (h : inR w (nI 0) (nI 5) = false) : w.toInt < 0 ∨ 5 < w.toInt := by
  simp only [inR, Bool.and_eq_false_iff, decide_eq_false_iff_not, Int32.le_iff_toInt_le] at h
  rw [nI_toInt (by omega), nI_toInt (by omega)] at h
  omega
theorem mst_cong {f g : Nat → Nat} (h : ∀ s, 1 ≤ s → s ≤ 24 → f s = g s) : ∀ n, n ≤ 23 → mst f n = mst g n := by
  intro n
  induction n with
  | zero => intro _; rfl
  | succ n ih =>
    intro hn
    have := mst_le (v := g) n
    simp only [mst]
    rw [ih (by omega), h _ (by omega) (by omega), h (n + 2) (by omega) (by omega)]
theorem E_out {B : Nat → Nat} {w : Int32} (h : w.toInt < 0 ∨ 5 < w.toInt) : E_vote B w = -1 := by
  unfold E_vote
  rw [if_neg (fun e => by rw [e] at h; revert h; decide), if_neg (fun e => by rw [e] at h; revert h; decide), if_neg (fun e => by rw [e] at h; revert h; decide), if_neg (fun e => by rw [e] at h; revert h; decide), if_neg (fun e => by rw [e] at h; revert h; decide), if_neg (fun e => by rw [e] at h; revert h; decide)]
theorem E_sums {B : Nat → Nat} (hW : WB B) (hP : 1 ≤ B 126) {w : Nat} (h : w = 1 ∨ w = 2 ∨ w = 5) : nI (mst (fun s => GS B w s (B 126)) 23) = E_vote B (nI w) := by
  unfold E_vote
  rcases h with rfl | rfl | rfl
  · rw [if_neg (by decide), if_pos rfl]; rfl
  · rw [if_neg (by decide), if_neg (by decide), if_pos rfl]; congr 1; exact mst_cong (fun s _ _ => pl_eq) 23 (by omega)
  · rw [if_neg (by decide), if_neg (by decide), if_neg (by decide), if_neg (by decide), if_neg (by decide), if_pos rfl]; congr 1; exact mst_cong (fun s _ h2 => by show lsM B s (B 126) = _; rw [show B 126 = (B 126 - 1) + 1 by omega]; exact ls_eq hW h2 _) 23 (by omega)
set_option maxHeartbeats 1000000 in
theorem s_m_vote (Γ : Gm) (μ : Mem) (m : Nat) (B : Nat → Nat) (hm : HM μ m B) (hW : WB B) (w : Int32) : SpI Γ MX9_vote 3 0 0 [.ref m, .int w] μ (fun r μ2 => r = A_vote B w ∧ same (SVm m) μ μ2) := by
  refine SpI.of okX9_vote rfl [some (.ref m), some (.int w)] ⟨rfl, rfl, trivial⟩ (leb rfl) (leb rfl) (fun X hX hE hnm => ?_)
  refine w_aload_n (i := 0) hX dX9_vote_0 rfl rfl ?_
  refine w_iconst hX dX9_vote_1 kI_0 ?_
  refine w_putI hX dX9_vote_2 fo_RX9_1 rfl rfl rfl rfl (mod_s hm.1.1) ?_
  have hs0 : same (SVm m) μ (sI μ m 0 (nI 0)) := same.rf.sI (Or.inl ⟨rfl, rfl⟩)
  have hP := hW.2.2.2.1.1
  refine w_iload_n (i := 1) hX dX9_vote_5 rfl rfl ?_
  refine w_iconst hX dX9_vote_6 kI_0 ?_
  refine w_iconst hX dX9_vote_7 kI_5 ?_
  refine w_callSI (As := [.int w, .int (nI 0), .int (nI 5)]) (rest := []) (k2 := 0) (n2 := 0) hX dX9_vote_8 (s_m_isIn Γ (sI μ m 0 (nI 0)) w (nI 0) (nI 5)) okX9_isIn ml_RX9_262 stX9_isIn rfl (leb rfl) (leb rfl) rfl rfl (fun r9 μ9 hq9 => ?_)
  obtain ⟨hr9, hm9⟩ := hq9; rw [hr9, hm9]; clear hr9 hm9 r9 μ9
  refine wb_eq (tgt := 21) hX dX9_vote_11 (by decide) (fun hV => ?_) (fun hV => ?_)
  · refine w_iconst hX dX9_vote_21 kI_m1 ?_
    exact w_iret hX hE dX9_vote_22 (Or.inl rfl) rfl ⟨by unfold A_vote; rw [E_out (inR_sw2 hV)]; split <;> rfl, hs0⟩
  · refine w_aload_n (i := 0) hX dX9_vote_14 rfl rfl ?_
    refine w_callVI (As := []) (rest := []) (ci := 9) (o := m) (k2 := 0) (n2 := 0) hX dX9_vote_15 (s_m_persons Γ (sI μ m 0 (nI 0)) m B (HM.sI hm (by omega)) hW) okX9_persons (ltb rfl) (mod_s hm.1.1) ml_RX9_348 imX9_persons seX9_persons rfl (leb rfl) (leb rfl) rfl rfl (fun r9 μ9 hq9 => ?_)
    obtain ⟨hr9, hm9⟩ := hq9; rw [hr9, hm9]; clear hr9 hm9 r9 μ9
    refine wn_if_ne (tgt := 23) hX dX9_vote_18 (by decide) (by omega) (fun c2 => ?_) (fun c2 => ?_)
    · refine w_iload_n (i := 1) hX dX9_vote_23 rfl rfl ?_
      refine wc_if_ne (tgt := 40) hX dX9_vote_24 (by decide) (fun c3 => ?_) (fun c3 => ?_)
      · refine w_iload_n (i := 1) hX dX9_vote_40 rfl rfl ?_
        refine w_iconst hX dX9_vote_41 kI_3 ?_
        refine wc_icmp_ne (tgt := 52) hX dX9_vote_42 (by decide) (fun c4 => ?_) (fun c4 => ?_)
        · refine w_iload_n (i := 1) hX dX9_vote_52 rfl rfl ?_
          refine w_iconst hX dX9_vote_53 kI_4 ?_
          refine wc_icmp_ne (tgt := 64) hX dX9_vote_54 (by decide) (fun c5 => ?_) (fun c5 => ?_)
          · obtain ⟨w9, hw9, hww⟩ : ∃ w9, (w9 = 1 ∨ w9 = 2 ∨ w9 = 5) ∧ w = nI w9 := by
              rcases sw6 w with h | h | h | h | h | h | h
              · exact absurd h (by assumption)
              · exact ⟨1, by omega, h⟩
              · exact ⟨2, by omega, h⟩
              · exact absurd h (by assumption)
              · exact absurd h (by assumption)
              · exact ⟨5, by omega, h⟩
              · exact absurd h (inR_sw hV)
            refine w_aload_n (i := 0) hX dX9_vote_64 rfl rfl ?_
            refine w_iload_n (i := 1) hX dX9_vote_65 rfl rfl ?_
            refine w_top (y := nI w9) hww ?_
            refine w_callVI (As := [.int (nI w9)]) (rest := []) (ci := 9) (o := m) (k2 := 0) (n2 := 0) hX dX9_vote_66 (s_m_bySums Γ (sI μ m 0 (nI 0)) m B (HM.sI hm (by omega)) hW w9 hw9) okX9_bySums (ltb rfl) (mod_s hm.1.1) ml_RX9_375 imX9_bySums seX9_bySums rfl (leb rfl) (leb rfl) rfl rfl (fun r9 νp hq9 => ?_)
            obtain ⟨hr9, hp1⟩ := hq9
            have hsp : same (SVm m) μ νp := hs0.tr (hp1.up (fun o k h => Or.inr (Or.inr h)))
            rw [hr9]
            exact w_iret hX hE dX9_vote_69 (Or.inl rfl) rfl ⟨by unfold A_vote; rw [if_neg (by omega), hww]; exact E_sums hW (by omega) hw9, hsp⟩
          · refine w_aload_n (i := 0) hX dX9_vote_57 rfl rfl ?_
            refine w_callVI (As := []) (rest := []) (ci := 9) (o := m) (k2 := 0) (n2 := 0) hX dX9_vote_58 (s_m_byRun Γ (sI μ m 0 (nI 0)) m B (HM.sI hm (by omega)) hW (by omega)) okX9_byRun (ltb rfl) (mod_s hm.1.1) ml_RX9_372 imX9_byRun seX9_byRun rfl (leb rfl) (leb rfl) rfl rfl (fun r9 νp hq9 => ?_)
            obtain ⟨hr9, hp1⟩ := hq9
            have hsp : same (SVm m) μ νp := hs0.tr (hp1.up (fun o k h => Or.inr h))
            rw [hr9]
            refine w_goto (tgt := 69) hX dX9_vote_61 (by decide) ?_
            exact w_iret hX hE dX9_vote_69 (Or.inl rfl) rfl ⟨by unfold A_vote; rw [if_neg (by omega)]; unfold E_vote; rw [if_neg (by assumption), if_neg (fun e => by rw [e] at c5; revert c5; decide), if_neg (fun e => by rw [e] at c5; revert c5; decide), if_neg (by assumption), if_pos (by assumption)], hsp⟩
        · refine w_aload_n (i := 0) hX dX9_vote_45 rfl rfl ?_
          refine w_callVI (As := []) (rest := []) (ci := 9) (o := m) (k2 := 0) (n2 := 0) hX dX9_vote_46 (s_m_byPairs Γ (sI μ m 0 (nI 0)) m B (HM.sI hm (by omega)) hW) okX9_byPairs (ltb rfl) (mod_s hm.1.1) ml_RX9_369 imX9_byPairs seX9_byPairs rfl (leb rfl) (leb rfl) rfl rfl (fun r9 μ9 hq9 => ?_)
          obtain ⟨hr9, hm9⟩ := hq9; rw [hr9, hm9]; clear hr9 hm9 r9 μ9
          refine w_goto (tgt := 69) hX dX9_vote_49 (by decide) ?_
          exact w_iret hX hE dX9_vote_69 (Or.inl rfl) rfl ⟨by unfold A_vote; rw [if_neg (by omega)]; unfold E_vote; rw [if_neg (by assumption), if_neg (fun e => by rw [e] at c4; revert c4; decide), if_neg (fun e => by rw [e] at c4; revert c4; decide), if_pos (by assumption)], hs0⟩
      · refine w_aload_n (i := 0) hX dX9_vote_27 rfl rfl ?_
        refine w_callVV (As := []) (rest := []) (ci := 9) (o := m) (k2 := 0) (n2 := 0) hX dX9_vote_28 (s_m_allLeft Γ (sI μ m 0 (nI 0)) m B (HM.sI hm (by omega)) hW) okX9_allAreLeft (ltb rfl) (mod_s hm.1.1) ml_RX9_363 imX9_allAreLeft seX9_allAreLeft rfl (leb rfl) (leb rfl) rfl rfl (fun νa hq9 => ?_)
        obtain ⟨ha1, ha2⟩ := hq9
        have hsa : same (SVm m) μ νa := hs0.tr (ha1.up (fun o k h => Or.inr (Or.inl h)))
        have hma := hm.sm hsa (fun o k h => by unfold SVm at h; omega)
        refine w_aload_n (i := 0) hX dX9_vote_31 rfl rfl ?_
        refine w_callVV (As := []) (rest := []) (ci := 9) (o := m) (k2 := 0) (n2 := 0) hX dX9_vote_32 (s_m_poll Γ νa m B hma hW (fun s => (33554430 : Nat).testBit s) (fun s h1 h2 => by rw [ha2 s h1 h2, all1 s h1 h2])) okX9_poll (ltb rfl) (mod_s hma.1.1) ml_RX9_366 imX9_poll seX9_poll rfl (leb rfl) (leb rfl) rfl rfl (fun νp hq9 => ?_)
        obtain ⟨hp1, hp2⟩ := hq9
        have hsp : same (SVm m) μ νp := hsa.tr (hp1.up (fun o k h => Or.inr (Or.inr h)))
        have hmp := hm.sm hsp (fun o k h => by unfold SVm at h; omega)
        refine w_aload_n (i := 0) hX dX9_vote_35 rfl rfl ?_
        refine w_callVI (As := []) (rest := []) (ci := 9) (o := m) (k2 := 0) (n2 := 0) hX dX9_vote_36 (s_m_mostVotes Γ νp m B hmp hW (vtA B) (fun s h8 h9 => hp2 s h9) (fun s h => by have : vtA B s ≤ B 126 := vt_le _; omega)) okX9_mostVotes (ltb rfl) (mod_s hmp.1.1) ml_RX9_360 imX9_mostVotes seX9_mostVotes rfl (leb rfl) (leb rfl) rfl rfl (fun r9 μ9 hq9 => ?_)
        obtain ⟨hr9, hm9⟩ := hq9; rw [hr9, hm9]; clear hr9 hm9 r9 μ9
        exact w_iret hX hE dX9_vote_39 (Or.inl rfl) rfl ⟨by unfold A_vote; rw [if_neg (by omega)]; unfold E_vote; rw [if_pos (by assumption)], hsp⟩
    · refine w_iconst hX dX9_vote_21 kI_m1 ?_
      exact w_iret hX hE dX9_vote_22 (Or.inl rfl) rfl ⟨by unfold A_vote; rw [if_pos (by omega)], hs0⟩
