/-- how many strokes s beats, of the first n -/
def bte (B : Nat → Nat) (s : Nat) : Nat → Nat
  | 0 => 0
  | e + 1 => bte B s e + if frn B (e + 1) s (B 126) < frn B s (e + 1) (B 126) then 1 else 0
def prs (B : Nat → Nat) : Nat → Nat → Option Nat
  | 0, _ => none
  | n + 1, k => if bte B (k + 1) 24 = 23 then some (k + 1) else prs B n (k + 1)
theorem bte_le {B : Nat → Nat} {s : Nat} : ∀ n, bte B s n ≤ n := by
  intro n
  induction n with
  | zero => simp [bte]
  | succ n ih => simp only [bte]; split <;> omega
/-- the fewest votes: from above, and from below -/
def fwD (f : Nat → Nat) (left : Nat → Bool) : Nat → Nat
  | 0 => 0
  | n + 1 => if left (24 - n) = true ∧ (fwD f left n = 0 ∨ f (24 - n) < f (fwD f left n)) then 24 - n else fwD f left n
def fwA (f : Nat → Nat) (left : Nat → Bool) : Nat → Nat
  | 0 => 0
  | s + 1 => if left (s + 1) = true ∧ (fwA f left s = 0 ∨ f (s + 1) ≤ f (fwA f left s)) then s + 1 else fwA f left s
theorem fwD_le {f : Nat → Nat} {left : Nat → Bool} : ∀ n, n ≤ 24 → fwD f left n ≤ 24 ∧ (fwD f left n ≠ 0 → 24 - n < fwD f left n) := by
  intro n
  induction n with
  | zero => intro _; simp [fwD]
  | succ n ih =>
    intro hn
    have := ih (by omega)
    simp only [fwD]
    split <;> omega
theorem fwA_le {f : Nat → Nat} {left : Nat → Bool} : ∀ n, fwA f left n ≤ n := by
  intro n
  induction n with
  | zero => simp [fwA]
  | succ n ih => simp only [fwA]; split <;> omega
theorem fwD_spec {f : Nat → Nat} {left : Nat → Bool} : ∀ n, n ≤ 24 → (fwD f left n = 0 → ∀ s, 24 - n < s → s ≤ 24 → left s = false) ∧ (fwD f left n ≠ 0 → left (fwD f left n) = true ∧ ∀ s, 24 - n < s → s ≤ 24 → left s = true → f (fwD f left n) ≤ f s ∧ (f s = f (fwD f left n) → s ≤ fwD f left n)) := by
  intro n
  induction n with
  | zero => intro _; exact ⟨fun _ s h1 h2 => by omega, fun h => absurd rfl h⟩
  | succ n ih =>
    intro hn
    obtain ⟨i1, i2⟩ := ih (by omega)
    have hle := fwD_le (f := f) (left := left) n (by omega)
    have hs : ∀ s, 24 - (n + 1) < s → s ≤ 24 → s = 24 - n ∨ 24 - n < s := fun s h1 h2 => by omega
    simp only [fwD]
    by_cases hc : left (24 - n) = true ∧ (fwD f left n = 0 ∨ f (24 - n) < f (fwD f left n))
    · rw [if_pos hc]
      refine ⟨fun h => by omega, fun _ => ⟨hc.1, fun s h1 h2 h3 => ?_⟩⟩
      rcases hs s h1 h2 with rfl | h4
      · exact ⟨Nat.le_refl _, fun _ => Nat.le_refl _⟩
      · rcases hc.2 with h0 | hlt
        · rw [i1 h0 s h4 h2] at h3; cases h3
        · by_cases h0 : fwD f left n = 0
          · rw [i1 h0 s h4 h2] at h3; cases h3
          · have := (i2 h0).2 s h4 h2 h3
            omega
    · rw [if_neg hc]
      refine ⟨fun h s h1 h2 => ?_, fun h => ⟨(i2 h).1, fun s h1 h2 h3 => ?_⟩⟩
      · rcases hs s h1 h2 with rfl | h4
        · cases hl : left (24 - n) with
          | false => rfl
          | true => exact absurd ⟨hl, Or.inl h⟩ hc
        · exact i1 h s h4 h2
      · rcases hs s h1 h2 with rfl | h4
        · have h5 : ¬ f (24 - n) < f (fwD f left n) := fun h6 => hc ⟨h3, Or.inr h6⟩
          have := hle.2 h
          exact ⟨by omega, fun _ => by omega⟩
        · exact (i2 h).2 s h4 h2 h3
theorem fwA_spec {f : Nat → Nat} {left : Nat → Bool} : ∀ n, (fwA f left n = 0 → ∀ s, 1 ≤ s → s ≤ n → left s = false) ∧ (fwA f left n ≠ 0 → left (fwA f left n) = true ∧ ∀ s, 1 ≤ s → s ≤ n → left s = true → f (fwA f left n) ≤ f s ∧ (f s = f (fwA f left n) → s ≤ fwA f left n)) := by
  intro n
  induction n with
  | zero => exact ⟨fun _ s h1 h2 => by omega, fun h => absurd rfl h⟩
  | succ n ih =>
    obtain ⟨i1, i2⟩ := ih
    have hle := fwA_le (f := f) (left := left) n
    simp only [fwA]
    by_cases hc : left (n + 1) = true ∧ (fwA f left n = 0 ∨ f (n + 1) ≤ f (fwA f left n))
    · rw [if_pos hc]
      refine ⟨fun h => by omega, fun _ => ⟨hc.1, fun s h1 h2 h3 => ?_⟩⟩
      by_cases hsn : s = n + 1
      · subst hsn; exact ⟨Nat.le_refl _, fun _ => Nat.le_refl _⟩
      · by_cases h0 : fwA f left n = 0
        · rw [i1 h0 s h1 (by omega)] at h3; cases h3
        · have h4 := (i2 h0).2 s h1 (by omega) h3
          have h5 : f (n + 1) ≤ f (fwA f left n) := by rcases hc.2 with h | h; exact absurd h h0; exact h
          exact ⟨by omega, fun _ => by omega⟩
    · rw [if_neg hc]
      refine ⟨fun h s h1 h2 => ?_, fun h => ⟨(i2 h).1, fun s h1 h2 h3 => ?_⟩⟩
      · by_cases hsn : s = n + 1
        · subst hsn
          cases hl : left (n + 1) with
          | false => rfl
          | true => exact absurd ⟨hl, Or.inl h⟩ hc
        · exact i1 h s h1 (by omega)
      · by_cases hsn : s = n + 1
        · subst hsn
          have h5 : ¬ f (n + 1) ≤ f (fwA f left n) := fun h6 => hc ⟨h3, Or.inr h6⟩
          exact ⟨by omega, fun h6 => by omega⟩
        · exact (i2 h).2 s h1 (by omega) h3
theorem fw_eq {f : Nat → Nat} {left : Nat → Bool} : fwD f left 24 = fwA f left 24 := by
  obtain ⟨d1, d2⟩ := fwD_spec (f := f) (left := left) 24 (by omega)
  obtain ⟨a1, a2⟩ := fwA_spec (f := f) (left := left) 24
  have hd := fwD_le (f := f) (left := left) 24 (by omega)
  have ha := fwA_le (f := f) (left := left) 24
  by_cases h1 : fwD f left 24 = 0
  · by_cases h2 : fwA f left 24 = 0
    · omega
    · have := (a2 h2).1
      rw [d1 h1 _ (by omega) ha] at this
      cases this
  · by_cases h2 : fwA f left 24 = 0
    · have := (d2 h1).1
      rw [a1 h2 _ (by omega) (by omega)] at this
      cases this
    · have e1 := (d2 h1).2 (fwA f left 24) (by omega) ha (a2 h2).1
      have e2 := (a2 h2).2 (fwD f left 24) (by omega) (by omega) (d2 h1).1
      omega
/-- a bit struck out -/
def clr (L f : Nat) : Nat := L ^^^ (L &&& 2 ^ f)
theorem clr_tb {L f s : Nat} : (clr L f).testBit s = (L.testBit s && decide (s ≠ f)) := by
  unfold clr
  rw [Nat.testBit_xor, Nat.testBit_and, Nat.testBit_two_pow]
  by_cases h : f = s
  · subst h; simp
  · have h2 : ¬ s = f := fun e => h e.symm
    simp [h, h2]
theorem clr_lt {L f : Nat} (h : L < 2 ^ 31) : clr L f < 2 ^ 31 := by
  unfold clr
  exact Nat.xor_lt_two_pow h (Nat.lt_of_le_of_lt Nat.and_le_left h)
theorem bt_nI {n i : Nat} (hn : n < 2 ^ 32) (hi : i < 32) : bt (nI n) i = n.testBit i := by
  unfold bt
  rw [show (nI n).toBitVec = BitVec.ofNat 32 n from rfl, BitVec.getLsbD_ofNat]
  simp [hi]
theorem clr_nI {L f : Nat} (hL : L < 2 ^ 31) (hf : f < 31) : nI L &&& ((nI 1 <<< (nI f &&& 31)) ^^^ (-1 : Int32)) = nI (clr L f) := by
  apply b_ext
  intro i hi
  rw [b_and, b_xor, bt_nI (by omega) hi, bt_nI (by have := clr_lt (f := f) hL; omega) hi, clr_tb, b_m1 i hi, b_shl f (by omega) _ hi, bt_nI (by omega) (by omega)]
  by_cases h : i = f
  · subst h; simp
  · rcases Nat.lt_or_ge i f with h2 | h2
    · simp [h, Nat.not_le.mpr h2]
    · have h3 : (1 : Nat).testBit (i - f) = false := by
        cases h9 : (1 : Nat).testBit (i - f) with
        | false => rfl
        | true => exact absurd (Nat.testBit_one_eq_true_iff_self_eq_zero.mp h9) (by omega)
      simp [h, h3]
set_option maxHeartbeats 1000000 in
theorem s_beatsAll (Γ : Gm) (μ : Mem) (b : Nat) (B : Nat → Nat) (hR : Rb μ b B) (hW : WB B)  : SpI Γ MX6_beatsAll 2 0 0 [.ref b] μ (fun r μ2 => r = oI (prs B 24 0) ∧ μ2 = μ) := by
  refine SpI.of okX6_beatsAll rfl [some (.ref b), none, none, none] ⟨rfl, trivial⟩ (leb rfl) (leb rfl) (fun X hX hE hnm => ?_)
  refine w_iconst hX dX6_beatsAll_0 kI_1 ?_
  refine w_istore_n (i := 1) (l2 := [some (.ref b), some (.int (nI 1)), none, none]) hX dX6_beatsAll_1 rfl (ltb rfl) rfl rfl ?_
  have loop : ∀ k, k ≤ 24 → prs B 24 0 = prs B (24 - k) k → WP Γ X 0 0 2 [some (.ref b), some (.int (nI (k + 1))), none, none] [] μ := by
    refine loopU 24 ?_
    intro k hk ih hv
    refine w_iload_n (i := 1) hX dX6_beatsAll_2 rfl rfl ?_
    refine w_bipush hX dX6_beatsAll_3 kB_24 ?_
    refine wn_icmp_gt (tgt := 56) hX dX6_beatsAll_5 (by decide) (by omega) (by omega) (fun c1 => ?_) (fun c1 => ?_)
    · refine w_iconst hX dX6_beatsAll_56 kI_m1 ?_
      exact w_iret hX hE dX6_beatsAll_57 (Or.inl rfl) rfl ⟨by rw [hv, show 24 - k = 0 by omega]; rfl, rfl⟩
    · refine w_iconst hX dX6_beatsAll_8 kI_0 ?_
      refine w_istore_n (i := 2) (l2 := [some (.ref b), some (.int (nI (k + 1))), some (.int (nI 0)), none]) hX dX6_beatsAll_9 rfl (ltb rfl) rfl rfl ?_
      refine w_iconst hX dX6_beatsAll_10 kI_1 ?_
      refine w_istore_n (i := 3) (l2 := [some (.ref b), some (.int (nI (k + 1))), some (.int (nI 0)), some (.int (nI 1))]) hX dX6_beatsAll_11 rfl (ltb rfl) rfl rfl ?_
      have inl : ∀ j, j ≤ 24 → WP Γ X 0 0 12 [some (.ref b), some (.int (nI (k + 1))), some (.int (nI (bte B (k + 1) j))), some (.int (nI (j + 1)))] [] μ := by
        refine loopU 24 ?_
        intro j hj ihj
        have f1 := frn_le (B := B) (s := k + 1) (o := j + 1) (B 126); have f2 := frn_le (B := B) (s := j + 1) (o := k + 1) (B 126); have f3 := hW.2.2.2.1.1; have f4 := bte_le (B := B) (s := k + 1) j
        refine w_iload_n (i := 3) hX dX6_beatsAll_12 rfl rfl ?_
        refine w_bipush hX dX6_beatsAll_13 kB_24 ?_
        refine wn_icmp_gt (tgt := 42) hX dX6_beatsAll_15 (by decide) (by omega) (by omega) (fun c2 => ?_) (fun c2 => ?_)
        · refine w_iload_n (i := 2) hX dX6_beatsAll_42 rfl rfl ?_
          refine w_bipush hX dX6_beatsAll_43 kB_23 ?_
          refine wn_icmp_ne (tgt := 50) hX dX6_beatsAll_45 (by decide) (by omega) (by omega) (fun c3 => ?_) (fun c3 => ?_)
          · refine w_iincN (w := 1) (l2 := [some (.ref b), some (.int (nI (k + 1 + 1))), some (.int (nI (bte B (k + 1) j))), some (.int (nI (j + 1)))]) hX dX6_beatsAll_50 rfl kI_1 rfl rfl ?_
            refine w_goto (tgt := 2) hX dX6_beatsAll_53 (by decide) ?_
            refine w_sub (l2 := [some (.ref b), some (.int (nI (k + 1 + 1))), none, none]) (by simp [lsub]) (leb rfl) ?_
            exact ih (by omega) (by rw [hv, show 24 - k = (24 - (k + 1)) + 1 by omega]; simp only [prs]; rw [if_neg (by rw [show (24 : Nat) = j by omega]; omega)])
          · refine w_iload_n (i := 1) hX dX6_beatsAll_48 rfl rfl ?_
            exact w_iret hX hE dX6_beatsAll_49 (Or.inl rfl) rfl ⟨by rw [hv, show 24 - k = (24 - (k + 1)) + 1 by omega]; simp only [prs]; rw [if_pos (by rw [show (24 : Nat) = j by omega]; omega)]; rfl, rfl⟩
        · refine w_aload_n (i := 0) hX dX6_beatsAll_18 rfl rfl ?_
          refine w_iload_n (i := 1) hX dX6_beatsAll_19 rfl rfl ?_
          refine w_iload_n (i := 3) hX dX6_beatsAll_20 rfl rfl ?_
          refine w_callVI (As := [.int (nI (k + 1)), .int (nI (j + 1))]) (rest := []) (ci := 0) (o := b) (k2 := 0) (n2 := 0) hX dX6_beatsAll_21 (s_b_friendsOf Γ μ b B hR hW (k + 1) (j + 1) (by omega) (by omega) (by omega) (by omega)) okX0_friendsOf (ltb rfl) (bk_s hR.1) ml_RX6_61 imX0_friendsOf seX0_friendsOf rfl (leb rfl) (leb rfl) rfl rfl (fun r9 μ9 hq9 => ?_)
          obtain ⟨hr9, hm9⟩ := hq9; rw [hr9, hm9]; clear hr9 hm9 r9 μ9
          refine w_aload_n (i := 0) hX dX6_beatsAll_24 rfl rfl ?_
          refine w_iload_n (i := 3) hX dX6_beatsAll_25 rfl rfl ?_
          refine w_iload_n (i := 1) hX dX6_beatsAll_26 rfl rfl ?_
          refine w_callVI (As := [.int (nI (j + 1)), .int (nI (k + 1))]) (rest := [.int (nI (frn B (k + 1) (j + 1) (B 126)))]) (ci := 0) (o := b) (k2 := 0) (n2 := 0) hX dX6_beatsAll_27 (s_b_friendsOf Γ μ b B hR hW (j + 1) (k + 1) (by omega) (by omega) (by omega) (by omega)) okX0_friendsOf (ltb rfl) (bk_s hR.1) ml_RX6_61 imX0_friendsOf seX0_friendsOf rfl (leb rfl) (leb rfl) rfl rfl (fun r9 μ9 hq9 => ?_)
          obtain ⟨hr9, hm9⟩ := hq9; rw [hr9, hm9]; clear hr9 hm9 r9 μ9
          refine wn_icmp_le (tgt := 36) hX dX6_beatsAll_30 (by decide) (by omega) (by omega) (fun c4 => ?_) (fun c4 => ?_)
          · refine w_iincN (w := 1) (l2 := [some (.ref b), some (.int (nI (k + 1))), some (.int (nI (bte B (k + 1) j))), some (.int (nI (j + 1 + 1)))]) hX dX6_beatsAll_36 rfl kI_1 rfl rfl ?_
            refine w_goto (tgt := 12) hX dX6_beatsAll_39 (by decide) ?_
            have e9 : bte B (k + 1) j = bte B (k + 1) (j + 1) := by simp only [bte]; split <;> omega
            refine w_locs (ls2 := [some (.ref b), some (.int (nI (k + 1))), some (.int (nI (bte B (k + 1) (j + 1)))), some (.int (nI (j + 1 + 1)))]) (by rw [← e9]) ?_
            exact ihj (by omega)
          · refine w_iincN (w := 1) (l2 := [some (.ref b), some (.int (nI (k + 1))), some (.int (nI (bte B (k + 1) j + 1))), some (.int (nI (j + 1)))]) hX dX6_beatsAll_33 rfl kI_1 rfl rfl ?_
            refine w_iincN (w := 1) (l2 := [some (.ref b), some (.int (nI (k + 1))), some (.int (nI (bte B (k + 1) j + 1))), some (.int (nI (j + 1 + 1)))]) hX dX6_beatsAll_36 rfl kI_1 rfl rfl ?_
            refine w_goto (tgt := 12) hX dX6_beatsAll_39 (by decide) ?_
            have e9 : bte B (k + 1) j + 1 = bte B (k + 1) (j + 1) := by simp only [bte]; split <;> omega
            refine w_locs (ls2 := [some (.ref b), some (.int (nI (k + 1))), some (.int (nI (bte B (k + 1) (j + 1)))), some (.int (nI (j + 1 + 1)))]) (by rw [← e9]) ?_
            exact ihj (by omega)
      exact inl 0 (Nat.zero_le _)
  exact loop 0 (Nat.zero_le _) rfl
set_option maxHeartbeats 1000000 in
theorem s_fewest (Γ : Gm) (μ : Mem) (v : Nat) (hv : isVt μ v) (f : Nat → Nat) (hpt : ∀ s, 1 ≤ s → s ≤ 24 → gI μ (v + 1) s = nI (f s)) (hfb : ∀ s, s ≤ 24 → f s < 2 ^ 31) (L : Nat) (hL : L < 2 ^ 31) : SpI Γ MX6_fewestPoints 0 0 0 [.ref v, .int (nI L)] μ (fun r μ2 => r = nI (fwD f (fun s => L.testBit s) 24) ∧ μ2 = μ) := by
  refine SpI.of okX6_fewestPoints rfl [some (.ref v), some (.int (nI L)), none, none, none] ⟨rfl, rfl, trivial⟩ (leb rfl) (leb rfl) (fun X hX hE hnm => ?_)
  refine w_iconst hX dX6_fewestPoints_0 kI_0 ?_
  refine w_istore_n (i := 2) (l2 := [some (.ref v), some (.int (nI L)), some (.int (nI 0)), none, none]) hX dX6_fewestPoints_1 rfl (ltb rfl) rfl rfl ?_
  refine w_bipush hX dX6_fewestPoints_2 kB_24 ?_
  refine w_istore_n (i := 3) (l2 := [some (.ref v), some (.int (nI L)), some (.int (nI 0)), some (.int (nI 24)), none]) hX dX6_fewestPoints_4 rfl (ltb rfl) rfl rfl ?_
  have loop : ∀ k, k ≤ 24 → WP Γ X 0 0 5 [some (.ref v), some (.int (nI L)), some (.int (nI (fwD f (fun s => L.testBit s) k))), some (.int (nI (24 - k))), none] [] μ := by
    refine loopU 24 ?_
    intro k hk ih
    have hfl := fwD_le (f := f) (left := (fun s => L.testBit s)) k hk
    have hi1 := if01 (c := L.testBit (24 - k) = true)
    have hb1 := hfb (24 - k) (by omega); have hb2 := hfb (fwD f (fun s => L.testBit s) k) (by omega)
    refine w_iload_n (i := 3) hX dX6_fewestPoints_5 rfl rfl ?_
    refine w_iconst hX dX6_fewestPoints_6 kI_1 ?_
    refine wn_icmp_lt (tgt := 58) hX dX6_fewestPoints_7 (by decide) (by omega) (by omega) (fun c1 => ?_) (fun c1 => ?_)
    · refine w_iload_n (i := 2) hX dX6_fewestPoints_58 rfl rfl ?_
      exact w_iret hX hE dX6_fewestPoints_59 (Or.inl rfl) rfl ⟨by rw [show k = 24 by omega], rfl⟩
    · refine w_iload_n (i := 1) hX dX6_fewestPoints_10 rfl rfl ?_
      refine w_iload_n (i := 3) hX dX6_fewestPoints_11 rfl rfl ?_
      refine w_ishr hX dX6_fewestPoints_12 ?_
      refine w_iconst hX dX6_fewestPoints_13 kI_1 ?_
      refine w_iand hX dX6_fewestPoints_14 ?_
      refine w_top (y := nI (if L.testBit (24 - k) = true then 1 else 0)) (bit31 hL (by omega)) ?_
      refine w_iconst hX dX6_fewestPoints_15 kI_1 ?_
      refine wn_icmp_ne (tgt := 23) hX dX6_fewestPoints_16 (by decide) (by omega) (by omega) (fun c2 => ?_) (fun c2 => ?_)
      · refine w_iconst hX dX6_fewestPoints_23 kI_0 ?_
        refine w_istore (l2 := [some (.ref v), some (.int (nI L)), some (.int (nI (fwD f (fun s => L.testBit s) k))), some (.int (nI (24 - k))), some (.int (nI 0))]) hX dX6_fewestPoints_24 (ltb rfl) rfl rfl ?_
        refine w_iload hX dX6_fewestPoints_26 rfl ?_
        refine wn_if_eq (tgt := 52) hX dX6_fewestPoints_28 (by decide) (by omega) (fun c3 => ?_) (fun c3 => ?_)
        · refine w_iincM (l2 := [some (.ref v), some (.int (nI L)), some (.int (nI (fwD f (fun s => L.testBit s) k))), some (.int (nI (24 - k - 1))), some (.int (nI 0))]) hX dX6_fewestPoints_52 rfl kI_m1 (by omega) rfl rfl ?_
          refine w_goto (tgt := 5) hX dX6_fewestPoints_55 (by decide) ?_
          have e9 : fwD f (fun s => L.testBit s) k = fwD f (fun s => L.testBit s) (k + 1) := by
            simp only [fwD]; rw [if_neg (fun h9 => by rw [if_pos h9.1] at c2; exact absurd rfl c2)]
          refine w_sub (l2 := [some (.ref v), some (.int (nI L)), some (.int (nI (fwD f (fun s => L.testBit s) k))), some (.int (nI (24 - k - 1))), none]) (by simp [lsub]) (leb rfl) ?_
          refine w_locs (ls2 := [some (.ref v), some (.int (nI L)), some (.int (nI (fwD f (fun s => L.testBit s) (k + 1)))), some (.int (nI (24 - (k + 1)))), none]) (by rw [← e9]; rfl) ?_
          exact ih (by omega)
        · exact absurd c3 (by decide)
      · refine w_iconst hX dX6_fewestPoints_19 kI_1 ?_
        refine w_goto (tgt := 24) hX dX6_fewestPoints_20 (by decide) ?_
        refine w_istore (l2 := [some (.ref v), some (.int (nI L)), some (.int (nI (fwD f (fun s => L.testBit s) k))), some (.int (nI (24 - k))), some (.int (nI 1))]) hX dX6_fewestPoints_24 (ltb rfl) rfl rfl ?_
        refine w_iload hX dX6_fewestPoints_26 rfl ?_
        refine wn_if_eq (tgt := 52) hX dX6_fewestPoints_28 (by decide) (by omega) (fun c4 => ?_) (fun c4 => ?_)
        · exact absurd c4 (by decide)
        · refine w_iload_n (i := 2) hX dX6_fewestPoints_31 rfl rfl ?_
          refine wn_if_eq (tgt := 50) hX dX6_fewestPoints_32 (by decide) (by omega) (fun c5 => ?_) (fun c5 => ?_)
          · refine w_iload_n (i := 3) hX dX6_fewestPoints_50 rfl rfl ?_
            refine w_istore_n (i := 2) (l2 := [some (.ref v), some (.int (nI L)), some (.int (nI (24 - k))), some (.int (nI (24 - k))), some (.int (nI 1))]) hX dX6_fewestPoints_51 rfl (ltb rfl) rfl rfl ?_
            refine w_iincM (l2 := [some (.ref v), some (.int (nI L)), some (.int (nI (24 - k))), some (.int (nI (24 - k - 1))), some (.int (nI 1))]) hX dX6_fewestPoints_52 rfl kI_m1 (by omega) rfl rfl ?_
            refine w_goto (tgt := 5) hX dX6_fewestPoints_55 (by decide) ?_
            have e9 : 24 - k = fwD f (fun s => L.testBit s) (k + 1) := by
              simp only [fwD]; rw [if_pos ⟨by by_cases h9 : L.testBit (24 - k) = true; exact h9; rw [if_neg h9] at c2; omega, by omega⟩]
            refine w_sub (l2 := [some (.ref v), some (.int (nI L)), some (.int (nI (24 - k))), some (.int (nI (24 - k - 1))), none]) (by simp [lsub]) (leb rfl) ?_
            refine w_locs (ls2 := [some (.ref v), some (.int (nI L)), some (.int (nI (fwD f (fun s => L.testBit s) (k + 1)))), some (.int (nI (24 - (k + 1)))), none]) (by rw [← e9]; rfl) ?_
            exact ih (by omega)
          · refine w_aload_n (i := 0) hX dX6_fewestPoints_35 rfl rfl ?_
            refine w_getR (q := v + 1) hX dX6_fewestPoints_36 fo_RX6_9 rfl (vt_s hv) (vt_r0 hv) ?_
            refine w_iload_n (i := 3) hX dX6_fewestPoints_39 rfl rfl ?_
            refine w_ialdN hX dX6_fewestPoints_40 (vt_a1 hv) (by omega) (by omega) ?_
            refine w_top (y := nI (f (24 - k))) (hpt _ (by omega) (by omega)) ?_
            refine w_aload_n (i := 0) hX dX6_fewestPoints_41 rfl rfl ?_
            refine w_getR (q := v + 1) hX dX6_fewestPoints_42 fo_RX6_9 rfl (vt_s hv) (vt_r0 hv) ?_
            refine w_iload_n (i := 2) hX dX6_fewestPoints_45 rfl rfl ?_
            refine w_ialdN hX dX6_fewestPoints_46 (vt_a1 hv) (by omega) (by omega) ?_
            refine w_top (y := nI (f (fwD f (fun s => L.testBit s) k))) (hpt _ (by omega) (by omega)) ?_
            refine wn_icmp_ge (tgt := 52) hX dX6_fewestPoints_47 (by decide) (by omega) (by omega) (fun c6 => ?_) (fun c6 => ?_)
            · refine w_iincM (l2 := [some (.ref v), some (.int (nI L)), some (.int (nI (fwD f (fun s => L.testBit s) k))), some (.int (nI (24 - k - 1))), some (.int (nI 1))]) hX dX6_fewestPoints_52 rfl kI_m1 (by omega) rfl rfl ?_
              refine w_goto (tgt := 5) hX dX6_fewestPoints_55 (by decide) ?_
              have e9 : fwD f (fun s => L.testBit s) k = fwD f (fun s => L.testBit s) (k + 1) := by
                simp only [fwD]; rw [if_neg (fun h9 => by have := h9.2; omega)]
              refine w_sub (l2 := [some (.ref v), some (.int (nI L)), some (.int (nI (fwD f (fun s => L.testBit s) k))), some (.int (nI (24 - k - 1))), none]) (by simp [lsub]) (leb rfl) ?_
              refine w_locs (ls2 := [some (.ref v), some (.int (nI L)), some (.int (nI (fwD f (fun s => L.testBit s) (k + 1)))), some (.int (nI (24 - (k + 1)))), none]) (by rw [← e9]; rfl) ?_
              exact ih (by omega)
            · refine w_iload_n (i := 3) hX dX6_fewestPoints_50 rfl rfl ?_
              refine w_istore_n (i := 2) (l2 := [some (.ref v), some (.int (nI L)), some (.int (nI (24 - k))), some (.int (nI (24 - k))), some (.int (nI 1))]) hX dX6_fewestPoints_51 rfl (ltb rfl) rfl rfl ?_
              refine w_iincM (l2 := [some (.ref v), some (.int (nI L)), some (.int (nI (24 - k))), some (.int (nI (24 - k - 1))), some (.int (nI 1))]) hX dX6_fewestPoints_52 rfl kI_m1 (by omega) rfl rfl ?_
              refine w_goto (tgt := 5) hX dX6_fewestPoints_55 (by decide) ?_
              have e9 : 24 - k = fwD f (fun s => L.testBit s) (k + 1) := by
                simp only [fwD]; rw [if_pos ⟨by by_cases h9 : L.testBit (24 - k) = true; exact h9; rw [if_neg h9] at c2; omega, by omega⟩]
              refine w_sub (l2 := [some (.ref v), some (.int (nI L)), some (.int (nI (24 - k))), some (.int (nI (24 - k - 1))), none]) (by simp [lsub]) (leb rfl) ?_
              refine w_locs (ls2 := [some (.ref v), some (.int (nI L)), some (.int (nI (fwD f (fun s => L.testBit s) (k + 1)))), some (.int (nI (24 - (k + 1)))), none]) (by rw [← e9]; rfl) ?_
              exact ih (by omega)
  exact loop 0 (Nat.zero_le _)
theorem tz_a : ∀ x, x ≤ 24 → 1 ≤ x → (nI (2 ^ x) ^^^ (-1 : Int32)) &&& (nI (2 ^ x) - nI 1) = nI (2 ^ x - 1) := by decide
theorem ush {n k : Nat} (hn : n < 2 ^ 32) (hk : k < 32) : ((nI n).toUInt32 >>> ((nI k).toUInt32 &&& Int32.toUInt32 31)).toInt32 = nI (n / 2 ^ k) := pk_ushrN hn _ _ (s_u k hk)
set_option maxHeartbeats 4000000 in
theorem s_ctz (Γ : Gm) (μ : Mem) (x : Nat) (hx1 : 1 ≤ x) (hx2 : x ≤ 24) : SpI Γ MJ6_numberOfTrailingZeros_0f7a4 0 0 0 [.int (nI (2 ^ x))] μ (fun r μ2 => r = nI x ∧ μ2 = μ) := by
  refine SpI.of okJ6_numberOfTrailingZeros_0f7a4 rfl [some (.int (nI (2 ^ x))), none] ⟨rfl, trivial⟩ (leb rfl) (leb rfl) (fun X hX hE hnm => ?_)
  have hp : 2 ^ x ≤ 2 ^ 24 := Nat.pow_le_pow_right (by omega) hx2
  have hp2 : 2 ≤ 2 ^ x := Nat.le_trans (by decide) (Nat.pow_le_pow_right (by omega) hx1 : 2 ^ 1 ≤ 2 ^ x)
  refine w_iload_n (i := 0) hX dJ6_numberOfTrailingZeros_0f7a4_0 rfl rfl ?_
  refine w_iconst hX dJ6_numberOfTrailingZeros_0f7a4_1 kI_m1 ?_
  refine w_ixor hX dJ6_numberOfTrailingZeros_0f7a4_2 ?_
  refine w_iload_n (i := 0) hX dJ6_numberOfTrailingZeros_0f7a4_3 rfl rfl ?_
  refine w_iconst hX dJ6_numberOfTrailingZeros_0f7a4_4 kI_1 ?_
  refine w_isub hX dJ6_numberOfTrailingZeros_0f7a4_5 ?_
  refine w_iand hX dJ6_numberOfTrailingZeros_0f7a4_6 ?_
  refine w_top (y := nI (2 ^ x - 1)) (tz_a x hx2 hx1) ?_
  refine w_istore_n (i := 0) (l2 := [some (.int (nI (2 ^ x - 1))), none]) hX dJ6_numberOfTrailingZeros_0f7a4_7 rfl (ltb rfl) rfl rfl ?_
  refine w_iload_n (i := 0) hX dJ6_numberOfTrailingZeros_0f7a4_8 rfl rfl ?_
  refine wn_if_gt (tgt := 17) hX dJ6_numberOfTrailingZeros_0f7a4_9 (by decide) (by omega) (fun c1 => ?_) (fun c1 => ?_)
  · refine w_iconst hX dJ6_numberOfTrailingZeros_0f7a4_17 kI_1 ?_
    refine w_istore_n (i := 1) (l2 := [some (.int (nI (2 ^ x - 1))), some (.int (nI 1))]) hX dJ6_numberOfTrailingZeros_0f7a4_18 rfl (ltb rfl) rfl rfl ?_
    refine w_iload_n (i := 0) hX dJ6_numberOfTrailingZeros_0f7a4_19 rfl rfl ?_
    refine w_ldcw hX dJ6_numberOfTrailingZeros_0f7a4_20 ki_RJ6_264 ?_
    refine w_top (y := nI 65536) rfl ?_
    refine wn_icmp_le (tgt := 34) hX dJ6_numberOfTrailingZeros_0f7a4_23 (by decide) (by omega) (by omega) (fun c2 => ?_) (fun c2 => ?_)
    · refine w_iload_n (i := 0) hX dJ6_numberOfTrailingZeros_0f7a4_34 rfl rfl ?_
      refine w_sipush hX dJ6_numberOfTrailingZeros_0f7a4_35 kS_256 ?_
      refine wn_icmp_le (tgt := 49) hX dJ6_numberOfTrailingZeros_0f7a4_38 (by decide) (by omega) (by omega) (fun c3 => ?_) (fun c3 => ?_)
      · refine w_iload_n (i := 0) hX dJ6_numberOfTrailingZeros_0f7a4_49 rfl rfl ?_
        refine w_bipush hX dJ6_numberOfTrailingZeros_0f7a4_50 kB_16 ?_
        refine wn_icmp_le (tgt := 62) hX dJ6_numberOfTrailingZeros_0f7a4_52 (by decide) (by omega) (by omega) (fun c4 => ?_) (fun c4 => ?_)
        · refine w_iload_n (i := 0) hX dJ6_numberOfTrailingZeros_0f7a4_62 rfl rfl ?_
          refine w_iconst hX dJ6_numberOfTrailingZeros_0f7a4_63 kI_4 ?_
          refine wn_icmp_le (tgt := 74) hX dJ6_numberOfTrailingZeros_0f7a4_64 (by decide) (by omega) (by omega) (fun c5 => ?_) (fun c5 => ?_)
          · refine w_iload_n (i := 1) hX dJ6_numberOfTrailingZeros_0f7a4_74 rfl rfl ?_
            refine w_iload_n (i := 0) hX dJ6_numberOfTrailingZeros_0f7a4_75 rfl rfl ?_
            refine w_iconst hX dJ6_numberOfTrailingZeros_0f7a4_76 kI_1 ?_
            refine w_iushr hX dJ6_numberOfTrailingZeros_0f7a4_77 ?_
            refine w_top (y := nI ((2 ^ x - 1) / 2 ^ 1)) (ush (by omega) (by omega)) ?_
            refine w_iaddN hX dJ6_numberOfTrailingZeros_0f7a4_78 ?_
            refine w_iret hX hE dJ6_numberOfTrailingZeros_0f7a4_79 (Or.inl rfl) rfl ⟨?_, rfl⟩
            congr 1
            clear hX hE hnm hp hp2
            have hxs : x = 1 ∨ x = 2 ∨ x = 3 ∨ x = 4 ∨ x = 5 ∨ x = 6 ∨ x = 7 ∨ x = 8 ∨ x = 9 ∨ x = 10 ∨ x = 11 ∨ x = 12 ∨ x = 13 ∨ x = 14 ∨ x = 15 ∨ x = 16 ∨ x = 17 ∨ x = 18 ∨ x = 19 ∨ x = 20 ∨ x = 21 ∨ x = 22 ∨ x = 23 ∨ x = 24 := by omega
            rcases hxs with rfl | rfl | rfl | rfl | rfl | rfl | rfl | rfl | rfl | rfl | rfl | rfl | rfl | rfl | rfl | rfl | rfl | rfl | rfl | rfl | rfl | rfl | rfl | rfl <;> first | rfl | (exfalso; simp only [Nat.reducePow, Nat.reduceSub, Nat.reduceDiv] at *; omega)
          · refine w_iincN (w := 2) (l2 := [some (.int (nI (2 ^ x - 1))), some (.int (nI 3))]) hX dJ6_numberOfTrailingZeros_0f7a4_67 rfl kI_2 rfl rfl ?_
            refine w_iload_n (i := 0) hX dJ6_numberOfTrailingZeros_0f7a4_70 rfl rfl ?_
            refine w_iconst hX dJ6_numberOfTrailingZeros_0f7a4_71 kI_2 ?_
            refine w_iushr hX dJ6_numberOfTrailingZeros_0f7a4_72 ?_
            refine w_top (y := nI ((2 ^ x - 1) / 2 ^ 2)) (ush (by omega) (by omega)) ?_
            refine w_istore_n (i := 0) (l2 := [some (.int (nI ((2 ^ x - 1) / 2 ^ 2))), some (.int (nI 3))]) hX dJ6_numberOfTrailingZeros_0f7a4_73 rfl (ltb rfl) rfl rfl ?_
            refine w_iload_n (i := 1) hX dJ6_numberOfTrailingZeros_0f7a4_74 rfl rfl ?_
            refine w_iload_n (i := 0) hX dJ6_numberOfTrailingZeros_0f7a4_75 rfl rfl ?_
            refine w_iconst hX dJ6_numberOfTrailingZeros_0f7a4_76 kI_1 ?_
            refine w_iushr hX dJ6_numberOfTrailingZeros_0f7a4_77 ?_
            refine w_top (y := nI (((2 ^ x - 1) / 2 ^ 2) / 2 ^ 1)) (ush (by omega) (by omega)) ?_
            refine w_iaddN hX dJ6_numberOfTrailingZeros_0f7a4_78 ?_
            refine w_iret hX hE dJ6_numberOfTrailingZeros_0f7a4_79 (Or.inl rfl) rfl ⟨?_, rfl⟩
            congr 1
            clear hX hE hnm hp hp2
            have hxs : x = 1 ∨ x = 2 ∨ x = 3 ∨ x = 4 ∨ x = 5 ∨ x = 6 ∨ x = 7 ∨ x = 8 ∨ x = 9 ∨ x = 10 ∨ x = 11 ∨ x = 12 ∨ x = 13 ∨ x = 14 ∨ x = 15 ∨ x = 16 ∨ x = 17 ∨ x = 18 ∨ x = 19 ∨ x = 20 ∨ x = 21 ∨ x = 22 ∨ x = 23 ∨ x = 24 := by omega
            rcases hxs with rfl | rfl | rfl | rfl | rfl | rfl | rfl | rfl | rfl | rfl | rfl | rfl | rfl | rfl | rfl | rfl | rfl | rfl | rfl | rfl | rfl | rfl | rfl | rfl <;> first | rfl | (exfalso; simp only [Nat.reducePow, Nat.reduceSub, Nat.reduceDiv] at *; omega)
        · refine w_iincN (w := 4) (l2 := [some (.int (nI (2 ^ x - 1))), some (.int (nI 5))]) hX dJ6_numberOfTrailingZeros_0f7a4_55 rfl kI_4 rfl rfl ?_
          refine w_iload_n (i := 0) hX dJ6_numberOfTrailingZeros_0f7a4_58 rfl rfl ?_
          refine w_iconst hX dJ6_numberOfTrailingZeros_0f7a4_59 kI_4 ?_
          refine w_iushr hX dJ6_numberOfTrailingZeros_0f7a4_60 ?_
          refine w_top (y := nI ((2 ^ x - 1) / 2 ^ 4)) (ush (by omega) (by omega)) ?_
          refine w_istore_n (i := 0) (l2 := [some (.int (nI ((2 ^ x - 1) / 2 ^ 4))), some (.int (nI 5))]) hX dJ6_numberOfTrailingZeros_0f7a4_61 rfl (ltb rfl) rfl rfl ?_
          refine w_iload_n (i := 0) hX dJ6_numberOfTrailingZeros_0f7a4_62 rfl rfl ?_
          refine w_iconst hX dJ6_numberOfTrailingZeros_0f7a4_63 kI_4 ?_
          refine wn_icmp_le (tgt := 74) hX dJ6_numberOfTrailingZeros_0f7a4_64 (by decide) (by omega) (by omega) (fun c6 => ?_) (fun c6 => ?_)
          · refine w_iload_n (i := 1) hX dJ6_numberOfTrailingZeros_0f7a4_74 rfl rfl ?_
            refine w_iload_n (i := 0) hX dJ6_numberOfTrailingZeros_0f7a4_75 rfl rfl ?_
            refine w_iconst hX dJ6_numberOfTrailingZeros_0f7a4_76 kI_1 ?_
            refine w_iushr hX dJ6_numberOfTrailingZeros_0f7a4_77 ?_
            refine w_top (y := nI (((2 ^ x - 1) / 2 ^ 4) / 2 ^ 1)) (ush (by omega) (by omega)) ?_
            refine w_iaddN hX dJ6_numberOfTrailingZeros_0f7a4_78 ?_
            refine w_iret hX hE dJ6_numberOfTrailingZeros_0f7a4_79 (Or.inl rfl) rfl ⟨?_, rfl⟩
            congr 1
            clear hX hE hnm hp hp2
            have hxs : x = 1 ∨ x = 2 ∨ x = 3 ∨ x = 4 ∨ x = 5 ∨ x = 6 ∨ x = 7 ∨ x = 8 ∨ x = 9 ∨ x = 10 ∨ x = 11 ∨ x = 12 ∨ x = 13 ∨ x = 14 ∨ x = 15 ∨ x = 16 ∨ x = 17 ∨ x = 18 ∨ x = 19 ∨ x = 20 ∨ x = 21 ∨ x = 22 ∨ x = 23 ∨ x = 24 := by omega
            rcases hxs with rfl | rfl | rfl | rfl | rfl | rfl | rfl | rfl | rfl | rfl | rfl | rfl | rfl | rfl | rfl | rfl | rfl | rfl | rfl | rfl | rfl | rfl | rfl | rfl <;> first | rfl | (exfalso; simp only [Nat.reducePow, Nat.reduceSub, Nat.reduceDiv] at *; omega)
          · refine w_iincN (w := 2) (l2 := [some (.int (nI ((2 ^ x - 1) / 2 ^ 4))), some (.int (nI 7))]) hX dJ6_numberOfTrailingZeros_0f7a4_67 rfl kI_2 rfl rfl ?_
            refine w_iload_n (i := 0) hX dJ6_numberOfTrailingZeros_0f7a4_70 rfl rfl ?_
            refine w_iconst hX dJ6_numberOfTrailingZeros_0f7a4_71 kI_2 ?_
            refine w_iushr hX dJ6_numberOfTrailingZeros_0f7a4_72 ?_
            refine w_top (y := nI (((2 ^ x - 1) / 2 ^ 4) / 2 ^ 2)) (ush (by omega) (by omega)) ?_
            refine w_istore_n (i := 0) (l2 := [some (.int (nI (((2 ^ x - 1) / 2 ^ 4) / 2 ^ 2))), some (.int (nI 7))]) hX dJ6_numberOfTrailingZeros_0f7a4_73 rfl (ltb rfl) rfl rfl ?_
            refine w_iload_n (i := 1) hX dJ6_numberOfTrailingZeros_0f7a4_74 rfl rfl ?_
            refine w_iload_n (i := 0) hX dJ6_numberOfTrailingZeros_0f7a4_75 rfl rfl ?_
            refine w_iconst hX dJ6_numberOfTrailingZeros_0f7a4_76 kI_1 ?_
            refine w_iushr hX dJ6_numberOfTrailingZeros_0f7a4_77 ?_
            refine w_top (y := nI ((((2 ^ x - 1) / 2 ^ 4) / 2 ^ 2) / 2 ^ 1)) (ush (by omega) (by omega)) ?_
            refine w_iaddN hX dJ6_numberOfTrailingZeros_0f7a4_78 ?_
            refine w_iret hX hE dJ6_numberOfTrailingZeros_0f7a4_79 (Or.inl rfl) rfl ⟨?_, rfl⟩
            congr 1
            clear hX hE hnm hp hp2
            have hxs : x = 1 ∨ x = 2 ∨ x = 3 ∨ x = 4 ∨ x = 5 ∨ x = 6 ∨ x = 7 ∨ x = 8 ∨ x = 9 ∨ x = 10 ∨ x = 11 ∨ x = 12 ∨ x = 13 ∨ x = 14 ∨ x = 15 ∨ x = 16 ∨ x = 17 ∨ x = 18 ∨ x = 19 ∨ x = 20 ∨ x = 21 ∨ x = 22 ∨ x = 23 ∨ x = 24 := by omega
            rcases hxs with rfl | rfl | rfl | rfl | rfl | rfl | rfl | rfl | rfl | rfl | rfl | rfl | rfl | rfl | rfl | rfl | rfl | rfl | rfl | rfl | rfl | rfl | rfl | rfl <;> first | rfl | (exfalso; simp only [Nat.reducePow, Nat.reduceSub, Nat.reduceDiv] at *; omega)
      · refine w_iincN (w := 8) (l2 := [some (.int (nI (2 ^ x - 1))), some (.int (nI 9))]) hX dJ6_numberOfTrailingZeros_0f7a4_41 rfl kI_8 rfl rfl ?_
        refine w_iload_n (i := 0) hX dJ6_numberOfTrailingZeros_0f7a4_44 rfl rfl ?_
        refine w_bipush hX dJ6_numberOfTrailingZeros_0f7a4_45 kB_8 ?_
        refine w_iushr hX dJ6_numberOfTrailingZeros_0f7a4_47 ?_
        refine w_top (y := nI ((2 ^ x - 1) / 2 ^ 8)) (ush (by omega) (by omega)) ?_
        refine w_istore_n (i := 0) (l2 := [some (.int (nI ((2 ^ x - 1) / 2 ^ 8))), some (.int (nI 9))]) hX dJ6_numberOfTrailingZeros_0f7a4_48 rfl (ltb rfl) rfl rfl ?_
        refine w_iload_n (i := 0) hX dJ6_numberOfTrailingZeros_0f7a4_49 rfl rfl ?_
        refine w_bipush hX dJ6_numberOfTrailingZeros_0f7a4_50 kB_16 ?_
        refine wn_icmp_le (tgt := 62) hX dJ6_numberOfTrailingZeros_0f7a4_52 (by decide) (by omega) (by omega) (fun c7 => ?_) (fun c7 => ?_)
        · refine w_iload_n (i := 0) hX dJ6_numberOfTrailingZeros_0f7a4_62 rfl rfl ?_
          refine w_iconst hX dJ6_numberOfTrailingZeros_0f7a4_63 kI_4 ?_
          refine wn_icmp_le (tgt := 74) hX dJ6_numberOfTrailingZeros_0f7a4_64 (by decide) (by omega) (by omega) (fun c8 => ?_) (fun c8 => ?_)
          · refine w_iload_n (i := 1) hX dJ6_numberOfTrailingZeros_0f7a4_74 rfl rfl ?_
            refine w_iload_n (i := 0) hX dJ6_numberOfTrailingZeros_0f7a4_75 rfl rfl ?_
            refine w_iconst hX dJ6_numberOfTrailingZeros_0f7a4_76 kI_1 ?_
            refine w_iushr hX dJ6_numberOfTrailingZeros_0f7a4_77 ?_
            refine w_top (y := nI (((2 ^ x - 1) / 2 ^ 8) / 2 ^ 1)) (ush (by omega) (by omega)) ?_
            refine w_iaddN hX dJ6_numberOfTrailingZeros_0f7a4_78 ?_
            refine w_iret hX hE dJ6_numberOfTrailingZeros_0f7a4_79 (Or.inl rfl) rfl ⟨?_, rfl⟩
            congr 1
            clear hX hE hnm hp hp2
            have hxs : x = 1 ∨ x = 2 ∨ x = 3 ∨ x = 4 ∨ x = 5 ∨ x = 6 ∨ x = 7 ∨ x = 8 ∨ x = 9 ∨ x = 10 ∨ x = 11 ∨ x = 12 ∨ x = 13 ∨ x = 14 ∨ x = 15 ∨ x = 16 ∨ x = 17 ∨ x = 18 ∨ x = 19 ∨ x = 20 ∨ x = 21 ∨ x = 22 ∨ x = 23 ∨ x = 24 := by omega
            rcases hxs with rfl | rfl | rfl | rfl | rfl | rfl | rfl | rfl | rfl | rfl | rfl | rfl | rfl | rfl | rfl | rfl | rfl | rfl | rfl | rfl | rfl | rfl | rfl | rfl <;> first | rfl | (exfalso; simp only [Nat.reducePow, Nat.reduceSub, Nat.reduceDiv] at *; omega)
          · refine w_iincN (w := 2) (l2 := [some (.int (nI ((2 ^ x - 1) / 2 ^ 8))), some (.int (nI 11))]) hX dJ6_numberOfTrailingZeros_0f7a4_67 rfl kI_2 rfl rfl ?_
            refine w_iload_n (i := 0) hX dJ6_numberOfTrailingZeros_0f7a4_70 rfl rfl ?_
            refine w_iconst hX dJ6_numberOfTrailingZeros_0f7a4_71 kI_2 ?_
            refine w_iushr hX dJ6_numberOfTrailingZeros_0f7a4_72 ?_
            refine w_top (y := nI (((2 ^ x - 1) / 2 ^ 8) / 2 ^ 2)) (ush (by omega) (by omega)) ?_
            refine w_istore_n (i := 0) (l2 := [some (.int (nI (((2 ^ x - 1) / 2 ^ 8) / 2 ^ 2))), some (.int (nI 11))]) hX dJ6_numberOfTrailingZeros_0f7a4_73 rfl (ltb rfl) rfl rfl ?_
            refine w_iload_n (i := 1) hX dJ6_numberOfTrailingZeros_0f7a4_74 rfl rfl ?_
            refine w_iload_n (i := 0) hX dJ6_numberOfTrailingZeros_0f7a4_75 rfl rfl ?_
            refine w_iconst hX dJ6_numberOfTrailingZeros_0f7a4_76 kI_1 ?_
            refine w_iushr hX dJ6_numberOfTrailingZeros_0f7a4_77 ?_
            refine w_top (y := nI ((((2 ^ x - 1) / 2 ^ 8) / 2 ^ 2) / 2 ^ 1)) (ush (by omega) (by omega)) ?_
            refine w_iaddN hX dJ6_numberOfTrailingZeros_0f7a4_78 ?_
            refine w_iret hX hE dJ6_numberOfTrailingZeros_0f7a4_79 (Or.inl rfl) rfl ⟨?_, rfl⟩
            congr 1
            clear hX hE hnm hp hp2
            have hxs : x = 1 ∨ x = 2 ∨ x = 3 ∨ x = 4 ∨ x = 5 ∨ x = 6 ∨ x = 7 ∨ x = 8 ∨ x = 9 ∨ x = 10 ∨ x = 11 ∨ x = 12 ∨ x = 13 ∨ x = 14 ∨ x = 15 ∨ x = 16 ∨ x = 17 ∨ x = 18 ∨ x = 19 ∨ x = 20 ∨ x = 21 ∨ x = 22 ∨ x = 23 ∨ x = 24 := by omega
            rcases hxs with rfl | rfl | rfl | rfl | rfl | rfl | rfl | rfl | rfl | rfl | rfl | rfl | rfl | rfl | rfl | rfl | rfl | rfl | rfl | rfl | rfl | rfl | rfl | rfl <;> first | rfl | (exfalso; simp only [Nat.reducePow, Nat.reduceSub, Nat.reduceDiv] at *; omega)
        · refine w_iincN (w := 4) (l2 := [some (.int (nI ((2 ^ x - 1) / 2 ^ 8))), some (.int (nI 13))]) hX dJ6_numberOfTrailingZeros_0f7a4_55 rfl kI_4 rfl rfl ?_
          refine w_iload_n (i := 0) hX dJ6_numberOfTrailingZeros_0f7a4_58 rfl rfl ?_
          refine w_iconst hX dJ6_numberOfTrailingZeros_0f7a4_59 kI_4 ?_
          refine w_iushr hX dJ6_numberOfTrailingZeros_0f7a4_60 ?_
          refine w_top (y := nI (((2 ^ x - 1) / 2 ^ 8) / 2 ^ 4)) (ush (by omega) (by omega)) ?_
          refine w_istore_n (i := 0) (l2 := [some (.int (nI (((2 ^ x - 1) / 2 ^ 8) / 2 ^ 4))), some (.int (nI 13))]) hX dJ6_numberOfTrailingZeros_0f7a4_61 rfl (ltb rfl) rfl rfl ?_
          refine w_iload_n (i := 0) hX dJ6_numberOfTrailingZeros_0f7a4_62 rfl rfl ?_
          refine w_iconst hX dJ6_numberOfTrailingZeros_0f7a4_63 kI_4 ?_
          refine wn_icmp_le (tgt := 74) hX dJ6_numberOfTrailingZeros_0f7a4_64 (by decide) (by omega) (by omega) (fun c9 => ?_) (fun c9 => ?_)
          · refine w_iload_n (i := 1) hX dJ6_numberOfTrailingZeros_0f7a4_74 rfl rfl ?_
            refine w_iload_n (i := 0) hX dJ6_numberOfTrailingZeros_0f7a4_75 rfl rfl ?_
            refine w_iconst hX dJ6_numberOfTrailingZeros_0f7a4_76 kI_1 ?_
            refine w_iushr hX dJ6_numberOfTrailingZeros_0f7a4_77 ?_
            refine w_top (y := nI ((((2 ^ x - 1) / 2 ^ 8) / 2 ^ 4) / 2 ^ 1)) (ush (by omega) (by omega)) ?_
            refine w_iaddN hX dJ6_numberOfTrailingZeros_0f7a4_78 ?_
            refine w_iret hX hE dJ6_numberOfTrailingZeros_0f7a4_79 (Or.inl rfl) rfl ⟨?_, rfl⟩
            congr 1
            clear hX hE hnm hp hp2
            have hxs : x = 1 ∨ x = 2 ∨ x = 3 ∨ x = 4 ∨ x = 5 ∨ x = 6 ∨ x = 7 ∨ x = 8 ∨ x = 9 ∨ x = 10 ∨ x = 11 ∨ x = 12 ∨ x = 13 ∨ x = 14 ∨ x = 15 ∨ x = 16 ∨ x = 17 ∨ x = 18 ∨ x = 19 ∨ x = 20 ∨ x = 21 ∨ x = 22 ∨ x = 23 ∨ x = 24 := by omega
            rcases hxs with rfl | rfl | rfl | rfl | rfl | rfl | rfl | rfl | rfl | rfl | rfl | rfl | rfl | rfl | rfl | rfl | rfl | rfl | rfl | rfl | rfl | rfl | rfl | rfl <;> first | rfl | (exfalso; simp only [Nat.reducePow, Nat.reduceSub, Nat.reduceDiv] at *; omega)
          · refine w_iincN (w := 2) (l2 := [some (.int (nI (((2 ^ x - 1) / 2 ^ 8) / 2 ^ 4))), some (.int (nI 15))]) hX dJ6_numberOfTrailingZeros_0f7a4_67 rfl kI_2 rfl rfl ?_
            refine w_iload_n (i := 0) hX dJ6_numberOfTrailingZeros_0f7a4_70 rfl rfl ?_
            refine w_iconst hX dJ6_numberOfTrailingZeros_0f7a4_71 kI_2 ?_
            refine w_iushr hX dJ6_numberOfTrailingZeros_0f7a4_72 ?_
            refine w_top (y := nI ((((2 ^ x - 1) / 2 ^ 8) / 2 ^ 4) / 2 ^ 2)) (ush (by omega) (by omega)) ?_
            refine w_istore_n (i := 0) (l2 := [some (.int (nI ((((2 ^ x - 1) / 2 ^ 8) / 2 ^ 4) / 2 ^ 2))), some (.int (nI 15))]) hX dJ6_numberOfTrailingZeros_0f7a4_73 rfl (ltb rfl) rfl rfl ?_
            refine w_iload_n (i := 1) hX dJ6_numberOfTrailingZeros_0f7a4_74 rfl rfl ?_
            refine w_iload_n (i := 0) hX dJ6_numberOfTrailingZeros_0f7a4_75 rfl rfl ?_
            refine w_iconst hX dJ6_numberOfTrailingZeros_0f7a4_76 kI_1 ?_
            refine w_iushr hX dJ6_numberOfTrailingZeros_0f7a4_77 ?_
            refine w_top (y := nI (((((2 ^ x - 1) / 2 ^ 8) / 2 ^ 4) / 2 ^ 2) / 2 ^ 1)) (ush (by omega) (by omega)) ?_
            refine w_iaddN hX dJ6_numberOfTrailingZeros_0f7a4_78 ?_
            refine w_iret hX hE dJ6_numberOfTrailingZeros_0f7a4_79 (Or.inl rfl) rfl ⟨?_, rfl⟩
            congr 1
            clear hX hE hnm hp hp2
            have hxs : x = 1 ∨ x = 2 ∨ x = 3 ∨ x = 4 ∨ x = 5 ∨ x = 6 ∨ x = 7 ∨ x = 8 ∨ x = 9 ∨ x = 10 ∨ x = 11 ∨ x = 12 ∨ x = 13 ∨ x = 14 ∨ x = 15 ∨ x = 16 ∨ x = 17 ∨ x = 18 ∨ x = 19 ∨ x = 20 ∨ x = 21 ∨ x = 22 ∨ x = 23 ∨ x = 24 := by omega
            rcases hxs with rfl | rfl | rfl | rfl | rfl | rfl | rfl | rfl | rfl | rfl | rfl | rfl | rfl | rfl | rfl | rfl | rfl | rfl | rfl | rfl | rfl | rfl | rfl | rfl <;> first | rfl | (exfalso; simp only [Nat.reducePow, Nat.reduceSub, Nat.reduceDiv] at *; omega)
    · refine w_iincN (w := 16) (l2 := [some (.int (nI (2 ^ x - 1))), some (.int (nI 17))]) hX dJ6_numberOfTrailingZeros_0f7a4_26 rfl kI_16 rfl rfl ?_
      refine w_iload_n (i := 0) hX dJ6_numberOfTrailingZeros_0f7a4_29 rfl rfl ?_
      refine w_bipush hX dJ6_numberOfTrailingZeros_0f7a4_30 kB_16 ?_
      refine w_iushr hX dJ6_numberOfTrailingZeros_0f7a4_32 ?_
      refine w_top (y := nI ((2 ^ x - 1) / 2 ^ 16)) (ush (by omega) (by omega)) ?_
      refine w_istore_n (i := 0) (l2 := [some (.int (nI ((2 ^ x - 1) / 2 ^ 16))), some (.int (nI 17))]) hX dJ6_numberOfTrailingZeros_0f7a4_33 rfl (ltb rfl) rfl rfl ?_
      refine w_iload_n (i := 0) hX dJ6_numberOfTrailingZeros_0f7a4_34 rfl rfl ?_
      refine w_sipush hX dJ6_numberOfTrailingZeros_0f7a4_35 kS_256 ?_
      refine wn_icmp_le (tgt := 49) hX dJ6_numberOfTrailingZeros_0f7a4_38 (by decide) (by omega) (by omega) (fun c10 => ?_) (fun c10 => ?_)
      · refine w_iload_n (i := 0) hX dJ6_numberOfTrailingZeros_0f7a4_49 rfl rfl ?_
        refine w_bipush hX dJ6_numberOfTrailingZeros_0f7a4_50 kB_16 ?_
        refine wn_icmp_le (tgt := 62) hX dJ6_numberOfTrailingZeros_0f7a4_52 (by decide) (by omega) (by omega) (fun c11 => ?_) (fun c11 => ?_)
        · refine w_iload_n (i := 0) hX dJ6_numberOfTrailingZeros_0f7a4_62 rfl rfl ?_
          refine w_iconst hX dJ6_numberOfTrailingZeros_0f7a4_63 kI_4 ?_
          refine wn_icmp_le (tgt := 74) hX dJ6_numberOfTrailingZeros_0f7a4_64 (by decide) (by omega) (by omega) (fun c12 => ?_) (fun c12 => ?_)
          · refine w_iload_n (i := 1) hX dJ6_numberOfTrailingZeros_0f7a4_74 rfl rfl ?_
            refine w_iload_n (i := 0) hX dJ6_numberOfTrailingZeros_0f7a4_75 rfl rfl ?_
            refine w_iconst hX dJ6_numberOfTrailingZeros_0f7a4_76 kI_1 ?_
            refine w_iushr hX dJ6_numberOfTrailingZeros_0f7a4_77 ?_
            refine w_top (y := nI (((2 ^ x - 1) / 2 ^ 16) / 2 ^ 1)) (ush (by omega) (by omega)) ?_
            refine w_iaddN hX dJ6_numberOfTrailingZeros_0f7a4_78 ?_
            refine w_iret hX hE dJ6_numberOfTrailingZeros_0f7a4_79 (Or.inl rfl) rfl ⟨?_, rfl⟩
            congr 1
            clear hX hE hnm hp hp2
            have hxs : x = 1 ∨ x = 2 ∨ x = 3 ∨ x = 4 ∨ x = 5 ∨ x = 6 ∨ x = 7 ∨ x = 8 ∨ x = 9 ∨ x = 10 ∨ x = 11 ∨ x = 12 ∨ x = 13 ∨ x = 14 ∨ x = 15 ∨ x = 16 ∨ x = 17 ∨ x = 18 ∨ x = 19 ∨ x = 20 ∨ x = 21 ∨ x = 22 ∨ x = 23 ∨ x = 24 := by omega
            rcases hxs with rfl | rfl | rfl | rfl | rfl | rfl | rfl | rfl | rfl | rfl | rfl | rfl | rfl | rfl | rfl | rfl | rfl | rfl | rfl | rfl | rfl | rfl | rfl | rfl <;> first | rfl | (exfalso; simp only [Nat.reducePow, Nat.reduceSub, Nat.reduceDiv] at *; omega)
          · refine w_iincN (w := 2) (l2 := [some (.int (nI ((2 ^ x - 1) / 2 ^ 16))), some (.int (nI 19))]) hX dJ6_numberOfTrailingZeros_0f7a4_67 rfl kI_2 rfl rfl ?_
            refine w_iload_n (i := 0) hX dJ6_numberOfTrailingZeros_0f7a4_70 rfl rfl ?_
            refine w_iconst hX dJ6_numberOfTrailingZeros_0f7a4_71 kI_2 ?_
            refine w_iushr hX dJ6_numberOfTrailingZeros_0f7a4_72 ?_
            refine w_top (y := nI (((2 ^ x - 1) / 2 ^ 16) / 2 ^ 2)) (ush (by omega) (by omega)) ?_
            refine w_istore_n (i := 0) (l2 := [some (.int (nI (((2 ^ x - 1) / 2 ^ 16) / 2 ^ 2))), some (.int (nI 19))]) hX dJ6_numberOfTrailingZeros_0f7a4_73 rfl (ltb rfl) rfl rfl ?_
            refine w_iload_n (i := 1) hX dJ6_numberOfTrailingZeros_0f7a4_74 rfl rfl ?_
            refine w_iload_n (i := 0) hX dJ6_numberOfTrailingZeros_0f7a4_75 rfl rfl ?_
            refine w_iconst hX dJ6_numberOfTrailingZeros_0f7a4_76 kI_1 ?_
            refine w_iushr hX dJ6_numberOfTrailingZeros_0f7a4_77 ?_
            refine w_top (y := nI ((((2 ^ x - 1) / 2 ^ 16) / 2 ^ 2) / 2 ^ 1)) (ush (by omega) (by omega)) ?_
            refine w_iaddN hX dJ6_numberOfTrailingZeros_0f7a4_78 ?_
            refine w_iret hX hE dJ6_numberOfTrailingZeros_0f7a4_79 (Or.inl rfl) rfl ⟨?_, rfl⟩
            congr 1
            clear hX hE hnm hp hp2
            have hxs : x = 1 ∨ x = 2 ∨ x = 3 ∨ x = 4 ∨ x = 5 ∨ x = 6 ∨ x = 7 ∨ x = 8 ∨ x = 9 ∨ x = 10 ∨ x = 11 ∨ x = 12 ∨ x = 13 ∨ x = 14 ∨ x = 15 ∨ x = 16 ∨ x = 17 ∨ x = 18 ∨ x = 19 ∨ x = 20 ∨ x = 21 ∨ x = 22 ∨ x = 23 ∨ x = 24 := by omega
            rcases hxs with rfl | rfl | rfl | rfl | rfl | rfl | rfl | rfl | rfl | rfl | rfl | rfl | rfl | rfl | rfl | rfl | rfl | rfl | rfl | rfl | rfl | rfl | rfl | rfl <;> first | rfl | (exfalso; simp only [Nat.reducePow, Nat.reduceSub, Nat.reduceDiv] at *; omega)
        · refine w_iincN (w := 4) (l2 := [some (.int (nI ((2 ^ x - 1) / 2 ^ 16))), some (.int (nI 21))]) hX dJ6_numberOfTrailingZeros_0f7a4_55 rfl kI_4 rfl rfl ?_
          refine w_iload_n (i := 0) hX dJ6_numberOfTrailingZeros_0f7a4_58 rfl rfl ?_
          refine w_iconst hX dJ6_numberOfTrailingZeros_0f7a4_59 kI_4 ?_
          refine w_iushr hX dJ6_numberOfTrailingZeros_0f7a4_60 ?_
          refine w_top (y := nI (((2 ^ x - 1) / 2 ^ 16) / 2 ^ 4)) (ush (by omega) (by omega)) ?_
          refine w_istore_n (i := 0) (l2 := [some (.int (nI (((2 ^ x - 1) / 2 ^ 16) / 2 ^ 4))), some (.int (nI 21))]) hX dJ6_numberOfTrailingZeros_0f7a4_61 rfl (ltb rfl) rfl rfl ?_
          refine w_iload_n (i := 0) hX dJ6_numberOfTrailingZeros_0f7a4_62 rfl rfl ?_
          refine w_iconst hX dJ6_numberOfTrailingZeros_0f7a4_63 kI_4 ?_
          refine wn_icmp_le (tgt := 74) hX dJ6_numberOfTrailingZeros_0f7a4_64 (by decide) (by omega) (by omega) (fun c13 => ?_) (fun c13 => ?_)
          · refine w_iload_n (i := 1) hX dJ6_numberOfTrailingZeros_0f7a4_74 rfl rfl ?_
            refine w_iload_n (i := 0) hX dJ6_numberOfTrailingZeros_0f7a4_75 rfl rfl ?_
            refine w_iconst hX dJ6_numberOfTrailingZeros_0f7a4_76 kI_1 ?_
            refine w_iushr hX dJ6_numberOfTrailingZeros_0f7a4_77 ?_
            refine w_top (y := nI ((((2 ^ x - 1) / 2 ^ 16) / 2 ^ 4) / 2 ^ 1)) (ush (by omega) (by omega)) ?_
            refine w_iaddN hX dJ6_numberOfTrailingZeros_0f7a4_78 ?_
            refine w_iret hX hE dJ6_numberOfTrailingZeros_0f7a4_79 (Or.inl rfl) rfl ⟨?_, rfl⟩
            congr 1
            clear hX hE hnm hp hp2
            have hxs : x = 1 ∨ x = 2 ∨ x = 3 ∨ x = 4 ∨ x = 5 ∨ x = 6 ∨ x = 7 ∨ x = 8 ∨ x = 9 ∨ x = 10 ∨ x = 11 ∨ x = 12 ∨ x = 13 ∨ x = 14 ∨ x = 15 ∨ x = 16 ∨ x = 17 ∨ x = 18 ∨ x = 19 ∨ x = 20 ∨ x = 21 ∨ x = 22 ∨ x = 23 ∨ x = 24 := by omega
            rcases hxs with rfl | rfl | rfl | rfl | rfl | rfl | rfl | rfl | rfl | rfl | rfl | rfl | rfl | rfl | rfl | rfl | rfl | rfl | rfl | rfl | rfl | rfl | rfl | rfl <;> first | rfl | (exfalso; simp only [Nat.reducePow, Nat.reduceSub, Nat.reduceDiv] at *; omega)
          · refine w_iincN (w := 2) (l2 := [some (.int (nI (((2 ^ x - 1) / 2 ^ 16) / 2 ^ 4))), some (.int (nI 23))]) hX dJ6_numberOfTrailingZeros_0f7a4_67 rfl kI_2 rfl rfl ?_
            refine w_iload_n (i := 0) hX dJ6_numberOfTrailingZeros_0f7a4_70 rfl rfl ?_
            refine w_iconst hX dJ6_numberOfTrailingZeros_0f7a4_71 kI_2 ?_
            refine w_iushr hX dJ6_numberOfTrailingZeros_0f7a4_72 ?_
            refine w_top (y := nI ((((2 ^ x - 1) / 2 ^ 16) / 2 ^ 4) / 2 ^ 2)) (ush (by omega) (by omega)) ?_
            refine w_istore_n (i := 0) (l2 := [some (.int (nI ((((2 ^ x - 1) / 2 ^ 16) / 2 ^ 4) / 2 ^ 2))), some (.int (nI 23))]) hX dJ6_numberOfTrailingZeros_0f7a4_73 rfl (ltb rfl) rfl rfl ?_
            refine w_iload_n (i := 1) hX dJ6_numberOfTrailingZeros_0f7a4_74 rfl rfl ?_
            refine w_iload_n (i := 0) hX dJ6_numberOfTrailingZeros_0f7a4_75 rfl rfl ?_
            refine w_iconst hX dJ6_numberOfTrailingZeros_0f7a4_76 kI_1 ?_
            refine w_iushr hX dJ6_numberOfTrailingZeros_0f7a4_77 ?_
            refine w_top (y := nI (((((2 ^ x - 1) / 2 ^ 16) / 2 ^ 4) / 2 ^ 2) / 2 ^ 1)) (ush (by omega) (by omega)) ?_
            refine w_iaddN hX dJ6_numberOfTrailingZeros_0f7a4_78 ?_
            refine w_iret hX hE dJ6_numberOfTrailingZeros_0f7a4_79 (Or.inl rfl) rfl ⟨?_, rfl⟩
            congr 1
            clear hX hE hnm hp hp2
            have hxs : x = 1 ∨ x = 2 ∨ x = 3 ∨ x = 4 ∨ x = 5 ∨ x = 6 ∨ x = 7 ∨ x = 8 ∨ x = 9 ∨ x = 10 ∨ x = 11 ∨ x = 12 ∨ x = 13 ∨ x = 14 ∨ x = 15 ∨ x = 16 ∨ x = 17 ∨ x = 18 ∨ x = 19 ∨ x = 20 ∨ x = 21 ∨ x = 22 ∨ x = 23 ∨ x = 24 := by omega
            rcases hxs with rfl | rfl | rfl | rfl | rfl | rfl | rfl | rfl | rfl | rfl | rfl | rfl | rfl | rfl | rfl | rfl | rfl | rfl | rfl | rfl | rfl | rfl | rfl | rfl <;> first | rfl | (exfalso; simp only [Nat.reducePow, Nat.reduceSub, Nat.reduceDiv] at *; omega)
      · refine w_iincN (w := 8) (l2 := [some (.int (nI ((2 ^ x - 1) / 2 ^ 16))), some (.int (nI 25))]) hX dJ6_numberOfTrailingZeros_0f7a4_41 rfl kI_8 rfl rfl ?_
        refine w_iload_n (i := 0) hX dJ6_numberOfTrailingZeros_0f7a4_44 rfl rfl ?_
        refine w_bipush hX dJ6_numberOfTrailingZeros_0f7a4_45 kB_8 ?_
        refine w_iushr hX dJ6_numberOfTrailingZeros_0f7a4_47 ?_
        refine w_top (y := nI (((2 ^ x - 1) / 2 ^ 16) / 2 ^ 8)) (ush (by omega) (by omega)) ?_
        refine w_istore_n (i := 0) (l2 := [some (.int (nI (((2 ^ x - 1) / 2 ^ 16) / 2 ^ 8))), some (.int (nI 25))]) hX dJ6_numberOfTrailingZeros_0f7a4_48 rfl (ltb rfl) rfl rfl ?_
        refine w_iload_n (i := 0) hX dJ6_numberOfTrailingZeros_0f7a4_49 rfl rfl ?_
        refine w_bipush hX dJ6_numberOfTrailingZeros_0f7a4_50 kB_16 ?_
        refine wn_icmp_le (tgt := 62) hX dJ6_numberOfTrailingZeros_0f7a4_52 (by decide) (by omega) (by omega) (fun c14 => ?_) (fun c14 => ?_)
        · refine w_iload_n (i := 0) hX dJ6_numberOfTrailingZeros_0f7a4_62 rfl rfl ?_
          refine w_iconst hX dJ6_numberOfTrailingZeros_0f7a4_63 kI_4 ?_
          refine wn_icmp_le (tgt := 74) hX dJ6_numberOfTrailingZeros_0f7a4_64 (by decide) (by omega) (by omega) (fun c15 => ?_) (fun c15 => ?_)
          · refine w_iload_n (i := 1) hX dJ6_numberOfTrailingZeros_0f7a4_74 rfl rfl ?_
            refine w_iload_n (i := 0) hX dJ6_numberOfTrailingZeros_0f7a4_75 rfl rfl ?_
            refine w_iconst hX dJ6_numberOfTrailingZeros_0f7a4_76 kI_1 ?_
            refine w_iushr hX dJ6_numberOfTrailingZeros_0f7a4_77 ?_
            refine w_top (y := nI ((((2 ^ x - 1) / 2 ^ 16) / 2 ^ 8) / 2 ^ 1)) (ush (by omega) (by omega)) ?_
            refine w_iaddN hX dJ6_numberOfTrailingZeros_0f7a4_78 ?_
            refine w_iret hX hE dJ6_numberOfTrailingZeros_0f7a4_79 (Or.inl rfl) rfl ⟨?_, rfl⟩
            congr 1
            clear hX hE hnm hp hp2
            have hxs : x = 1 ∨ x = 2 ∨ x = 3 ∨ x = 4 ∨ x = 5 ∨ x = 6 ∨ x = 7 ∨ x = 8 ∨ x = 9 ∨ x = 10 ∨ x = 11 ∨ x = 12 ∨ x = 13 ∨ x = 14 ∨ x = 15 ∨ x = 16 ∨ x = 17 ∨ x = 18 ∨ x = 19 ∨ x = 20 ∨ x = 21 ∨ x = 22 ∨ x = 23 ∨ x = 24 := by omega
            rcases hxs with rfl | rfl | rfl | rfl | rfl | rfl | rfl | rfl | rfl | rfl | rfl | rfl | rfl | rfl | rfl | rfl | rfl | rfl | rfl | rfl | rfl | rfl | rfl | rfl <;> first | rfl | (exfalso; simp only [Nat.reducePow, Nat.reduceSub, Nat.reduceDiv] at *; omega)
          · refine w_iincN (w := 2) (l2 := [some (.int (nI (((2 ^ x - 1) / 2 ^ 16) / 2 ^ 8))), some (.int (nI 27))]) hX dJ6_numberOfTrailingZeros_0f7a4_67 rfl kI_2 rfl rfl ?_
            refine w_iload_n (i := 0) hX dJ6_numberOfTrailingZeros_0f7a4_70 rfl rfl ?_
            refine w_iconst hX dJ6_numberOfTrailingZeros_0f7a4_71 kI_2 ?_
            refine w_iushr hX dJ6_numberOfTrailingZeros_0f7a4_72 ?_
            refine w_top (y := nI ((((2 ^ x - 1) / 2 ^ 16) / 2 ^ 8) / 2 ^ 2)) (ush (by omega) (by omega)) ?_
            refine w_istore_n (i := 0) (l2 := [some (.int (nI ((((2 ^ x - 1) / 2 ^ 16) / 2 ^ 8) / 2 ^ 2))), some (.int (nI 27))]) hX dJ6_numberOfTrailingZeros_0f7a4_73 rfl (ltb rfl) rfl rfl ?_
            refine w_iload_n (i := 1) hX dJ6_numberOfTrailingZeros_0f7a4_74 rfl rfl ?_
            refine w_iload_n (i := 0) hX dJ6_numberOfTrailingZeros_0f7a4_75 rfl rfl ?_
            refine w_iconst hX dJ6_numberOfTrailingZeros_0f7a4_76 kI_1 ?_
            refine w_iushr hX dJ6_numberOfTrailingZeros_0f7a4_77 ?_
            refine w_top (y := nI (((((2 ^ x - 1) / 2 ^ 16) / 2 ^ 8) / 2 ^ 2) / 2 ^ 1)) (ush (by omega) (by omega)) ?_
            refine w_iaddN hX dJ6_numberOfTrailingZeros_0f7a4_78 ?_
            refine w_iret hX hE dJ6_numberOfTrailingZeros_0f7a4_79 (Or.inl rfl) rfl ⟨?_, rfl⟩
            congr 1
            clear hX hE hnm hp hp2
            have hxs : x = 1 ∨ x = 2 ∨ x = 3 ∨ x = 4 ∨ x = 5 ∨ x = 6 ∨ x = 7 ∨ x = 8 ∨ x = 9 ∨ x = 10 ∨ x = 11 ∨ x = 12 ∨ x = 13 ∨ x = 14 ∨ x = 15 ∨ x = 16 ∨ x = 17 ∨ x = 18 ∨ x = 19 ∨ x = 20 ∨ x = 21 ∨ x = 22 ∨ x = 23 ∨ x = 24 := by omega
            rcases hxs with rfl | rfl | rfl | rfl | rfl | rfl | rfl | rfl | rfl | rfl | rfl | rfl | rfl | rfl | rfl | rfl | rfl | rfl | rfl | rfl | rfl | rfl | rfl | rfl <;> first | rfl | (exfalso; simp only [Nat.reducePow, Nat.reduceSub, Nat.reduceDiv] at *; omega)
        · refine w_iincN (w := 4) (l2 := [some (.int (nI (((2 ^ x - 1) / 2 ^ 16) / 2 ^ 8))), some (.int (nI 29))]) hX dJ6_numberOfTrailingZeros_0f7a4_55 rfl kI_4 rfl rfl ?_
          refine w_iload_n (i := 0) hX dJ6_numberOfTrailingZeros_0f7a4_58 rfl rfl ?_
          refine w_iconst hX dJ6_numberOfTrailingZeros_0f7a4_59 kI_4 ?_
          refine w_iushr hX dJ6_numberOfTrailingZeros_0f7a4_60 ?_
          refine w_top (y := nI ((((2 ^ x - 1) / 2 ^ 16) / 2 ^ 8) / 2 ^ 4)) (ush (by omega) (by omega)) ?_
          refine w_istore_n (i := 0) (l2 := [some (.int (nI ((((2 ^ x - 1) / 2 ^ 16) / 2 ^ 8) / 2 ^ 4))), some (.int (nI 29))]) hX dJ6_numberOfTrailingZeros_0f7a4_61 rfl (ltb rfl) rfl rfl ?_
          refine w_iload_n (i := 0) hX dJ6_numberOfTrailingZeros_0f7a4_62 rfl rfl ?_
          refine w_iconst hX dJ6_numberOfTrailingZeros_0f7a4_63 kI_4 ?_
          refine wn_icmp_le (tgt := 74) hX dJ6_numberOfTrailingZeros_0f7a4_64 (by decide) (by omega) (by omega) (fun c16 => ?_) (fun c16 => ?_)
          · refine w_iload_n (i := 1) hX dJ6_numberOfTrailingZeros_0f7a4_74 rfl rfl ?_
            refine w_iload_n (i := 0) hX dJ6_numberOfTrailingZeros_0f7a4_75 rfl rfl ?_
            refine w_iconst hX dJ6_numberOfTrailingZeros_0f7a4_76 kI_1 ?_
            refine w_iushr hX dJ6_numberOfTrailingZeros_0f7a4_77 ?_
            refine w_top (y := nI (((((2 ^ x - 1) / 2 ^ 16) / 2 ^ 8) / 2 ^ 4) / 2 ^ 1)) (ush (by omega) (by omega)) ?_
            refine w_iaddN hX dJ6_numberOfTrailingZeros_0f7a4_78 ?_
            refine w_iret hX hE dJ6_numberOfTrailingZeros_0f7a4_79 (Or.inl rfl) rfl ⟨?_, rfl⟩
            congr 1
            clear hX hE hnm hp hp2
            have hxs : x = 1 ∨ x = 2 ∨ x = 3 ∨ x = 4 ∨ x = 5 ∨ x = 6 ∨ x = 7 ∨ x = 8 ∨ x = 9 ∨ x = 10 ∨ x = 11 ∨ x = 12 ∨ x = 13 ∨ x = 14 ∨ x = 15 ∨ x = 16 ∨ x = 17 ∨ x = 18 ∨ x = 19 ∨ x = 20 ∨ x = 21 ∨ x = 22 ∨ x = 23 ∨ x = 24 := by omega
            rcases hxs with rfl | rfl | rfl | rfl | rfl | rfl | rfl | rfl | rfl | rfl | rfl | rfl | rfl | rfl | rfl | rfl | rfl | rfl | rfl | rfl | rfl | rfl | rfl | rfl <;> first | rfl | (exfalso; simp only [Nat.reducePow, Nat.reduceSub, Nat.reduceDiv] at *; omega)
          · refine w_iincN (w := 2) (l2 := [some (.int (nI ((((2 ^ x - 1) / 2 ^ 16) / 2 ^ 8) / 2 ^ 4))), some (.int (nI 31))]) hX dJ6_numberOfTrailingZeros_0f7a4_67 rfl kI_2 rfl rfl ?_
            refine w_iload_n (i := 0) hX dJ6_numberOfTrailingZeros_0f7a4_70 rfl rfl ?_
            refine w_iconst hX dJ6_numberOfTrailingZeros_0f7a4_71 kI_2 ?_
            refine w_iushr hX dJ6_numberOfTrailingZeros_0f7a4_72 ?_
            refine w_top (y := nI (((((2 ^ x - 1) / 2 ^ 16) / 2 ^ 8) / 2 ^ 4) / 2 ^ 2)) (ush (by omega) (by omega)) ?_
            refine w_istore_n (i := 0) (l2 := [some (.int (nI (((((2 ^ x - 1) / 2 ^ 16) / 2 ^ 8) / 2 ^ 4) / 2 ^ 2))), some (.int (nI 31))]) hX dJ6_numberOfTrailingZeros_0f7a4_73 rfl (ltb rfl) rfl rfl ?_
            refine w_iload_n (i := 1) hX dJ6_numberOfTrailingZeros_0f7a4_74 rfl rfl ?_
            refine w_iload_n (i := 0) hX dJ6_numberOfTrailingZeros_0f7a4_75 rfl rfl ?_
            refine w_iconst hX dJ6_numberOfTrailingZeros_0f7a4_76 kI_1 ?_
            refine w_iushr hX dJ6_numberOfTrailingZeros_0f7a4_77 ?_
            refine w_top (y := nI ((((((2 ^ x - 1) / 2 ^ 16) / 2 ^ 8) / 2 ^ 4) / 2 ^ 2) / 2 ^ 1)) (ush (by omega) (by omega)) ?_
            refine w_iaddN hX dJ6_numberOfTrailingZeros_0f7a4_78 ?_
            refine w_iret hX hE dJ6_numberOfTrailingZeros_0f7a4_79 (Or.inl rfl) rfl ⟨?_, rfl⟩
            congr 1
            clear hX hE hnm hp hp2
            have hxs : x = 1 ∨ x = 2 ∨ x = 3 ∨ x = 4 ∨ x = 5 ∨ x = 6 ∨ x = 7 ∨ x = 8 ∨ x = 9 ∨ x = 10 ∨ x = 11 ∨ x = 12 ∨ x = 13 ∨ x = 14 ∨ x = 15 ∨ x = 16 ∨ x = 17 ∨ x = 18 ∨ x = 19 ∨ x = 20 ∨ x = 21 ∨ x = 22 ∨ x = 23 ∨ x = 24 := by omega
            rcases hxs with rfl | rfl | rfl | rfl | rfl | rfl | rfl | rfl | rfl | rfl | rfl | rfl | rfl | rfl | rfl | rfl | rfl | rfl | rfl | rfl | rfl | rfl | rfl | rfl <;> first | rfl | (exfalso; simp only [Nat.reducePow, Nat.reduceSub, Nat.reduceDiv] at *; omega)
  · refine w_iload_n (i := 0) hX dJ6_numberOfTrailingZeros_0f7a4_12 rfl rfl ?_
    refine w_bipush hX dJ6_numberOfTrailingZeros_0f7a4_13 kB_32 ?_
    refine w_iand hX dJ6_numberOfTrailingZeros_0f7a4_15 ?_
    omega
/-- the strokes left, of the first n -/
def crd (left : Nat → Bool) : Nat → Nat
  | 0 => 0
  | s + 1 => crd left s + if left (s + 1) = true then 1 else 0
/-- the run: of the class, with n rounds to go -/
def rOff (B : Nat → Nat) : Nat → Nat → Nat
  | 0, L => dr B (fun s => L.testBit s) 0 24
  | n + 1, L => if B 126 < 2 * vt B (fun s => L.testBit s) (B 126) (mst (vt B (fun s => L.testBit s) (B 126)) 23) then mst (vt B (fun s => L.testBit s) (B 126)) 23 else rOff B n (clr L (fwD (vt B (fun s => L.testBit s) (B 126)) (fun s => L.testBit s) 24))
theorem crd_le {left : Nat → Bool} : ∀ n, crd left n ≤ n := by
  intro n
  induction n with
  | zero => simp [crd]
  | succ n ih => simp only [crd]; split <;> omega
theorem crd_0 {left : Nat → Bool} : ∀ n, crd left n = 0 → ∀ s, 1 ≤ s → s ≤ n → left s = false := by
  intro n
  induction n with
  | zero => intro _ s h1 h2; omega
  | succ n ih =>
    intro h s h1 h2
    simp only [crd] at h
    by_cases hs : s = n + 1
    · subst hs
      cases hl : left (n + 1) with
      | false => rfl
      | true => rw [if_pos hl] at h; omega
    · exact ih (by omega) s h1 (by omega)
theorem crd_clr {left left' : Nat → Bool} {f : Nat} (hf : left f = true) (h : ∀ s, left' s = (left s && decide (s ≠ f))) (hf1 : 1 ≤ f) : ∀ n, crd left n = crd left' n + if f ≤ n then 1 else 0 := by
  intro n
  induction n with
  | zero => simp [crd]; omega
  | succ n ih =>
    simp only [crd]
    rw [ih, h (n + 1)]
    by_cases h1 : n + 1 = f
    · subst h1; simp [hf]
    · have h2 : (f ≤ n + 1) ↔ f ≤ n := by omega
      simp only [h1, ne_eq, not_false_eq_true, decide_true, Bool.and_true, h2]
      split <;> split <;> omega
theorem crd_1 {left : Nat → Bool} {x : Nat} (hx : left x = true) (hx1 : 1 ≤ x) (hx2 : x ≤ 24) (h : crd left 24 = 1) : ∀ s, 1 ≤ s → s ≤ 24 → left s = decide (s = x) := by
  intro s h1 h2
  have h3 := crd_clr (left := left) (left' := fun s => left s && decide (s ≠ x)) hx (fun _ => rfl) hx1 24
  rw [h, if_pos hx2] at h3
  have h4 := crd_0 24 (show crd (fun s => left s && decide (s ≠ x)) 24 = 0 by omega) s h1 h2
  by_cases h5 : s = x
  · rw [h5, hx]; simp
  · simp only [h5, ne_eq, not_false_eq_true, decide_true, Bool.and_true] at h4
    rw [h4]; simp [h5]
/-- the only stroke left is everyone's -/
theorem dr_one {B : Nat → Nat} {left : Nat → Bool} {x q : Nat} (hx1 : 1 ≤ x) (h : ∀ s, 1 ≤ s → s ≤ 24 → left s = decide (s = x)) : ∀ n, n ≤ 24 → dr B left q n = if x ≤ n then x else 0 := by
  intro n
  induction n with
  | zero => intro _; simp [dr]; omega
  | succ n ih =>
    intro hn
    simp only [dr]
    rw [h (n + 1) (by omega) hn, ih (by omega)]
    by_cases h1 : n + 1 = x
    · rw [if_neg (by omega : ¬ x ≤ n)]
      simp [h1]
    · have h2 : (x ≤ n + 1) ↔ x ≤ n := by omega
      simp [h1, h2]
theorem vt_one {B : Nat → Nat} {left : Nat → Bool} {x : Nat} (hx1 : 1 ≤ x) (hx2 : x ≤ 24) (h : ∀ s, 1 ≤ s → s ≤ 24 → left s = decide (s = x)) : ∀ k s, vt B left k s = if s = x then k else 0 := by
  intro k
  induction k with
  | zero => intro s; simp [vt]
  | succ k ih =>
    intro s
    simp only [vt]
    rw [ih s, dr_one hx1 h 24 (by omega), if_pos hx2]
    split <;> rfl
theorem mst_one {f : Nat → Nat} {x k : Nat} (hk : 0 < k) (hx1 : 1 ≤ x) (h : ∀ s, f s = if s = x then k else 0) : ∀ n, mst f n = if x ≤ n + 1 then x else 1 := by
  intro n
  induction n with
  | zero => simp [mst]; omega
  | succ n ih =>
    simp only [mst]
    rw [ih]
    by_cases h1 : x ≤ n + 1
    · rw [if_pos h1, if_pos (by omega : x ≤ n + 1 + 1), h x, h (n + 2), if_pos rfl, if_neg (by omega : ¬ n + 2 = x), if_neg (by omega)]
    · rw [if_neg h1, h 1, h (n + 2), if_neg (by omega : ¬ 1 = x)]
      by_cases h2 : n + 2 = x
      · rw [if_pos h2, if_pos hk, if_pos (by omega)]; exact h2
      · rw [if_neg h2, if_neg (by omega), if_neg (by omega)]
def okL (L n : Nat) : Prop := L < 2 ^ 31 ∧ (∀ s, L.testBit s = true → 1 ≤ s ∧ s ≤ 24) ∧ crd (fun s => L.testBit s) 24 = n
theorem okL_bit {L : Nat} (h : okL L 1) : ∃ x, 1 ≤ x ∧ x ≤ 24 ∧ L = 2 ^ x := by
  obtain ⟨h1, h2, h3⟩ := h
  have h4 : ∃ x, 1 ≤ x ∧ x ≤ 24 ∧ L.testBit x = true := by
    refine Classical.byContradiction fun hn => ?_
    have h5 : ∀ n, n ≤ 24 → crd (fun s => L.testBit s) n = 0 := by
      intro n
      induction n with
      | zero => intro _; rfl
      | succ n ih =>
        intro hn9
        simp only [crd]
        rw [ih (by omega), if_neg (fun h9 => hn ⟨n + 1, by omega, hn9, h9⟩)]
    have := h5 24 (by omega)
    omega
  obtain ⟨x, x1, x2, x3⟩ := h4
  refine ⟨x, x1, x2, ?_⟩
  have h6 := crd_1 (left := fun s => L.testBit s) x3 x1 x2 h3
  apply Nat.eq_of_testBit_eq
  intro s
  rw [Nat.testBit_two_pow]
  by_cases hs : L.testBit s = true
  · obtain ⟨s1, s2⟩ := h2 s hs
    rw [h6 s s1 s2]
    by_cases e : s = x
    · simp [e]
    · have e2 : ¬ x = s := fun q => e q.symm
      simp [e, e2]
  · have e : ¬ x = s := fun q => hs (by rw [← q]; exact x3)
    simp [hs, e]
theorem okL_clr {L n : Nat} {f : Nat → Nat} (h : okL L (n + 1)) : okL (clr L (fwD f (fun s => L.testBit s) 24)) n := by
  obtain ⟨h1, h2, h3⟩ := h
  have hs := fwD_spec (f := f) (left := fun s => L.testBit s) 24 (by omega)
  have hne : fwD f (fun s => L.testBit s) 24 ≠ 0 := by
    intro h0
    have h9 := hs.1 h0
    have h5 : ∀ n, n ≤ 24 → crd (fun s => L.testBit s) n = 0 := by
      intro n
      induction n with
      | zero => intro _; rfl
      | succ n ih =>
        intro hn9
        simp only [crd]
        rw [ih (by omega), if_neg (by rw [h9 (n + 1) (by omega) hn9]; decide)]
    have := h5 24 (by omega)
    omega
  have hl := (hs.2 hne).1
  have hb := fwD_le (f := f) (left := fun s => L.testBit s) 24 (by omega)
  refine ⟨clr_lt h1, fun s hs9 => ?_, ?_⟩
  · rw [clr_tb, Bool.and_eq_true] at hs9
    exact h2 s hs9.1
  · have h4 := crd_clr (left := fun s => L.testBit s) (left' := fun s => (clr L (fwD f (fun s => L.testBit s) 24)).testBit s) hl (fun s => clr_tb) (by omega) 24
    rw [h3, if_pos hb.1] at h4
    omega
theorem ok0 : ∀ s, (33554430 : Nat).testBit s = true → 1 ≤ s ∧ s ≤ 24 := by
  intro s h
  by_cases h1 : s < 25
  · have h2 : ∀ s, s < 25 → (33554430 : Nat).testBit s = true → 1 ≤ s ∧ s ≤ 24 := by decide
    exact h2 s h1 h
  · rw [Nat.testBit_lt_two_pow (Nat.lt_of_lt_of_le (by decide : 33554430 < 2 ^ 25) (Nat.pow_le_pow_right (by omega) (by omega)))] at h
    cases h
set_option maxHeartbeats 1000000 in
theorem s_runOff (Γ : Gm) (μ : Mem) (v b : Nat) (B : Nat → Nat) (hv : isVt μ v) (hvb : v + 1 < b) (hR : Rb μ b B) (hW : WB B) (hP1 : 1 ≤ B 126)  : SpI Γ MX6_runOff 3 0 0 [.ref v, .ref b] μ (fun r μ2 => r = nI (rOff B 23 33554430) ∧ same (fun o _ => o = v + 1) μ μ2) := by
  refine SpI.of okX6_runOff rfl [some (.ref v), some (.ref b), none, none, none] ⟨rfl, rfl, trivial⟩ (leb rfl) (leb rfl) (fun X hX hE hnm => ?_)
  refine w_ldc hX dX6_runOff_0 ki_RX6_15 ?_
  refine w_top (y := nI 33554430) rfl ?_
  refine w_istore_n (i := 2) (l2 := [some (.ref v), some (.ref b), some (.int (nI 33554430)), none, none]) hX dX6_runOff_2 rfl (ltb rfl) rfl rfl ?_
  refine w_iconst hX dX6_runOff_3 kI_1 ?_
  refine w_istore_n (i := 3) (l2 := [some (.ref v), some (.ref b), some (.int (nI 33554430)), some (.int (nI 1)), none]) hX dX6_runOff_4 rfl (ltb rfl) rfl rfl ?_
  have loop : ∀ k, k ≤ 23 → ∀ (L : Nat) (ν : Mem), same (fun o _ => o = v + 1) μ ν → okL L (24 - k) → rOff B 23 33554430 = rOff B (23 - k) L → WP Γ X 0 0 5 [some (.ref v), some (.ref b), some (.int (nI L)), some (.int (nI (k + 1))), none] [] ν := by
    refine loopU 23 ?_
    intro k hk ih L ν hsm hok hv9
    have hRk := Rb_same hsm (fun o k h => Or.inl (by omega)) hR
    have hP := hW.2.2.2.1.1
    refine w_iload_n (i := 3) hX dX6_runOff_5 rfl rfl ?_
    refine w_bipush hX dX6_runOff_6 kB_24 ?_
    refine wn_icmp_ge (tgt := 60) hX dX6_runOff_8 (by decide) (by omega) (by omega) (fun c1 => ?_) (fun c1 => ?_)
    · have hk23 : k = 23 := by omega
      obtain ⟨x9, hx1, hx2, hxL⟩ := okL_bit (by rw [hk23] at hok; exact hok : okL L 1)
      refine w_iload_n (i := 2) hX dX6_runOff_60 rfl rfl ?_
      refine w_top (y := nI (2 ^ x9)) (by rw [hxL]) ?_
      refine w_callSI (As := [.int (nI (2 ^ x9))]) (rest := []) (k2 := 0) (n2 := 0) hX dX6_runOff_61 (s_ctz Γ ν x9 hx1 hx2) okJ6_numberOfTrailingZeros_0f7a4 ml_RX6_73 stJ6_numberOfTrailingZeros_0f7a4 rfl (leb rfl) (leb rfl) rfl rfl (fun r9 μ9 hq9 => ?_)
      obtain ⟨hr9, hm9⟩ := hq9; rw [hr9, hm9]; clear hr9 hm9 r9 μ9
      refine w_iret hX hE dX6_runOff_64 (Or.inl rfl) rfl ⟨?_, hsm⟩
      rw [hv9, show 23 - k = 0 by omega]; simp only [rOff]
      have h7 : ∀ s, 1 ≤ s → s ≤ 24 → L.testBit s = decide (s = x9) := fun s h1 h2 => by rw [hxL, Nat.testBit_two_pow]; by_cases e : s = x9; simp [e]; simp [e, show ¬ x9 = s from fun q => e q.symm]
      rw [dr_one hx1 h7 24 (by omega), if_pos hx2]
    · refine w_aload_n (i := 0) hX dX6_runOff_11 rfl rfl ?_
      refine w_aload_n (i := 1) hX dX6_runOff_12 rfl rfl ?_
      refine w_iload_n (i := 2) hX dX6_runOff_13 rfl rfl ?_
      refine w_callVV (As := [.ref b, .int (nI L)]) (rest := []) (ci := 6) (o := v) (k2 := 0) (n2 := 0) hX dX6_runOff_14 (s_castVotes Γ ν v b B (hsm.isVt hv) hvb hRk hW L hok.1) okX6_castVotes (ltb rfl) (vt_s (hsm.isVt hv)) ml_RX6_16 imX6_castVotes seX6_castVotes rfl (leb rfl) (leb rfl) rfl rfl (fun νc hq9 => ?_)
      obtain ⟨hcs, hcp⟩ := hq9
      have hsc := hsm.tr hcs
      have hRc := Rb_same hsc (fun o k h => Or.inl (by omega)) hR
      have hvl : ∀ s, vt B (fun s => L.testBit s) (B 126) s ≤ 9 := fun s => Nat.le_trans (vt_le _) hP
      have hml := mst_le (v := vt B (fun s => L.testBit s) (B 126)) 23
      refine w_aload_n (i := 0) hX dX6_runOff_17 rfl rfl ?_
      refine w_callVI (As := []) (rest := []) (ci := 6) (o := v) (k2 := 0) (n2 := 0) hX dX6_runOff_18 (s_mostPoints Γ νc v (hsc.isVt hv) (vt B (fun s => L.testBit s) (B 126)) (fun s h1 h2 => hcp s h2) (fun s h => by have := hvl s; omega)) okX6_mostPoints (ltb rfl) (vt_s (hsc.isVt hv)) ml_RX6_20 imX6_mostPoints seX6_mostPoints rfl (leb rfl) (leb rfl) rfl rfl (fun r9 μ9 hq9 => ?_)
      obtain ⟨hr9, hm9⟩ := hq9; rw [hr9, hm9]; clear hr9 hm9 r9 μ9
      refine w_istore (l2 := [some (.ref v), some (.ref b), some (.int (nI L)), some (.int (nI (k + 1))), some (.int (nI (mst (vt B (fun s => L.testBit s) (B 126)) 23)))]) hX dX6_runOff_21 (ltb rfl) rfl rfl ?_
      refine w_iconst hX dX6_runOff_23 kI_2 ?_
      refine w_aload_n (i := 0) hX dX6_runOff_24 rfl rfl ?_
      refine w_getR (q := v + 1) hX dX6_runOff_25 fo_RX6_9 rfl (vt_s (hsc.isVt hv)) (vt_r0 (hsc.isVt hv)) ?_
      refine w_iload hX dX6_runOff_28 rfl ?_
      refine w_ialdN hX dX6_runOff_30 (vt_a1 (hsc.isVt hv)) (by omega) (by omega) ?_
      refine w_top (y := nI (vt B (fun s => L.testBit s) (B 126) (mst (vt B (fun s => L.testBit s) (B 126)) 23))) (hcp _ (by omega)) ?_
      refine w_imulN hX dX6_runOff_31 ?_
      refine w_aload_n (i := 1) hX dX6_runOff_32 rfl rfl ?_
      refine w_getI hX dX6_runOff_33 fo_RX6_47 rfl (bk_s hRc.1) ?_
      refine w_top (y := nI (B 126)) hRc.2.2.2.2.2.2.2.1 ?_
      refine wn_icmp_le (tgt := 42) hX dX6_runOff_36 (by decide) (by have := hvl (mst (vt B (fun s => L.testBit s) (B 126)) 23); omega) (by have := hvl (mst (vt B (fun s => L.testBit s) (B 126)) 23); omega) (fun c2 => ?_) (fun c2 => ?_)
      · refine w_iload_n (i := 2) hX dX6_runOff_42 rfl rfl ?_
        refine w_iconst hX dX6_runOff_43 kI_1 ?_
        refine w_aload_n (i := 0) hX dX6_runOff_44 rfl rfl ?_
        refine w_iload_n (i := 2) hX dX6_runOff_45 rfl rfl ?_
        refine w_callVI (As := [.int (nI L)]) (rest := [.int (nI 1), .int (nI L)]) (ci := 6) (o := v) (k2 := 0) (n2 := 0) hX dX6_runOff_46 (s_fewest Γ νc v (hsc.isVt hv) (vt B (fun s => L.testBit s) (B 126)) (fun s h1 h2 => hcp s h2) (fun s h => by have := hvl s; omega) L hok.1) okX6_fewestPoints (ltb rfl) (vt_s (hsc.isVt hv)) ml_RX6_69 imX6_fewestPoints seX6_fewestPoints rfl (leb rfl) (leb rfl) rfl rfl (fun r9 μ9 hq9 => ?_)
        obtain ⟨hr9, hm9⟩ := hq9; rw [hr9, hm9]; clear hr9 hm9 r9 μ9
        refine w_ishl hX dX6_runOff_49 ?_
        refine w_iconst hX dX6_runOff_50 kI_m1 ?_
        refine w_ixor hX dX6_runOff_51 ?_
        refine w_iand hX dX6_runOff_52 ?_
        refine w_top (y := nI (clr L (fwD (vt B (fun s => L.testBit s) (B 126)) (fun s => L.testBit s) 24))) (clr_nI hok.1 (by have := fwD_le (f := vt B (fun s => L.testBit s) (B 126)) (left := (fun s => L.testBit s)) 24 (by omega); omega)) ?_
        refine w_istore_n (i := 2) (l2 := [some (.ref v), some (.ref b), some (.int (nI (clr L (fwD (vt B (fun s => L.testBit s) (B 126)) (fun s => L.testBit s) 24)))), some (.int (nI (k + 1))), some (.int (nI (mst (vt B (fun s => L.testBit s) (B 126)) 23)))]) hX dX6_runOff_53 rfl (ltb rfl) rfl rfl ?_
        refine w_iincN (w := 1) (l2 := [some (.ref v), some (.ref b), some (.int (nI (clr L (fwD (vt B (fun s => L.testBit s) (B 126)) (fun s => L.testBit s) 24)))), some (.int (nI (k + 1 + 1))), some (.int (nI (mst (vt B (fun s => L.testBit s) (B 126)) 23)))]) hX dX6_runOff_54 rfl kI_1 rfl rfl ?_
        refine w_goto (tgt := 5) hX dX6_runOff_57 (by decide) ?_
        refine w_sub (l2 := [some (.ref v), some (.ref b), some (.int (nI (clr L (fwD (vt B (fun s => L.testBit s) (B 126)) (fun s => L.testBit s) 24)))), some (.int (nI (k + 1 + 1))), none]) (by simp [lsub]) (leb rfl) ?_
        exact ih (by omega) _ νc hsc (by rw [show 24 - (k + 1) = 23 - k by omega]; exact okL_clr (by rw [show 23 - k + 1 = 24 - k by omega]; exact hok)) (by rw [hv9, show 23 - k = (23 - (k + 1)) + 1 by omega]; simp only [rOff]; rw [if_neg (by omega)])
      · refine w_iload hX dX6_runOff_39 rfl ?_
        exact w_iret hX hE dX6_runOff_41 (Or.inl rfl) rfl ⟨by rw [hv9, show 23 - k = (23 - (k + 1)) + 1 by omega]; simp only [rOff]; rw [if_pos (by omega)], hsc⟩
  exact loop 0 (Nat.zero_le _) _ μ same.rf ⟨by omega, ok0, by decide⟩ rfl
