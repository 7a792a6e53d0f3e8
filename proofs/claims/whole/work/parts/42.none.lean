/-- puttings back by a minute: those ahead of it have their hours -/
theorem bk_lo {B : Nat → Nat} (hW : WBt B) {t c : Nat} (ht : t < 3) : (∀ j, j < bk B t c → mS B t j + 60 * j ≤ c) ∧ (bk B t c < nB B t → c < mS B t (bk B t c) + 60 * bk B t c) ∧ bk B t c ≤ nB B t := by
  have h := bks_mBk (c := c) hW ht
  obtain ⟨a, b, -⟩ := bks_spec (f := mS B t) (c := c) (nB B t) 0
  have hle := bks_le (f := mS B t) (t := c) (nB B t) 0
  rw [h] at a b hle
  exact ⟨fun j hj => a j (Nat.zero_le _) hj, fun h1 => b (by unfold bk at h1; omega), by unfold bk; omega⟩
theorem fi_lo {B : Nat → Nat} (hW : WBt B) {t c : Nat} (ht : t < 3) : (∀ j, j < fi B t c → mS B t j ≤ c) ∧ (fi B t c < nB B t → c < mS B t (fi B t c)) ∧ fi B t c ≤ nB B t := by
  have h := upTo_mFi (c := c) hW ht
  obtain ⟨a, b, -⟩ := upTo_spec (f := mS B t) (c := c) (nB B t) 0
  have hle := upTo_le (f := mS B t) (t := c) (nB B t) 0
  rw [h] at a b hle
  exact ⟨fun j hj => a j (Nat.zero_le _) hj, fun h1 => b (by unfold fi at h1; omega), by unfold fi; omega⟩
theorem mS_i {B : Nat → Nat} (hW : WBt B) {t i j : Nat} (ht : t < 3) (hij : i ≤ j) (hj : j < nB B t) : mS B t i + 60 * (j - i) ≤ mS B t j := by
  rcases Nat.lt_or_ge i j with h | h
  · exact gap_lt (mS_gap hW ht) h hj
  · have : i = j := by omega
    subst this; omega
theorem bk60 {B : Nat → Nat} (hW : WBt B) {t c : Nat} (ht : t < 3) : 60 * bk B t c ≤ c := by
  obtain ⟨a, -, b⟩ := bk_lo (c := c) hW ht
  rcases Nat.eq_zero_or_pos (bk B t c) with h | h
  · omega
  · have h1 := a (bk B t c - 1) (by omega)
    have h2 := (mS_rng hW ht (show bk B t c - 1 < nB B t by omega)).1
    omega
/-- the condition of a deed that took no time, or less -/
def dn (B : Nat → Nat) (t c l : Nat) : Prop := fst B t c + l - 60 * bk B t (fst B t c + l) ≤ c
theorem dn_iff {B : Nat → Nat} (hW : WBt B) {t c l : Nat} (ht : t < 3) (hl : 1 ≤ l) : dn B t c l ↔ l ≤ 60 ∧ ∃ j, j < nB B t ∧ c < mS B t j ∧ mS B t j ≤ c + l := by
  obtain ⟨f1, f2, f3⟩ := fi_lo (c := c) hW ht
  have h60 := bk60 (c := fst B t c + l) hW ht
  obtain ⟨b1, b2, b3⟩ := bk_lo (c := fst B t c + l) hW ht
  unfold dn
  have hfst : fst B t c = c + 60 * fi B t c := rfl
  have huv : fi B t c ≤ bk B t (fst B t c + l) := by
    rcases Nat.lt_or_ge (bk B t (fst B t c + l)) (fi B t c) with h | h
    · have := f1 _ h
      have := b2 (by omega)
      omega
    · exact h
  constructor
  · intro h
    have hlt : fi B t c < bk B t (fst B t c + l) := by omega
    have h1 := b1 (bk B t (fst B t c + l) - 1) (by omega)
    have h2 := mS_i hW ht (show fi B t c ≤ bk B t (fst B t c + l) - 1 by omega) (by omega)
    have h3 := f2 (by omega)
    have h4 := b1 (fi B t c) (by omega)
    exact ⟨by omega, fi B t c, by omega, h3, by omega⟩
  · rintro ⟨hl60, j, hj, j1, j2⟩
    have hvj : fi B t c ≤ j := by
      rcases Nat.lt_or_ge j (fi B t c) with h | h
      · have := f1 j h; omega
      · exact h
    have h2 := mS_i hW ht hvj hj
    have h3 := f2 (by omega)
    have hlt : fi B t c < bk B t (fst B t c + l) := by
      rcases Nat.lt_or_ge (fi B t c) (bk B t (fst B t c + l)) with h | h
      · exact h
      · have he : bk B t (fst B t c + l) = fi B t c := by omega
        have := b2 (by omega)
        rw [he] at this
        omega
    omega
/-- how many minutes of the day, up to k -/
def cntD (B : Nat → Nat) (t d l : Nat) : Nat → Nat
  | 0 => 0
  | k + 1 => cntD B t d l k + if fst B t (1440 * d + k) + l - 60 * bk B t (fst B t (1440 * d + k) + l) ≤ 1440 * d + k then 1 else 0
theorem cntD_le {B : Nat → Nat} {t d l : Nat} : ∀ k, cntD B t d l k ≤ k := by
  intro k
  induction k with
  | zero => simp [cntD]
  | succ k ih => simp only [cntD]; split <;> omega
theorem cntD_all {B : Nat → Nat} {t d l : Nat} : ∀ n, (∀ k, k < n → dn B t (1440 * d + k) l) → cntD B t d l n = n := by
  intro n
  induction n with
  | zero => intro _; rfl
  | succ n ih =>
    intro h
    simp only [cntD]
    have h9 := h n (by omega)
    unfold dn at h9
    rw [ih (fun k hk => h k (by omega)), if_pos h9]
theorem cntD_none {B : Nat → Nat} {t d l : Nat} : ∀ n, (∀ k, k < n → ¬ dn B t (1440 * d + k) l) → cntD B t d l n = 0 := by
  intro n
  induction n with
  | zero => intro _; rfl
  | succ n ih =>
    intro h
    simp only [cntD]
    have h9 := h n (by omega)
    unfold dn at h9
    rw [ih (fun k hk => h k (by omega)), if_neg h9]
theorem cntD_iv {B : Nat → Nat} {t d l a : Nat} : ∀ n, (∀ k, k < n → (dn B t (1440 * d + k) l ↔ a ≤ k ∧ k < a + l)) → cntD B t d l n = if n ≤ a then 0 else if n ≤ a + l then n - a else l := by
  intro n
  induction n with
  | zero => intro _; simp [cntD]
  | succ n ih =>
    intro h
    simp only [cntD]
    rw [ih (fun k hk => h k (by omega))]
    have hn := h n (by omega)
    unfold dn at hn
    by_cases hc : a ≤ n ∧ n < a + l
    · rw [if_pos (hn.mpr hc)]
      repeat' split
      all_goals omega
    · rw [if_neg (fun e => hc (hn.mp e))]
      repeat' split
      all_goals omega
theorem day_of {B : Nat → Nat} (hW : WBt B) {t j : Nat} (ht : t < 3) (hj : j < nB B t) : (mS B t j - 1) / 1440 = B (1 + 25 * t + 1 + 2 * j) := by
  have := (hW.2 t ht).2.1 j hj
  unfold mS
  omega
theorem cntD_eq {B : Nat → Nat} (hW : WBt B) {t d l : Nat} (ht : t < 3) : cntD B t d l 1440 = noneN B t d l := by
  unfold noneN
  by_cases hl0 : l = 0
  · rw [if_pos hl0]
    apply cntD_all
    intro k _
    subst hl0
    obtain ⟨f1, f2, f3⟩ := fi_lo (c := 1440 * d + k) hW ht
    obtain ⟨b1, b2, b3⟩ := bk_lo (c := fst B t (1440 * d + k)) hW ht
    unfold dn
    have hfst : fst B t (1440 * d + k) = 1440 * d + k + 60 * fi B t (1440 * d + k) := rfl
    rw [Nat.add_zero]
    have huv : fi B t (1440 * d + k) ≤ bk B t (fst B t (1440 * d + k)) := by
      rcases Nat.lt_or_ge (bk B t (fst B t (1440 * d + k))) (fi B t (1440 * d + k)) with h | h
      · have := f1 _ h
        have := b2 (by omega)
        omega
      · exact h
    omega
  · rw [if_neg hl0]
    have key : ∀ k, dn B t (1440 * d + k) l ↔ l ≤ 60 ∧ ∃ j, j < nB B t ∧ 1440 * d + k < mS B t j ∧ mS B t j ≤ 1440 * d + k + l := fun k => dn_iff hW ht (by omega)
    by_cases hc : l ≤ 60 ∧ fnd (mS B t) d (nB B t) 0 ≠ none
    · rw [if_pos hc]
      cases hf : fnd (mS B t) d (nB B t) 0 with
      | none => exact absurd hf hc.2
      | some v =>
        obtain ⟨j, -, hj, hjv, hjd⟩ := fnd_some _ _ _ hf
        have hj' : j < nB B t := by omega
        have hr := (hW.2 t ht).2.1 j hj'
        have hd := day_of hW ht hj'
        have hS : mS B t j = 1440 * B (1 + 25 * t + 1 + 2 * j) + 60 * B (1 + 25 * t + 2 + 2 * j) := rfl
        rw [cntD_iv (a := mS B t j - l - 1440 * d) 1440]
        · repeat' split
          all_goals omega
        · intro k hk
          rw [key k]
          constructor
          · rintro ⟨-, i, hi, i1, i2⟩
            have hir := (hW.2 t ht).2.1 i hi
            have hiS : mS B t i = 1440 * B (1 + 25 * t + 1 + 2 * i) + 60 * B (1 + 25 * t + 2 + 2 * i) := rfl
            have hij : i = j := by
              rcases Nat.lt_or_ge i j with h | h
              · have := gap_lt (mS_gap hW ht) h hj'
                have h9 : B (1 + 25 * t + 1 + 2 * i) < B (1 + 25 * t + 1 + 2 * j) := by
                  have hmono : ∀ e, i + e < nB B t → 0 < e → B (1 + 25 * t + 1 + 2 * i) < B (1 + 25 * t + 1 + 2 * (i + e)) := by
                    intro e
                    induction e with
                    | zero => intro _ h0; omega
                    | succ e ih =>
                      intro he _
                      have h1 := (hW.2 t ht).2.2 (i + e) he
                      rcases Nat.eq_zero_or_pos e with h0 | h0
                      · subst h0; exact h1
                      · have := ih (by omega) h0
                        rw [show i + (e + 1) = i + e + 1 by omega]
                        omega
                  have := hmono (j - i) (by omega) (by omega)
                  rwa [show i + (j - i) = j by omega] at this
                omega
              · rcases Nat.lt_or_ge j i with h2 | h2
                · have h9 : B (1 + 25 * t + 1 + 2 * j) < B (1 + 25 * t + 1 + 2 * i) := by
                    have hmono : ∀ e, j + e < nB B t → 0 < e → B (1 + 25 * t + 1 + 2 * j) < B (1 + 25 * t + 1 + 2 * (j + e)) := by
                      intro e
                      induction e with
                      | zero => intro _ h0; omega
                      | succ e ih =>
                        intro he _
                        have h1 := (hW.2 t ht).2.2 (j + e) he
                        rcases Nat.eq_zero_or_pos e with h0 | h0
                        · subst h0; exact h1
                        · have := ih (by omega) h0
                          rw [show j + (e + 1) = j + e + 1 by omega]
                          omega
                    have := hmono (i - j) (by omega) (by omega)
                    rwa [show j + (i - j) = i by omega] at this
                  omega
                · omega
            subst hij
            omega
          · rintro ⟨k1, k2⟩
            exact ⟨hc.1, j, hj', by omega, by omega⟩
    · rw [if_neg hc]
      apply cntD_none
      intro k hk
      rw [key k]
      rintro ⟨hl6, j, hj, j1, j2⟩
      apply hc
      refine ⟨hl6, fun hf => ?_⟩
      have h1 := fnd_none _ _ hf j (Nat.zero_le _) (by omega)
      rw [day_of hW ht hj] at h1
      have hr := (hW.2 t ht).2.1 j hj
      have hS : mS B t j = 1440 * B (1 + 25 * t + 1 + 2 * j) + 60 * B (1 + 25 * t + 2 + 2 * j) := rfl
      omega
set_option maxHeartbeats 1000000 in
theorem s_m_none (Γ : Gm) (μ : Mem) (m : Nat) (B : Nat → Nat) (hm : HM μ m B) (t d l : Int32) : SpI Γ MX9_none 5 0 0 [.ref m, .int t, .int d, .int l] μ (fun r μ2 => r = A_none B t d l ∧ μ2 = sI μ m 0 (nI 0)) := by
  refine SpI.of okX9_none rfl [some (.ref m), some (.int t), some (.int d), some (.int l), none, none, none] ⟨rfl, rfl, rfl, rfl, trivial⟩ (leb rfl) (leb rfl) (fun X hX hE hnm => ?_)
  refine w_aload_n (i := 0) hX dX9_none_0 rfl rfl ?_
  refine w_iconst hX dX9_none_1 kI_0 ?_
  refine w_putI hX dX9_none_2 fo_RX9_1 rfl rfl rfl rfl (mod_s hm.1.1) ?_
  refine w_aload_n (i := 0) hX dX9_none_5 rfl rfl ?_
  refine w_iload_n (i := 1) hX dX9_none_6 rfl rfl ?_
  refine w_callVI (As := [.int t]) (rest := []) (ci := 9) (o := m) (k2 := 0) (n2 := 0) hX dX9_none_7 (s_m_isTown Γ (sI μ m 0 (nI 0)) m B (hm.f (by omega)) t) okX9_isTown (ltb rfl) (mod_s hm.1.1) ml_RX9_267 imX9_isTown seX9_isTown rfl (leb rfl) (leb rfl) rfl rfl (fun r9 μ9 hq9 => ?_)
  obtain ⟨hr9, hm9⟩ := hq9; rw [hr9, hm9]; clear hr9 hm9 r9 μ9
  refine wb_eq (tgt := 35) hX dX9_none_10 (by decide) (fun hT => ?_) (fun hT => ?_)
  · refine w_iconst hX dX9_none_35 kI_m1 ?_
    exact w_iret hX hE dX9_none_36 (Or.inl rfl) rfl ⟨by simp [A_none, *], rfl⟩
  · refine w_iload_n (i := 2) hX dX9_none_13 rfl rfl ?_
    refine w_iconst hX dX9_none_14 kI_0 ?_
    refine w_sipush hX dX9_none_15 kS_3649 ?_
    refine w_callSI (As := [.int d, .int (nI 0), .int (nI 3649)]) (rest := []) (k2 := 0) (n2 := 0) hX dX9_none_18 (s_m_isIn Γ (sI μ m 0 (nI 0)) d (nI 0) (nI 3649)) okX9_isIn ml_RX9_262 stX9_isIn rfl (leb rfl) (leb rfl) rfl rfl (fun r9 μ9 hq9 => ?_)
    obtain ⟨hr9, hm9⟩ := hq9; rw [hr9, hm9]; clear hr9 hm9 r9 μ9
    refine wb_eq (tgt := 35) hX dX9_none_21 (by decide) (fun hd9 => ?_) (fun hd9 => ?_)
    · refine w_iconst hX dX9_none_35 kI_m1 ?_
      exact w_iret hX hE dX9_none_36 (Or.inl rfl) rfl ⟨by simp [A_none, *], rfl⟩
    · refine w_iload_n (i := 3) hX dX9_none_24 rfl rfl ?_
      refine w_iconst hX dX9_none_25 kI_0 ?_
      refine w_sipush hX dX9_none_26 kS_9999 ?_
      refine w_callSI (As := [.int l, .int (nI 0), .int (nI 9999)]) (rest := []) (k2 := 0) (n2 := 0) hX dX9_none_29 (s_m_isIn Γ (sI μ m 0 (nI 0)) l (nI 0) (nI 9999)) okX9_isIn ml_RX9_262 stX9_isIn rfl (leb rfl) (leb rfl) rfl rfl (fun r9 μ9 hq9 => ?_)
      obtain ⟨hr9, hm9⟩ := hq9; rw [hr9, hm9]; clear hr9 hm9 r9 μ9
      refine wb_ne (tgt := 37) hX dX9_none_32 (by decide) (fun hL => ?_) (fun hL => ?_)
      · have hdb := (inR_nI (by omega) hd9).2; have hlb := (inR_nI (by omega) hL).2; have htb := (isT_nI hm.2.2.1 hT).2; have ht3 := hm.2.2.1
        have loop : ∀ k, k ≤ 1440 → WP Γ X 0 0 43 [some (.ref m), some (.int t), some (.int d), some (.int l), some (.int (nI (cntD B (tN t) (tN d) (tN l) k))), some (.int (nI k)), none] [] (sI μ m 0 (nI 0)) := by
          refine loopU 1440 ?_
          intro k hk ih
          have hfb := fst_le (c := 1440 * tN d + k) hm.2.2 (show tN t < 3 by omega)
          refine w_iload hX dX9_none_43 rfl ?_
          refine w_sipush hX dX9_none_45 kS_1440 ?_
          refine wn_icmp_ge (tgt := 96) hX dX9_none_48 (by decide) (by have := cntD_le (B := B) (t := tN t) (d := tN d) (l := tN l) k; omega) (by have := cntD_le (B := B) (t := tN t) (d := tN d) (l := tN l) k; omega) (fun c4 => ?_) (fun c4 => ?_)
          · refine w_iload hX dX9_none_96 rfl ?_
            exact w_iret hX hE dX9_none_98 (Or.inl rfl) rfl ⟨by unfold A_none; rw [if_pos (by simp [hT, hd9, hL]), show k = 1440 by omega, cntD_eq hm.2.2 (by omega)], rfl⟩
          · refine w_sipush hX dX9_none_51 kS_1440 ?_
            refine w_iload_n (i := 2) hX dX9_none_54 rfl rfl ?_
            refine w_top (y := nI (tN d)) (inR_nI (by omega) hd9).1 ?_
            refine w_imulN hX dX9_none_55 ?_
            refine w_iload hX dX9_none_56 rfl ?_
            refine w_iaddN hX dX9_none_58 ?_
            refine w_istore (l2 := [some (.ref m), some (.int t), some (.int d), some (.int l), some (.int (nI (cntD B (tN t) (tN d) (tN l) k))), some (.int (nI k)), some (.int (nI (1440 * (tN d) + k)))]) hX dX9_none_59 (ltb rfl) rfl rfl ?_
            refine w_iload hX dX9_none_61 rfl ?_
            refine w_aload_n (i := 0) hX dX9_none_63 rfl rfl ?_
            refine w_iload_n (i := 1) hX dX9_none_64 rfl rfl ?_
            refine w_top (y := nI (tN t)) (isT_nI hm.2.2.1 hT).1 ?_
            refine w_aload_n (i := 0) hX dX9_none_65 rfl rfl ?_
            refine w_iload_n (i := 1) hX dX9_none_66 rfl rfl ?_
            refine w_top (y := nI (tN t)) (isT_nI hm.2.2.1 hT).1 ?_
            refine w_iload hX dX9_none_67 rfl ?_
            refine w_callVI (As := [.int (nI (tN t)), .int (nI (1440 * (tN d) + k))]) (rest := [.int (nI (tN t)), .ref m, .int (nI (cntD B (tN t) (tN d) (tN l) k))]) (ci := 9) (o := m) (k2 := 0) (n2 := 0) hX dX9_none_69 (s_n_firstOf Γ (sI μ m 0 (nI 0)) m B (hm.f (by omega)) (tN t) (1440 * (tN d) + k) (by omega) (by omega)) okX9_firstOf (ltb rfl) (mod_s hm.1.1) ml_RX9_256 imX9_firstOf seX9_firstOf rfl (leb rfl) (leb rfl) rfl rfl (fun r9 μ9 hq9 => ?_)
            obtain ⟨hr9, hm9⟩ := hq9; rw [hr9, hm9]; clear hr9 hm9 r9 μ9
            refine w_iload_n (i := 3) hX dX9_none_72 rfl rfl ?_
            refine w_top (y := nI (tN l)) (inR_nI (by omega) hL).1 ?_
            refine w_iaddN hX dX9_none_73 ?_
            refine w_callVI (As := [.int (nI (tN t)), .int (nI (fst B (tN t) (1440 * (tN d) + k) + (tN l)))]) (rest := [.int (nI (cntD B (tN t) (tN d) (tN l) k))]) (ci := 9) (o := m) (k2 := 0) (n2 := 0) hX dX9_none_74 (s_n_shownAt Γ (sI μ m 0 (nI 0)) m B (hm.f (by omega)) (tN t) (fst B (tN t) (1440 * (tN d) + k) + (tN l)) (by omega) (by omega)) okX9_shownAt (ltb rfl) (mod_s hm.1.1) ml_RX9_273 imX9_shownAt seX9_shownAt rfl (leb rfl) (leb rfl) rfl rfl (fun r9 μ9 hq9 => ?_)
            obtain ⟨hr9, hm9⟩ := hq9; rw [hr9, hm9]; clear hr9 hm9 r9 μ9
            refine w_top (y := nI (fst B (tN t) (1440 * tN d + k) + tN l - 60 * bk B (tN t) (fst B (tN t) (1440 * tN d + k) + tN l))) (pk_sub (bk60 hm.2.2 (by omega))) ?_
            refine w_iload hX dX9_none_77 rfl ?_
            refine wn_icmp_gt (tgt := 86) hX dX9_none_79 (by decide) (by have := cntD_le (B := B) (t := tN t) (d := tN d) (l := tN l) k; omega) (by have := cntD_le (B := B) (t := tN t) (d := tN d) (l := tN l) k; omega) (fun c5 => ?_) (fun c5 => ?_)
            · refine w_iconst hX dX9_none_86 kI_0 ?_
              refine w_iaddN hX dX9_none_87 ?_
              refine w_istore (l2 := [some (.ref m), some (.int t), some (.int d), some (.int l), some (.int (nI (cntD B (tN t) (tN d) (tN l) k + 0))), some (.int (nI k)), some (.int (nI (1440 * (tN d) + k)))]) hX dX9_none_88 (ltb rfl) rfl rfl ?_
              refine w_iincN (w := 1) (l2 := [some (.ref m), some (.int t), some (.int d), some (.int l), some (.int (nI (cntD B (tN t) (tN d) (tN l) k + 0))), some (.int (nI (k + 1))), some (.int (nI (1440 * (tN d) + k)))]) hX dX9_none_90 rfl kI_1 rfl rfl ?_
              refine w_goto (tgt := 43) hX dX9_none_93 (by decide) ?_
              have e9 : cntD B (tN t) (tN d) (tN l) k + 0 = cntD B (tN t) (tN d) (tN l) (k + 1) := by simp only [cntD]; rw [if_neg (Nat.not_le.mpr c5)]
              rw [e9]
              refine w_sub (l2 := [some (.ref m), some (.int t), some (.int d), some (.int l), some (.int (nI (cntD B (tN t) (tN d) (tN l) (k + 1)))), some (.int (nI (k + 1))), none]) (by simp [lsub]) (leb rfl) ?_
              exact ih (by omega)
            · refine w_iconst hX dX9_none_82 kI_1 ?_
              refine w_goto (tgt := 87) hX dX9_none_83 (by decide) ?_
              refine w_iaddN hX dX9_none_87 ?_
              refine w_istore (l2 := [some (.ref m), some (.int t), some (.int d), some (.int l), some (.int (nI (cntD B (tN t) (tN d) (tN l) k + 1))), some (.int (nI k)), some (.int (nI (1440 * (tN d) + k)))]) hX dX9_none_88 (ltb rfl) rfl rfl ?_
              refine w_iincN (w := 1) (l2 := [some (.ref m), some (.int t), some (.int d), some (.int l), some (.int (nI (cntD B (tN t) (tN d) (tN l) k + 1))), some (.int (nI (k + 1))), some (.int (nI (1440 * (tN d) + k)))]) hX dX9_none_90 rfl kI_1 rfl rfl ?_
              refine w_goto (tgt := 43) hX dX9_none_93 (by decide) ?_
              have e9 : cntD B (tN t) (tN d) (tN l) k + 1 = cntD B (tN t) (tN d) (tN l) (k + 1) := by simp only [cntD]; rw [if_pos c5]
              rw [e9]
              refine w_sub (l2 := [some (.ref m), some (.int t), some (.int d), some (.int l), some (.int (nI (cntD B (tN t) (tN d) (tN l) (k + 1)))), some (.int (nI (k + 1))), none]) (by simp [lsub]) (leb rfl) ?_
              exact ih (by omega)
        refine w_iconst hX dX9_none_37 kI_0 ?_
        refine w_istore (l2 := [some (.ref m), some (.int t), some (.int d), some (.int l), some (.int (nI 0)), none, none]) hX dX9_none_38 (ltb rfl) rfl rfl ?_
        refine w_iconst hX dX9_none_40 kI_0 ?_
        refine w_istore (l2 := [some (.ref m), some (.int t), some (.int d), some (.int l), some (.int (nI 0)), some (.int (nI 0)), none]) hX dX9_none_41 (ltb rfl) rfl rfl ?_
        exact loop 0 (Nat.zero_le _)
      · refine w_iconst hX dX9_none_35 kI_m1 ?_
        exact w_iret hX hE dX9_none_36 (Or.inl rfl) rfl ⟨by simp [A_none, *], rfl⟩
