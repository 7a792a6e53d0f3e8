def kc (k : Nat) : Nat := if k = 0 then 5 else if k = 1 then 9 else if k = 2 then 15 else 17
theorem kc_inj {a b : Nat} (ha : a ≤ 3) (hb : b ≤ 3) : kc a = kc b ↔ a = b := by
  have h : ∀ a, a < 4 → ∀ b, b < 4 → (kc a = kc b ↔ a = b) := by decide
  exact h a (by omega) b (by omega)
theorem kc_le {a : Nat} : kc a ≤ 17 := by unfold kc; split; omega; split; omega; split <;> omega
/-- the names of the class's book -/
def CN (μ : Mem) (b : Nat) (M : NM) : Prop := gI μ b 15 = nI M.1 ∧ M.1 ≤ 32 ∧ ∀ i, i < M.1 → gL μ (b + 7) i = lN (M.2.1 i) ∧ M.2.1 i < 32 ^ 8 ∧ gI μ (b + 8) i = nI (kc (M.2.2.1 i)) ∧ M.2.2.1 i ≤ 3 ∧ gI μ (b + 9) i = nI (M.2.2.2 i)
theorem CN.sm {S : Nat → Nat → Prop} {μ ν : Mem} {b : Nat} {M : NM} (h : CN μ b M) (hs : same S μ ν) (hS : ∀ o k, S o k → ¬ (b + 7 ≤ o ∧ o ≤ b + 9) ∧ ¬ (o = b ∧ k = 15)) : CN ν b M :=
  ⟨by rw [(hs.2.2 _ _ (fun h9 => (hS _ _ h9).2 ⟨rfl, rfl⟩)).1]; exact h.1, h.2.1, fun i hi => by
    obtain ⟨a1, a2, a3, a4, a5⟩ := h.2.2 i hi
    exact ⟨by rw [(hs.2.2 _ _ (fun h9 => (hS _ _ h9).1 ⟨by omega, by omega⟩)).2]; exact a1, a2, by rw [(hs.2.2 _ _ (fun h9 => (hS _ _ h9).1 ⟨by omega, by omega⟩)).1]; exact a3, a4, by rw [(hs.2.2 _ _ (fun h9 => (hS _ _ h9).1 ⟨by omega, by omega⟩)).1]; exact a5⟩⟩
set_option maxHeartbeats 1000000 in
theorem s_r_check1 (Γ : Gm) (μ : Mem) (r t b : Nat) (s : Tp) (hr : RD μ r t b s) (htr : t + 1 < r) (hrb : r + 2 < b) (n k : Nat) (hpl : gI μ r 7 = nI (pl s n)) : SpI Γ MX4_check 0 0 0 [.ref r, .int (nI 1), .int (nI k)] μ (fun q9 μ2 => q9 = nI 1 ∧ μ2 = μ) := by
  refine SpI.of okX4_check rfl [some (.ref r), some (.int (nI 1)), some (.int (nI k))] ⟨rfl, rfl, rfl, trivial⟩ (leb rfl) (leb rfl) (fun X hX hE hnm => ?_)
  refine w_iload_n (i := 1) hX dX4_check_0 rfl rfl ?_
  refine wn_if_ne (tgt := 17) hX dX4_check_1 (by decide) (by omega) (fun c1 => ?_) (fun c1 => ?_)
  · refine w_iload_n (i := 1) hX dX4_check_17 rfl rfl ?_
    exact w_iret hX hE dX4_check_18 (Or.inl rfl) rfl ⟨rfl, rfl⟩
  · exact absurd c1 (by decide)
set_option maxHeartbeats 1000000 in
theorem s_r_check0 (Γ : Gm) (μ : Mem) (r t b : Nat) (s : Tp) (hr : RD μ r t b s) (htr : t + 1 < r) (hrb : r + 2 < b) (n k : Nat) (hpl : gI μ r 7 = nI (pl s n)) : SpI Γ MX4_check 0 0 0 [.ref r, .int (nI 0), .int (nI k)] μ (fun q9 μ2 => q9 = nI 0 ∧ μ2 = sI μ r 5 (nI (k + 16 * pl s n))) := by
  refine SpI.of okX4_check rfl [some (.ref r), some (.int (nI 0)), some (.int (nI k))] ⟨rfl, rfl, rfl, trivial⟩ (leb rfl) (leb rfl) (fun X hX hE hnm => ?_)
  refine w_iload_n (i := 1) hX dX4_check_0 rfl rfl ?_
  refine wn_if_ne (tgt := 17) hX dX4_check_1 (by decide) (by omega) (fun c1 => ?_) (fun c1 => ?_)
  · exact absurd c1 (by decide)
  · refine w_aload_n (i := 0) hX dX4_check_4 rfl rfl ?_
    refine w_iload_n (i := 2) hX dX4_check_5 rfl rfl ?_
    refine w_bipush hX dX4_check_6 kB_16 ?_
    refine w_aload_n (i := 0) hX dX4_check_8 rfl rfl ?_
    refine w_getI hX dX4_check_9 fo_RX4_187 rfl (rd_s hr.1) ?_
    refine w_top (y := nI (pl s n)) hpl ?_
    refine w_imulN hX dX4_check_12 ?_
    refine w_iaddN hX dX4_check_13 ?_
    refine w_putI hX dX4_check_14 fo_RX4_54 rfl rfl rfl rfl (rd_s hr.1) ?_
    refine w_iload_n (i := 1) hX dX4_check_17 rfl rfl ?_
    exact w_iret hX hE dX4_check_18 (Or.inl rfl) rfl ⟨rfl, rfl⟩
set_option maxHeartbeats 1000000 in
theorem s_r_take (Γ : Gm) (μ : Mem) (r t b : Nat) (s : Tp) (hr : RD μ r t b s) (htr : t + 1 < r) (hrb : r + 2 < b) (n : Nat) (hS : RS μ r s n) (w : Nat) (hw : w < 100) : SpI Γ MX4_take 3 0 0 [.ref r, .int (nI w)] μ (fun q9 μ2 => (kd s n = w ∧ q9 = bI true ∧ RS μ2 r s (n + 1) ∧ same (SA r) μ μ2) ∨ (kd s n ≠ w ∧ q9 = bI false ∧ μ2 = sI μ r 5 (nI (ft s 1 n)))) := by
  refine SpI.of okX4_take rfl [some (.ref r), some (.int (nI w))] ⟨rfl, rfl, trivial⟩ (leb rfl) (leb rfl) (fun X hX hE hnm => ?_)
  refine w_aload_n (i := 0) hX dX4_take_0 rfl rfl ?_
  refine w_aload_n (i := 0) hX dX4_take_1 rfl rfl ?_
  refine w_getI hX dX4_take_2 fo_RX4_62 rfl (rd_s hr.1) ?_
  refine w_top (y := nI (kd s n)) hS.2.1 ?_
  refine w_iload_n (i := 1) hX dX4_take_5 rfl rfl ?_
  refine wn_icmp_ne (tgt := 13) hX dX4_take_6 (by decide) (by have := kd_le (s := s) (n := n); omega) (by have := kd_le (s := s) (n := n); omega) (fun c1 => ?_) (fun c1 => ?_)
  · refine w_iconst hX dX4_take_13 kI_0 ?_
    refine w_iconst hX dX4_take_14 kI_1 ?_
    refine w_callVI (As := [.int (nI 0), .int (nI 1)]) (rest := []) (ci := 4) (o := r) (k2 := 0) (n2 := 0) hX dX4_take_15 (s_r_check0 Γ μ r t b s hr htr hrb n 1 hS.2.2.1) okX4_check (ltb rfl) (rd_s hr.1) ml_RX4_86 imX4_check seX4_check rfl (leb rfl) (leb rfl) rfl rfl (fun r9 μ9 hq9 => ?_)
    obtain ⟨hr9, hm9⟩ := hq9; rw [hr9, hm9]; clear hr9 hm9 r9 μ9
    refine wn_if_ne (tgt := 23) hX dX4_take_18 (by decide) (by have := kd_le (s := s) (n := n); omega) (fun c2 => ?_) (fun c2 => ?_)
    · exact absurd c2 (by decide)
    · refine w_iconst hX dX4_take_21 kI_0 ?_
      exact w_iret hX hE dX4_take_22 (Or.inl rfl) rfl (Or.inr ⟨by omega, rfl, rfl⟩)
  · refine w_iconst hX dX4_take_9 kI_1 ?_
    refine w_goto (tgt := 14) hX dX4_take_10 (by decide) ?_
    refine w_iconst hX dX4_take_14 kI_1 ?_
    refine w_callVI (As := [.int (nI 1), .int (nI 1)]) (rest := []) (ci := 4) (o := r) (k2 := 0) (n2 := 0) hX dX4_take_15 (s_r_check1 Γ μ r t b s hr htr hrb n 1 hS.2.2.1) okX4_check (ltb rfl) (rd_s hr.1) ml_RX4_86 imX4_check seX4_check rfl (leb rfl) (leb rfl) rfl rfl (fun r9 μ9 hq9 => ?_)
    obtain ⟨hr9, hm9⟩ := hq9; rw [hr9, hm9]; clear hr9 hm9 r9 μ9
    refine wn_if_ne (tgt := 23) hX dX4_take_18 (by decide) (by have := kd_le (s := s) (n := n); omega) (fun c3 => ?_) (fun c3 => ?_)
    · refine w_aload_n (i := 0) hX dX4_take_23 rfl rfl ?_
      refine w_callVV (As := []) (rest := []) (ci := 4) (o := r) (k2 := 0) (n2 := 0) hX dX4_take_24 (s_r_advance Γ μ r t b s hr htr hrb (n + 1) hS.1) okX4_advance (ltb rfl) (rd_s hr.1) ml_RX4_57 imX4_advance seX4_advance rfl (leb rfl) (leb rfl) rfl rfl (fun ν hq9 => ?_)
      obtain ⟨hS2, hs2⟩ := hq9
      refine w_iconst hX dX4_take_27 kI_1 ?_
      exact w_iret hX hE dX4_take_28 (Or.inl rfl) rfl (Or.inl ⟨by omega, rfl, hS2, hs2⟩)
    · exact absurd c3 (by decide)
set_option maxHeartbeats 1000000 in
theorem s_r_more1 (Γ : Gm) (μ : Mem) (r t b : Nat) (s : Tp) (hr : RD μ r t b s) (htr : t + 1 < r) (hrb : r + 2 < b) (n : Nat) (hS : RS μ r s n)  : SpI Γ MX4_takeOneMore 3 0 0 [.ref r, .int (nI 1)] μ (fun q9 μ2 => q9 = nI 1 ∧ RS μ2 r s (n + 1) ∧ same (SA r) μ μ2) := by
  refine SpI.of okX4_takeOneMore rfl [some (.ref r), some (.int (nI 1))] ⟨rfl, rfl, trivial⟩ (leb rfl) (leb rfl) (fun X hX hE hnm => ?_)
  refine w_aload_n (i := 0) hX dX4_takeOneMore_0 rfl rfl ?_
  refine w_iload_n (i := 1) hX dX4_takeOneMore_1 rfl rfl ?_
  refine w_iconst hX dX4_takeOneMore_2 kI_5 ?_
  refine w_callVI (As := [.int (nI 1), .int (nI 5)]) (rest := []) (ci := 4) (o := r) (k2 := 0) (n2 := 0) hX dX4_takeOneMore_3 (s_r_check1 Γ μ r t b s hr htr hrb n 5 hS.2.2.1) okX4_check (ltb rfl) (rd_s hr.1) ml_RX4_86 imX4_check seX4_check rfl (leb rfl) (leb rfl) rfl rfl (fun r9 μ9 hq9 => ?_)
  obtain ⟨hr9, hm9⟩ := hq9; rw [hr9, hm9]; clear hr9 hm9 r9 μ9
  refine wn_if_ne (tgt := 11) hX dX4_takeOneMore_6 (by decide) (by omega) (fun c1 => ?_) (fun c1 => ?_)
  · refine w_aload_n (i := 0) hX dX4_takeOneMore_11 rfl rfl ?_
    refine w_callVV (As := []) (rest := []) (ci := 4) (o := r) (k2 := 0) (n2 := 0) hX dX4_takeOneMore_12 (s_r_advance Γ μ r t b s hr htr hrb (n + 1) hS.1) okX4_advance (ltb rfl) (rd_s hr.1) ml_RX4_57 imX4_advance seX4_advance rfl (leb rfl) (leb rfl) rfl rfl (fun ν hq9 => ?_)
    obtain ⟨hS2, hs2⟩ := hq9
    refine w_iconst hX dX4_takeOneMore_15 kI_1 ?_
    exact w_iret hX hE dX4_takeOneMore_16 (Or.inl rfl) rfl ⟨rfl, hS2, hs2⟩
  · exact absurd c1 (by decide)
set_option maxHeartbeats 1000000 in
theorem s_r_more0 (Γ : Gm) (μ : Mem) (r t b : Nat) (s : Tp) (hr : RD μ r t b s) (htr : t + 1 < r) (hrb : r + 2 < b) (n : Nat) (hS : RS μ r s n)  : SpI Γ MX4_takeOneMore 3 0 0 [.ref r, .int (nI 0)] μ (fun q9 μ2 => q9 = nI 0 ∧ μ2 = sI μ r 5 (nI (ft s 5 n))) := by
  refine SpI.of okX4_takeOneMore rfl [some (.ref r), some (.int (nI 0))] ⟨rfl, rfl, trivial⟩ (leb rfl) (leb rfl) (fun X hX hE hnm => ?_)
  refine w_aload_n (i := 0) hX dX4_takeOneMore_0 rfl rfl ?_
  refine w_iload_n (i := 1) hX dX4_takeOneMore_1 rfl rfl ?_
  refine w_iconst hX dX4_takeOneMore_2 kI_5 ?_
  refine w_callVI (As := [.int (nI 0), .int (nI 5)]) (rest := []) (ci := 4) (o := r) (k2 := 0) (n2 := 0) hX dX4_takeOneMore_3 (s_r_check0 Γ μ r t b s hr htr hrb n 5 hS.2.2.1) okX4_check (ltb rfl) (rd_s hr.1) ml_RX4_86 imX4_check seX4_check rfl (leb rfl) (leb rfl) rfl rfl (fun r9 μ9 hq9 => ?_)
  obtain ⟨hr9, hm9⟩ := hq9; rw [hr9, hm9]; clear hr9 hm9 r9 μ9
  refine wn_if_ne (tgt := 11) hX dX4_takeOneMore_6 (by decide) (by omega) (fun c1 => ?_) (fun c1 => ?_)
  · exact absurd c1 (by decide)
  · refine w_iconst hX dX4_takeOneMore_9 kI_0 ?_
    exact w_iret hX hE dX4_takeOneMore_10 (Or.inl rfl) rfl ⟨rfl, rfl⟩
set_option maxHeartbeats 1000000 in
theorem s_r_checkB (Γ : Gm) (μ : Mem) (r t b : Nat) (s : Tp) (hr : RD μ r t b s) (htr : t + 1 < r) (hrb : r + 2 < b) (n k : Nat) (hpl : gI μ r 7 = nI (pl s n)) (f : Bool) : SpI Γ MX4_check 0 0 0 [.ref r, .int (bI f), .int (nI k)] μ (fun q9 μ2 => (f = true ∧ q9 = nI 1 ∧ μ2 = μ) ∨ (f = false ∧ q9 = nI 0 ∧ μ2 = sI μ r 5 (nI (k + 16 * pl s n)))) := by
  refine SpI.of okX4_check rfl [some (.ref r), some (.int (bI f)), some (.int (nI k))] ⟨rfl, rfl, rfl, trivial⟩ (leb rfl) (leb rfl) (fun X hX hE hnm => ?_)
  refine w_iload_n (i := 1) hX dX4_check_0 rfl rfl ?_
  refine wb_ne (tgt := 17) hX dX4_check_1 (by decide) (fun hf => ?_) (fun hf => ?_)
  · refine w_iload_n (i := 1) hX dX4_check_17 rfl rfl ?_
    exact w_iret hX hE dX4_check_18 (Or.inl rfl) (bI_nar _) (Or.inl ⟨hf, by rw [hf]; rfl, rfl⟩)
  · refine w_aload_n (i := 0) hX dX4_check_4 rfl rfl ?_
    refine w_iload_n (i := 2) hX dX4_check_5 rfl rfl ?_
    refine w_bipush hX dX4_check_6 kB_16 ?_
    refine w_aload_n (i := 0) hX dX4_check_8 rfl rfl ?_
    refine w_getI hX dX4_check_9 fo_RX4_187 rfl (rd_s hr.1) ?_
    refine w_top (y := nI (pl s n)) hpl ?_
    refine w_imulN hX dX4_check_12 ?_
    refine w_iaddN hX dX4_check_13 ?_
    refine w_putI hX dX4_check_14 fo_RX4_54 rfl rfl rfl rfl (rd_s hr.1) ?_
    refine w_iload_n (i := 1) hX dX4_check_17 rfl rfl ?_
    exact w_iret hX hE dX4_check_18 (Or.inl rfl) (bI_nar _) (Or.inr ⟨hf, by rw [hf]; rfl, rfl⟩)
set_option maxHeartbeats 1000000 in
theorem s_r_isNum (Γ : Gm) (μ : Mem) (r t b : Nat) (s : Tp) (hr : RD μ r t b s) (htr : t + 1 < r) (hrb : r + 2 < b) (n : Nat) (hS : RS μ r s n) (lo hi : Nat) (hlo : lo < 2 ^ 30) (hhi : hi < 2 ^ 30) : SpI Γ MX4_isNumber 1 0 0 [.ref r, .int (nI lo), .int (nI hi)] μ (fun q9 μ2 => (pNb s n lo hi = .inr (vl s n) ∧ q9 = bI true ∧ μ2 = μ) ∨ (∃ f, pNb s n lo hi = .inl f ∧ q9 = bI false ∧ μ2 = sI μ r 5 (nI f))) := by
  refine SpI.of okX4_isNumber rfl [some (.ref r), some (.int (nI lo)), some (.int (nI hi))] ⟨rfl, rfl, rfl, trivial⟩ (leb rfl) (leb rfl) (fun X hX hE hnm => ?_)
  refine w_aload_n (i := 0) hX dX4_isNumber_0 rfl rfl ?_
  refine w_aload_n (i := 0) hX dX4_isNumber_1 rfl rfl ?_
  refine w_getI hX dX4_isNumber_2 fo_RX4_62 rfl (rd_s hr.1) ?_
  refine w_top (y := nI (kd s n)) hS.2.1 ?_
  refine w_iconst hX dX4_isNumber_5 kI_3 ?_
  refine wn_icmp_ne (tgt := 13) hX dX4_isNumber_6 (by decide) (by have := kd_le (s := s) (n := n); omega) (by have := kd_le (s := s) (n := n); omega) (fun c1 => ?_) (fun c1 => ?_)
  · refine w_iconst hX dX4_isNumber_13 kI_0 ?_
    refine w_iconst hX dX4_isNumber_14 kI_1 ?_
    refine w_callVI (As := [.int (nI 0), .int (nI 1)]) (rest := []) (ci := 4) (o := r) (k2 := 0) (n2 := 0) hX dX4_isNumber_15 (s_r_check0 Γ μ r t b s hr htr hrb n 1 hS.2.2.1) okX4_check (ltb rfl) (rd_s hr.1) ml_RX4_86 imX4_check seX4_check rfl (leb rfl) (leb rfl) rfl rfl (fun r9 μ9 hq9 => ?_)
    obtain ⟨hr9, hm9⟩ := hq9; rw [hr9, hm9]; clear hr9 hm9 r9 μ9
    refine wn_if_eq (tgt := 42) hX dX4_isNumber_18 (by decide) (by have := kd_le (s := s) (n := n); omega) (fun c2 => ?_) (fun c2 => ?_)
    · refine w_iconst hX dX4_isNumber_42 kI_0 ?_
      exact w_iret hX hE dX4_isNumber_43 (Or.inl rfl) rfl (Or.inr ⟨ft s 1 n, by unfold pNb; rw [if_pos (by omega)], rfl, rfl⟩)
    · exact absurd c2 (by decide)
  · refine w_iconst hX dX4_isNumber_9 kI_1 ?_
    refine w_goto (tgt := 14) hX dX4_isNumber_10 (by decide) ?_
    refine w_iconst hX dX4_isNumber_14 kI_1 ?_
    refine w_callVI (As := [.int (nI 1), .int (nI 1)]) (rest := []) (ci := 4) (o := r) (k2 := 0) (n2 := 0) hX dX4_isNumber_15 (s_r_check1 Γ μ r t b s hr htr hrb n 1 hS.2.2.1) okX4_check (ltb rfl) (rd_s hr.1) ml_RX4_86 imX4_check seX4_check rfl (leb rfl) (leb rfl) rfl rfl (fun r9 μ9 hq9 => ?_)
    obtain ⟨hr9, hm9⟩ := hq9; rw [hr9, hm9]; clear hr9 hm9 r9 μ9
    refine wn_if_eq (tgt := 42) hX dX4_isNumber_18 (by decide) (by have := kd_le (s := s) (n := n); omega) (fun c3 => ?_) (fun c3 => ?_)
    · exact absurd c3 (by decide)
    · have hv4 := vl_lt (s := s) (n := n) (by omega)
      refine w_aload_n (i := 0) hX dX4_isNumber_21 rfl rfl ?_
      refine w_aload_n (i := 0) hX dX4_isNumber_22 rfl rfl ?_
      refine w_getI hX dX4_isNumber_23 fo_RX4_114 rfl (rd_s hr.1) ?_
      refine w_top (y := nI (vl s n)) (hS.2.2.2.1 (by omega)) ?_
      refine w_iload_n (i := 1) hX dX4_isNumber_26 rfl rfl ?_
      refine w_iload_n (i := 2) hX dX4_isNumber_27 rfl rfl ?_
      refine w_callSNI (As := [.int (nI (vl s n)), .int (nI lo), .int (nI hi)]) (rest := [.ref r]) (k2 := 0) (n2 := 0) hX dX4_isNumber_28 (s_within Γ μ (nI (vl s n)) (nI lo) (nI hi)) okX8_within (List.mem_of_getElem? (i := 7) rfl) stX8_within rfl (leb rfl) (leb rfl) rfl rfl (fun r9 μ9 hq9 => ?_)
      obtain ⟨hr9, hm9⟩ := hq9; rw [hr9, hm9, inR_N (by omega) (by omega) (by omega)]; clear hr9 hm9 r9 μ9
      refine w_iconst hX dX4_isNumber_31 kI_4 ?_
      refine w_callVI (As := [.int (bI (decide (lo ≤ vl s n) && decide (vl s n ≤ hi))), .int (nI 4)]) (rest := []) (ci := 4) (o := r) (k2 := 0) (n2 := 0) hX dX4_isNumber_32 (s_r_checkB Γ μ r t b s hr htr hrb n 4 hS.2.2.1 (decide (lo ≤ vl s n) && decide (vl s n ≤ hi))) okX4_check (ltb rfl) (rd_s hr.1) ml_RX4_86 imX4_check seX4_check rfl (leb rfl) (leb rfl) rfl rfl (fun r5 ν5 hq9 => ?_)
      rcases hq9 with ⟨hb, hr5, hm5⟩ | ⟨hb, hr5, hm5⟩
      · rw [hr5, hm5]
        refine wn_if_eq (tgt := 42) hX dX4_isNumber_35 (by decide) (by have := kd_le (s := s) (n := n); omega) (fun c4 => ?_) (fun c4 => ?_)
        · exact absurd c4 (by decide)
        · refine w_iconst hX dX4_isNumber_38 kI_1 ?_
          refine w_goto (tgt := 43) hX dX4_isNumber_39 (by decide) ?_
          exact w_iret hX hE dX4_isNumber_43 (Or.inl rfl) rfl (Or.inl ⟨by unfold pNb; rw [Bool.and_eq_true, decide_eq_true_eq, decide_eq_true_eq] at hb; rw [if_neg (by omega), if_neg (by omega)], rfl, rfl⟩)
      · rw [hr5, hm5]
        refine wn_if_eq (tgt := 42) hX dX4_isNumber_35 (by decide) (by have := kd_le (s := s) (n := n); omega) (fun c5 => ?_) (fun c5 => ?_)
        · refine w_iconst hX dX4_isNumber_42 kI_0 ?_
          exact w_iret hX hE dX4_isNumber_43 (Or.inl rfl) rfl (Or.inr ⟨ft s 4 n, by unfold pNb; rw [Bool.and_eq_false_iff, decide_eq_false_iff_not, decide_eq_false_iff_not] at hb; rw [if_neg (by omega), if_pos (by omega)], rfl, rfl⟩)
        · exact absurd c5 (by decide)
set_option maxHeartbeats 1000000 in
theorem s_r_takeN (Γ : Gm) (μ : Mem) (r t b : Nat) (s : Tp) (hr : RD μ r t b s) (htr : t + 1 < r) (hrb : r + 2 < b) (n : Nat) (hS : RS μ r s n) (lo hi : Nat) (hlo : lo < 2 ^ 30) (hhi : hi < 2 ^ 30) (o a len : Nat) (hsh : μ.1[o]? = some (.inr (0, len))) (ha : a < len) (hlen : len < 2 ^ 20) (hor : r + 2 ≤ o) : SpI Γ MX4_takeNumber 3 0 0 [.ref r, .int (nI lo), .int (nI hi), .ref o, .int (nI a)] μ (fun q9 μ2 => (pNb s n lo hi = .inr (vl s n) ∧ q9 = bI true ∧ RS μ2 r s (n + 1) ∧ gI μ2 o a = nI (vl s n) ∧ same (fun o2 k2 => SA r o2 k2 ∨ (o2 = o ∧ k2 = a)) μ μ2) ∨ (∃ f, pNb s n lo hi = .inl f ∧ q9 = bI false ∧ μ2 = sI μ r 5 (nI f))) := by
  refine SpI.of okX4_takeNumber rfl [some (.ref r), some (.int (nI lo)), some (.int (nI hi)), some (.ref o), some (.int (nI a))] ⟨rfl, rfl, rfl, rfl, rfl, trivial⟩ (leb rfl) (leb rfl) (fun X hX hE hnm => ?_)
  refine w_aload_n (i := 0) hX dX4_takeNumber_0 rfl rfl ?_
  refine w_iload_n (i := 1) hX dX4_takeNumber_1 rfl rfl ?_
  refine w_iload_n (i := 2) hX dX4_takeNumber_2 rfl rfl ?_
  refine w_callVI (As := [.int (nI lo), .int (nI hi)]) (rest := []) (ci := 4) (o := r) (k2 := 0) (n2 := 0) hX dX4_takeNumber_3 (s_r_isNum Γ μ r t b s hr htr hrb n hS lo hi hlo hhi) okX4_isNumber (ltb rfl) (rd_s hr.1) ml_RX4_117 imX4_isNumber seX4_isNumber rfl (leb rfl) (leb rfl) rfl rfl (fun r5 ν5 hq9 => ?_)
  rcases hq9 with ⟨hb, hr5, hm5⟩ | ⟨f9, hb, hr5, hm5⟩
  · rw [hr5, hm5]
    refine wb_eq (tgt := 22) hX dX4_takeNumber_6 (by decide) (fun c1 => ?_) (fun c1 => ?_)
    · exact absurd ((Eq.refl true).symm.trans c1) (by decide)
    · refine w_iload hX dX4_takeNumber_9 rfl ?_
      refine w_iconst hX dX4_takeNumber_11 kI_0 ?_
      refine w_aload_n (i := 3) hX dX4_takeNumber_12 rfl rfl ?_
      refine w_alen (len := len) hX (ltb rfl) dX4_takeNumber_13 hsh ?_
      refine w_iconst hX dX4_takeNumber_14 kI_1 ?_
      refine w_isub hX dX4_takeNumber_15 ?_
      refine w_callSNI (As := [.int (nI a), .int (nI 0), .int ((nI len) - (nI 1))]) (rest := []) (k2 := 0) (n2 := 0) hX dX4_takeNumber_16 (s_within Γ μ (nI a) (nI 0) (nI len - nI 1)) okX8_within (List.mem_of_getElem? (i := 7) rfl) stX8_within rfl (leb rfl) (leb rfl) rfl rfl (fun r9 μ9 hq9 => ?_)
      obtain ⟨hr9, hm9⟩ := hq9; rw [hr9, hm9, inC_inR (by omega), show inC (nI a) len = true by unfold inC; rw [decide_eq_true ((nI_leI (by omega) (by omega)).mpr (Nat.zero_le a)), decide_eq_true ((nI_ltI (by omega) (by omega)).mpr ha)]; rfl]; clear hr9 hm9 r9 μ9
      refine wb_ne (tgt := 24) hX dX4_takeNumber_19 (by decide) (fun c2 => ?_) (fun c2 => ?_)
      · refine w_aload_n (i := 3) hX dX4_takeNumber_24 rfl rfl ?_
        refine w_iload hX dX4_takeNumber_25 rfl ?_
        refine w_aload_n (i := 0) hX dX4_takeNumber_27 rfl rfl ?_
        refine w_getI hX dX4_takeNumber_28 fo_RX4_114 rfl (rd_s hr.1) ?_
        refine w_top (y := nI (vl s n)) (hS.2.2.2.1 (pNb_inr hb).1) ?_
        refine w_iastN hX dX4_takeNumber_31 hsh (by omega) (by omega) ?_
        have hso : same (fun o2 k2 => o2 = o ∧ k2 = a) μ (sI μ o a (nI (vl s n))) := same.rf.sI ⟨rfl, rfl⟩
        refine w_aload_n (i := 0) hX dX4_takeNumber_32 rfl rfl ?_
        refine w_callVV (As := []) (rest := []) (ci := 4) (o := r) (k2 := 0) (n2 := 0) hX dX4_takeNumber_33 (s_r_advance Γ (sI μ o a (nI (vl s n))) r t b s (hr.sm hso (fun o2 k h => by omega)) htr hrb (n + 1) (by rw [(hso.2.2 _ _ (fun h => by omega)).1]; exact hS.1)) okX4_advance (ltb rfl) (rd_s hr.1) ml_RX4_57 imX4_advance seX4_advance rfl (leb rfl) (leb rfl) rfl rfl (fun ν hq9 => ?_)
        obtain ⟨hS2, hs2⟩ := hq9
        refine w_iconst hX dX4_takeNumber_36 kI_1 ?_
        exact w_iret hX hE dX4_takeNumber_37 (Or.inl rfl) rfl (Or.inl ⟨hb, rfl, hS2, by rw [(hs2.2.2 _ _ (fun h => by unfold SA at h; omega)).1, gI_same], (hso.up (fun o2 k h => Or.inr h)).tr (hs2.up (fun o2 k h => Or.inl h))⟩)
      · exact absurd ((Eq.refl true).symm.trans c2) (by decide)
  · rw [hr5, hm5]
    refine wb_eq (tgt := 22) hX dX4_takeNumber_6 (by decide) (fun c3 => ?_) (fun c3 => ?_)
    · refine w_iconst hX dX4_takeNumber_22 kI_0 ?_
      exact w_iret hX hE dX4_takeNumber_23 (Or.inl rfl) rfl (Or.inr ⟨f9, hb, rfl, rfl⟩)
    · exact absurd ((Eq.refl false).symm.trans c3) (by decide)
set_option maxHeartbeats 1000000 in
theorem s_b_find (Γ : Gm) (μ : Mem) (b : Nat) (hb : isBk μ b) (M : NM) (hc : CN μ b M) (w : Nat) (hw : w < 32 ^ 8) : SpI Γ MX0_findName 0 0 0 [.ref b, .long (lN w)] μ (fun r μ2 => r = oI (fnm M w) ∧ μ2 = μ) := by
  refine SpI.of okX0_findName rfl [some (.ref b), some (.long (lN w)), none, none] ⟨rfl, rfl, trivial⟩ (leb rfl) (leb rfl) (fun X hX hE hnm => ?_)
  refine w_iconst hX dX0_findName_0 kI_0 ?_
  refine w_istore_n (i := 3) (l2 := [some (.ref b), some (.long (lN w)), none, some (.int (nI 0))]) hX dX0_findName_1 rfl (ltb rfl) rfl rfl ?_
  have hM := hc.2.1
  have loop : ∀ k, k ≤ M.1 → fnm M w = fnmF M.2.1 w (M.1 - k) k → WP Γ X 0 0 2 [some (.ref b), some (.long (lN w)), none, some (.int (nI k))] [] μ := by
    refine loopU M.1 ?_
    intro k hk ih hf
    have hcl : k < M.1 → M.2.1 k < 32 ^ 8 := fun h => (hc.2.2 k h).2.1
    refine w_iload_n (i := 3) hX dX0_findName_2 rfl rfl ?_
    refine w_aload_n (i := 0) hX dX0_findName_3 rfl rfl ?_
    refine w_getI hX dX0_findName_4 fo_RX0_72 rfl (bk_s hb) ?_
    refine w_top (y := nI M.1) hc.1 ?_
    refine wn_icmp_ge (tgt := 29) hX dX0_findName_7 (by decide) (by omega) (by omega) (fun c1 => ?_) (fun c1 => ?_)
    · refine w_iconst hX dX0_findName_29 kI_m1 ?_
      exact w_iret hX hE dX0_findName_30 (Or.inl rfl) rfl ⟨by rw [hf, show M.1 - k = 0 by omega]; rfl, rfl⟩
    · refine w_aload_n (i := 0) hX dX0_findName_10 rfl rfl ?_
      refine w_getR (q := b + 7) hX dX0_findName_11 fo_RX0_33 rfl (bk_s hb) (bk_r6 hb) ?_
      refine w_iload_n (i := 3) hX dX0_findName_14 rfl rfl ?_
      refine w_laldN hX dX0_findName_15 (bk_a7 hb) (by omega) (by omega) ?_
      refine w_topL (y := lN (M.2.1 k)) (hc.2.2 k (by omega)).1 ?_
      refine w_lload_n (i := 1) hX dX0_findName_16 rfl rfl ?_
      refine w_lcmp hX dX0_findName_17 ?_
      refine wc_if_ne (tgt := 23) hX dX0_findName_18 (by decide) (fun c2 => ?_) (fun c2 => ?_)
      · refine w_iincN (w := 1) (l2 := [some (.ref b), some (.long (lN w)), none, some (.int (nI (k + 1)))]) hX dX0_findName_23 rfl kI_1 rfl rfl ?_
        refine w_goto (tgt := 2) hX dX0_findName_26 (by decide) ?_
        exact ih (by omega) (hf.trans (fnmF_n (by omega) (fun e => c2 ((cmp0 (by omega) (by omega)).mpr e))))
      · refine w_iload_n (i := 3) hX dX0_findName_21 rfl rfl ?_
        exact w_iret hX hE dX0_findName_22 (Or.inl rfl) rfl ⟨by rw [hf, fnmF_y (by omega) ((cmp0 (by omega) (by omega)).mp c2)]; rfl, rfl⟩
  exact loop 0 (Nat.zero_le _) rfl
set_option maxHeartbeats 1000000 in
theorem s_b_addN (Γ : Gm) (μ : Mem) (b : Nat) (hb : isBk μ b) (M : NM) (hc : CN μ b M) (w k v : Nat) (hw : w < 32 ^ 8) (hk : k ≤ 3) (hM : M.1 < 32) : SpV Γ MX0_addName 0 0 0 [.ref b, .long (lN w), .int (nI (kc k)), .int (nI v)] μ (fun μ2 => CN μ2 b (addM M w k v) ∧ same (fun o k => (b + 7 ≤ o ∧ o ≤ b + 9) ∨ (o = b ∧ k = 15)) μ μ2) := by
  refine SpV.of okX0_addName rfl [some (.ref b), some (.long (lN w)), none, some (.int (nI (kc k))), some (.int (nI v))] ⟨rfl, rfl, rfl, rfl, trivial⟩ (leb rfl) (leb rfl) (fun X hX hE hnm => ?_)
  refine w_aload_n (i := 0) hX dX0_addName_0 rfl rfl ?_
  refine w_getI hX dX0_addName_1 fo_RX0_72 rfl (bk_s hb) ?_
  refine w_top (y := nI M.1) hc.1 ?_
  refine w_bipush hX dX0_addName_4 kB_32 ?_
  refine wn_icmp_ge (tgt := 50) hX dX0_addName_6 (by decide) (by omega) (by omega) (fun c1 => ?_) (fun c1 => ?_)
  · exfalso; omega
  · refine w_aload_n (i := 0) hX dX0_addName_9 rfl rfl ?_
    refine w_getR (q := b + 7) hX dX0_addName_10 fo_RX0_33 rfl (bk_s hb) (bk_r6 hb) ?_
    refine w_aload_n (i := 0) hX dX0_addName_13 rfl rfl ?_
    refine w_getI hX dX0_addName_14 fo_RX0_72 rfl (bk_s hb) ?_
    refine w_top (y := nI M.1) hc.1 ?_
    refine w_lload_n (i := 1) hX dX0_addName_17 rfl rfl ?_
    refine w_lastN hX dX0_addName_18 (bk_a7 hb) (by omega) (by omega) ?_
    refine w_aload_n (i := 0) hX dX0_addName_19 rfl rfl ?_
    refine w_getR (q := b + 8) hX dX0_addName_20 fo_RX0_37 rfl (bk_s hb) (bk_r7 hb) ?_
    refine w_aload_n (i := 0) hX dX0_addName_23 rfl rfl ?_
    refine w_getI hX dX0_addName_24 fo_RX0_72 rfl (bk_s hb) ?_
    refine w_top (y := nI M.1) (by rw [gI_sL]; exact hc.1) ?_
    refine w_iload_n (i := 3) hX dX0_addName_27 rfl rfl ?_
    refine w_iastN hX dX0_addName_28 (bk_a8 hb) (by omega) (by omega) ?_
    refine w_aload_n (i := 0) hX dX0_addName_29 rfl rfl ?_
    refine w_getR (q := b + 9) hX dX0_addName_30 fo_RX0_40 rfl (bk_s hb) (bk_r8 hb) ?_
    refine w_aload_n (i := 0) hX dX0_addName_33 rfl rfl ?_
    refine w_getI hX dX0_addName_34 fo_RX0_72 rfl (bk_s hb) ?_
    refine w_top (y := nI M.1) (by rw [gI_no (by omega), gI_sL]; exact hc.1) ?_
    refine w_iload hX dX0_addName_37 rfl ?_
    refine w_iastN hX dX0_addName_39 (bk_a9 hb) (by omega) (by omega) ?_
    refine w_aload_n (i := 0) hX dX0_addName_40 rfl rfl ?_
    refine w_dup hX dX0_addName_41 rfl ?_
    refine w_getI hX dX0_addName_42 fo_RX0_72 rfl (bk_s hb) ?_
    refine w_top (y := nI M.1) (by rw [gI_no (by omega), gI_no (by omega), gI_sL]; exact hc.1) ?_
    refine w_iconst hX dX0_addName_45 kI_1 ?_
    refine w_iaddN hX dX0_addName_46 ?_
    refine w_putI hX dX0_addName_47 fo_RX0_72 rfl rfl rfl rfl (bk_s hb) ?_
    refine w_vret hX hE dX0_addName_50 (Or.inl rfl) ⟨⟨by rw [gI_same]; rfl, by show M.1 + 1 ≤ 32; omega, fun i hi => ?_⟩, (((same.rf.sL (Or.inl ⟨by omega, by omega⟩)).sI (Or.inl ⟨by omega, by omega⟩)).sI (Or.inl ⟨by omega, by omega⟩)).sI (Or.inr ⟨rfl, rfl⟩)⟩
    have hi2 : i < M.1 + 1 := hi
    show _ = lN (stB M.2.1 M.1 w i) ∧ stB M.2.1 M.1 w i < _ ∧ _ = nI (kc (stB M.2.2.1 M.1 k i)) ∧ stB M.2.2.1 M.1 k i ≤ 3 ∧ _ = nI (stB M.2.2.2 M.1 v i)
    by_cases e : i = M.1
    · subst e; rw [stB_same, stB_same, stB_same]; exact ⟨by rw [gL_sI, gL_sI, gL_sI, gL_same], hw, by rw [gI_no (by omega), gI_no (by omega), gI_same], hk, by rw [gI_no (by omega), gI_same]⟩
    · rw [stB_ne e, stB_ne e, stB_ne e]; obtain ⟨a1, a2, a3, a4, a5⟩ := hc.2.2 i (by omega); exact ⟨by rw [gL_sI, gL_sI, gL_sI, gL_ne (fun h => e h.2)]; exact a1, a2, by rw [gI_no (by omega), gI_no (by omega), gI_nk e, gI_sL]; exact a3, a4, by rw [gI_no (by omega), gI_nk e, gI_no (by omega), gI_sL]; exact a5⟩
set_option maxHeartbeats 1000000 in
theorem s_r_told (Γ : Gm) (μ : Mem) (r t b : Nat) (s : Tp) (hr : RD μ r t b s) (htr : t + 1 < r) (hrb : r + 2 < b) (n : Nat) (hS : RS μ r s n) (hb : isBk μ b) (M : NM) (hc : CN μ b M) (k : Nat) (hk : k ≤ 3) : SpI Γ MX4_toldName 1 0 0 [.ref r, .int (nI (kc k))] μ (fun q9 μ2 => (∃ v, pNm s n M k = .inr v ∧ q9 = nI v ∧ μ2 = μ) ∨ (∃ f, pNm s n M k = .inl f ∧ q9 = (-1 : Int32) ∧ μ2 = sI μ r 5 (nI f))) := by
  refine SpI.of okX4_toldName rfl [some (.ref r), some (.int (nI (kc k))), none] ⟨rfl, rfl, trivial⟩ (leb rfl) (leb rfl) (fun X hX hE hnm => ?_)
  refine w_aload_n (i := 0) hX dX4_toldName_0 rfl rfl ?_
  refine w_aload_n (i := 0) hX dX4_toldName_1 rfl rfl ?_
  refine w_getI hX dX4_toldName_2 fo_RX4_62 rfl (rd_s hr.1) ?_
  refine w_top (y := nI (kd s n)) hS.2.1 ?_
  refine w_iconst hX dX4_toldName_5 kI_4 ?_
  refine wn_icmp_ne (tgt := 13) hX dX4_toldName_6 (by decide) (by first | omega | (have := kd_le (s := s) (n := n); omega) | (have := kc_le (a := M.2.2.1 i9); have := kc_le (a := k); omega)) (by first | omega | (have := kd_le (s := s) (n := n); omega) | (have := kc_le (a := M.2.2.1 i9); have := kc_le (a := k); omega)) (fun c1 => ?_) (fun c1 => ?_)
  · refine w_iconst hX dX4_toldName_13 kI_0 ?_
    refine w_iconst hX dX4_toldName_14 kI_1 ?_
    refine w_callVI (As := [.int (nI 0), .int (nI 1)]) (rest := []) (ci := 4) (o := r) (k2 := 0) (n2 := 0) hX dX4_toldName_15 (s_r_check0 Γ μ r t b s hr htr hrb n 1 hS.2.2.1) okX4_check (ltb rfl) (rd_s hr.1) ml_RX4_86 imX4_check seX4_check rfl (leb rfl) (leb rfl) rfl rfl (fun r9 μ9 hq9 => ?_)
    obtain ⟨hr9, hm9⟩ := hq9; rw [hr9, hm9]; clear hr9 hm9 r9 μ9
    refine wn_if_ne (tgt := 23) hX dX4_toldName_18 (by decide) (by first | omega | (have := kd_le (s := s) (n := n); omega) | (have := kc_le (a := M.2.2.1 i9); have := kc_le (a := k); omega)) (fun c2 => ?_) (fun c2 => ?_)
    · exact absurd c2 (by decide)
    · refine w_iconst hX dX4_toldName_21 kI_m1 ?_
      exact w_iret hX hE dX4_toldName_22 (Or.inl rfl) rfl (Or.inr ⟨ft s 1 n, by unfold pNm; rw [if_pos (by omega)], rfl, rfl⟩)
  · refine w_iconst hX dX4_toldName_9 kI_1 ?_
    refine w_goto (tgt := 14) hX dX4_toldName_10 (by decide) ?_
    refine w_iconst hX dX4_toldName_14 kI_1 ?_
    refine w_callVI (As := [.int (nI 1), .int (nI 1)]) (rest := []) (ci := 4) (o := r) (k2 := 0) (n2 := 0) hX dX4_toldName_15 (s_r_check1 Γ μ r t b s hr htr hrb n 1 hS.2.2.1) okX4_check (ltb rfl) (rd_s hr.1) ml_RX4_86 imX4_check seX4_check rfl (leb rfl) (leb rfl) rfl rfl (fun r9 μ9 hq9 => ?_)
    obtain ⟨hr9, hm9⟩ := hq9; rw [hr9, hm9]; clear hr9 hm9 r9 μ9
    refine wn_if_ne (tgt := 23) hX dX4_toldName_18 (by decide) (by first | omega | (have := kd_le (s := s) (n := n); omega) | (have := kc_le (a := M.2.2.1 i9); have := kc_le (a := k); omega)) (fun c3 => ?_) (fun c3 => ?_)
    · have hw9 := wd_lt (s := s) (n := n) (by omega)
      refine w_aload_n (i := 0) hX dX4_toldName_23 rfl rfl ?_
      refine w_getR (q := b) hX dX4_toldName_24 fo_RX4_41 rfl (rd_s hr.1) hr.2.2.1 ?_
      refine w_aload_n (i := 0) hX dX4_toldName_27 rfl rfl ?_
      refine w_getL hX dX4_toldName_28 fo_RX4_165 rfl (rd_s hr.1) ?_
      refine w_topL (y := lN (wd s n)) (hS.2.2.2.2 (by omega)) ?_
      refine w_callVI (As := [.long (lN (wd s n))]) (rest := []) (ci := 0) (o := b) (k2 := 0) (n2 := 0) hX dX4_toldName_31 (s_b_find Γ μ b hb M hc (wd s n) hw9) okX0_findName (ltb rfl) (bk_s hb) ml_RX4_169 imX0_findName seX0_findName rfl (leb rfl) (leb rfl) rfl rfl (fun r9 μ9 hq9 => ?_)
      obtain ⟨hr9, hm9⟩ := hq9; rw [hr9, hm9]; clear hr9 hm9 r9 μ9
      refine w_istore_n (i := 2) (l2 := [some (.ref r), some (.int (nI (kc k))), some (.int (oI (fnm M (wd s n))))]) hX dX4_toldName_34 rfl (ltb rfl) rfl rfl ?_
      refine w_aload_n (i := 0) hX dX4_toldName_35 rfl rfl ?_
      refine w_iload_n (i := 2) hX dX4_toldName_36 rfl rfl ?_
      refine w_iconst hX dX4_toldName_37 kI_m1 ?_
      refine wc_icmp_eq (tgt := 58) hX dX4_toldName_38 (by decide) (fun c4 => ?_) (fun c4 => ?_)
      · refine w_iconst hX dX4_toldName_58 kI_0 ?_
        refine w_iconst hX dX4_toldName_59 kI_2 ?_
        refine w_callVI (As := [.int (nI 0), .int (nI 2)]) (rest := []) (ci := 4) (o := r) (k2 := 0) (n2 := 0) hX dX4_toldName_60 (s_r_check0 Γ μ r t b s hr htr hrb n 2 hS.2.2.1) okX4_check (ltb rfl) (rd_s hr.1) ml_RX4_86 imX4_check seX4_check rfl (leb rfl) (leb rfl) rfl rfl (fun r9 μ9 hq9 => ?_)
        obtain ⟨hr9, hm9⟩ := hq9; rw [hr9, hm9]; clear hr9 hm9 r9 μ9
        refine wn_if_ne (tgt := 68) hX dX4_toldName_63 (by decide) (by first | omega | (have := kd_le (s := s) (n := n); omega) | (have := kc_le (a := M.2.2.1 i9); have := kc_le (a := k); omega)) (fun c5 => ?_) (fun c5 => ?_)
        · exact absurd c5 (by decide)
        · refine w_iconst hX dX4_toldName_66 kI_m1 ?_
          exact w_iret hX hE dX4_toldName_67 (Or.inl rfl) rfl (Or.inr ⟨ft s 2 n, by unfold pNm; rw [if_neg (by omega), (oI_m1 (fun v h => by have := fnmF_some _ _ _ h; have := hc.2.1; omega)).mp c4], rfl, rfl⟩)
      · obtain ⟨i9, hf9⟩ : ∃ i, fnm M (wd s n) = some i := by cases h9 : fnm M (wd s n) with | none => rw [h9] at c4; exact absurd rfl c4 | some v => exact ⟨v, rfl⟩
        have hfl := fnmF_some _ _ _ hf9; have hM := hc.2.1
        have hi9 := hc.2.2 i9 (by omega)
        refine w_locs (ls2 := [some (.ref r), some (.int (nI (kc k))), some (.int (nI i9))]) (by rw [hf9]; rfl) ?_
        refine w_aload_n (i := 0) hX dX4_toldName_41 rfl rfl ?_
        refine w_getR (q := b) hX dX4_toldName_42 fo_RX4_41 rfl (rd_s hr.1) hr.2.2.1 ?_
        refine w_getR (q := b + 8) hX dX4_toldName_45 fo_RX4_177 rfl (bk_s hb) (bk_r7 hb) ?_
        refine w_iload_n (i := 2) hX dX4_toldName_48 rfl rfl ?_
        refine w_ialdN hX dX4_toldName_49 (bk_a8 hb) (by omega) (by omega) ?_
        refine w_top (y := nI (kc (M.2.2.1 i9))) hi9.2.2.1 ?_
        refine w_iload_n (i := 1) hX dX4_toldName_50 rfl rfl ?_
        refine wn_icmp_ne (tgt := 58) hX dX4_toldName_51 (by decide) (by first | omega | (have := kd_le (s := s) (n := n); omega) | (have := kc_le (a := M.2.2.1 i9); have := kc_le (a := k); omega)) (by first | omega | (have := kd_le (s := s) (n := n); omega) | (have := kc_le (a := M.2.2.1 i9); have := kc_le (a := k); omega)) (fun c6 => ?_) (fun c6 => ?_)
        · refine w_iconst hX dX4_toldName_58 kI_0 ?_
          refine w_iconst hX dX4_toldName_59 kI_2 ?_
          refine w_callVI (As := [.int (nI 0), .int (nI 2)]) (rest := []) (ci := 4) (o := r) (k2 := 0) (n2 := 0) hX dX4_toldName_60 (s_r_check0 Γ μ r t b s hr htr hrb n 2 hS.2.2.1) okX4_check (ltb rfl) (rd_s hr.1) ml_RX4_86 imX4_check seX4_check rfl (leb rfl) (leb rfl) rfl rfl (fun r9 μ9 hq9 => ?_)
          obtain ⟨hr9, hm9⟩ := hq9; rw [hr9, hm9]; clear hr9 hm9 r9 μ9
          refine wn_if_ne (tgt := 68) hX dX4_toldName_63 (by decide) (by first | omega | (have := kd_le (s := s) (n := n); omega) | (have := kc_le (a := M.2.2.1 i9); have := kc_le (a := k); omega)) (fun c7 => ?_) (fun c7 => ?_)
          · exact absurd c7 (by decide)
          · refine w_iconst hX dX4_toldName_66 kI_m1 ?_
            exact w_iret hX hE dX4_toldName_67 (Or.inl rfl) rfl (Or.inr ⟨ft s 2 n, by unfold pNm; rw [if_neg (by omega), hf9]; show (if _ then _ else _) = _; rw [if_neg (fun e => by have h8 := (kc_inj hi9.2.2.2.1 hk).mpr e; omega)], rfl, rfl⟩)
        · refine w_iconst hX dX4_toldName_54 kI_1 ?_
          refine w_goto (tgt := 59) hX dX4_toldName_55 (by decide) ?_
          refine w_iconst hX dX4_toldName_59 kI_2 ?_
          refine w_callVI (As := [.int (nI 1), .int (nI 2)]) (rest := []) (ci := 4) (o := r) (k2 := 0) (n2 := 0) hX dX4_toldName_60 (s_r_check1 Γ μ r t b s hr htr hrb n 2 hS.2.2.1) okX4_check (ltb rfl) (rd_s hr.1) ml_RX4_86 imX4_check seX4_check rfl (leb rfl) (leb rfl) rfl rfl (fun r9 μ9 hq9 => ?_)
          obtain ⟨hr9, hm9⟩ := hq9; rw [hr9, hm9]; clear hr9 hm9 r9 μ9
          refine wn_if_ne (tgt := 68) hX dX4_toldName_63 (by decide) (by first | omega | (have := kd_le (s := s) (n := n); omega) | (have := kc_le (a := M.2.2.1 i9); have := kc_le (a := k); omega)) (fun c8 => ?_) (fun c8 => ?_)
          · refine w_aload_n (i := 0) hX dX4_toldName_68 rfl rfl ?_
            refine w_getR (q := b) hX dX4_toldName_69 fo_RX4_41 rfl (rd_s hr.1) hr.2.2.1 ?_
            refine w_getR (q := b + 9) hX dX4_toldName_72 fo_RX4_180 rfl (bk_s hb) (bk_r8 hb) ?_
            refine w_iload_n (i := 2) hX dX4_toldName_75 rfl rfl ?_
            refine w_ialdN hX dX4_toldName_76 (bk_a9 hb) (by omega) (by omega) ?_
            refine w_top (y := nI (M.2.2.2 i9)) hi9.2.2.2.2 ?_
            exact w_iret hX hE dX4_toldName_77 (Or.inl rfl) rfl (Or.inl ⟨M.2.2.2 i9, by unfold pNm; rw [if_neg (by omega), hf9]; show (if _ then _ else _) = _; rw [if_pos ((kc_inj hi9.2.2.2.1 hk).mp (by omega))], rfl, rfl⟩)
          · exact absurd c8 (by decide)
    · exact absurd c3 (by decide)
set_option maxHeartbeats 1000000 in
theorem s_r_new (Γ : Gm) (μ : Mem) (r t b : Nat) (s : Tp) (hr : RD μ r t b s) (htr : t + 1 < r) (hrb : r + 2 < b) (n : Nat) (hS : RS μ r s n) (hb : isBk μ b) (M : NM) (hc : CN μ b M) (k v : Nat) (hk : k ≤ 3) (hM : M.1 < 32) : SpI Γ MX4_takeNewName 3 0 0 [.ref r, .int (nI (kc k)), .int (nI v)] μ (fun q9 μ2 => (kd s n = 4 ∧ fnm M (wd s n) = none ∧ q9 = bI true ∧ RS μ2 r s (n + 1) ∧ CN μ2 b (addM M (wd s n) k v) ∧ same (fun o2 k2 => SA r o2 k2 ∨ ((b + 7 ≤ o2 ∧ o2 ≤ b + 9) ∨ (o2 = b ∧ k2 = 15))) μ μ2) ∨ (kd s n ≠ 4 ∧ q9 = bI false ∧ μ2 = sI μ r 5 (nI (ft s 1 n))) ∨ (kd s n = 4 ∧ (∃ i, fnm M (wd s n) = some i) ∧ q9 = bI false ∧ μ2 = sI μ r 5 (nI (ft s 3 n)))) := by
  refine SpI.of okX4_takeNewName rfl [some (.ref r), some (.int (nI (kc k))), some (.int (nI v))] ⟨rfl, rfl, rfl, trivial⟩ (leb rfl) (leb rfl) (fun X hX hE hnm => ?_)
  refine w_aload_n (i := 0) hX dX4_takeNewName_0 rfl rfl ?_
  refine w_aload_n (i := 0) hX dX4_takeNewName_1 rfl rfl ?_
  refine w_getI hX dX4_takeNewName_2 fo_RX4_62 rfl (rd_s hr.1) ?_
  refine w_top (y := nI (kd s n)) hS.2.1 ?_
  refine w_iconst hX dX4_takeNewName_5 kI_4 ?_
  refine wn_icmp_ne (tgt := 13) hX dX4_takeNewName_6 (by decide) (by have := kd_le (s := s) (n := n); omega) (by have := kd_le (s := s) (n := n); omega) (fun c1 => ?_) (fun c1 => ?_)
  · refine w_iconst hX dX4_takeNewName_13 kI_0 ?_
    refine w_iconst hX dX4_takeNewName_14 kI_1 ?_
    refine w_callVI (As := [.int (nI 0), .int (nI 1)]) (rest := []) (ci := 4) (o := r) (k2 := 0) (n2 := 0) hX dX4_takeNewName_15 (s_r_check0 Γ μ r t b s hr htr hrb n 1 hS.2.2.1) okX4_check (ltb rfl) (rd_s hr.1) ml_RX4_86 imX4_check seX4_check rfl (leb rfl) (leb rfl) rfl rfl (fun r9 μ9 hq9 => ?_)
    obtain ⟨hr9, hm9⟩ := hq9; rw [hr9, hm9]; clear hr9 hm9 r9 μ9
    refine wn_if_eq (tgt := 49) hX dX4_takeNewName_18 (by decide) (by have := kd_le (s := s) (n := n); omega) (fun c2 => ?_) (fun c2 => ?_)
    · refine w_iconst hX dX4_takeNewName_49 kI_0 ?_
      exact w_iret hX hE dX4_takeNewName_50 (Or.inl rfl) rfl (Or.inr (Or.inl ⟨by omega, rfl, rfl⟩))
    · exact absurd c2 (by decide)
  · refine w_iconst hX dX4_takeNewName_9 kI_1 ?_
    refine w_goto (tgt := 14) hX dX4_takeNewName_10 (by decide) ?_
    refine w_iconst hX dX4_takeNewName_14 kI_1 ?_
    refine w_callVI (As := [.int (nI 1), .int (nI 1)]) (rest := []) (ci := 4) (o := r) (k2 := 0) (n2 := 0) hX dX4_takeNewName_15 (s_r_check1 Γ μ r t b s hr htr hrb n 1 hS.2.2.1) okX4_check (ltb rfl) (rd_s hr.1) ml_RX4_86 imX4_check seX4_check rfl (leb rfl) (leb rfl) rfl rfl (fun r9 μ9 hq9 => ?_)
    obtain ⟨hr9, hm9⟩ := hq9; rw [hr9, hm9]; clear hr9 hm9 r9 μ9
    refine wn_if_eq (tgt := 49) hX dX4_takeNewName_18 (by decide) (by have := kd_le (s := s) (n := n); omega) (fun c3 => ?_) (fun c3 => ?_)
    · exact absurd c3 (by decide)
    · have hw9 := wd_lt (s := s) (n := n) (by omega)
      refine w_aload_n (i := 0) hX dX4_takeNewName_21 rfl rfl ?_
      refine w_aload_n (i := 0) hX dX4_takeNewName_22 rfl rfl ?_
      refine w_getR (q := b) hX dX4_takeNewName_23 fo_RX4_41 rfl (rd_s hr.1) hr.2.2.1 ?_
      refine w_aload_n (i := 0) hX dX4_takeNewName_26 rfl rfl ?_
      refine w_getL hX dX4_takeNewName_27 fo_RX4_165 rfl (rd_s hr.1) ?_
      refine w_topL (y := lN (wd s n)) (hS.2.2.2.2 (by omega)) ?_
      refine w_callVI (As := [.long (lN (wd s n))]) (rest := [.ref r]) (ci := 0) (o := b) (k2 := 0) (n2 := 0) hX dX4_takeNewName_30 (s_b_find Γ μ b hb M hc (wd s n) hw9) okX0_findName (ltb rfl) (bk_s hb) ml_RX4_169 imX0_findName seX0_findName rfl (leb rfl) (leb rfl) rfl rfl (fun r9 μ9 hq9 => ?_)
      obtain ⟨hr9, hm9⟩ := hq9; rw [hr9, hm9]; clear hr9 hm9 r9 μ9
      refine w_iconst hX dX4_takeNewName_33 kI_m1 ?_
      refine wc_icmp_ne (tgt := 41) hX dX4_takeNewName_34 (by decide) (fun c4 => ?_) (fun c4 => ?_)
      · refine w_iconst hX dX4_takeNewName_41 kI_0 ?_
        refine w_iconst hX dX4_takeNewName_42 kI_3 ?_
        refine w_callVI (As := [.int (nI 0), .int (nI 3)]) (rest := []) (ci := 4) (o := r) (k2 := 0) (n2 := 0) hX dX4_takeNewName_43 (s_r_check0 Γ μ r t b s hr htr hrb n 3 hS.2.2.1) okX4_check (ltb rfl) (rd_s hr.1) ml_RX4_86 imX4_check seX4_check rfl (leb rfl) (leb rfl) rfl rfl (fun r9 μ9 hq9 => ?_)
        obtain ⟨hr9, hm9⟩ := hq9; rw [hr9, hm9]; clear hr9 hm9 r9 μ9
        refine wn_if_ne (tgt := 51) hX dX4_takeNewName_46 (by decide) (by have := kd_le (s := s) (n := n); omega) (fun c5 => ?_) (fun c5 => ?_)
        · exact absurd c5 (by decide)
        · refine w_iconst hX dX4_takeNewName_49 kI_0 ?_
          exact w_iret hX hE dX4_takeNewName_50 (Or.inl rfl) rfl (Or.inr (Or.inr ⟨by omega, (by cases h9 : fnm M (wd s n) with | none => rw [h9] at c4; exact absurd rfl c4 | some i => exact ⟨i, rfl⟩), rfl, rfl⟩))
      · refine w_iconst hX dX4_takeNewName_37 kI_1 ?_
        refine w_goto (tgt := 42) hX dX4_takeNewName_38 (by decide) ?_
        refine w_iconst hX dX4_takeNewName_42 kI_3 ?_
        refine w_callVI (As := [.int (nI 1), .int (nI 3)]) (rest := []) (ci := 4) (o := r) (k2 := 0) (n2 := 0) hX dX4_takeNewName_43 (s_r_check1 Γ μ r t b s hr htr hrb n 3 hS.2.2.1) okX4_check (ltb rfl) (rd_s hr.1) ml_RX4_86 imX4_check seX4_check rfl (leb rfl) (leb rfl) rfl rfl (fun r9 μ9 hq9 => ?_)
        obtain ⟨hr9, hm9⟩ := hq9; rw [hr9, hm9]; clear hr9 hm9 r9 μ9
        refine wn_if_ne (tgt := 51) hX dX4_takeNewName_46 (by decide) (by have := kd_le (s := s) (n := n); omega) (fun c6 => ?_) (fun c6 => ?_)
        · refine w_aload_n (i := 0) hX dX4_takeNewName_51 rfl rfl ?_
          refine w_getR (q := b) hX dX4_takeNewName_52 fo_RX4_41 rfl (rd_s hr.1) hr.2.2.1 ?_
          refine w_aload_n (i := 0) hX dX4_takeNewName_55 rfl rfl ?_
          refine w_getL hX dX4_takeNewName_56 fo_RX4_165 rfl (rd_s hr.1) ?_
          refine w_topL (y := lN (wd s n)) (hS.2.2.2.2 (by omega)) ?_
          refine w_iload_n (i := 1) hX dX4_takeNewName_59 rfl rfl ?_
          refine w_iload_n (i := 2) hX dX4_takeNewName_60 rfl rfl ?_
          refine w_callVV (As := [.long (lN (wd s n)), .int (nI (kc k)), .int (nI v)]) (rest := []) (ci := 0) (o := b) (k2 := 0) (n2 := 0) hX dX4_takeNewName_61 (s_b_addN Γ μ b hb M hc (wd s n) k v hw9 hk hM) okX0_addName (ltb rfl) (bk_s hb) ml_RX4_173 imX0_addName seX0_addName rfl (leb rfl) (leb rfl) rfl rfl (fun ν1 hq9 => ?_)
          obtain ⟨hc1, hs1⟩ := hq9
          have hr1 := hr.sm hs1 (fun o k h => by omega)
          refine w_aload_n (i := 0) hX dX4_takeNewName_64 rfl rfl ?_
          refine w_callVV (As := []) (rest := []) (ci := 4) (o := r) (k2 := 0) (n2 := 0) hX dX4_takeNewName_65 (s_r_advance Γ ν1 r t b s hr1 htr hrb (n + 1) (by rw [(hs1.2.2 _ _ (fun h => by omega)).1]; exact hS.1)) okX4_advance (ltb rfl) (rd_s hr1.1) ml_RX4_57 imX4_advance seX4_advance rfl (leb rfl) (leb rfl) rfl rfl (fun ν hq9 => ?_)
          obtain ⟨hS2, hs2⟩ := hq9
          refine w_iconst hX dX4_takeNewName_68 kI_1 ?_
          exact w_iret hX hE dX4_takeNewName_69 (Or.inl rfl) rfl (Or.inl ⟨by omega, (oI_m1 (fun v h => by have := fnmF_some _ _ _ h; have := hc.2.1; omega)).mp c4, rfl, hS2, hc1.sm hs2 (fun o k h => by unfold SA at h; omega), (hs1.up (fun o k h => Or.inr h)).tr (hs2.up (fun o k h => Or.inl h))⟩)
        · exact absurd c6 (by decide)
