theorem cmp1 {x b : Nat} (hx : x < 2 ^ 64) (hb : b < 64) : lg_cmp (((lN x).toUInt64 >>> ((nI b).toInt64.toUInt64 &&& Int64.toUInt64 63)).toInt64 &&& (1 : Int64)) (1 : Int64) = nI 0 ↔ x.testBit b = true := by
  rw [lM_ushr hx hb, show (1 : Int64) = lN 1 from rfl, lM_and]
  have h1 : x / 2 ^ b &&& 1 = if x.testBit b = true then 1 else 0 := by rw [Nat.and_one_is_mod, tb_dm]
  rw [h1]
  by_cases h : x.testBit b = true
  · rw [if_pos h]; exact ⟨fun _ => h, fun _ => by decide⟩
  · rw [if_neg h]; exact ⟨fun e => absurd e (by decide), fun e => absurd e h⟩
theorem cv_pcn {V : Nat → Bool} {v k : Nat} : ∀ b, b ≤ 64 → 64 * k + b ≤ v → cvV V (64 * k + b) = cvV V (64 * k) + pcn (wdF V v k) b := by
  intro b
  induction b with
  | zero => intro _ _; rfl
  | succ b ih =>
    intro hb hv
    rw [show 64 * k + (b + 1) = 64 * k + b + 1 by omega, pcn_k]
    simp only [cvV]
    rw [ih (by omega) (by omega)]
    have : (wdF V v k).testBit b = V (64 * k + b) := by unfold wdF; rw [bw_tb]; simp [show b < 64 by omega, show 64 * k + b < v by omega]
    rw [this]; omega
theorem wdF_lt {V : Nat → Bool} {v k : Nat} : wdF V v k < 2 ^ 64 := bw_lt 64
set_option maxHeartbeats 1000000 in
theorem s_w_nthBit (Γ : Gm) (μ : Mem) (x n : Nat) (hx : x < 2 ^ 64) (hn : n < pcn x 64) : SpI Γ MX7_nthBit 0 0 0 [.long (lN x), .int (nI n)] μ (fun r μ2 => ∃ b, r = nI b ∧ μ2 = μ ∧ b < 64 ∧ x.testBit b = true ∧ pcn x b = n) := by
  refine SpI.of okX7_nthBit rfl [some (.long (lN x)), none, some (.int (nI n)), none, none] ⟨rfl, rfl, trivial⟩ (leb rfl) (leb rfl) (fun X hX hE hnm => ?_)
  refine w_iload_n (i := 2) hX dX7_nthBit_0 rfl rfl ?_
  refine w_istore_n (i := 3) (l2 := [some (.long (lN x)), none, some (.int (nI n)), some (.int (nI n)), none]) hX dX7_nthBit_1 rfl (ltb rfl) rfl rfl ?_
  refine w_iconst hX dX7_nthBit_2 kI_0 ?_
  refine w_istore (l2 := [some (.long (lN x)), none, some (.int (nI n)), some (.int (nI n)), some (.int (nI 0))]) hX dX7_nthBit_3 (ltb rfl) rfl rfl ?_
  have loop : ∀ k, k ≤ 64 → pcn x k ≤ n → WP Γ X 0 0 5 [some (.long (lN x)), none, some (.int (nI n)), some (.int (nI (n - pcn x k))), some (.int (nI k))] [] μ := by
    refine loopU 64 ?_
    intro k hk ih hle
    have hpl := pcn_le (x := x) 64
    refine w_iload hX dX7_nthBit_5 rfl ?_
    refine w_bipush hX dX7_nthBit_7 kB_64 ?_
    refine wn_icmp_ge (tgt := 39) hX dX7_nthBit_9 (by decide) (by omega) (by omega) (fun c1 => ?_) (fun c1 => ?_)
    · refine w_iconst hX dX7_nthBit_39 kI_0 ?_
      rw [show k = 64 by omega] at hle; exact absurd hn (by omega)
    · refine w_lload_n (i := 0) hX dX7_nthBit_12 rfl rfl ?_
      refine w_iload hX dX7_nthBit_13 rfl ?_
      refine w_lushr hX dX7_nthBit_15 ?_
      refine w_lconst (v := 1) hX dX7_nthBit_16 rfl ?_
      refine w_land hX dX7_nthBit_17 ?_
      refine w_lconst (v := 1) hX dX7_nthBit_18 rfl ?_
      refine w_lcmp hX dX7_nthBit_19 ?_
      refine wc_if_ne (tgt := 33) hX dX7_nthBit_20 (by decide) (fun c2 => ?_) (fun c2 => ?_)
      · refine w_iincN (w := 1) (l2 := [some (.long (lN x)), none, some (.int (nI n)), some (.int (nI (n - pcn x k))), some (.int (nI (k + 1)))]) hX dX7_nthBit_33 rfl kI_1 rfl rfl ?_
        refine w_goto (tgt := 5) hX dX7_nthBit_36 (by decide) ?_
        have ht : ¬ x.testBit k = true := fun h9 => c2 ((cmp1 hx (show k < 64 by omega)).mpr h9)
        have e9 : pcn x (k + 1) = pcn x k := by rw [pcn_k, if_neg ht]; rfl
        refine w_locs (ls2 := [some (.long (lN x)), none, some (.int (nI n)), some (.int (nI (n - pcn x (k + 1)))), some (.int (nI (k + 1)))]) (by rw [e9]) ?_
        exact ih (by omega) (by omega)
      · refine w_iload_n (i := 3) hX dX7_nthBit_23 rfl rfl ?_
        refine wn_if_ne (tgt := 30) hX dX7_nthBit_24 (by decide) (by omega) (fun c3 => ?_) (fun c3 => ?_)
        · refine w_iincM (l2 := [some (.long (lN x)), none, some (.int (nI n)), some (.int (nI (n - pcn x k - 1))), some (.int (nI k))]) hX dX7_nthBit_30 rfl kI_m1 (by omega) rfl rfl ?_
          refine w_iincN (w := 1) (l2 := [some (.long (lN x)), none, some (.int (nI n)), some (.int (nI (n - pcn x k - 1))), some (.int (nI (k + 1)))]) hX dX7_nthBit_33 rfl kI_1 rfl rfl ?_
          refine w_goto (tgt := 5) hX dX7_nthBit_36 (by decide) ?_
          have ht := (cmp1 hx (show k < 64 by omega)).mp c2
          have e9 : pcn x (k + 1) = pcn x k + 1 := by rw [pcn_k, if_pos ht]
          refine w_locs (ls2 := [some (.long (lN x)), none, some (.int (nI n)), some (.int (nI (n - pcn x (k + 1)))), some (.int (nI (k + 1)))]) (by rw [e9, Nat.sub_sub]) ?_
          exact ih (by omega) (by omega)
        · refine w_iload hX dX7_nthBit_27 rfl ?_
          exact w_iret hX hE dX7_nthBit_29 (Or.inl rfl) rfl ⟨k, rfl, rfl, by omega, (cmp1 hx (show k < 64 by omega)).mp c2, by omega⟩
  exact loop 0 (Nat.zero_le _) (Nat.zero_le _)
