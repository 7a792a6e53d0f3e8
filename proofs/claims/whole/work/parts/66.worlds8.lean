def E_open (B : Nat → Nat) : Nat → Nat := bw (fun q => decide (h01 B 0 q = h01 B 1 q))
theorem E_sure_m {B : Nat → Nat} (hW : WB B) {q : Nat} (hq : q < B 352) : E_sure B q = -1 ↔ h01 B 0 q = h01 B 1 q := by
  unfold E_sure
  by_cases h : h01 B 0 q = h01 B 1 q
  · rw [if_pos h]; exact ⟨fun _ => h, fun _ => rfl⟩
  · rw [if_neg h]
    have h2 : mcB B (2 * q + if h01 B 0 q = true then 0 else 1) < 2 ^ 30 := mcB_le hW (by split <;> omega)
    exact ⟨fun e => absurd e (nI_m1 (by omega)), fun e => absurd e h⟩
set_option maxHeartbeats 1000000 in
theorem s_w_unsure (Γ : Gm) (μ : Mem) (w : Nat) (B : Nat → Nat) (hw : isWd μ w) (hW : WB B) (hc : wCon μ w B)  : SpI Γ MX7_unsure 1 0 0 [.ref w] μ (fun r μ2 => r = nI (E_open B (B 352)) ∧ μ2 = μ) := by
  refine SpI.of okX7_unsure rfl [some (.ref w), none, none] ⟨rfl, trivial⟩ (leb rfl) (leb rfl) (fun X hX hE hnm => ?_)
  refine w_iconst hX dX7_unsure_0 kI_0 ?_
  refine w_istore_n (i := 1) (l2 := [some (.ref w), some (.int (nI 0)), none]) hX dX7_unsure_1 rfl (ltb rfl) rfl rfl ?_
  refine w_iconst hX dX7_unsure_2 kI_0 ?_
  refine w_istore_n (i := 2) (l2 := [some (.ref w), some (.int (nI 0)), some (.int (nI 0))]) hX dX7_unsure_3 rfl (ltb rfl) rfl rfl ?_
  have hP12 := hW.2.2.2.2.1.1
  have loop : ∀ k, k ≤ B 352 → WP Γ X 0 0 4 [some (.ref w), some (.int (nI (E_open B k))), some (.int (nI k))] [] μ := by
    refine loopU (B 352) ?_
    intro k hk ih
    refine w_iload_n (i := 2) hX dX7_unsure_4 rfl rfl ?_
    refine w_aload_n (i := 0) hX dX7_unsure_5 rfl rfl ?_
    refine w_getI hX dX7_unsure_6 fo_RX7_38 rfl (wd_s hw) ?_
    refine w_top (y := nI (B 352)) hc.1 ?_
    refine wn_icmp_ge (tgt := 33) hX dX7_unsure_9 (by decide) (by omega) (by omega) (fun c1 => ?_) (fun c1 => ?_)
    · refine w_iload_n (i := 1) hX dX7_unsure_33 rfl rfl ?_
      exact w_iret hX hE dX7_unsure_34 (Or.inl rfl) rfl ⟨by rw [show k = B 352 by omega], rfl⟩
    · refine w_aload_n (i := 0) hX dX7_unsure_12 rfl rfl ?_
      refine w_iload_n (i := 2) hX dX7_unsure_13 rfl rfl ?_
      refine w_callVI (As := [.int (nI k)]) (rest := []) (ci := 7) (o := w) (k2 := 0) (n2 := 0) hX dX7_unsure_14 (s_w_sure Γ μ w B hw hW hc k (by omega)) okX7_sureMoment (ltb rfl) (wd_s hw) ml_RX7_74 imX7_sureMoment seX7_sureMoment rfl (leb rfl) (leb rfl) rfl rfl (fun r9 μ9 hq9 => ?_)
      obtain ⟨hr9, hm9⟩ := hq9; rw [hr9, hm9]; clear hr9 hm9 r9 μ9
      refine w_iconst hX dX7_unsure_17 kI_m1 ?_
      refine wc_icmp_ne (tgt := 27) hX dX7_unsure_18 (by decide) (fun c2 => ?_) (fun c2 => ?_)
      · refine w_iincN (w := 1) (l2 := [some (.ref w), some (.int (nI (E_open B k))), some (.int (nI (k + 1)))]) hX dX7_unsure_27 rfl kI_1 rfl rfl ?_
        refine w_goto (tgt := 4) hX dX7_unsure_30 (by decide) ?_
        have e9 : E_open B (k + 1) = E_open B k := by unfold E_open; rw [bw_S, if_neg (fun h9 => c2 ((E_sure_m hW (by omega)).mpr (of_decide_eq_true h9)))]
        refine w_locs (ls2 := [some (.ref w), some (.int (nI (E_open B (k + 1)))), some (.int (nI (k + 1)))]) (by rw [e9]) ?_
        exact ih (by omega)
      · refine w_iload_n (i := 1) hX dX7_unsure_21 rfl rfl ?_
        refine w_iconst hX dX7_unsure_22 kI_1 ?_
        refine w_iload_n (i := 2) hX dX7_unsure_23 rfl rfl ?_
        refine w_ishl hX dX7_unsure_24 ?_
        refine w_top (y := nI (2 ^ k)) (shl_nI (by omega)) ?_
        refine w_ior hX dX7_unsure_25 ?_
        refine w_top (y := nI (E_open B k ||| 2 ^ k)) (fa_or _ _) ?_
        refine w_istore_n (i := 1) (l2 := [some (.ref w), some (.int (nI (E_open B k ||| 2 ^ k))), some (.int (nI k))]) hX dX7_unsure_26 rfl (ltb rfl) rfl rfl ?_
        refine w_iincN (w := 1) (l2 := [some (.ref w), some (.int (nI (E_open B k ||| 2 ^ k))), some (.int (nI (k + 1)))]) hX dX7_unsure_27 rfl kI_1 rfl rfl ?_
        refine w_goto (tgt := 4) hX dX7_unsure_30 (by decide) ?_
        have e9 : E_open B (k + 1) = E_open B k ||| 2 ^ k := by unfold E_open; rw [bw_S, if_pos (decide_eq_true ((E_sure_m hW (by omega)).mp c2))]
        refine w_locs (ls2 := [some (.ref w), some (.int (nI (E_open B (k + 1)))), some (.int (nI (k + 1)))]) (by rw [e9]) ?_
        exact ih (by omega)
  exact loop 0 (Nat.zero_le _)
