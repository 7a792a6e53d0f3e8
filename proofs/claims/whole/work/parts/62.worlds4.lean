theorem FB_tb {B : Nat → Nat} {i : Nat} : (FB B).testBit i = decide (i < B 352) := by unfold FB; rw [Nat.testBit_two_pow_sub_one]
theorem cv_all {V : Nat → Bool} {n : Nat} (h : ∀ i, i < n → V i = true) : ∀ k, k ≤ n → cvV V k = k := by
  intro k
  induction k with
  | zero => intro _; rfl
  | succ k ih => intro hk; simp only [cvV]; rw [ih (by omega), if_pos (h k (by omega))]
theorem cv_FB {B : Nat → Nat} : ∀ k, k ≤ B 352 → cvV (fun i => (FB B).testBit i) k = k := cv_all (fun i hi => by rw [FB_tb]; simp [hi])
theorem szB_F {B : Nat → Nat} : szB B (FB B) = B 352 := cv_FB _ (Nat.le_refl _)
theorem meB_F {B : Nat → Nat} {i : Nat} (hi : i < B 352) : meB B (FB B) i = i := nwV_eq (V := fun i => (FB B).testBit i) (by rw [FB_tb]; simp [hi]) (cv_FB i (by omega)) _ hi
theorem FB_lt {B : Nat → Nat} (hW : WB B) : FB B < 4096 := by have := p12 hW.2.2.2.2.1.1; have := Nat.two_pow_pos (B 352); unfold FB; omega
set_option maxHeartbeats 1000000 in
theorem s_w_findAll (Γ : Gm) (μ : Mem) (w : Nat) (hw : isWd μ w) (B : Nat → Nat) (hW : WB B) (hP : gI μ w 6 = nI (B 352)) (hcl : ∀ i, i < 2 * B 352 → gI μ (w + 2) i = nI (bw (clB B i) 24)) (hf0 : fnR μ w B 0) : SpV Γ MX7_findAll 2 0 0 [.ref w] μ (fun μ2 => fnR μ2 w B (2 ^ B 352) ∧ same (fun o k => o = w + 3 ∨ o = w + 4 ∨ o = w + 5 ∨ (o = w ∧ k = 7)) μ μ2) := by
  refine SpV.of okX7_findAll rfl [some (.ref w), none, none, none] ⟨rfl, trivial⟩ (leb rfl) (leb rfl) (fun X hX hE hnm => ?_)
  have hP12 := hW.2.2.2.2.1.1
  refine w_aload_n (i := 0) hX dX7_findAll_0 rfl rfl ?_
  refine w_iconst hX dX7_findAll_1 kI_1 ?_
  refine w_aload_n (i := 0) hX dX7_findAll_2 rfl rfl ?_
  refine w_getI hX dX7_findAll_3 fo_RX7_38 rfl (wd_s hw) ?_
  refine w_top (y := nI (B 352)) hP ?_
  refine w_ishl hX dX7_findAll_6 ?_
  refine w_iconst hX dX7_findAll_7 kI_1 ?_
  refine w_isub hX dX7_findAll_8 ?_
  refine w_top (y := nI (FB B)) (mask_nI (by omega)) ?_
  refine w_callVI (As := [.int (nI (FB B))]) (rest := []) (ci := 7) (o := w) (k2 := 0) (n2 := 0) hX dX7_findAll_9 (s_w_select Γ μ w hw (B 352) hP hP12 (FB B) (by have := FB_lt hW; omega)) okX7_selectMembers (ltb rfl) (wd_s hw) ml_RX7_122 imX7_selectMembers seX7_selectMembers rfl (leb rfl) (leb rfl) rfl rfl (fun r9 νs hq9 => ?_)
  obtain ⟨hr9, hme, hs⟩ := hq9; rw [hr9]
  have hws := hs.isWd hw
  have hsz := szB_le (bits := FB B) hW
  have h4096 := p12 hsz
  refine w_istore_n (i := 1) (l2 := [some (.ref w), some (.int (nI (szB B (FB B)))), none, none]) hX dX7_findAll_12 rfl (ltb rfl) rfl rfl ?_
  refine w_iconst hX dX7_findAll_13 kI_0 ?_
  refine w_istore_n (i := 2) (l2 := [some (.ref w), some (.int (nI (szB B (FB B)))), some (.int (nI 0)), none]) hX dX7_findAll_14 rfl (ltb rfl) rfl rfl ?_
  have loop : ∀ q, q ≤ 2 ^ szB B (FB B) → ∀ v, v = 2 ^ szB B (FB B) - q → ∀ ν : Mem, same (fun o k => o = w + 3 ∨ o = w + 4 ∨ (o = w ∧ k = 7)) νs ν → fnR ν w B v → WP Γ X 0 0 15 [some (.ref w), some (.int (nI (szB B (FB B)))), some (.int (nI v)), none] [] ν := by
    intro q
    induction q using Nat.strongRecOn with
    | ind q ih =>
      intro hq v hv ν hsm hfn
      have hwk := hsm.isWd hws
      refine w_iload_n (i := 2) hX dX7_findAll_15 rfl rfl ?_
      refine w_iconst hX dX7_findAll_16 kI_1 ?_
      refine w_iload_n (i := 1) hX dX7_findAll_17 rfl rfl ?_
      refine w_ishl hX dX7_findAll_18 ?_
      refine w_top (y := nI (2 ^ szB B (FB B))) (shl_nI (by omega)) ?_
      refine wn_icmp_ge (tgt := 56) hX dX7_findAll_19 (by decide) (by omega) (by omega) (fun c1 => ?_) (fun c1 => ?_)
      · exact w_vret hX hE dX7_findAll_56 (Or.inl rfl) ⟨by rw [show v = 2 ^ szB B (FB B) by omega, szB_F] at hfn; exact hfn, (hs.up (T := (fun o k => o = w + 3 ∨ o = w + 4 ∨ o = w + 5 ∨ (o = w ∧ k = 7))) (fun o k h => by omega)).tr (hsm.up (fun o k h => by omega))⟩
      · refine w_aload_n (i := 0) hX dX7_findAll_22 rfl rfl ?_
        refine w_iload_n (i := 2) hX dX7_findAll_23 rfl rfl ?_
        refine w_iload_n (i := 1) hX dX7_findAll_24 rfl rfl ?_
        refine w_callVI (As := [.int (nI v), .int (nI (szB B (FB B)))]) (rest := []) (ci := 7) (o := w) (k2 := 0) (n2 := 0) hX dX7_findAll_25 (s_w_good Γ ν w hwk (szB B (FB B)) v hsz (by omega) (clB B) (meB B (FB B)) (B 352) hP12 (fun i hi => meB_lt hi) (fun i hi => by rw [(hsm.2.2 _ _ (fun h => by omega)).1]; exact hme i hi) (fun i hi => by rw [(hsm.2.2 _ _ (fun h => by omega)).1, (hs.2.2 _ _ (fun h => by omega)).1]; exact hcl i hi)) okX7_goodMembers (ltb rfl) (wd_s hwk) ml_RX7_125 imX7_goodMembers seX7_goodMembers rfl (leb rfl) (leb rfl) rfl rfl (fun r9 μ9 hq9 => ?_)
        obtain ⟨g, hr9, hm9, hg⟩ := hq9; rw [hr9, hm9]
        clear hr9 hm9 r9 μ9
        have hgn : g ≤ szB B (FB B) := by rcases hg with h | h <;> omega
        refine w_istore_n (i := 3) (l2 := [some (.ref w), some (.int (nI (szB B (FB B)))), some (.int (nI v)), some (.int (nI g))]) hX dX7_findAll_28 rfl (ltb rfl) rfl rfl ?_
        refine w_iload_n (i := 3) hX dX7_findAll_29 rfl rfl ?_
        refine w_iload_n (i := 1) hX dX7_findAll_30 rfl rfl ?_
        refine wn_icmp_ne (tgt := 42) hX dX7_findAll_31 (by decide) (by omega) (by omega) (fun c2 => ?_) (fun c2 => ?_)
        · refine w_iload_n (i := 2) hX dX7_findAll_42 rfl rfl ?_
          refine w_iload_n (i := 1) hX dX7_findAll_43 rfl rfl ?_
          refine w_iload_n (i := 3) hX dX7_findAll_44 rfl rfl ?_
          refine w_callSI (As := [.int (nI (szB B (FB B))), .int (nI g)]) (rest := [.int (nI v)]) (k2 := 0) (n2 := 0) hX dX7_findAll_45 (s_w_alike Γ ν (szB B (FB B)) g hsz (by omega)) okX7_alikeBelow ml_RX7_132 stX7_alikeBelow rfl (leb rfl) (leb rfl) rfl rfl (fun r9 μ9 hq9 => ?_)
          obtain ⟨hr9, hm9⟩ := hq9; rw [hr9, hm9]; clear hr9 hm9 r9 μ9
          refine w_ior hX dX7_findAll_48 ?_
          refine w_top (y := nI ((v ||| (2 ^ (szB B (FB B) - 1 - g) - 1)))) (fa_or _ _) ?_
          refine w_istore_n (i := 2) (l2 := [some (.ref w), some (.int (nI (szB B (FB B)))), some (.int (nI ((v ||| (2 ^ (szB B (FB B) - 1 - g) - 1))))), some (.int (nI g))]) hX dX7_findAll_49 rfl (ltb rfl) rfl rfl ?_
          refine w_iincN (w := 1) (l2 := [some (.ref w), some (.int (nI (szB B (FB B)))), some (.int (nI ((v ||| (2 ^ (szB B (FB B) - 1 - g) - 1)) + 1))), some (.int (nI g))]) hX dX7_findAll_50 rfl kI_1 rfl rfl ?_
          refine w_goto (tgt := 15) hX dX7_findAll_53 (by decide) ?_
          refine w_sub (l2 := [some (.ref w), some (.int (nI (szB B (FB B)))), some (.int (nI ((v ||| (2 ^ (szB B (FB B) - 1 - g) - 1)) + 1))), none]) (by simp [lsub]) (leb rfl) ?_
          have hgb : g < szB B (FB B) ∧ bdu (clB B) (meB B (FB B)) (v / 2 ^ (szB B (FB B) - 1 - g)) g = true := by rcases hg with h | h; (exact absurd h.1 (by omega)); exact h
          have hsk := VS_skip hgb.1 hgb.2
          have hol := or_lt (v := v) (n := szB B (FB B)) (by omega) hgb.1
          exact ih (2 ^ szB B (FB B) - ((v ||| (2 ^ (szB B (FB B) - 1 - g) - 1)) + 1)) (by omega) (by omega) _ (by omega) ν hsm (fnR_skip hfn (by omega) (fun x h1 h2 => hsk.2 x h1 h2))
        · refine w_aload_n (i := 0) hX dX7_findAll_34 rfl rfl ?_
          refine w_iload_n (i := 2) hX dX7_findAll_35 rfl rfl ?_
          refine w_callVV (As := [.int (nI v)]) (rest := []) (ci := 7) (o := w) (k2 := 0) (n2 := 0) hX dX7_findAll_36 (s_w_add Γ ν w hwk B hW (by rw [(hsm.2.2 _ _ (fun h => by omega)).1, (hs.2.2 _ _ (fun h => by omega)).1]; exact hP) v (by omega) (by rcases hg with h | h; (exact h.2); exact absurd h.1 (by omega)) hfn) okX7_addWorld (ltb rfl) (wd_s hwk) ml_RX7_128 imX7_addWorld seX7_addWorld rfl (leb rfl) (leb rfl) rfl rfl (fun νa hq9 => ?_)
          obtain ⟨hfa, hsa⟩ := hq9
          have hwa := hsa.isWd hwk
          refine w_goto (tgt := 50) hX dX7_findAll_39 (by decide) ?_
          refine w_iincN (w := 1) (l2 := [some (.ref w), some (.int (nI (szB B (FB B)))), some (.int (nI (v + 1))), some (.int (nI g))]) hX dX7_findAll_50 rfl kI_1 rfl rfl ?_
          refine w_goto (tgt := 15) hX dX7_findAll_53 (by decide) ?_
          refine w_sub (l2 := [some (.ref w), some (.int (nI (szB B (FB B)))), some (.int (nI (v + 1))), none]) (by simp [lsub]) (leb rfl) ?_
          exact ih (2 ^ szB B (FB B) - (v + 1)) (by omega) (by omega) (v + 1) (by omega) νa (hsm.tr hsa) hfa
  exact loop (2 ^ szB B (FB B)) (Nat.le_refl _) 0 (by omega) νs same.rf ⟨fun k hk => by rw [(hs.2.2 _ _ (fun h => by omega)).2]; exact hf0.1 k hk, by rw [(hs.2.2 _ _ (fun h => by omega)).1]; exact hf0.2.1, fun i hi => by rw [(hs.2.2 _ _ (fun h => by omega)).1]; exact hf0.2.2 i hi⟩
