/-- the stroke dearest to p of those left, up to s -/
def dr (B : Nat → Nat) (left : Nat → Bool) (p : Nat) : Nat → Nat
  | 0 => 0
  | s + 1 => if left (s + 1) = true ∧ (dr B left p s = 0 ∨ wsh B p (dr B left p s) < wsh B p (s + 1)) then s + 1 else dr B left p s
theorem dr_le {B : Nat → Nat} {left : Nat → Bool} {p : Nat} : ∀ s, dr B left p s ≤ s := by
  intro s
  induction s with
  | zero => simp [dr]
  | succ s ih => simp only [dr]; split <;> omega
def vt (B : Nat → Nat) (left : Nat → Bool) : Nat → Nat → Nat
  | 0 => fun _ => 0
  | k + 1 => fun s => vt B left k s + if s = dr B left k 24 then 1 else 0
theorem vt_le {B : Nat → Nat} {left : Nat → Bool} {s : Nat} : ∀ k, vt B left k s ≤ k := by
  intro k
  induction k with
  | zero => simp [vt]
  | succ k ih => simp only [vt]; split <;> omega
def mst (v : Nat → Nat) : Nat → Nat
  | 0 => 1
  | s + 1 => if v (mst v s) < v (s + 2) then s + 2 else mst v s
theorem mst_le {v : Nat → Nat} : ∀ s, 1 ≤ mst v s ∧ mst v s ≤ s + 1 := by
  intro s
  induction s with
  | zero => simp [mst]
  | succ s ih => simp only [mst]; split <;> omega
def smW (B : Nat → Nat) (s : Nat) : Nat → Nat
  | 0 => 0
  | k + 1 => smW B s k + wsh B k s
def plC (B : Nat → Nat) (s : Nat) : Nat → Nat
  | 0 => 0
  | e + 1 => plC B s e + frn B s (e + 1) (B 126)
def lsC (B : Nat → Nat) (s : Nat) : Nat → Nat
  | 0 => wsh B 0 s
  | k + 1 => if wsh B (k + 1) s < lsC B s k then wsh B (k + 1) s else lsC B s k
theorem bit31 {L i : Nat} (hL : L < 2 ^ 31) (hi : i < 31) : (nI L >>> (nI i &&& 31)) &&& nI 1 = nI (if L.testBit i = true then 1 else 0) := by
  have e : ((nI i &&& 31).toBitVec.smod 32).toNat = i := s_l i (by omega)
  rw [pk_shrN hL _ _ e, show nI 1 = nI (2 ^ 1 - 1) from rfl, fa_mask]
  congr 1
  rw [Nat.testBit_eq_decide_div_mod_eq]
  simp only [Nat.pow_one]
  have : L / 2 ^ i % 2 = 0 ∨ L / 2 ^ i % 2 = 1 := by omega
  rcases this with h | h <;> simp [h]
set_option maxHeartbeats 1000000 in
theorem s_fillI (Γ : Gm) (μ : Mem) (a len : Nat) (v : Int32) (hsh : μ.1[a]? = some (.inr (0, len))) (hlen : len < 2 ^ 30) : SpV Γ MJ7_fill_53178 0 0 0 [.ref a, .int v] μ (fun μ2 => same (fun o _ => o = a) μ μ2 ∧ ∀ j, j < len → gI μ2 a j = v) := by
  refine SpV.of okJ7_fill_53178 rfl [some (.ref a), some (.int v), none, none] ⟨rfl, rfl, trivial⟩ (leb rfl) (leb rfl) (fun X hX hE hnm => ?_)
  refine w_iconst hX dJ7_fill_53178_0 kI_0 ?_
  refine w_istore_n (i := 2) (l2 := [some (.ref a), some (.int v), some (.int (nI 0)), none]) hX dJ7_fill_53178_1 rfl (ltb rfl) rfl rfl ?_
  refine w_aload_n (i := 0) hX dJ7_fill_53178_2 rfl rfl ?_
  refine w_alen (len := len) hX (ltb rfl) dJ7_fill_53178_3 hsh ?_
  refine w_istore_n (i := 3) (l2 := [some (.ref a), some (.int v), some (.int (nI 0)), some (.int (nI len))]) hX dJ7_fill_53178_4 rfl (ltb rfl) rfl rfl ?_
  have loop : ∀ k, k ≤ len → ∀ ν : Mem, (same (fun o _ => o = a) μ ν) → (∀ j, j < k → gI ν a j = v) → WP Γ X 0 0 5 [some (.ref a), some (.int v), some (.int (nI k)), some (.int (nI len))] [] ν := by
    refine loopU (len) ?_
    intro k hk ih ν hsm hcp
    have hsh : ν.1[a]? = some (.inr (0, len)) := by rw [hsm.1]; exact hsh
    refine w_iload_n (i := 2) hX dJ7_fill_53178_5 rfl rfl ?_
    refine w_iload_n (i := 3) hX dJ7_fill_53178_6 rfl rfl ?_
    refine wn_icmp_ge (tgt := 20) hX dJ7_fill_53178_7 (by decide) (by omega) (by omega) (fun c1 => ?_) (fun c1 => ?_)
    · exact w_vret hX hE dJ7_fill_53178_20 (Or.inl rfl) ⟨hsm, fun j hj => hcp j (by omega)⟩
    · refine w_aload_n (i := 0) hX dJ7_fill_53178_10 rfl rfl ?_
      refine w_iload_n (i := 2) hX dJ7_fill_53178_11 rfl rfl ?_
      refine w_iload_n (i := 1) hX dJ7_fill_53178_12 rfl rfl ?_
      refine w_iastN hX dJ7_fill_53178_13 hsh (by omega) (by omega) ?_
      refine w_iincN (w := 1) (l2 := [some (.ref a), some (.int v), some (.int (nI (k + 1))), some (.int (nI len))]) hX dJ7_fill_53178_14 rfl kI_1 rfl rfl ?_
      refine w_goto (tgt := 5) hX dJ7_fill_53178_17 (by decide) ?_
      refine ih (by omega) _ (hsm.sI rfl) (fun j hj => ?_)
      by_cases hjk : j = k
      · rw [hjk, gI_same]
      · rw [gI_nk hjk]; exact hcp j (by omega)
  exact loop 0 (Nat.zero_le _) μ same.rf (fun j hj => by omega)
theorem if01 {c : Prop} [Decidable c] : (if c then 1 else 0 : Nat) ≤ 1 := by split <;> omega
set_option maxHeartbeats 1000000 in
theorem s_dearest (Γ : Gm) (μ : Mem) (b : Nat) (B : Nat → Nat) (hR : Rb μ b B) (hW : WB B) (q : Nat) (hq : q < 9) (L : Nat) (hL : L < 2 ^ 31) : SpI Γ MX6_dearest 1 0 0 [.ref b, .int (nI q), .int (nI L)] μ (fun r μ2 => r = nI (dr B (fun s => L.testBit s) q 24) ∧ μ2 = μ) := by
  refine SpI.of okX6_dearest rfl [some (.ref b), some (.int (nI q)), some (.int (nI L)), none, none, none] ⟨rfl, rfl, rfl, trivial⟩ (leb rfl) (leb rfl) (fun X hX hE hnm => ?_)
  refine w_iconst hX dX6_dearest_0 kI_0 ?_
  refine w_istore_n (i := 3) (l2 := [some (.ref b), some (.int (nI q)), some (.int (nI L)), some (.int (nI 0)), none, none]) hX dX6_dearest_1 rfl (ltb rfl) rfl rfl ?_
  refine w_iconst hX dX6_dearest_2 kI_1 ?_
  refine w_istore (l2 := [some (.ref b), some (.int (nI q)), some (.int (nI L)), some (.int (nI 0)), some (.int (nI 1)), none]) hX dX6_dearest_3 (ltb rfl) rfl rfl ?_
  have loop : ∀ k, k ≤ 24 → WP Γ X 0 0 5 [some (.ref b), some (.int (nI q)), some (.int (nI L)), some (.int (nI (dr B (fun s => L.testBit s) q k))), some (.int (nI (k + 1))), none] [] μ := by
    refine loopU 24 ?_
    intro k hk ih
    have hdl := dr_le (B := B) (left := (fun s => L.testBit s)) (p := q) k
    have hi1 := if01 (c := L.testBit (k + 1) = true)
    have hw1 : k < 24 → wsh B q (k + 1) ≤ 99 := fun h => wsh_le hW hq (by omega)
    have hw2 := wsh_le hW hq (show dr B (fun s => L.testBit s) q k ≤ 24 by omega)
    refine w_iload hX dX6_dearest_5 rfl ?_
    refine w_bipush hX dX6_dearest_7 kB_24 ?_
    refine wn_icmp_gt (tgt := 63) hX dX6_dearest_9 (by decide) (by omega) (by omega) (fun c1 => ?_) (fun c1 => ?_)
    · refine w_iload_n (i := 3) hX dX6_dearest_63 rfl rfl ?_
      exact w_iret hX hE dX6_dearest_64 (Or.inl rfl) rfl ⟨by rw [show k = 24 by omega], rfl⟩
    · refine w_iload_n (i := 2) hX dX6_dearest_12 rfl rfl ?_
      refine w_iload hX dX6_dearest_13 rfl ?_
      refine w_ishr hX dX6_dearest_15 ?_
      refine w_iconst hX dX6_dearest_16 kI_1 ?_
      refine w_iand hX dX6_dearest_17 ?_
      refine w_top (y := nI (if L.testBit (k + 1) = true then 1 else 0)) (bit31 hL (by omega)) ?_
      refine w_iconst hX dX6_dearest_18 kI_1 ?_
      refine wn_icmp_ne (tgt := 26) hX dX6_dearest_19 (by decide) (by omega) (by omega) (fun c2 => ?_) (fun c2 => ?_)
      · refine w_iconst hX dX6_dearest_26 kI_0 ?_
        refine w_istore (l2 := [some (.ref b), some (.int (nI q)), some (.int (nI L)), some (.int (nI (dr B (fun s => L.testBit s) q k))), some (.int (nI (k + 1))), some (.int (nI 0))]) hX dX6_dearest_27 (ltb rfl) rfl rfl ?_
        refine w_iload hX dX6_dearest_29 rfl ?_
        refine wn_if_eq (tgt := 57) hX dX6_dearest_31 (by decide) (by omega) (fun c3 => ?_) (fun c3 => ?_)
        · refine w_iincN (w := 1) (l2 := [some (.ref b), some (.int (nI q)), some (.int (nI L)), some (.int (nI (dr B (fun s => L.testBit s) q k))), some (.int (nI (k + 1 + 1))), some (.int (nI 0))]) hX dX6_dearest_57 rfl kI_1 rfl rfl ?_
          refine w_goto (tgt := 5) hX dX6_dearest_60 (by decide) ?_
          have e9 : dr B (fun s => L.testBit s) q k = dr B (fun s => L.testBit s) q (k + 1) := by
            simp only [dr]; rw [if_neg (fun h9 => by rw [if_pos h9.1] at c2; exact absurd rfl c2)]
          refine w_sub (l2 := [some (.ref b), some (.int (nI q)), some (.int (nI L)), some (.int (nI (dr B (fun s => L.testBit s) q k))), some (.int (nI (k + 1 + 1))), none]) (by simp [lsub]) (leb rfl) ?_
          refine w_locs (ls2 := [some (.ref b), some (.int (nI q)), some (.int (nI L)), some (.int (nI (dr B (fun s => L.testBit s) q (k + 1)))), some (.int (nI (k + 1 + 1))), none]) (by rw [← e9]) ?_
          exact ih (by omega)
        · exact absurd c3 (by decide)
      · refine w_iconst hX dX6_dearest_22 kI_1 ?_
        refine w_goto (tgt := 27) hX dX6_dearest_23 (by decide) ?_
        refine w_istore (l2 := [some (.ref b), some (.int (nI q)), some (.int (nI L)), some (.int (nI (dr B (fun s => L.testBit s) q k))), some (.int (nI (k + 1))), some (.int (nI 1))]) hX dX6_dearest_27 (ltb rfl) rfl rfl ?_
        refine w_iload hX dX6_dearest_29 rfl ?_
        refine wn_if_eq (tgt := 57) hX dX6_dearest_31 (by decide) (by omega) (fun c4 => ?_) (fun c4 => ?_)
        · exact absurd c4 (by decide)
        · refine w_iload_n (i := 3) hX dX6_dearest_34 rfl rfl ?_
          refine wn_if_eq (tgt := 54) hX dX6_dearest_35 (by decide) (by omega) (fun c5 => ?_) (fun c5 => ?_)
          · refine w_iload hX dX6_dearest_54 rfl ?_
            refine w_istore_n (i := 3) (l2 := [some (.ref b), some (.int (nI q)), some (.int (nI L)), some (.int (nI (k + 1))), some (.int (nI (k + 1))), some (.int (nI 1))]) hX dX6_dearest_56 rfl (ltb rfl) rfl rfl ?_
            refine w_iincN (w := 1) (l2 := [some (.ref b), some (.int (nI q)), some (.int (nI L)), some (.int (nI (k + 1))), some (.int (nI (k + 1 + 1))), some (.int (nI 1))]) hX dX6_dearest_57 rfl kI_1 rfl rfl ?_
            refine w_goto (tgt := 5) hX dX6_dearest_60 (by decide) ?_
            have e9 : k + 1 = dr B (fun s => L.testBit s) q (k + 1) := by
              simp only [dr]; rw [if_pos ⟨by by_cases h9 : L.testBit (k + 1) = true; exact h9; rw [if_neg h9] at c2; omega, by omega⟩]
            refine w_sub (l2 := [some (.ref b), some (.int (nI q)), some (.int (nI L)), some (.int (nI (k + 1))), some (.int (nI (k + 1 + 1))), none]) (by simp [lsub]) (leb rfl) ?_
            refine w_locs (ls2 := [some (.ref b), some (.int (nI q)), some (.int (nI L)), some (.int (nI (dr B (fun s => L.testBit s) q (k + 1)))), some (.int (nI (k + 1 + 1))), none]) (by rw [← e9]) ?_
            exact ih (by omega)
          · refine w_aload_n (i := 0) hX dX6_dearest_38 rfl rfl ?_
            refine w_iload_n (i := 1) hX dX6_dearest_39 rfl rfl ?_
            refine w_iload hX dX6_dearest_40 rfl ?_
            refine w_callVI (As := [.int (nI q), .int (nI (k + 1))]) (rest := []) (ci := 0) (o := b) (k2 := 0) (n2 := 0) hX dX6_dearest_42 (s_b_worthOf Γ μ b B hR q (k + 1) (by omega) (by omega) (by omega)) okX0_worthOf (ltb rfl) (bk_s hR.1) ml_RX6_57 imX0_worthOf seX0_worthOf rfl (leb rfl) (leb rfl) rfl rfl (fun r9 μ9 hq9 => ?_)
            obtain ⟨hr9, hm9⟩ := hq9; rw [hr9, hm9]; clear hr9 hm9 r9 μ9
            refine w_aload_n (i := 0) hX dX6_dearest_45 rfl rfl ?_
            refine w_iload_n (i := 1) hX dX6_dearest_46 rfl rfl ?_
            refine w_iload_n (i := 3) hX dX6_dearest_47 rfl rfl ?_
            refine w_callVI (As := [.int (nI q), .int (nI (dr B (fun s => L.testBit s) q k))]) (rest := [.int (nI (wsh B q (k + 1)))]) (ci := 0) (o := b) (k2 := 0) (n2 := 0) hX dX6_dearest_48 (s_b_worthOf Γ μ b B hR q (dr B (fun s => L.testBit s) q k) (by omega) (by omega) (by omega)) okX0_worthOf (ltb rfl) (bk_s hR.1) ml_RX6_57 imX0_worthOf seX0_worthOf rfl (leb rfl) (leb rfl) rfl rfl (fun r9 μ9 hq9 => ?_)
            obtain ⟨hr9, hm9⟩ := hq9; rw [hr9, hm9]; clear hr9 hm9 r9 μ9
            refine wn_icmp_le (tgt := 57) hX dX6_dearest_51 (by decide) (by omega) (by omega) (fun c6 => ?_) (fun c6 => ?_)
            · refine w_iincN (w := 1) (l2 := [some (.ref b), some (.int (nI q)), some (.int (nI L)), some (.int (nI (dr B (fun s => L.testBit s) q k))), some (.int (nI (k + 1 + 1))), some (.int (nI 1))]) hX dX6_dearest_57 rfl kI_1 rfl rfl ?_
              refine w_goto (tgt := 5) hX dX6_dearest_60 (by decide) ?_
              have e9 : dr B (fun s => L.testBit s) q k = dr B (fun s => L.testBit s) q (k + 1) := by
                simp only [dr]; rw [if_neg (fun h9 => by have := h9.2; omega)]
              refine w_sub (l2 := [some (.ref b), some (.int (nI q)), some (.int (nI L)), some (.int (nI (dr B (fun s => L.testBit s) q k))), some (.int (nI (k + 1 + 1))), none]) (by simp [lsub]) (leb rfl) ?_
              refine w_locs (ls2 := [some (.ref b), some (.int (nI q)), some (.int (nI L)), some (.int (nI (dr B (fun s => L.testBit s) q (k + 1)))), some (.int (nI (k + 1 + 1))), none]) (by rw [← e9]) ?_
              exact ih (by omega)
            · refine w_iload hX dX6_dearest_54 rfl ?_
              refine w_istore_n (i := 3) (l2 := [some (.ref b), some (.int (nI q)), some (.int (nI L)), some (.int (nI (k + 1))), some (.int (nI (k + 1))), some (.int (nI 1))]) hX dX6_dearest_56 rfl (ltb rfl) rfl rfl ?_
              refine w_iincN (w := 1) (l2 := [some (.ref b), some (.int (nI q)), some (.int (nI L)), some (.int (nI (k + 1))), some (.int (nI (k + 1 + 1))), some (.int (nI 1))]) hX dX6_dearest_57 rfl kI_1 rfl rfl ?_
              refine w_goto (tgt := 5) hX dX6_dearest_60 (by decide) ?_
              have e9 : k + 1 = dr B (fun s => L.testBit s) q (k + 1) := by
                simp only [dr]; rw [if_pos ⟨by by_cases h9 : L.testBit (k + 1) = true; exact h9; rw [if_neg h9] at c2; omega, by omega⟩]
              refine w_sub (l2 := [some (.ref b), some (.int (nI q)), some (.int (nI L)), some (.int (nI (k + 1))), some (.int (nI (k + 1 + 1))), none]) (by simp [lsub]) (leb rfl) ?_
              refine w_locs (ls2 := [some (.ref b), some (.int (nI q)), some (.int (nI L)), some (.int (nI (dr B (fun s => L.testBit s) q (k + 1)))), some (.int (nI (k + 1 + 1))), none]) (by rw [← e9]) ?_
              exact ih (by omega)
  exact loop 0 (Nat.zero_le _)
