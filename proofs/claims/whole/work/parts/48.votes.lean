/-- the stroke dearest to p of those left, up to s -/
def dr (B : Nat → Nat) (left : Nat → Bool) (p : Nat) : Nat → Nat
  | 0 => 0
  | s + 1 => if left (s + 1) = true ∧ (dr B left p s = 0 ∨ wsh B p (dr B left p s) < wsh B p (s + 1)) then s + 1 else dr B left p s
theorem dr_le {B : Nat → Nat} {left : Nat → Bool} {p : Nat} : ∀ s, dr B left p s ≤ s := by
  intro s
  induction s with
  | zero => simp [dr]
  | succ s ih => simp only [dr]; split <;> omega
def vt (B : Nat → Nat) (left : Nat → Bool) : Nat → Nat → Nat
  | 0 => fun _ => 0
  | k + 1 => fun s => vt B left k s + if s = dr B left k 24 then 1 else 0
theorem vt_le {B : Nat → Nat} {left : Nat → Bool} {s : Nat} : ∀ k, vt B left k s ≤ k := by
  intro k
  induction k with
  | zero => simp [vt]
  | succ k ih => simp only [vt]; split <;> omega
def mst (v : Nat → Nat) : Nat → Nat
  | 0 => 1
  | s + 1 => if v (mst v s) < v (s + 2) then s + 2 else mst v s
theorem mst_le {v : Nat → Nat} : ∀ s, 1 ≤ mst v s ∧ mst v s ≤ s + 1 := by
  intro s
  induction s with
  | zero => simp [mst]
  | succ s ih => simp only [mst]; split <;> omega
def smW (B : Nat → Nat) (s : Nat) : Nat → Nat
  | 0 => 0
  | k + 1 => smW B s k + wsh B k s
def plC (B : Nat → Nat) (s : Nat) : Nat → Nat
  | 0 => 0
  | e + 1 => plC B s e + frn B s (e + 1) (B 126)
def lsC (B : Nat → Nat) (s : Nat) : Nat → Nat
  | 0 => wsh B 0 s
  | k + 1 => if wsh B (k + 1) s < lsC B s k then wsh B (k + 1) s else lsC B s k
theorem bit31 {L i : Nat} (hL : L < 2 ^ 31) (hi : i < 31) : (nI L >>> (nI i &&& 31)) &&& nI 1 = nI (if L.testBit i = true then 1 else 0) := by
  have e : ((nI i &&& 31).toBitVec.smod 32).toNat = i := s_l i (by omega)
  rw [pk_shrN hL _ _ e, show nI 1 = nI (2 ^ 1 - 1) from rfl, fa_mask]
  congr 1
  rw [Nat.testBit_eq_decide_div_mod_eq]
  simp only [Nat.pow_one]
  have : L / 2 ^ i % 2 = 0 ∨ L / 2 ^ i % 2 = 1 := by omega
  rcases this with h | h <;> simp [h]
set_option maxHeartbeats 1000000 in
theorem s_fillI (Γ : Gm) (μ : Mem) (a len : Nat) (v : Int32) (hsh : μ.1[a]? = some (.inr (0, len))) (hlen : len < 2 ^ 30) : SpV Γ MJ7_fill_53178 0 0 0 [.ref a, .int v] μ (fun μ2 => same (fun o _ => o = a) μ μ2 ∧ ∀ j, j < len → gI μ2 a j = v) := by
  refine SpV.of okJ7_fill_53178 rfl [some (.ref a), some (.int v), none, none] ⟨rfl, rfl, trivial⟩ (leb rfl) (leb rfl) (fun X hX hE hnm => ?_)
  refine w_iconst hX dJ7_fill_53178_0 kI_0 ?_
  refine w_istore_n (i := 2) (l2 := [some (.ref a), some (.int v), some (.int (nI 0)), none]) hX dJ7_fill_53178_1 rfl (ltb rfl) rfl rfl ?_
  refine w_aload_n (i := 0) hX dJ7_fill_53178_2 rfl rfl ?_
  refine w_alen (len := len) hX (ltb rfl) dJ7_fill_53178_3 hsh ?_
  refine w_istore_n (i := 3) (l2 := [some (.ref a), some (.int v), some (.int (nI 0)), some (.int (nI len))]) hX dJ7_fill_53178_4 rfl (ltb rfl) rfl rfl ?_
  have loop : ∀ k, k ≤ len → ∀ ν : Mem, (same (fun o _ => o = a) μ ν) → (∀ j, j < k → gI ν a j = v) → WP Γ X 0 0 5 [some (.ref a), some (.int v), some (.int (nI k)), some (.int (nI len))] [] ν := by
    refine loopU (len) ?_
    intro k hk ih ν hsm hcp
    have hsh : ν.1[a]? = some (.inr (0, len)) := by rw [hsm.1]; exact hsh
    refine w_iload_n (i := 2) hX dJ7_fill_53178_5 rfl rfl ?_
    refine w_iload_n (i := 3) hX dJ7_fill_53178_6 rfl rfl ?_
    refine wn_icmp_ge (tgt := 20) hX dJ7_fill_53178_7 (by decide) (by omega) (by omega) (fun c1 => ?_) (fun c1 => ?_)
    · exact w_vret hX hE dJ7_fill_53178_20 (Or.inl rfl) ⟨hsm, fun j hj => hcp j (by omega)⟩
    · refine w_aload_n (i := 0) hX dJ7_fill_53178_10 rfl rfl ?_
      refine w_iload_n (i := 2) hX dJ7_fill_53178_11 rfl rfl ?_
      refine w_iload_n (i := 1) hX dJ7_fill_53178_12 rfl rfl ?_
      refine w_iastN hX dJ7_fill_53178_13 hsh (by omega) (by omega) ?_
      refine w_iincN (w := 1) (l2 := [some (.ref a), some (.int v), some (.int (nI (k + 1))), some (.int (nI len))]) hX dJ7_fill_53178_14 rfl kI_1 rfl rfl ?_
      refine w_goto (tgt := 5) hX dJ7_fill_53178_17 (by decide) ?_
      refine ih (by omega) _ (hsm.sI rfl) (fun j hj => ?_)
      by_cases hjk : j = k
      · rw [hjk, gI_same]
      · rw [gI_nk hjk]; exact hcp j (by omega)
  exact loop 0 (Nat.zero_le _) μ same.rf (fun j hj => by omega)
theorem if01 {c : Prop} [Decidable c] : (if c then 1 else 0 : Nat) ≤ 1 := by split <;> omega
set_option maxHeartbeats 1000000 in
theorem s_dearest (Γ : Gm) (μ : Mem) (b : Nat) (B : Nat → Nat) (hR : Rb μ b B) (hW : WB B) (q : Nat) (hq : q < 9) (L : Nat) (hL : L < 2 ^ 31) : SpI Γ MX6_dearest 1 0 0 [.ref b, .int (nI q), .int (nI L)] μ (fun r μ2 => r = nI (dr B (fun s => L.testBit s) q 24) ∧ μ2 = μ) := by
  refine SpI.of okX6_dearest rfl [some (.ref b), some (.int (nI q)), some (.int (nI L)), none, none, none] ⟨rfl, rfl, rfl, trivial⟩ (leb rfl) (leb rfl) (fun X hX hE hnm => ?_)
  refine w_iconst hX dX6_dearest_0 kI_0 ?_
  refine w_istore_n (i := 3) (l2 := [some (.ref b), some (.int (nI q)), some (.int (nI L)), some (.int (nI 0)), none, none]) hX dX6_dearest_1 rfl (ltb rfl) rfl rfl ?_
  refine w_iconst hX dX6_dearest_2 kI_1 ?_
  refine w_istore (l2 := [some (.ref b), some (.int (nI q)), some (.int (nI L)), some (.int (nI 0)), some (.int (nI 1)), none]) hX dX6_dearest_3 (ltb rfl) rfl rfl ?_
  have loop : ∀ k, k ≤ 24 → WP Γ X 0 0 5 [some (.ref b), some (.int (nI q)), some (.int (nI L)), some (.int (nI (dr B (fun s => L.testBit s) q k))), some (.int (nI (k + 1))), none] [] μ := by
    refine loopU 24 ?_
    intro k hk ih
    have hdl := dr_le (B := B) (left := (fun s => L.testBit s)) (p := q) k
    have hi1 := if01 (c := L.testBit (k + 1) = true)
    have hw1 : k < 24 → wsh B q (k + 1) ≤ 99 := fun h => wsh_le hW hq (by omega)
    have hw2 := wsh_le hW hq (show dr B (fun s => L.testBit s) q k ≤ 24 by omega)
    refine w_iload hX dX6_dearest_5 rfl ?_
    refine w_bipush hX dX6_dearest_7 kB_24 ?_
    refine wn_icmp_gt (tgt := 63) hX dX6_dearest_9 (by decide) (by omega) (by omega) (fun c1 => ?_) (fun c1 => ?_)
    · refine w_iload_n (i := 3) hX dX6_dearest_63 rfl rfl ?_
      exact w_iret hX hE dX6_dearest_64 (Or.inl rfl) rfl ⟨by rw [show k = 24 by omega], rfl⟩
    · refine w_iload_n (i := 2) hX dX6_dearest_12 rfl rfl ?_
      refine w_iload hX dX6_dearest_13 rfl ?_
      refine w_ishr hX dX6_dearest_15 ?_
      refine w_iconst hX dX6_dearest_16 kI_1 ?_
      refine w_iand hX dX6_dearest_17 ?_
      refine w_top (y := nI (if L.testBit (k + 1) = true then 1 else 0)) (bit31 hL (by omega)) ?_
      refine w_iconst hX dX6_dearest_18 kI_1 ?_
      refine wn_icmp_ne (tgt := 26) hX dX6_dearest_19 (by decide) (by omega) (by omega) (fun c2 => ?_) (fun c2 => ?_)
      · refine w_iconst hX dX6_dearest_26 kI_0 ?_
        refine w_istore (l2 := [some (.ref b), some (.int (nI q)), some (.int (nI L)), some (.int (nI (dr B (fun s => L.testBit s) q k))), some (.int (nI (k + 1))), some (.int (nI 0))]) hX dX6_dearest_27 (ltb rfl) rfl rfl ?_
        refine w_iload hX dX6_dearest_29 rfl ?_
        refine wn_if_eq (tgt := 57) hX dX6_dearest_31 (by decide) (by omega) (fun c3 => ?_) (fun c3 => ?_)
        · refine w_iincN (w := 1) (l2 := [some (.ref b), some (.int (nI q)), some (.int (nI L)), some (.int (nI (dr B (fun s => L.testBit s) q k))), some (.int (nI (k + 1 + 1))), some (.int (nI 0))]) hX dX6_dearest_57 rfl kI_1 rfl rfl ?_
          refine w_goto (tgt := 5) hX dX6_dearest_60 (by decide) ?_
          have e9 : dr B (fun s => L.testBit s) q k = dr B (fun s => L.testBit s) q (k + 1) := by
            simp only [dr]; rw [if_neg (fun h9 => by rw [if_pos h9.1] at c2; exact absurd rfl c2)]
          refine w_sub (l2 := [some (.ref b), some (.int (nI q)), some (.int (nI L)), some (.int (nI (dr B (fun s => L.testBit s) q k))), some (.int (nI (k + 1 + 1))), none]) (by simp [lsub]) (leb rfl) ?_
          refine w_locs (ls2 := [some (.ref b), some (.int (nI q)), some (.int (nI L)), some (.int (nI (dr B (fun s => L.testBit s) q (k + 1)))), some (.int (nI (k + 1 + 1))), none]) (by rw [← e9]) ?_
          exact ih (by omega)
        · exact absurd c3 (by decide)
      · refine w_iconst hX dX6_dearest_22 kI_1 ?_
        refine w_goto (tgt := 27) hX dX6_dearest_23 (by decide) ?_
        refine w_istore (l2 := [some (.ref b), some (.int (nI q)), some (.int (nI L)), some (.int (nI (dr B (fun s => L.testBit s) q k))), some (.int (nI (k + 1))), some (.int (nI 1))]) hX dX6_dearest_27 (ltb rfl) rfl rfl ?_
        refine w_iload hX dX6_dearest_29 rfl ?_
        refine wn_if_eq (tgt := 57) hX dX6_dearest_31 (by decide) (by omega) (fun c4 => ?_) (fun c4 => ?_)
        · exact absurd c4 (by decide)
        · refine w_iload_n (i := 3) hX dX6_dearest_34 rfl rfl ?_
          refine wn_if_eq (tgt := 54) hX dX6_dearest_35 (by decide) (by omega) (fun c5 => ?_) (fun c5 => ?_)
          · refine w_iload hX dX6_dearest_54 rfl ?_
            refine w_istore_n (i := 3) (l2 := [some (.ref b), some (.int (nI q)), some (.int (nI L)), some (.int (nI (k + 1))), some (.int (nI (k + 1))), some (.int (nI 1))]) hX dX6_dearest_56 rfl (ltb rfl) rfl rfl ?_
            refine w_iincN (w := 1) (l2 := [some (.ref b), some (.int (nI q)), some (.int (nI L)), some (.int (nI (k + 1))), some (.int (nI (k + 1 + 1))), some (.int (nI 1))]) hX dX6_dearest_57 rfl kI_1 rfl rfl ?_
            refine w_goto (tgt := 5) hX dX6_dearest_60 (by decide) ?_
            have e9 : k + 1 = dr B (fun s => L.testBit s) q (k + 1) := by
              simp only [dr]; rw [if_pos ⟨by by_cases h9 : L.testBit (k + 1) = true; exact h9; rw [if_neg h9] at c2; omega, by omega⟩]
            refine w_sub (l2 := [some (.ref b), some (.int (nI q)), some (.int (nI L)), some (.int (nI (k + 1))), some (.int (nI (k + 1 + 1))), none]) (by simp [lsub]) (leb rfl) ?_
            refine w_locs (ls2 := [some (.ref b), some (.int (nI q)), some (.int (nI L)), some (.int (nI (dr B (fun s => L.testBit s) q (k + 1)))), some (.int (nI (k + 1 + 1))), none]) (by rw [← e9]) ?_
            exact ih (by omega)
          · refine w_aload_n (i := 0) hX dX6_dearest_38 rfl rfl ?_
            refine w_iload_n (i := 1) hX dX6_dearest_39 rfl rfl ?_
            refine w_iload hX dX6_dearest_40 rfl ?_
            refine w_callVI (As := [.int (nI q), .int (nI (k + 1))]) (rest := []) (ci := 0) (o := b) (k2 := 0) (n2 := 0) hX dX6_dearest_42 (s_b_worthOf Γ μ b B hR q (k + 1) (by omega) (by omega) (by omega)) okX0_worthOf (ltb rfl) (bk_s hR.1) ml_RX6_57 imX0_worthOf seX0_worthOf rfl (leb rfl) (leb rfl) rfl rfl (fun r9 μ9 hq9 => ?_)
            obtain ⟨hr9, hm9⟩ := hq9; rw [hr9, hm9]; clear hr9 hm9 r9 μ9
            refine w_aload_n (i := 0) hX dX6_dearest_45 rfl rfl ?_
            refine w_iload_n (i := 1) hX dX6_dearest_46 rfl rfl ?_
            refine w_iload_n (i := 3) hX dX6_dearest_47 rfl rfl ?_
            refine w_callVI (As := [.int (nI q), .int (nI (dr B (fun s => L.testBit s) q k))]) (rest := [.int (nI (wsh B q (k + 1)))]) (ci := 0) (o := b) (k2 := 0) (n2 := 0) hX dX6_dearest_48 (s_b_worthOf Γ μ b B hR q (dr B (fun s => L.testBit s) q k) (by omega) (by omega) (by omega)) okX0_worthOf (ltb rfl) (bk_s hR.1) ml_RX6_57 imX0_worthOf seX0_worthOf rfl (leb rfl) (leb rfl) rfl rfl (fun r9 μ9 hq9 => ?_)
            obtain ⟨hr9, hm9⟩ := hq9; rw [hr9, hm9]; clear hr9 hm9 r9 μ9
            refine wn_icmp_le (tgt := 57) hX dX6_dearest_51 (by decide) (by omega) (by omega) (fun c6 => ?_) (fun c6 => ?_)
            · refine w_iincN (w := 1) (l2 := [some (.ref b), some (.int (nI q)), some (.int (nI L)), some (.int (nI (dr B (fun s => L.testBit s) q k))), some (.int (nI (k + 1 + 1))), some (.int (nI 1))]) hX dX6_dearest_57 rfl kI_1 rfl rfl ?_
              refine w_goto (tgt := 5) hX dX6_dearest_60 (by decide) ?_
              have e9 : dr B (fun s => L.testBit s) q k = dr B (fun s => L.testBit s) q (k + 1) := by
                simp only [dr]; rw [if_neg (fun h9 => by have := h9.2; omega)]
              refine w_sub (l2 := [some (.ref b), some (.int (nI q)), some (.int (nI L)), some (.int (nI (dr B (fun s => L.testBit s) q k))), some (.int (nI (k + 1 + 1))), none]) (by simp [lsub]) (leb rfl) ?_
              refine w_locs (ls2 := [some (.ref b), some (.int (nI q)), some (.int (nI L)), some (.int (nI (dr B (fun s => L.testBit s) q (k + 1)))), some (.int (nI (k + 1 + 1))), none]) (by rw [← e9]) ?_
              exact ih (by omega)
            · refine w_iload hX dX6_dearest_54 rfl ?_
              refine w_istore_n (i := 3) (l2 := [some (.ref b), some (.int (nI q)), some (.int (nI L)), some (.int (nI (k + 1))), some (.int (nI (k + 1))), some (.int (nI 1))]) hX dX6_dearest_56 rfl (ltb rfl) rfl rfl ?_
              refine w_iincN (w := 1) (l2 := [some (.ref b), some (.int (nI q)), some (.int (nI L)), some (.int (nI (k + 1))), some (.int (nI (k + 1 + 1))), some (.int (nI 1))]) hX dX6_dearest_57 rfl kI_1 rfl rfl ?_
              refine w_goto (tgt := 5) hX dX6_dearest_60 (by decide) ?_
              have e9 : k + 1 = dr B (fun s => L.testBit s) q (k + 1) := by
                simp only [dr]; rw [if_pos ⟨by by_cases h9 : L.testBit (k + 1) = true; exact h9; rw [if_neg h9] at c2; omega, by omega⟩]
              refine w_sub (l2 := [some (.ref b), some (.int (nI q)), some (.int (nI L)), some (.int (nI (k + 1))), some (.int (nI (k + 1 + 1))), none]) (by simp [lsub]) (leb rfl) ?_
              refine w_locs (ls2 := [some (.ref b), some (.int (nI q)), some (.int (nI L)), some (.int (nI (dr B (fun s => L.testBit s) q (k + 1)))), some (.int (nI (k + 1 + 1))), none]) (by rw [← e9]) ?_
              exact ih (by omega)
  exact loop 0 (Nat.zero_le _)
theorem Rb_same {S : Nat → Nat → Prop} {μ ν : Mem} {b : Nat} {B : Nat → Nat} (h : same S μ ν) (hS : ∀ o k, S o k → o < b ∨ b + 16 ≤ o) (hR : Rb μ b B) : Rb ν b B := by
  have e : ∀ o k, b ≤ o → o < b + 16 → gI ν o k = gI μ o k := fun o k h1 h2 => (h.2.2 o k (fun hs => by have := hS o k hs; omega)).1
  obtain ⟨r1, r2, r3, r4, r5, r6, r7, r8, r9, r10, r11, r12, r13⟩ := hR
  refine ⟨h.isBk r1, by rw [e _ _ (by omega) (by omega)]; exact r2, fun t ht => ?_, fun i hi => by rw [e _ _ (by omega) (by omega)]; exact r4 i hi, by rw [e _ _ (by omega) (by omega)]; exact r5, by rw [e _ _ (by omega) (by omega)]; exact r6, fun i hi => by rw [e _ _ (by omega) (by omega)]; exact r7 i hi, by rw [e _ _ (by omega) (by omega)]; exact r8, fun q s hq h1 h2 => by rw [e _ _ (by omega) (by omega)]; exact r9 q s hq h1 h2, by rw [e _ _ (by omega) (by omega)]; exact r10, fun i hi => by rw [e _ _ (by omega) (by omega)]; exact r11 i hi, by rw [e _ _ (by omega) (by omega)]; exact r12, fun i hi => by rw [e _ _ (by omega) (by omega)]; exact r13 i hi⟩
  obtain ⟨c1, c2, c3, c4⟩ := r3 t ht
  exact ⟨h.isClk c1, by rw [e _ _ (by omega) (by omega)]; exact c2, c3, fun k hk => by rw [e _ _ (by omega) (by omega)]; exact c4 k hk⟩
set_option maxHeartbeats 1000000 in
theorem s_castVotes (Γ : Gm) (μ : Mem) (v b : Nat) (B : Nat → Nat) (hv : isVt μ v) (hvb : v + 1 < b) (hR : Rb μ b B) (hW : WB B) (L : Nat) (hL : L < 2 ^ 31) : SpV Γ MX6_castVotes 2 0 0 [.ref v, .ref b, .int (nI L)] μ (fun μ2 => same (fun o _ => o = v + 1) μ μ2 ∧ ∀ s, s ≤ 24 → gI μ2 (v + 1) s = nI (vt B (fun s => L.testBit s) (B 126) s)) := by
  refine SpV.of okX6_castVotes rfl [some (.ref v), some (.ref b), some (.int (nI L)), none] ⟨rfl, rfl, rfl, trivial⟩ (leb rfl) (leb rfl) (fun X hX hE hnm => ?_)
  refine w_aload_n (i := 0) hX dX6_castVotes_0 rfl rfl ?_
  refine w_getR (q := v + 1) hX dX6_castVotes_1 fo_RX6_9 rfl (vt_s hv) (vt_r0 hv) ?_
  refine w_iconst hX dX6_castVotes_4 kI_0 ?_
  refine w_callSV (As := [.ref (v + 1), .int (nI 0)]) (rest := []) (k2 := 0) (n2 := 0) hX dX6_castVotes_5 (s_fillI Γ μ (v + 1) 25 (nI 0) (vt_a1 hv) (by omega)) okJ7_fill_53178 ml_RX6_41 stJ7_fill_53178 rfl (leb rfl) (leb rfl) rfl rfl (fun ν0 hq9 => ?_)
  obtain ⟨hs0, hf0⟩ := hq9
  refine w_iconst hX dX6_castVotes_8 kI_0 ?_
  refine w_istore_n (i := 3) (l2 := [some (.ref v), some (.ref b), some (.int (nI L)), some (.int (nI 0))]) hX dX6_castVotes_9 rfl (ltb rfl) rfl rfl ?_
  have loop : ∀ k, k ≤ B 126 → ∀ ν : Mem, (same (fun o _ => o = v + 1) μ ν) → (∀ s, s ≤ 24 → gI ν (v + 1) s = nI (vt B (fun s => L.testBit s) k s)) → WP Γ X 0 0 10 [some (.ref v), some (.ref b), some (.int (nI L)), some (.int (nI k))] [] ν := by
    refine loopU (B 126) ?_
    intro k hk ih ν hsm hpt
    have hRk := Rb_same hsm (fun o k h => Or.inl (by omega)) hR
    have hP := hW.2.2.2.1.1
    have hdl := dr_le (B := B) (left := (fun s => L.testBit s)) (p := k) 24
    refine w_iload_n (i := 3) hX dX6_castVotes_10 rfl rfl ?_
    refine w_aload_n (i := 1) hX dX6_castVotes_11 rfl rfl ?_
    refine w_getI hX dX6_castVotes_12 fo_RX6_47 rfl (bk_s hRk.1) ?_
    refine w_top (y := nI (B 126)) hRk.2.2.2.2.2.2.2.1 ?_
    refine wn_icmp_ge (tgt := 39) hX dX6_castVotes_15 (by decide) (by omega) (by omega) (fun c1 => ?_) (fun c1 => ?_)
    · exact w_vret hX hE dX6_castVotes_39 (Or.inl rfl) ⟨hsm, fun s hs => by rw [show B 126 = k by omega]; exact hpt s hs⟩
    · refine w_aload_n (i := 0) hX dX6_castVotes_18 rfl rfl ?_
      refine w_getR (q := v + 1) hX dX6_castVotes_19 fo_RX6_9 rfl (vt_s (hsm.isVt hv)) (vt_r0 (hsm.isVt hv)) ?_
      refine w_aload_n (i := 1) hX dX6_castVotes_22 rfl rfl ?_
      refine w_iload_n (i := 3) hX dX6_castVotes_23 rfl rfl ?_
      refine w_iload_n (i := 2) hX dX6_castVotes_24 rfl rfl ?_
      refine w_callSI (As := [.ref b, .int (nI k), .int (nI L)]) (rest := [.ref (v + 1)]) (k2 := 0) (n2 := 0) hX dX6_castVotes_25 (s_dearest Γ ν b B hRk hW k (by omega) L hL) okX6_dearest ml_RX6_53 stX6_dearest rfl (leb rfl) (leb rfl) rfl rfl (fun r9 μ9 hq9 => ?_)
      obtain ⟨hr9, hm9⟩ := hq9; rw [hr9, hm9]; clear hr9 hm9 r9 μ9
      refine w_dup2 hX dX6_castVotes_28 rfl rfl ?_
      refine w_ialdN hX dX6_castVotes_29 (vt_a1 (hsm.isVt hv)) (by omega) (by omega) ?_
      refine w_top (y := nI (vt B (fun s => L.testBit s) k (dr B (fun s => L.testBit s) k 24))) (hpt _ (by omega)) ?_
      refine w_iconst hX dX6_castVotes_30 kI_1 ?_
      refine w_iaddN hX dX6_castVotes_31 ?_
      refine w_iastN hX dX6_castVotes_32 (vt_a1 (hsm.isVt hv)) (by omega) (by omega) ?_
      refine w_iincN (w := 1) (l2 := [some (.ref v), some (.ref b), some (.int (nI L)), some (.int (nI (k + 1)))]) hX dX6_castVotes_33 rfl kI_1 rfl rfl ?_
      refine w_goto (tgt := 10) hX dX6_castVotes_36 (by decide) ?_
      refine ih (by omega) _ (hsm.sI rfl) (fun s hs => ?_)
      simp only [vt]
      by_cases h9 : s = dr B (fun s => L.testBit s) k 24
      · rw [if_pos h9, h9, gI_same]
      · rw [if_neg h9, gI_nk h9]; exact hpt s hs
  exact loop 0 (Nat.zero_le _) ν0 hs0 (fun s hs => hf0 s (by omega))
set_option maxHeartbeats 1000000 in
theorem s_mostPoints (Γ : Gm) (μ : Mem) (v : Nat) (hv : isVt μ v) (f : Nat → Nat) (hpt : ∀ s, 1 ≤ s → s ≤ 24 → gI μ (v + 1) s = nI (f s)) (hfb : ∀ s, s ≤ 24 → f s < 2 ^ 31) : SpI Γ MX6_mostPoints 0 0 0 [.ref v] μ (fun r μ2 => r = nI (mst f 23) ∧ μ2 = μ) := by
  refine SpI.of okX6_mostPoints rfl [some (.ref v), none, none] ⟨rfl, trivial⟩ (leb rfl) (leb rfl) (fun X hX hE hnm => ?_)
  refine w_iconst hX dX6_mostPoints_0 kI_1 ?_
  refine w_istore_n (i := 1) (l2 := [some (.ref v), some (.int (nI 1)), none]) hX dX6_mostPoints_1 rfl (ltb rfl) rfl rfl ?_
  refine w_iconst hX dX6_mostPoints_2 kI_2 ?_
  refine w_istore_n (i := 2) (l2 := [some (.ref v), some (.int (nI 1)), some (.int (nI 2))]) hX dX6_mostPoints_3 rfl (ltb rfl) rfl rfl ?_
  have loop : ∀ k, k ≤ 23 → WP Γ X 0 0 4 [some (.ref v), some (.int (nI (mst f k))), some (.int (nI (k + 2)))] [] μ := by
    refine loopU 23 ?_
    intro k hk ih
    have hml := mst_le (v := f) k
    have hb1 : k < 23 → f (k + 2) < 2 ^ 31 := fun h => hfb _ (by omega)
    have hb2 := hfb (mst f k) (by omega)
    refine w_iload_n (i := 2) hX dX6_mostPoints_4 rfl rfl ?_
    refine w_bipush hX dX6_mostPoints_5 kB_24 ?_
    refine wn_icmp_gt (tgt := 33) hX dX6_mostPoints_7 (by decide) (by omega) (by omega) (fun c1 => ?_) (fun c1 => ?_)
    · refine w_iload_n (i := 1) hX dX6_mostPoints_33 rfl rfl ?_
      exact w_iret hX hE dX6_mostPoints_34 (Or.inl rfl) rfl ⟨by rw [show k = 23 by omega], rfl⟩
    · refine w_aload_n (i := 0) hX dX6_mostPoints_10 rfl rfl ?_
      refine w_getR (q := v + 1) hX dX6_mostPoints_11 fo_RX6_9 rfl (vt_s hv) (vt_r0 hv) ?_
      refine w_iload_n (i := 2) hX dX6_mostPoints_14 rfl rfl ?_
      refine w_ialdN hX dX6_mostPoints_15 (vt_a1 hv) (by omega) (by omega) ?_
      refine w_top (y := nI (f (k + 2))) (hpt _ (by omega) (by omega)) ?_
      refine w_aload_n (i := 0) hX dX6_mostPoints_16 rfl rfl ?_
      refine w_getR (q := v + 1) hX dX6_mostPoints_17 fo_RX6_9 rfl (vt_s hv) (vt_r0 hv) ?_
      refine w_iload_n (i := 1) hX dX6_mostPoints_20 rfl rfl ?_
      refine w_ialdN hX dX6_mostPoints_21 (vt_a1 hv) (by omega) (by omega) ?_
      refine w_top (y := nI (f (mst f k))) (hpt _ (by omega) (by omega)) ?_
      refine wn_icmp_le (tgt := 27) hX dX6_mostPoints_22 (by decide) (by omega) (by omega) (fun c2 => ?_) (fun c2 => ?_)
      · refine w_iincN (w := 1) (l2 := [some (.ref v), some (.int (nI (mst f k))), some (.int (nI (k + 2 + 1)))]) hX dX6_mostPoints_27 rfl kI_1 rfl rfl ?_
        refine w_goto (tgt := 4) hX dX6_mostPoints_30 (by decide) ?_
        have e9 : mst f k = mst f (k + 1) := by simp only [mst]; rw [if_neg (by omega)]
        refine w_locs (ls2 := [some (.ref v), some (.int (nI (mst f (k + 1)))), some (.int (nI (k + 2 + 1)))]) (by rw [← e9]) ?_
        exact ih (by omega)
      · refine w_iload_n (i := 2) hX dX6_mostPoints_25 rfl rfl ?_
        refine w_istore_n (i := 1) (l2 := [some (.ref v), some (.int (nI (k + 2))), some (.int (nI (k + 2)))]) hX dX6_mostPoints_26 rfl (ltb rfl) rfl rfl ?_
        refine w_iincN (w := 1) (l2 := [some (.ref v), some (.int (nI (k + 2))), some (.int (nI (k + 2 + 1)))]) hX dX6_mostPoints_27 rfl kI_1 rfl rfl ?_
        refine w_goto (tgt := 4) hX dX6_mostPoints_30 (by decide) ?_
        have e9 : k + 2 = mst f (k + 1) := by simp only [mst]; rw [if_pos (by omega)]
        refine w_locs (ls2 := [some (.ref v), some (.int (nI (mst f (k + 1)))), some (.int (nI (k + 2 + 1)))]) (by rw [← e9]) ?_
        exact ih (by omega)
  exact loop 0 (Nat.zero_le _)
theorem smW_le {B : Nat → Nat} (h : WB B) {s : Nat} (hs : s ≤ 24) : ∀ k, k ≤ 9 → smW B s k ≤ 99 * k := by
  intro k
  induction k with
  | zero => intro _; simp [smW]
  | succ k ih => intro hk; simp only [smW]; have := ih (by omega); have := wsh_le h (show k < 9 by omega) hs; omega
theorem plC_le {B : Nat → Nat} (h : WB B) {s : Nat} : ∀ k, plC B s k ≤ 9 * k := by
  intro k
  induction k with
  | zero => simp [plC]
  | succ k ih => simp only [plC]; have := frn_le (B := B) (s := s) (o := k + 1) (B 126); have := h.2.2.2.1.1; omega
theorem lsC_le {B : Nat → Nat} (h : WB B) {s : Nat} (hs : s ≤ 24) : ∀ k, lsC B s k ≤ 99 := by
  intro k
  induction k with
  | zero => exact wsh_le h (by omega) hs
  | succ k ih => simp only [lsC]; split <;> omega
set_option maxHeartbeats 1000000 in
theorem s_addWorths (Γ : Gm) (μ : Mem) (v b : Nat) (B : Nat → Nat) (hv : isVt μ v) (hvb : v + 1 < b) (hR : Rb μ b B) (hW : WB B)  : SpV Γ MX6_addWorths 2 0 0 [.ref v, .ref b] μ (fun μ2 => same (fun o _ => o = v + 1) μ μ2 ∧ ∀ s, 1 ≤ s → s ≤ 24 → gI μ2 (v + 1) s = nI (smW B s (B 126))) := by
  refine SpV.of okX6_addWorths rfl [some (.ref v), some (.ref b), none, none] ⟨rfl, rfl, trivial⟩ (leb rfl) (leb rfl) (fun X hX hE hnm => ?_)
  refine w_aload_n (i := 0) hX dX6_addWorths_0 rfl rfl ?_
  refine w_getR (q := v + 1) hX dX6_addWorths_1 fo_RX6_9 rfl (vt_s hv) (vt_r0 hv) ?_
  refine w_iconst hX dX6_addWorths_4 kI_0 ?_
  refine w_callSV (As := [.ref (v + 1), .int (nI 0)]) (rest := []) (k2 := 0) (n2 := 0) hX dX6_addWorths_5 (s_fillI Γ μ (v + 1) 25 (nI 0) (vt_a1 hv) (by omega)) okJ7_fill_53178 ml_RX6_41 stJ7_fill_53178 rfl (leb rfl) (leb rfl) rfl rfl (fun ν0 hq9 => ?_)
  obtain ⟨hs0, hf0⟩ := hq9
  refine w_iconst hX dX6_addWorths_8 kI_1 ?_
  refine w_istore_n (i := 2) (l2 := [some (.ref v), some (.ref b), some (.int (nI 1)), none]) hX dX6_addWorths_9 rfl (ltb rfl) rfl rfl ?_
  have loop : ∀ k, k ≤ 24 → ∀ ν : Mem, (same (fun o _ => o = v + 1) μ ν) → (∀ s, 1 ≤ s → s ≤ k → gI ν (v + 1) s = nI (smW B s (B 126))) → (∀ s, k < s → s ≤ 24 → gI ν (v + 1) s = nI 0) → WP Γ X 0 0 10 [some (.ref v), some (.ref b), some (.int (nI (k + 1))), none] [] ν := by
    refine loopU (24) ?_
    intro k hk ih ν hsm h1 h2
    have hRk := Rb_same hsm (fun o k h => Or.inl (by omega)) hR
    have hP := hW.2.2.2.1.1
    refine w_iload_n (i := 2) hX dX6_addWorths_10 rfl rfl ?_
    refine w_bipush hX dX6_addWorths_11 kB_24 ?_
    refine wn_icmp_gt (tgt := 53) hX dX6_addWorths_13 (by decide) (by omega) (by omega) (fun c1 => ?_) (fun c1 => ?_)
    · exact w_vret hX hE dX6_addWorths_53 (Or.inl rfl) ⟨hsm, fun s h8 h9 => h1 s h8 (by omega)⟩
    · refine w_iconst hX dX6_addWorths_16 kI_0 ?_
      refine w_istore_n (i := 3) (l2 := [some (.ref v), some (.ref b), some (.int (nI (k + 1))), some (.int (nI 0))]) hX dX6_addWorths_17 rfl (ltb rfl) rfl rfl ?_
      have inl : ∀ j, j ≤ B 126 → ∀ ν2 : Mem, (same (fun o _ => o = v + 1) μ ν2) → (∀ s, 1 ≤ s → s ≤ k → gI ν2 (v + 1) s = nI (smW B s (B 126))) → (gI ν2 (v + 1) (k + 1) = nI (smW B (k + 1) j)) → (∀ s, k + 1 < s → s ≤ 24 → gI ν2 (v + 1) s = nI 0) → WP Γ X 0 0 18 [some (.ref v), some (.ref b), some (.int (nI (k + 1))), some (.int (nI j))] [] ν2 := by
        refine loopU (B 126) ?_
        intro j hj ihj ν2 hsn g1 g3 g2
        have hRj := Rb_same hsn (fun o k h => Or.inl (by omega)) hR
        have hgl := smW_le hW (show k + 1 ≤ 24 by omega) j (by omega)
        refine w_iload_n (i := 3) hX dX6_addWorths_18 rfl rfl ?_
        refine w_aload_n (i := 1) hX dX6_addWorths_19 rfl rfl ?_
        refine w_getI hX dX6_addWorths_20 fo_RX6_47 rfl (bk_s hRj.1) ?_
        refine w_top (y := nI (B 126)) hRj.2.2.2.2.2.2.2.1 ?_
        refine wn_icmp_ge (tgt := 47) hX dX6_addWorths_23 (by decide) (by omega) (by omega) (fun c2 => ?_) (fun c2 => ?_)
        · refine w_iincN (w := 1) (l2 := [some (.ref v), some (.ref b), some (.int (nI (k + 1 + 1))), some (.int (nI j))]) hX dX6_addWorths_47 rfl kI_1 rfl rfl ?_
          refine w_goto (tgt := 10) hX dX6_addWorths_50 (by decide) ?_
          refine w_sub (l2 := [some (.ref v), some (.ref b), some (.int (nI (k + 1 + 1))), none]) (by simp [lsub]) (leb rfl) ?_
          refine ih (by omega) _ hsn (fun s h8 h9 => ?_) (fun s h8 h9 => g2 s (by omega) h9)
          by_cases h7 : s = k + 1
          · rw [h7, g3, show j = B 126 by omega]
          · exact g1 s h8 (by omega)
        · refine w_aload_n (i := 0) hX dX6_addWorths_26 rfl rfl ?_
          refine w_getR (q := v + 1) hX dX6_addWorths_27 fo_RX6_9 rfl (vt_s (hsn.isVt hv)) (vt_r0 (hsn.isVt hv)) ?_
          refine w_iload_n (i := 2) hX dX6_addWorths_30 rfl rfl ?_
          refine w_dup2 hX dX6_addWorths_31 rfl rfl ?_
          refine w_ialdN hX dX6_addWorths_32 (vt_a1 (hsn.isVt hv)) (by omega) (by omega) ?_
          refine w_top (y := nI (smW B (k + 1) j)) g3 ?_
          refine w_aload_n (i := 1) hX dX6_addWorths_33 rfl rfl ?_
          refine w_iload_n (i := 3) hX dX6_addWorths_34 rfl rfl ?_
          refine w_iload_n (i := 2) hX dX6_addWorths_35 rfl rfl ?_
          refine w_callVI (As := [.int (nI j), .int (nI (k + 1))]) (rest := [.int (nI (smW B (k + 1) j)), .int (nI (k + 1)), .ref (v + 1)]) (ci := 0) (o := b) (k2 := 0) (n2 := 0) hX dX6_addWorths_36 (s_b_worthOf Γ ν2 b B hRj j (k + 1) (by omega) (by omega) (by omega)) okX0_worthOf (ltb rfl) (bk_s hRj.1) ml_RX6_57 imX0_worthOf seX0_worthOf rfl (leb rfl) (leb rfl) rfl rfl (fun r9 μ9 hq9 => ?_)
          obtain ⟨hr9, hm9⟩ := hq9; rw [hr9, hm9]; clear hr9 hm9 r9 μ9
          refine w_iaddN hX dX6_addWorths_39 ?_
          refine w_iastN hX dX6_addWorths_40 (vt_a1 (hsn.isVt hv)) (by omega) (by omega) ?_
          refine w_iincN (w := 1) (l2 := [some (.ref v), some (.ref b), some (.int (nI (k + 1))), some (.int (nI (j + 1)))]) hX dX6_addWorths_41 rfl kI_1 rfl rfl ?_
          refine w_goto (tgt := 18) hX dX6_addWorths_44 (by decide) ?_
          exact ihj (by omega) _ (hsn.sI rfl) (fun s h8 h9 => by rw [gI_nk (by omega)]; exact g1 s h8 h9) (by rw [gI_same]; rfl) (fun s h8 h9 => by rw [gI_nk (by omega)]; exact g2 s h8 h9)
      exact inl 0 (Nat.zero_le _) ν hsm h1 (h2 (k + 1) (by omega) (by omega)) (fun s h8 h9 => h2 s (by omega) h9)
  exact loop 0 (Nat.zero_le _) ν0 hs0 (fun s h8 h9 => by omega) (fun s h8 h9 => hf0 s (by omega))
set_option maxHeartbeats 1000000 in
theorem s_addPlaces (Γ : Gm) (μ : Mem) (v b : Nat) (B : Nat → Nat) (hv : isVt μ v) (hvb : v + 1 < b) (hR : Rb μ b B) (hW : WB B)  : SpV Γ MX6_addPlaces 2 0 0 [.ref v, .ref b] μ (fun μ2 => same (fun o _ => o = v + 1) μ μ2 ∧ ∀ s, 1 ≤ s → s ≤ 24 → gI μ2 (v + 1) s = nI (plC B s 24)) := by
  refine SpV.of okX6_addPlaces rfl [some (.ref v), some (.ref b), none, none] ⟨rfl, rfl, trivial⟩ (leb rfl) (leb rfl) (fun X hX hE hnm => ?_)
  refine w_aload_n (i := 0) hX dX6_addPlaces_0 rfl rfl ?_
  refine w_getR (q := v + 1) hX dX6_addPlaces_1 fo_RX6_9 rfl (vt_s hv) (vt_r0 hv) ?_
  refine w_iconst hX dX6_addPlaces_4 kI_0 ?_
  refine w_callSV (As := [.ref (v + 1), .int (nI 0)]) (rest := []) (k2 := 0) (n2 := 0) hX dX6_addPlaces_5 (s_fillI Γ μ (v + 1) 25 (nI 0) (vt_a1 hv) (by omega)) okJ7_fill_53178 ml_RX6_41 stJ7_fill_53178 rfl (leb rfl) (leb rfl) rfl rfl (fun ν0 hq9 => ?_)
  obtain ⟨hs0, hf0⟩ := hq9
  refine w_iconst hX dX6_addPlaces_8 kI_1 ?_
  refine w_istore_n (i := 2) (l2 := [some (.ref v), some (.ref b), some (.int (nI 1)), none]) hX dX6_addPlaces_9 rfl (ltb rfl) rfl rfl ?_
  have loop : ∀ k, k ≤ 24 → ∀ ν : Mem, (same (fun o _ => o = v + 1) μ ν) → (∀ s, 1 ≤ s → s ≤ k → gI ν (v + 1) s = nI (plC B s 24)) → (∀ s, k < s → s ≤ 24 → gI ν (v + 1) s = nI 0) → WP Γ X 0 0 10 [some (.ref v), some (.ref b), some (.int (nI (k + 1))), none] [] ν := by
    refine loopU (24) ?_
    intro k hk ih ν hsm h1 h2
    have hRk := Rb_same hsm (fun o k h => Or.inl (by omega)) hR
    have hP := hW.2.2.2.1.1
    refine w_iload_n (i := 2) hX dX6_addPlaces_10 rfl rfl ?_
    refine w_bipush hX dX6_addPlaces_11 kB_24 ?_
    refine wn_icmp_gt (tgt := 51) hX dX6_addPlaces_13 (by decide) (by omega) (by omega) (fun c1 => ?_) (fun c1 => ?_)
    · exact w_vret hX hE dX6_addPlaces_51 (Or.inl rfl) ⟨hsm, fun s h8 h9 => h1 s h8 (by omega)⟩
    · refine w_iconst hX dX6_addPlaces_16 kI_1 ?_
      refine w_istore_n (i := 3) (l2 := [some (.ref v), some (.ref b), some (.int (nI (k + 1))), some (.int (nI 1))]) hX dX6_addPlaces_17 rfl (ltb rfl) rfl rfl ?_
      have inl : ∀ j, j ≤ 24 → ∀ ν2 : Mem, (same (fun o _ => o = v + 1) μ ν2) → (∀ s, 1 ≤ s → s ≤ k → gI ν2 (v + 1) s = nI (plC B s 24)) → (gI ν2 (v + 1) (k + 1) = nI (plC B (k + 1) j)) → (∀ s, k + 1 < s → s ≤ 24 → gI ν2 (v + 1) s = nI 0) → WP Γ X 0 0 18 [some (.ref v), some (.ref b), some (.int (nI (k + 1))), some (.int (nI (j + 1)))] [] ν2 := by
        refine loopU (24) ?_
        intro j hj ihj ν2 hsn g1 g3 g2
        have hRj := Rb_same hsn (fun o k h => Or.inl (by omega)) hR
        have hgl := plC_le hW (s := k + 1) j
        refine w_iload_n (i := 3) hX dX6_addPlaces_18 rfl rfl ?_
        refine w_bipush hX dX6_addPlaces_19 kB_24 ?_
        refine wn_icmp_gt (tgt := 45) hX dX6_addPlaces_21 (by decide) (by omega) (by omega) (fun c2 => ?_) (fun c2 => ?_)
        · refine w_iincN (w := 1) (l2 := [some (.ref v), some (.ref b), some (.int (nI (k + 1 + 1))), some (.int (nI (j + 1)))]) hX dX6_addPlaces_45 rfl kI_1 rfl rfl ?_
          refine w_goto (tgt := 10) hX dX6_addPlaces_48 (by decide) ?_
          refine w_sub (l2 := [some (.ref v), some (.ref b), some (.int (nI (k + 1 + 1))), none]) (by simp [lsub]) (leb rfl) ?_
          refine ih (by omega) _ hsn (fun s h8 h9 => ?_) (fun s h8 h9 => g2 s (by omega) h9)
          by_cases h7 : s = k + 1
          · rw [h7, g3, show j = 24 by omega]
          · exact g1 s h8 (by omega)
        · refine w_aload_n (i := 0) hX dX6_addPlaces_24 rfl rfl ?_
          refine w_getR (q := v + 1) hX dX6_addPlaces_25 fo_RX6_9 rfl (vt_s (hsn.isVt hv)) (vt_r0 (hsn.isVt hv)) ?_
          refine w_iload_n (i := 2) hX dX6_addPlaces_28 rfl rfl ?_
          refine w_dup2 hX dX6_addPlaces_29 rfl rfl ?_
          refine w_ialdN hX dX6_addPlaces_30 (vt_a1 (hsn.isVt hv)) (by omega) (by omega) ?_
          refine w_top (y := nI (plC B (k + 1) j)) g3 ?_
          refine w_aload_n (i := 1) hX dX6_addPlaces_31 rfl rfl ?_
          refine w_iload_n (i := 2) hX dX6_addPlaces_32 rfl rfl ?_
          refine w_iload_n (i := 3) hX dX6_addPlaces_33 rfl rfl ?_
          refine w_callVI (As := [.int (nI (k + 1)), .int (nI (j + 1))]) (rest := [.int (nI (plC B (k + 1) j)), .int (nI (k + 1)), .ref (v + 1)]) (ci := 0) (o := b) (k2 := 0) (n2 := 0) hX dX6_addPlaces_34 (s_b_friendsOf Γ ν2 b B hRj hW (k + 1) (j + 1) (by omega) (by omega) (by omega) (by omega)) okX0_friendsOf (ltb rfl) (bk_s hRj.1) ml_RX6_61 imX0_friendsOf seX0_friendsOf rfl (leb rfl) (leb rfl) rfl rfl (fun r9 μ9 hq9 => ?_)
          obtain ⟨hr9, hm9⟩ := hq9; rw [hr9, hm9]; clear hr9 hm9 r9 μ9
          refine w_iaddN hX dX6_addPlaces_37 ?_
          refine w_iastN hX dX6_addPlaces_38 (vt_a1 (hsn.isVt hv)) (by omega) (by omega) ?_
          refine w_iincN (w := 1) (l2 := [some (.ref v), some (.ref b), some (.int (nI (k + 1))), some (.int (nI (j + 1 + 1)))]) hX dX6_addPlaces_39 rfl kI_1 rfl rfl ?_
          refine w_goto (tgt := 18) hX dX6_addPlaces_42 (by decide) ?_
          exact ihj (by omega) _ (hsn.sI rfl) (fun s h8 h9 => by rw [gI_nk (by omega)]; exact g1 s h8 h9) (by rw [gI_same]; rfl) (fun s h8 h9 => by rw [gI_nk (by omega)]; exact g2 s h8 h9)
      exact inl 0 (Nat.zero_le _) ν hsm h1 (h2 (k + 1) (by omega) (by omega)) (fun s h8 h9 => h2 s (by omega) h9)
  exact loop 0 (Nat.zero_le _) ν0 hs0 (fun s h8 h9 => by omega) (fun s h8 h9 => hf0 s (by omega))
set_option maxHeartbeats 1000000 in
theorem s_takeLeast (Γ : Gm) (μ : Mem) (v b : Nat) (B : Nat → Nat) (hv : isVt μ v) (hvb : v + 1 < b) (hR : Rb μ b B) (hW : WB B) (hP1 : 1 ≤ B 126)  : SpV Γ MX6_takeLeastWorths 2 0 0 [.ref v, .ref b] μ (fun μ2 => same (fun o _ => o = v + 1) μ μ2 ∧ ∀ s, 1 ≤ s → s ≤ 24 → gI μ2 (v + 1) s = nI (lsC B s ((B 126 - 1)))) := by
  refine SpV.of okX6_takeLeastWorths rfl [some (.ref v), some (.ref b), none, none] ⟨rfl, rfl, trivial⟩ (leb rfl) (leb rfl) (fun X hX hE hnm => ?_)
  refine w_iconst hX dX6_takeLeastWorths_0 kI_1 ?_
  refine w_istore_n (i := 2) (l2 := [some (.ref v), some (.ref b), some (.int (nI 1)), none]) hX dX6_takeLeastWorths_1 rfl (ltb rfl) rfl rfl ?_
  have loop : ∀ k, k ≤ 24 → ∀ ν : Mem, (same (fun o _ => o = v + 1) μ ν) → (∀ s, 1 ≤ s → s ≤ k → gI ν (v + 1) s = nI (lsC B s ((B 126 - 1)))) → WP Γ X 0 0 2 [some (.ref v), some (.ref b), some (.int (nI (k + 1))), none] [] ν := by
    refine loopU (24) ?_
    intro k hk ih ν hsm h1
    have hRk := Rb_same hsm (fun o k h => Or.inl (by omega)) hR
    have hP := hW.2.2.2.1.1
    refine w_iload_n (i := 2) hX dX6_takeLeastWorths_2 rfl rfl ?_
    refine w_bipush hX dX6_takeLeastWorths_3 kB_24 ?_
    refine wn_icmp_gt (tgt := 63) hX dX6_takeLeastWorths_5 (by decide) (by omega) (by omega) (fun c1 => ?_) (fun c1 => ?_)
    · exact w_vret hX hE dX6_takeLeastWorths_63 (Or.inl rfl) ⟨hsm, fun s h8 h9 => h1 s h8 (by omega)⟩
    · refine w_aload_n (i := 0) hX dX6_takeLeastWorths_8 rfl rfl ?_
      refine w_getR (q := v + 1) hX dX6_takeLeastWorths_9 fo_RX6_9 rfl (vt_s (hsm.isVt hv)) (vt_r0 (hsm.isVt hv)) ?_
      refine w_iload_n (i := 2) hX dX6_takeLeastWorths_12 rfl rfl ?_
      refine w_aload_n (i := 1) hX dX6_takeLeastWorths_13 rfl rfl ?_
      refine w_iconst hX dX6_takeLeastWorths_14 kI_0 ?_
      refine w_iload_n (i := 2) hX dX6_takeLeastWorths_15 rfl rfl ?_
      refine w_callVI (As := [.int (nI 0), .int (nI (k + 1))]) (rest := [.int (nI (k + 1)), .ref (v + 1)]) (ci := 0) (o := b) (k2 := 0) (n2 := 0) hX dX6_takeLeastWorths_16 (s_b_worthOf Γ ν b B hRk 0 (k + 1) (by omega) (by omega) (by omega)) okX0_worthOf (ltb rfl) (bk_s hRk.1) ml_RX6_57 imX0_worthOf seX0_worthOf rfl (leb rfl) (leb rfl) rfl rfl (fun r9 μ9 hq9 => ?_)
      obtain ⟨hr9, hm9⟩ := hq9; rw [hr9, hm9]; clear hr9 hm9 r9 μ9
      refine w_iastN hX dX6_takeLeastWorths_19 (vt_a1 (hsm.isVt hv)) (by omega) (by omega) ?_
      refine w_iconst hX dX6_takeLeastWorths_20 kI_1 ?_
      refine w_istore_n (i := 3) (l2 := [some (.ref v), some (.ref b), some (.int (nI (k + 1))), some (.int (nI 1))]) hX dX6_takeLeastWorths_21 rfl (ltb rfl) rfl rfl ?_
      have inl : ∀ j, j ≤ (B 126 - 1) → ∀ ν2 : Mem, (same (fun o _ => o = v + 1) μ ν2) → (∀ s, 1 ≤ s → s ≤ k → gI ν2 (v + 1) s = nI (lsC B s ((B 126 - 1)))) → (gI ν2 (v + 1) (k + 1) = nI (lsC B (k + 1) j)) → WP Γ X 0 0 22 [some (.ref v), some (.ref b), some (.int (nI (k + 1))), some (.int (nI (j + 1)))] [] ν2 := by
        refine loopU ((B 126 - 1)) ?_
        intro j hj ihj ν2 hsn g1 g3
        have hRj := Rb_same hsn (fun o k h => Or.inl (by omega)) hR
        have hgl := lsC_le hW (show k + 1 ≤ 24 by omega) j
        refine w_iload_n (i := 3) hX dX6_takeLeastWorths_22 rfl rfl ?_
        refine w_aload_n (i := 1) hX dX6_takeLeastWorths_23 rfl rfl ?_
        refine w_getI hX dX6_takeLeastWorths_24 fo_RX6_47 rfl (bk_s hRj.1) ?_
        refine w_top (y := nI (B 126)) hRj.2.2.2.2.2.2.2.1 ?_
        refine wn_icmp_ge (tgt := 57) hX dX6_takeLeastWorths_27 (by decide) (by omega) (by omega) (fun c2 => ?_) (fun c2 => ?_)
        · refine w_iincN (w := 1) (l2 := [some (.ref v), some (.ref b), some (.int (nI (k + 1 + 1))), some (.int (nI (j + 1)))]) hX dX6_takeLeastWorths_57 rfl kI_1 rfl rfl ?_
          refine w_goto (tgt := 2) hX dX6_takeLeastWorths_60 (by decide) ?_
          refine w_sub (l2 := [some (.ref v), some (.ref b), some (.int (nI (k + 1 + 1))), none]) (by simp [lsub]) (leb rfl) ?_
          refine ih (by omega) _ hsn (fun s h8 h9 => ?_)
          by_cases h7 : s = k + 1
          · rw [h7, g3, show j = (B 126 - 1) by omega]
          · exact g1 s h8 (by omega)
        · refine w_aload_n (i := 0) hX dX6_takeLeastWorths_30 rfl rfl ?_
          refine w_getR (q := v + 1) hX dX6_takeLeastWorths_31 fo_RX6_9 rfl (vt_s (hsn.isVt hv)) (vt_r0 (hsn.isVt hv)) ?_
          refine w_iload_n (i := 2) hX dX6_takeLeastWorths_34 rfl rfl ?_
          refine w_aload_n (i := 0) hX dX6_takeLeastWorths_35 rfl rfl ?_
          refine w_getR (q := v + 1) hX dX6_takeLeastWorths_36 fo_RX6_9 rfl (vt_s (hsn.isVt hv)) (vt_r0 (hsn.isVt hv)) ?_
          refine w_iload_n (i := 2) hX dX6_takeLeastWorths_39 rfl rfl ?_
          refine w_ialdN hX dX6_takeLeastWorths_40 (vt_a1 (hsn.isVt hv)) (by omega) (by omega) ?_
          refine w_top (y := nI (lsC B (k + 1) j)) g3 ?_
          refine w_aload_n (i := 1) hX dX6_takeLeastWorths_41 rfl rfl ?_
          refine w_iload_n (i := 3) hX dX6_takeLeastWorths_42 rfl rfl ?_
          refine w_iload_n (i := 2) hX dX6_takeLeastWorths_43 rfl rfl ?_
          refine w_callVI (As := [.int (nI (j + 1)), .int (nI (k + 1))]) (rest := [.int (nI (lsC B (k + 1) j)), .int (nI (k + 1)), .ref (v + 1)]) (ci := 0) (o := b) (k2 := 0) (n2 := 0) hX dX6_takeLeastWorths_44 (s_b_worthOf Γ ν2 b B hRj (j + 1) (k + 1) (by omega) (by omega) (by omega)) okX0_worthOf (ltb rfl) (bk_s hRj.1) ml_RX6_57 imX0_worthOf seX0_worthOf rfl (leb rfl) (leb rfl) rfl rfl (fun r9 μ9 hq9 => ?_)
          obtain ⟨hr9, hm9⟩ := hq9; rw [hr9, hm9]; clear hr9 hm9 r9 μ9
          refine w_min hX dX6_takeLeastWorths_47 ml_RX6_64 (leb rfl) (leb rfl) ?_
          refine w_iastN hX dX6_takeLeastWorths_50 (vt_a1 (hsn.isVt hv)) (by omega) (by omega) ?_
          refine w_iincN (w := 1) (l2 := [some (.ref v), some (.ref b), some (.int (nI (k + 1))), some (.int (nI (j + 1 + 1)))]) hX dX6_takeLeastWorths_51 rfl kI_1 rfl rfl ?_
          refine w_goto (tgt := 22) hX dX6_takeLeastWorths_54 (by decide) ?_
          exact ihj (by omega) _ (hsn.sI rfl) (fun s h8 h9 => by rw [gI_nk (by omega)]; exact g1 s h8 h9) (by rw [gI_same]; simp only [lsC]; have h6 := wsh_le hW (show j + 1 < 9 by omega) (show k + 1 ≤ 24 by omega); have h7 := nI_ltI (a := wsh B (j + 1) (k + 1)) (b := lsC B (k + 1) j) (by omega) (by omega); by_cases h5 : wsh B (j + 1) (k + 1) < lsC B (k + 1) j; (rw [if_pos h5, if_pos (h7.mpr h5)]); (rw [if_neg h5, if_neg (fun e => h5 (h7.mp e))]))
      exact inl 0 (Nat.zero_le _) (sI ν (v + 1) (k + 1) (nI (wsh B 0 (k + 1)))) (hsm.sI rfl) (fun s h8 h9 => by rw [gI_nk (by omega)]; exact h1 s h8 h9) gI_same
  exact loop 0 (Nat.zero_le _) μ same.rf (fun s h8 h9 => by omega)
