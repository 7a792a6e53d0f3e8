def shB (B : Nat → Nat) (t n k : Nat) : Nat → Nat := fun i => if 4 + 25 * t + 2 * k ≤ i ∧ i ≤ 3 + 25 * t + 2 * n then B (i - 2) else B i
theorem shB_lo {B : Nat → Nat} {t n k i : Nat} (h : i < 4 + 25 * t + 2 * k) : shB B t n k i = B i := if_neg (by omega)
theorem shB_n {B : Nat → Nat} {t n : Nat} : shB B t n n = B := by
  funext i; exact if_neg (by omega)
theorem shB_step {B : Nat → Nat} {t n k : Nat} (h1 : 1 ≤ k) (h2 : k ≤ n) : stB (stB (shB B t n k) (1 + 25 * t + 1 + 2 * k) (dyI B t (k - 1))) (1 + 25 * t + 2 + 2 * k) (hrI B t (k - 1)) = shB B t n (k - 1) := by
  funext i
  by_cases c1 : i = 1 + 25 * t + 2 + 2 * k
  · subst c1; rw [stB_same]; unfold shB; rw [if_pos (by omega)]; show B _ = B _; congr 1; omega
  · rw [stB_ne c1]
    by_cases c2 : i = 1 + 25 * t + 1 + 2 * k
    · subst c2; rw [stB_same]; unfold shB; rw [if_pos (by omega)]; show B _ = B _; congr 1; omega
    · rw [stB_ne c2]; unfold shB
      by_cases c3 : 4 + 25 * t + 2 * k ≤ i ∧ i ≤ 3 + 25 * t + 2 * n
      · rw [if_pos c3, if_pos (by omega)]
      · rw [if_neg c3, if_neg (by omega)]
theorem posI_dn {f : Nat → Nat} {v k : Nat} (hk : 1 ≤ k) (h : v < f (k - 1)) : posI f v k = posI f v (k - 1) := by
  obtain ⟨j, rfl⟩ : ∃ j, k = j + 1 := ⟨k - 1, by omega⟩
  simp only [posI]; rw [if_pos (show v < f j from h)]; rfl
theorem posI_at {f : Nat → Nat} {v k : Nat} (h : k = 0 ∨ ¬ v < f (k - 1)) : posI f v k = k := by
  rcases h with h | h
  · subst h; rfl
  · cases k with
    | zero => rfl
    | succ j => simp only [posI]; rw [if_neg (show ¬ v < f j from h)]
theorem insB_eq {B : Nat → Nat} {t d h k : Nat} (hk : k ≤ nB B t) (hp : posI (dyI B t) d (nB B t) = k) : stB (stB (stB (shB B t (nB B t) k) (1 + 25 * t + 1 + 2 * k) d) (1 + 25 * t + 2 + 2 * k) h) (1 + 25 * t) (nB B t + 1) = insB B t d h := by
  funext i
  unfold insB
  rw [hp]
  by_cases c0 : i = 1 + 25 * t
  · subst c0; rw [stB_same, if_pos rfl]
  rw [stB_ne c0, if_neg c0]
  by_cases c1 : 1 + 25 * t < i ∧ i ≤ 1 + 25 * t + 2 * (nB B t + 1)
  · rw [if_pos c1]
    rcases Nat.mod_two_eq_zero_or_one (i - (2 + 25 * t)) with e | e
    · obtain ⟨j, rfl⟩ : ∃ j, i = 1 + 25 * t + 1 + 2 * j := ⟨(i - (2 + 25 * t)) / 2, by omega⟩
      rw [if_pos e, stB_ne (by omega), show (1 + 25 * t + 1 + 2 * j - (2 + 25 * t)) / 2 = j by omega]
      unfold insF
      by_cases e1 : j < k
      · rw [if_pos e1, stB_ne (by omega), shB_lo (by omega)]; rfl
      · rw [if_neg e1]
        by_cases e2 : j = k
        · subst e2; rw [if_pos rfl, stB_same]
        · rw [if_neg e2, stB_ne (by omega)]; unfold shB; rw [if_pos (by omega)]; show B _ = B _; congr 1; omega
    · obtain ⟨j, rfl⟩ : ∃ j, i = 1 + 25 * t + 2 + 2 * j := ⟨(i - (2 + 25 * t)) / 2, by omega⟩
      rw [if_neg (by omega), show (1 + 25 * t + 2 + 2 * j - (2 + 25 * t)) / 2 = j by omega]
      unfold insF
      by_cases e1 : j < k
      · rw [if_pos e1, stB_ne (by omega), stB_ne (by omega), shB_lo (by omega)]; rfl
      · rw [if_neg e1]
        by_cases e2 : j = k
        · subst e2; rw [if_pos rfl, stB_same]
        · rw [if_neg e2, stB_ne (by omega), stB_ne (by omega)]; unfold shB; rw [if_pos (by omega)]; show B _ = B _; congr 1; omega
  · rw [if_neg c1, stB_ne (by omega), stB_ne (by omega)]; unfold shB; rw [if_neg (by omega)]
def NDP (B : Nat → Nat) (t : Nat) (s : Tp) (n : Nat) : Prop := kd s (n + 1) = 3 → hasD B t (vl s (n + 1)) = false
theorem NDP.get {B : Nat → Nat} {t n : Nat} {s : Tp} (h : NDP B t s n) (hk : kd s (n + 1) = 3) : hasD B t (vl s (n + 1)) = false := h hk
theorem NDP_all {B : Nat → Nat} {t n : Nat} {s : Tp} (h : ∀ i, i < nB B t → ¬ (kd s (n + 1) = 3 ∧ dyI B t i = vl s (n + 1))) : NDP B t s n := fun hk => by
  rw [Bool.eq_false_iff]; intro h9; obtain ⟨i, h1, h2⟩ := hasD_iff.mp h9; exact h i h1 ⟨hk, h2⟩
theorem NDP_no {B : Nat → Nat} {t n : Nat} {s : Tp} (h : kd s (n + 1) ≠ 3) : NDP B t s n := fun hk => absurd hk h
set_option maxHeartbeats 1000000 in
theorem s_m_back (Γ : Gm) (μ : Mem) (m : Nat) (s : Tp) (n : Nat) (B : Nat → Nat) (M : NM) (hT : MT μ m s) (hS : MSt μ m s n) (hB : MBk μ m B) (hN : MN μ m M) (hP : PIv B M) (hkn : kd s n ≠ 0)  : SpV Γ MX9_readBack 4 0 0 [.ref m] μ (fun μ2 => MX m s (pBack s n B M) μ μ2) := by
  refine SpV.of okX9_readBack rfl [some (.ref m), none, none, none, none, none, none] ⟨rfl, trivial⟩ (leb rfl) (leb rfl) (fun X hX hE hnm => ?_)
  have hs : same (SMm m) μ μ := same.rf
  obtain ⟨hM9, hb0, hb85, hb126, hb352⟩ := M32 hP
  have hn := (rch_le hT.2.2.2 n hS.2.1).2
  have hL1 := hT.2.2.2.1
  rcases Nat.eq_zero_or_pos (B 0) with h00 | h00
  · refine w_aload_n (i := 0) hX dX9_readBack_0 rfl rfl ?_
    refine w_getR (q := m + 6) hX dX9_readBack_1 fo_RX9_73 rfl (mod_s hT.1) (mod_r10 hT.1) ?_
    refine w_sipush hX dX9_readBack_4 kS_480 ?_
    refine w_ialdN hX dX9_readBack_7 (mod_a6 hT.1) (by omega) (by omega) ?_
    refine w_top (y := nI (B 0)) (hB 0 (by omega)) ?_
    refine w_iconst hX dX9_readBack_8 kI_1 ?_
    refine w_isub hX dX9_readBack_9 ?_
    refine w_top (y := (-1 : Int32)) (by rw [h00]; rfl) ?_
    refine w_istore_n (i := 1) (l2 := [some (.ref m), some (.int ((-1 : Int32))), none, none, none, none, none]) hX dX9_readBack_10 rfl (ltb rfl) rfl rfl ?_
    refine w_iload_n (i := 1) hX dX9_readBack_11 rfl rfl ?_
    refine wc_if_ge (tgt := 21) hX dX9_readBack_12 (by decide) (fun c1 => ?_) (fun c1 => ?_)
    · first | exact absurd c1 (by decide) | exact absurd (by decide) c1
    · refine w_aload_n (i := 0) hX dX9_readBack_15 rfl rfl ?_
      refine w_iconst hX dX9_readBack_16 kI_1 ?_
      refine w_callVV (As := [.int (nI 1)]) (rest := []) (ci := 9) (o := m) (k2 := 0) (n2 := 0) hX dX9_readBack_17 (s_m_wrong0 Γ μ m s hT (n) hS 1) okX9_wrong (ltb rfl) (mod_s hT.1) ml_RX9_160 imX9_wrong seX9_wrong rfl (leb rfl) (leb rfl) rfl rfl (fun μ9 hq9 => ?_)
      rw [hq9]; clear hq9 μ9
      have hF_1 := hS.bad (ft_lt (w := 1) (n := n) hT.2.2.2 (by omega) (by omega))
      have t1 : same (SA2 m) μ (sI μ m 8 (nI (ft s 1 (n)))) := same.rf.sI ⟨rfl, Or.inr rfl⟩
      have hT_1 := hT.sm t1 (fun o k h => by unfold SA2 at h; omega)
      obtain ⟨n9_1, hn9_1⟩ := hF_1.2.2
      have hf_1 := hF_1.2.1
      have hn_1 := (rch_le hT_1.2.2.2 _ hn9_1.1).2
      have hs_1 := hs.tr (t1.up (fun o k h => by unfold SA2 at h; unfold SMm; omega))
      have hpx : pBack s n B M = .inl (ft s 1 (n)) := by unfold pBack; exact if_pos (by omega)
      exact w_vret hX hE dX9_readBack_20 (Or.inl rfl) (MX_l hpx hs_1 hF_1)
  · obtain ⟨t, ht⟩ : ∃ t, B 0 = t + 1 := ⟨B 0 - 1, by omega⟩
    have hrng := hP.1.1.2 t (by omega)
    have hnb : nB B t ≤ 12 := hrng.1
    refine w_aload_n (i := 0) hX dX9_readBack_0 rfl rfl ?_
    refine w_getR (q := m + 6) hX dX9_readBack_1 fo_RX9_73 rfl (mod_s hT.1) (mod_r10 hT.1) ?_
    refine w_sipush hX dX9_readBack_4 kS_480 ?_
    refine w_ialdN hX dX9_readBack_7 (mod_a6 hT.1) (by omega) (by omega) ?_
    refine w_top (y := nI (B 0)) (hB 0 (by omega)) ?_
    refine w_iconst hX dX9_readBack_8 kI_1 ?_
    refine w_isubN hX dX9_readBack_9 (by omega) ?_
    refine w_top (y := nI t) (by rw [show B 0 - 1 = t by omega]) ?_
    refine w_istore_n (i := 1) (l2 := [some (.ref m), some (.int (nI t)), none, none, none, none, none]) hX dX9_readBack_10 rfl (ltb rfl) rfl rfl ?_
    refine w_iload_n (i := 1) hX dX9_readBack_11 rfl rfl ?_
    refine wn_if_ge (tgt := 21) hX dX9_readBack_12 (by decide) (by omega) (fun c2 => ?_) (fun c2 => ?_)
    · refine w_sipush hX dX9_readBack_21 kS_481 ?_
      refine w_bipush hX dX9_readBack_24 kB_25 ?_
      refine w_iload_n (i := 1) hX dX9_readBack_26 rfl rfl ?_
      refine w_imulN hX dX9_readBack_27 ?_
      refine w_iaddN hX dX9_readBack_28 ?_
      refine w_istore_n (i := 2) (l2 := [some (.ref m), some (.int (nI t)), some (.int (nI (481 + (25 * t)))), none, none, none, none]) hX dX9_readBack_29 rfl (ltb rfl) rfl rfl ?_
      refine w_aload_n (i := 0) hX dX9_readBack_30 rfl rfl ?_
      refine w_getR (q := m + 6) hX dX9_readBack_31 fo_RX9_73 rfl (mod_s hT.1) (mod_r10 hT.1) ?_
      refine w_iload_n (i := 2) hX dX9_readBack_34 rfl rfl ?_
      refine w_ialdN hX dX9_readBack_35 (mod_a6 hT.1) (by omega) (by omega) ?_
      refine w_top (y := nI (nB B t)) (by have h9 := hB (1 + 25 * t) (by omega); rw [show 480 + (1 + 25 * t) = 481 + (25 * t) by omega] at h9; exact h9) ?_
      refine w_istore_n (i := 3) (l2 := [some (.ref m), some (.int (nI t)), some (.int (nI (481 + (25 * t)))), some (.int (nI (nB B t))), none, none, none]) hX dX9_readBack_36 rfl (ltb rfl) rfl rfl ?_
      refine w_iload_n (i := 3) hX dX9_readBack_37 rfl rfl ?_
      refine w_bipush hX dX9_readBack_38 kB_12 ?_
      refine wn_icmp_ne (tgt := 49) hX dX9_readBack_40 (by decide) (by omega) (by omega) (fun c3 => ?_) (fun c3 => ?_)
      · refine w_aload_n (i := 0) hX dX9_readBack_49 rfl rfl ?_
        refine w_dup hX dX9_readBack_50 rfl ?_
        refine w_getI hX dX9_readBack_51 fo_RX9_151 rfl (mod_s hT.1) ?_
        refine w_top (y := nI n) hS.1 ?_
        refine w_iconst hX dX9_readBack_54 kI_1 ?_
        refine w_iaddN hX dX9_readBack_55 ?_
        refine w_putI hX dX9_readBack_56 fo_RX9_151 rfl rfl rfl rfl (mod_s hT.1) ?_
        have hS_2 : MSt (sI μ m 7 (nI (n + 1))) m s (n + 1) := hS.next (show kd s (n) ≠ 0 from hkn)
        have t2 : same (SA2 m) μ (sI μ m 7 (nI (n + 1))) := same.rf.sI ⟨rfl, Or.inl rfl⟩
        have hT_2 := hT.sm t2 (fun o k h => by unfold SA2 at h; omega)
        have hB_2 := hB.sm t2 (fun o k h => by unfold SA2 at h; omega)
        have hN_2 := hN.sm t2 (fun o k h => by unfold SA2 at h; omega)
        have hn_2 := (rch_le hT_2.2.2.2 _ hS_2.2.1).2
        have hs_2 := hs.tr (t2.up (fun o k h => by unfold SA2 at h; unfold SMm; omega))
        refine w_iconst hX dX9_readBack_59 kI_0 ?_
        refine w_istore (l2 := [some (.ref m), some (.int (nI t)), some (.int (nI (481 + (25 * t)))), some (.int (nI (nB B t))), some (.int (nI 0)), none, none]) hX dX9_readBack_60 (ltb rfl) rfl rfl ?_
        obtain ⟨z, hz, hz4, z0, z1, z2, z3, hpl, hwv, hvv, hcv0⟩ := hT_2.2.2.1 (n + 1) hS_2.2.1
        clear hcv0
        have j126 : NDP B t s n → WP Γ X 0 0 126 [some (.ref m), some (.int (nI t)), some (.int (nI (481 + (25 * t)))), some (.int (nI (nB B t))), none, none, none] [] (sI μ m 7 (nI (n + 1))) := by
          intro hnd
          refine w_aload_n (i := 0) hX dX9_readBack_126 rfl rfl ?_
          refine w_iconst hX dX9_readBack_127 kI_0 ?_
          refine w_sipush hX dX9_readBack_128 kS_3649 ?_
          refine w_callVI (As := [.int (nI 0), .int (nI 3649)]) (rest := []) (ci := 9) (o := m) (k2 := 0) (n2 := 0) hX dX9_readBack_131 (s_m_takeN0 Γ (sI μ m 7 (nI (n + 1))) m s hT_2 (n + 1) hS_2 0 3649 (by omega) (by omega)) okX9_takeNumber (ltb rfl) (mod_s hT_2.1) ml_RX9_173 imX9_takeNumber seX9_takeNumber rfl (leb rfl) (leb rfl) rfl rfl (fun r3 ν3 hq9 => ?_)
          rcases hq9 with ⟨p3, e3, m3⟩ | ⟨f3, p3, e3, m3⟩
          · rw [e3, m3]
            obtain ⟨q3, -, l3, g3⟩ := pNb_inr p3
            have hS_3 : MSt (sI (sI μ m 7 (nI (n + 1))) m 7 (nI (n + 1 + 1))) m s (n + 2) := hS_2.next (show kd s (n + 1) ≠ 0 by omega)
            have t3 : same (SA2 m) (sI μ m 7 (nI (n + 1))) (sI (sI μ m 7 (nI (n + 1))) m 7 (nI (n + 1 + 1))) := same.rf.sI ⟨rfl, Or.inl rfl⟩
            have hT_3 := hT_2.sm t3 (fun o k h => by unfold SA2 at h; omega)
            have hB_3 := hB_2.sm t3 (fun o k h => by unfold SA2 at h; omega)
            have hN_3 := hN_2.sm t3 (fun o k h => by unfold SA2 at h; omega)
            have hn_3 := (rch_le hT_3.2.2.2 _ hS_3.2.1).2
            have hs_3 := hs_2.tr (t3.up (fun o k h => by unfold SA2 at h; unfold SMm; omega))
            have hhd : hasD B t (vl s (n + 1)) = false := hnd.get (by omega)
            refine w_istore (l2 := [some (.ref m), some (.int (nI t)), some (.int (nI (481 + (25 * t)))), some (.int (nI (nB B t))), some (.int (nI (vl s (n + 1)))), none, none]) hX dX9_readBack_134 (ltb rfl) rfl rfl ?_
            refine w_aload_n (i := 0) hX dX9_readBack_136 rfl rfl ?_
            refine w_iconst hX dX9_readBack_137 kI_2 ?_
            refine w_iconst hX dX9_readBack_138 kI_1 ?_
            refine w_bipush hX dX9_readBack_139 kB_24 ?_
            refine w_callVI (As := [.int (nI 2), .int (nI 1), .int (nI 24)]) (rest := []) (ci := 9) (o := m) (k2 := 0) (n2 := 0) hX dX9_readBack_141 (s_m_after0 Γ (sI (sI μ m 7 (nI (n + 1))) m 7 (nI (n + 1 + 1))) m s hT_3 (n + 2) hS_3 2 1 24 (by omega) (by omega) (by omega)) okX9_takeAfter (ltb rfl) (mod_s hT_3.1) ml_RX9_222 imX9_takeAfter seX9_takeAfter rfl (leb rfl) (leb rfl) rfl rfl (fun r4 ν4 hq9 => ?_)
            rcases hq9 with ⟨w4, p4, e4, hS_4, t4⟩ | ⟨f4, p4, e4, hF_4, t4⟩
            · rw [e4]
              have p4 : pNb s (n + 3) 1 24 = .inr (vl s (n + 3)) := p4
              have hS_4 : MSt ν4 m s (n + 4) := hS_4
              obtain ⟨q4, -, l4, g4⟩ := pNb_inr p4
              have hT_4 := hT_3.sm t4 (fun o k h => by unfold SA2 at h; omega)
              have hB_4 := hB_3.sm t4 (fun o k h => by unfold SA2 at h; omega)
              have hN_4 := hN_3.sm t4 (fun o k h => by unfold SA2 at h; omega)
              have hn_4 := (rch_le hT_4.2.2.2 _ hS_4.2.1).2
              have hs_4 := hs_3.tr (t4.up (fun o k h => by unfold SA2 at h; unfold SMm; omega))
              refine w_istore (l2 := [some (.ref m), some (.int (nI t)), some (.int (nI (481 + (25 * t)))), some (.int (nI (nB B t))), some (.int (nI (vl s (n + 1)))), some (.int (nI (vl s (n + 3)))), none]) hX dX9_readBack_144 (ltb rfl) rfl rfl ?_
              refine w_aload_n (i := 0) hX dX9_readBack_146 rfl rfl ?_
              refine w_getI hX dX9_readBack_147 fo_RX9_154 rfl (mod_s hT_4.1) ?_
              refine w_top (y := nI 0) hS_4.2.2 ?_
              refine wn_if_le (tgt := 154) hX dX9_readBack_150 (by decide) (by omega) (fun c4 => ?_) (fun c4 => ?_)
              · refine w_iload_n (i := 3) hX dX9_readBack_154 rfl rfl ?_
                refine w_istore (l2 := [some (.ref m), some (.int (nI t)), some (.int (nI (481 + (25 * t)))), some (.int (nI (nB B t))), some (.int (nI (vl s (n + 1)))), some (.int (nI (vl s (n + 3)))), some (.int (nI (nB B t)))]) hX dX9_readBack_155 (ltb rfl) rfl rfl ?_
                have j236 : ∀ k9, k9 ≤ nB B t → ∀ νt : Mem, MT νt m s → MSt νt m s (n + 4) → MBk νt m (shB B t (nB B t) k9) → MN νt m M → same (SMm m) μ νt → posI (dyI B t) (vl s (n + 1)) (nB B t) = k9 → WP Γ X 0 0 236 [some (.ref m), some (.int (nI t)), some (.int (nI (481 + (25 * t)))), some (.int (nI (nB B t))), some (.int (nI (vl s (n + 1)))), some (.int (nI (vl s (n + 3)))), some (.int (nI k9))] [] νt := by
                  intro k9 hk9 νt hT_t hS_t hB_t hN_t hs_t hpos
                  have hn_t := hn_4
                  refine w_aload_n (i := 0) hX dX9_readBack_236 rfl rfl ?_
                  refine w_getR (q := m + 6) hX dX9_readBack_237 fo_RX9_73 rfl (mod_s hT_t.1) (mod_r10 hT_t.1) ?_
                  refine w_iload_n (i := 2) hX dX9_readBack_240 rfl rfl ?_
                  refine w_iconst hX dX9_readBack_241 kI_1 ?_
                  refine w_iaddN hX dX9_readBack_242 ?_
                  refine w_iconst hX dX9_readBack_243 kI_2 ?_
                  refine w_iload hX dX9_readBack_244 rfl ?_
                  refine w_imulN hX dX9_readBack_246 ?_
                  refine w_iaddN hX dX9_readBack_247 ?_
                  refine w_iload hX dX9_readBack_248 rfl ?_
                  refine w_iastN hX dX9_readBack_250 (mod_a6 hT_t.1) (by omega) (by omega) ?_
                  have t5 : same (fun o2 k2 => o2 = m + 6 ∧ k2 = 481 + (25 * t) + 1 + (2 * k9)) νt (sI νt (m + 6) (481 + (25 * t) + 1 + (2 * k9)) (nI (vl s (n + 1)))) := same.rf.sI ⟨rfl, rfl⟩
                  have hT_5 := hT_t.sm t5 (fun o k h => by omega)
                  have hs_5 := hs_t.tr (t5.up (fun o k h => by unfold SMm; omega))
                  have hS_5 := hS_t.sm t5 (fun h => by omega) (fun h => by omega)
                  have hN_5 := hN_t.sm t5 (fun o k h => by omega)
                  have hB_5 : MBk (sI νt (m + 6) (481 + (25 * t) + 1 + (2 * k9)) (nI (vl s (n + 1)))) m (stB (shB B t (nB B t) k9) (1 + 25 * t + 1 + 2 * k9) (vl s (n + 1))) := by have h9 := hB_t.st (j := 1 + 25 * t + 1 + 2 * k9) (v := vl s (n + 1)) (by omega); rwa [show 480 + (1 + 25 * t + 1 + 2 * k9) = 481 + (25 * t) + 1 + (2 * k9) by omega] at h9
                  have hn_5 := hn_t
                  refine w_aload_n (i := 0) hX dX9_readBack_251 rfl rfl ?_
                  refine w_getR (q := m + 6) hX dX9_readBack_252 fo_RX9_73 rfl (mod_s hT_5.1) (mod_r10 hT_5.1) ?_
                  refine w_iload_n (i := 2) hX dX9_readBack_255 rfl rfl ?_
                  refine w_iconst hX dX9_readBack_256 kI_2 ?_
                  refine w_iaddN hX dX9_readBack_257 ?_
                  refine w_iconst hX dX9_readBack_258 kI_2 ?_
                  refine w_iload hX dX9_readBack_259 rfl ?_
                  refine w_imulN hX dX9_readBack_261 ?_
                  refine w_iaddN hX dX9_readBack_262 ?_
                  refine w_iload hX dX9_readBack_263 rfl ?_
                  refine w_iastN hX dX9_readBack_265 (mod_a6 hT_5.1) (by omega) (by omega) ?_
                  have t6 : same (fun o2 k2 => o2 = m + 6 ∧ k2 = 481 + (25 * t) + 2 + (2 * k9)) (sI νt (m + 6) (481 + (25 * t) + 1 + (2 * k9)) (nI (vl s (n + 1)))) (sI (sI νt (m + 6) (481 + (25 * t) + 1 + (2 * k9)) (nI (vl s (n + 1)))) (m + 6) (481 + (25 * t) + 2 + (2 * k9)) (nI (vl s (n + 3)))) := same.rf.sI ⟨rfl, rfl⟩
                  have hT_6 := hT_5.sm t6 (fun o k h => by omega)
                  have hs_6 := hs_5.tr (t6.up (fun o k h => by unfold SMm; omega))
                  have hS_6 := hS_5.sm t6 (fun h => by omega) (fun h => by omega)
                  have hN_6 := hN_5.sm t6 (fun o k h => by omega)
                  have hB_6 : MBk (sI (sI νt (m + 6) (481 + (25 * t) + 1 + (2 * k9)) (nI (vl s (n + 1)))) (m + 6) (481 + (25 * t) + 2 + (2 * k9)) (nI (vl s (n + 3)))) m (stB (stB (shB B t (nB B t) k9) (1 + 25 * t + 1 + 2 * k9) (vl s (n + 1))) (1 + 25 * t + 2 + 2 * k9) (vl s (n + 3))) := by have h9 := hB_5.st (j := 1 + 25 * t + 2 + 2 * k9) (v := vl s (n + 3)) (by omega); rwa [show 480 + (1 + 25 * t + 2 + 2 * k9) = 481 + (25 * t) + 2 + (2 * k9) by omega] at h9
                  have hn_6 := hn_5
                  refine w_aload_n (i := 0) hX dX9_readBack_266 rfl rfl ?_
                  refine w_getR (q := m + 6) hX dX9_readBack_267 fo_RX9_73 rfl (mod_s hT_6.1) (mod_r10 hT_6.1) ?_
                  refine w_iload_n (i := 2) hX dX9_readBack_270 rfl rfl ?_
                  refine w_dup2 hX dX9_readBack_271 rfl rfl ?_
                  refine w_ialdN hX dX9_readBack_272 (mod_a6 hT_6.1) (by omega) (by omega) ?_
                  refine w_top (y := nI (nB B t)) (by have h9 := hB_6 (1 + 25 * t) (by omega); rw [stB_ne (by omega), stB_ne (by omega), shB_lo (by omega)] at h9; rw [show 480 + (1 + 25 * t) = 481 + (25 * t) by omega] at h9; exact h9) ?_
                  refine w_iconst hX dX9_readBack_273 kI_1 ?_
                  refine w_iaddN hX dX9_readBack_274 ?_
                  refine w_iastN hX dX9_readBack_275 (mod_a6 hT_6.1) (by omega) (by omega) ?_
                  have t7 : same (fun o2 k2 => o2 = m + 6 ∧ k2 = 481 + (25 * t)) (sI (sI νt (m + 6) (481 + (25 * t) + 1 + (2 * k9)) (nI (vl s (n + 1)))) (m + 6) (481 + (25 * t) + 2 + (2 * k9)) (nI (vl s (n + 3)))) (sI (sI (sI νt (m + 6) (481 + (25 * t) + 1 + (2 * k9)) (nI (vl s (n + 1)))) (m + 6) (481 + (25 * t) + 2 + (2 * k9)) (nI (vl s (n + 3)))) (m + 6) (481 + (25 * t)) (nI (nB B t + 1))) := same.rf.sI ⟨rfl, rfl⟩
                  have hT_7 := hT_6.sm t7 (fun o k h => by omega)
                  have hs_7 := hs_6.tr (t7.up (fun o k h => by unfold SMm; omega))
                  have hS_7 := hS_6.sm t7 (fun h => by omega) (fun h => by omega)
                  have hN_7 := hN_6.sm t7 (fun o k h => by omega)
                  have hB_7 : MBk (sI (sI (sI νt (m + 6) (481 + (25 * t) + 1 + (2 * k9)) (nI (vl s (n + 1)))) (m + 6) (481 + (25 * t) + 2 + (2 * k9)) (nI (vl s (n + 3)))) (m + 6) (481 + (25 * t)) (nI (nB B t + 1))) m (stB (stB (stB (shB B t (nB B t) k9) (1 + 25 * t + 1 + 2 * k9) (vl s (n + 1))) (1 + 25 * t + 2 + 2 * k9) (vl s (n + 3))) (1 + 25 * t) (nB B t + 1)) := by have h9 := hB_6.st (j := 1 + 25 * t) (v := nB B t + 1) (by omega); rwa [show 480 + (1 + 25 * t) = 481 + (25 * t) by omega] at h9
                  have hn_7 := hn_6
                  have hT_z := hT_7
                  have hS_z := hS_7
                  have hN_z := hN_7
                  have hs_z := hs_7
                  have hn_z := hn_7
                  have hB_z : MBk (sI (sI (sI νt (m + 6) (481 + (25 * t) + 1 + (2 * k9)) (nI (vl s (n + 1)))) (m + 6) (481 + (25 * t) + 2 + (2 * k9)) (nI (vl s (n + 3)))) (m + 6) (481 + (25 * t)) (nI (nB B t + 1))) m (insB B t (vl s (n + 1)) (vl s (n + 3))) := by rw [← insB_eq hk9 hpos]; exact hB_7
                  have hpx : pBack s n B M = .inr (n + 4, (insB B t (vl s (n + 1)) (vl s (n + 3))), M) := by unfold pBack; rw [show B 0 - 1 = t by omega]; exact (if_neg (by omega)).trans ((if_neg (by omega)).trans ((bnd_r p3).trans ((if_neg (by rw [hhd]; decide)).trans ((bnd_r (pWd_y w4)).trans (bnd_r p4)))))
                  exact w_vret hX hE dX9_readBack_276 (Or.inl rfl) (MX_r hpx hs_z hS_z hB_z hN_z)
                have loop2 : ∀ k9, k9 ≤ nB B t → ∀ νw : Mem, MT νw m s → MSt νw m s (n + 4) → MBk νw m (shB B t (nB B t) k9) → MN νw m M → same (SMm m) μ νw → posI (dyI B t) (vl s (n + 1)) (nB B t) = posI (dyI B t) (vl s (n + 1)) k9 → WP Γ X 0 0 157 [some (.ref m), some (.int (nI t)), some (.int (nI (481 + (25 * t)))), some (.int (nI (nB B t))), some (.int (nI (vl s (n + 1)))), some (.int (nI (vl s (n + 3)))), some (.int (nI k9))] [] νw := by
                  intro k9
                  induction k9 using Nat.strongRecOn with
                  | ind k9 ih =>
                    intro hk9 νw hT_w hS_w hB_w hN_w hs_w hpos
                    have hn_w := hn_4
                    refine w_iload hX dX9_readBack_157 rfl ?_
                    refine wn_if_le (tgt := 236) hX dX9_readBack_159 (by decide) (by omega) (fun c5 => ?_) (fun c5 => ?_)
                    · exact j236 k9 hk9 _ hT_w hS_w hB_w hN_w hs_w (hpos.trans (posI_at (by omega)))
                    · have hdk : dyI B t (k9 - 1) ≤ 3649 := (hrng.2.1 (k9 - 1) (by omega)).1
                      refine w_aload_n (i := 0) hX dX9_readBack_162 rfl rfl ?_
                      refine w_getR (q := m + 6) hX dX9_readBack_163 fo_RX9_73 rfl (mod_s hT_w.1) (mod_r10 hT_w.1) ?_
                      refine w_iload_n (i := 2) hX dX9_readBack_166 rfl rfl ?_
                      refine w_iconst hX dX9_readBack_167 kI_2 ?_
                      refine w_iload hX dX9_readBack_168 rfl ?_
                      refine w_imulN hX dX9_readBack_170 ?_
                      refine w_iaddN hX dX9_readBack_171 ?_
                      refine w_iconst hX dX9_readBack_172 kI_1 ?_
                      refine w_isubN hX dX9_readBack_173 (by omega) ?_
                      refine w_ialdN hX dX9_readBack_174 (mod_a6 hT_w.1) (by omega) (by omega) ?_
                      refine w_top (y := nI (dyI B t (k9 - 1))) (by have h9 := hB_w (1 + 25 * t + 1 + 2 * (k9 - 1)) (by omega); rw [shB_lo (by omega)] at h9; rw [show 480 + (1 + 25 * t + 1 + 2 * (k9 - 1)) = 481 + (25 * t) + (2 * k9) - 1 by omega] at h9; exact h9) ?_
                      refine w_iload hX dX9_readBack_175 rfl ?_
                      refine wn_icmp_le (tgt := 236) hX dX9_readBack_177 (by decide) (by omega) (by omega) (fun c6 => ?_) (fun c6 => ?_)
                      · exact j236 k9 hk9 _ hT_w hS_w hB_w hN_w hs_w (hpos.trans (posI_at (by omega)))
                      · refine w_aload_n (i := 0) hX dX9_readBack_180 rfl rfl ?_
                        refine w_getR (q := m + 6) hX dX9_readBack_181 fo_RX9_73 rfl (mod_s hT_w.1) (mod_r10 hT_w.1) ?_
                        refine w_iload_n (i := 2) hX dX9_readBack_184 rfl rfl ?_
                        refine w_iconst hX dX9_readBack_185 kI_1 ?_
                        refine w_iaddN hX dX9_readBack_186 ?_
                        refine w_iconst hX dX9_readBack_187 kI_2 ?_
                        refine w_iload hX dX9_readBack_188 rfl ?_
                        refine w_imulN hX dX9_readBack_190 ?_
                        refine w_iaddN hX dX9_readBack_191 ?_
                        refine w_aload_n (i := 0) hX dX9_readBack_192 rfl rfl ?_
                        refine w_getR (q := m + 6) hX dX9_readBack_193 fo_RX9_73 rfl (mod_s hT_w.1) (mod_r10 hT_w.1) ?_
                        refine w_iload_n (i := 2) hX dX9_readBack_196 rfl rfl ?_
                        refine w_iconst hX dX9_readBack_197 kI_2 ?_
                        refine w_iload hX dX9_readBack_198 rfl ?_
                        refine w_imulN hX dX9_readBack_200 ?_
                        refine w_iaddN hX dX9_readBack_201 ?_
                        refine w_iconst hX dX9_readBack_202 kI_1 ?_
                        refine w_isubN hX dX9_readBack_203 (by omega) ?_
                        refine w_ialdN hX dX9_readBack_204 (mod_a6 hT_w.1) (by omega) (by omega) ?_
                        refine w_top (y := nI (dyI B t (k9 - 1))) (by have h9 := hB_w (1 + 25 * t + 1 + 2 * (k9 - 1)) (by omega); rw [shB_lo (by omega)] at h9; rw [show 480 + (1 + 25 * t + 1 + 2 * (k9 - 1)) = 481 + (25 * t) + (2 * k9) - 1 by omega] at h9; exact h9) ?_
                        refine w_iastN hX dX9_readBack_205 (mod_a6 hT_w.1) (by omega) (by omega) ?_
                        have t8 : same (fun o2 k2 => o2 = m + 6 ∧ k2 = 481 + (25 * t) + 1 + (2 * k9)) νw (sI νw (m + 6) (481 + (25 * t) + 1 + (2 * k9)) (nI (dyI B t (k9 - 1)))) := same.rf.sI ⟨rfl, rfl⟩
                        have hT_8 := hT_w.sm t8 (fun o k h => by omega)
                        have hs_8 := hs_w.tr (t8.up (fun o k h => by unfold SMm; omega))
                        have hS_8 := hS_w.sm t8 (fun h => by omega) (fun h => by omega)
                        have hN_8 := hN_w.sm t8 (fun o k h => by omega)
                        have hB_8 : MBk (sI νw (m + 6) (481 + (25 * t) + 1 + (2 * k9)) (nI (dyI B t (k9 - 1)))) m (stB (shB B t (nB B t) k9) (1 + 25 * t + 1 + 2 * k9) (dyI B t (k9 - 1))) := by have h9 := hB_w.st (j := 1 + 25 * t + 1 + 2 * k9) (v := dyI B t (k9 - 1)) (by omega); rwa [show 480 + (1 + 25 * t + 1 + 2 * k9) = 481 + (25 * t) + 1 + (2 * k9) by omega] at h9
                        have hn_8 := hn_w
                        refine w_aload_n (i := 0) hX dX9_readBack_206 rfl rfl ?_
                        refine w_getR (q := m + 6) hX dX9_readBack_207 fo_RX9_73 rfl (mod_s hT_8.1) (mod_r10 hT_8.1) ?_
                        refine w_iload_n (i := 2) hX dX9_readBack_210 rfl rfl ?_
                        refine w_iconst hX dX9_readBack_211 kI_2 ?_
                        refine w_iaddN hX dX9_readBack_212 ?_
                        refine w_iconst hX dX9_readBack_213 kI_2 ?_
                        refine w_iload hX dX9_readBack_214 rfl ?_
                        refine w_imulN hX dX9_readBack_216 ?_
                        refine w_iaddN hX dX9_readBack_217 ?_
                        refine w_aload_n (i := 0) hX dX9_readBack_218 rfl rfl ?_
                        refine w_getR (q := m + 6) hX dX9_readBack_219 fo_RX9_73 rfl (mod_s hT_8.1) (mod_r10 hT_8.1) ?_
                        refine w_iload_n (i := 2) hX dX9_readBack_222 rfl rfl ?_
                        refine w_iconst hX dX9_readBack_223 kI_2 ?_
                        refine w_iload hX dX9_readBack_224 rfl ?_
                        refine w_imulN hX dX9_readBack_226 ?_
                        refine w_iaddN hX dX9_readBack_227 ?_
                        refine w_ialdN hX dX9_readBack_228 (mod_a6 hT_8.1) (by omega) (by omega) ?_
                        refine w_top (y := nI (hrI B t (k9 - 1))) (by have h9 := hB_8 (1 + 25 * t + 2 + 2 * (k9 - 1)) (by omega); rw [stB_ne (by omega), shB_lo (by omega)] at h9; rw [show 480 + (1 + 25 * t + 2 + 2 * (k9 - 1)) = 481 + (25 * t) + (2 * k9) by omega] at h9; exact h9) ?_
                        refine w_iastN hX dX9_readBack_229 (mod_a6 hT_8.1) (by omega) (by omega) ?_
                        have t9 : same (fun o2 k2 => o2 = m + 6 ∧ k2 = 481 + (25 * t) + 2 + (2 * k9)) (sI νw (m + 6) (481 + (25 * t) + 1 + (2 * k9)) (nI (dyI B t (k9 - 1)))) (sI (sI νw (m + 6) (481 + (25 * t) + 1 + (2 * k9)) (nI (dyI B t (k9 - 1)))) (m + 6) (481 + (25 * t) + 2 + (2 * k9)) (nI (hrI B t (k9 - 1)))) := same.rf.sI ⟨rfl, rfl⟩
                        have hT_9 := hT_8.sm t9 (fun o k h => by omega)
                        have hs_9 := hs_8.tr (t9.up (fun o k h => by unfold SMm; omega))
                        have hS_9 := hS_8.sm t9 (fun h => by omega) (fun h => by omega)
                        have hN_9 := hN_8.sm t9 (fun o k h => by omega)
                        have hB_9 : MBk (sI (sI νw (m + 6) (481 + (25 * t) + 1 + (2 * k9)) (nI (dyI B t (k9 - 1)))) (m + 6) (481 + (25 * t) + 2 + (2 * k9)) (nI (hrI B t (k9 - 1)))) m (stB (stB (shB B t (nB B t) k9) (1 + 25 * t + 1 + 2 * k9) (dyI B t (k9 - 1))) (1 + 25 * t + 2 + 2 * k9) (hrI B t (k9 - 1))) := by have h9 := hB_8.st (j := 1 + 25 * t + 2 + 2 * k9) (v := hrI B t (k9 - 1)) (by omega); rwa [show 480 + (1 + 25 * t + 2 + 2 * k9) = 481 + (25 * t) + 2 + (2 * k9) by omega] at h9
                        have hn_9 := hn_8
                        refine w_iincM (l2 := [some (.ref m), some (.int (nI t)), some (.int (nI (481 + (25 * t)))), some (.int (nI (nB B t))), some (.int (nI (vl s (n + 1)))), some (.int (nI (vl s (n + 3)))), some (.int (nI (k9 - 1)))]) hX dX9_readBack_230 rfl kI_m1 (by omega) rfl rfl ?_
                        refine w_goto (tgt := 157) hX dX9_readBack_233 (by decide) ?_
                        exact ih (k9 - 1) (by omega) (by omega) _ hT_9 hS_9 (by rw [← shB_step (by omega) hk9]; exact hB_9) hN_9 hs_9 (hpos.trans (posI_dn (by omega) (by omega)))
                exact loop2 (nB B t) (Nat.le_refl _) _ hT_4 hS_4 (by rw [shB_n]; exact hB_4) hN_4 hs_4 rfl
              · exact absurd c4 (by decide)
            · rw [e4]
              let β4 := ν4
              have hT_4 := hT_3.sm t4 (fun o k h => by unfold SA2 at h; omega)
              obtain ⟨n9_4, hn9_4⟩ := hF_4.2.2
              have hf_4 := hF_4.2.1
              have hn_4 := (rch_le hT_4.2.2.2 _ hn9_4.1).2
              have hs_4 := hs_3.tr (t4.up (fun o k h => by unfold SA2 at h; unfold SMm; omega))
              refine w_istore (l2 := [some (.ref m), some (.int (nI t)), some (.int (nI (481 + (25 * t)))), some (.int (nI (nB B t))), some (.int (nI (vl s (n + 1)))), some (.int (nI 0)), none]) hX dX9_readBack_144 (ltb rfl) rfl rfl ?_
              refine w_aload_n (i := 0) hX dX9_readBack_146 rfl rfl ?_
              refine w_getI hX dX9_readBack_147 fo_RX9_154 rfl (mod_s hT_4.1) ?_
              refine w_top (y := nI f4) hF_4.1 ?_
              refine wn_if_le (tgt := 154) hX dX9_readBack_150 (by decide) (by omega) (fun c7 => ?_) (fun c7 => ?_)
              · exfalso; omega
              · have hpx : pBack s n B M = .inl f4 := by unfold pBack; rw [show B 0 - 1 = t by omega]; exact (if_neg (by omega)).trans ((if_neg (by omega)).trans ((bnd_r p3).trans ((if_neg (by rw [hhd]; decide)).trans (bnd_a p4))))
                exact w_vret hX hE dX9_readBack_153 (Or.inl rfl) (MX_l hpx hs_4 hF_4)
          · rw [e3, m3]
            have hF_3 := hS_2.bad (pNb_l hT.2.2.2 p3)
            have t3 : same (SA2 m) (sI μ m 7 (nI (n + 1))) (sI (sI μ m 7 (nI (n + 1))) m 8 (nI f3)) := same.rf.sI ⟨rfl, Or.inr rfl⟩
            have hT_3 := hT_2.sm t3 (fun o k h => by unfold SA2 at h; omega)
            obtain ⟨n9_3, hn9_3⟩ := hF_3.2.2
            have hf_3 := hF_3.2.1
            have hn_3 := (rch_le hT_3.2.2.2 _ hn9_3.1).2
            have hs_3 := hs_2.tr (t3.up (fun o k h => by unfold SA2 at h; unfold SMm; omega))
            refine w_istore (l2 := [some (.ref m), some (.int (nI t)), some (.int (nI (481 + (25 * t)))), some (.int (nI (nB B t))), some (.int (nI 0)), none, none]) hX dX9_readBack_134 (ltb rfl) rfl rfl ?_
            refine w_aload_n (i := 0) hX dX9_readBack_136 rfl rfl ?_
            refine w_iconst hX dX9_readBack_137 kI_2 ?_
            refine w_iconst hX dX9_readBack_138 kI_1 ?_
            refine w_bipush hX dX9_readBack_139 kB_24 ?_
            refine w_callVI (As := [.int (nI 2), .int (nI 1), .int (nI 24)]) (rest := []) (ci := 9) (o := m) (k2 := 0) (n2 := 0) hX dX9_readBack_141 (s_m_afterf Γ (sI (sI μ m 7 (nI (n + 1))) m 8 (nI f3)) m s hT_3 f3 hF_3 2 (nI 1) 24) okX9_takeAfter (ltb rfl) (mod_s hT_3.1) ml_RX9_222 imX9_takeAfter seX9_takeAfter rfl (leb rfl) (leb rfl) rfl rfl (fun r9 μ9 hq9 => ?_)
            obtain ⟨hr9, hm9⟩ := hq9; rw [hr9, hm9]; clear hr9 hm9 r9 μ9
            refine w_istore (l2 := [some (.ref m), some (.int (nI t)), some (.int (nI (481 + (25 * t)))), some (.int (nI (nB B t))), some (.int (nI 0)), some (.int (nI 0)), none]) hX dX9_readBack_144 (ltb rfl) rfl rfl ?_
            refine w_aload_n (i := 0) hX dX9_readBack_146 rfl rfl ?_
            refine w_getI hX dX9_readBack_147 fo_RX9_154 rfl (mod_s hT_3.1) ?_
            refine w_top (y := nI f3) hF_3.1 ?_
            refine wn_if_le (tgt := 154) hX dX9_readBack_150 (by decide) (by omega) (fun c8 => ?_) (fun c8 => ?_)
            · exfalso; omega
            · have hpx : pBack s n B M = .inl f3 := by unfold pBack; rw [show B 0 - 1 = t by omega]; exact (if_neg (by omega)).trans ((if_neg (by omega)).trans (bnd_l p3))
              exact w_vret hX hE dX9_readBack_153 (Or.inl rfl) (MX_l hpx hs_3 hF_3)
        have loop : ∀ k9, k9 ≤ nB B t → (∀ i, i < k9 → ¬ (kd s (n + 1) = 3 ∧ dyI B t i = vl s (n + 1))) → WP Γ X 0 0 62 [some (.ref m), some (.int (nI t)), some (.int (nI (481 + (25 * t)))), some (.int (nI (nB B t))), some (.int (nI k9)), none, none] [] (sI μ m 7 (nI (n + 1))) := by
          refine loopU (nB B t) ?_
          intro k9 hk ih hno
          refine w_iload hX dX9_readBack_62 rfl ?_
          refine w_iload_n (i := 3) hX dX9_readBack_64 rfl rfl ?_
          refine wn_icmp_ge (tgt := 126) hX dX9_readBack_65 (by decide) (by omega) (by omega) (fun c9 => ?_) (fun c9 => ?_)
          · refine w_sub (l2 := [some (.ref m), some (.int (nI t)), some (.int (nI (481 + (25 * t)))), some (.int (nI (nB B t))), none, none, none]) (by simp [lsub]) (leb rfl) ?_
            exact j126 (by first | exact NDP_no (by omega) | exact NDP_all (fun i hi h9 => hno i (by omega) h9))
          · refine w_aload_n (i := 0) hX dX9_readBack_68 rfl rfl ?_
            refine w_getI hX dX9_readBack_69 fo_RX9_154 rfl (mod_s hT_2.1) ?_
            refine w_top (y := nI 0) hS_2.2.2 ?_
            refine wn_if_ne (tgt := 126) hX dX9_readBack_72 (by decide) (by omega) (fun c10 => ?_) (fun c10 => ?_)
            · exact absurd c10 (by decide)
            · refine w_aload_n (i := 0) hX dX9_readBack_75 rfl rfl ?_
              refine w_getR (q := m + 2) hX dX9_readBack_76 fo_RX9_24 rfl (mod_s hT_2.1) (mod_r4 hT_2.1) ?_
              refine w_aload_n (i := 0) hX dX9_readBack_79 rfl rfl ?_
              refine w_getI hX dX9_readBack_80 fo_RX9_151 rfl (mod_s hT_2.1) ?_
              refine w_top (y := nI (n + 1)) hS_2.1 ?_
              refine w_ialdN hX dX9_readBack_83 (mod_a2 hT_2.1) (by omega) (by omega) ?_
              refine w_top (y := nI z) hz ?_
              refine w_iconst hX dX9_readBack_84 kI_2 ?_
              refine wn_icmp_ne (tgt := 126) hX dX9_readBack_85 (by decide) (by omega) (by omega) (fun c11 => ?_) (fun c11 => ?_)
              · refine w_sub (l2 := [some (.ref m), some (.int (nI t)), some (.int (nI (481 + (25 * t)))), some (.int (nI (nB B t))), none, none, none]) (by simp [lsub]) (leb rfl) ?_
                exact j126 (by first | exact NDP_no (by omega) | exact NDP_all (fun i hi h9 => hno i (by omega) h9))
              · have hv4 := vl_lt (s := s) (n := n + 1) (by omega)
                have hdk : dyI B t k9 ≤ 3649 := (hrng.2.1 k9 (by omega)).1
                refine w_aload_n (i := 0) hX dX9_readBack_88 rfl rfl ?_
                refine w_getR (q := m + 6) hX dX9_readBack_89 fo_RX9_73 rfl (mod_s hT_2.1) (mod_r10 hT_2.1) ?_
                refine w_iload_n (i := 2) hX dX9_readBack_92 rfl rfl ?_
                refine w_iconst hX dX9_readBack_93 kI_1 ?_
                refine w_iaddN hX dX9_readBack_94 ?_
                refine w_iconst hX dX9_readBack_95 kI_2 ?_
                refine w_iload hX dX9_readBack_96 rfl ?_
                refine w_imulN hX dX9_readBack_98 ?_
                refine w_iaddN hX dX9_readBack_99 ?_
                refine w_ialdN hX dX9_readBack_100 (mod_a6 hT_2.1) (by omega) (by omega) ?_
                refine w_top (y := nI (dyI B t k9)) (by have h9 := hB_2 (1 + 25 * t + 1 + 2 * k9) (by omega); rw [show 480 + (1 + 25 * t + 1 + 2 * k9) = 481 + (25 * t) + 1 + (2 * k9) by omega] at h9; exact h9) ?_
                refine w_i2l hX dX9_readBack_101 ?_
                refine w_topL (y := lN (dyI B t k9)) (nI_lN (by omega)) ?_
                refine w_aload_n (i := 0) hX dX9_readBack_102 rfl rfl ?_
                refine w_getR (q := m + 4) hX dX9_readBack_103 fo_RX9_30 rfl (mod_s hT_2.1) (mod_r6 hT_2.1) ?_
                refine w_aload_n (i := 0) hX dX9_readBack_106 rfl rfl ?_
                refine w_getI hX dX9_readBack_107 fo_RX9_151 rfl (mod_s hT_2.1) ?_
                refine w_top (y := nI (n + 1)) hS_2.1 ?_
                refine w_laldN hX dX9_readBack_110 (mod_a4 hT_2.1) (by omega) (by omega) ?_
                refine w_topL (y := lN (vl s (n + 1))) (hvv (by omega)) ?_
                refine w_lcmp hX dX9_readBack_111 ?_
                refine wc_if_ne (tgt := 120) hX dX9_readBack_112 (by decide) (fun c12 => ?_) (fun c12 => ?_)
                · refine w_iincN (w := 1) (l2 := [some (.ref m), some (.int (nI t)), some (.int (nI (481 + (25 * t)))), some (.int (nI (nB B t))), some (.int (nI (k9 + 1))), none, none]) hX dX9_readBack_120 rfl kI_1 rfl rfl ?_
                  refine w_goto (tgt := 62) hX dX9_readBack_123 (by decide) ?_
                  refine ih (by omega) (fun i hi e9 => ?_)
                  by_cases e : i = k9
                  · subst e; exact c12 ((cmp0 (by omega) (by omega)).mpr e9.2)
                  · exact hno i (by omega) e9
                · have hpnb : pNb s (n + 1) 0 3649 = .inr (vl s (n + 1)) := by have h9 := (cmp0 (by omega) (by omega)).mp c12; unfold pNb; rw [if_neg (by omega), if_neg (by omega)]
                  have hhd : hasD B t (vl s (n + 1)) = true := hasD_iff.mpr ⟨k9, by omega, (cmp0 (by omega) (by omega)).mp c12⟩
                  refine w_aload_n (i := 0) hX dX9_readBack_115 rfl rfl ?_
                  refine w_iconst hX dX9_readBack_116 kI_3 ?_
                  refine w_callVV (As := [.int (nI 3)]) (rest := []) (ci := 9) (o := m) (k2 := 0) (n2 := 0) hX dX9_readBack_117 (s_m_wrong0 Γ (sI μ m 7 (nI (n + 1))) m s hT_2 (n + 1) hS_2 3) okX9_wrong (ltb rfl) (mod_s hT_2.1) ml_RX9_160 imX9_wrong seX9_wrong rfl (leb rfl) (leb rfl) rfl rfl (fun μ9 hq9 => ?_)
                  rw [hq9]; clear hq9 μ9
                  have hF_11 := hS_2.bad (ft_lt (w := 3) (n := n + 1) hT.2.2.2 (by omega) (by omega))
                  have t11 : same (SA2 m) (sI μ m 7 (nI (n + 1))) (sI (sI μ m 7 (nI (n + 1))) m 8 (nI (ft s 3 (n + 1)))) := same.rf.sI ⟨rfl, Or.inr rfl⟩
                  have hT_11 := hT_2.sm t11 (fun o k h => by unfold SA2 at h; omega)
                  obtain ⟨n9_11, hn9_11⟩ := hF_11.2.2
                  have hf_11 := hF_11.2.1
                  have hn_11 := (rch_le hT_11.2.2.2 _ hn9_11.1).2
                  have hs_11 := hs_2.tr (t11.up (fun o k h => by unfold SA2 at h; unfold SMm; omega))
                  refine w_iincN (w := 1) (l2 := [some (.ref m), some (.int (nI t)), some (.int (nI (481 + (25 * t)))), some (.int (nI (nB B t))), some (.int (nI (k9 + 1))), none, none]) hX dX9_readBack_120 rfl kI_1 rfl rfl ?_
                  refine w_goto (tgt := 62) hX dX9_readBack_123 (by decide) ?_
                  refine w_iload hX dX9_readBack_62 rfl ?_
                  refine w_iload_n (i := 3) hX dX9_readBack_64 rfl rfl ?_
                  refine wn_icmp_ge (tgt := 126) hX dX9_readBack_65 (by decide) (by omega) (by omega) (fun c13 => ?_) (fun c13 => ?_)
                  · refine w_aload_n (i := 0) hX dX9_readBack_126 rfl rfl ?_
                    refine w_iconst hX dX9_readBack_127 kI_0 ?_
                    refine w_sipush hX dX9_readBack_128 kS_3649 ?_
                    refine w_callVI (As := [.int (nI 0), .int (nI 3649)]) (rest := []) (ci := 9) (o := m) (k2 := 0) (n2 := 0) hX dX9_readBack_131 (s_m_takeNf Γ (sI (sI μ m 7 (nI (n + 1))) m 8 (nI (ft s 3 (n + 1)))) m s hT_11 (ft s 3 (n + 1)) hF_11 (nI 0) 3649) okX9_takeNumber (ltb rfl) (mod_s hT_11.1) ml_RX9_173 imX9_takeNumber seX9_takeNumber rfl (leb rfl) (leb rfl) rfl rfl (fun r9 μ9 hq9 => ?_)
                    obtain ⟨hr9, hm9⟩ := hq9; rw [hr9, hm9]; clear hr9 hm9 r9 μ9
                    refine w_istore (l2 := [some (.ref m), some (.int (nI t)), some (.int (nI (481 + (25 * t)))), some (.int (nI (nB B t))), some (.int (nI 0)), none, none]) hX dX9_readBack_134 (ltb rfl) rfl rfl ?_
                    refine w_aload_n (i := 0) hX dX9_readBack_136 rfl rfl ?_
                    refine w_iconst hX dX9_readBack_137 kI_2 ?_
                    refine w_iconst hX dX9_readBack_138 kI_1 ?_
                    refine w_bipush hX dX9_readBack_139 kB_24 ?_
                    refine w_callVI (As := [.int (nI 2), .int (nI 1), .int (nI 24)]) (rest := []) (ci := 9) (o := m) (k2 := 0) (n2 := 0) hX dX9_readBack_141 (s_m_afterf Γ (sI (sI μ m 7 (nI (n + 1))) m 8 (nI (ft s 3 (n + 1)))) m s hT_11 (ft s 3 (n + 1)) hF_11 2 (nI 1) 24) okX9_takeAfter (ltb rfl) (mod_s hT_11.1) ml_RX9_222 imX9_takeAfter seX9_takeAfter rfl (leb rfl) (leb rfl) rfl rfl (fun r9 μ9 hq9 => ?_)
                    obtain ⟨hr9, hm9⟩ := hq9; rw [hr9, hm9]; clear hr9 hm9 r9 μ9
                    refine w_istore (l2 := [some (.ref m), some (.int (nI t)), some (.int (nI (481 + (25 * t)))), some (.int (nI (nB B t))), some (.int (nI 0)), some (.int (nI 0)), none]) hX dX9_readBack_144 (ltb rfl) rfl rfl ?_
                    refine w_aload_n (i := 0) hX dX9_readBack_146 rfl rfl ?_
                    refine w_getI hX dX9_readBack_147 fo_RX9_154 rfl (mod_s hT_11.1) ?_
                    refine w_top (y := nI (ft s 3 (n + 1))) hF_11.1 ?_
                    refine wn_if_le (tgt := 154) hX dX9_readBack_150 (by decide) (by omega) (fun c14 => ?_) (fun c14 => ?_)
                    · exfalso; omega
                    · have hpx : pBack s n B M = .inl (ft s 3 (n + 1)) := by unfold pBack; rw [show B 0 - 1 = t by omega]; exact (if_neg (by omega)).trans ((if_neg (by omega)).trans ((bnd_r hpnb).trans (if_pos hhd)))
                      exact w_vret hX hE dX9_readBack_153 (Or.inl rfl) (MX_l hpx hs_11 hF_11)
                  · refine w_aload_n (i := 0) hX dX9_readBack_68 rfl rfl ?_
                    refine w_getI hX dX9_readBack_69 fo_RX9_154 rfl (mod_s hT_11.1) ?_
                    refine w_top (y := nI (ft s 3 (n + 1))) hF_11.1 ?_
                    refine wn_if_ne (tgt := 126) hX dX9_readBack_72 (by decide) (by omega) (fun c15 => ?_) (fun c15 => ?_)
                    · refine w_aload_n (i := 0) hX dX9_readBack_126 rfl rfl ?_
                      refine w_iconst hX dX9_readBack_127 kI_0 ?_
                      refine w_sipush hX dX9_readBack_128 kS_3649 ?_
                      refine w_callVI (As := [.int (nI 0), .int (nI 3649)]) (rest := []) (ci := 9) (o := m) (k2 := 0) (n2 := 0) hX dX9_readBack_131 (s_m_takeNf Γ (sI (sI μ m 7 (nI (n + 1))) m 8 (nI (ft s 3 (n + 1)))) m s hT_11 (ft s 3 (n + 1)) hF_11 (nI 0) 3649) okX9_takeNumber (ltb rfl) (mod_s hT_11.1) ml_RX9_173 imX9_takeNumber seX9_takeNumber rfl (leb rfl) (leb rfl) rfl rfl (fun r9 μ9 hq9 => ?_)
                      obtain ⟨hr9, hm9⟩ := hq9; rw [hr9, hm9]; clear hr9 hm9 r9 μ9
                      refine w_istore (l2 := [some (.ref m), some (.int (nI t)), some (.int (nI (481 + (25 * t)))), some (.int (nI (nB B t))), some (.int (nI 0)), none, none]) hX dX9_readBack_134 (ltb rfl) rfl rfl ?_
                      refine w_aload_n (i := 0) hX dX9_readBack_136 rfl rfl ?_
                      refine w_iconst hX dX9_readBack_137 kI_2 ?_
                      refine w_iconst hX dX9_readBack_138 kI_1 ?_
                      refine w_bipush hX dX9_readBack_139 kB_24 ?_
                      refine w_callVI (As := [.int (nI 2), .int (nI 1), .int (nI 24)]) (rest := []) (ci := 9) (o := m) (k2 := 0) (n2 := 0) hX dX9_readBack_141 (s_m_afterf Γ (sI (sI μ m 7 (nI (n + 1))) m 8 (nI (ft s 3 (n + 1)))) m s hT_11 (ft s 3 (n + 1)) hF_11 2 (nI 1) 24) okX9_takeAfter (ltb rfl) (mod_s hT_11.1) ml_RX9_222 imX9_takeAfter seX9_takeAfter rfl (leb rfl) (leb rfl) rfl rfl (fun r9 μ9 hq9 => ?_)
                      obtain ⟨hr9, hm9⟩ := hq9; rw [hr9, hm9]; clear hr9 hm9 r9 μ9
                      refine w_istore (l2 := [some (.ref m), some (.int (nI t)), some (.int (nI (481 + (25 * t)))), some (.int (nI (nB B t))), some (.int (nI 0)), some (.int (nI 0)), none]) hX dX9_readBack_144 (ltb rfl) rfl rfl ?_
                      refine w_aload_n (i := 0) hX dX9_readBack_146 rfl rfl ?_
                      refine w_getI hX dX9_readBack_147 fo_RX9_154 rfl (mod_s hT_11.1) ?_
                      refine w_top (y := nI (ft s 3 (n + 1))) hF_11.1 ?_
                      refine wn_if_le (tgt := 154) hX dX9_readBack_150 (by decide) (by omega) (fun c16 => ?_) (fun c16 => ?_)
                      · exfalso; omega
                      · have hpx : pBack s n B M = .inl (ft s 3 (n + 1)) := by unfold pBack; rw [show B 0 - 1 = t by omega]; exact (if_neg (by omega)).trans ((if_neg (by omega)).trans ((bnd_r hpnb).trans (if_pos hhd)))
                        exact w_vret hX hE dX9_readBack_153 (Or.inl rfl) (MX_l hpx hs_11 hF_11)
                    · exfalso; omega
        exact loop 0 (Nat.zero_le _) (fun i hi => absurd hi (Nat.not_lt_zero _))
      · refine w_aload_n (i := 0) hX dX9_readBack_43 rfl rfl ?_
        refine w_iconst hX dX9_readBack_44 kI_5 ?_
        refine w_callVV (As := [.int (nI 5)]) (rest := []) (ci := 9) (o := m) (k2 := 0) (n2 := 0) hX dX9_readBack_45 (s_m_wrong0 Γ μ m s hT (n) hS 5) okX9_wrong (ltb rfl) (mod_s hT.1) ml_RX9_160 imX9_wrong seX9_wrong rfl (leb rfl) (leb rfl) rfl rfl (fun μ9 hq9 => ?_)
        rw [hq9]; clear hq9 μ9
        have hF_16 := hS.bad (ft_lt (w := 5) (n := n) hT.2.2.2 (by omega) (by omega))
        have t16 : same (SA2 m) μ (sI μ m 8 (nI (ft s 5 (n)))) := same.rf.sI ⟨rfl, Or.inr rfl⟩
        have hT_16 := hT.sm t16 (fun o k h => by unfold SA2 at h; omega)
        obtain ⟨n9_16, hn9_16⟩ := hF_16.2.2
        have hf_16 := hF_16.2.1
        have hn_16 := (rch_le hT_16.2.2.2 _ hn9_16.1).2
        have hs_16 := hs.tr (t16.up (fun o k h => by unfold SA2 at h; unfold SMm; omega))
        have hpx : pBack s n B M = .inl (ft s 5 (n)) := by unfold pBack; rw [show B 0 - 1 = t by omega]; exact (if_neg (by omega)).trans (if_pos (by omega))
        exact w_vret hX hE dX9_readBack_48 (Or.inl rfl) (MX_l hpx hs_16 hF_16)
    · exfalso; omega
