theorem eb_get {W : Wn} {n w t : Nat} (hW : okWn W n) (hw : w < n) : (100000000 ≤ (eb W w t).getD 100000000 → eb W w t = none) ∧ ((eb W w t).getD 100000000 < 100000000 → ∃ s, eb W w t = some s ∧ (eb W w t).getD 100000000 = s ∧ s < 9000000) ∧ (eb W w t).getD 100000000 ≤ 100000000 := by
  cases h : eb W w t with
  | none => exact ⟨fun _ => rfl, fun h => absurd h (Nat.lt_irrefl _), Nat.le_refl _⟩
  | some s =>
    have := eb_le hW hw h
    exact ⟨fun h2 => (by have h3 : 100000000 ≤ s := h2; omega), fun _ => ⟨s, rfl, rfl, this⟩, by show s ≤ _; omega⟩
set_option maxHeartbeats 1000000 in
theorem s_a_done (Γ : Gm) (μ : Mem) (m : Nat) (B : Nat → Nat) (aw : Option Nat) (hm : HA μ m B aw) (hW : WB B) (d : Nat) (hd : d ≤ 3649) (ha : aw = none ∨ aw = some d)  : SpV Γ MX9_findDone 5 0 0 [.ref m, .int (nI d)] μ (fun μ2 => ∃ D, dnR B d (WnB B (b0F B d) (skW B d aw)) D ∧ (∀ S, S < 2 ^ B 85 → gI μ2 (m + 14) S = nI (D S) ∧ D S ≤ 100000000) ∧ same (fun o _ => o = m + 14) μ μ2) := by
  refine SpV.of okX9_findDone rfl [some (.ref m), some (.int (nI d)), none, none, none, none, none] ⟨rfl, rfl, trivial⟩ (leb rfl) (leb rfl) (fun X hX hE hnm => ?_)
  have hn8 := hW.2.2.1.1; have h256 := p8 hn8; have hb0 := b0F_le hW hd
  have hsk := skW_ok (d := d) (aw := aw) hm.2.2
  have hok := okWn_B (b0 := b0F B d) (sk := skW B d aw) hW (by omega) hsk
  refine w_iconst hX dX9_findDone_0 kI_0 ?_
  refine w_istore_n (i := 2) (l2 := [some (.ref m), some (.int (nI d)), some (.int (nI 0)), none, none, none, none]) hX dX9_findDone_1 rfl (ltb rfl) rfl rfl ?_
  have loop : ∀ k, k ≤ 256 → ∀ ν : Mem, (same (fun o _ => o = m + 14) μ ν) → (∀ S, S < k → gI ν (m + 14) S = nI (if S = 0 then 0 else 100000000)) → WP Γ X 0 0 2 [some (.ref m), some (.int (nI d)), some (.int (nI k)), none, none, none, none] [] ν := by
    refine loopU (256) ?_
    intro k hk ih ν hsm hin
    have hmk := hm.sm hsm (fun o k h => by omega)
    refine w_iload_n (i := 2) hX dX9_findDone_2 rfl rfl ?_
    refine w_sipush hX dX9_findDone_3 kS_256 ?_
    refine wn_icmp_ge (tgt := 32) hX dX9_findDone_6 (by decide) (by first | omega | (split <;> omega) | (have := hE1.2.1 k; omega) | (have := hE1.2.1 k; have := hE1.2.1 (k ||| 2 ^ j); have := heg.2.2; omega)) (by first | omega | (split <;> omega) | (have := hE1.2.1 k; omega) | (have := hE1.2.1 k; have := hE1.2.1 (k ||| 2 ^ j); have := heg.2.2; omega)) (fun c1 => ?_) (fun c1 => ?_)
    · refine w_iconst hX dX9_findDone_32 kI_0 ?_
      refine w_istore_n (i := 2) (l2 := [some (.ref m), some (.int (nI d)), some (.int (nI 0)), none, none, none, none]) hX dX9_findDone_33 rfl (ltb rfl) rfl rfl ?_
      have lp2 : ∀ k, k ≤ 2 ^ B 85 → ∀ ν1 : Mem, (same (fun o _ => o = m + 14) μ ν1) → (∃ D, dnI B d (WnB B (b0F B d) (skW B d aw)) k 0 D ∧ ∀ S, S < 256 → gI ν1 (m + 14) S = nI (D S)) → WP Γ X 0 0 34 [some (.ref m), some (.int (nI d)), some (.int (nI k)), none, none, none, none] [] ν1 := by
        refine loopU (2 ^ B 85) ?_
        intro k hk ihk ν1 hs1 hD
        have hm1 := hm.sm hs1 (fun o k h => by omega)
        refine w_iload_n (i := 2) hX dX9_findDone_34 rfl rfl ?_
        refine w_iconst hX dX9_findDone_35 kI_1 ?_
        refine w_aload_n (i := 0) hX dX9_findDone_36 rfl rfl ?_
        refine w_callVI (As := []) (rest := [.int (nI 1), .int (nI k)]) (ci := 9) (o := m) (k2 := 0) (n2 := 0) hX dX9_findDone_37 (s_a_works Γ ν1 m B aw hm1 hW) okX9_works (ltb rfl) (mod_s hm1.1.1) ml_RX9_317 imX9_works seX9_works rfl (leb rfl) (leb rfl) rfl rfl (fun r9 μ9 hq9 => ?_)
        obtain ⟨hr9, hm9⟩ := hq9; rw [hr9, hm9]; clear hr9 hm9 r9 μ9
        refine w_ishl hX dX9_findDone_40 ?_
        refine w_top (y := nI (2 ^ B 85)) (shl_nI (by omega)) ?_
        refine wn_icmp_ge (tgt := 172) hX dX9_findDone_41 (by decide) (by first | omega | (split <;> omega) | (have := hE1.2.1 k; omega) | (have := hE1.2.1 k; have := hE1.2.1 (k ||| 2 ^ j); have := heg.2.2; omega)) (by first | omega | (split <;> omega) | (have := hE1.2.1 k; omega) | (have := hE1.2.1 k; have := hE1.2.1 (k ||| 2 ^ j); have := heg.2.2; omega)) (fun c2 => ?_) (fun c2 => ?_)
        · obtain ⟨D, hD1, hD2⟩ := hD; rw [show k = 2 ^ B 85 by omega] at hD1
          exact w_vret hX hE dX9_findDone_172 (Or.inl rfl) ⟨D, dnI_n hD1, fun S hS => ⟨hD2 S (by omega), hD1.2.1 S⟩, hs1⟩
        · refine w_iconst hX dX9_findDone_44 kI_0 ?_
          refine w_istore_n (i := 3) (l2 := [some (.ref m), some (.int (nI d)), some (.int (nI k)), some (.int (nI 0)), none, none, none]) hX dX9_findDone_45 rfl (ltb rfl) rfl rfl ?_
          have inl : ∀ j, j ≤ B 85 → ∀ ν2 : Mem, (same (fun o _ => o = m + 14) μ ν2) → (∃ D, dnI B d (WnB B (b0F B d) (skW B d aw)) k j D ∧ ∀ S, S < 256 → gI ν2 (m + 14) S = nI (D S)) → WP Γ X 0 0 46 [some (.ref m), some (.int (nI d)), some (.int (nI k)), some (.int (nI j)), none, none, none] [] ν2 := by
            refine loopU (B 85) ?_
            intro j hj ihj ν2 hsn hE
            have hm2 := hm.sm hsn (fun o k h => by omega)
            obtain ⟨D, hE1, hE2⟩ := hE
            have hdk : j < B 85 → B (86 + 5 * j) ≤ 3649 := fun h => (hW.2.2.1.2 j h).1
            refine w_iload_n (i := 3) hX dX9_findDone_46 rfl rfl ?_
            refine w_aload_n (i := 0) hX dX9_findDone_47 rfl rfl ?_
            refine w_callVI (As := []) (rest := [.int (nI j)]) (ci := 9) (o := m) (k2 := 0) (n2 := 0) hX dX9_findDone_48 (s_a_works Γ ν2 m B aw hm2 hW) okX9_works (ltb rfl) (mod_s hm2.1.1) ml_RX9_317 imX9_works seX9_works rfl (leb rfl) (leb rfl) rfl rfl (fun r9 μ9 hq9 => ?_)
            obtain ⟨hr9, hm9⟩ := hq9; rw [hr9, hm9]; clear hr9 hm9 r9 μ9
            refine wn_icmp_ge (tgt := 166) hX dX9_findDone_51 (by decide) (by first | omega | (split <;> omega) | (have := hE1.2.1 k; omega) | (have := hE1.2.1 k; have := hE1.2.1 (k ||| 2 ^ j); have := heg.2.2; omega)) (by first | omega | (split <;> omega) | (have := hE1.2.1 k; omega) | (have := hE1.2.1 k; have := hE1.2.1 (k ||| 2 ^ j); have := heg.2.2; omega)) (fun c3 => ?_) (fun c3 => ?_)
            · refine w_iincN (w := 1) (l2 := [some (.ref m), some (.int (nI d)), some (.int (nI (k + 1))), some (.int (nI j)), none, none, none]) hX dX9_findDone_166 rfl kI_1 rfl rfl ?_
              refine w_goto (tgt := 34) hX dX9_findDone_169 (by decide) ?_
              refine w_sub (l2 := [some (.ref m), some (.int (nI d)), some (.int (nI (k + 1))), none, none, none, none]) (by simp [lsub]) (leb rfl) ?_
              exact ihk (by omega) ν2 hsn ⟨D, dnI_end hE1 (Or.inl (by omega)), hE2⟩
            · refine w_aload_n (i := 0) hX dX9_findDone_54 rfl rfl ?_
              refine w_getR (q := m + 14) hX dX9_findDone_55 fo_RX9_100 rfl (mod_s hm2.1.1) (mod_r23 hm2.1.1) ?_
              refine w_iload_n (i := 2) hX dX9_findDone_58 rfl rfl ?_
              refine w_ialdN hX dX9_findDone_59 (mod_a14 hm2.1.1) (by omega) (by omega) ?_
              refine w_top (y := nI (D k)) (hE2 k (by omega)) ?_
              refine w_ldcw hX dX9_findDone_60 ki_RX9_323 ?_
              refine w_top (y := nI 100000000) rfl ?_
              refine wn_icmp_ge (tgt := 166) hX dX9_findDone_63 (by decide) (by first | omega | (split <;> omega) | (have := hE1.2.1 k; omega) | (have := hE1.2.1 k; have := hE1.2.1 (k ||| 2 ^ j); have := heg.2.2; omega)) (by first | omega | (split <;> omega) | (have := hE1.2.1 k; omega) | (have := hE1.2.1 k; have := hE1.2.1 (k ||| 2 ^ j); have := heg.2.2; omega)) (fun c4 => ?_) (fun c4 => ?_)
              · refine w_iincN (w := 1) (l2 := [some (.ref m), some (.int (nI d)), some (.int (nI (k + 1))), some (.int (nI j)), none, none, none]) hX dX9_findDone_166 rfl kI_1 rfl rfl ?_
                refine w_goto (tgt := 34) hX dX9_findDone_169 (by decide) ?_
                refine w_sub (l2 := [some (.ref m), some (.int (nI d)), some (.int (nI (k + 1))), none, none, none, none]) (by simp [lsub]) (leb rfl) ?_
                exact ihk (by omega) ν2 hsn ⟨D, dnI_end hE1 (Or.inr (by omega)), hE2⟩
              · refine w_iload_n (i := 2) hX dX9_findDone_66 rfl rfl ?_
                refine w_iload_n (i := 3) hX dX9_findDone_67 rfl rfl ?_
                refine w_ishr hX dX9_findDone_68 ?_
                refine w_iconst hX dX9_findDone_69 kI_1 ?_
                refine w_iand hX dX9_findDone_70 ?_
                refine w_top (y := nI (if k.testBit j = true then 1 else 0)) (bit31 (by omega) (by omega)) ?_
                refine wn_if_ne (tgt := 160) hX dX9_findDone_71 (by decide) (by first | omega | (split <;> omega) | (have := hE1.2.1 k; omega) | (have := hE1.2.1 k; have := hE1.2.1 (k ||| 2 ^ j); have := heg.2.2; omega)) (fun c5 => ?_) (fun c5 => ?_)
                · refine w_iincN (w := 1) (l2 := [some (.ref m), some (.int (nI d)), some (.int (nI k)), some (.int (nI (j + 1))), none, none, none]) hX dX9_findDone_160 rfl kI_1 rfl rfl ?_
                  refine w_goto (tgt := 46) hX dX9_findDone_163 (by decide) ?_
                  exact ihj (by omega) ν2 hsn ⟨D, dnI_skip hE1 (Or.inl (by by_cases h9 : k.testBit j = true; (exact h9); rw [if_neg h9] at c5; exact absurd rfl c5)), hE2⟩
                · refine w_aload_n (i := 0) hX dX9_findDone_74 rfl rfl ?_
                  refine w_iload_n (i := 3) hX dX9_findDone_75 rfl rfl ?_
                  refine w_iconst hX dX9_findDone_76 kI_0 ?_
                  refine w_callVI (As := [.int (nI j), .int (nI 0)]) (rest := []) (ci := 9) (o := m) (k2 := 0) (n2 := 0) hX dX9_findDone_77 (s_a_workOf Γ ν2 m B aw hm2 hW j 0 (by omega) (by omega)) okX9_workOf (ltb rfl) (mod_s hm2.1.1) ml_RX9_320 imX9_workOf seX9_workOf rfl (leb rfl) (leb rfl) rfl rfl (fun r9 μ9 hq9 => ?_)
                  obtain ⟨hr9, hm9⟩ := hq9; rw [hr9, hm9, show B (86 + 5 * j + 0) = B (86 + 5 * j) from rfl]; clear hr9 hm9 r9 μ9
                  refine w_iload_n (i := 1) hX dX9_findDone_80 rfl rfl ?_
                  refine wn_icmp_ne (tgt := 160) hX dX9_findDone_81 (by decide) (by first | omega | (split <;> omega) | (have := hE1.2.1 k; omega) | (have := hE1.2.1 k; have := hE1.2.1 (k ||| 2 ^ j); have := heg.2.2; omega)) (by first | omega | (split <;> omega) | (have := hE1.2.1 k; omega) | (have := hE1.2.1 k; have := hE1.2.1 (k ||| 2 ^ j); have := heg.2.2; omega)) (fun c6 => ?_) (fun c6 => ?_)
                  · refine w_iincN (w := 1) (l2 := [some (.ref m), some (.int (nI d)), some (.int (nI k)), some (.int (nI (j + 1))), none, none, none]) hX dX9_findDone_160 rfl kI_1 rfl rfl ?_
                    refine w_goto (tgt := 46) hX dX9_findDone_163 (by decide) ?_
                    exact ihj (by omega) ν2 hsn ⟨D, dnI_skip hE1 (Or.inr (by omega)), hE2⟩
                  · have hb : k.testBit j = false := by rw [Bool.eq_false_iff]; intro h9; rw [if_pos h9] at c5; exact absurd c5 (by omega)
                    have heg := eb_get (t := D k) hok (show j < B 85 by omega)
                    have hj2 : 2 ^ j < 2 ^ B 85 := Nat.pow_lt_pow_right (by omega) (by omega)
                    have hto : k ||| 2 ^ j < 256 := Nat.lt_of_lt_of_le (Nat.or_lt_two_pow (show k < 2 ^ B 85 by omega) hj2) h256
                    have hok9 := hok j (by omega)
                    have hl3 := (hW.2.2.1.2 j (by omega)).2.2.2.2.1
                    refine w_aload_n (i := 0) hX dX9_findDone_84 rfl rfl ?_
                    refine w_iload_n (i := 3) hX dX9_findDone_85 rfl rfl ?_
                    refine w_aload_n (i := 0) hX dX9_findDone_86 rfl rfl ?_
                    refine w_getR (q := m + 14) hX dX9_findDone_87 fo_RX9_100 rfl (mod_s hm2.1.1) (mod_r23 hm2.1.1) ?_
                    refine w_iload_n (i := 2) hX dX9_findDone_90 rfl rfl ?_
                    refine w_ialdN hX dX9_findDone_91 (mod_a14 hm2.1.1) (by omega) (by omega) ?_
                    refine w_top (y := nI (D k)) (hE2 k (by omega)) ?_
                    refine w_callVI (As := [.int (nI j), .int (nI (D k))]) (rest := []) (ci := 9) (o := m) (k2 := 0) (n2 := 0) hX dX9_findDone_92 (s_a_begin Γ ν2 m B aw hm2 hW d j (D k) hd ha (by omega) (by omega) (by omega)) okX9_beginFrom (ltb rfl) (mod_s hm2.1.1) ml_RX9_324 imX9_beginFrom seX9_beginFrom rfl (leb rfl) (leb rfl) rfl rfl (fun r9 μ9 hq9 => ?_)
                    obtain ⟨hr9, hm9⟩ := hq9; rw [hr9, hm9]; clear hr9 hm9 r9 μ9
                    refine w_istore (l2 := [some (.ref m), some (.int (nI d)), some (.int (nI k)), some (.int (nI j)), some (.int (nI ((eb (WnB B (b0F B d) (skW B d aw)) j (D k)).getD 100000000))), none, none]) hX dX9_findDone_95 (ltb rfl) rfl rfl ?_
                    refine w_iload_n (i := 2) hX dX9_findDone_97 rfl rfl ?_
                    refine w_iconst hX dX9_findDone_98 kI_1 ?_
                    refine w_iload_n (i := 3) hX dX9_findDone_99 rfl rfl ?_
                    refine w_ishl hX dX9_findDone_100 ?_
                    refine w_top (y := nI (2 ^ j)) (shl_nI (by omega)) ?_
                    refine w_ior hX dX9_findDone_101 ?_
                    refine w_top (y := nI (k ||| 2 ^ j)) (fa_or _ _) ?_
                    refine w_istore (l2 := [some (.ref m), some (.int (nI d)), some (.int (nI k)), some (.int (nI j)), some (.int (nI ((eb (WnB B (b0F B d) (skW B d aw)) j (D k)).getD 100000000))), some (.int (nI (k ||| 2 ^ j))), none]) hX dX9_findDone_102 (ltb rfl) rfl rfl ?_
                    have j127 : WP Γ X 0 0 127 [some (.ref m), some (.int (nI d)), some (.int (nI k)), some (.int (nI j)), some (.int (nI ((eb (WnB B (b0F B d) (skW B d aw)) j (D k)).getD 100000000))), some (.int (nI (k ||| 2 ^ j))), none] [.int (nI (enF (WnB B (b0F B d) (skW B d aw)) j (D k)))] ν2 := by
                      have hen : enF (WnB B (b0F B d) (skW B d aw)) j (D k) ≤ 100000000 := by unfold enF; cases h9 : eb (WnB B (b0F B d) (skW B d aw)) j (D k) with | none => exact Nat.le_refl _ | some s => have := eb_le hok (by omega) h9; show s + _ ≤ _; omega
                      refine w_istore (l2 := [some (.ref m), some (.int (nI d)), some (.int (nI k)), some (.int (nI j)), some (.int (nI ((eb (WnB B (b0F B d) (skW B d aw)) j (D k)).getD 100000000))), some (.int (nI (k ||| 2 ^ j))), some (.int (nI (enF (WnB B (b0F B d) (skW B d aw)) j (D k))))]) hX dX9_findDone_127 (ltb rfl) rfl rfl ?_
                      have j159 : WP Γ X 0 0 159 [some (.ref m), some (.int (nI d)), some (.int (nI k)), some (.int (nI j)), some (.int (nI ((eb (WnB B (b0F B d) (skW B d aw)) j (D k)).getD 100000000))), some (.int (nI (k ||| 2 ^ j))), some (.int (nI (enF (WnB B (b0F B d) (skW B d aw)) j (D k))))] [.int (nI (min (enF (WnB B (b0F B d) (skW B d aw)) j (D k)) (D (k ||| 2 ^ j)))), .int (nI (k ||| 2 ^ j)), .ref (m + 14)] ν2 := by
                        refine w_iastN hX dX9_findDone_159 (mod_a14 hm2.1.1) (by omega) (by omega) ?_
                        refine w_iincN (w := 1) (l2 := [some (.ref m), some (.int (nI d)), some (.int (nI k)), some (.int (nI (j + 1))), some (.int (nI ((eb (WnB B (b0F B d) (skW B d aw)) j (D k)).getD 100000000))), some (.int (nI (k ||| 2 ^ j))), some (.int (nI (enF (WnB B (b0F B d) (skW B d aw)) j (D k))))]) hX dX9_findDone_160 rfl kI_1 rfl rfl ?_
                        refine w_goto (tgt := 46) hX dX9_findDone_163 (by decide) ?_
                        refine w_sub (l2 := [some (.ref m), some (.int (nI d)), some (.int (nI k)), some (.int (nI (j + 1))), none, none, none]) (by simp [lsub]) (leb rfl) ?_
                        refine ihj (by omega) _ (hsn.sI rfl) ⟨_, dnI_up hok hE1 (by omega) hb (by omega) (by omega), fun S hS => ?_⟩
                        by_cases e : S = k ||| 2 ^ j
                        · subst e; rw [gI_same, if_pos rfl]
                        · rw [gI_nk e, if_neg e]; exact hE2 S hS
                      refine w_aload_n (i := 0) hX dX9_findDone_129 rfl rfl ?_
                      refine w_getR (q := m + 14) hX dX9_findDone_130 fo_RX9_100 rfl (mod_s hm2.1.1) (mod_r23 hm2.1.1) ?_
                      refine w_iload hX dX9_findDone_133 rfl ?_
                      refine w_iload hX dX9_findDone_135 rfl ?_
                      refine w_aload_n (i := 0) hX dX9_findDone_137 rfl rfl ?_
                      refine w_getR (q := m + 14) hX dX9_findDone_138 fo_RX9_100 rfl (mod_s hm2.1.1) (mod_r23 hm2.1.1) ?_
                      refine w_iload hX dX9_findDone_141 rfl ?_
                      refine w_ialdN hX dX9_findDone_143 (mod_a14 hm2.1.1) (by omega) (by omega) ?_
                      refine w_top (y := nI (D (k ||| 2 ^ j))) (hE2 _ hto) ?_
                      refine wn_icmp_ge (tgt := 152) hX dX9_findDone_144 (by decide) (by first | omega | (split <;> omega) | (have := hE1.2.1 k; omega) | (have := hE1.2.1 k; have := hE1.2.1 (k ||| 2 ^ j); have := heg.2.2; omega)) (by first | omega | (split <;> omega) | (have := hE1.2.1 k; omega) | (have := hE1.2.1 k; have := hE1.2.1 (k ||| 2 ^ j); have := heg.2.2; omega)) (fun c7 => ?_) (fun c7 => ?_)
                      · refine w_aload_n (i := 0) hX dX9_findDone_152 rfl rfl ?_
                        refine w_getR (q := m + 14) hX dX9_findDone_153 fo_RX9_100 rfl (mod_s hm2.1.1) (mod_r23 hm2.1.1) ?_
                        refine w_iload hX dX9_findDone_156 rfl ?_
                        refine w_ialdN hX dX9_findDone_158 (mod_a14 hm2.1.1) (by omega) (by omega) ?_
                        refine w_top (y := nI (D (k ||| 2 ^ j))) (hE2 _ hto) ?_
                        refine w_top (y := nI (min (enF (WnB B (b0F B d) (skW B d aw)) j (D k)) (D (k ||| 2 ^ j)))) (congrArg nI (by omega)) ?_
                        exact j159
                      · refine w_iload hX dX9_findDone_147 rfl ?_
                        refine w_goto (tgt := 159) hX dX9_findDone_149 (by decide) ?_
                        refine w_top (y := nI (min (enF (WnB B (b0F B d) (skW B d aw)) j (D k)) (D (k ||| 2 ^ j)))) (congrArg nI (by omega)) ?_
                        exact j159
                    refine w_iload hX dX9_findDone_104 rfl ?_
                    refine w_ldcw hX dX9_findDone_106 ki_RX9_323 ?_
                    refine w_top (y := nI 100000000) rfl ?_
                    refine wn_icmp_ge (tgt := 124) hX dX9_findDone_109 (by decide) (by first | omega | (split <;> omega) | (have := hE1.2.1 k; omega) | (have := hE1.2.1 k; have := hE1.2.1 (k ||| 2 ^ j); have := heg.2.2; omega)) (by first | omega | (split <;> omega) | (have := hE1.2.1 k; omega) | (have := hE1.2.1 k; have := hE1.2.1 (k ||| 2 ^ j); have := heg.2.2; omega)) (fun c8 => ?_) (fun c8 => ?_)
                    · refine w_ldcw hX dX9_findDone_124 ki_RX9_323 ?_
                      refine w_top (y := nI 100000000) rfl ?_
                      refine w_top (y := nI (enF (WnB B (b0F B d) (skW B d aw)) j (D k))) (congrArg nI (by unfold enF; rw [heg.1 (by omega)])) ?_
                      exact j127
                    · refine w_iload hX dX9_findDone_112 rfl ?_
                      refine w_aload_n (i := 0) hX dX9_findDone_114 rfl rfl ?_
                      refine w_iload_n (i := 3) hX dX9_findDone_115 rfl rfl ?_
                      refine w_iconst hX dX9_findDone_116 kI_3 ?_
                      refine w_callVI (As := [.int (nI j), .int (nI 3)]) (rest := [.int (nI ((eb (WnB B (b0F B d) (skW B d aw)) j (D k)).getD 100000000))]) (ci := 9) (o := m) (k2 := 0) (n2 := 0) hX dX9_findDone_117 (s_a_workOf Γ ν2 m B aw hm2 hW j 3 (by omega) (by omega)) okX9_workOf (ltb rfl) (mod_s hm2.1.1) ml_RX9_320 imX9_workOf seX9_workOf rfl (leb rfl) (leb rfl) rfl rfl (fun r9 μ9 hq9 => ?_)
                      obtain ⟨hr9, hm9⟩ := hq9; rw [hr9, hm9]; clear hr9 hm9 r9 μ9
                      refine w_iaddN hX dX9_findDone_120 ?_
                      refine w_goto (tgt := 127) hX dX9_findDone_121 (by decide) ?_
                      refine w_top (y := nI (enF (WnB B (b0F B d) (skW B d aw)) j (D k))) (congrArg nI (by obtain ⟨s9, h9, h8, -⟩ := heg.2.1 (by omega); rw [h8]; unfold enF; rw [h9]; rfl)) ?_
                      exact j127
          exact inl 0 (Nat.zero_le _) ν1 hs1 hD
      exact lp2 0 (Nat.zero_le _) ν hsm ⟨_, dnI_0, fun S hS => hin S (by omega)⟩
    · refine w_aload_n (i := 0) hX dX9_findDone_9 rfl rfl ?_
      refine w_getR (q := m + 14) hX dX9_findDone_10 fo_RX9_100 rfl (mod_s hmk.1.1) (mod_r23 hmk.1.1) ?_
      refine w_iload_n (i := 2) hX dX9_findDone_13 rfl rfl ?_
      refine w_iload_n (i := 2) hX dX9_findDone_14 rfl rfl ?_
      refine wn_if_ne (tgt := 22) hX dX9_findDone_15 (by decide) (by first | omega | (split <;> omega) | (have := hE1.2.1 k; omega) | (have := hE1.2.1 k; have := hE1.2.1 (k ||| 2 ^ j); have := heg.2.2; omega)) (fun c9 => ?_) (fun c9 => ?_)
      · refine w_ldcw hX dX9_findDone_22 ki_RX9_323 ?_
        refine w_top (y := nI 100000000) rfl ?_
        refine w_iastN hX dX9_findDone_25 (mod_a14 hmk.1.1) (by omega) (by omega) ?_
        refine w_iincN (w := 1) (l2 := [some (.ref m), some (.int (nI d)), some (.int (nI (k + 1))), none, none, none, none]) hX dX9_findDone_26 rfl kI_1 rfl rfl ?_
        refine w_goto (tgt := 2) hX dX9_findDone_29 (by decide) ?_
        refine ih (by omega) _ (hsm.sI rfl) (fun S hS => ?_)
        by_cases e : S = k
        · subst e; rw [gI_same]; rw [if_neg (by omega)]
        · rw [gI_nk e]; exact hin S (by omega)
      · refine w_iconst hX dX9_findDone_18 kI_0 ?_
        refine w_goto (tgt := 25) hX dX9_findDone_19 (by decide) ?_
        refine w_iastN hX dX9_findDone_25 (mod_a14 hmk.1.1) (by omega) (by omega) ?_
        refine w_iincN (w := 1) (l2 := [some (.ref m), some (.int (nI d)), some (.int (nI (k + 1))), none, none, none, none]) hX dX9_findDone_26 rfl kI_1 rfl rfl ?_
        refine w_goto (tgt := 2) hX dX9_findDone_29 (by decide) ?_
        refine ih (by omega) _ (hsm.sI rfl) (fun S hS => ?_)
        by_cases e : S = k
        · subst e; rw [gI_same]; rw [if_pos (by omega)]
        · rw [gI_nk e]; exact hin S (by omega)
  exact loop 0 (Nat.zero_le _) μ same.rf (fun S hS => absurd hS (Nat.not_lt_zero _))
set_option maxHeartbeats 1000000 in
theorem s_a_worth (Γ : Gm) (μ : Mem) (m : Nat) (B : Nat → Nat) (aw : Option Nat) (hm : HA μ m B aw) (hW : WB B) (S : Nat) (hS : S < 256) : SpI Γ MX9_worthOf 1 0 0 [.ref m, .int (nI S)] μ (fun r μ2 => r = nI (woS B S (B 85)) ∧ μ2 = μ) := by
  refine SpI.of okX9_worthOf rfl [some (.ref m), some (.int (nI S)), none, none] ⟨rfl, rfl, trivial⟩ (leb rfl) (leb rfl) (fun X hX hE hnm => ?_)
  refine w_iconst hX dX9_worthOf_0 kI_0 ?_
  refine w_istore_n (i := 2) (l2 := [some (.ref m), some (.int (nI S)), some (.int (nI 0)), none]) hX dX9_worthOf_1 rfl (ltb rfl) rfl rfl ?_
  refine w_iconst hX dX9_worthOf_2 kI_0 ?_
  refine w_istore_n (i := 3) (l2 := [some (.ref m), some (.int (nI S)), some (.int (nI 0)), some (.int (nI 0))]) hX dX9_worthOf_3 rfl (ltb rfl) rfl rfl ?_
  have hn8 := hW.2.2.1.1
  have loop : ∀ k, k ≤ B 85 → WP Γ X 0 0 4 [some (.ref m), some (.int (nI S)), some (.int (nI (woS B S k))), some (.int (nI k))] [] μ := by
    refine loopU (B 85) ?_
    intro k hk ih
    refine w_iload_n (i := 3) hX dX9_worthOf_4 rfl rfl ?_
    refine w_aload_n (i := 0) hX dX9_worthOf_5 rfl rfl ?_
    refine w_callVI (As := []) (rest := [.int (nI k)]) (ci := 9) (o := m) (k2 := 0) (n2 := 0) hX dX9_worthOf_6 (s_a_works Γ μ m B aw hm hW) okX9_works (ltb rfl) (mod_s hm.1.1) ml_RX9_317 imX9_works seX9_works rfl (leb rfl) (leb rfl) rfl rfl (fun r9 μ9 hq9 => ?_)
    obtain ⟨hr9, hm9⟩ := hq9; rw [hr9, hm9]; clear hr9 hm9 r9 μ9
    refine wn_icmp_ge (tgt := 40) hX dX9_worthOf_9 (by decide) (by first | omega | (split <;> omega)) (by first | omega | (split <;> omega)) (fun c1 => ?_) (fun c1 => ?_)
    · refine w_iload_n (i := 2) hX dX9_worthOf_40 rfl rfl ?_
      exact w_iret hX hE dX9_worthOf_41 (Or.inl rfl) rfl ⟨by rw [show k = B 85 by omega], rfl⟩
    · refine w_iload_n (i := 2) hX dX9_worthOf_12 rfl rfl ?_
      refine w_iload_n (i := 1) hX dX9_worthOf_13 rfl rfl ?_
      refine w_iload_n (i := 3) hX dX9_worthOf_14 rfl rfl ?_
      refine w_ishr hX dX9_worthOf_15 ?_
      refine w_iconst hX dX9_worthOf_16 kI_1 ?_
      refine w_iand hX dX9_worthOf_17 ?_
      refine w_top (y := nI (if S.testBit k = true then 1 else 0)) (bit31 (by omega) (by omega)) ?_
      refine w_iconst hX dX9_worthOf_18 kI_1 ?_
      refine wn_icmp_ne (tgt := 31) hX dX9_worthOf_19 (by decide) (by first | omega | (split <;> omega)) (by first | omega | (split <;> omega)) (fun c2 => ?_) (fun c2 => ?_)
      · refine w_iconst hX dX9_worthOf_31 kI_0 ?_
        refine w_iaddN hX dX9_worthOf_32 ?_
        refine w_istore_n (i := 2) (l2 := [some (.ref m), some (.int (nI S)), some (.int (nI (woS B S k + 0))), some (.int (nI k))]) hX dX9_worthOf_33 rfl (ltb rfl) rfl rfl ?_
        refine w_iincN (w := 1) (l2 := [some (.ref m), some (.int (nI S)), some (.int (nI (woS B S k + 0))), some (.int (nI (k + 1)))]) hX dX9_worthOf_34 rfl kI_1 rfl rfl ?_
        refine w_goto (tgt := 4) hX dX9_worthOf_37 (by decide) ?_
        have e9 : woS B S (k + 1) = woS B S k + 0 := by simp only [woS]; rw [if_neg (fun h9 => by rw [if_pos h9] at c2; exact absurd rfl c2)]
        refine w_locs (ls2 := [some (.ref m), some (.int (nI S)), some (.int (nI (woS B S (k + 1)))), some (.int (nI (k + 1)))]) (by rw [e9]) ?_
        exact ih (by omega)
      · refine w_aload_n (i := 0) hX dX9_worthOf_22 rfl rfl ?_
        refine w_iload_n (i := 3) hX dX9_worthOf_23 rfl rfl ?_
        refine w_iconst hX dX9_worthOf_24 kI_4 ?_
        refine w_callVI (As := [.int (nI k), .int (nI 4)]) (rest := [.int (nI (woS B S k))]) (ci := 9) (o := m) (k2 := 0) (n2 := 0) hX dX9_worthOf_25 (s_a_workOf Γ μ m B aw hm hW k 4 (by omega) (by omega)) okX9_workOf (ltb rfl) (mod_s hm.1.1) ml_RX9_320 imX9_workOf seX9_workOf rfl (leb rfl) (leb rfl) rfl rfl (fun r9 μ9 hq9 => ?_)
        obtain ⟨hr9, hm9⟩ := hq9; rw [hr9, hm9]; clear hr9 hm9 r9 μ9
        refine w_goto (tgt := 32) hX dX9_worthOf_28 (by decide) ?_
        refine w_iaddN hX dX9_worthOf_32 ?_
        refine w_istore_n (i := 2) (l2 := [some (.ref m), some (.int (nI S)), some (.int (nI (woS B S k + (B (86 + 5 * k + 4))))), some (.int (nI k))]) hX dX9_worthOf_33 rfl (ltb rfl) rfl rfl ?_
        refine w_iincN (w := 1) (l2 := [some (.ref m), some (.int (nI S)), some (.int (nI (woS B S k + (B (86 + 5 * k + 4))))), some (.int (nI (k + 1)))]) hX dX9_worthOf_34 rfl kI_1 rfl rfl ?_
        refine w_goto (tgt := 4) hX dX9_worthOf_37 (by decide) ?_
        have e9 : woS B S (k + 1) = woS B S k + (B (86 + 5 * k + 4)) := by simp only [woS]; rw [if_pos (by by_cases h9 : S.testBit k = true; (exact h9); rw [if_neg h9] at c2; omega)]
        refine w_locs (ls2 := [some (.ref m), some (.int (nI S)), some (.int (nI (woS B S (k + 1)))), some (.int (nI (k + 1)))]) (by rw [e9]) ?_
        exact ih (by omega)
  exact loop 0 (Nat.zero_le _)
set_option maxHeartbeats 1000000 in
theorem s_a_best (Γ : Gm) (μ : Mem) (m : Nat) (B : Nat → Nat) (aw : Option Nat) (hm : HA μ m B aw) (hW : WB B) (d : Nat) (hd : d ≤ 3649) (ha : aw = none ∨ aw = some d)  : SpI Γ MX9_findBest 6 0 0 [.ref m, .int (nI d)] μ (fun r μ2 => r = nI (bsS B d (WnB B (b0F B d) (skW B d aw)) (2 ^ B 85)) ∧ same (fun o _ => o = m + 14) μ μ2) := by
  refine SpI.of okX9_findBest rfl [some (.ref m), some (.int (nI d)), none, none] ⟨rfl, rfl, trivial⟩ (leb rfl) (leb rfl) (fun X hX hE hnm => ?_)
  have hn8 := hW.2.2.1.1; have h256 := p8 hn8; have hb0 := b0F_le hW hd
  have hsk := skW_ok (d := d) (aw := aw) hm.2.2
  have hok := okWn_B (b0 := b0F B d) (sk := skW B d aw) hW (by omega) hsk
  refine w_aload_n (i := 0) hX dX9_findBest_0 rfl rfl ?_
  refine w_iload_n (i := 1) hX dX9_findBest_1 rfl rfl ?_
  refine w_callVV (As := [.int (nI d)]) (rest := []) (ci := 9) (o := m) (k2 := 0) (n2 := 0) hX dX9_findBest_2 (s_a_done Γ μ m B aw hm hW d hd ha) okX9_findDone (ltb rfl) (mod_s hm.1.1) ml_RX9_327 imX9_findDone seX9_findDone rfl (leb rfl) (leb rfl) rfl rfl (fun ν hq9 => ?_)
  obtain ⟨D, hD, hDm, hs⟩ := hq9
  have hmk := hm.sm hs (fun o k h => by omega)
  refine w_iconst hX dX9_findBest_5 kI_0 ?_
  refine w_istore_n (i := 2) (l2 := [some (.ref m), some (.int (nI d)), some (.int (nI 0)), none]) hX dX9_findBest_6 rfl (ltb rfl) rfl rfl ?_
  refine w_iconst hX dX9_findBest_7 kI_0 ?_
  refine w_istore_n (i := 3) (l2 := [some (.ref m), some (.int (nI d)), some (.int (nI 0)), some (.int (nI 0))]) hX dX9_findBest_8 rfl (ltb rfl) rfl rfl ?_
  have loop : ∀ k, k ≤ 2 ^ B 85 → WP Γ X 0 0 9 [some (.ref m), some (.int (nI d)), some (.int (nI (bsS B d (WnB B (b0F B d) (skW B d aw)) k))), some (.int (nI k))] [] ν := by
    refine loopU (2 ^ B 85) ?_
    intro k hk ih
    have hDk : k < 2 ^ B 85 → D k ≤ 100000000 := fun h => (hDm k h).2
    have hbl : bsS B d (WnB B (b0F B d) (skW B d aw)) k ≤ k := by rcases Nat.eq_zero_or_pos k with e | e; (rw [e]; exact Nat.le_refl _); exact Nat.le_of_lt (bsS_lt k e)
    have hw1 := woS_le (S := k) hW (B 85) (Nat.le_refl _); have hw2 := woS_le (S := bsS B d (WnB B (b0F B d) (skW B d aw)) k) hW (B 85) (Nat.le_refl _)
    have hfe : k < 2 ^ B 85 → (D k < 100000000 ↔ feB B d (WnB B (b0F B d) (skW B d aw)) k = true) := fun h => dn_fe hok hD h
    refine w_iload_n (i := 3) hX dX9_findBest_9 rfl rfl ?_
    refine w_iconst hX dX9_findBest_10 kI_1 ?_
    refine w_aload_n (i := 0) hX dX9_findBest_11 rfl rfl ?_
    refine w_callVI (As := []) (rest := [.int (nI 1), .int (nI k)]) (ci := 9) (o := m) (k2 := 0) (n2 := 0) hX dX9_findBest_12 (s_a_works Γ ν m B aw hmk hW) okX9_works (ltb rfl) (mod_s hmk.1.1) ml_RX9_317 imX9_works seX9_works rfl (leb rfl) (leb rfl) rfl rfl (fun r9 μ9 hq9 => ?_)
    obtain ⟨hr9, hm9⟩ := hq9; rw [hr9, hm9]; clear hr9 hm9 r9 μ9
    refine w_ishl hX dX9_findBest_15 ?_
    refine w_top (y := nI (2 ^ B 85)) (shl_nI (by omega)) ?_
    refine wn_icmp_ge (tgt := 56) hX dX9_findBest_16 (by decide) (by omega) (by omega) (fun c1 => ?_) (fun c1 => ?_)
    · refine w_iload_n (i := 2) hX dX9_findBest_56 rfl rfl ?_
      exact w_iret hX hE dX9_findBest_57 (Or.inl rfl) rfl ⟨by rw [show k = 2 ^ B 85 by omega], hs⟩
    · refine w_aload_n (i := 0) hX dX9_findBest_19 rfl rfl ?_
      refine w_getR (q := m + 14) hX dX9_findBest_20 fo_RX9_100 rfl (mod_s hmk.1.1) (mod_r23 hmk.1.1) ?_
      refine w_iload_n (i := 3) hX dX9_findBest_23 rfl rfl ?_
      refine w_ialdN hX dX9_findBest_24 (mod_a14 hmk.1.1) (by omega) (by omega) ?_
      refine w_top (y := nI (D k)) (hDm k (by omega)).1 ?_
      refine w_ldcw hX dX9_findBest_25 ki_RX9_323 ?_
      refine w_top (y := nI 100000000) rfl ?_
      refine wn_icmp_ge (tgt := 48) hX dX9_findBest_28 (by decide) (by omega) (by omega) (fun c2 => ?_) (fun c2 => ?_)
      · refine w_iload_n (i := 2) hX dX9_findBest_48 rfl rfl ?_
        refine w_istore_n (i := 2) (l2 := [some (.ref m), some (.int (nI d)), some (.int (nI (bsS B d (WnB B (b0F B d) (skW B d aw)) k))), some (.int (nI k))]) hX dX9_findBest_49 rfl (ltb rfl) rfl rfl ?_
        refine w_iincN (w := 1) (l2 := [some (.ref m), some (.int (nI d)), some (.int (nI (bsS B d (WnB B (b0F B d) (skW B d aw)) k))), some (.int (nI (k + 1)))]) hX dX9_findBest_50 rfl kI_1 rfl rfl ?_
        refine w_goto (tgt := 9) hX dX9_findBest_53 (by decide) ?_
        have e9 : bsS B d (WnB B (b0F B d) (skW B d aw)) (k + 1) = bsS B d (WnB B (b0F B d) (skW B d aw)) k := by simp only [bsS]; rw [if_neg (fun h9 => by have := (hfe (by omega)).mpr h9.1; omega)]
        refine w_locs (ls2 := [some (.ref m), some (.int (nI d)), some (.int (nI (bsS B d (WnB B (b0F B d) (skW B d aw)) (k + 1)))), some (.int (nI (k + 1)))]) (by rw [e9]) ?_
        exact ih (by omega)
      · refine w_aload_n (i := 0) hX dX9_findBest_31 rfl rfl ?_
        refine w_iload_n (i := 3) hX dX9_findBest_32 rfl rfl ?_
        refine w_callVI (As := [.int (nI k)]) (rest := []) (ci := 9) (o := m) (k2 := 0) (n2 := 0) hX dX9_findBest_33 (s_a_worth Γ ν m B aw hmk hW k (by omega)) okX9_worthOf (ltb rfl) (mod_s hmk.1.1) ml_RX9_330 imX9_worthOf seX9_worthOf rfl (leb rfl) (leb rfl) rfl rfl (fun r9 μ9 hq9 => ?_)
        obtain ⟨hr9, hm9⟩ := hq9; rw [hr9, hm9]; clear hr9 hm9 r9 μ9
        refine w_aload_n (i := 0) hX dX9_findBest_36 rfl rfl ?_
        refine w_iload_n (i := 2) hX dX9_findBest_37 rfl rfl ?_
        refine w_callVI (As := [.int (nI (bsS B d (WnB B (b0F B d) (skW B d aw)) k))]) (rest := [.int (nI (woS B k (B 85)))]) (ci := 9) (o := m) (k2 := 0) (n2 := 0) hX dX9_findBest_38 (s_a_worth Γ ν m B aw hmk hW (bsS B d (WnB B (b0F B d) (skW B d aw)) k) (by omega)) okX9_worthOf (ltb rfl) (mod_s hmk.1.1) ml_RX9_330 imX9_worthOf seX9_worthOf rfl (leb rfl) (leb rfl) rfl rfl (fun r9 μ9 hq9 => ?_)
        obtain ⟨hr9, hm9⟩ := hq9; rw [hr9, hm9]; clear hr9 hm9 r9 μ9
        refine wn_icmp_le (tgt := 48) hX dX9_findBest_41 (by decide) (by omega) (by omega) (fun c3 => ?_) (fun c3 => ?_)
        · refine w_iload_n (i := 2) hX dX9_findBest_48 rfl rfl ?_
          refine w_istore_n (i := 2) (l2 := [some (.ref m), some (.int (nI d)), some (.int (nI (bsS B d (WnB B (b0F B d) (skW B d aw)) k))), some (.int (nI k))]) hX dX9_findBest_49 rfl (ltb rfl) rfl rfl ?_
          refine w_iincN (w := 1) (l2 := [some (.ref m), some (.int (nI d)), some (.int (nI (bsS B d (WnB B (b0F B d) (skW B d aw)) k))), some (.int (nI (k + 1)))]) hX dX9_findBest_50 rfl kI_1 rfl rfl ?_
          refine w_goto (tgt := 9) hX dX9_findBest_53 (by decide) ?_
          have e9 : bsS B d (WnB B (b0F B d) (skW B d aw)) (k + 1) = bsS B d (WnB B (b0F B d) (skW B d aw)) k := by simp only [bsS]; rw [if_neg (fun h9 => by have := h9.2; omega)]
          refine w_locs (ls2 := [some (.ref m), some (.int (nI d)), some (.int (nI (bsS B d (WnB B (b0F B d) (skW B d aw)) (k + 1)))), some (.int (nI (k + 1)))]) (by rw [e9]) ?_
          exact ih (by omega)
        · refine w_iload_n (i := 3) hX dX9_findBest_44 rfl rfl ?_
          refine w_goto (tgt := 49) hX dX9_findBest_45 (by decide) ?_
          refine w_istore_n (i := 2) (l2 := [some (.ref m), some (.int (nI d)), some (.int (nI k)), some (.int (nI k))]) hX dX9_findBest_49 rfl (ltb rfl) rfl rfl ?_
          refine w_iincN (w := 1) (l2 := [some (.ref m), some (.int (nI d)), some (.int (nI k)), some (.int (nI (k + 1)))]) hX dX9_findBest_50 rfl kI_1 rfl rfl ?_
          refine w_goto (tgt := 9) hX dX9_findBest_53 (by decide) ?_
          have e9 : bsS B d (WnB B (b0F B d) (skW B d aw)) (k + 1) = k := by simp only [bsS]; rw [if_pos ⟨(hfe (by omega)).mp (by omega), by omega⟩]
          refine w_locs (ls2 := [some (.ref m), some (.int (nI d)), some (.int (nI (bsS B d (WnB B (b0F B d) (skW B d aw)) (k + 1)))), some (.int (nI (k + 1)))]) (by rw [e9]) ?_
          exact ih (by omega)
  refine w_locs (ls2 := [some (.ref m), some (.int (nI d)), some (.int (nI (bsS B d (WnB B (b0F B d) (skW B d aw)) 0))), some (.int (nI 0))]) (by rfl) ?_
  exact loop 0 (Nat.zero_le _)
