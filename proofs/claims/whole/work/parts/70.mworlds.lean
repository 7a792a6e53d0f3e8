theorem rl_in {x y m : Nat} (hx : x < 2 ^ 30) (hy : y < 2 ^ 30) (hm : m < 2 ^ 30) : inR (nI x - nI y) (-(nI m)) (nI m) = decide (x ≤ y + m ∧ y ≤ x + m) := by
  have e : (-(nI m)).toInt = -(m : Int) := by
    rw [show -(nI m) = nI 0 - nI m by rw [show nI 0 = (0 : Int32) from rfl, Int32.zero_sub], pk_sub_toInt (by omega) hm]; omega
  rw [Bool.eq_iff_iff]
  simp only [inR, Bool.and_eq_true, decide_eq_true_eq, Int32.le_iff_toInt_le]
  rw [e, pk_sub_toInt hx hy, nI_toInt (by omega)]
  omega
set_option maxHeartbeats 1000000 in
theorem s_m_holds (Γ : Gm) (μ : Mem) (m : Nat) (B : Nat → Nat) (hm : HM μ m B) (hW : WB B) (bits q : Nat) (hbits : bits < 2 ^ 31) (hq : q < B 352) (mo : Nat → Nat) (hmb : ∀ t, t ≤ q → mo t < 2 ^ 30) (hmo : ∀ t, t ≤ q → tbF bits t = true → gI μ (m + 10) t = nI (mo t)) : SpI Γ MX9_holds 1 0 0 [.ref m, .int (nI bits), .int (nI q)] μ (fun r μ2 => r = bI (hlB B bits q mo (B 401)) ∧ μ2 = μ) := by
  refine SpI.of okX9_holds rfl [some (.ref m), some (.int (nI bits)), some (.int (nI q)), none, none, none, none, none, none, none, none] ⟨rfl, rfl, rfl, trivial⟩ (leb rfl) (leb rfl) (fun X hX hE hnm => ?_)
  refine w_iconst hX dX9_holds_0 kI_1 ?_
  refine w_istore_n (i := 3) (l2 := [some (.ref m), some (.int (nI bits)), some (.int (nI q)), some (.int (nI 1)), none, none, none, none, none, none, none]) hX dX9_holds_1 rfl (ltb rfl) rfl rfl ?_
  refine w_iconst hX dX9_holds_2 kI_0 ?_
  refine w_istore (l2 := [some (.ref m), some (.int (nI bits)), some (.int (nI q)), some (.int (nI 1)), some (.int (nI 0)), none, none, none, none, none, none]) hX dX9_holds_3 (ltb rfl) rfl rfl ?_
  have hP12 := hW.2.2.2.2.1.1; have hR16 := hW.2.2.2.2.2.1
  have loop : ∀ k, k ≤ B 401 → WP Γ X 0 0 5 [some (.ref m), some (.int (nI bits)), some (.int (nI q)), some (.int (bI (hlB B bits q mo k))), some (.int (nI k)), none, none, none, none, none, none] [] μ := by
    refine loopU (B 401) ?_
    intro k hk ih
    have hr9 : k < B 401 → B (402 + 4 * k) ≤ 1 ∧ B (402 + 4 * k + 1) < B 352 ∧ B (402 + 4 * k + 2) < B 352 ∧ B (402 + 4 * k + 1) ≠ B (402 + 4 * k + 2) ∧ B (402 + 4 * k + 3) ≤ 9999 := fun h => hW.2.2.2.2.2.2 k h
    refine w_iload hX dX9_holds_5 rfl ?_
    refine w_aload_n (i := 0) hX dX9_holds_7 rfl rfl ?_
    refine w_getR (q := m + 6) hX dX9_holds_8 fo_RX9_73 rfl (mod_s hm.1.1) (mod_r10 hm.1.1) ?_
    refine w_sipush hX dX9_holds_11 kS_401 ?_
    refine w_ialdN hX dX9_holds_14 (mod_a6 hm.1.1) (by omega) (by omega) ?_
    refine w_top (y := nI (B 401)) (hm.1.2 _ (by omega)).1 ?_
    refine wn_icmp_ge (tgt := 211) hX dX9_holds_15 (by decide) (by first | omega | (split <;> omega)) (by first | omega | (split <;> omega)) (fun c1 => ?_) (fun c1 => ?_)
    · refine w_iload_n (i := 3) hX dX9_holds_211 rfl rfl ?_
      exact w_iret hX hE dX9_holds_212 (Or.inl rfl) (bI_nar _) ⟨by rw [show k = B 401 by omega], rfl⟩
    · refine w_sipush hX dX9_holds_18 kS_402 ?_
      refine w_iconst hX dX9_holds_21 kI_4 ?_
      refine w_iload hX dX9_holds_22 rfl ?_
      refine w_imulN hX dX9_holds_24 ?_
      refine w_iaddN hX dX9_holds_25 ?_
      refine w_istore (l2 := [some (.ref m), some (.int (nI bits)), some (.int (nI q)), some (.int (bI (hlB B bits q mo k))), some (.int (nI k)), some (.int (nI (402 + (4 * k)))), none, none, none, none, none]) hX dX9_holds_26 (ltb rfl) rfl rfl ?_
      refine w_aload_n (i := 0) hX dX9_holds_28 rfl rfl ?_
      refine w_getR (q := m + 6) hX dX9_holds_29 fo_RX9_73 rfl (mod_s hm.1.1) (mod_r10 hm.1.1) ?_
      refine w_iload hX dX9_holds_32 rfl ?_
      refine w_iconst hX dX9_holds_34 kI_1 ?_
      refine w_iaddN hX dX9_holds_35 ?_
      refine w_ialdN hX dX9_holds_36 (mod_a6 hm.1.1) (by omega) (by omega) ?_
      refine w_top (y := nI (B (402 + (4 * k) + 1))) (hm.1.2 _ (by omega)).1 ?_
      refine w_istore (l2 := [some (.ref m), some (.int (nI bits)), some (.int (nI q)), some (.int (bI (hlB B bits q mo k))), some (.int (nI k)), some (.int (nI (402 + (4 * k)))), some (.int (nI (B (402 + (4 * k) + 1)))), none, none, none, none]) hX dX9_holds_37 (ltb rfl) rfl rfl ?_
      refine w_aload_n (i := 0) hX dX9_holds_39 rfl rfl ?_
      refine w_getR (q := m + 6) hX dX9_holds_40 fo_RX9_73 rfl (mod_s hm.1.1) (mod_r10 hm.1.1) ?_
      refine w_iload hX dX9_holds_43 rfl ?_
      refine w_iconst hX dX9_holds_45 kI_2 ?_
      refine w_iaddN hX dX9_holds_46 ?_
      refine w_ialdN hX dX9_holds_47 (mod_a6 hm.1.1) (by omega) (by omega) ?_
      refine w_top (y := nI (B (402 + (4 * k) + 2))) (hm.1.2 _ (by omega)).1 ?_
      refine w_istore (l2 := [some (.ref m), some (.int (nI bits)), some (.int (nI q)), some (.int (bI (hlB B bits q mo k))), some (.int (nI k)), some (.int (nI (402 + (4 * k)))), some (.int (nI (B (402 + (4 * k) + 1)))), some (.int (nI (B (402 + (4 * k) + 2)))), none, none, none]) hX dX9_holds_48 (ltb rfl) rfl rfl ?_
      have j99 : WP Γ X 0 0 99 [some (.ref m), some (.int (nI bits)), some (.int (nI q)), some (.int (bI (hlB B bits q mo k))), some (.int (nI k)), some (.int (nI (402 + 4 * k))), some (.int (nI (B (402 + 4 * k + 1)))), some (.int (nI (B (402 + 4 * k + 2)))), none, none, none] [.int (bI (aqB B bits q k))] μ := by
        refine w_istore (l2 := [some (.ref m), some (.int (nI bits)), some (.int (nI q)), some (.int (bI (hlB B bits q mo k))), some (.int (nI k)), some (.int (nI (402 + 4 * k))), some (.int (nI (B (402 + 4 * k + 1)))), some (.int (nI (B (402 + 4 * k + 2)))), some (.int (bI (aqB B bits q k))), none, none]) hX dX9_holds_99 (ltb rfl) rfl rfl ?_
        have j183 : ∀ f9 : Bool, (aqB B bits q k = true → f9 = rlB B k (mo (B (402 + 4 * k + 1))) (mo (B (402 + 4 * k + 2)))) → WP Γ X 0 0 183 [some (.ref m), some (.int (nI bits)), some (.int (nI q)), some (.int (bI (hlB B bits q mo k))), some (.int (nI k)), some (.int (nI (402 + 4 * k))), some (.int (nI (B (402 + 4 * k + 1)))), some (.int (nI (B (402 + 4 * k + 2)))), some (.int (bI (aqB B bits q k))), none, none] [.int (bI f9)] μ := by
          intro f9 hfr
          refine w_istore (l2 := [some (.ref m), some (.int (nI bits)), some (.int (nI q)), some (.int (bI (hlB B bits q mo k))), some (.int (nI k)), some (.int (nI (402 + 4 * k))), some (.int (nI (B (402 + 4 * k + 1)))), some (.int (nI (B (402 + 4 * k + 2)))), some (.int (bI (aqB B bits q k))), none, some (.int (bI f9))]) hX dX9_holds_183 (ltb rfl) rfl rfl ?_
          refine w_iload_n (i := 3) hX dX9_holds_185 rfl rfl ?_
          refine wb_eq (tgt := 203) hX dX9_holds_186 (by decide) (fun hdo => ?_) (fun hdo => ?_)
          · refine w_iconst hX dX9_holds_203 kI_0 ?_
            refine w_istore_n (i := 3) (l2 := [some (.ref m), some (.int (nI bits)), some (.int (nI q)), some (.int (nI 0)), some (.int (nI k)), some (.int (nI (402 + 4 * k))), some (.int (nI (B (402 + 4 * k + 1)))), some (.int (nI (B (402 + 4 * k + 2)))), some (.int (bI (aqB B bits q k))), none, some (.int (bI f9))]) hX dX9_holds_204 rfl (ltb rfl) rfl rfl ?_
            refine w_iincN (w := 1) (l2 := [some (.ref m), some (.int (nI bits)), some (.int (nI q)), some (.int (nI 0)), some (.int (nI (k + 1))), some (.int (nI (402 + 4 * k))), some (.int (nI (B (402 + 4 * k + 1)))), some (.int (nI (B (402 + 4 * k + 2)))), some (.int (bI (aqB B bits q k))), none, some (.int (bI f9))]) hX dX9_holds_205 rfl kI_1 rfl rfl ?_
            refine w_goto (tgt := 5) hX dX9_holds_208 (by decide) ?_
            refine w_sub (l2 := [some (.ref m), some (.int (nI bits)), some (.int (nI q)), some (.int (nI 0)), some (.int (nI (k + 1))), none, none, none, none, none, none]) (by simp [lsub]) (leb rfl) ?_
            refine w_locs (ls2 := [some (.ref m), some (.int (nI bits)), some (.int (nI q)), some (.int (bI (hlB B bits q mo (k + 1)))), some (.int (nI (k + 1))), none, none, none, none, none, none]) (by rw [show nI 0 = bI (hlB B bits q mo (k + 1)) from bI_2 (by simp only [hlB]; simp [hdo])]) ?_
            exact ih (by omega)
          · refine w_iload hX dX9_holds_189 rfl ?_
            refine wb_eq (tgt := 199) hX dX9_holds_191 (by decide) (fun haq => ?_) (fun haq => ?_)
            · refine w_iconst hX dX9_holds_199 kI_1 ?_
              refine w_goto (tgt := 204) hX dX9_holds_200 (by decide) ?_
              refine w_istore_n (i := 3) (l2 := [some (.ref m), some (.int (nI bits)), some (.int (nI q)), some (.int (nI 1)), some (.int (nI k)), some (.int (nI (402 + 4 * k))), some (.int (nI (B (402 + 4 * k + 1)))), some (.int (nI (B (402 + 4 * k + 2)))), some (.int (bI (aqB B bits q k))), none, some (.int (bI f9))]) hX dX9_holds_204 rfl (ltb rfl) rfl rfl ?_
              refine w_iincN (w := 1) (l2 := [some (.ref m), some (.int (nI bits)), some (.int (nI q)), some (.int (nI 1)), some (.int (nI (k + 1))), some (.int (nI (402 + 4 * k))), some (.int (nI (B (402 + 4 * k + 1)))), some (.int (nI (B (402 + 4 * k + 2)))), some (.int (bI (aqB B bits q k))), none, some (.int (bI f9))]) hX dX9_holds_205 rfl kI_1 rfl rfl ?_
              refine w_goto (tgt := 5) hX dX9_holds_208 (by decide) ?_
              refine w_sub (l2 := [some (.ref m), some (.int (nI bits)), some (.int (nI q)), some (.int (nI 1)), some (.int (nI (k + 1))), none, none, none, none, none, none]) (by simp [lsub]) (leb rfl) ?_
              refine w_locs (ls2 := [some (.ref m), some (.int (nI bits)), some (.int (nI q)), some (.int (bI (hlB B bits q mo (k + 1)))), some (.int (nI (k + 1))), none, none, none, none, none, none]) (by rw [show nI 1 = bI (hlB B bits q mo (k + 1)) from bI_1 (by simp only [hlB]; simp [hdo, haq])]) ?_
              exact ih (by omega)
            · refine w_iload hX dX9_holds_194 rfl ?_
              refine wb_eq (tgt := 203) hX dX9_holds_196 (by decide) (fun hf9 => ?_) (fun hf9 => ?_)
              · refine w_iconst hX dX9_holds_203 kI_0 ?_
                refine w_istore_n (i := 3) (l2 := [some (.ref m), some (.int (nI bits)), some (.int (nI q)), some (.int (nI 0)), some (.int (nI k)), some (.int (nI (402 + 4 * k))), some (.int (nI (B (402 + 4 * k + 1)))), some (.int (nI (B (402 + 4 * k + 2)))), some (.int (bI (aqB B bits q k))), none, some (.int (bI f9))]) hX dX9_holds_204 rfl (ltb rfl) rfl rfl ?_
                refine w_iincN (w := 1) (l2 := [some (.ref m), some (.int (nI bits)), some (.int (nI q)), some (.int (nI 0)), some (.int (nI (k + 1))), some (.int (nI (402 + 4 * k))), some (.int (nI (B (402 + 4 * k + 1)))), some (.int (nI (B (402 + 4 * k + 2)))), some (.int (bI (aqB B bits q k))), none, some (.int (bI f9))]) hX dX9_holds_205 rfl kI_1 rfl rfl ?_
                refine w_goto (tgt := 5) hX dX9_holds_208 (by decide) ?_
                refine w_sub (l2 := [some (.ref m), some (.int (nI bits)), some (.int (nI q)), some (.int (nI 0)), some (.int (nI (k + 1))), none, none, none, none, none, none]) (by simp [lsub]) (leb rfl) ?_
                refine w_locs (ls2 := [some (.ref m), some (.int (nI bits)), some (.int (nI q)), some (.int (bI (hlB B bits q mo (k + 1)))), some (.int (nI (k + 1))), none, none, none, none, none, none]) (by rw [show nI 0 = bI (hlB B bits q mo (k + 1)) from bI_2 (by simp only [hlB]; simp [hdo, haq, (hfr haq).symm.trans hf9])]) ?_
                exact ih (by omega)
              · refine w_iconst hX dX9_holds_199 kI_1 ?_
                refine w_goto (tgt := 204) hX dX9_holds_200 (by decide) ?_
                refine w_istore_n (i := 3) (l2 := [some (.ref m), some (.int (nI bits)), some (.int (nI q)), some (.int (nI 1)), some (.int (nI k)), some (.int (nI (402 + 4 * k))), some (.int (nI (B (402 + 4 * k + 1)))), some (.int (nI (B (402 + 4 * k + 2)))), some (.int (bI (aqB B bits q k))), none, some (.int (bI f9))]) hX dX9_holds_204 rfl (ltb rfl) rfl rfl ?_
                refine w_iincN (w := 1) (l2 := [some (.ref m), some (.int (nI bits)), some (.int (nI q)), some (.int (nI 1)), some (.int (nI (k + 1))), some (.int (nI (402 + 4 * k))), some (.int (nI (B (402 + 4 * k + 1)))), some (.int (nI (B (402 + 4 * k + 2)))), some (.int (bI (aqB B bits q k))), none, some (.int (bI f9))]) hX dX9_holds_205 rfl kI_1 rfl rfl ?_
                refine w_goto (tgt := 5) hX dX9_holds_208 (by decide) ?_
                refine w_sub (l2 := [some (.ref m), some (.int (nI bits)), some (.int (nI q)), some (.int (nI 1)), some (.int (nI (k + 1))), none, none, none, none, none, none]) (by simp [lsub]) (leb rfl) ?_
                refine w_locs (ls2 := [some (.ref m), some (.int (nI bits)), some (.int (nI q)), some (.int (bI (hlB B bits q mo (k + 1)))), some (.int (nI (k + 1))), none, none, none, none, none, none]) (by rw [show nI 1 = bI (hlB B bits q mo (k + 1)) from bI_1 (by simp only [hlB]; simp [hdo, haq, (hfr haq).symm.trans hf9])]) ?_
                exact ih (by omega)
        refine w_iload hX dX9_holds_101 rfl ?_
        refine wb_eq (tgt := 124) hX dX9_holds_103 (by decide) (fun haq => ?_) (fun haq => ?_)
        · refine w_iconst hX dX9_holds_124 kI_0 ?_
          refine w_istore (l2 := [some (.ref m), some (.int (nI bits)), some (.int (nI q)), some (.int (bI (hlB B bits q mo k))), some (.int (nI k)), some (.int (nI (402 + 4 * k))), some (.int (nI (B (402 + 4 * k + 1)))), some (.int (nI (B (402 + 4 * k + 2)))), some (.int (bI (aqB B bits q k))), some (.int (nI 0)), none]) hX dX9_holds_125 (ltb rfl) rfl rfl ?_
          refine w_aload_n (i := 0) hX dX9_holds_127 rfl rfl ?_
          refine w_getR (q := m + 6) hX dX9_holds_128 fo_RX9_73 rfl (mod_s hm.1.1) (mod_r10 hm.1.1) ?_
          refine w_iload hX dX9_holds_131 rfl ?_
          refine w_ialdN hX dX9_holds_133 (mod_a6 hm.1.1) (by omega) (by omega) ?_
          refine w_top (y := nI (B (402 + 4 * k))) (hm.1.2 _ (by omega)).1 ?_
          refine wn_if_ne (tgt := 159) hX dX9_holds_134 (by decide) (by first | omega | (split <;> omega)) (fun c6 => ?_) (fun c6 => ?_)
          · refine w_iload hX dX9_holds_159 rfl ?_
            refine w_aload_n (i := 0) hX dX9_holds_161 rfl rfl ?_
            refine w_getR (q := m + 6) hX dX9_holds_162 fo_RX9_73 rfl (mod_s hm.1.1) (mod_r10 hm.1.1) ?_
            refine w_iload hX dX9_holds_165 rfl ?_
            refine w_iconst hX dX9_holds_167 kI_3 ?_
            refine w_iaddN hX dX9_holds_168 ?_
            refine w_ialdN hX dX9_holds_169 (mod_a6 hm.1.1) (by omega) (by omega) ?_
            refine w_top (y := nI (B (402 + 4 * k + 3))) (hm.1.2 _ (by omega)).1 ?_
            refine w_ineg hX dX9_holds_170 ?_
            refine w_aload_n (i := 0) hX dX9_holds_171 rfl rfl ?_
            refine w_getR (q := m + 6) hX dX9_holds_172 fo_RX9_73 rfl (mod_s hm.1.1) (mod_r10 hm.1.1) ?_
            refine w_iload hX dX9_holds_175 rfl ?_
            refine w_iconst hX dX9_holds_177 kI_3 ?_
            refine w_iaddN hX dX9_holds_178 ?_
            refine w_ialdN hX dX9_holds_179 (mod_a6 hm.1.1) (by omega) (by omega) ?_
            refine w_top (y := nI (B (402 + 4 * k + 3))) (hm.1.2 _ (by omega)).1 ?_
            refine w_callSI (As := [.int (nI 0), .int (-(nI (B (402 + 4 * k + 3)))), .int (nI (B (402 + 4 * k + 3)))]) (rest := []) (k2 := 0) (n2 := 0) hX dX9_holds_180 (s_m_isIn Γ μ (nI 0) (-(nI (B (402 + 4 * k + 3)))) (nI (B (402 + 4 * k + 3)))) okX9_isIn ml_RX9_262 stX9_isIn rfl (leb rfl) (leb rfl) rfl rfl (fun r9 μ9 hq9 => ?_)
            obtain ⟨hr9, hm9⟩ := hq9; rw [hr9, hm9]; clear hr9 hm9 r9 μ9
            refine w_sub (l2 := [some (.ref m), some (.int (nI bits)), some (.int (nI q)), some (.int (bI (hlB B bits q mo k))), some (.int (nI k)), some (.int (nI (402 + 4 * k))), some (.int (nI (B (402 + 4 * k + 1)))), some (.int (nI (B (402 + 4 * k + 2)))), some (.int (bI (aqB B bits q k))), none, none]) (by simp [lsub]) (leb rfl) ?_
            exact j183 _ (fun h9 => absurd (haq.symm.trans h9) (by decide))
          · refine w_iload hX dX9_holds_137 rfl ?_
            refine w_aload_n (i := 0) hX dX9_holds_139 rfl rfl ?_
            refine w_getR (q := m + 6) hX dX9_holds_140 fo_RX9_73 rfl (mod_s hm.1.1) (mod_r10 hm.1.1) ?_
            refine w_iload hX dX9_holds_143 rfl ?_
            refine w_iconst hX dX9_holds_145 kI_3 ?_
            refine w_iaddN hX dX9_holds_146 ?_
            refine w_ialdN hX dX9_holds_147 (mod_a6 hm.1.1) (by omega) (by omega) ?_
            refine w_top (y := nI (B (402 + 4 * k + 3))) (hm.1.2 _ (by omega)).1 ?_
            refine wn_icmp_lt (tgt := 155) hX dX9_holds_148 (by decide) (by first | omega | (split <;> omega)) (by first | omega | (split <;> omega)) (fun c7 => ?_) (fun c7 => ?_)
            · refine w_iconst hX dX9_holds_155 kI_0 ?_
              refine w_goto (tgt := 183) hX dX9_holds_156 (by decide) ?_
              refine w_sub (l2 := [some (.ref m), some (.int (nI bits)), some (.int (nI q)), some (.int (bI (hlB B bits q mo k))), some (.int (nI k)), some (.int (nI (402 + 4 * k))), some (.int (nI (B (402 + 4 * k + 1)))), some (.int (nI (B (402 + 4 * k + 2)))), some (.int (bI (aqB B bits q k))), none, none]) (by simp [lsub]) (leb rfl) ?_
              refine w_top (y := bI false) rfl ?_
              exact j183 _ (fun h9 => absurd (haq.symm.trans h9) (by decide))
            · refine w_iconst hX dX9_holds_151 kI_1 ?_
              refine w_goto (tgt := 183) hX dX9_holds_152 (by decide) ?_
              refine w_sub (l2 := [some (.ref m), some (.int (nI bits)), some (.int (nI q)), some (.int (bI (hlB B bits q mo k))), some (.int (nI k)), some (.int (nI (402 + 4 * k))), some (.int (nI (B (402 + 4 * k + 1)))), some (.int (nI (B (402 + 4 * k + 2)))), some (.int (bI (aqB B bits q k))), none, none]) (by simp [lsub]) (leb rfl) ?_
              refine w_top (y := bI true) rfl ?_
              exact j183 _ (fun h9 => absurd (haq.symm.trans h9) (by decide))
        · have haq3 : (B (402 + 4 * k + 1) ≤ q ∧ tbF bits (B (402 + 4 * k + 1)) = true) ∧ (B (402 + 4 * k + 2) ≤ q ∧ tbF bits (B (402 + 4 * k + 2)) = true) := by simp only [aqB, Bool.and_eq_true, Bool.or_eq_true, decide_eq_true_eq] at haq; exact ⟨⟨haq.2.1, haq.2.2.2.1⟩, ⟨haq.2.2.1, haq.2.2.2.2⟩⟩
          have hm1 := hmb (B (402 + 4 * k + 1)) haq3.1.1; have hm2 := hmb (B (402 + 4 * k + 2)) haq3.2.1
          refine w_aload_n (i := 0) hX dX9_holds_106 rfl rfl ?_
          refine w_getR (q := m + 10) hX dX9_holds_107 fo_RX9_88 rfl (mod_s hm.1.1) (mod_r17 hm.1.1) ?_
          refine w_iload hX dX9_holds_110 rfl ?_
          refine w_ialdN hX dX9_holds_112 (mod_a10 hm.1.1) (by omega) (by omega) ?_
          refine w_top (y := nI (mo (B (402 + 4 * k + 1)))) (hmo _ haq3.1.1 haq3.1.2) ?_
          refine w_aload_n (i := 0) hX dX9_holds_113 rfl rfl ?_
          refine w_getR (q := m + 10) hX dX9_holds_114 fo_RX9_88 rfl (mod_s hm.1.1) (mod_r17 hm.1.1) ?_
          refine w_iload hX dX9_holds_117 rfl ?_
          refine w_ialdN hX dX9_holds_119 (mod_a10 hm.1.1) (by omega) (by omega) ?_
          refine w_top (y := nI (mo (B (402 + 4 * k + 2)))) (hmo _ haq3.2.1 haq3.2.2) ?_
          refine w_isub hX dX9_holds_120 ?_
          refine w_goto (tgt := 125) hX dX9_holds_121 (by decide) ?_
          refine w_istore (l2 := [some (.ref m), some (.int (nI bits)), some (.int (nI q)), some (.int (bI (hlB B bits q mo k))), some (.int (nI k)), some (.int (nI (402 + 4 * k))), some (.int (nI (B (402 + 4 * k + 1)))), some (.int (nI (B (402 + 4 * k + 2)))), some (.int (bI (aqB B bits q k))), some (.int ((nI (mo (B (402 + 4 * k + 1)))) - (nI (mo (B (402 + 4 * k + 2)))))), none]) hX dX9_holds_125 (ltb rfl) rfl rfl ?_
          refine w_aload_n (i := 0) hX dX9_holds_127 rfl rfl ?_
          refine w_getR (q := m + 6) hX dX9_holds_128 fo_RX9_73 rfl (mod_s hm.1.1) (mod_r10 hm.1.1) ?_
          refine w_iload hX dX9_holds_131 rfl ?_
          refine w_ialdN hX dX9_holds_133 (mod_a6 hm.1.1) (by omega) (by omega) ?_
          refine w_top (y := nI (B (402 + 4 * k))) (hm.1.2 _ (by omega)).1 ?_
          refine wn_if_ne (tgt := 159) hX dX9_holds_134 (by decide) (by first | omega | (split <;> omega)) (fun c8 => ?_) (fun c8 => ?_)
          · refine w_iload hX dX9_holds_159 rfl ?_
            refine w_aload_n (i := 0) hX dX9_holds_161 rfl rfl ?_
            refine w_getR (q := m + 6) hX dX9_holds_162 fo_RX9_73 rfl (mod_s hm.1.1) (mod_r10 hm.1.1) ?_
            refine w_iload hX dX9_holds_165 rfl ?_
            refine w_iconst hX dX9_holds_167 kI_3 ?_
            refine w_iaddN hX dX9_holds_168 ?_
            refine w_ialdN hX dX9_holds_169 (mod_a6 hm.1.1) (by omega) (by omega) ?_
            refine w_top (y := nI (B (402 + 4 * k + 3))) (hm.1.2 _ (by omega)).1 ?_
            refine w_ineg hX dX9_holds_170 ?_
            refine w_aload_n (i := 0) hX dX9_holds_171 rfl rfl ?_
            refine w_getR (q := m + 6) hX dX9_holds_172 fo_RX9_73 rfl (mod_s hm.1.1) (mod_r10 hm.1.1) ?_
            refine w_iload hX dX9_holds_175 rfl ?_
            refine w_iconst hX dX9_holds_177 kI_3 ?_
            refine w_iaddN hX dX9_holds_178 ?_
            refine w_ialdN hX dX9_holds_179 (mod_a6 hm.1.1) (by omega) (by omega) ?_
            refine w_top (y := nI (B (402 + 4 * k + 3))) (hm.1.2 _ (by omega)).1 ?_
            refine w_callSI (As := [.int ((nI (mo (B (402 + 4 * k + 1)))) - (nI (mo (B (402 + 4 * k + 2))))), .int (-(nI (B (402 + 4 * k + 3)))), .int (nI (B (402 + 4 * k + 3)))]) (rest := []) (k2 := 0) (n2 := 0) hX dX9_holds_180 (s_m_isIn Γ μ ((nI (mo (B (402 + 4 * k + 1)))) - (nI (mo (B (402 + 4 * k + 2))))) (-(nI (B (402 + 4 * k + 3)))) (nI (B (402 + 4 * k + 3)))) okX9_isIn ml_RX9_262 stX9_isIn rfl (leb rfl) (leb rfl) rfl rfl (fun r9 μ9 hq9 => ?_)
            obtain ⟨hr9, hm9⟩ := hq9; rw [hr9, hm9]; clear hr9 hm9 r9 μ9
            refine w_sub (l2 := [some (.ref m), some (.int (nI bits)), some (.int (nI q)), some (.int (bI (hlB B bits q mo k))), some (.int (nI k)), some (.int (nI (402 + 4 * k))), some (.int (nI (B (402 + 4 * k + 1)))), some (.int (nI (B (402 + 4 * k + 2)))), some (.int (bI (aqB B bits q k))), none, none]) (by simp [lsub]) (leb rfl) ?_
            exact j183 _ (fun _ => by rw [rl_in (by omega) (by omega) (by omega)]; unfold rlB; rw [if_pos (by omega)])
          · refine w_iload hX dX9_holds_137 rfl ?_
            refine w_aload_n (i := 0) hX dX9_holds_139 rfl rfl ?_
            refine w_getR (q := m + 6) hX dX9_holds_140 fo_RX9_73 rfl (mod_s hm.1.1) (mod_r10 hm.1.1) ?_
            refine w_iload hX dX9_holds_143 rfl ?_
            refine w_iconst hX dX9_holds_145 kI_3 ?_
            refine w_iaddN hX dX9_holds_146 ?_
            refine w_ialdN hX dX9_holds_147 (mod_a6 hm.1.1) (by omega) (by omega) ?_
            refine w_top (y := nI (B (402 + 4 * k + 3))) (hm.1.2 _ (by omega)).1 ?_
            refine wc_icmp_lt (tgt := 155) hX dX9_holds_148 (by decide) (fun c9 => ?_) (fun c9 => ?_)
            · refine w_iconst hX dX9_holds_155 kI_0 ?_
              refine w_goto (tgt := 183) hX dX9_holds_156 (by decide) ?_
              refine w_sub (l2 := [some (.ref m), some (.int (nI bits)), some (.int (nI q)), some (.int (bI (hlB B bits q mo k))), some (.int (nI k)), some (.int (nI (402 + 4 * k))), some (.int (nI (B (402 + 4 * k + 1)))), some (.int (nI (B (402 + 4 * k + 2)))), some (.int (bI (aqB B bits q k))), none, none]) (by simp [lsub]) (leb rfl) ?_
              refine w_top (y := bI false) rfl ?_
              exact j183 _ (fun _ => by unfold rlB; rw [if_neg (by omega)]; symm; exact decide_eq_false (by have := (sub_lt3 (by omega) (by omega) (by omega)).mp c9; omega))
            · refine w_iconst hX dX9_holds_151 kI_1 ?_
              refine w_goto (tgt := 183) hX dX9_holds_152 (by decide) ?_
              refine w_sub (l2 := [some (.ref m), some (.int (nI bits)), some (.int (nI q)), some (.int (bI (hlB B bits q mo k))), some (.int (nI k)), some (.int (nI (402 + 4 * k))), some (.int (nI (B (402 + 4 * k + 1)))), some (.int (nI (B (402 + 4 * k + 2)))), some (.int (bI (aqB B bits q k))), none, none]) (by simp [lsub]) (leb rfl) ?_
              refine w_top (y := bI true) rfl ?_
              exact j183 _ (fun _ => by unfold rlB; rw [if_neg (by omega)]; symm; exact decide_eq_true (by have := mt (sub_lt3 (by omega) (by omega) (by omega)).mpr (Int32.not_lt.mpr c9); omega))
      refine w_iload hX dX9_holds_50 rfl ?_
      refine w_iload_n (i := 2) hX dX9_holds_52 rfl rfl ?_
      refine wn_icmp_eq (tgt := 62) hX dX9_holds_53 (by decide) (by first | omega | (split <;> omega)) (by first | omega | (split <;> omega)) (fun c10 => ?_) (fun c10 => ?_)
      · refine w_iload hX dX9_holds_62 rfl ?_
        refine w_iload_n (i := 2) hX dX9_holds_64 rfl rfl ?_
        refine wn_icmp_gt (tgt := 98) hX dX9_holds_65 (by decide) (by first | omega | (split <;> omega)) (by first | omega | (split <;> omega)) (fun c11 => ?_) (fun c11 => ?_)
        · refine w_iconst hX dX9_holds_98 kI_0 ?_
          refine w_top (y := bI (aqB B bits q k)) (bI_2 (by
              revert c10 c11
              unfold aqB tbF; generalize B (402 + 4 * k + 1) = a9; generalize B (402 + 4 * k + 2) = b9; cases bits.testBit a9 <;> cases bits.testBit b9 <;> simp <;> (intros; omega))) ?_
          exact j99
        · refine w_iload hX dX9_holds_68 rfl ?_
          refine w_iload_n (i := 2) hX dX9_holds_70 rfl rfl ?_
          refine wn_icmp_gt (tgt := 98) hX dX9_holds_71 (by decide) (by first | omega | (split <;> omega)) (by first | omega | (split <;> omega)) (fun c12 => ?_) (fun c12 => ?_)
          · refine w_iconst hX dX9_holds_98 kI_0 ?_
            refine w_top (y := bI (aqB B bits q k)) (bI_2 (by
                revert c10 c11 c12
                unfold aqB tbF; generalize B (402 + 4 * k + 1) = a9; generalize B (402 + 4 * k + 2) = b9; cases bits.testBit a9 <;> cases bits.testBit b9 <;> simp <;> (intros; omega))) ?_
            exact j99
          · refine w_iload_n (i := 1) hX dX9_holds_74 rfl rfl ?_
            refine w_iload hX dX9_holds_75 rfl ?_
            refine w_ishr hX dX9_holds_77 ?_
            refine w_iconst hX dX9_holds_78 kI_1 ?_
            refine w_iand hX dX9_holds_79 ?_
            refine w_top (y := nI (if bits.testBit (B (402 + 4 * k + 1)) = true then 1 else 0)) (bit31 hbits (by omega)) ?_
            refine w_iconst hX dX9_holds_80 kI_1 ?_
            refine wn_icmp_ne (tgt := 98) hX dX9_holds_81 (by decide) (by first | omega | (split <;> omega)) (by first | omega | (split <;> omega)) (fun c13 => ?_) (fun c13 => ?_)
            · refine w_iconst hX dX9_holds_98 kI_0 ?_
              refine w_top (y := bI (aqB B bits q k)) (bI_2 (by
                  revert c10 c11 c12 c13
                  unfold aqB tbF; generalize B (402 + 4 * k + 1) = a9; generalize B (402 + 4 * k + 2) = b9; cases bits.testBit a9 <;> cases bits.testBit b9 <;> simp <;> (intros; omega))) ?_
              exact j99
            · refine w_iload_n (i := 1) hX dX9_holds_84 rfl rfl ?_
              refine w_iload hX dX9_holds_85 rfl ?_
              refine w_ishr hX dX9_holds_87 ?_
              refine w_iconst hX dX9_holds_88 kI_1 ?_
              refine w_iand hX dX9_holds_89 ?_
              refine w_top (y := nI (if bits.testBit (B (402 + 4 * k + 2)) = true then 1 else 0)) (bit31 hbits (by omega)) ?_
              refine w_iconst hX dX9_holds_90 kI_1 ?_
              refine wn_icmp_ne (tgt := 98) hX dX9_holds_91 (by decide) (by first | omega | (split <;> omega)) (by first | omega | (split <;> omega)) (fun c14 => ?_) (fun c14 => ?_)
              · refine w_iconst hX dX9_holds_98 kI_0 ?_
                refine w_top (y := bI (aqB B bits q k)) (bI_2 (by
                    revert c10 c11 c12 c13 c14
                    unfold aqB tbF; generalize B (402 + 4 * k + 1) = a9; generalize B (402 + 4 * k + 2) = b9; cases bits.testBit a9 <;> cases bits.testBit b9 <;> simp <;> (intros; omega))) ?_
                exact j99
              · refine w_iconst hX dX9_holds_94 kI_1 ?_
                refine w_goto (tgt := 99) hX dX9_holds_95 (by decide) ?_
                refine w_top (y := bI (aqB B bits q k)) (bI_1 (by
                    revert c10 c11 c12 c13 c14
                    unfold aqB tbF; generalize B (402 + 4 * k + 1) = a9; generalize B (402 + 4 * k + 2) = b9; cases bits.testBit a9 <;> cases bits.testBit b9 <;> simp <;> (intros; omega))) ?_
                exact j99
      · refine w_iload hX dX9_holds_56 rfl ?_
        refine w_iload_n (i := 2) hX dX9_holds_58 rfl rfl ?_
        refine wn_icmp_ne (tgt := 98) hX dX9_holds_59 (by decide) (by first | omega | (split <;> omega)) (by first | omega | (split <;> omega)) (fun c15 => ?_) (fun c15 => ?_)
        · refine w_iconst hX dX9_holds_98 kI_0 ?_
          refine w_top (y := bI (aqB B bits q k)) (bI_2 (by
              revert c10 c15
              unfold aqB tbF; generalize B (402 + 4 * k + 1) = a9; generalize B (402 + 4 * k + 2) = b9; cases bits.testBit a9 <;> cases bits.testBit b9 <;> simp <;> (intros; omega))) ?_
          exact j99
        · refine w_iload hX dX9_holds_62 rfl ?_
          refine w_iload_n (i := 2) hX dX9_holds_64 rfl rfl ?_
          refine wn_icmp_gt (tgt := 98) hX dX9_holds_65 (by decide) (by first | omega | (split <;> omega)) (by first | omega | (split <;> omega)) (fun c16 => ?_) (fun c16 => ?_)
          · refine w_iconst hX dX9_holds_98 kI_0 ?_
            refine w_top (y := bI (aqB B bits q k)) (bI_2 (by
                revert c10 c15 c16
                unfold aqB tbF; generalize B (402 + 4 * k + 1) = a9; generalize B (402 + 4 * k + 2) = b9; cases bits.testBit a9 <;> cases bits.testBit b9 <;> simp <;> (intros; omega))) ?_
            exact j99
          · refine w_iload hX dX9_holds_68 rfl ?_
            refine w_iload_n (i := 2) hX dX9_holds_70 rfl rfl ?_
            refine wn_icmp_gt (tgt := 98) hX dX9_holds_71 (by decide) (by first | omega | (split <;> omega)) (by first | omega | (split <;> omega)) (fun c17 => ?_) (fun c17 => ?_)
            · refine w_iconst hX dX9_holds_98 kI_0 ?_
              refine w_top (y := bI (aqB B bits q k)) (bI_2 (by
                  revert c10 c15 c16 c17
                  unfold aqB tbF; generalize B (402 + 4 * k + 1) = a9; generalize B (402 + 4 * k + 2) = b9; cases bits.testBit a9 <;> cases bits.testBit b9 <;> simp <;> (intros; omega))) ?_
              exact j99
            · refine w_iload_n (i := 1) hX dX9_holds_74 rfl rfl ?_
              refine w_iload hX dX9_holds_75 rfl ?_
              refine w_ishr hX dX9_holds_77 ?_
              refine w_iconst hX dX9_holds_78 kI_1 ?_
              refine w_iand hX dX9_holds_79 ?_
              refine w_top (y := nI (if bits.testBit (B (402 + 4 * k + 1)) = true then 1 else 0)) (bit31 hbits (by omega)) ?_
              refine w_iconst hX dX9_holds_80 kI_1 ?_
              refine wn_icmp_ne (tgt := 98) hX dX9_holds_81 (by decide) (by first | omega | (split <;> omega)) (by first | omega | (split <;> omega)) (fun c18 => ?_) (fun c18 => ?_)
              · refine w_iconst hX dX9_holds_98 kI_0 ?_
                refine w_top (y := bI (aqB B bits q k)) (bI_2 (by
                    revert c10 c15 c16 c17 c18
                    unfold aqB tbF; generalize B (402 + 4 * k + 1) = a9; generalize B (402 + 4 * k + 2) = b9; cases bits.testBit a9 <;> cases bits.testBit b9 <;> simp <;> (intros; omega))) ?_
                exact j99
              · refine w_iload_n (i := 1) hX dX9_holds_84 rfl rfl ?_
                refine w_iload hX dX9_holds_85 rfl ?_
                refine w_ishr hX dX9_holds_87 ?_
                refine w_iconst hX dX9_holds_88 kI_1 ?_
                refine w_iand hX dX9_holds_89 ?_
                refine w_top (y := nI (if bits.testBit (B (402 + 4 * k + 2)) = true then 1 else 0)) (bit31 hbits (by omega)) ?_
                refine w_iconst hX dX9_holds_90 kI_1 ?_
                refine wn_icmp_ne (tgt := 98) hX dX9_holds_91 (by decide) (by first | omega | (split <;> omega)) (by first | omega | (split <;> omega)) (fun c19 => ?_) (fun c19 => ?_)
                · refine w_iconst hX dX9_holds_98 kI_0 ?_
                  refine w_top (y := bI (aqB B bits q k)) (bI_2 (by
                      revert c10 c15 c16 c17 c18 c19
                      unfold aqB tbF; generalize B (402 + 4 * k + 1) = a9; generalize B (402 + 4 * k + 2) = b9; cases bits.testBit a9 <;> cases bits.testBit b9 <;> simp <;> (intros; omega))) ?_
                  exact j99
                · refine w_iconst hX dX9_holds_94 kI_1 ?_
                  refine w_goto (tgt := 99) hX dX9_holds_95 (by decide) ?_
                  refine w_top (y := bI (aqB B bits q k)) (bI_1 (by
                      revert c10 c15 c16 c17 c18 c19
                      unfold aqB tbF; generalize B (402 + 4 * k + 1) = a9; generalize B (402 + 4 * k + 2) = b9; cases bits.testBit a9 <;> cases bits.testBit b9 <;> simp <;> (intros; omega))) ?_
                  exact j99
  refine w_locs (ls2 := [some (.ref m), some (.int (nI bits)), some (.int (nI q)), some (.int (bI (hlB B bits q mo 0))), some (.int (nI 0)), none, none, none, none, none, none]) (by rfl) ?_
  exact loop 0 (Nat.zero_le _)
theorem odS {B : Nat → Nat} {v a b : Nat} (hv : VF B v = true) (h : True) : odV (VF B) (B 352) (moF B) a b v ||| rel2 (moF B a (pkb (B 352) v a)) (moF B b (pkb (B 352) v b)) = odV (VF B) (B 352) (moF B) a b (v + 1) := by
  simp only [odV]; rw [if_pos hv]
set_option maxHeartbeats 1000000 in
theorem s_m_notes (Γ : Gm) (μ : Mem) (m : Nat) (B : Nat → Nat) (hm : HM μ m B) (hW : WB B) (v : Nat) (hv4 : v < 4096) (hv : VF B v = true) (h18 : gI μ m 18 = nI (cvV (VF B) v + 1)) (hmo : ∀ a, a < B 352 → gI μ (m + 10) a = nI (moF B a (pkb (B 352) v a))) (hnt : NT μ m B v) : SpV Γ MX9_notes 1 0 0 [.ref m] μ (fun μ2 => NT μ2 m B (v + 1) ∧ same (fun o _ => o = m + 11 ∨ o = m + 12 ∨ o = m + 13) μ μ2) := by
  refine SpV.of okX9_notes rfl [some (.ref m), none, none, none] ⟨rfl, trivial⟩ (leb rfl) (leb rfl) (fun X hX hE hnm => ?_)
  refine w_iconst hX dX9_notes_0 kI_0 ?_
  refine w_istore_n (i := 1) (l2 := [some (.ref m), some (.int (nI 0)), none, none]) hX dX9_notes_1 rfl (ltb rfl) rfl rfl ?_
  have loop : ∀ a, a ≤ B 352 → ∀ ν : Mem, (same (fun o k => ((o = m + 11 ∨ o = m + 12) ∧ k < a) ∨ (o = m + 13 ∧ k < 12 * a)) μ ν) → (∀ a2, a2 < a → gI ν (m + 11) a2 = nI (lsV (VF B) (B 352) (moF B) a2 (v + 1)) ∧ gI ν (m + 12) a2 = nI (msV (VF B) (B 352) (moF B) a2 (v + 1)) ∧ ∀ b2, b2 < B 352 → gI ν (m + 13) (12 * a2 + b2) = nI (odV (VF B) (B 352) (moF B) a2 b2 (v + 1))) → WP Γ X 0 0 2 [some (.ref m), some (.int (nI a)), none, none] [] ν := by
    refine loopU (B 352) ?_
    intro a ha iha ν hsm hdm
    have hmk := hm.sm hsm (fun o k h => by omega)
    have hP12 := hW.2.2.2.2.1.1
    have hcv := cvV_le (V := VF B) v
    have hls : a < B 352 → lsV (VF B) (B 352) (moF B) a v < 2 ^ 30 ∧ msV (VF B) (B 352) (moF B) a v < 2 ^ 30 := fun h => ls_lt (fun c hc => moF_lt hW h hc) (by omega) v
    have hmb : a < B 352 → moF B a (pkb (B 352) v a) < 2 ^ 30 := fun h => moF_lt hW h pkb_lt
    refine w_iload_n (i := 1) hX dX9_notes_2 rfl rfl ?_
    refine w_aload_n (i := 0) hX dX9_notes_3 rfl rfl ?_
    refine w_callVI (As := []) (rest := [.int (nI a)]) (ci := 9) (o := m) (k2 := 0) (n2 := 0) hX dX9_notes_4 (s_m_papers Γ ν m B hmk hW) okX9_papers (ltb rfl) (mod_s hmk.1.1) ml_RX9_284 imX9_papers seX9_papers rfl (leb rfl) (leb rfl) rfl rfl (fun r9 μ9 hq9 => ?_)
    obtain ⟨hr9, hm9⟩ := hq9; rw [hr9, hm9]; clear hr9 hm9 r9 μ9
    refine wn_icmp_ge (tgt := 196) hX dX9_notes_7 (by decide) (by omega) (by omega) (fun c1 => ?_) (fun c1 => ?_)
    · exact w_vret hX hE dX9_notes_196 (Or.inl rfl) ⟨fun _ a2 ha2 => hdm a2 (by omega), hsm.up (fun o k h => by omega)⟩
    · have j53 : WP Γ X 0 0 53 [some (.ref m), some (.int (nI a)), none, none] [.int (nI (lsV (VF B) (B 352) (moF B) a (v + 1))), .int (nI a), .ref (m + 11)] ν := by
        refine w_iastN hX dX9_notes_53 (mod_a11 hmk.1.1) (by omega) (by omega) ?_
        have j97 : WP Γ X 0 0 97 [some (.ref m), some (.int (nI a)), none, none] [.int (nI (msV (VF B) (B 352) (moF B) a (v + 1))), .int (nI a), .ref (m + 12)] (sI ν (m + 11) a (nI (lsV (VF B) (B 352) (moF B) a (v + 1)))) := by
          refine w_iastN hX dX9_notes_97 (mod_a12 hmk.1.1) (by omega) (by omega) ?_
          refine w_iconst hX dX9_notes_98 kI_0 ?_
          refine w_istore_n (i := 2) (l2 := [some (.ref m), some (.int (nI a)), some (.int (nI 0)), none]) hX dX9_notes_99 rfl (ltb rfl) rfl rfl ?_
          have inl : ∀ b, b ≤ B 352 → ∀ ν1 : Mem, (same (fun o k => ((o = m + 11 ∨ o = m + 12) ∧ k < a + 1) ∨ (o = m + 13 ∧ k < 12 * a + b)) μ ν1) → (∀ b2, b2 < b → gI ν1 (m + 13) (12 * a + b2) = nI (odV (VF B) (B 352) (moF B) a b2 (v + 1))) → (gI ν1 (m + 11) a = nI (lsV (VF B) (B 352) (moF B) a (v + 1))) → (gI ν1 (m + 12) a = nI (msV (VF B) (B 352) (moF B) a (v + 1))) → (∀ a2, a2 < a → gI ν1 (m + 11) a2 = nI (lsV (VF B) (B 352) (moF B) a2 (v + 1)) ∧ gI ν1 (m + 12) a2 = nI (msV (VF B) (B 352) (moF B) a2 (v + 1)) ∧ ∀ b2, b2 < B 352 → gI ν1 (m + 13) (12 * a2 + b2) = nI (odV (VF B) (B 352) (moF B) a2 b2 (v + 1))) → WP Γ X 0 0 100 [some (.ref m), some (.int (nI a)), some (.int (nI b)), none] [] ν1 := by
            refine loopU (B 352) ?_
            intro b hb ihb ν1 hsn hd hl1 hl2 hdn
            have hm1 := hm.sm hsn (fun o k h => by omega)
            have hmb2 : b < B 352 → moF B b (pkb (B 352) v b) < 2 ^ 30 := fun h => moF_lt hW h pkb_lt
            have hod := odV_lt (V := VF B) (n := B 352) (a := a) (b := b) (mo := moF B) v
            refine w_iload_n (i := 2) hX dX9_notes_100 rfl rfl ?_
            refine w_aload_n (i := 0) hX dX9_notes_101 rfl rfl ?_
            refine w_callVI (As := []) (rest := [.int (nI b)]) (ci := 9) (o := m) (k2 := 0) (n2 := 0) hX dX9_notes_102 (s_m_papers Γ ν1 m B hm1 hW) okX9_papers (ltb rfl) (mod_s hm1.1.1) ml_RX9_284 imX9_papers seX9_papers rfl (leb rfl) (leb rfl) rfl rfl (fun r9 μ9 hq9 => ?_)
            obtain ⟨hr9, hm9⟩ := hq9; rw [hr9, hm9]; clear hr9 hm9 r9 μ9
            refine wn_icmp_ge (tgt := 190) hX dX9_notes_105 (by decide) (by omega) (by omega) (fun c2 => ?_) (fun c2 => ?_)
            · refine w_iincN (w := 1) (l2 := [some (.ref m), some (.int (nI (a + 1))), some (.int (nI b)), none]) hX dX9_notes_190 rfl kI_1 rfl rfl ?_
              refine w_goto (tgt := 2) hX dX9_notes_193 (by decide) ?_
              refine w_sub (l2 := [some (.ref m), some (.int (nI (a + 1))), none, none]) (by simp [lsub]) (leb rfl) ?_
              refine iha (by omega) _ (hsn.up (fun o k h => by omega)) (fun a2 ha2 => ?_)
              by_cases e : a2 = a
              · subst e; exact ⟨hl1, hl2, fun b2 hb2 => hd b2 (by omega)⟩
              · exact hdn a2 (by omega)
            · have j147 : WP Γ X 0 0 147 [some (.ref m), some (.int (nI a)), some (.int (nI b)), none] [.int (nI (rel2 (moF B a (pkb (B 352) v a)) (moF B b (pkb (B 352) v b))))] ν1 := by
                refine w_istore_n (i := 3) (l2 := [some (.ref m), some (.int (nI a)), some (.int (nI b)), some (.int (nI (rel2 (moF B a (pkb (B 352) v a)) (moF B b (pkb (B 352) v b)))))]) hX dX9_notes_147 rfl (ltb rfl) rfl rfl ?_
                refine w_aload_n (i := 0) hX dX9_notes_148 rfl rfl ?_
                refine w_getR (q := m + 13) hX dX9_notes_149 fo_RX9_97 rfl (mod_s hm1.1.1) (mod_r22 hm1.1.1) ?_
                have j183 : WP Γ X 0 0 183 [some (.ref m), some (.int (nI a)), some (.int (nI b)), some (.int (nI (rel2 (moF B a (pkb (B 352) v a)) (moF B b (pkb (B 352) v b)))))] [.int (nI (odV (VF B) (B 352) (moF B) a b v ||| rel2 (moF B a (pkb (B 352) v a)) (moF B b (pkb (B 352) v b)))), .int (nI (12 * a + b)), .ref (m + 13)] ν1 := by
                  refine w_iastN hX dX9_notes_183 (mod_a13 hm1.1.1) (by omega) (by omega) ?_
                  refine w_iincN (w := 1) (l2 := [some (.ref m), some (.int (nI a)), some (.int (nI (b + 1))), some (.int (nI (rel2 (moF B a (pkb (B 352) v a)) (moF B b (pkb (B 352) v b)))))]) hX dX9_notes_184 rfl kI_1 rfl rfl ?_
                  refine w_goto (tgt := 100) hX dX9_notes_187 (by decide) ?_
                  refine w_sub (l2 := [some (.ref m), some (.int (nI a)), some (.int (nI (b + 1))), none]) (by simp [lsub]) (leb rfl) ?_
                  refine ihb (by omega) _ ((hsn.up (fun o k h => by omega)).sI (Or.inr ⟨rfl, by omega⟩)) (fun b2 hb2 => ?_) ?_ ?_ ?_
                  · by_cases e : b2 = b
                    · rw [e, gI_same, odS hv trivial]
                    · rw [gI_nk (by omega)]; exact hd b2 (by omega)
                  · rw [gI_no (by omega)]; exact hl1
                  · rw [gI_no (by omega)]; exact hl2
                  · intro a2 ha2; rw [gI_no (by omega), gI_no (by omega)]; exact ⟨(hdn a2 ha2).1, (hdn a2 ha2).2.1, fun b2 hb2 => by rw [gI_nk (by omega)]; exact (hdn a2 ha2).2.2 b2 hb2⟩
                refine w_bipush hX dX9_notes_152 kB_12 ?_
                refine w_iload_n (i := 1) hX dX9_notes_154 rfl rfl ?_
                refine w_imulN hX dX9_notes_155 ?_
                refine w_iload_n (i := 2) hX dX9_notes_156 rfl rfl ?_
                refine w_iaddN hX dX9_notes_157 ?_
                refine w_aload_n (i := 0) hX dX9_notes_158 rfl rfl ?_
                refine w_getI hX dX9_notes_159 fo_RX9_293 rfl (mod_s hm1.1.1) ?_
                refine w_top (y := nI (cvV (VF B) v + 1)) (by rw [((hsn).2.2 _ _ (fun h => by omega)).1]; exact h18) ?_
                refine w_iconst hX dX9_notes_162 kI_1 ?_
                refine wn_icmp_ne (tgt := 170) hX dX9_notes_163 (by decide) (by omega) (by omega) (fun c3 => ?_) (fun c3 => ?_)
                · refine w_aload_n (i := 0) hX dX9_notes_170 rfl rfl ?_
                  refine w_getR (q := m + 13) hX dX9_notes_171 fo_RX9_97 rfl (mod_s hm1.1.1) (mod_r22 hm1.1.1) ?_
                  refine w_bipush hX dX9_notes_174 kB_12 ?_
                  refine w_iload_n (i := 1) hX dX9_notes_176 rfl rfl ?_
                  refine w_imulN hX dX9_notes_177 ?_
                  refine w_iload_n (i := 2) hX dX9_notes_178 rfl rfl ?_
                  refine w_iaddN hX dX9_notes_179 ?_
                  refine w_ialdN hX dX9_notes_180 (mod_a13 hm1.1.1) (by omega) (by omega) ?_
                  refine w_top (y := nI (odV (VF B) (B 352) (moF B) a b v)) (by rw [(hsn.2.2 _ _ (fun h => by omega)).1]; exact (hnt (by omega) a (by omega)).2.2 b (by omega)) ?_
                  refine w_iload_n (i := 3) hX dX9_notes_181 rfl rfl ?_
                  refine w_ior hX dX9_notes_182 ?_
                  refine w_top (y := nI (odV (VF B) (B 352) (moF B) a b v ||| rel2 (moF B a (pkb (B 352) v a)) (moF B b (pkb (B 352) v b)))) (fa_or _ _) ?_
                  refine w_top (y := nI (odV (VF B) (B 352) (moF B) a b v ||| rel2 (moF B a (pkb (B 352) v a)) (moF B b (pkb (B 352) v b)))) (rfl) ?_
                  exact j183
                · refine w_iload_n (i := 3) hX dX9_notes_166 rfl rfl ?_
                  refine w_goto (tgt := 183) hX dX9_notes_167 (by decide) ?_
                  refine w_top (y := nI (odV (VF B) (B 352) (moF B) a b v ||| rel2 (moF B a (pkb (B 352) v a)) (moF B b (pkb (B 352) v b)))) (by rw [odV_0 v (by omega), Nat.zero_or]) ?_
                  exact j183
              refine w_aload_n (i := 0) hX dX9_notes_108 rfl rfl ?_
              refine w_getR (q := m + 10) hX dX9_notes_109 fo_RX9_88 rfl (mod_s hm1.1.1) (mod_r17 hm1.1.1) ?_
              refine w_iload_n (i := 1) hX dX9_notes_112 rfl rfl ?_
              refine w_ialdN hX dX9_notes_113 (mod_a10 hm1.1.1) (by omega) (by omega) ?_
              refine w_top (y := nI (moF B a (pkb (B 352) v a))) (by rw [((hsn).2.2 _ _ (fun h => by omega)).1]; exact hmo a (by omega)) ?_
              refine w_aload_n (i := 0) hX dX9_notes_114 rfl rfl ?_
              refine w_getR (q := m + 10) hX dX9_notes_115 fo_RX9_88 rfl (mod_s hm1.1.1) (mod_r17 hm1.1.1) ?_
              refine w_iload_n (i := 2) hX dX9_notes_118 rfl rfl ?_
              refine w_ialdN hX dX9_notes_119 (mod_a10 hm1.1.1) (by omega) (by omega) ?_
              refine w_top (y := nI (moF B b (pkb (B 352) v b))) (by rw [((hsn).2.2 _ _ (fun h => by omega)).1]; exact hmo b (by omega)) ?_
              refine wn_icmp_ge (tgt := 127) hX dX9_notes_120 (by decide) (by omega) (by omega) (fun c4 => ?_) (fun c4 => ?_)
              · refine w_aload_n (i := 0) hX dX9_notes_127 rfl rfl ?_
                refine w_getR (q := m + 10) hX dX9_notes_128 fo_RX9_88 rfl (mod_s hm1.1.1) (mod_r17 hm1.1.1) ?_
                refine w_iload_n (i := 1) hX dX9_notes_131 rfl rfl ?_
                refine w_ialdN hX dX9_notes_132 (mod_a10 hm1.1.1) (by omega) (by omega) ?_
                refine w_top (y := nI (moF B a (pkb (B 352) v a))) (by rw [((hsn).2.2 _ _ (fun h => by omega)).1]; exact hmo a (by omega)) ?_
                refine w_aload_n (i := 0) hX dX9_notes_133 rfl rfl ?_
                refine w_getR (q := m + 10) hX dX9_notes_134 fo_RX9_88 rfl (mod_s hm1.1.1) (mod_r17 hm1.1.1) ?_
                refine w_iload_n (i := 2) hX dX9_notes_137 rfl rfl ?_
                refine w_ialdN hX dX9_notes_138 (mod_a10 hm1.1.1) (by omega) (by omega) ?_
                refine w_top (y := nI (moF B b (pkb (B 352) v b))) (by rw [((hsn).2.2 _ _ (fun h => by omega)).1]; exact hmo b (by omega)) ?_
                refine wn_icmp_ne (tgt := 146) hX dX9_notes_139 (by decide) (by omega) (by omega) (fun c5 => ?_) (fun c5 => ?_)
                · refine w_iconst hX dX9_notes_146 kI_4 ?_
                  refine w_top (y := nI (rel2 (moF B a (pkb (B 352) v a)) (moF B b (pkb (B 352) v b)))) (congrArg nI (by unfold rel2; first | rw [if_pos (by omega)] | rw [if_neg (by omega), if_pos (by omega)] | rw [if_neg (by omega), if_neg (by omega)])) ?_
                  exact j147
                · refine w_iconst hX dX9_notes_142 kI_2 ?_
                  refine w_goto (tgt := 147) hX dX9_notes_143 (by decide) ?_
                  refine w_top (y := nI (rel2 (moF B a (pkb (B 352) v a)) (moF B b (pkb (B 352) v b)))) (congrArg nI (by unfold rel2; first | rw [if_pos (by omega)] | rw [if_neg (by omega), if_pos (by omega)] | rw [if_neg (by omega), if_neg (by omega)])) ?_
                  exact j147
              · refine w_iconst hX dX9_notes_123 kI_1 ?_
                refine w_goto (tgt := 147) hX dX9_notes_124 (by decide) ?_
                refine w_top (y := nI (rel2 (moF B a (pkb (B 352) v a)) (moF B b (pkb (B 352) v b)))) (congrArg nI (by unfold rel2; first | rw [if_pos (by omega)] | rw [if_neg (by omega), if_pos (by omega)] | rw [if_neg (by omega), if_neg (by omega)])) ?_
                exact j147
          exact inl 0 (Nat.zero_le _) (sI ((sI ν (m + 11) a (nI (lsV (VF B) (B 352) (moF B) a (v + 1))))) (m + 12) a (nI (msV (VF B) (B 352) (moF B) a (v + 1)))) (((hsm.up (fun o k h => by omega)).sI (Or.inl ⟨Or.inl rfl, by omega⟩)).sI (Or.inl ⟨Or.inr rfl, by omega⟩)) (fun b2 hb2 => absurd hb2 (Nat.not_lt_zero _)) (by rw [gI_no (by omega), gI_same]) gI_same (fun a2 ha2 => by rw [gI_no (by omega), gI_nk (by omega), gI_nk (by omega), gI_no (by omega)]; exact ⟨(hdm a2 ha2).1, (hdm a2 ha2).2.1, fun b2 hb2 => by rw [gI_no (by omega), gI_no (by omega)]; exact (hdm a2 ha2).2.2 b2 hb2⟩)
        refine w_aload_n (i := 0) hX dX9_notes_54 rfl rfl ?_
        refine w_getR (q := m + 12) hX dX9_notes_55 fo_RX9_94 rfl (mod_s hmk.1.1) (mod_r21 hmk.1.1) ?_
        refine w_iload_n (i := 1) hX dX9_notes_58 rfl rfl ?_
        refine w_aload_n (i := 0) hX dX9_notes_59 rfl rfl ?_
        refine w_getI hX dX9_notes_60 fo_RX9_293 rfl (mod_s hmk.1.1) ?_
        refine w_top (y := nI (cvV (VF B) v + 1)) (by rw [gI_no (by omega)]; rw [((hsm).2.2 _ _ (fun h => by omega)).1]; exact h18) ?_
        refine w_iconst hX dX9_notes_63 kI_1 ?_
        refine wn_icmp_eq (tgt := 82) hX dX9_notes_64 (by decide) (by omega) (by omega) (fun c6 => ?_) (fun c6 => ?_)
        · refine w_aload_n (i := 0) hX dX9_notes_82 rfl rfl ?_
          refine w_getR (q := m + 10) hX dX9_notes_83 fo_RX9_88 rfl (mod_s hmk.1.1) (mod_r17 hmk.1.1) ?_
          refine w_iload_n (i := 1) hX dX9_notes_86 rfl rfl ?_
          refine w_ialdN hX dX9_notes_87 (mod_a10 hmk.1.1) (by omega) (by omega) ?_
          refine w_top (y := nI (moF B a (pkb (B 352) v a))) (by rw [gI_no (by omega)]; rw [((hsm).2.2 _ _ (fun h => by omega)).1]; exact hmo a (by omega)) ?_
          refine w_goto (tgt := 97) hX dX9_notes_88 (by decide) ?_
          refine w_top (y := nI (msV (VF B) (B 352) (moF B) a (v + 1))) (congrArg nI (by simp only [msV]; rw [if_pos hv, if_pos (by omega)])) ?_
          exact j97
        · refine w_aload_n (i := 0) hX dX9_notes_67 rfl rfl ?_
          refine w_getR (q := m + 10) hX dX9_notes_68 fo_RX9_88 rfl (mod_s hmk.1.1) (mod_r17 hmk.1.1) ?_
          refine w_iload_n (i := 1) hX dX9_notes_71 rfl rfl ?_
          refine w_ialdN hX dX9_notes_72 (mod_a10 hmk.1.1) (by omega) (by omega) ?_
          refine w_top (y := nI (moF B a (pkb (B 352) v a))) (by rw [gI_no (by omega)]; rw [((hsm).2.2 _ _ (fun h => by omega)).1]; exact hmo a (by omega)) ?_
          refine w_aload_n (i := 0) hX dX9_notes_73 rfl rfl ?_
          refine w_getR (q := m + 12) hX dX9_notes_74 fo_RX9_94 rfl (mod_s hmk.1.1) (mod_r21 hmk.1.1) ?_
          refine w_iload_n (i := 1) hX dX9_notes_77 rfl rfl ?_
          refine w_ialdN hX dX9_notes_78 (mod_a12 hmk.1.1) (by omega) (by omega) ?_
          refine w_top (y := nI (msV (VF B) (B 352) (moF B) a v)) (by rw [gI_no (by omega)]; rw [((hsm).2.2 _ _ (fun h => by omega)).1]; exact (hnt (by omega) a (by omega)).2.1) ?_
          refine wn_icmp_le (tgt := 91) hX dX9_notes_79 (by decide) (by omega) (by omega) (fun c7 => ?_) (fun c7 => ?_)
          · refine w_aload_n (i := 0) hX dX9_notes_91 rfl rfl ?_
            refine w_getR (q := m + 12) hX dX9_notes_92 fo_RX9_94 rfl (mod_s hmk.1.1) (mod_r21 hmk.1.1) ?_
            refine w_iload_n (i := 1) hX dX9_notes_95 rfl rfl ?_
            refine w_ialdN hX dX9_notes_96 (mod_a12 hmk.1.1) (by omega) (by omega) ?_
            refine w_top (y := nI (msV (VF B) (B 352) (moF B) a v)) (by rw [gI_no (by omega)]; rw [((hsm).2.2 _ _ (fun h => by omega)).1]; exact (hnt (by omega) a (by omega)).2.1) ?_
            refine w_top (y := nI (msV (VF B) (B 352) (moF B) a (v + 1))) (congrArg nI (by simp only [msV]; rw [if_pos hv, if_neg (by omega)])) ?_
            exact j97
          · refine w_aload_n (i := 0) hX dX9_notes_82 rfl rfl ?_
            refine w_getR (q := m + 10) hX dX9_notes_83 fo_RX9_88 rfl (mod_s hmk.1.1) (mod_r17 hmk.1.1) ?_
            refine w_iload_n (i := 1) hX dX9_notes_86 rfl rfl ?_
            refine w_ialdN hX dX9_notes_87 (mod_a10 hmk.1.1) (by omega) (by omega) ?_
            refine w_top (y := nI (moF B a (pkb (B 352) v a))) (by rw [gI_no (by omega)]; rw [((hsm).2.2 _ _ (fun h => by omega)).1]; exact hmo a (by omega)) ?_
            refine w_goto (tgt := 97) hX dX9_notes_88 (by decide) ?_
            refine w_top (y := nI (msV (VF B) (B 352) (moF B) a (v + 1))) (congrArg nI (by simp only [msV]; rw [if_pos hv, if_pos (by omega)])) ?_
            exact j97
      refine w_aload_n (i := 0) hX dX9_notes_10 rfl rfl ?_
      refine w_getR (q := m + 11) hX dX9_notes_11 fo_RX9_91 rfl (mod_s hmk.1.1) (mod_r20 hmk.1.1) ?_
      refine w_iload_n (i := 1) hX dX9_notes_14 rfl rfl ?_
      refine w_aload_n (i := 0) hX dX9_notes_15 rfl rfl ?_
      refine w_getI hX dX9_notes_16 fo_RX9_293 rfl (mod_s hmk.1.1) ?_
      refine w_top (y := nI (cvV (VF B) v + 1)) (by rw [((hsm).2.2 _ _ (fun h => by omega)).1]; exact h18) ?_
      refine w_iconst hX dX9_notes_19 kI_1 ?_
      refine wn_icmp_eq (tgt := 38) hX dX9_notes_20 (by decide) (by omega) (by omega) (fun c8 => ?_) (fun c8 => ?_)
      · refine w_aload_n (i := 0) hX dX9_notes_38 rfl rfl ?_
        refine w_getR (q := m + 10) hX dX9_notes_39 fo_RX9_88 rfl (mod_s hmk.1.1) (mod_r17 hmk.1.1) ?_
        refine w_iload_n (i := 1) hX dX9_notes_42 rfl rfl ?_
        refine w_ialdN hX dX9_notes_43 (mod_a10 hmk.1.1) (by omega) (by omega) ?_
        refine w_top (y := nI (moF B a (pkb (B 352) v a))) (by rw [((hsm).2.2 _ _ (fun h => by omega)).1]; exact hmo a (by omega)) ?_
        refine w_goto (tgt := 53) hX dX9_notes_44 (by decide) ?_
        refine w_top (y := nI (lsV (VF B) (B 352) (moF B) a (v + 1))) (congrArg nI (by simp only [lsV]; rw [if_pos hv, if_pos (by omega)])) ?_
        exact j53
      · refine w_aload_n (i := 0) hX dX9_notes_23 rfl rfl ?_
        refine w_getR (q := m + 10) hX dX9_notes_24 fo_RX9_88 rfl (mod_s hmk.1.1) (mod_r17 hmk.1.1) ?_
        refine w_iload_n (i := 1) hX dX9_notes_27 rfl rfl ?_
        refine w_ialdN hX dX9_notes_28 (mod_a10 hmk.1.1) (by omega) (by omega) ?_
        refine w_top (y := nI (moF B a (pkb (B 352) v a))) (by rw [((hsm).2.2 _ _ (fun h => by omega)).1]; exact hmo a (by omega)) ?_
        refine w_aload_n (i := 0) hX dX9_notes_29 rfl rfl ?_
        refine w_getR (q := m + 11) hX dX9_notes_30 fo_RX9_91 rfl (mod_s hmk.1.1) (mod_r20 hmk.1.1) ?_
        refine w_iload_n (i := 1) hX dX9_notes_33 rfl rfl ?_
        refine w_ialdN hX dX9_notes_34 (mod_a11 hmk.1.1) (by omega) (by omega) ?_
        refine w_top (y := nI (lsV (VF B) (B 352) (moF B) a v)) (by rw [((hsm).2.2 _ _ (fun h => by omega)).1]; exact (hnt (by omega) a (by omega)).1) ?_
        refine wn_icmp_ge (tgt := 47) hX dX9_notes_35 (by decide) (by omega) (by omega) (fun c9 => ?_) (fun c9 => ?_)
        · refine w_aload_n (i := 0) hX dX9_notes_47 rfl rfl ?_
          refine w_getR (q := m + 11) hX dX9_notes_48 fo_RX9_91 rfl (mod_s hmk.1.1) (mod_r20 hmk.1.1) ?_
          refine w_iload_n (i := 1) hX dX9_notes_51 rfl rfl ?_
          refine w_ialdN hX dX9_notes_52 (mod_a11 hmk.1.1) (by omega) (by omega) ?_
          refine w_top (y := nI (lsV (VF B) (B 352) (moF B) a v)) (by rw [((hsm).2.2 _ _ (fun h => by omega)).1]; exact (hnt (by omega) a (by omega)).1) ?_
          refine w_top (y := nI (lsV (VF B) (B 352) (moF B) a (v + 1))) (congrArg nI (by simp only [lsV]; rw [if_pos hv, if_neg (by omega)])) ?_
          exact j53
        · refine w_aload_n (i := 0) hX dX9_notes_38 rfl rfl ?_
          refine w_getR (q := m + 10) hX dX9_notes_39 fo_RX9_88 rfl (mod_s hmk.1.1) (mod_r17 hmk.1.1) ?_
          refine w_iload_n (i := 1) hX dX9_notes_42 rfl rfl ?_
          refine w_ialdN hX dX9_notes_43 (mod_a10 hmk.1.1) (by omega) (by omega) ?_
          refine w_top (y := nI (moF B a (pkb (B 352) v a))) (by rw [((hsm).2.2 _ _ (fun h => by omega)).1]; exact hmo a (by omega)) ?_
          refine w_goto (tgt := 53) hX dX9_notes_44 (by decide) ?_
          refine w_top (y := nI (lsV (VF B) (B 352) (moF B) a (v + 1))) (congrArg nI (by simp only [lsV]; rw [if_pos hv, if_pos (by omega)])) ?_
          exact j53
  exact loop 0 (Nat.zero_le _) μ same.rf (fun a ha => absurd ha (Nat.not_lt_zero _))
def TQ (m : Nat) (B : Nat → Nat) (bits : Nat) (ask : Option Nat) (q u : Nat) (μ : Mem) (r : Int32) (μ2 : Mem) : Prop := same (ST m) μ μ2 ∧ ((r = bI false ∧ TP μ2 m B bits ask ((u + 1) * 2 ^ (szB B bits - cvV (tbF bits) q)) ∧ ∀ t, t < q → gI μ2 (m + 10) t = gI μ (m + 10) t) ∨ (r = bI true ∧ ∃ x, u * 2 ^ (szB B bits - cvV (tbF bits) q) ≤ x ∧ x < (u + 1) * 2 ^ (szB B bits - cvV (tbF bits) q) ∧ VS B bits x = true ∧ ask = some (cvV (VS B bits) x) ∧ MOQ μ2 m B bits (B 352) (szB B bits) x))
def TH (m : Nat) (B : Nat → Nat) (bits : Nat) (ask : Option Nat) (q u : Nat) (μ : Mem) : Prop := HM μ m B ∧ TP μ m B bits ask (u * 2 ^ (szB B bits - cvV (tbF bits) q)) ∧ MOQ μ m B bits q (cvV (tbF bits) q) u ∧ gdP (clB B) (meB B bits) (cvV (tbF bits) q) u = true ∧ u < 2 ^ cvV (tbF bits) q
set_option maxHeartbeats 1000000 in
theorem s_m_tries0 (Γ : Gm) (μ : Mem) (m : Nat) (B : Nat → Nat) (hm : HM μ m B) (hW : WB B) (bits u : Nat) (ask : Option Nat) (hT : TP μ m B bits ask u) (hM : MOQ μ m B bits (B 352) (szB B bits) u) (hV : VS B bits u = true) (hu : u < 2 ^ szB B bits) : SpI Γ MX9_tries 3 0 0 [.ref m, .int (nI bits), .int (nI (B 352))] μ (fun r μ2 => same (ST m) μ μ2 ∧ ((r = bI false ∧ TP μ2 m B bits ask (u + 1) ∧ ∀ t, t < B 352 → gI μ2 (m + 10) t = gI μ (m + 10) t) ∨ (r = bI true ∧ ∃ x, u ≤ x ∧ x < u + 1 ∧ VS B bits x = true ∧ ask = some (cvV (VS B bits) x) ∧ MOQ μ2 m B bits (B 352) (szB B bits) x))) := by
  refine SpI.of okX9_tries rfl [some (.ref m), some (.int (nI bits)), some (.int (nI (B 352))), none, none, none, none] ⟨rfl, rfl, rfl, trivial⟩ (leb rfl) (leb rfl) (fun X hX hE hnm => ?_)
  have hP12 := hW.2.2.2.2.1.1
  have hsz := szB_le (bits := bits) hW
  have h4096 := p12 hsz
  have hcv := cvV_le (V := VS B bits) u
  have hu4 : u < 4096 := Nat.lt_of_lt_of_le hu h4096
  refine w_iload_n (i := 2) hX dX9_tries_0 rfl rfl ?_
  refine w_aload_n (i := 0) hX dX9_tries_1 rfl rfl ?_
  refine w_callVI (As := []) (rest := [.int (nI (B 352))]) (ci := 9) (o := m) (k2 := 0) (n2 := 0) hX dX9_tries_2 (s_m_papers Γ μ m B hm hW) okX9_papers (ltb rfl) (mod_s hm.1.1) ml_RX9_284 imX9_papers seX9_papers rfl (leb rfl) (leb rfl) rfl rfl (fun r9 μ9 hq9 => ?_)
  obtain ⟨hr9, hm9⟩ := hq9; rw [hr9, hm9]; clear hr9 hm9 r9 μ9
  refine wn_icmp_ne (tgt := 39) hX dX9_tries_5 (by decide) (by omega) (by omega) (fun c1 => ?_) (fun c1 => ?_)
  · exact absurd c1 (by omega)
  · refine w_aload_n (i := 0) hX dX9_tries_8 rfl rfl ?_
    refine w_dup hX dX9_tries_9 rfl ?_
    refine w_getI hX dX9_tries_10 fo_RX9_293 rfl (mod_s hm.1.1) ?_
    refine w_top (y := nI (cvV (VS B bits) u)) hT.1 ?_
    refine w_iconst hX dX9_tries_13 kI_1 ?_
    refine w_iaddN hX dX9_tries_14 ?_
    refine w_putI hX dX9_tries_15 fo_RX9_293 rfl rfl rfl rfl (mod_s hm.1.1) ?_
    refine w_aload_n (i := 0) hX dX9_tries_18 rfl rfl ?_
    refine w_getI hX dX9_tries_19 fo_RX9_293 rfl (mod_s hm.1.1) ?_
    refine w_top (y := nI (cvV (VS B bits) u + 1)) gI_same ?_
    refine w_iconst hX dX9_tries_22 kI_1 ?_
    refine w_isubN hX dX9_tries_23 (by omega) ?_
    refine w_aload_n (i := 0) hX dX9_tries_24 rfl rfl ?_
    refine w_getI hX dX9_tries_25 fo_RX9_296 rfl (mod_s hm.1.1) ?_
    refine w_top (y := oI ask) (by rw [gI_nk (by omega)]; exact hT.2.1) ?_
    refine wc_icmp_ne (tgt := 33) hX dX9_tries_28 (by decide) (fun c2 => ?_) (fun c2 => ?_)
    · have hne : ¬ some (cvV (VS B bits) u) = ask := fun e => by have e2 := (oI_nI (d := cvV (VS B bits) u) (a := ask) (by omega) (fun v h => (hT.2.2.1 v h).2)).mpr e; exact c2 (by rw [Nat.add_sub_cancel]; exact e2)
      have hF : bits = FB B := by rcases hT.2.2.2.1 with h | h; (exact h); have h9 := (hT.2.2.1 0 h).1; exact absurd (by rw [h]; congr 1; omega) hne
      subst hF
      refine w_aload_n (i := 0) hX dX9_tries_33 rfl rfl ?_
      refine w_callVV (As := []) (rest := []) (ci := 9) (o := m) (k2 := 0) (n2 := 0) hX dX9_tries_34 (s_m_notes Γ (sI μ m 18 (nI (cvV (VS B (FB B)) u + 1))) m B (hm.f (by omega)) hW u hu4 hV gI_same (fun a ha => by rw [gI_no (by omega), hM a ha (by unfold tbF; rw [FB_tb]; simp [ha]), moq_F ha]) (fun h0 a ha => by have h9 := hT.2.2.2.2 rfl h0 a ha; rw [gI_no (by omega), gI_no (by omega)]; exact ⟨h9.1, h9.2.1, fun b hb => by rw [gI_no (by omega)]; exact h9.2.2 b hb⟩)) okX9_notes (ltb rfl) (mod_s hm.1.1) ml_RX9_299 imX9_notes seX9_notes rfl (leb rfl) (leb rfl) rfl rfl (fun ν hq9 => ?_)
      obtain ⟨hn, hs⟩ := hq9
      refine w_iconst hX dX9_tries_37 kI_0 ?_
      refine w_iret hX hE dX9_tries_38 (Or.inl rfl) rfl ⟨(same.rf.sI (Or.inr (Or.inr (Or.inr (Or.inr ⟨rfl, rfl⟩))))).tr (hs.up (fun o k h => by unfold ST; omega)), Or.inl ⟨rfl, ⟨?_, ?_, fun a ha => ⟨?_, (hT.2.2.1 a ha).2⟩, Or.inl rfl, fun _ => hn⟩, fun t ht => by rw [(hs.2.2 _ _ (fun h => by omega)).1, gI_no (by omega)]⟩⟩
      · rw [(hs.2.2 _ _ (fun h => by omega)).1, gI_same]; congr 1; show _ = cvV (VS B (FB B)) u + _; rw [if_pos hV]
      · rw [(hs.2.2 _ _ (fun h => by omega)).1, gI_nk (by omega)]; exact hT.2.1
      · have h9 := (hT.2.2.1 a ha).1; show cvV (VS B (FB B)) u + _ ≤ a; rw [if_pos hV]; by_cases e : cvV (VS B (FB B)) u = a; (exact absurd (by rw [ha, e]) hne); omega
    · refine w_iconst hX dX9_tries_31 kI_1 ?_
      refine w_iret hX hE dX9_tries_32 (Or.inl rfl) rfl ⟨same.rf.sI (Or.inr (Or.inr (Or.inr (Or.inr ⟨rfl, rfl⟩)))), Or.inr ⟨rfl, u, Nat.le_refl _, by omega, hV, ?_, fun t ht h => by rw [gI_no (by omega)]; exact hM t ht h⟩⟩
      exact ((oI_nI (d := cvV (VS B bits) u) (a := ask) (by omega) (fun v h => (hT.2.2.1 v h).2)).mp (by rw [Nat.add_sub_cancel] at c2; exact c2)).symm
set_option maxHeartbeats 1000000 in
theorem s_m_tries1 (Γ : Gm) (μ : Mem) (m : Nat) (B : Nat → Nat) (hm : HM μ m B) (hW : WB B) (bits q u : Nat) (ask : Option Nat) (hbits : bits < 2 ^ 31) (hq : q < B 352) (d9 : Nat) (hd9 : 3 ≤ d9) (ih : ∀ μ u, TH m B bits ask (q + 1) u μ → SpI Γ MX9_tries d9 0 0 [.ref m, .int (nI bits), .int (nI (q + 1))] μ (TQ m B bits ask (q + 1) u μ)) (hT : TP μ m B bits ask (u * 2 ^ (szB B bits - cvV (tbF bits) q))) (hM : MOQ μ m B bits q (cvV (tbF bits) q) u) (hg : gdP (clB B) (meB B bits) (cvV (tbF bits) q) u = true) (hu : u < 2 ^ cvV (tbF bits) q) : SpI Γ MX9_tries (d9 + 1) 0 0 [.ref m, .int (nI bits), .int (nI q)] μ (fun r μ2 => TQ m B bits ask q u μ r μ2) := by
  refine SpI.of okX9_tries rfl [some (.ref m), some (.int (nI bits)), some (.int (nI q)), none, none, none, none] ⟨rfl, rfl, rfl, trivial⟩ (leb rfl) (leb rfl) (fun X hX hE hnm => ?_)
  have hP12 := hW.2.2.2.2.1.1
  have hB0 := hW.1.1
  have hpp : ptw B q < B 0 ∧ B (353 + 4 * q + 1) ≤ 3649 ∧ B (353 + 4 * q + 2) ≤ 1439 ∧ pwh B q ≤ 2 := hW.2.2.2.2.1.2 q hq
  have hpt : ptm B q = B (353 + 4 * q + 1) * 1440 + B (353 + 4 * q + 2) := rfl
  refine w_iload_n (i := 2) hX dX9_tries_0 rfl rfl ?_
  refine w_aload_n (i := 0) hX dX9_tries_1 rfl rfl ?_
  refine w_callVI (As := []) (rest := [.int (nI q)]) (ci := 9) (o := m) (k2 := 0) (n2 := 0) hX dX9_tries_2 (s_m_papers Γ μ m B hm hW) okX9_papers (ltb rfl) (mod_s hm.1.1) ml_RX9_284 imX9_papers seX9_papers rfl (by omega) (leb rfl) rfl rfl (fun r9 μ9 hq9 => ?_)
  obtain ⟨hr9, hm9⟩ := hq9; rw [hr9, hm9]; clear hr9 hm9 r9 μ9
  refine wn_icmp_ne (tgt := 39) hX dX9_tries_5 (by decide) (by first | omega | (split <;> omega)) (by first | omega | (split <;> omega)) (fun c1 => ?_) (fun c1 => ?_)
  · refine w_iload_n (i := 1) hX dX9_tries_39 rfl rfl ?_
    refine w_iload_n (i := 2) hX dX9_tries_40 rfl rfl ?_
    refine w_ishr hX dX9_tries_41 ?_
    refine w_iconst hX dX9_tries_42 kI_1 ?_
    refine w_iand hX dX9_tries_43 ?_
    refine w_top (y := nI (if bits.testBit q = true then 1 else 0)) (bit31 hbits (by omega)) ?_
    refine wn_if_ne (tgt := 56) hX dX9_tries_44 (by decide) (by first | omega | (split <;> omega)) (fun c2 => ?_) (fun c2 => ?_)
    · have ht1 : tbF bits q = true := by unfold tbF; by_cases h9 : bits.testBit q = true; (exact h9); rw [if_neg h9] at c2; omega
      have e1 : cvV (tbF bits) (q + 1) = cvV (tbF bits) q + 1 := by show cvV (tbF bits) q + _ = _; rw [if_pos ht1]
      have hrn : cvV (tbF bits) q < szB B bits := cvV_lt ht1 hq
      refine w_sipush hX dX9_tries_56 kS_1440 ?_
      refine w_aload_n (i := 0) hX dX9_tries_59 rfl rfl ?_
      refine w_iload_n (i := 2) hX dX9_tries_60 rfl rfl ?_
      refine w_iconst hX dX9_tries_61 kI_1 ?_
      refine w_callVI (As := [.int (nI q), .int (nI 1)]) (rest := [.int (nI 1440)]) (ci := 9) (o := m) (k2 := 0) (n2 := 0) hX dX9_tries_62 (s_m_paperOf Γ μ m B hm hW q 1 (by omega) (by omega)) okX9_paperOf (ltb rfl) (mod_s hm.1.1) ml_RX9_290 imX9_paperOf seX9_paperOf rfl (by omega) (leb rfl) rfl rfl (fun r9 μ9 hq9 => ?_)
      obtain ⟨hr9, hm9⟩ := hq9; rw [hr9, hm9, show B (353 + 4 * q + 1) = B (353 + 4 * q + 1) from rfl]; clear hr9 hm9 r9 μ9
      refine w_imulN hX dX9_tries_65 ?_
      refine w_aload_n (i := 0) hX dX9_tries_66 rfl rfl ?_
      refine w_iload_n (i := 2) hX dX9_tries_67 rfl rfl ?_
      refine w_iconst hX dX9_tries_68 kI_2 ?_
      refine w_callVI (As := [.int (nI q), .int (nI 2)]) (rest := [.int (nI (1440 * (B (353 + 4 * q + 1))))]) (ci := 9) (o := m) (k2 := 0) (n2 := 0) hX dX9_tries_69 (s_m_paperOf Γ μ m B hm hW q 2 (by omega) (by omega)) okX9_paperOf (ltb rfl) (mod_s hm.1.1) ml_RX9_290 imX9_paperOf seX9_paperOf rfl (by omega) (leb rfl) rfl rfl (fun r9 μ9 hq9 => ?_)
      obtain ⟨hr9, hm9⟩ := hq9; rw [hr9, hm9, show B (353 + 4 * q + 2) = B (353 + 4 * q + 2) from rfl]; clear hr9 hm9 r9 μ9
      refine w_iaddN hX dX9_tries_72 ?_
      refine w_top (y := nI (ptm B q)) (congrArg nI (by unfold ptm; rw [Nat.mul_comm])) ?_
      refine w_istore_n (i := 3) (l2 := [some (.ref m), some (.int (nI bits)), some (.int (nI q)), some (.int (nI (ptm B q))), none, none, none]) hX dX9_tries_73 rfl (ltb rfl) rfl rfl ?_
      refine w_aload_n (i := 0) hX dX9_tries_74 rfl rfl ?_
      refine w_aload_n (i := 0) hX dX9_tries_75 rfl rfl ?_
      refine w_iload_n (i := 2) hX dX9_tries_76 rfl rfl ?_
      refine w_iconst hX dX9_tries_77 kI_0 ?_
      refine w_callVI (As := [.int (nI q), .int (nI 0)]) (rest := [.ref m]) (ci := 9) (o := m) (k2 := 0) (n2 := 0) hX dX9_tries_78 (s_m_paperOf Γ μ m B hm hW q 0 (by omega) (by omega)) okX9_paperOf (ltb rfl) (mod_s hm.1.1) ml_RX9_290 imX9_paperOf seX9_paperOf rfl (by omega) (leb rfl) rfl rfl (fun r9 μ9 hq9 => ?_)
      obtain ⟨hr9, hm9⟩ := hq9; rw [hr9, hm9, show B (353 + 4 * q + 0) = ptw B q from rfl]; clear hr9 hm9 r9 μ9
      refine w_iload_n (i := 3) hX dX9_tries_81 rfl rfl ?_
      refine w_callVI (As := [.int (nI (ptw B q)), .int (nI (ptm B q))]) (rest := []) (ci := 9) (o := m) (k2 := 0) (n2 := 0) hX dX9_tries_82 (s_n_isTwice Γ μ m B hm (ptw B q) (ptm B q) (by omega) (by omega)) okX9_isTwice (ltb rfl) (mod_s hm.1.1) ml_RX9_259 imX9_isTwice seX9_isTwice rfl (by omega) (leb rfl) rfl rfl (fun r9 μ9 hq9 => ?_)
      obtain ⟨hr9, hm9⟩ := hq9; rw [hr9, hm9]; clear hr9 hm9 r9 μ9
      refine w_istore (l2 := [some (.ref m), some (.int (nI bits)), some (.int (nI q)), some (.int (nI (ptm B q))), some (.int (bI (tw B (ptw B q) (ptm B q)))), none, none]) hX dX9_tries_85 (ltb rfl) rfl rfl ?_
      refine w_iconst hX dX9_tries_87 kI_1 ?_
      refine w_istore (l2 := [some (.ref m), some (.int (nI bits)), some (.int (nI q)), some (.int (nI (ptm B q))), some (.int (bI (tw B (ptw B q) (ptm B q)))), some (.int (nI 1)), none]) hX dX9_tries_88 (ltb rfl) rfl rfl ?_
      have hfl := fst_le (c := ptm B q) hm.2.2 (show ptw B q < 3 by omega)
      have loop : ∀ k, k ≤ 2 → ∀ ν : Mem, same (ST m) μ ν → TP ν m B bits ask ((2 * u + k) * 2 ^ (szB B bits - (cvV (tbF bits) q + 1))) → (∀ t, t < q → gI ν (m + 10) t = gI μ (m + 10) t) → WP Γ X 0 0 90 [some (.ref m), some (.int (nI bits)), some (.int (nI q)), some (.int (nI (ptm B q))), some (.int (bI (tw B (ptw B q) (ptm B q)))), some (.int (nI (k + 1))), none] [] ν := by
        refine loopU 2 ?_
        intro k hk ihk ν hsm hTk hoq
        have hmk := hm.sm hsm (fun o k h => by unfold ST at h; omega)
        refine w_iload hX dX9_tries_90 rfl ?_
        refine w_iconst hX dX9_tries_92 kI_2 ?_
        refine wn_icmp_gt (tgt := 192) hX dX9_tries_93 (by decide) (by first | omega | (split <;> omega)) (by first | omega | (split <;> omega)) (fun c3 => ?_) (fun c3 => ?_)
        · refine w_iconst hX dX9_tries_192 kI_0 ?_
          refine w_iret hX hE dX9_tries_193 (Or.inl rfl) rfl ⟨hsm, Or.inl ⟨rfl, ?_, hoq⟩⟩
          rw [show k = 2 by omega, show 2 * u + 2 = 2 * (u + 1) by omega, ← str_2 hrn] at hTk; exact hTk
        · have j132 : WP Γ X 0 0 132 [some (.ref m), some (.int (nI bits)), some (.int (nI q)), some (.int (nI (ptm B q))), some (.int (bI (tw B (ptw B q) (ptm B q)))), some (.int (nI (k + 1))), none] [.int (bI (myB B (2 * q + k)))] ν := by
            refine w_istore (l2 := [some (.ref m), some (.int (nI bits)), some (.int (nI q)), some (.int (nI (ptm B q))), some (.int (bI (tw B (ptw B q) (ptm B q)))), some (.int (nI (k + 1))), some (.int (bI (myB B (2 * q + k))))]) hX dX9_tries_132 (ltb rfl) rfl rfl ?_
            refine w_aload_n (i := 0) hX dX9_tries_134 rfl rfl ?_
            refine w_getR (q := m + 10) hX dX9_tries_135 fo_RX9_88 rfl (mod_s hmk.1.1) (mod_r17 hmk.1.1) ?_
            refine w_iload_n (i := 2) hX dX9_tries_138 rfl rfl ?_
            refine w_aload_n (i := 0) hX dX9_tries_139 rfl rfl ?_
            refine w_aload_n (i := 0) hX dX9_tries_140 rfl rfl ?_
            refine w_iload_n (i := 2) hX dX9_tries_141 rfl rfl ?_
            refine w_iconst hX dX9_tries_142 kI_0 ?_
            refine w_callVI (As := [.int (nI q), .int (nI 0)]) (rest := [.ref m, .int (nI q), .ref (m + 10)]) (ci := 9) (o := m) (k2 := 0) (n2 := 0) hX dX9_tries_143 (s_m_paperOf Γ ν m B hmk hW q 0 (by omega) (by omega)) okX9_paperOf (ltb rfl) (mod_s hmk.1.1) ml_RX9_290 imX9_paperOf seX9_paperOf rfl (by omega) (leb rfl) rfl rfl (fun r9 μ9 hq9 => ?_)
            obtain ⟨hr9, hm9⟩ := hq9; rw [hr9, hm9, show B (353 + 4 * q + 0) = ptw B q from rfl]; clear hr9 hm9 r9 μ9
            refine w_iload_n (i := 3) hX dX9_tries_146 rfl rfl ?_
            refine w_callVI (As := [.int (nI (ptw B q)), .int (nI (ptm B q))]) (rest := [.int (nI q), .ref (m + 10)]) (ci := 9) (o := m) (k2 := 0) (n2 := 0) hX dX9_tries_147 (s_n_firstOf Γ ν m B hmk (ptw B q) (ptm B q) (by omega) (by omega)) okX9_firstOf (ltb rfl) (mod_s hmk.1.1) ml_RX9_256 imX9_firstOf seX9_firstOf rfl (by omega) (leb rfl) rfl rfl (fun r9 μ9 hq9 => ?_)
            obtain ⟨hr9, hm9⟩ := hq9; rw [hr9, hm9]; clear hr9 hm9 r9 μ9
            refine w_bipush hX dX9_tries_150 kB_60 ?_
            refine w_iload hX dX9_tries_152 rfl ?_
            refine w_iconst hX dX9_tries_154 kI_1 ?_
            refine w_isubN hX dX9_tries_155 (by omega) ?_
            refine w_imulN hX dX9_tries_156 ?_
            refine w_iaddN hX dX9_tries_157 ?_
            refine w_iastN hX dX9_tries_158 (mod_a10 hmk.1.1) (by omega) (by omega) ?_
            have hs1 : same (fun o _ => o = m + 10) ν (sI ν (m + 10) q (nI (fst B (ptw B q) (ptm B q) + (60 * k)))) := same.rf.sI rfl
            have hm1 := hmk.sm hs1 (fun o k h => by omega)
            have hT1 := TP_same hTk hs1 (by omega) (by omega) (by omega) (by omega) (by omega)
            have hsu : same (ST m) μ (sI ν (m + 10) q (nI (fst B (ptw B q) (ptm B q) + (60 * k)))) := hsm.tr (hs1.up (fun o k h => by unfold ST; omega))
            have hoq1 : ∀ t, t < q → gI (sI ν (m + 10) q (nI (fst B (ptw B q) (ptm B q) + (60 * k)))) (m + 10) t = gI μ (m + 10) t := fun t ht => by rw [gI_nk (by omega)]; exact hoq t ht
            have hbad : myB B (2 * q + k) = false ∨ hlB B bits q (moq B bits (cvV (tbF bits) q + 1) (2 * u + k)) (B 401) = false → TP (sI ν (m + 10) q (nI (fst B (ptw B q) (ptm B q) + (60 * k)))) m B bits ask ((2 * u + (k + 1)) * 2 ^ (szB B bits - (cvV (tbF bits) q + 1))) := fun hb => by
              refine TP_skip hT1 (Nat.mul_le_mul_right _ (by omega)) (fun w h1 h2 => ?_)
              refine str_no hrn ((tie hW hq ht1).mpr ?_) h1 (by rw [show 2 * u + k + 1 = 2 * u + (k + 1) by omega]; exact h2)
              rw [show (2 * u + k) % 2 = k by omega]; exact hb
            refine w_iload hX dX9_tries_159 rfl ?_
            refine wb_eq (tgt := 186) hX dX9_tries_161 (by decide) (fun hmy => ?_) (fun hmy => ?_)
            · refine w_iincN (w := 1) (l2 := [some (.ref m), some (.int (nI bits)), some (.int (nI q)), some (.int (nI (ptm B q))), some (.int (bI (tw B (ptw B q) (ptm B q)))), some (.int (nI (k + 1 + 1))), some (.int (bI (myB B (2 * q + k))))]) hX dX9_tries_186 rfl kI_1 rfl rfl ?_
              refine w_goto (tgt := 90) hX dX9_tries_189 (by decide) ?_
              refine w_sub (l2 := [some (.ref m), some (.int (nI bits)), some (.int (nI q)), some (.int (nI (ptm B q))), some (.int (bI (tw B (ptw B q) (ptm B q)))), some (.int (nI (k + 1 + 1))), none]) (by simp [lsub]) (leb rfl) ?_
              exact ihk (by omega) _ hsu (hbad (Or.inl hmy)) hoq1
            · have hmc : fst B (ptw B q) (ptm B q) + 60 * k = mcB B (2 * q + k) := by
                rcases (show k = 0 ∨ k = 1 by omega) with e | e
                · subst e; rw [show 2 * q + 0 = 2 * q by omega, mc0]; omega
                · subst e; rw [mc1]; unfold myB at hmy; rw [show (2 * q + 1) / 2 = q by omega, if_neg (by omega)] at hmy; simp only [Bool.and_eq_true] at hmy; unfold lst fst; rw [if_pos hmy.2]
              have hmo1 : ∀ t, t ≤ q → tbF bits t = true → gI (sI ν (m + 10) q (nI (fst B (ptw B q) (ptm B q) + (60 * k)))) (m + 10) t = nI (moq B bits (cvV (tbF bits) q + 1) (2 * u + k) t) := fun t ht h => by
                by_cases e : t = q
                · subst e; rw [gI_same, moq_p (by omega), ← hmc]
                · rw [hoq1 t (by omega), moq_S (by omega) h (by omega)]; exact hM t (by omega) h
              refine w_aload_n (i := 0) hX dX9_tries_164 rfl rfl ?_
              refine w_iload_n (i := 1) hX dX9_tries_165 rfl rfl ?_
              refine w_iload_n (i := 2) hX dX9_tries_166 rfl rfl ?_
              refine w_callVI (As := [.int (nI bits), .int (nI q)]) (rest := []) (ci := 9) (o := m) (k2 := 0) (n2 := 0) hX dX9_tries_167 (s_m_holds Γ (sI ν (m + 10) q (nI (fst B (ptw B q) (ptm B q) + (60 * k)))) m B hm1 hW bits q hbits hq (moq B bits (cvV (tbF bits) q + 1) (2 * u + k)) (fun t ht => moq_lt hW (by omega)) hmo1) okX9_holds (ltb rfl) (mod_s hmk.1.1) ml_RX9_305 imX9_holds seX9_holds rfl (by omega) (leb rfl) rfl rfl (fun r9 μ9 hq9 => ?_)
              obtain ⟨hr9, hm9⟩ := hq9; rw [hr9, hm9]; clear hr9 hm9 r9 μ9
              refine wb_eq (tgt := 186) hX dX9_tries_170 (by decide) (fun hhl => ?_) (fun hhl => ?_)
              · refine w_iincN (w := 1) (l2 := [some (.ref m), some (.int (nI bits)), some (.int (nI q)), some (.int (nI (ptm B q))), some (.int (bI (tw B (ptw B q) (ptm B q)))), some (.int (nI (k + 1 + 1))), some (.int (bI (myB B (2 * q + k))))]) hX dX9_tries_186 rfl kI_1 rfl rfl ?_
                refine w_goto (tgt := 90) hX dX9_tries_189 (by decide) ?_
                refine w_sub (l2 := [some (.ref m), some (.int (nI bits)), some (.int (nI q)), some (.int (nI (ptm B q))), some (.int (bI (tw B (ptw B q) (ptm B q)))), some (.int (nI (k + 1 + 1))), none]) (by simp [lsub]) (leb rfl) ?_
                exact ihk (by omega) _ hsu (hbad (Or.inr hhl)) hoq1
              · have hg1 : gdP (clB B) (meB B bits) (cvV (tbF bits) q + 1) (2 * u + k) = true := by
                  simp only [gdP, Bool.and_eq_true]; rw [show (2 * u + k) / 2 = u by omega]; refine ⟨hg, ?_⟩
                  rw [Bool.not_eq_true', Bool.eq_false_iff]; intro h9
                  rcases (tie hW hq ht1).mp h9 with h8 | h8
                  · rw [show (2 * u + k) % 2 = k by omega, hmy] at h8; cases h8
                  · rw [hhl] at h8; cases h8
                refine w_aload_n (i := 0) hX dX9_tries_173 rfl rfl ?_
                refine w_iload_n (i := 1) hX dX9_tries_174 rfl rfl ?_
                refine w_iload_n (i := 2) hX dX9_tries_175 rfl rfl ?_
                refine w_iconst hX dX9_tries_176 kI_1 ?_
                refine w_iaddN hX dX9_tries_177 ?_
                refine w_callVI (As := [.int (nI bits), .int (nI (q + 1))]) (rest := []) (ci := 9) (o := m) (k2 := 0) (n2 := 0) hX dX9_tries_178 (ih (sI ν (m + 10) q (nI (fst B (ptw B q) (ptm B q) + (60 * k)))) (2 * u + k) ⟨hm1, by rw [e1]; exact hT1, fun t ht h => by rw [e1]; exact hmo1 t (by omega) h, by rw [e1]; exact hg1, by rw [e1, Nat.pow_succ]; omega⟩) okX9_tries (ltb rfl) (mod_s hmk.1.1) ml_RX9_302 imX9_tries seX9_tries rfl (by omega) (leb rfl) rfl rfl (fun r5 ν5 hq9 => ?_)
                obtain ⟨hs5, hq9⟩ := hq9
                rcases hq9 with ⟨hr5, hT5, ho5⟩ | ⟨hr5, x5, hx1, hx2, hx3, hx4, hx5⟩
                · rw [hr5]
                  refine wb_eq (tgt := 186) hX dX9_tries_181 (by decide) (fun c6 => ?_) (fun c6 => ?_)
                  · refine w_iincN (w := 1) (l2 := [some (.ref m), some (.int (nI bits)), some (.int (nI q)), some (.int (nI (ptm B q))), some (.int (bI (tw B (ptw B q) (ptm B q)))), some (.int (nI (k + 1 + 1))), some (.int (bI (myB B (2 * q + k))))]) hX dX9_tries_186 rfl kI_1 rfl rfl ?_
                    refine w_goto (tgt := 90) hX dX9_tries_189 (by decide) ?_
                    refine w_sub (l2 := [some (.ref m), some (.int (nI bits)), some (.int (nI q)), some (.int (nI (ptm B q))), some (.int (bI (tw B (ptw B q) (ptm B q)))), some (.int (nI (k + 1 + 1))), none]) (by simp [lsub]) (leb rfl) ?_
                    exact ihk (by omega) _ (hsu.tr hs5) (by rw [e1] at hT5; rw [show 2 * u + (k + 1) = 2 * u + k + 1 by omega]; exact hT5) (fun t ht => by rw [ho5 t (by omega)]; exact hoq1 t ht)
                  · exact absurd ((Eq.refl false).symm.trans c6) (by decide)
                · rw [hr5]
                  refine wb_eq (tgt := 186) hX dX9_tries_181 (by decide) (fun c7 => ?_) (fun c7 => ?_)
                  · exact absurd ((Eq.refl true).symm.trans c7) (by decide)
                  · refine w_iconst hX dX9_tries_184 kI_1 ?_
                    refine w_iret hX hE dX9_tries_185 (Or.inl rfl) rfl ⟨hsu.tr hs5, Or.inr ⟨rfl, x5, ?_, ?_, hx3, hx4, hx5⟩⟩
                    · rw [e1] at hx1; rw [str_2 hrn]; exact Nat.le_trans (Nat.mul_le_mul_right _ (by omega)) hx1
                    · rw [e1] at hx2; rw [str_2 hrn]; exact Nat.lt_of_lt_of_le hx2 (Nat.mul_le_mul_right _ (by omega))
          refine w_aload_n (i := 0) hX dX9_tries_96 rfl rfl ?_
          refine w_iload_n (i := 2) hX dX9_tries_97 rfl rfl ?_
          refine w_iconst hX dX9_tries_98 kI_3 ?_
          refine w_callVI (As := [.int (nI q), .int (nI 3)]) (rest := []) (ci := 9) (o := m) (k2 := 0) (n2 := 0) hX dX9_tries_99 (s_m_paperOf Γ ν m B hmk hW q 3 (by omega) (by omega)) okX9_paperOf (ltb rfl) (mod_s hmk.1.1) ml_RX9_290 imX9_paperOf seX9_paperOf rfl (by omega) (leb rfl) rfl rfl (fun r9 μ9 hq9 => ?_)
          obtain ⟨hr9, hm9⟩ := hq9; rw [hr9, hm9, show B (353 + 4 * q + 3) = pwh B q from rfl]; clear hr9 hm9 r9 μ9
          refine wn_if_eq (tgt := 116) hX dX9_tries_102 (by decide) (by first | omega | (split <;> omega)) (fun c8 => ?_) (fun c8 => ?_)
          · refine w_iload hX dX9_tries_116 rfl ?_
            refine w_iconst hX dX9_tries_118 kI_1 ?_
            refine wn_icmp_eq (tgt := 127) hX dX9_tries_119 (by decide) (by first | omega | (split <;> omega)) (by first | omega | (split <;> omega)) (fun c9 => ?_) (fun c9 => ?_)
            · refine w_iconst hX dX9_tries_127 kI_1 ?_
              refine w_goto (tgt := 132) hX dX9_tries_128 (by decide) ?_
              refine w_top (y := bI (myB B (2 * q + k))) (bI_1 (by
                  unfold myB; rw [show (2 * q + k) / 2 = q by omega, show (2 * q + k) % 2 = k by omega]; rcases (show k = 0 ∨ k = 1 by omega) with e | e <;> subst e <;> simp <;> first | omega | (exact ⟨by omega, by assumption⟩) | (intro _; assumption) | (intro h9; exfalso; omega))) ?_
              exact j132
            · refine w_iload hX dX9_tries_122 rfl ?_
              refine wb_eq (tgt := 131) hX dX9_tries_124 (by decide) (fun htw => ?_) (fun htw => ?_)
              · refine w_iconst hX dX9_tries_131 kI_0 ?_
                refine w_top (y := bI (myB B (2 * q + k))) (bI_2 (by
                    unfold myB; rw [show (2 * q + k) / 2 = q by omega, show (2 * q + k) % 2 = k by omega]; rcases (show k = 0 ∨ k = 1 by omega) with e | e <;> subst e <;> simp <;> first | omega | (exact ⟨by omega, by assumption⟩) | (intro _; assumption) | (intro h9; exfalso; omega))) ?_
                exact j132
              · refine w_iconst hX dX9_tries_127 kI_1 ?_
                refine w_goto (tgt := 132) hX dX9_tries_128 (by decide) ?_
                refine w_top (y := bI (myB B (2 * q + k))) (bI_1 (by
                    unfold myB; rw [show (2 * q + k) / 2 = q by omega, show (2 * q + k) % 2 = k by omega]; rcases (show k = 0 ∨ k = 1 by omega) with e | e <;> subst e <;> simp <;> first | omega | (exact ⟨by omega, by assumption⟩) | (intro _; assumption) | (intro h9; exfalso; omega))) ?_
                exact j132
          · refine w_aload_n (i := 0) hX dX9_tries_105 rfl rfl ?_
            refine w_iload_n (i := 2) hX dX9_tries_106 rfl rfl ?_
            refine w_iconst hX dX9_tries_107 kI_3 ?_
            refine w_callVI (As := [.int (nI q), .int (nI 3)]) (rest := []) (ci := 9) (o := m) (k2 := 0) (n2 := 0) hX dX9_tries_108 (s_m_paperOf Γ ν m B hmk hW q 3 (by omega) (by omega)) okX9_paperOf (ltb rfl) (mod_s hmk.1.1) ml_RX9_290 imX9_paperOf seX9_paperOf rfl (by omega) (leb rfl) rfl rfl (fun r9 μ9 hq9 => ?_)
            obtain ⟨hr9, hm9⟩ := hq9; rw [hr9, hm9, show B (353 + 4 * q + 3) = pwh B q from rfl]; clear hr9 hm9 r9 μ9
            refine w_iload hX dX9_tries_111 rfl ?_
            refine wn_icmp_ne (tgt := 131) hX dX9_tries_113 (by decide) (by first | omega | (split <;> omega)) (by first | omega | (split <;> omega)) (fun c11 => ?_) (fun c11 => ?_)
            · refine w_iconst hX dX9_tries_131 kI_0 ?_
              refine w_top (y := bI (myB B (2 * q + k))) (bI_2 (by
                  unfold myB; rw [show (2 * q + k) / 2 = q by omega, show (2 * q + k) % 2 = k by omega]; rcases (show k = 0 ∨ k = 1 by omega) with e | e <;> subst e <;> simp <;> first | omega | (exact ⟨by omega, by assumption⟩) | (intro _; assumption) | (intro h9; exfalso; omega))) ?_
              exact j132
            · refine w_iload hX dX9_tries_116 rfl ?_
              refine w_iconst hX dX9_tries_118 kI_1 ?_
              refine wn_icmp_eq (tgt := 127) hX dX9_tries_119 (by decide) (by first | omega | (split <;> omega)) (by first | omega | (split <;> omega)) (fun c12 => ?_) (fun c12 => ?_)
              · refine w_iconst hX dX9_tries_127 kI_1 ?_
                refine w_goto (tgt := 132) hX dX9_tries_128 (by decide) ?_
                refine w_top (y := bI (myB B (2 * q + k))) (bI_1 (by
                    unfold myB; rw [show (2 * q + k) / 2 = q by omega, show (2 * q + k) % 2 = k by omega]; rcases (show k = 0 ∨ k = 1 by omega) with e | e <;> subst e <;> simp <;> first | omega | (exact ⟨by omega, by assumption⟩) | (intro _; assumption) | (intro h9; exfalso; omega))) ?_
                exact j132
              · refine w_iload hX dX9_tries_122 rfl ?_
                refine wb_eq (tgt := 131) hX dX9_tries_124 (by decide) (fun htw => ?_) (fun htw => ?_)
                · refine w_iconst hX dX9_tries_131 kI_0 ?_
                  refine w_top (y := bI (myB B (2 * q + k))) (bI_2 (by
                      unfold myB; rw [show (2 * q + k) / 2 = q by omega, show (2 * q + k) % 2 = k by omega]; rcases (show k = 0 ∨ k = 1 by omega) with e | e <;> subst e <;> simp <;> first | omega | (exact ⟨by omega, by assumption⟩) | (intro _; assumption) | (intro h9; exfalso; omega))) ?_
                  exact j132
                · refine w_iconst hX dX9_tries_127 kI_1 ?_
                  refine w_goto (tgt := 132) hX dX9_tries_128 (by decide) ?_
                  refine w_top (y := bI (myB B (2 * q + k))) (bI_1 (by
                      unfold myB; rw [show (2 * q + k) / 2 = q by omega, show (2 * q + k) % 2 = k by omega]; rcases (show k = 0 ∨ k = 1 by omega) with e | e <;> subst e <;> simp <;> first | omega | (exact ⟨by omega, by assumption⟩) | (intro _; assumption) | (intro h9; exfalso; omega))) ?_
                  exact j132
      refine w_locs (ls2 := [some (.ref m), some (.int (nI bits)), some (.int (nI q)), some (.int (nI (ptm B q))), some (.int (bI (tw B (ptw B q) (ptm B q)))), some (.int (nI (0 + 1))), none]) (by rfl) ?_
      exact loop 0 (Nat.zero_le _) μ same.rf (by rw [str_2 hrn] at hT; exact hT) (fun t _ => rfl)
    · have ht0 : tbF bits q = false := by unfold tbF; rw [Bool.eq_false_iff]; intro h9; rw [if_pos h9] at c2; omega
      have e0 : cvV (tbF bits) (q + 1) = cvV (tbF bits) q := cvV_no ht0
      refine w_aload_n (i := 0) hX dX9_tries_47 rfl rfl ?_
      refine w_iload_n (i := 1) hX dX9_tries_48 rfl rfl ?_
      refine w_iload_n (i := 2) hX dX9_tries_49 rfl rfl ?_
      refine w_iconst hX dX9_tries_50 kI_1 ?_
      refine w_iaddN hX dX9_tries_51 ?_
      refine w_callVI (As := [.int (nI bits), .int (nI (q + 1))]) (rest := []) (ci := 9) (o := m) (k2 := 0) (n2 := 0) hX dX9_tries_52 (ih μ u ⟨hm, by rw [e0]; exact hT, fun t ht h => by rw [e0]; by_cases e : t = q; (subst e; rw [ht0] at h; cases h); exact hM t (by omega) h, by rw [e0]; exact hg, by rw [e0]; exact hu⟩) okX9_tries (ltb rfl) (mod_s hm.1.1) ml_RX9_302 imX9_tries seX9_tries rfl (by omega) (leb rfl) rfl rfl (fun r5 ν5 hq9 => ?_)
      unfold TQ at hq9; rw [e0] at hq9
      refine w_iret hX hE dX9_tries_55 (Or.inl rfl) (by rcases hq9.2 with h | h <;> (rw [h.1]; rfl)) ⟨hq9.1, ?_⟩
      rcases hq9.2 with h | h
      · exact Or.inl ⟨h.1, h.2.1, fun t ht => h.2.2 t (by omega)⟩
      · exact Or.inr h
  · exact absurd c1 (by omega)
theorem s_m_tries (Γ : Gm) (m : Nat) (B : Nat → Nat) (hW : WB B) (bits : Nat) (ask : Option Nat) (hbits : bits < 2 ^ 31) : ∀ n q, q + n = B 352 → ∀ μ u, TH m B bits ask q u μ → SpI Γ MX9_tries (n + 3) 0 0 [.ref m, .int (nI bits), .int (nI q)] μ (TQ m B bits ask q u μ) := by
  intro n
  induction n with
  | zero =>
    intro q hq μ u h
    obtain ⟨hm, hT, hM, hg, hu⟩ := h
    have e : q = B 352 := by omega
    subst e
    have e2 : szB B bits - cvV (tbF bits) (B 352) = 0 := by rw [szB_t]; omega
    rw [e2, Nat.pow_zero, Nat.mul_one] at hT
    have h9 := s_m_tries0 Γ μ m B hm hW bits u ask hT hM hg hu
    have h8 : TQ m B bits ask (B 352) u μ = fun r μ2 => same (ST m) μ μ2 ∧ ((r = bI false ∧ TP μ2 m B bits ask (u + 1) ∧ ∀ t, t < B 352 → gI μ2 (m + 10) t = gI μ (m + 10) t) ∨ (r = bI true ∧ ∃ x, u ≤ x ∧ x < u + 1 ∧ VS B bits x = true ∧ ask = some (cvV (VS B bits) x) ∧ MOQ μ2 m B bits (B 352) (szB B bits) x)) := by
      funext r μ2
      unfold TQ
      rw [e2, Nat.pow_zero, Nat.mul_one, Nat.mul_one]
    rw [h8]
    exact h9
  | succ n ih =>
    intro q hq μ u h
    obtain ⟨hm, hT, hM, hg, hu⟩ := h
    exact s_m_tries1 Γ μ m B hm hW bits q u ask hbits (by omega) (n + 3) (by omega) (fun μ u h => ih (q + 1) (by omega) μ u h) hT hM hg hu
