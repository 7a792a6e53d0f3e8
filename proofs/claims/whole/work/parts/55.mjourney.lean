theorem sub_lt3 {a b w : Nat} (ha : a < 2 ^ 30) (hb : b < 2 ^ 30) (hw : w < 2 ^ 30) : nI a - nI b < nI w ↔ a < w + b := by
  rw [Int32.lt_iff_toInt_lt, pk_sub_toInt ha hb, nI_toInt (by omega)]
  omega
theorem nxt_ge {P : Nat → Bool} : ∀ q s, s ≤ nxt P q s := by
  intro q
  induction q with
  | zero => intro s; exact Nat.le_refl _
  | succ q ih => intro s; simp only [nxt]; split; exact Nat.le_refl _; exact Nat.le_trans (by omega) (ih (s + 1))
theorem oI_stt {cf : Nat → Nat → Bool} {c : Nat → Nat} {n L : Nat} : ∀ i, oI (lstO cf c n L i) + nI 1 = nI (sttS cf c n L i) := by
  intro i
  cases i with
  | zero => show (-1 : Int32) + nI 1 = nI 0; decide
  | succ i => show nI _ + nI 1 = nI (_ + 1); rw [nI_add]
def SF (m : Nat) : Nat → Nat → Prop := fun o k => o = m + 19 ∨ o = m + 20 ∨ o = m + 21 ∨ (o = m ∧ k = 28) ∨ (o = m ∧ k = 0)
set_option maxHeartbeats 1000000 in
theorem s_m_follow (Γ : Gm) (μ : Mem) (m : Nat) (B : Nat → Nat) (hm : HM μ m B) (hW : WB B) (E : Ev) (hE : evR μ m 28 (m + 20) (m + 19) E) (hok : okE B E 36) (s l : Nat) (hs : s < E.1) (hl : l < E.1) : SpI Γ MX9_canFollow 1 0 0 [.ref m, .int (nI s), .int (nI l)] μ (fun r μ2 => r = bI (cfE B E s l) ∧ μ2 = μ) := by
  refine SpI.of okX9_canFollow rfl [some (.ref m), some (.int (nI s)), some (.int (nI l))] ⟨rfl, rfl, rfl, trivial⟩ (leb rfl) (leb rfl) (fun X hX hE9 hnm => ?_)
  have h1s := hok.2 s hs; have h1l := hok.2 l hl; have hB0 := hW.1.1; have ho36 := hok.1
  have hwl := wyF_le hW (show E.2.2 s < 3 by omega) (show E.2.2 l < 3 by omega)
  refine w_aload_n (i := 0) hX dX9_canFollow_0 rfl rfl ?_
  refine w_getR (q := m + 20) hX dX9_canFollow_1 fo_RX9_119 rfl (mod_s hm.1.1) (mod_r30 hm.1.1) ?_
  refine w_iload_n (i := 2) hX dX9_canFollow_4 rfl rfl ?_
  refine w_ialdN hX dX9_canFollow_5 (mod_a20 hm.1.1) (by omega) (by omega) ?_
  refine w_top (y := nI (E.2.1 l)) (hE.2 l hl).1 ?_
  refine w_bipush hX dX9_canFollow_6 kB_60 ?_
  refine w_isubN hX dX9_canFollow_8 (by omega) ?_
  refine w_aload_n (i := 0) hX dX9_canFollow_9 rfl rfl ?_
  refine w_getR (q := m + 20) hX dX9_canFollow_10 fo_RX9_119 rfl (mod_s hm.1.1) (mod_r30 hm.1.1) ?_
  refine w_iload_n (i := 1) hX dX9_canFollow_13 rfl rfl ?_
  refine w_ialdN hX dX9_canFollow_14 (mod_a20 hm.1.1) (by omega) (by omega) ?_
  refine w_top (y := nI (E.2.1 s)) (hE.2 s hs).1 ?_
  refine w_bipush hX dX9_canFollow_15 kB_60 ?_
  refine w_iaddN hX dX9_canFollow_17 ?_
  refine w_isub hX dX9_canFollow_18 ?_
  refine w_aload_n (i := 0) hX dX9_canFollow_19 rfl rfl ?_
  refine w_aload_n (i := 0) hX dX9_canFollow_20 rfl rfl ?_
  refine w_getR (q := m + 19) hX dX9_canFollow_21 fo_RX9_116 rfl (mod_s hm.1.1) (mod_r29 hm.1.1) ?_
  refine w_iload_n (i := 1) hX dX9_canFollow_24 rfl rfl ?_
  refine w_ialdN hX dX9_canFollow_25 (mod_a19 hm.1.1) (by omega) (by omega) ?_
  refine w_top (y := nI (E.2.2 s)) (hE.2 s hs).2 ?_
  refine w_aload_n (i := 0) hX dX9_canFollow_26 rfl rfl ?_
  refine w_getR (q := m + 19) hX dX9_canFollow_27 fo_RX9_116 rfl (mod_s hm.1.1) (mod_r29 hm.1.1) ?_
  refine w_iload_n (i := 2) hX dX9_canFollow_30 rfl rfl ?_
  refine w_ialdN hX dX9_canFollow_31 (mod_a19 hm.1.1) (by omega) (by omega) ?_
  refine w_top (y := nI (E.2.2 l)) (hE.2 l hl).2 ?_
  refine w_callVI (As := [.int (nI (E.2.2 s)), .int (nI (E.2.2 l))]) (rest := [.int ((nI (E.2.1 l - 60)) - (nI (E.2.1 s + 60)))]) (ci := 9) (o := m) (k2 := 0) (n2 := 0) hX dX9_canFollow_32 (s_m_wayOf Γ μ m B hm hW (E.2.2 s) (E.2.2 l) (by omega) (by omega)) okX9_wayOf (ltb rfl) (mod_s hm.1.1) ml_RX9_378 imX9_wayOf seX9_wayOf rfl (leb rfl) (leb rfl) rfl rfl (fun r9 μ9 hq9 => ?_)
  obtain ⟨hr9, hm9⟩ := hq9; rw [hr9, hm9]; clear hr9 hm9 r9 μ9
  refine wc_icmp_lt (tgt := 42) hX dX9_canFollow_35 (by decide) (fun c1 => ?_) (fun c1 => ?_)
  · refine w_iconst hX dX9_canFollow_42 kI_0 ?_
    exact w_iret hX hE9 dX9_canFollow_43 (Or.inl rfl) rfl ⟨bI_2 (by unfold cfE; exact decide_eq_false (by have := (sub_lt3 (by omega) (by omega) (by omega)).mp c1; omega)), rfl⟩
  · refine w_iconst hX dX9_canFollow_38 kI_1 ?_
    refine w_goto (tgt := 43) hX dX9_canFollow_39 (by decide) ?_
    exact w_iret hX hE9 dX9_canFollow_43 (Or.inl rfl) rfl ⟨bI_1 (by unfold cfE; exact decide_eq_true (by have := mt (sub_lt3 (by omega) (by omega) (by omega)).mpr (Int32.not_lt.mpr c1); omega)), rfl⟩
set_option maxHeartbeats 1000000 in
theorem s_m_events (Γ : Gm) (μ : Mem) (m : Nat) (B : Nat → Nat) (hm : HM μ m B) (hW : WB B) (f g : Nat) (hf : f ≤ 3649) (hg : g ≤ 3649) : SpV Γ MX9_findEvents 2 0 0 [.ref m, .int (nI f), .int (nI g)] μ (fun μ2 => evR μ2 m 28 (m + 20) (m + 19) (EV B f g) ∧ (∀ s, s < (EV B f g).1 → gI μ2 (m + 21) s = nI ((jC B f g) s)) ∧ same (SF m) μ μ2) := by
  refine SpV.of okX9_findEvents rfl [some (.ref m), some (.int (nI f)), some (.int (nI g)), none, none, none, none] ⟨rfl, rfl, rfl, trivial⟩ (leb rfl) (leb rfl) (fun X hX hE hnm => ?_)
  have big : ∀ ν3 : Mem, same (fun o k => o = m + 19 ∨ o = m + 20 ∨ (o = m ∧ k = 28)) μ ν3 → evR ν3 m 28 (m + 20) (m + 19) (EV B f g) → WP Γ X 0 0 160 [some (.ref m), some (.int (nI f)), some (.int (nI g)), none, none, none, none] [] ν3 := by
    intro ν3 hs3 he3
    have hm3 := hm.sm hs3 (fun o k h => by omega)
    refine w_aload_n (i := 0) hX dX9_findEvents_160 rfl rfl ?_
    refine w_getI hX dX9_findEvents_161 fo_RX9_381 rfl (mod_s hm3.1.1) ?_
    refine w_top (y := nI ((EV B f g).1)) he3.1 ?_
    refine w_iconst hX dX9_findEvents_164 kI_1 ?_
    refine w_isub hX dX9_findEvents_165 ?_
    refine w_istore_n (i := 3) (l2 := [some (.ref m), some (.int (nI f)), some (.int (nI g)), some (.int ((nI ((EV B f g).1)) - (nI 1))), none, none, none]) hX dX9_findEvents_166 rfl (ltb rfl) rfl rfl ?_
    have ho36 := (ok_EV (f := f) (g := g) hW.1).1
    have loop : ∀ q, q ≤ (EV B f g).1 → ∀ ν : Mem, (same (fun o k => o = m + 21) ν3 ν) → (∀ s, q ≤ s → s < (EV B f g).1 → gI ν (m + 21) s = nI ((jC B f g) s)) → WP Γ X 0 0 167 [some (.ref m), some (.int (nI f)), some (.int (nI g)), some (.int (nI q - nI 1)), none, none, none] [] ν := by
      intro q
      induction q using Nat.strongRecOn with
      | ind q ih =>
        intro hq ν hsm hch
        have hmk := hm.sm (hs3.up (T := SF m) (fun o k h => by unfold SF; omega) |>.tr (hsm.up (fun o k h => by unfold SF; omega))) (fun o k h => by unfold SF at h; omega)
        rcases Nat.eq_zero_or_pos q with h0 | h0
        · refine w_locs (ls2 := [some (.ref m), some (.int (nI f)), some (.int (nI g)), some (.int ((-1 : Int32))), none, none, none]) (by rw [h0]; rfl) ?_
          refine w_iload_n (i := 3) hX dX9_findEvents_167 rfl rfl ?_
          refine wc_if_lt (tgt := 256) hX dX9_findEvents_168 (by decide) (fun c1 => ?_) (fun c1 => ?_)
          · exact w_vret hX hE dX9_findEvents_256 (Or.inl rfl) ⟨evR_same he3 hsm (by omega) (by omega) (by omega), fun s hs => hch s (by omega) hs, (hs3.up (fun o k h => by unfold SF; omega)).tr (hsm.up (fun o k h => by unfold SF; omega))⟩
          · exact absurd (by assumption : (0 : Int32) ≤ -1) (by decide)
        · obtain ⟨q0, rfl⟩ : ∃ q0, q = q0 + 1 := ⟨q - 1, by omega⟩
          refine w_locs (ls2 := [some (.ref m), some (.int (nI f)), some (.int (nI g)), some (.int (nI q0)), none, none, none]) (by rw [nI_p1]) ?_
          refine w_iload_n (i := 3) hX dX9_findEvents_167 rfl rfl ?_
          refine wn_if_lt (tgt := 256) hX dX9_findEvents_168 (by decide) (by omega) (fun c2 => ?_) (fun c2 => ?_)
          · exfalso; omega
          · refine w_aload_n (i := 0) hX dX9_findEvents_171 rfl rfl ?_
            refine w_getR (q := m + 21) hX dX9_findEvents_172 fo_RX9_122 rfl (mod_s hmk.1.1) (mod_r31 hmk.1.1) ?_
            refine w_iload_n (i := 3) hX dX9_findEvents_175 rfl rfl ?_
            refine w_iconst hX dX9_findEvents_176 kI_1 ?_
            refine w_iastN hX dX9_findEvents_177 (mod_a21 hmk.1.1) (by omega) (by omega) ?_
            refine w_iload_n (i := 3) hX dX9_findEvents_178 rfl rfl ?_
            refine w_iconst hX dX9_findEvents_179 kI_1 ?_
            refine w_iaddN hX dX9_findEvents_180 ?_
            refine w_istore (l2 := [some (.ref m), some (.int (nI f)), some (.int (nI g)), some (.int (nI q0)), some (.int (nI (q0 + 1))), none, none]) hX dX9_findEvents_181 (ltb rfl) rfl rfl ?_
            have inl : ∀ d, d ≤ (EV B f g).1 - (q0 + 1) → ∀ ν4 : Mem, (same (fun o k => o = m + 21) ν3 ν4) → (∀ s, q0 + 1 ≤ s → s < (EV B f g).1 → gI ν4 (m + 21) s = nI ((jC B f g) s)) → (gI ν4 (m + 21) q0 = nI (chI (cfE B (EV B f g)) (jC B f g) q0 d)) → WP Γ X 0 0 183 [some (.ref m), some (.int (nI f)), some (.int (nI g)), some (.int (nI q0)), some (.int (nI (q0 + 1 + d))), none, none] [] ν4 := by
              refine loopU ((EV B f g).1 - (q0 + 1)) ?_
              intro d hd ihd ν4 hsn g2 g3
              have hm4 := hm.sm (hs3.up (T := SF m) (fun o k h => by unfold SF; omega) |>.tr (hsn.up (fun o k h => by unfold SF; omega))) (fun o k h => by unfold SF at h; omega)
              have he4 := evR_same he3 hsn (by omega) (by omega) (by omega)
              have hcl : 1 ≤ chI (cfE B (EV B f g)) (jC B f g) q0 d ∧ chI (cfE B (EV B f g)) (jC B f g) q0 d ≤ (EV B f g).1 - q0 := chI_le (cf := (cfE B (EV B f g))) (n := (EV B f g).1) (s := q0) (d := d) (by omega)
              have hcl2 : d < (EV B f g).1 - (q0 + 1) → (jC B f g) (q0 + 1 + d) ≤ 36 := fun h => by have := (ch_le (cf := (cfE B (EV B f g))) (show q0 + 1 + d < (EV B f g).1 by omega)).2; unfold jC; omega
              refine w_iload hX dX9_findEvents_183 rfl ?_
              refine w_aload_n (i := 0) hX dX9_findEvents_185 rfl rfl ?_
              refine w_getI hX dX9_findEvents_186 fo_RX9_381 rfl (mod_s hm4.1.1) ?_
              refine w_top (y := nI ((EV B f g).1)) he4.1 ?_
              refine wn_icmp_ge (tgt := 250) hX dX9_findEvents_189 (by decide) (by omega) (by omega) (fun c3 => ?_) (fun c3 => ?_)
              · refine w_iinc (l2 := [some (.ref m), some (.int (nI f)), some (.int (nI g)), some (.int (nI q0 + Int32.ofInt (-1))), some (.int (nI (q0 + 1 + d))), none, none]) hX dX9_findEvents_250 rfl rfl rfl rfl ?_
                refine w_goto (tgt := 167) hX dX9_findEvents_253 (by decide) ?_
                refine w_sub (l2 := [some (.ref m), some (.int (nI f)), some (.int (nI g)), some (.int (nI q0 + Int32.ofInt (-1))), none, none, none]) (by simp [lsub]) (leb rfl) ?_
                refine w_locs (ls2 := [some (.ref m), some (.int (nI f)), some (.int (nI g)), some (.int (nI q0 - nI 1)), none, none, none]) (by rw [nI_m]) ?_
                refine ih q0 (by omega) (by omega) _ hsn (fun s h8 h9 => ?_)
                by_cases e : s = q0
                · rw [e, g3]; unfold jC; rw [ch_eq (s := q0) (by omega), show (EV B f g).1 - 1 - q0 = d by omega]
                · exact g2 s (by omega) h9
              · refine w_aload_n (i := 0) hX dX9_findEvents_192 rfl rfl ?_
                refine w_getR (q := m + 21) hX dX9_findEvents_193 fo_RX9_122 rfl (mod_s hm4.1.1) (mod_r31 hm4.1.1) ?_
                refine w_iload_n (i := 3) hX dX9_findEvents_196 rfl rfl ?_
                refine w_aload_n (i := 0) hX dX9_findEvents_197 rfl rfl ?_
                refine w_iload_n (i := 3) hX dX9_findEvents_198 rfl rfl ?_
                refine w_iload hX dX9_findEvents_199 rfl ?_
                refine w_callVI (As := [.int (nI q0), .int (nI (q0 + 1 + d))]) (rest := [.int (nI q0), .ref (m + 21)]) (ci := 9) (o := m) (k2 := 0) (n2 := 0) hX dX9_findEvents_201 (s_m_follow Γ ν4 m B hm4 hW (EV B f g) he4 (ok_EV hW.1) q0 (q0 + 1 + d) (by omega) (by omega)) okX9_canFollow (ltb rfl) (mod_s hm4.1.1) ml_RX9_384 imX9_canFollow seX9_canFollow rfl (leb rfl) (leb rfl) rfl rfl (fun r9 μ9 hq9 => ?_)
                obtain ⟨hr9, hm9⟩ := hq9; rw [hr9, hm9]; clear hr9 hm9 r9 μ9
                refine wb_eq (tgt := 237) hX dX9_findEvents_204 (by decide) (fun hcf => ?_) (fun hcf => ?_)
                · refine w_aload_n (i := 0) hX dX9_findEvents_237 rfl rfl ?_
                  refine w_getR (q := m + 21) hX dX9_findEvents_238 fo_RX9_122 rfl (mod_s hm4.1.1) (mod_r31 hm4.1.1) ?_
                  refine w_iload_n (i := 3) hX dX9_findEvents_241 rfl rfl ?_
                  refine w_ialdN hX dX9_findEvents_242 (mod_a21 hm4.1.1) (by omega) (by omega) ?_
                  refine w_top (y := nI (chI (cfE B (EV B f g)) (jC B f g) q0 d)) g3 ?_
                  refine w_iastN hX dX9_findEvents_243 (mod_a21 hm4.1.1) (by omega) (by omega) ?_
                  refine w_iincN (w := 1) (l2 := [some (.ref m), some (.int (nI f)), some (.int (nI g)), some (.int (nI q0)), some (.int (nI (q0 + 1 + d + 1))), none, none]) hX dX9_findEvents_244 rfl kI_1 rfl rfl ?_
                  refine w_goto (tgt := 183) hX dX9_findEvents_247 (by decide) ?_
                  exact ihd (by omega) _ (hsn.sI rfl) (fun s h8 h9 => by rw [gI_nk (by omega)]; exact g2 s h8 h9) (by rw [gI_same, chI_S, if_neg (fun h9 => by first | (have h8 := h9.2; omega) | (have h8 := h9.1; rw [hcf] at h8; cases h8))])
                · refine w_aload_n (i := 0) hX dX9_findEvents_207 rfl rfl ?_
                  refine w_getR (q := m + 21) hX dX9_findEvents_208 fo_RX9_122 rfl (mod_s hm4.1.1) (mod_r31 hm4.1.1) ?_
                  refine w_iload hX dX9_findEvents_211 rfl ?_
                  refine w_ialdN hX dX9_findEvents_213 (mod_a21 hm4.1.1) (by omega) (by omega) ?_
                  refine w_top (y := nI ((jC B f g) (q0 + 1 + d))) (g2 _ (by omega) (by omega)) ?_
                  refine w_iconst hX dX9_findEvents_214 kI_1 ?_
                  refine w_iaddN hX dX9_findEvents_215 ?_
                  refine w_aload_n (i := 0) hX dX9_findEvents_216 rfl rfl ?_
                  refine w_getR (q := m + 21) hX dX9_findEvents_217 fo_RX9_122 rfl (mod_s hm4.1.1) (mod_r31 hm4.1.1) ?_
                  refine w_iload_n (i := 3) hX dX9_findEvents_220 rfl rfl ?_
                  refine w_ialdN hX dX9_findEvents_221 (mod_a21 hm4.1.1) (by omega) (by omega) ?_
                  refine w_top (y := nI (chI (cfE B (EV B f g)) (jC B f g) q0 d)) g3 ?_
                  refine wn_icmp_le (tgt := 237) hX dX9_findEvents_222 (by decide) (by omega) (by omega) (fun c5 => ?_) (fun c5 => ?_)
                  · refine w_aload_n (i := 0) hX dX9_findEvents_237 rfl rfl ?_
                    refine w_getR (q := m + 21) hX dX9_findEvents_238 fo_RX9_122 rfl (mod_s hm4.1.1) (mod_r31 hm4.1.1) ?_
                    refine w_iload_n (i := 3) hX dX9_findEvents_241 rfl rfl ?_
                    refine w_ialdN hX dX9_findEvents_242 (mod_a21 hm4.1.1) (by omega) (by omega) ?_
                    refine w_top (y := nI (chI (cfE B (EV B f g)) (jC B f g) q0 d)) g3 ?_
                    refine w_iastN hX dX9_findEvents_243 (mod_a21 hm4.1.1) (by omega) (by omega) ?_
                    refine w_iincN (w := 1) (l2 := [some (.ref m), some (.int (nI f)), some (.int (nI g)), some (.int (nI q0)), some (.int (nI (q0 + 1 + d + 1))), none, none]) hX dX9_findEvents_244 rfl kI_1 rfl rfl ?_
                    refine w_goto (tgt := 183) hX dX9_findEvents_247 (by decide) ?_
                    exact ihd (by omega) _ (hsn.sI rfl) (fun s h8 h9 => by rw [gI_nk (by omega)]; exact g2 s h8 h9) (by rw [gI_same, chI_S, if_neg (fun h9 => by first | (have h8 := h9.2; omega) | (have h8 := h9.1; rw [hcf] at h8; cases h8))])
                  · refine w_aload_n (i := 0) hX dX9_findEvents_225 rfl rfl ?_
                    refine w_getR (q := m + 21) hX dX9_findEvents_226 fo_RX9_122 rfl (mod_s hm4.1.1) (mod_r31 hm4.1.1) ?_
                    refine w_iload hX dX9_findEvents_229 rfl ?_
                    refine w_ialdN hX dX9_findEvents_231 (mod_a21 hm4.1.1) (by omega) (by omega) ?_
                    refine w_top (y := nI ((jC B f g) (q0 + 1 + d))) (g2 _ (by omega) (by omega)) ?_
                    refine w_iconst hX dX9_findEvents_232 kI_1 ?_
                    refine w_iaddN hX dX9_findEvents_233 ?_
                    refine w_goto (tgt := 243) hX dX9_findEvents_234 (by decide) ?_
                    refine w_iastN hX dX9_findEvents_243 (mod_a21 hm4.1.1) (by omega) (by omega) ?_
                    refine w_iincN (w := 1) (l2 := [some (.ref m), some (.int (nI f)), some (.int (nI g)), some (.int (nI q0)), some (.int (nI (q0 + 1 + d + 1))), none, none]) hX dX9_findEvents_244 rfl kI_1 rfl rfl ?_
                    refine w_goto (tgt := 183) hX dX9_findEvents_247 (by decide) ?_
                    exact ihd (by omega) _ (hsn.sI rfl) (fun s h8 h9 => by rw [gI_nk (by omega)]; exact g2 s h8 h9) (by rw [gI_same, chI_S, if_pos ⟨hcf, by omega⟩])
            exact inl 0 (Nat.zero_le _) (sI ν (m + 21) q0 (nI 1)) (hsm.sI rfl) (fun s h8 h9 => by rw [gI_nk (by omega)]; exact hch s h8 h9) gI_same
    exact loop (EV B f g).1 (Nat.le_refl _) ν3 same.rf (fun s h8 h9 => by omega)
  refine w_aload_n (i := 0) hX dX9_findEvents_0 rfl rfl ?_
  refine w_iconst hX dX9_findEvents_1 kI_0 ?_
  refine w_putI hX dX9_findEvents_2 fo_RX9_381 rfl rfl rfl rfl (mod_s hm.1.1) ?_
  refine w_iconst hX dX9_findEvents_5 kI_0 ?_
  refine w_istore_n (i := 3) (l2 := [some (.ref m), some (.int (nI f)), some (.int (nI g)), some (.int (nI 0)), none, none, none]) hX dX9_findEvents_6 rfl (ltb rfl) rfl rfl ?_
  have loop : ∀ x, x ≤ B 0 → ∀ ν : Mem, (same (fun o k => o = m + 19 ∨ o = m + 20 ∨ (o = m ∧ k = 28)) μ ν) → (evR ν m 28 (m + 20) (m + 19) (evA B f g x)) → WP Γ X 0 0 7 [some (.ref m), some (.int (nI f)), some (.int (nI g)), some (.int (nI x)), none, none, none] [] ν := by
    refine loopU (B 0) ?_
    intro x hx ihx ν hsm he
    have hmk := hm.sm hsm (fun o k h => by omega)
    have hB0 := hW.1.1
    have hnb : x < 3 → nB B x ≤ 12 := fun h => (hW.1.2 x h).1
    refine w_iload_n (i := 3) hX dX9_findEvents_7 rfl rfl ?_
    refine w_aload_n (i := 0) hX dX9_findEvents_8 rfl rfl ?_
    refine w_callVI (As := []) (rest := [.int (nI x)]) (ci := 9) (o := m) (k2 := 0) (n2 := 0) hX dX9_findEvents_9 (s_m_towns Γ ν m B hmk.1) okX9_towns (ltb rfl) (mod_s hmk.1.1) ml_RX9_236 imX9_towns seX9_towns rfl (leb rfl) (leb rfl) rfl rfl (fun r9 μ9 hq9 => ?_)
    obtain ⟨hr9, hm9⟩ := hq9; rw [hr9, hm9]; clear hr9 hm9 r9 μ9
    refine wn_icmp_ge (tgt := 160) hX dX9_findEvents_12 (by decide) (by omega) (by omega) (fun c6 => ?_) (fun c6 => ?_)
    · refine w_sub (l2 := [some (.ref m), some (.int (nI f)), some (.int (nI g)), none, none, none, none]) (by simp [lsub]) (leb rfl) ?_
      exact big ν hsm (by rw [show x = B 0 by omega] at he; exact he)
    · refine w_iconst hX dX9_findEvents_15 kI_0 ?_
      refine w_istore (l2 := [some (.ref m), some (.int (nI f)), some (.int (nI g)), some (.int (nI x)), some (.int (nI 0)), none, none]) hX dX9_findEvents_16 (ltb rfl) rfl rfl ?_
      have inl : ∀ i, i ≤ nB B x → ∀ ν1 : Mem, (same (fun o k => o = m + 19 ∨ o = m + 20 ∨ (o = m ∧ k = 28)) μ ν1) → (evR ν1 m 28 (m + 20) (m + 19) (evI B f g x (evA B f g x) i)) → WP Γ X 0 0 18 [some (.ref m), some (.int (nI f)), some (.int (nI g)), some (.int (nI x)), some (.int (nI i)), none, none] [] ν1 := by
        refine loopU (nB B x) ?_
        intro i hi ihi ν1 hsn he1
        have hm1 := hm.sm hsn (fun o k h => by omega)
        have hok := okE_I (f := f) (g := g) hW.1 (show x < B 0 by omega) (okE_A (f := f) (g := g) hW.1 x (by omega)) i hi
        have hon := hok.1
        have hms : i < nB B x → 60 ≤ mS B x i ∧ mS B x i ≤ 5256000 := fun h => mS_rng hW.1 (by omega) h
        have hdd : i < nB B x → dyI B x i ≤ 3649 := fun h => ((hW.1.2 x (by omega)).2.1 i h).1
        refine w_iload hX dX9_findEvents_18 rfl ?_
        refine w_aload_n (i := 0) hX dX9_findEvents_20 rfl rfl ?_
        refine w_iload_n (i := 3) hX dX9_findEvents_21 rfl rfl ?_
        refine w_callVI (As := [.int (nI x)]) (rest := [.int (nI i)]) (ci := 9) (o := m) (k2 := 0) (n2 := 0) hX dX9_findEvents_22 (s_m_backsOf Γ ν1 m B hm1.1 x (by omega)) okX9_backsOf (ltb rfl) (mod_s hm1.1.1) ml_RX9_243 imX9_backsOf seX9_backsOf rfl (leb rfl) (leb rfl) rfl rfl (fun r9 μ9 hq9 => ?_)
        obtain ⟨hr9, hm9⟩ := hq9; rw [hr9, hm9, show B (1 + (25 * x)) = nB B x from rfl]; clear hr9 hm9 r9 μ9
        refine wn_icmp_ge (tgt := 154) hX dX9_findEvents_25 (by decide) (by omega) (by omega) (fun c7 => ?_) (fun c7 => ?_)
        · refine w_iincN (w := 1) (l2 := [some (.ref m), some (.int (nI f)), some (.int (nI g)), some (.int (nI (x + 1))), some (.int (nI i)), none, none]) hX dX9_findEvents_154 rfl kI_1 rfl rfl ?_
          refine w_goto (tgt := 7) hX dX9_findEvents_157 (by decide) ?_
          refine w_sub (l2 := [some (.ref m), some (.int (nI f)), some (.int (nI g)), some (.int (nI (x + 1))), none, none, none]) (by simp [lsub]) (leb rfl) ?_
          exact ihx (by omega) ν1 hsn (by rw [show i = nB B x by omega] at he1; exact he1)
        · refine w_aload_n (i := 0) hX dX9_findEvents_28 rfl rfl ?_
          refine w_iload_n (i := 3) hX dX9_findEvents_29 rfl rfl ?_
          refine w_iload hX dX9_findEvents_30 rfl ?_
          refine w_callVI (As := [.int (nI x), .int (nI i)]) (rest := []) (ci := 9) (o := m) (k2 := 0) (n2 := 0) hX dX9_findEvents_32 (s_m_dayOf Γ ν1 m B hm1.1 x (by omega) i (by omega)) okX9_dayOf (ltb rfl) (mod_s hm1.1.1) ml_RX9_240 imX9_dayOf seX9_dayOf rfl (leb rfl) (leb rfl) rfl rfl (fun r9 μ9 hq9 => ?_)
          obtain ⟨hr9, hm9⟩ := hq9; rw [hr9, hm9, show B (1 + (25 * x) + 1 + (2 * i)) = dyI B x i from rfl]; clear hr9 hm9 r9 μ9
          refine w_iload_n (i := 1) hX dX9_findEvents_35 rfl rfl ?_
          refine w_iload_n (i := 2) hX dX9_findEvents_36 rfl rfl ?_
          refine w_callSI (As := [.int (nI (dyI B x i)), .int (nI f), .int (nI g)]) (rest := []) (k2 := 0) (n2 := 0) hX dX9_findEvents_37 (s_m_isIn Γ ν1 (nI (dyI B x i)) (nI f) (nI g)) okX9_isIn ml_RX9_262 stX9_isIn rfl (leb rfl) (leb rfl) rfl rfl (fun r9 μ9 hq9 => ?_)
          obtain ⟨hr9, hm9⟩ := hq9; rw [hr9, hm9, inR_n (by omega) (by omega) (by omega)]; clear hr9 hm9 r9 μ9
          refine wb_eq (tgt := 148) hX dX9_findEvents_40 (by decide) (fun hd => ?_) (fun hd => ?_)
          · refine w_iincN (w := 1) (l2 := [some (.ref m), some (.int (nI f)), some (.int (nI g)), some (.int (nI x)), some (.int (nI (i + 1))), none, none]) hX dX9_findEvents_148 rfl kI_1 rfl rfl ?_
            refine w_goto (tgt := 18) hX dX9_findEvents_151 (by decide) ?_
            exact ihi (by omega) ν1 hsn (by rw [evI_S, if_neg (of_decide_eq_false hd)]; exact he1)
          · refine w_aload_n (i := 0) hX dX9_findEvents_43 rfl rfl ?_
            refine w_iload_n (i := 3) hX dX9_findEvents_44 rfl rfl ?_
            refine w_iload hX dX9_findEvents_45 rfl ?_
            refine w_callVI (As := [.int (nI x), .int (nI i)]) (rest := []) (ci := 9) (o := m) (k2 := 0) (n2 := 0) hX dX9_findEvents_47 (s_m_strokeOf Γ ν1 m B hm1.1 x (by omega) i (by omega)) okX9_strokeOf (ltb rfl) (mod_s hm1.1.1) ml_RX9_250 imX9_strokeOf seX9_strokeOf rfl (leb rfl) (leb rfl) rfl rfl (fun r9 μ9 hq9 => ?_)
            obtain ⟨hr9, hm9⟩ := hq9; rw [hr9, hm9]; clear hr9 hm9 r9 μ9
            refine w_bipush hX dX9_findEvents_50 kB_60 ?_
            refine w_iload hX dX9_findEvents_52 rfl ?_
            refine w_imulN hX dX9_findEvents_54 ?_
            refine w_iaddN hX dX9_findEvents_55 ?_
            refine w_istore (l2 := [some (.ref m), some (.int (nI f)), some (.int (nI g)), some (.int (nI x)), some (.int (nI i)), some (.int (nI (mS B x i + (60 * i)))), none]) hX dX9_findEvents_56 (ltb rfl) rfl rfl ?_
            refine w_aload_n (i := 0) hX dX9_findEvents_58 rfl rfl ?_
            refine w_getI hX dX9_findEvents_59 fo_RX9_381 rfl (mod_s hm1.1.1) ?_
            refine w_top (y := nI ((evI B f g x (evA B f g x) i).1)) he1.1 ?_
            refine w_istore (l2 := [some (.ref m), some (.int (nI f)), some (.int (nI g)), some (.int (nI x)), some (.int (nI i)), some (.int (nI (mS B x i + (60 * i)))), some (.int (nI ((evI B f g x (evA B f g x) i).1)))]) hX dX9_findEvents_62 (ltb rfl) rfl rfl ?_
            have inq : ∀ q, q ≤ (evI B f g x (evA B f g x) i).1 → ∀ ν2 : Mem, (same (fun o k => o = m + 19 ∨ o = m + 20) ν1 ν2) → (evQ ν2 (m + 20) (m + 19) (evI B f g x (evA B f g x) i) (mS B x i + (60 * i)) q) → WP Γ X 0 0 64 [some (.ref m), some (.int (nI f)), some (.int (nI g)), some (.int (nI x)), some (.int (nI i)), some (.int (nI (mS B x i + (60 * i)))), some (.int (nI q))] [] ν2 := by
              intro q
              induction q using Nat.strongRecOn with
              | ind q ih =>
                intro hq ν2 hsq hq2
                have hm2 := hm.sm (hsn.tr (hsq.up (T := (fun o k => o = m + 19 ∨ o = m + 20 ∨ (o = m ∧ k = 28))) (fun o k h => by omega))) (fun o k h => by omega)
                have hbq : 0 < q → (evI B f g x (evA B f g x) i).2.1 (q - 1) < 2 ^ 31 := fun h => by have := hok.2 (q - 1) (by omega); omega
                refine w_iload hX dX9_findEvents_64 rfl ?_
                refine wn_if_le (tgt := 121) hX dX9_findEvents_66 (by decide) (by omega) (fun c9 => ?_) (fun c9 => ?_)
                · refine w_aload_n (i := 0) hX dX9_findEvents_121 rfl rfl ?_
                  refine w_getR (q := m + 20) hX dX9_findEvents_122 fo_RX9_119 rfl (mod_s hm2.1.1) (mod_r30 hm2.1.1) ?_
                  refine w_iload hX dX9_findEvents_125 rfl ?_
                  refine w_iload hX dX9_findEvents_127 rfl ?_
                  refine w_iastN hX dX9_findEvents_129 (mod_a20 hm2.1.1) (by omega) (by omega) ?_
                  refine w_aload_n (i := 0) hX dX9_findEvents_130 rfl rfl ?_
                  refine w_getR (q := m + 19) hX dX9_findEvents_131 fo_RX9_116 rfl (mod_s hm2.1.1) (mod_r29 hm2.1.1) ?_
                  refine w_iload hX dX9_findEvents_134 rfl ?_
                  refine w_iload_n (i := 3) hX dX9_findEvents_136 rfl rfl ?_
                  refine w_iastN hX dX9_findEvents_137 (mod_a19 hm2.1.1) (by omega) (by omega) ?_
                  refine w_aload_n (i := 0) hX dX9_findEvents_138 rfl rfl ?_
                  refine w_dup hX dX9_findEvents_139 rfl ?_
                  refine w_getI hX dX9_findEvents_140 fo_RX9_381 rfl (mod_s hm2.1.1) ?_
                  refine w_top (y := nI ((evI B f g x (evA B f g x) i).1)) (by rw [gI_no (by omega), gI_no (by omega), (hsq.2.2 _ _ (fun h => by omega)).1]; exact he1.1) ?_
                  refine w_iconst hX dX9_findEvents_143 kI_1 ?_
                  refine w_iaddN hX dX9_findEvents_144 ?_
                  refine w_putI hX dX9_findEvents_145 fo_RX9_381 rfl rfl rfl rfl (mod_s hm2.1.1) ?_
                  refine w_iincN (w := 1) (l2 := [some (.ref m), some (.int (nI f)), some (.int (nI g)), some (.int (nI x)), some (.int (nI (i + 1))), some (.int (nI (mS B x i + (60 * i)))), some (.int (nI q))]) hX dX9_findEvents_148 rfl kI_1 rfl rfl ?_
                  refine w_goto (tgt := 18) hX dX9_findEvents_151 (by decide) ?_
                  refine w_sub (l2 := [some (.ref m), some (.int (nI f)), some (.int (nI g)), some (.int (nI x)), some (.int (nI (i + 1))), none, none]) (by simp [lsub]) (leb rfl) ?_
                  exact ihi (by omega) _ (hsn.tr ((((hsq.up (T := (fun o k => o = m + 19 ∨ o = m + 20 ∨ (o = m ∧ k = 28))) (fun o k h => by omega)).sI (Or.inr (Or.inl rfl))).sI (Or.inl rfl)).sI (Or.inr (Or.inr ⟨rfl, rfl⟩)))) (by rw [evI_S, if_pos (of_decide_eq_true hd)]; exact evQ_end hq2 (by omega) (by omega) (by omega) (by omega) (by omega))
                · refine w_aload_n (i := 0) hX dX9_findEvents_69 rfl rfl ?_
                  refine w_getR (q := m + 20) hX dX9_findEvents_70 fo_RX9_119 rfl (mod_s hm2.1.1) (mod_r30 hm2.1.1) ?_
                  refine w_iload hX dX9_findEvents_73 rfl ?_
                  refine w_iconst hX dX9_findEvents_75 kI_1 ?_
                  refine w_isubN hX dX9_findEvents_76 (by omega) ?_
                  refine w_ialdN hX dX9_findEvents_77 (mod_a20 hm2.1.1) (by omega) (by omega) ?_
                  refine w_top (y := nI ((evI B f g x (evA B f g x) i).2.1 (q - 1))) ((hq2.2.1 _ (by omega)).1) ?_
                  refine w_iload hX dX9_findEvents_78 rfl ?_
                  refine wn_icmp_le (tgt := 121) hX dX9_findEvents_80 (by decide) (by omega) (by omega) (fun c10 => ?_) (fun c10 => ?_)
                  · refine w_aload_n (i := 0) hX dX9_findEvents_121 rfl rfl ?_
                    refine w_getR (q := m + 20) hX dX9_findEvents_122 fo_RX9_119 rfl (mod_s hm2.1.1) (mod_r30 hm2.1.1) ?_
                    refine w_iload hX dX9_findEvents_125 rfl ?_
                    refine w_iload hX dX9_findEvents_127 rfl ?_
                    refine w_iastN hX dX9_findEvents_129 (mod_a20 hm2.1.1) (by omega) (by omega) ?_
                    refine w_aload_n (i := 0) hX dX9_findEvents_130 rfl rfl ?_
                    refine w_getR (q := m + 19) hX dX9_findEvents_131 fo_RX9_116 rfl (mod_s hm2.1.1) (mod_r29 hm2.1.1) ?_
                    refine w_iload hX dX9_findEvents_134 rfl ?_
                    refine w_iload_n (i := 3) hX dX9_findEvents_136 rfl rfl ?_
                    refine w_iastN hX dX9_findEvents_137 (mod_a19 hm2.1.1) (by omega) (by omega) ?_
                    refine w_aload_n (i := 0) hX dX9_findEvents_138 rfl rfl ?_
                    refine w_dup hX dX9_findEvents_139 rfl ?_
                    refine w_getI hX dX9_findEvents_140 fo_RX9_381 rfl (mod_s hm2.1.1) ?_
                    refine w_top (y := nI ((evI B f g x (evA B f g x) i).1)) (by rw [gI_no (by omega), gI_no (by omega), (hsq.2.2 _ _ (fun h => by omega)).1]; exact he1.1) ?_
                    refine w_iconst hX dX9_findEvents_143 kI_1 ?_
                    refine w_iaddN hX dX9_findEvents_144 ?_
                    refine w_putI hX dX9_findEvents_145 fo_RX9_381 rfl rfl rfl rfl (mod_s hm2.1.1) ?_
                    refine w_iincN (w := 1) (l2 := [some (.ref m), some (.int (nI f)), some (.int (nI g)), some (.int (nI x)), some (.int (nI (i + 1))), some (.int (nI (mS B x i + (60 * i)))), some (.int (nI q))]) hX dX9_findEvents_148 rfl kI_1 rfl rfl ?_
                    refine w_goto (tgt := 18) hX dX9_findEvents_151 (by decide) ?_
                    refine w_sub (l2 := [some (.ref m), some (.int (nI f)), some (.int (nI g)), some (.int (nI x)), some (.int (nI (i + 1))), none, none]) (by simp [lsub]) (leb rfl) ?_
                    exact ihi (by omega) _ (hsn.tr ((((hsq.up (T := (fun o k => o = m + 19 ∨ o = m + 20 ∨ (o = m ∧ k = 28))) (fun o k h => by omega)).sI (Or.inr (Or.inl rfl))).sI (Or.inl rfl)).sI (Or.inr (Or.inr ⟨rfl, rfl⟩)))) (by rw [evI_S, if_pos (of_decide_eq_true hd)]; exact evQ_end hq2 (by omega) (by omega) (by omega) (by omega) (by omega))
                  · refine w_aload_n (i := 0) hX dX9_findEvents_83 rfl rfl ?_
                    refine w_getR (q := m + 20) hX dX9_findEvents_84 fo_RX9_119 rfl (mod_s hm2.1.1) (mod_r30 hm2.1.1) ?_
                    refine w_iload hX dX9_findEvents_87 rfl ?_
                    refine w_aload_n (i := 0) hX dX9_findEvents_89 rfl rfl ?_
                    refine w_getR (q := m + 20) hX dX9_findEvents_90 fo_RX9_119 rfl (mod_s hm2.1.1) (mod_r30 hm2.1.1) ?_
                    refine w_iload hX dX9_findEvents_93 rfl ?_
                    refine w_iconst hX dX9_findEvents_95 kI_1 ?_
                    refine w_isubN hX dX9_findEvents_96 (by omega) ?_
                    refine w_ialdN hX dX9_findEvents_97 (mod_a20 hm2.1.1) (by omega) (by omega) ?_
                    refine w_top (y := nI ((evI B f g x (evA B f g x) i).2.1 (q - 1))) ((hq2.2.1 _ (by omega)).1) ?_
                    refine w_iastN hX dX9_findEvents_98 (mod_a20 hm2.1.1) (by omega) (by omega) ?_
                    refine w_aload_n (i := 0) hX dX9_findEvents_99 rfl rfl ?_
                    refine w_getR (q := m + 19) hX dX9_findEvents_100 fo_RX9_116 rfl (mod_s hm2.1.1) (mod_r29 hm2.1.1) ?_
                    refine w_iload hX dX9_findEvents_103 rfl ?_
                    refine w_aload_n (i := 0) hX dX9_findEvents_105 rfl rfl ?_
                    refine w_getR (q := m + 19) hX dX9_findEvents_106 fo_RX9_116 rfl (mod_s hm2.1.1) (mod_r29 hm2.1.1) ?_
                    refine w_iload hX dX9_findEvents_109 rfl ?_
                    refine w_iconst hX dX9_findEvents_111 kI_1 ?_
                    refine w_isubN hX dX9_findEvents_112 (by omega) ?_
                    refine w_ialdN hX dX9_findEvents_113 (mod_a19 hm2.1.1) (by omega) (by omega) ?_
                    refine w_top (y := nI ((evI B f g x (evA B f g x) i).2.2 (q - 1))) (by rw [gI_no (by omega)]; exact (hq2.2.1 _ (by omega)).2) ?_
                    refine w_iastN hX dX9_findEvents_114 (mod_a19 hm2.1.1) (by omega) (by omega) ?_
                    refine w_iincM (l2 := [some (.ref m), some (.int (nI f)), some (.int (nI g)), some (.int (nI x)), some (.int (nI i)), some (.int (nI (mS B x i + (60 * i)))), some (.int (nI (q - 1)))]) hX dX9_findEvents_115 rfl kI_m1 (by omega) rfl rfl ?_
                    refine w_goto (tgt := 64) hX dX9_findEvents_118 (by decide) ?_
                    exact ih (q - 1) (by omega) (by omega) _ ((hsq.sI (Or.inr rfl)).sI (Or.inl rfl)) (evQ_S hq2 (by omega) (by omega) (by omega))
            exact inq (evI B f g x (evA B f g x) i).1 (Nat.le_refl _) ν1 same.rf (evQ_0 he1)
      exact inl 0 (Nat.zero_le _) ν hsm he
  exact loop 0 (Nat.zero_le _) (sI μ m 28 (nI 0)) (same.rf.sI (Or.inr (Or.inr ⟨rfl, rfl⟩))) ⟨gI_same, fun i hi => absurd hi (Nat.not_lt_zero i)⟩
set_option maxHeartbeats 1000000 in
theorem s_m_findMost (Γ : Gm) (μ : Mem) (m : Nat) (B : Nat → Nat) (hm : HM μ m B) (hW : WB B) (f g : Nat) (hf : f ≤ 3649) (hg : g ≤ 3649) : SpI Γ MX9_findMost 3 0 0 [.ref m, .int (nI f), .int (nI g)] μ (fun r μ2 => r = nI (jL B f g) ∧ evR μ2 m 28 (m + 20) (m + 19) (EV B f g) ∧ (∀ s, s < (EV B f g).1 → gI μ2 (m + 21) s = nI ((jC B f g) s)) ∧ same (SF m) μ μ2) := by
  refine SpI.of okX9_findMost rfl [some (.ref m), some (.int (nI f)), some (.int (nI g)), none, none] ⟨rfl, rfl, rfl, trivial⟩ (leb rfl) (leb rfl) (fun X hX hE hnm => ?_)
  refine w_aload_n (i := 0) hX dX9_findMost_0 rfl rfl ?_
  refine w_iload_n (i := 1) hX dX9_findMost_1 rfl rfl ?_
  refine w_iload_n (i := 2) hX dX9_findMost_2 rfl rfl ?_
  refine w_callVV (As := [.int (nI f), .int (nI g)]) (rest := []) (ci := 9) (o := m) (k2 := 0) (n2 := 0) hX dX9_findMost_3 (s_m_events Γ μ m B hm hW f g hf hg) okX9_findEvents (ltb rfl) (mod_s hm.1.1) ml_RX9_387 imX9_findEvents seX9_findEvents rfl (leb rfl) (leb rfl) rfl rfl (fun νe hq9 => ?_)
  obtain ⟨he, hc, hs⟩ := hq9
  have hme := hm.sm hs (fun o k h => by unfold SF at h; omega)
  have ho36 := (ok_EV (f := f) (g := g) hW.1).1
  refine w_iconst hX dX9_findMost_6 kI_0 ?_
  refine w_istore_n (i := 3) (l2 := [some (.ref m), some (.int (nI f)), some (.int (nI g)), some (.int (nI 0)), none]) hX dX9_findMost_7 rfl (ltb rfl) rfl rfl ?_
  refine w_iconst hX dX9_findMost_8 kI_0 ?_
  refine w_istore (l2 := [some (.ref m), some (.int (nI f)), some (.int (nI g)), some (.int (nI 0)), some (.int (nI 0))]) hX dX9_findMost_9 (ltb rfl) rfl rfl ?_
  have loop : ∀ k, k ≤ (EV B f g).1 → WP Γ X 0 0 11 [some (.ref m), some (.int (nI f)), some (.int (nI g)), some (.int (nI (mxU (jC B f g) k))), some (.int (nI k))] [] νe := by
    refine loopU (EV B f g).1 ?_
    intro k hk ih
    have hb : ∀ k, k < (EV B f g).1 → jC B f g k ≤ 36 := fun k hk => by have := (ch_le (cf := (cfE B (EV B f g))) hk).2; unfold jC; omega
    have hml := mxU_le (c := jC B f g) (n := (EV B f g).1) (b := 36) hb k hk
    have hbk := hb k
    refine w_iload hX dX9_findMost_11 rfl ?_
    refine w_aload_n (i := 0) hX dX9_findMost_13 rfl rfl ?_
    refine w_getI hX dX9_findMost_14 fo_RX9_381 rfl (mod_s hme.1.1) ?_
    refine w_top (y := nI ((EV B f g).1)) he.1 ?_
    refine wn_icmp_ge (tgt := 49) hX dX9_findMost_17 (by decide) (by omega) (by omega) (fun c1 => ?_) (fun c1 => ?_)
    · refine w_iload_n (i := 3) hX dX9_findMost_49 rfl rfl ?_
      exact w_iret hX hE dX9_findMost_50 (Or.inl rfl) rfl ⟨by rw [show k = (EV B f g).1 by omega]; rfl, he, hc, hs⟩
    · refine w_aload_n (i := 0) hX dX9_findMost_20 rfl rfl ?_
      refine w_getR (q := m + 21) hX dX9_findMost_21 fo_RX9_122 rfl (mod_s hme.1.1) (mod_r31 hme.1.1) ?_
      refine w_iload hX dX9_findMost_24 rfl ?_
      refine w_ialdN hX dX9_findMost_26 (mod_a21 hme.1.1) (by omega) (by omega) ?_
      refine w_top (y := nI (jC B f g k)) (hc k (by omega)) ?_
      refine w_iload_n (i := 3) hX dX9_findMost_27 rfl rfl ?_
      refine wn_icmp_le (tgt := 41) hX dX9_findMost_28 (by decide) (by omega) (by omega) (fun c2 => ?_) (fun c2 => ?_)
      · refine w_iload_n (i := 3) hX dX9_findMost_41 rfl rfl ?_
        refine w_istore_n (i := 3) (l2 := [some (.ref m), some (.int (nI f)), some (.int (nI g)), some (.int (nI (mxU (jC B f g) k))), some (.int (nI k))]) hX dX9_findMost_42 rfl (ltb rfl) rfl rfl ?_
        refine w_iincN (w := 1) (l2 := [some (.ref m), some (.int (nI f)), some (.int (nI g)), some (.int (nI (mxU (jC B f g) k))), some (.int (nI (k + 1)))]) hX dX9_findMost_43 rfl kI_1 rfl rfl ?_
        refine w_goto (tgt := 11) hX dX9_findMost_46 (by decide) ?_
        have e9 : mxU (jC B f g) k = mxU (jC B f g) (k + 1) := by simp only [mxU]; rw [if_neg (by omega)]
        refine w_locs (ls2 := [some (.ref m), some (.int (nI f)), some (.int (nI g)), some (.int (nI (mxU (jC B f g) (k + 1)))), some (.int (nI (k + 1)))]) (by rw [← e9]) ?_
        exact ih (by omega)
      · refine w_aload_n (i := 0) hX dX9_findMost_31 rfl rfl ?_
        refine w_getR (q := m + 21) hX dX9_findMost_32 fo_RX9_122 rfl (mod_s hme.1.1) (mod_r31 hme.1.1) ?_
        refine w_iload hX dX9_findMost_35 rfl ?_
        refine w_ialdN hX dX9_findMost_37 (mod_a21 hme.1.1) (by omega) (by omega) ?_
        refine w_top (y := nI (jC B f g k)) (hc k (by omega)) ?_
        refine w_goto (tgt := 42) hX dX9_findMost_38 (by decide) ?_
        refine w_istore_n (i := 3) (l2 := [some (.ref m), some (.int (nI f)), some (.int (nI g)), some (.int (nI (jC B f g k))), some (.int (nI k))]) hX dX9_findMost_42 rfl (ltb rfl) rfl rfl ?_
        refine w_iincN (w := 1) (l2 := [some (.ref m), some (.int (nI f)), some (.int (nI g)), some (.int (nI (jC B f g k))), some (.int (nI (k + 1)))]) hX dX9_findMost_43 rfl kI_1 rfl rfl ?_
        refine w_goto (tgt := 11) hX dX9_findMost_46 (by decide) ?_
        have e9 : jC B f g k = mxU (jC B f g) (k + 1) := by simp only [mxU]; rw [if_pos (by omega)]
        refine w_locs (ls2 := [some (.ref m), some (.int (nI f)), some (.int (nI g)), some (.int (nI (mxU (jC B f g) (k + 1)))), some (.int (nI (k + 1)))]) (by rw [← e9]) ?_
        exact ih (by omega)
  exact loop 0 (Nat.zero_le _)
set_option maxHeartbeats 1000000 in
theorem s_m_areDays (Γ : Gm) (μ : Mem) (m : Nat) (B : Nat → Nat) (hm : HM μ m B) (hW : WB B) (f g : Int32) : SpI Γ MX9_areDays 1 0 0 [.ref m, .int f, .int g] μ (fun r μ2 => r = bI (areD B f g) ∧ μ2 = μ) := by
  refine SpI.of okX9_areDays rfl [some (.ref m), some (.int f), some (.int g)] ⟨rfl, rfl, rfl, trivial⟩ (leb rfl) (leb rfl) (fun X hX hE hnm => ?_)
  refine w_aload_n (i := 0) hX dX9_areDays_0 rfl rfl ?_
  refine w_callVI (As := []) (rest := []) (ci := 9) (o := m) (k2 := 0) (n2 := 0) hX dX9_areDays_1 (s_m_towns Γ μ m B hm.1) okX9_towns (ltb rfl) (mod_s hm.1.1) ml_RX9_236 imX9_towns seX9_towns rfl (leb rfl) (leb rfl) rfl rfl (fun r9 μ9 hq9 => ?_)
  obtain ⟨hr9, hm9⟩ := hq9; rw [hr9, hm9]; clear hr9 hm9 r9 μ9
  refine wn_if_le (tgt := 33) hX dX9_areDays_4 (by decide) (by have := hW.1.1; omega) (fun c1 => ?_) (fun c1 => ?_)
  · refine w_iconst hX dX9_areDays_33 kI_0 ?_
    exact w_iret hX hE dX9_areDays_34 (Or.inl rfl) rfl ⟨bI_2 (by rw [areD_m]; first | (simp [hF]; done) | (simp [hG]; done) | (simp [*]; done) | (simp; omega)), rfl⟩
  · refine w_iload_n (i := 1) hX dX9_areDays_7 rfl rfl ?_
    refine w_iconst hX dX9_areDays_8 kI_0 ?_
    refine w_sipush hX dX9_areDays_9 kS_3649 ?_
    refine w_callSI (As := [.int f, .int (nI 0), .int (nI 3649)]) (rest := []) (k2 := 0) (n2 := 0) hX dX9_areDays_12 (s_m_isIn Γ μ f (nI 0) (nI 3649)) okX9_isIn ml_RX9_262 stX9_isIn rfl (leb rfl) (leb rfl) rfl rfl (fun r9 μ9 hq9 => ?_)
    obtain ⟨hr9, hm9⟩ := hq9; rw [hr9, hm9]; clear hr9 hm9 r9 μ9
    refine wb_eq (tgt := 33) hX dX9_areDays_15 (by decide) (fun hF => ?_) (fun hF => ?_)
    · refine w_iconst hX dX9_areDays_33 kI_0 ?_
      exact w_iret hX hE dX9_areDays_34 (Or.inl rfl) rfl ⟨bI_2 (by rw [areD_m]; first | (simp [hF]; done) | (simp [hG]; done) | (simp [*]; done) | (simp; omega)), rfl⟩
    · refine w_iload_n (i := 2) hX dX9_areDays_18 rfl rfl ?_
      refine w_iload_n (i := 1) hX dX9_areDays_19 rfl rfl ?_
      refine w_sipush hX dX9_areDays_20 kS_3649 ?_
      refine w_callSI (As := [.int g, .int f, .int (nI 3649)]) (rest := []) (k2 := 0) (n2 := 0) hX dX9_areDays_23 (s_m_isIn Γ μ g f (nI 3649)) okX9_isIn ml_RX9_262 stX9_isIn rfl (leb rfl) (leb rfl) rfl rfl (fun r9 μ9 hq9 => ?_)
      obtain ⟨hr9, hm9⟩ := hq9; rw [hr9, hm9]; clear hr9 hm9 r9 μ9
      refine wb_eq (tgt := 33) hX dX9_areDays_26 (by decide) (fun hG => ?_) (fun hG => ?_)
      · refine w_iconst hX dX9_areDays_33 kI_0 ?_
        exact w_iret hX hE dX9_areDays_34 (Or.inl rfl) rfl ⟨bI_2 (by rw [areD_m]; first | (simp [hF]; done) | (simp [hG]; done) | (simp [*]; done) | (simp; omega)), rfl⟩
      · refine w_iconst hX dX9_areDays_29 kI_1 ?_
        refine w_goto (tgt := 34) hX dX9_areDays_30 (by decide) ?_
        exact w_iret hX hE dX9_areDays_34 (Or.inl rfl) rfl ⟨bI_1 (by rw [areD_m, hF, hG]; simp; omega), rfl⟩
set_option maxHeartbeats 1000000 in
theorem s_m_most (Γ : Gm) (μ : Mem) (m : Nat) (B : Nat → Nat) (hm : HM μ m B) (hW : WB B) (f g : Int32) : SpI Γ MX9_most 4 0 0 [.ref m, .int f, .int g] μ (fun r μ2 => r = A_most B f g ∧ same (SF m) μ μ2) := by
  refine SpI.of okX9_most rfl [some (.ref m), some (.int f), some (.int g)] ⟨rfl, rfl, rfl, trivial⟩ (leb rfl) (leb rfl) (fun X hX hE hnm => ?_)
  refine w_aload_n (i := 0) hX dX9_most_0 rfl rfl ?_
  refine w_iconst hX dX9_most_1 kI_0 ?_
  refine w_putI hX dX9_most_2 fo_RX9_1 rfl rfl rfl rfl (mod_s hm.1.1) ?_
  have hs0 : same (SF m) μ (sI μ m 0 (nI 0)) := same.rf.sI (Or.inr (Or.inr (Or.inr (Or.inr ⟨rfl, rfl⟩))))
  refine w_aload_n (i := 0) hX dX9_most_5 rfl rfl ?_
  refine w_iload_n (i := 1) hX dX9_most_6 rfl rfl ?_
  refine w_iload_n (i := 2) hX dX9_most_7 rfl rfl ?_
  refine w_callVI (As := [.int f, .int g]) (rest := []) (ci := 9) (o := m) (k2 := 0) (n2 := 0) hX dX9_most_8 (s_m_areDays Γ (sI μ m 0 (nI 0)) m B (HM.sI hm (by omega)) hW f g) okX9_areDays (ltb rfl) (mod_s hm.1.1) ml_RX9_390 imX9_areDays seX9_areDays rfl (leb rfl) (leb rfl) rfl rfl (fun r9 μ9 hq9 => ?_)
  obtain ⟨hr9, hm9⟩ := hq9; rw [hr9, hm9]; clear hr9 hm9 r9 μ9
  refine wb_eq (tgt := 23) hX dX9_most_11 (by decide) (fun hA => ?_) (fun hA => ?_)
  · refine w_iconst hX dX9_most_23 kI_m1 ?_
    exact w_iret hX hE dX9_most_24 (Or.inl rfl) rfl ⟨by unfold A_most; simp [hA], hs0⟩
  · have hn := areD_n hA
    refine w_aload_n (i := 0) hX dX9_most_14 rfl rfl ?_
    refine w_iload_n (i := 1) hX dX9_most_15 rfl rfl ?_
    refine w_top (y := nI (tN f)) hn.1 ?_
    refine w_iload_n (i := 2) hX dX9_most_16 rfl rfl ?_
    refine w_top (y := nI (tN g)) hn.2.1 ?_
    refine w_callVI (As := [.int (nI (tN f)), .int (nI (tN g))]) (rest := []) (ci := 9) (o := m) (k2 := 0) (n2 := 0) hX dX9_most_17 (s_m_findMost Γ (sI μ m 0 (nI 0)) m B (HM.sI hm (by omega)) hW (tN f) (tN g) (by omega) (by omega)) okX9_findMost (ltb rfl) (mod_s hm.1.1) ml_RX9_393 imX9_findMost seX9_findMost rfl (leb rfl) (leb rfl) rfl rfl (fun r9 νe hq9 => ?_)
    obtain ⟨hr9, he, hc, hs1⟩ := hq9; rw [hr9]
    have hs : same (SF m) μ νe := hs0.tr hs1
    have hme := hm.sm hs (fun o k h => by unfold SF at h; omega)
    have ho36 := (ok_EV (f := tN f) (g := tN g) hW.1).1
    have hlj := jL_le (B := B) (f := tN f) (g := tN g) hW.1
    refine w_goto (tgt := 24) hX dX9_most_20 (by decide) ?_
    exact w_iret hX hE dX9_most_24 (Or.inl rfl) rfl ⟨by unfold A_most; simp [hA], hs⟩
set_option maxHeartbeats 1000000 in
theorem s_m_goes (Γ : Gm) (μ : Mem) (m : Nat) (B : Nat → Nat) (hm : HM μ m B) (hW : WB B) (f g k w : Int32) : SpI Γ MX9_goes 4 0 0 [.ref m, .int f, .int g, .int k, .int w] μ (fun r μ2 => r = A_goes B f g k w ∧ same (SF m) μ μ2) := by
  refine SpI.of okX9_goes rfl [some (.ref m), some (.int f), some (.int g), some (.int k), some (.int w), none, none, none, none] ⟨rfl, rfl, rfl, rfl, rfl, trivial⟩ (leb rfl) (leb rfl) (fun X hX hE hnm => ?_)
  refine w_aload_n (i := 0) hX dX9_goes_0 rfl rfl ?_
  refine w_iconst hX dX9_goes_1 kI_0 ?_
  refine w_putI hX dX9_goes_2 fo_RX9_1 rfl rfl rfl rfl (mod_s hm.1.1) ?_
  have hs0 : same (SF m) μ (sI μ m 0 (nI 0)) := same.rf.sI (Or.inr (Or.inr (Or.inr (Or.inr ⟨rfl, rfl⟩))))
  refine w_aload_n (i := 0) hX dX9_goes_5 rfl rfl ?_
  refine w_iload_n (i := 1) hX dX9_goes_6 rfl rfl ?_
  refine w_iload_n (i := 2) hX dX9_goes_7 rfl rfl ?_
  refine w_callVI (As := [.int f, .int g]) (rest := []) (ci := 9) (o := m) (k2 := 0) (n2 := 0) hX dX9_goes_8 (s_m_areDays Γ (sI μ m 0 (nI 0)) m B (HM.sI hm (by omega)) hW f g) okX9_areDays (ltb rfl) (mod_s hm.1.1) ml_RX9_390 imX9_areDays seX9_areDays rfl (leb rfl) (leb rfl) rfl rfl (fun r9 μ9 hq9 => ?_)
  obtain ⟨hr9, hm9⟩ := hq9; rw [hr9, hm9]; clear hr9 hm9 r9 μ9
  refine wb_eq (tgt := 24) hX dX9_goes_11 (by decide) (fun hA => ?_) (fun hA => ?_)
  · refine w_iconst hX dX9_goes_24 kI_m1 ?_
    exact w_iret hX hE dX9_goes_25 (Or.inl rfl) rfl ⟨by unfold A_goes; simp [*], hs0⟩
  · refine w_iload hX dX9_goes_14 rfl ?_
    refine w_iconst hX dX9_goes_16 kI_0 ?_
    refine w_iconst hX dX9_goes_17 kI_1 ?_
    refine w_callSI (As := [.int w, .int (nI 0), .int (nI 1)]) (rest := []) (k2 := 0) (n2 := 0) hX dX9_goes_18 (s_m_isIn Γ (sI μ m 0 (nI 0)) w (nI 0) (nI 1)) okX9_isIn ml_RX9_262 stX9_isIn rfl (leb rfl) (leb rfl) rfl rfl (fun r9 μ9 hq9 => ?_)
    obtain ⟨hr9, hm9⟩ := hq9; rw [hr9, hm9]; clear hr9 hm9 r9 μ9
    refine wb_ne (tgt := 26) hX dX9_goes_21 (by decide) (fun hV => ?_) (fun hV => ?_)
    · have hn := areD_n hA
      refine w_aload_n (i := 0) hX dX9_goes_26 rfl rfl ?_
      refine w_iload_n (i := 1) hX dX9_goes_27 rfl rfl ?_
      refine w_top (y := nI (tN f)) hn.1 ?_
      refine w_iload_n (i := 2) hX dX9_goes_28 rfl rfl ?_
      refine w_top (y := nI (tN g)) hn.2.1 ?_
      refine w_callVI (As := [.int (nI (tN f)), .int (nI (tN g))]) (rest := []) (ci := 9) (o := m) (k2 := 0) (n2 := 0) hX dX9_goes_29 (s_m_findMost Γ (sI μ m 0 (nI 0)) m B (HM.sI hm (by omega)) hW (tN f) (tN g) (by omega) (by omega)) okX9_findMost (ltb rfl) (mod_s hm.1.1) ml_RX9_393 imX9_findMost seX9_findMost rfl (leb rfl) (leb rfl) rfl rfl (fun r9 νe hq9 => ?_)
      obtain ⟨hr9, he, hc, hs1⟩ := hq9; rw [hr9]
      have hs : same (SF m) μ νe := hs0.tr hs1
      have hme := hm.sm hs (fun o k h => by unfold SF at h; omega)
      have ho36 := (ok_EV (f := tN f) (g := tN g) hW.1).1
      have hlj := jL_le (B := B) (f := tN f) (g := tN g) hW.1
      refine w_istore (l2 := [some (.ref m), some (.int f), some (.int g), some (.int k), some (.int w), some (.int (nI (jL B (tN f) (tN g)))), none, none, none]) hX dX9_goes_32 (ltb rfl) rfl rfl ?_
      refine w_iload_n (i := 3) hX dX9_goes_34 rfl rfl ?_
      refine wc_if_lt (tgt := 44) hX dX9_goes_35 (by decide) (fun c3 => ?_) (fun c3 => ?_)
      · refine w_iconst hX dX9_goes_44 kI_m1 ?_
        have hK : inC k (jL B (tN f) (tN g)) = false := by simp only [inC, Bool.and_eq_false_iff, decide_eq_false_iff_not, Int32.le_iff_toInt_le, Int32.lt_iff_toInt_lt] at *; omega
        exact w_iret hX hE dX9_goes_45 (Or.inl rfl) rfl ⟨by unfold A_goes; simp [hK], hs⟩
      · refine w_iload_n (i := 3) hX dX9_goes_38 rfl rfl ?_
        refine w_iload hX dX9_goes_39 rfl ?_
        refine wc_icmp_lt (tgt := 46) hX dX9_goes_41 (by decide) (fun c4 => ?_) (fun c4 => ?_)
        · have hK : inC k (jL B (tN f) (tN g)) = true := by unfold inC; simp only [Bool.and_eq_true, decide_eq_true_eq]; exact ⟨by assumption, by assumption⟩
          have hk := inC_nI (by omega) hK
          refine w_iconst hX dX9_goes_46 kI_m1 ?_
          refine w_istore (l2 := [some (.ref m), some (.int f), some (.int g), some (.int k), some (.int w), some (.int (nI (jL B (tN f) (tN g)))), some (.int ((-1 : Int32))), none, none]) hX dX9_goes_47 (ltb rfl) rfl rfl ?_
          refine w_iconst hX dX9_goes_49 kI_0 ?_
          refine w_istore (l2 := [some (.ref m), some (.int f), some (.int g), some (.int k), some (.int w), some (.int (nI (jL B (tN f) (tN g)))), some (.int ((-1 : Int32))), some (.int (nI 0)), none]) hX dX9_goes_50 (ltb rfl) rfl rfl ?_
          refine w_locs (ls2 := [some (.ref m), some (.int f), some (.int g), some (.int (nI (tN k))), some (.int w), some (.int (nI (jL B (tN f) (tN g)))), some (.int ((-1 : Int32))), some (.int (nI 0)), none]) (by rw [← hk.1]) ?_
          have loop : ∀ i, i ≤ tN k + 1 → WP Γ X 0 0 52 [some (.ref m), some (.int f), some (.int g), some (.int (nI (tN k))), some (.int w), some (.int (nI (jL B (tN f) (tN g)))), some (.int (oI (lstO (cfE B (EV B (tN f) (tN g))) (jC B (tN f) (tN g)) (EV B (tN f) (tN g)).1 (jL B (tN f) (tN g)) i))), some (.int (nI i)), none] [] νe := by
            refine loopU (tN k + 1) ?_
            intro i hi ih
            have hri : i < jL B (tN f) (tN g) → jR B (tN f) (tN g) i < (EV B (tN f) (tN g)).1 ∧ (jC B (tN f) (tN g)) (jR B (tN f) (tN g) i) = jL B (tN f) (tN g) - i := fun h => jR_ok h
            refine w_iload hX dX9_goes_52 rfl ?_
            refine w_iload_n (i := 3) hX dX9_goes_54 rfl rfl ?_
            refine wn_icmp_gt (tgt := 111) hX dX9_goes_55 (by decide) (by omega) (by omega) (fun c5 => ?_) (fun c5 => ?_)
            · have hrk := jR_ok (B := B) (f := tN f) (g := tN g) hk.2
              refine w_locs (ls2 := [some (.ref m), some (.int f), some (.int g), some (.int (nI (tN k))), some (.int w), some (.int (nI (jL B (tN f) (tN g)))), some (.int (nI (jR B (tN f) (tN g) (tN k)))), some (.int (nI i)), none]) (by rw [show i = tN k + 1 by omega]; rfl) ?_
              refine w_iload hX dX9_goes_111 rfl ?_
              refine wc_if_ne (tgt := 126) hX dX9_goes_113 (by decide) (fun c6 => ?_) (fun c6 => ?_)
              · refine w_aload_n (i := 0) hX dX9_goes_126 rfl rfl ?_
                refine w_getR (q := m + 20) hX dX9_goes_127 fo_RX9_119 rfl (mod_s hme.1.1) (mod_r30 hme.1.1) ?_
                refine w_iload hX dX9_goes_130 rfl ?_
                refine w_ialdN hX dX9_goes_132 (mod_a20 hme.1.1) (by omega) (by omega) ?_
                refine w_top (y := nI ((EV B (tN f) (tN g)).2.1 (jR B (tN f) (tN g) (tN k)))) ((he.2 _ hrk.1).1) ?_
                exact w_iret hX hE dX9_goes_133 (Or.inl rfl) rfl ⟨by unfold A_goes; rw [if_pos (by simp [hA, hK, hV]), if_neg (by assumption)], hs⟩
              · refine w_aload_n (i := 0) hX dX9_goes_116 rfl rfl ?_
                refine w_getR (q := m + 19) hX dX9_goes_117 fo_RX9_116 rfl (mod_s hme.1.1) (mod_r29 hme.1.1) ?_
                refine w_iload hX dX9_goes_120 rfl ?_
                refine w_ialdN hX dX9_goes_122 (mod_a19 hme.1.1) (by omega) (by omega) ?_
                refine w_top (y := nI ((EV B (tN f) (tN g)).2.2 (jR B (tN f) (tN g) (tN k)))) ((he.2 _ hrk.1).2) ?_
                refine w_goto (tgt := 133) hX dX9_goes_123 (by decide) ?_
                exact w_iret hX hE dX9_goes_133 (Or.inl rfl) rfl ⟨by unfold A_goes; rw [if_pos (by simp [hA, hK, hV]), if_pos (by assumption)], hs⟩
            · refine w_iload hX dX9_goes_58 rfl ?_
              refine w_iconst hX dX9_goes_60 kI_1 ?_
              refine w_iadd hX dX9_goes_61 ?_
              refine w_top (y := nI (sttS (cfE B (EV B (tN f) (tN g))) (jC B (tN f) (tN g)) (EV B (tN f) (tN g)).1 (jL B (tN f) (tN g)) i)) (oI_stt i) ?_
              refine w_istore (l2 := [some (.ref m), some (.int f), some (.int g), some (.int (nI (tN k))), some (.int w), some (.int (nI (jL B (tN f) (tN g)))), some (.int (oI (lstO (cfE B (EV B (tN f) (tN g))) (jC B (tN f) (tN g)) (EV B (tN f) (tN g)).1 (jL B (tN f) (tN g)) i))), some (.int (nI i)), some (.int (nI (sttS (cfE B (EV B (tN f) (tN g))) (jC B (tN f) (tN g)) (EV B (tN f) (tN g)).1 (jL B (tN f) (tN g)) i)))]) hX dX9_goes_62 (ltb rfl) rfl rfl ?_
              have hri := hri (by omega)
              have inl : ∀ a, a ≤ jR B (tN f) (tN g) i → sttS (cfE B (EV B (tN f) (tN g))) (jC B (tN f) (tN g)) (EV B (tN f) (tN g)).1 (jL B (tN f) (tN g)) i ≤ a → jR B (tN f) (tN g) i = nxt (rwP (cfE B (EV B (tN f) (tN g))) (jC B (tN f) (tN g)) (jL B (tN f) (tN g)) (lstO (cfE B (EV B (tN f) (tN g))) (jC B (tN f) (tN g)) (EV B (tN f) (tN g)).1 (jL B (tN f) (tN g)) i) i) ((EV B (tN f) (tN g)).1 - a) a → WP Γ X 0 0 64 [some (.ref m), some (.int f), some (.int g), some (.int (nI (tN k))), some (.int w), some (.int (nI (jL B (tN f) (tN g)))), some (.int (oI (lstO (cfE B (EV B (tN f) (tN g))) (jC B (tN f) (tN g)) (EV B (tN f) (tN g)).1 (jL B (tN f) (tN g)) i))), some (.int (nI i)), some (.int (nI a))] [] νe := by
                refine loopU (jR B (tN f) (tN g) i) ?_
                intro a ha iha hsa hnx
                have hca : (jC B (tN f) (tN g)) a ≤ 36 := by have := (ch_le (cf := (cfE B (EV B (tN f) (tN g)))) (show a < (EV B (tN f) (tN g)).1 by omega)).2; unfold jC; omega
                refine w_aload_n (i := 0) hX dX9_goes_64 rfl rfl ?_
                refine w_getR (q := m + 21) hX dX9_goes_65 fo_RX9_122 rfl (mod_s hme.1.1) (mod_r31 hme.1.1) ?_
                refine w_iload hX dX9_goes_68 rfl ?_
                refine w_ialdN hX dX9_goes_70 (mod_a21 hme.1.1) (by omega) (by omega) ?_
                refine w_top (y := nI ((jC B (tN f) (tN g)) a)) (hc a (by omega)) ?_
                refine w_iload hX dX9_goes_71 rfl ?_
                refine w_iload hX dX9_goes_73 rfl ?_
                refine w_isubN hX dX9_goes_75 (by omega) ?_
                refine wn_icmp_ne (tgt := 95) hX dX9_goes_76 (by decide) (by omega) (by omega) (fun c7 => ?_) (fun c7 => ?_)
                · refine w_iincN (w := 1) (l2 := [some (.ref m), some (.int f), some (.int g), some (.int (nI (tN k))), some (.int w), some (.int (nI (jL B (tN f) (tN g)))), some (.int (oI (lstO (cfE B (EV B (tN f) (tN g))) (jC B (tN f) (tN g)) (EV B (tN f) (tN g)).1 (jL B (tN f) (tN g)) i))), some (.int (nI i)), some (.int (nI (a + 1)))]) hX dX9_goes_95 rfl kI_1 rfl rfl ?_
                  refine w_goto (tgt := 64) hX dX9_goes_98 (by decide) ?_
                  have hpa : (rwP (cfE B (EV B (tN f) (tN g))) (jC B (tN f) (tN g)) (jL B (tN f) (tN g)) (lstO (cfE B (EV B (tN f) (tN g))) (jC B (tN f) (tN g)) (EV B (tN f) (tN g)).1 (jL B (tN f) (tN g)) i) i) a = false := Bool.eq_false_iff.mpr (fun h8 => by have h7 := (rwP_l i).mp h8; first | omega | (rcases h7.2 with h6 | h6; (omega); (exact absurd (h6.symm.trans hcf) (by decide))))
                  have hnx2 := hnx; rw [nxt_S (by omega) hpa] at hnx2
                  have hge := nxt_ge (P := (rwP (cfE B (EV B (tN f) (tN g))) (jC B (tN f) (tN g)) (jL B (tN f) (tN g)) (lstO (cfE B (EV B (tN f) (tN g))) (jC B (tN f) (tN g)) (EV B (tN f) (tN g)).1 (jL B (tN f) (tN g)) i) i)) ((EV B (tN f) (tN g)).1 - (a + 1)) (a + 1)
                  refine w_locs (ls2 := [some (.ref m), some (.int f), some (.int g), some (.int (nI (tN k))), some (.int w), some (.int (nI (jL B (tN f) (tN g)))), some (.int (oI (lstO (cfE B (EV B (tN f) (tN g))) (jC B (tN f) (tN g)) (EV B (tN f) (tN g)).1 (jL B (tN f) (tN g)) i))), some (.int (nI i)), some (.int (nI (a + 1)))]) (by rfl) ?_
                  exact iha (by omega) (by omega) hnx2
                · rcases Nat.eq_zero_or_pos i with h0 | h0
                  · refine w_locs (ls2 := [some (.ref m), some (.int f), some (.int g), some (.int (nI (tN k))), some (.int w), some (.int (nI (jL B (tN f) (tN g)))), some (.int ((-1 : Int32))), some (.int (nI i)), some (.int (nI a))]) (by rw [h0]; rfl) ?_
                    refine w_iload hX dX9_goes_79 rfl ?_
                    refine wc_if_lt (tgt := 101) hX dX9_goes_81 (by decide) (fun c8 => ?_) (fun c8 => ?_)
                    · refine w_iload hX dX9_goes_101 rfl ?_
                      refine w_istore (l2 := [some (.ref m), some (.int f), some (.int g), some (.int (nI (tN k))), some (.int w), some (.int (nI (jL B (tN f) (tN g)))), some (.int (nI a)), some (.int (nI i)), some (.int (nI a))]) hX dX9_goes_103 (ltb rfl) rfl rfl ?_
                      refine w_iincN (w := 1) (l2 := [some (.ref m), some (.int f), some (.int g), some (.int (nI (tN k))), some (.int w), some (.int (nI (jL B (tN f) (tN g)))), some (.int (nI a)), some (.int (nI (i + 1))), some (.int (nI a))]) hX dX9_goes_105 rfl kI_1 rfl rfl ?_
                      refine w_goto (tgt := 52) hX dX9_goes_108 (by decide) ?_
                      have hpa : (rwP (cfE B (EV B (tN f) (tN g))) (jC B (tN f) (tN g)) (jL B (tN f) (tN g)) (lstO (cfE B (EV B (tN f) (tN g))) (jC B (tN f) (tN g)) (EV B (tN f) (tN g)).1 (jL B (tN f) (tN g)) i) i) a = true := (rwP_l i).mpr ⟨by omega, by first | exact Or.inl (by omega) | exact Or.inr hcf⟩
                      have hra : jR B (tN f) (tN g) i = a := by rw [hnx]; exact nxt_Y (by omega) hpa
                      refine w_sub (l2 := [some (.ref m), some (.int f), some (.int g), some (.int (nI (tN k))), some (.int w), some (.int (nI (jL B (tN f) (tN g)))), some (.int (nI a)), some (.int (nI (i + 1))), none]) (by simp [lsub]) (leb rfl) ?_
                      refine w_locs (ls2 := [some (.ref m), some (.int f), some (.int g), some (.int (nI (tN k))), some (.int w), some (.int (nI (jL B (tN f) (tN g)))), some (.int (oI (lstO (cfE B (EV B (tN f) (tN g))) (jC B (tN f) (tN g)) (EV B (tN f) (tN g)).1 (jL B (tN f) (tN g)) (i + 1)))), some (.int (nI (i + 1))), none]) (by rw [← hra]; rfl) ?_
                      exact ih (by omega)
                    · exact absurd (by assumption : (0 : Int32) ≤ -1) (by decide)
                  · have hrp := (jR_ok (B := B) (f := tN f) (g := tN g) (k := i - 1) (by omega)).1
                    refine w_locs (ls2 := [some (.ref m), some (.int f), some (.int g), some (.int (nI (tN k))), some (.int w), some (.int (nI (jL B (tN f) (tN g)))), some (.int (nI (jR B (tN f) (tN g) (i - 1)))), some (.int (nI i)), some (.int (nI a))]) (by obtain ⟨i9, rfl⟩ : ∃ i9, i = i9 + 1 := ⟨i - 1, by omega⟩; rfl) ?_
                    refine w_iload hX dX9_goes_79 rfl ?_
                    refine wn_if_lt (tgt := 101) hX dX9_goes_81 (by decide) (by omega) (fun c9 => ?_) (fun c9 => ?_)
                    · refine w_iload hX dX9_goes_101 rfl ?_
                      refine w_istore (l2 := [some (.ref m), some (.int f), some (.int g), some (.int (nI (tN k))), some (.int w), some (.int (nI (jL B (tN f) (tN g)))), some (.int (nI a)), some (.int (nI i)), some (.int (nI a))]) hX dX9_goes_103 (ltb rfl) rfl rfl ?_
                      refine w_iincN (w := 1) (l2 := [some (.ref m), some (.int f), some (.int g), some (.int (nI (tN k))), some (.int w), some (.int (nI (jL B (tN f) (tN g)))), some (.int (nI a)), some (.int (nI (i + 1))), some (.int (nI a))]) hX dX9_goes_105 rfl kI_1 rfl rfl ?_
                      refine w_goto (tgt := 52) hX dX9_goes_108 (by decide) ?_
                      have hpa : (rwP (cfE B (EV B (tN f) (tN g))) (jC B (tN f) (tN g)) (jL B (tN f) (tN g)) (lstO (cfE B (EV B (tN f) (tN g))) (jC B (tN f) (tN g)) (EV B (tN f) (tN g)).1 (jL B (tN f) (tN g)) i) i) a = true := (rwP_l i).mpr ⟨by omega, by first | exact Or.inl (by omega) | exact Or.inr hcf⟩
                      have hra : jR B (tN f) (tN g) i = a := by rw [hnx]; exact nxt_Y (by omega) hpa
                      refine w_sub (l2 := [some (.ref m), some (.int f), some (.int g), some (.int (nI (tN k))), some (.int w), some (.int (nI (jL B (tN f) (tN g)))), some (.int (nI a)), some (.int (nI (i + 1))), none]) (by simp [lsub]) (leb rfl) ?_
                      refine w_locs (ls2 := [some (.ref m), some (.int f), some (.int g), some (.int (nI (tN k))), some (.int w), some (.int (nI (jL B (tN f) (tN g)))), some (.int (oI (lstO (cfE B (EV B (tN f) (tN g))) (jC B (tN f) (tN g)) (EV B (tN f) (tN g)).1 (jL B (tN f) (tN g)) (i + 1)))), some (.int (nI (i + 1))), none]) (by rw [← hra]; rfl) ?_
                      exact ih (by omega)
                    · refine w_aload_n (i := 0) hX dX9_goes_84 rfl rfl ?_
                      refine w_iload hX dX9_goes_85 rfl ?_
                      refine w_iload hX dX9_goes_87 rfl ?_
                      refine w_callVI (As := [.int (nI (jR B (tN f) (tN g) (i - 1))), .int (nI a)]) (rest := []) (ci := 9) (o := m) (k2 := 0) (n2 := 0) hX dX9_goes_89 (s_m_follow Γ νe m B hme hW (EV B (tN f) (tN g)) he (ok_EV hW.1) (jR B (tN f) (tN g) (i - 1)) a (by omega) (by omega)) okX9_canFollow (ltb rfl) (mod_s hme.1.1) ml_RX9_384 imX9_canFollow seX9_canFollow rfl (leb rfl) (leb rfl) rfl rfl (fun r9 μ9 hq9 => ?_)
                      obtain ⟨hr9, hm9⟩ := hq9; rw [hr9, hm9]; clear hr9 hm9 r9 μ9
                      refine wb_ne (tgt := 101) hX dX9_goes_92 (by decide) (fun hcf => ?_) (fun hcf => ?_)
                      · refine w_iload hX dX9_goes_101 rfl ?_
                        refine w_istore (l2 := [some (.ref m), some (.int f), some (.int g), some (.int (nI (tN k))), some (.int w), some (.int (nI (jL B (tN f) (tN g)))), some (.int (nI a)), some (.int (nI i)), some (.int (nI a))]) hX dX9_goes_103 (ltb rfl) rfl rfl ?_
                        refine w_iincN (w := 1) (l2 := [some (.ref m), some (.int f), some (.int g), some (.int (nI (tN k))), some (.int w), some (.int (nI (jL B (tN f) (tN g)))), some (.int (nI a)), some (.int (nI (i + 1))), some (.int (nI a))]) hX dX9_goes_105 rfl kI_1 rfl rfl ?_
                        refine w_goto (tgt := 52) hX dX9_goes_108 (by decide) ?_
                        have hpa : (rwP (cfE B (EV B (tN f) (tN g))) (jC B (tN f) (tN g)) (jL B (tN f) (tN g)) (lstO (cfE B (EV B (tN f) (tN g))) (jC B (tN f) (tN g)) (EV B (tN f) (tN g)).1 (jL B (tN f) (tN g)) i) i) a = true := (rwP_l i).mpr ⟨by omega, by first | exact Or.inl (by omega) | exact Or.inr hcf⟩
                        have hra : jR B (tN f) (tN g) i = a := by rw [hnx]; exact nxt_Y (by omega) hpa
                        refine w_sub (l2 := [some (.ref m), some (.int f), some (.int g), some (.int (nI (tN k))), some (.int w), some (.int (nI (jL B (tN f) (tN g)))), some (.int (nI a)), some (.int (nI (i + 1))), none]) (by simp [lsub]) (leb rfl) ?_
                        refine w_locs (ls2 := [some (.ref m), some (.int f), some (.int g), some (.int (nI (tN k))), some (.int w), some (.int (nI (jL B (tN f) (tN g)))), some (.int (oI (lstO (cfE B (EV B (tN f) (tN g))) (jC B (tN f) (tN g)) (EV B (tN f) (tN g)).1 (jL B (tN f) (tN g)) (i + 1)))), some (.int (nI (i + 1))), none]) (by rw [← hra]; rfl) ?_
                        exact ih (by omega)
                      · refine w_iincN (w := 1) (l2 := [some (.ref m), some (.int f), some (.int g), some (.int (nI (tN k))), some (.int w), some (.int (nI (jL B (tN f) (tN g)))), some (.int (nI (jR B (tN f) (tN g) (i - 1)))), some (.int (nI i)), some (.int (nI (a + 1)))]) hX dX9_goes_95 rfl kI_1 rfl rfl ?_
                        refine w_goto (tgt := 64) hX dX9_goes_98 (by decide) ?_
                        have hpa : (rwP (cfE B (EV B (tN f) (tN g))) (jC B (tN f) (tN g)) (jL B (tN f) (tN g)) (lstO (cfE B (EV B (tN f) (tN g))) (jC B (tN f) (tN g)) (EV B (tN f) (tN g)).1 (jL B (tN f) (tN g)) i) i) a = false := Bool.eq_false_iff.mpr (fun h8 => by have h7 := (rwP_l i).mp h8; first | omega | (rcases h7.2 with h6 | h6; (omega); (exact absurd (h6.symm.trans hcf) (by decide))))
                        have hnx2 := hnx; rw [nxt_S (by omega) hpa] at hnx2
                        have hge := nxt_ge (P := (rwP (cfE B (EV B (tN f) (tN g))) (jC B (tN f) (tN g)) (jL B (tN f) (tN g)) (lstO (cfE B (EV B (tN f) (tN g))) (jC B (tN f) (tN g)) (EV B (tN f) (tN g)).1 (jL B (tN f) (tN g)) i) i)) ((EV B (tN f) (tN g)).1 - (a + 1)) (a + 1)
                        refine w_locs (ls2 := [some (.ref m), some (.int f), some (.int g), some (.int (nI (tN k))), some (.int w), some (.int (nI (jL B (tN f) (tN g)))), some (.int (oI (lstO (cfE B (EV B (tN f) (tN g))) (jC B (tN f) (tN g)) (EV B (tN f) (tN g)).1 (jL B (tN f) (tN g)) i))), some (.int (nI i)), some (.int (nI (a + 1)))]) (by obtain ⟨i9, rfl⟩ : ∃ i9, i = i9 + 1 := ⟨i - 1, by omega⟩; rfl) ?_
                        exact iha (by omega) (by omega) hnx2
              have hst := nxt_ge (P := (rwP (cfE B (EV B (tN f) (tN g))) (jC B (tN f) (tN g)) (jL B (tN f) (tN g)) (lstO (cfE B (EV B (tN f) (tN g))) (jC B (tN f) (tN g)) (EV B (tN f) (tN g)).1 (jL B (tN f) (tN g)) i) i)) ((EV B (tN f) (tN g)).1 - (sttS (cfE B (EV B (tN f) (tN g))) (jC B (tN f) (tN g)) (EV B (tN f) (tN g)).1 (jL B (tN f) (tN g)) i)) (sttS (cfE B (EV B (tN f) (tN g))) (jC B (tN f) (tN g)) (EV B (tN f) (tN g)).1 (jL B (tN f) (tN g)) i)
              have hre : jR B (tN f) (tN g) i = nxt (rwP (cfE B (EV B (tN f) (tN g))) (jC B (tN f) (tN g)) (jL B (tN f) (tN g)) (lstO (cfE B (EV B (tN f) (tN g))) (jC B (tN f) (tN g)) (EV B (tN f) (tN g)).1 (jL B (tN f) (tN g)) i) i) ((EV B (tN f) (tN g)).1 - (sttS (cfE B (EV B (tN f) (tN g))) (jC B (tN f) (tN g)) (EV B (tN f) (tN g)).1 (jL B (tN f) (tN g)) i)) (sttS (cfE B (EV B (tN f) (tN g))) (jC B (tN f) (tN g)) (EV B (tN f) (tN g)).1 (jL B (tN f) (tN g)) i) := rwS_e i
              exact inl (sttS (cfE B (EV B (tN f) (tN g))) (jC B (tN f) (tN g)) (EV B (tN f) (tN g)).1 (jL B (tN f) (tN g)) i) (by rw [hre]; exact hst) (Nat.le_refl _) hre
          exact loop 0 (Nat.zero_le _)
        · refine w_iconst hX dX9_goes_44 kI_m1 ?_
          have hK : inC k (jL B (tN f) (tN g)) = false := by simp only [inC, Bool.and_eq_false_iff, decide_eq_false_iff_not, Int32.le_iff_toInt_le, Int32.lt_iff_toInt_lt] at *; omega
          exact w_iret hX hE dX9_goes_45 (Or.inl rfl) rfl ⟨by unfold A_goes; simp [hK], hs⟩
    · refine w_iconst hX dX9_goes_24 kI_m1 ?_
      exact w_iret hX hE dX9_goes_25 (Or.inl rfl) rfl ⟨by unfold A_goes; simp [*], hs0⟩
