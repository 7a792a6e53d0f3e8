def spM (μ : Mem) (b c : Nat) : Mem := sI (sI (sI (sI (sR (sR μ 0 6 (some c)) 0 7 (some b)) 0 8 (nI 0)) 6 5 (nI 0)) 12 9 (-1 : Int32)) 20 6 (-1 : Int32)
def CBP (μ μ2 : Mem) (b c : Nat) (s : Tp) (r : Int32) : Prop := ∃ ν, same (SRB 3 c) (rdM μ 3 1 c) ν ∧ match pRead s with
  | .inl f => r = nI f ∧ 1 ≤ f ∧ f < 2 ^ 20 ∧ μ2 = sI ν 1 1 (nI 0)
  | .inr st => r = nI 0 ∧ Rb ν c st.2.1 ∧ μ2 = spM (sI ν 1 1 (nI 0)) b c
theorem CBP_l {μ μ2 ν : Mem} {b c f : Nat} {s : Tp} {r : Int32} (hs : same (SRB 3 c) (rdM μ 3 1 c) ν) (h : pRead s = .inl f) (h1 : r = nI f ∧ 1 ≤ f ∧ f < 2 ^ 20) (h2 : μ2 = sI ν 1 1 (nI 0)) : CBP μ μ2 b c s r := ⟨ν, hs, by rw [h]; exact ⟨h1.1, h1.2.1, h1.2.2, h2⟩⟩
theorem CBP_r {μ μ2 ν : Mem} {b c : Nat} {st : PSt} {s : Tp} {r : Int32} (hs : same (SRB 3 c) (rdM μ 3 1 c) ν) (h : pRead s = .inr st) (h1 : r = nI 0 ∧ Rb ν c st.2.1) (h2 : μ2 = spM (sI ν 1 1 (nI 0)) b c) : CBP μ μ2 b c s r := ⟨ν, hs, by rw [h]; exact ⟨h1.1, h1.2, h2⟩⟩
theorem isX_rd {μ : Mem} {b c r t q : Nat} (h : isX μ b c) (hr : r ≠ 0) : isX (rdM μ r t q) b c := by
  obtain ⟨h0, h1, h2, h3, h4, h5, h6, h7, h8⟩ := h
  have g : ∀ k, gR (rdM μ r t q) 0 k = gR μ 0 k := fun k => by unfold rdM; rw [gR_ne (by omega), gR_ne (by omega)]
  exact ⟨h0, by rw [g]; exact h1, by rw [g]; exact h2, by rw [g]; exact h3, by rw [g]; exact h4, by rw [g]; exact h5, by rw [g]; exact h6, by rw [g]; exact h7, by rw [g]; exact h8⟩
set_option maxHeartbeats 1000000 in
theorem s_wforget (Γ : Gm) (μ : Mem) (w : Nat) (hs : μ.1[w]? = some (.inl 7)) : SpV Γ MX7_forget 0 0 0 [.ref w] μ (fun μ2 => μ2 = sI μ w 5 (nI 0)) := by
  refine SpV.of okX7_forget rfl [some (.ref w)] ⟨rfl, trivial⟩ (leb rfl) (leb rfl) (fun X hX hE hnm => ?_)
  refine w_aload_n (i := 0) hX dX7_forget_0 rfl rfl ?_
  refine w_iconst hX dX7_forget_1 kI_0 ?_
  refine w_putI hX dX7_forget_2 fo_RX7_30 rfl rfl rfl rfl hs ?_
  exact w_vret hX hE dX7_forget_5 (Or.inl rfl) rfl
set_option maxHeartbeats 1000000 in
theorem s_pforget (Γ : Gm) (μ : Mem) (w : Nat) (hs : μ.1[w]? = some (.inl 3)) : SpV Γ MX3_forget 0 0 0 [.ref w] μ (fun μ2 => μ2 = sI μ w 9 ((-1 : Int32))) := by
  refine SpV.of okX3_forget rfl [some (.ref w)] ⟨rfl, trivial⟩ (leb rfl) (leb rfl) (fun X hX hE hnm => ?_)
  refine w_aload_n (i := 0) hX dX3_forget_0 rfl rfl ?_
  refine w_iconst hX dX3_forget_1 kI_m1 ?_
  refine w_putI hX dX3_forget_2 fo_RX3_29 rfl rfl rfl rfl hs ?_
  exact w_vret hX hE dX3_forget_5 (Or.inl rfl) rfl
set_option maxHeartbeats 1000000 in
theorem s_jforget (Γ : Gm) (μ : Mem) (w : Nat) (hs : μ.1[w]? = some (.inl 2)) : SpV Γ MX2_forget 0 0 0 [.ref w] μ (fun μ2 => μ2 = sI μ w 6 ((-1 : Int32))) := by
  refine SpV.of okX2_forget rfl [some (.ref w)] ⟨rfl, trivial⟩ (leb rfl) (leb rfl) (fun X hX hE hnm => ?_)
  refine w_aload_n (i := 0) hX dX2_forget_0 rfl rfl ?_
  refine w_iconst hX dX2_forget_1 kI_m1 ?_
  refine w_putI hX dX2_forget_2 fo_RX2_28 rfl rfl rfl rfl hs ?_
  exact w_vret hX hE dX2_forget_5 (Or.inl rfl) rfl
set_option maxHeartbeats 1000000 in
theorem s_spare (Γ : Gm) (μ : Mem) (b c9 : Nat) (hx : isX μ b c9) (h6 : μ.1[6]? = some (.inl 7)) (h12 : μ.1[12]? = some (.inl 3)) (h20 : μ.1[20]? = some (.inl 2)) : SpV Γ MX8_takeSpare 1 0 0 [.ref 0] μ (fun μ2 => μ2 = spM μ b c9) := by
  refine SpV.of okX8_takeSpare rfl [some (.ref 0), none] ⟨rfl, trivial⟩ (leb rfl) (leb rfl) (fun X hX hE hnm => ?_)
  refine w_aload_n (i := 0) hX dX8_takeSpare_0 rfl rfl ?_
  refine w_getR (q := b) hX dX8_takeSpare_1 fo_RX8_54 rfl hx.1 hx.2.2.2.2.2.2.2.1 ?_
  refine w_astore_n (i := 1) (l2 := [some (.ref 0), some (.ref b)]) hX dX8_takeSpare_4 rfl (ltb rfl) rfl rfl ?_
  refine w_aload_n (i := 0) hX dX8_takeSpare_5 rfl rfl ?_
  refine w_aload_n (i := 0) hX dX8_takeSpare_6 rfl rfl ?_
  refine w_getR (q := c9) hX dX8_takeSpare_7 fo_RX8_58 rfl hx.1 hx.2.2.2.2.2.2.2.2 ?_
  refine w_putR hX dX8_takeSpare_10 fo_RX8_54 rfl rfl hx.1 ?_
  refine w_aload_n (i := 0) hX dX8_takeSpare_13 rfl rfl ?_
  refine w_aload_n (i := 1) hX dX8_takeSpare_14 rfl rfl ?_
  refine w_putR hX dX8_takeSpare_15 fo_RX8_58 rfl rfl hx.1 ?_
  have hr2 : gR (sR (sR μ 0 6 (some c9)) 0 7 (some b)) 0 2 = some 6 := by rw [gR_ne (by omega), gR_ne (by omega)]; exact hx.2.2.2.1
  have hr3 : gR (sR (sR μ 0 6 (some c9)) 0 7 (some b)) 0 3 = some 12 := by rw [gR_ne (by omega), gR_ne (by omega)]; exact hx.2.2.2.2.1
  have hr5 : gR (sR (sR μ 0 6 (some c9)) 0 7 (some b)) 0 5 = some 20 := by rw [gR_ne (by omega), gR_ne (by omega)]; exact hx.2.2.2.2.2.2.1
  refine w_aload_n (i := 0) hX dX8_takeSpare_18 rfl rfl ?_
  refine w_iconst hX dX8_takeSpare_19 kI_0 ?_
  refine w_putI hX dX8_takeSpare_20 fo_RX8_211 rfl rfl rfl rfl hx.1 ?_
  refine w_aload_n (i := 0) hX dX8_takeSpare_23 rfl rfl ?_
  refine w_getR (q := 6) hX dX8_takeSpare_24 fo_RX8_26 rfl hx.1 hr2 ?_
  refine w_callVV (As := []) (rest := []) (ci := 7) (o := 6) (k2 := 0) (n2 := 0) hX dX8_takeSpare_27 (s_wforget Γ (sI (sR (sR μ 0 6 (some c9)) 0 7 (some b)) 0 8 (nI 0)) 6 h6) okX7_forget (ltb rfl) h6 ml_RX8_220 imX7_forget seX7_forget rfl (leb rfl) (leb rfl) rfl rfl (fun μ9 hq9 => ?_)
  rw [hq9]; clear hq9 μ9
  refine w_aload_n (i := 0) hX dX8_takeSpare_30 rfl rfl ?_
  refine w_getR (q := 12) hX dX8_takeSpare_31 fo_RX8_33 rfl hx.1 hr3 ?_
  refine w_callVV (As := []) (rest := []) (ci := 3) (o := 12) (k2 := 0) (n2 := 0) hX dX8_takeSpare_34 (s_pforget Γ (sI (sI (sR (sR μ 0 6 (some c9)) 0 7 (some b)) 0 8 (nI 0)) 6 5 (nI 0)) 12 h12) okX3_forget (ltb rfl) h12 ml_RX8_223 imX3_forget seX3_forget rfl (leb rfl) (leb rfl) rfl rfl (fun μ9 hq9 => ?_)
  rw [hq9]; clear hq9 μ9
  refine w_aload_n (i := 0) hX dX8_takeSpare_37 rfl rfl ?_
  refine w_getR (q := 20) hX dX8_takeSpare_38 fo_RX8_47 rfl hx.1 hr5 ?_
  refine w_callVV (As := []) (rest := []) (ci := 2) (o := 20) (k2 := 0) (n2 := 0) hX dX8_takeSpare_41 (s_jforget Γ (sI (sI (sI (sR (sR μ 0 6 (some c9)) 0 7 (some b)) 0 8 (nI 0)) 6 5 (nI 0)) 12 9 (-1 : Int32)) 20 h20) okX2_forget (ltb rfl) h20 ml_RX8_224 imX2_forget seX2_forget rfl (leb rfl) (leb rfl) rfl rfl (fun μ9 hq9 => ?_)
  rw [hq9]; clear hq9 μ9
  exact w_vret hX hE dX8_takeSpare_44 (Or.inl rfl) rfl
set_option maxHeartbeats 1000000 in
theorem s_x_book (Γ : Gm) (μ : Mem) (b c9 : Nat) (hx : isX μ b c9) (s : Tp) (hrd : isRd μ 3) (hkw : ∀ k, k < 18 → gL μ (3 + 1) k = lN (kw k)) (htp : tpR μ 1 s) (hok : okT s) (hbk : isBk μ c9) (hc : 25 ≤ c9) (h6 : μ.1[6]? = some (.inl 7)) (h12 : μ.1[12]? = some (.inl 3)) (h20 : μ.1[20]? = some (.inl 2)) : SpI Γ MX8_book 6 0 0 [.ref 0] μ (fun r μ2 => CBP μ μ2 b c9 s r) := by
  refine SpI.of okX8_book rfl [some (.ref 0), none] ⟨rfl, trivial⟩ (leb rfl) (leb rfl) (fun X hX hE hnm => ?_)
  refine w_aload_n (i := 0) hX dX8_book_0 rfl rfl ?_
  refine w_getR (q := 3) hX dX8_book_1 fo_RX8_19 rfl hx.1 hx.2.2.1 ?_
  refine w_aload_n (i := 0) hX dX8_book_4 rfl rfl ?_
  refine w_getR (q := 1) hX dX8_book_5 fo_RX8_10 rfl hx.1 hx.2.1 ?_
  refine w_aload_n (i := 0) hX dX8_book_8 rfl rfl ?_
  refine w_getR (q := c9) hX dX8_book_9 fo_RX8_58 rfl hx.1 hx.2.2.2.2.2.2.2.2 ?_
  refine w_callVI (As := [.ref 1, .ref c9]) (rest := []) (ci := 4) (o := 3) (k2 := 0) (n2 := 0) hX dX8_book_12 (s_r_read Γ μ 3 1 c9 s hrd hkw htp hok hbk (by omega) (by omega)) okX4_read (ltb rfl) hrd.1 ml_RX8_69 imX4_read seX4_read rfl (leb rfl) (leb rfl) rfl rfl (fun q9 ν hq9 => ?_)
  obtain ⟨hsm, hm9⟩ := hq9
  have hx2 := hsm.isX (isX_rd (t := 1) (q := c9) hx (show 3 ≠ 0 by omega))
  have hsh : ν.1 = μ.1 := hsm.1
  have htp2 : ν.1[1]? = some (.inl 5) := by rw [hsh]; exact htp.1.1
  cases h9 : pRead s with
  | inl f =>
    rw [h9] at hm9
    have hq : q9 = nI f ∧ 1 ≤ f ∧ f < 2 ^ 20 := hm9
    refine w_istore_n (i := 1) (l2 := [some (.ref 0), some (.int q9)]) hX dX8_book_15 rfl (ltb rfl) rfl rfl ?_
    refine w_aload_n (i := 0) hX dX8_book_16 rfl rfl ?_
    refine w_getR (q := 1) hX dX8_book_17 fo_RX8_10 rfl hx2.1 hx2.2.1 ?_
    refine w_iconst hX dX8_book_20 kI_0 ?_
    refine w_putI hX dX8_book_21 fo_RX8_65 rfl rfl rfl rfl htp2 ?_
    refine w_locs (ls2 := [some (.ref 0), some (.int (nI f))]) (by rw [hq.1]) ?_
    refine w_iload_n (i := 1) hX dX8_book_24 rfl rfl ?_
    refine wn_if_ne (tgt := 32) hX dX8_book_25 (by decide) (by omega) (fun c1 => ?_) (fun c1 => ?_)
    · refine w_iload_n (i := 1) hX dX8_book_32 rfl rfl ?_
      exact w_iret hX hE dX8_book_33 (Or.inl rfl) rfl (CBP_l hsm h9 ⟨rfl, hq.2⟩ rfl)
    · exfalso; omega
  | inr st9 =>
    rw [h9] at hm9
    have hq : q9 = nI 0 ∧ Rb ν c9 st9.2.1 := hm9
    refine w_istore_n (i := 1) (l2 := [some (.ref 0), some (.int q9)]) hX dX8_book_15 rfl (ltb rfl) rfl rfl ?_
    refine w_aload_n (i := 0) hX dX8_book_16 rfl rfl ?_
    refine w_getR (q := 1) hX dX8_book_17 fo_RX8_10 rfl hx2.1 hx2.2.1 ?_
    refine w_iconst hX dX8_book_20 kI_0 ?_
    refine w_putI hX dX8_book_21 fo_RX8_65 rfl rfl rfl rfl htp2 ?_
    refine w_locs (ls2 := [some (.ref 0), some (.int (nI 0))]) (by rw [hq.1]) ?_
    refine w_iload_n (i := 1) hX dX8_book_24 rfl rfl ?_
    refine wn_if_ne (tgt := 32) hX dX8_book_25 (by decide) (by omega) (fun c2 => ?_) (fun c2 => ?_)
    · exact absurd c2 (by decide)
    · refine w_aload_n (i := 0) hX dX8_book_28 rfl rfl ?_
      refine w_callVV (As := []) (rest := []) (ci := 8) (o := 0) (k2 := 0) (n2 := 0) hX dX8_book_29 (s_spare Γ (sI ν 1 1 (nI 0)) b c9 hx2 (by show ν.1[6]? = _; rw [hsh]; exact h6) (by show ν.1[12]? = _; rw [hsh]; exact h12) (by show ν.1[20]? = _; rw [hsh]; exact h20)) okX8_takeSpare (ltb rfl) hx2.1 ml_RX8_73 imX8_takeSpare seX8_takeSpare rfl (leb rfl) (leb rfl) rfl rfl (fun μ9 hq9 => ?_)
      rw [hq9]; clear hq9 μ9
      refine w_iload_n (i := 1) hX dX8_book_32 rfl rfl ?_
      exact w_iret hX hE dX8_book_33 (Or.inl rfl) rfl (CBP_r hsm h9 ⟨rfl, hq.2⟩ rfl)
