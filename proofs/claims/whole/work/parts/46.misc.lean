def feedT (a b c : Int64) (s : Tp) : Tp := apT c (apT b (apT a s 8) 8) 8
theorem feedT_ok {a b c : Int64} {s : Tp} (h : okT s) : okT (feedT a b c s) := apT_ok (apT_ok (apT_ok h 8) 8) 8
set_option maxHeartbeats 1000000 in
theorem s_x_feed (Γ : Gm) (μ : Mem) (b c9 : Nat) (hx : isX μ b c9) (s : Tp) (ht : tpR μ 1 s) (hs : okT s) (va vb vc : Int64) : SpI Γ MX8_feed 2 0 0 [.ref 0, .long va, .long vb, .long vc] μ (fun r μ2 => r = nI (feedT va vb vc s).2 ∧ same (fun o k => (o = 1 ∧ k = 1) ∨ o = 1 + 1) μ μ2 ∧ tpR μ2 1 (feedT va vb vc s)) := by
  refine SpI.of okX8_feed rfl [some (.ref 0), some (.long va), none, some (.long vb), none, some (.long vc), none] ⟨rfl, rfl, rfl, rfl, trivial⟩ (leb rfl) (leb rfl) (fun X hX hE hnm => ?_)
  refine w_aload_n (i := 0) hX dX8_feed_0 rfl rfl ?_
  refine w_getR (q := 1) hX dX8_feed_1 fo_RX8_10 rfl hx.1 hx.2.1 ?_
  refine w_lload_n (i := 1) hX dX8_feed_4 rfl rfl ?_
  refine w_callVV (As := [.long va]) (rest := []) (ci := 5) (o := 1) (k2 := 0) (n2 := 0) hX dX8_feed_5 (s_append Γ μ 1 va (s) ht hs) okX5_append (ltb rfl) (tp_s ht.1) ml_RX8_61 imX5_append seX5_append rfl (leb rfl) (leb rfl) rfl rfl (fun ν1 hq9 => ?_)
  obtain ⟨hq8, ht1⟩ := hq9
  have hx1 := hq8.isX hx
  have hs1 := apT_ok (v := va) hs 8
  have hc1 := hq8
  refine w_aload_n (i := 0) hX dX8_feed_8 rfl rfl ?_
  refine w_getR (q := 1) hX dX8_feed_9 fo_RX8_10 rfl hx1.1 hx1.2.1 ?_
  refine w_lload_n (i := 3) hX dX8_feed_12 rfl rfl ?_
  refine w_callVV (As := [.long vb]) (rest := []) (ci := 5) (o := 1) (k2 := 0) (n2 := 0) hX dX8_feed_13 (s_append Γ ν1 1 vb (apT va s 8) ht1 hs1) okX5_append (ltb rfl) (tp_s ht1.1) ml_RX8_61 imX5_append seX5_append rfl (leb rfl) (leb rfl) rfl rfl (fun ν2 hq9 => ?_)
  obtain ⟨hq8, ht2⟩ := hq9
  have hx2 := hq8.isX hx1
  have hs2 := apT_ok (v := vb) hs1 8
  have hc2 := hc1.tr hq8
  refine w_aload_n (i := 0) hX dX8_feed_16 rfl rfl ?_
  refine w_getR (q := 1) hX dX8_feed_17 fo_RX8_10 rfl hx2.1 hx2.2.1 ?_
  refine w_lload hX dX8_feed_20 rfl ?_
  refine w_callVV (As := [.long vc]) (rest := []) (ci := 5) (o := 1) (k2 := 0) (n2 := 0) hX dX8_feed_22 (s_append Γ ν2 1 vc (apT vb (apT va s 8) 8) ht2 hs2) okX5_append (ltb rfl) (tp_s ht2.1) ml_RX8_61 imX5_append seX5_append rfl (leb rfl) (leb rfl) rfl rfl (fun ν3 hq9 => ?_)
  obtain ⟨hq8, ht3⟩ := hq9
  have hx3 := hq8.isX hx2
  have hs3 := apT_ok (v := vc) hs2 8
  have hc3 := hc2.tr hq8
  refine w_aload_n (i := 0) hX dX8_feed_25 rfl rfl ?_
  refine w_getR (q := 1) hX dX8_feed_26 fo_RX8_10 rfl hx3.1 hx3.2.1 ?_
  refine w_getI hX dX8_feed_29 fo_RX8_65 rfl (tp_s ht3.1) ?_
  refine w_top (y := nI ((feedT va vb vc s).2)) ht3.2.1 ?_
  exact w_iret hX hE dX8_feed_32 (Or.inl rfl) rfl ⟨rfl, hc3, ht3⟩
set_option maxHeartbeats 1000000 in
theorem s_m_feed (Γ : Gm) (μ : Mem) (m : Nat) (s : Tp) (ht : mtR μ m s) (hs : okT s) (va vb vc : Int64) : SpI Γ MX9_feed 1 0 0 [.ref m, .long va, .long vb, .long vc] μ (fun r μ2 => r = nI (feedT va vb vc s).2 ∧ same (fun o k => (o = m ∧ (k = 2 ∨ k = 0)) ∨ o = m + 1) μ μ2 ∧ mtR μ2 m (feedT va vb vc s)) := by
  refine SpI.of okX9_feed rfl [some (.ref m), some (.long va), none, some (.long vb), none, some (.long vc), none] ⟨rfl, rfl, rfl, rfl, trivial⟩ (leb rfl) (leb rfl) (fun X hX hE hnm => ?_)
  refine w_aload_n (i := 0) hX dX9_feed_0 rfl rfl ?_
  refine w_iconst hX dX9_feed_1 kI_0 ?_
  refine w_putI hX dX9_feed_2 fo_RX9_1 rfl rfl rfl rfl (mod_s ht.1) ?_
  have h00 : mtR (sI μ m 0 (nI 0)) m s := ⟨ht.1, by rw [gI_nk (by omega)]; exact ht.2.1, fun j hj => by rw [gI_no (by omega)]; exact ht.2.2 j hj⟩
  refine w_aload_n (i := 0) hX dX9_feed_5 rfl rfl ?_
  refine w_lload_n (i := 1) hX dX9_feed_6 rfl rfl ?_
  refine w_callVV (As := [.long va]) (rest := []) (ci := 9) (o := m) (k2 := 0) (n2 := 0) hX dX9_feed_7 (s_lay Γ (sI μ m 0 (nI 0)) m va (s) h00 hs) okX9_lay (ltb rfl) (mod_s h00.1) ml_RX9_7 imX9_lay seX9_lay rfl (leb rfl) (leb rfl) rfl rfl (fun ν1 hq9 => ?_)
  obtain ⟨hq8, ht1⟩ := hq9
  have hs1 := apT_ok (v := va) hs 8
  have hc1 := (same.rf.sI (v := nI 0) (S := (fun o k => (o = m ∧ (k = 2 ∨ k = 0)) ∨ o = m + 1)) (μ := μ) (μ2 := μ) (o := m) (k := 0) (Or.inl ⟨rfl, Or.inr rfl⟩)).tr (hq8.up (fun o k h => by rcases h with ⟨h1, h2⟩ | h1; exact Or.inl ⟨h1, Or.inl h2⟩; exact Or.inr h1))
  refine w_aload_n (i := 0) hX dX9_feed_10 rfl rfl ?_
  refine w_lload_n (i := 3) hX dX9_feed_11 rfl rfl ?_
  refine w_callVV (As := [.long vb]) (rest := []) (ci := 9) (o := m) (k2 := 0) (n2 := 0) hX dX9_feed_12 (s_lay Γ ν1 m vb (apT va s 8) ht1 hs1) okX9_lay (ltb rfl) (mod_s ht1.1) ml_RX9_7 imX9_lay seX9_lay rfl (leb rfl) (leb rfl) rfl rfl (fun ν2 hq9 => ?_)
  obtain ⟨hq8, ht2⟩ := hq9
  have hs2 := apT_ok (v := vb) hs1 8
  have hc2 := hc1.tr (hq8.up (fun o k h => by rcases h with ⟨h1, h2⟩ | h1; exact Or.inl ⟨h1, Or.inl h2⟩; exact Or.inr h1))
  refine w_aload_n (i := 0) hX dX9_feed_15 rfl rfl ?_
  refine w_lload hX dX9_feed_16 rfl ?_
  refine w_callVV (As := [.long vc]) (rest := []) (ci := 9) (o := m) (k2 := 0) (n2 := 0) hX dX9_feed_18 (s_lay Γ ν2 m vc (apT vb (apT va s 8) 8) ht2 hs2) okX9_lay (ltb rfl) (mod_s ht2.1) ml_RX9_7 imX9_lay seX9_lay rfl (leb rfl) (leb rfl) rfl rfl (fun ν3 hq9 => ?_)
  obtain ⟨hq8, ht3⟩ := hq9
  have hs3 := apT_ok (v := vc) hs2 8
  have hc3 := hc2.tr (hq8.up (fun o k h => by rcases h with ⟨h1, h2⟩ | h1; exact Or.inl ⟨h1, Or.inl h2⟩; exact Or.inr h1))
  refine w_aload_n (i := 0) hX dX9_feed_21 rfl rfl ?_
  refine w_getI hX dX9_feed_22 fo_RX9_11 rfl (mod_s ht3.1) ?_
  refine w_top (y := nI ((feedT va vb vc s).2)) ht3.2.1 ?_
  exact w_iret hX hE dX9_feed_25 (Or.inl rfl) rfl ⟨rfl, hc3, ht3⟩
theorem sw7 (x : Int32) : x = nI 0 ∨ x = nI 1 ∨ x = nI 2 ∨ x = nI 3 ∨ x = nI 4 ∨ x = nI 5 ∨ x = nI 6 ∨ (x.toInt < 0 ∨ 6 < x.toInt) := by
  by_cases h : x.toInt < 0 ∨ 6 < x.toInt
  · exact Or.inr (Or.inr (Or.inr (Or.inr (Or.inr (Or.inr (Or.inr h))))))
  · have h1 : x.toInt = 0 ∨ x.toInt = 1 ∨ x.toInt = 2 ∨ x.toInt = 3 ∨ x.toInt = 4 ∨ x.toInt = 5 ∨ x.toInt = 6 := by omega
    rcases h1 with h1 | h1 | h1 | h1 | h1 | h1 | h1
    · exact Or.inl (Int32.toInt_inj.mp h1)
    · exact Or.inr (Or.inl (Int32.toInt_inj.mp h1))
    · exact Or.inr (Or.inr (Or.inl (Int32.toInt_inj.mp h1)))
    · exact Or.inr (Or.inr (Or.inr (Or.inl (Int32.toInt_inj.mp h1))))
    · exact Or.inr (Or.inr (Or.inr (Or.inr (Or.inl (Int32.toInt_inj.mp h1)))))
    · exact Or.inr (Or.inr (Or.inr (Or.inr (Or.inr (Or.inl (Int32.toInt_inj.mp h1))))))
    · exact Or.inr (Or.inr (Or.inr (Or.inr (Or.inr (Or.inr (Or.inl (Int32.toInt_inj.mp h1)))))))
def A_count (B : Nat → Nat) (n : Nat) (w : Int32) : Int32 := if w = nI 0 then nI (B 0) else if w = nI 1 then nI (B 85) else if w = nI 2 then nI (B 126) else if w = nI 3 then nI (B 352) else if w = nI 4 then nI (B 401) else if w = nI 5 then nI (wayN B) else if w = nI 6 then nI n else -1
set_option maxHeartbeats 1000000 in
theorem s_x_count (Γ : Gm) (μ : Mem) (b c9 : Nat) (B : Nat → Nat) (hx : isX μ b c9) (hR : Rb μ b B) (hW : WB B) (s : Tp) (ht : tpR μ 1 s) (w : Int32) : SpI Γ MX8_count 0 0 0 [.ref 0, .int w] μ (fun r μ2 => r = A_count B s.2 w ∧ μ2 = μ) := by
  refine SpI.of okX8_count rfl [some (.ref 0), some (.int w)] ⟨rfl, rfl, trivial⟩ (leb rfl) (leb rfl) (fun X hX hE hnm => ?_)
  refine w_iload_n (i := 1) hX dX8_count_0 rfl rfl ?_
  rcases sw7 w with c1 | c1 | c1 | c1 | c1 | c1 | c1 | c1
  · refine w_tableIn (tgt := 44) hX dX8_count_1 (by rw [c1]; decide) (by rw [c1]; decide) (by rw [c1]; rfl) (by decide) ?_
    refine w_aload_n (i := 0) hX dX8_count_44 rfl rfl ?_
    refine w_getR (q := b) hX dX8_count_45 fo_RX8_54 rfl hx.1 hx.2.2.2.2.2.2.2.1 ?_
    refine w_getI hX dX8_count_48 fo_RX8_191 rfl (bk_s hR.1) ?_
    refine w_top (y := nI (B 0)) hR.2.1 ?_
    exact w_iret hX hE dX8_count_51 (Or.inl rfl) rfl ⟨by unfold A_count; rw [if_pos c1], rfl⟩
  · refine w_tableIn (tgt := 52) hX dX8_count_1 (by rw [c1]; decide) (by rw [c1]; decide) (by rw [c1]; rfl) (by decide) ?_
    refine w_aload_n (i := 0) hX dX8_count_52 rfl rfl ?_
    refine w_getR (q := b) hX dX8_count_53 fo_RX8_54 rfl hx.1 hx.2.2.2.2.2.2.2.1 ?_
    refine w_getI hX dX8_count_56 fo_RX8_141 rfl (bk_s hR.1) ?_
    refine w_top (y := nI (B 85)) hR.2.2.2.2.2.1 ?_
    exact w_iret hX hE dX8_count_59 (Or.inl rfl) rfl ⟨by unfold A_count; rw [if_neg (by rw [c1]; decide), if_pos c1], rfl⟩
  · refine w_tableIn (tgt := 60) hX dX8_count_1 (by rw [c1]; decide) (by rw [c1]; decide) (by rw [c1]; rfl) (by decide) ?_
    refine w_aload_n (i := 0) hX dX8_count_60 rfl rfl ?_
    refine w_getR (q := b) hX dX8_count_61 fo_RX8_54 rfl hx.1 hx.2.2.2.2.2.2.2.1 ?_
    refine w_getI hX dX8_count_64 fo_RX8_166 rfl (bk_s hR.1) ?_
    refine w_top (y := nI (B 126)) hR.2.2.2.2.2.2.2.1 ?_
    exact w_iret hX hE dX8_count_67 (Or.inl rfl) rfl ⟨by unfold A_count; rw [if_neg (by rw [c1]; decide), if_neg (by rw [c1]; decide), if_pos c1], rfl⟩
  · refine w_tableIn (tgt := 68) hX dX8_count_1 (by rw [c1]; decide) (by rw [c1]; decide) (by rw [c1]; rfl) (by decide) ?_
    refine w_aload_n (i := 0) hX dX8_count_68 rfl rfl ?_
    refine w_getR (q := b) hX dX8_count_69 fo_RX8_54 rfl hx.1 hx.2.2.2.2.2.2.2.1 ?_
    refine w_getI hX dX8_count_72 fo_RX8_111 rfl (bk_s hR.1) ?_
    refine w_top (y := nI (B 352)) hR.2.2.2.2.2.2.2.2.2.1 ?_
    exact w_iret hX hE dX8_count_75 (Or.inl rfl) rfl ⟨by unfold A_count; rw [if_neg (by rw [c1]; decide), if_neg (by rw [c1]; decide), if_neg (by rw [c1]; decide), if_pos c1], rfl⟩
  · refine w_tableIn (tgt := 76) hX dX8_count_1 (by rw [c1]; decide) (by rw [c1]; decide) (by rw [c1]; rfl) (by decide) ?_
    refine w_aload_n (i := 0) hX dX8_count_76 rfl rfl ?_
    refine w_getR (q := b) hX dX8_count_77 fo_RX8_54 rfl hx.1 hx.2.2.2.2.2.2.2.1 ?_
    refine w_getI hX dX8_count_80 fo_RX8_214 rfl (bk_s hR.1) ?_
    refine w_top (y := nI (B 401)) hR.2.2.2.2.2.2.2.2.2.2.2.1 ?_
    exact w_iret hX hE dX8_count_83 (Or.inl rfl) rfl ⟨by unfold A_count; rw [if_neg (by rw [c1]; decide), if_neg (by rw [c1]; decide), if_neg (by rw [c1]; decide), if_neg (by rw [c1]; decide), if_pos c1], rfl⟩
  · refine w_tableIn (tgt := 84) hX dX8_count_1 (by rw [c1]; decide) (by rw [c1]; decide) (by rw [c1]; rfl) (by decide) ?_
    refine w_aload_n (i := 0) hX dX8_count_84 rfl rfl ?_
    refine w_getR (q := b) hX dX8_count_85 fo_RX8_54 rfl hx.1 hx.2.2.2.2.2.2.2.1 ?_
    refine w_getI hX dX8_count_88 fo_RX8_217 rfl (bk_s hR.1) ?_
    refine w_top (y := nI (wayN B)) hR.2.2.2.2.1 ?_
    exact w_iret hX hE dX8_count_91 (Or.inl rfl) rfl ⟨by unfold A_count; rw [if_neg (by rw [c1]; decide), if_neg (by rw [c1]; decide), if_neg (by rw [c1]; decide), if_neg (by rw [c1]; decide), if_neg (by rw [c1]; decide), if_pos c1], rfl⟩
  · refine w_tableIn (tgt := 92) hX dX8_count_1 (by rw [c1]; decide) (by rw [c1]; decide) (by rw [c1]; rfl) (by decide) ?_
    refine w_aload_n (i := 0) hX dX8_count_92 rfl rfl ?_
    refine w_getR (q := 1) hX dX8_count_93 fo_RX8_10 rfl hx.1 hx.2.1 ?_
    refine w_getI hX dX8_count_96 fo_RX8_65 rfl (tp_s ht.1) ?_
    refine w_top (y := nI s.2) ht.2.1 ?_
    exact w_iret hX hE dX8_count_99 (Or.inl rfl) rfl ⟨by unfold A_count; rw [if_neg (by rw [c1]; decide), if_neg (by rw [c1]; decide), if_neg (by rw [c1]; decide), if_neg (by rw [c1]; decide), if_neg (by rw [c1]; decide), if_neg (by rw [c1]; decide), if_pos c1], rfl⟩
  · refine w_tableOut (tgt := 100) hX dX8_count_1 c1 (by decide) ?_
    refine w_iconst hX dX8_count_100 kI_m1 ?_
    exact w_iret hX hE dX8_count_101 (Or.inl rfl) rfl ⟨by unfold A_count; rw [if_neg (fun e => by rw [e] at c1; revert c1; decide), if_neg (fun e => by rw [e] at c1; revert c1; decide), if_neg (fun e => by rw [e] at c1; revert c1; decide), if_neg (fun e => by rw [e] at c1; revert c1; decide), if_neg (fun e => by rw [e] at c1; revert c1; decide), if_neg (fun e => by rw [e] at c1; revert c1; decide), if_neg (fun e => by rw [e] at c1; revert c1; decide)], rfl⟩
set_option maxHeartbeats 1000000 in
theorem s_m_count (Γ : Gm) (μ : Mem) (m : Nat) (B : Nat → Nat) (hm : HM μ m B) (hW : WB B) (s : Tp) (ht : mtR μ m s) (w : Int32) : SpI Γ MX9_count 1 0 0 [.ref m, .int w] μ (fun r μ2 => r = A_count B s.2 w ∧ μ2 = sI μ m 0 (nI 0)) := by
  refine SpI.of okX9_count rfl [some (.ref m), some (.int w), none, none, none] ⟨rfl, rfl, trivial⟩ (leb rfl) (leb rfl) (fun X hX hE hnm => ?_)
  refine w_aload_n (i := 0) hX dX9_count_0 rfl rfl ?_
  refine w_iconst hX dX9_count_1 kI_0 ?_
  refine w_putI hX dX9_count_2 fo_RX9_1 rfl rfl rfl rfl (mod_s hm.1.1) ?_
  refine w_iconst hX dX9_count_5 kI_0 ?_
  refine w_istore_n (i := 2) (l2 := [some (.ref m), some (.int w), some (.int (nI 0)), none, none]) hX dX9_count_6 rfl (ltb rfl) rfl rfl ?_
  refine w_iload_n (i := 1) hX dX9_count_7 rfl rfl ?_
  rcases sw7 w with c1 | c1 | c1 | c1 | c1 | c1 | c1 | c1
  · refine w_tableIn (tgt := 52) hX dX9_count_8 (by rw [c1]; decide) (by rw [c1]; decide) (by rw [c1]; rfl) (by decide) ?_
    refine w_aload_n (i := 0) hX dX9_count_52 rfl rfl ?_
    refine w_callVI (As := []) (rest := []) (ci := 9) (o := m) (k2 := 0) (n2 := 0) hX dX9_count_53 (s_m_towns Γ (sI μ m 0 (nI 0)) m B (hm.f (by omega)).1) okX9_towns (ltb rfl) (mod_s hm.1.1) ml_RX9_236 imX9_towns seX9_towns rfl (leb rfl) (leb rfl) rfl rfl (fun r9 μ9 hq9 => ?_)
    obtain ⟨hr9, hm9⟩ := hq9; rw [hr9, hm9]; clear hr9 hm9 r9 μ9
    exact w_iret hX hE dX9_count_56 (Or.inl rfl) rfl ⟨by unfold A_count; rw [if_pos c1], rfl⟩
  · refine w_tableIn (tgt := 57) hX dX9_count_8 (by rw [c1]; decide) (by rw [c1]; decide) (by rw [c1]; rfl) (by decide) ?_
    refine w_aload_n (i := 0) hX dX9_count_57 rfl rfl ?_
    refine w_callVI (As := []) (rest := []) (ci := 9) (o := m) (k2 := 0) (n2 := 0) hX dX9_count_58 (s_m_works Γ (sI μ m 0 (nI 0)) m B (hm.f (by omega)) hW) okX9_works (ltb rfl) (mod_s hm.1.1) ml_RX9_317 imX9_works seX9_works rfl (leb rfl) (leb rfl) rfl rfl (fun r9 μ9 hq9 => ?_)
    obtain ⟨hr9, hm9⟩ := hq9; rw [hr9, hm9]; clear hr9 hm9 r9 μ9
    exact w_iret hX hE dX9_count_61 (Or.inl rfl) rfl ⟨by unfold A_count; rw [if_neg (by rw [c1]; decide), if_pos c1], rfl⟩
  · refine w_tableIn (tgt := 62) hX dX9_count_8 (by rw [c1]; decide) (by rw [c1]; decide) (by rw [c1]; rfl) (by decide) ?_
    refine w_aload_n (i := 0) hX dX9_count_62 rfl rfl ?_
    refine w_callVI (As := []) (rest := []) (ci := 9) (o := m) (k2 := 0) (n2 := 0) hX dX9_count_63 (s_m_persons Γ (sI μ m 0 (nI 0)) m B (hm.f (by omega)) hW) okX9_persons (ltb rfl) (mod_s hm.1.1) ml_RX9_348 imX9_persons seX9_persons rfl (leb rfl) (leb rfl) rfl rfl (fun r9 μ9 hq9 => ?_)
    obtain ⟨hr9, hm9⟩ := hq9; rw [hr9, hm9]; clear hr9 hm9 r9 μ9
    exact w_iret hX hE dX9_count_66 (Or.inl rfl) rfl ⟨by unfold A_count; rw [if_neg (by rw [c1]; decide), if_neg (by rw [c1]; decide), if_pos c1], rfl⟩
  · refine w_tableIn (tgt := 67) hX dX9_count_8 (by rw [c1]; decide) (by rw [c1]; decide) (by rw [c1]; rfl) (by decide) ?_
    refine w_aload_n (i := 0) hX dX9_count_67 rfl rfl ?_
    refine w_callVI (As := []) (rest := []) (ci := 9) (o := m) (k2 := 0) (n2 := 0) hX dX9_count_68 (s_m_papers Γ (sI μ m 0 (nI 0)) m B (hm.f (by omega)) hW) okX9_papers (ltb rfl) (mod_s hm.1.1) ml_RX9_284 imX9_papers seX9_papers rfl (leb rfl) (leb rfl) rfl rfl (fun r9 μ9 hq9 => ?_)
    obtain ⟨hr9, hm9⟩ := hq9; rw [hr9, hm9]; clear hr9 hm9 r9 μ9
    exact w_iret hX hE dX9_count_71 (Or.inl rfl) rfl ⟨by unfold A_count; rw [if_neg (by rw [c1]; decide), if_neg (by rw [c1]; decide), if_neg (by rw [c1]; decide), if_pos c1], rfl⟩
  · refine w_tableIn (tgt := 72) hX dX9_count_8 (by rw [c1]; decide) (by rw [c1]; decide) (by rw [c1]; rfl) (by decide) ?_
    refine w_aload_n (i := 0) hX dX9_count_72 rfl rfl ?_
    refine w_getR (q := m + 6) hX dX9_count_73 fo_RX9_73 rfl (mod_s hm.1.1) (mod_r10 hm.1.1) ?_
    refine w_sipush hX dX9_count_76 kS_401 ?_
    refine w_ialdN hX dX9_count_79 (mod_a6 hm.1.1) (by omega) (by omega) ?_
    refine w_top (y := nI (B 401)) ((hm.f (by omega)).1.2 _ (by omega)).1 ?_
    exact w_iret hX hE dX9_count_80 (Or.inl rfl) rfl ⟨by unfold A_count; rw [if_neg (by rw [c1]; decide), if_neg (by rw [c1]; decide), if_neg (by rw [c1]; decide), if_neg (by rw [c1]; decide), if_pos c1], rfl⟩
  · refine w_tableIn (tgt := 81) hX dX9_count_8 (by rw [c1]; decide) (by rw [c1]; decide) (by rw [c1]; rfl) (by decide) ?_
    refine w_iconst hX dX9_count_81 kI_0 ?_
    refine w_istore_n (i := 3) (l2 := [some (.ref m), some (.int w), some (.int (nI 0)), some (.int (nI 0)), none]) hX dX9_count_82 rfl (ltb rfl) rfl rfl ?_
    refine w_iload_n (i := 3) hX dX9_count_83 rfl rfl ?_
    refine w_iconst hX dX9_count_84 kI_3 ?_
    refine wn_icmp_ge (tgt := 134) hX dX9_count_85 (by decide) (by first | omega | (have q1 := (hW.2.1 1 0 (by omega) (by omega)).1; have q2 := (hW.2.1 2 0 (by omega) (by omega)).1; have q3 := (hW.2.1 2 1 (by omega) (by omega)).1; simp only [Nat.reduceMul, Nat.reduceAdd] at *; omega)) (by first | omega | (have q1 := (hW.2.1 1 0 (by omega) (by omega)).1; have q2 := (hW.2.1 2 0 (by omega) (by omega)).1; have q3 := (hW.2.1 2 1 (by omega) (by omega)).1; simp only [Nat.reduceMul, Nat.reduceAdd] at *; omega)) (fun c2 => ?_) (fun c2 => ?_)
    · exact absurd c2 (by decide)
    · refine w_iconst hX dX9_count_88 kI_0 ?_
      refine w_istore (l2 := [some (.ref m), some (.int w), some (.int (nI 0)), some (.int (nI 0)), some (.int (nI 0))]) hX dX9_count_89 (ltb rfl) rfl rfl ?_
      refine w_iload hX dX9_count_91 rfl ?_
      refine w_iload_n (i := 3) hX dX9_count_93 rfl rfl ?_
      refine wn_icmp_ge (tgt := 128) hX dX9_count_94 (by decide) (by first | omega | (have q1 := (hW.2.1 1 0 (by omega) (by omega)).1; have q2 := (hW.2.1 2 0 (by omega) (by omega)).1; have q3 := (hW.2.1 2 1 (by omega) (by omega)).1; simp only [Nat.reduceMul, Nat.reduceAdd] at *; omega)) (by first | omega | (have q1 := (hW.2.1 1 0 (by omega) (by omega)).1; have q2 := (hW.2.1 2 0 (by omega) (by omega)).1; have q3 := (hW.2.1 2 1 (by omega) (by omega)).1; simp only [Nat.reduceMul, Nat.reduceAdd] at *; omega)) (fun c3 => ?_) (fun c3 => ?_)
      · refine w_iincN (w := 1) (l2 := [some (.ref m), some (.int w), some (.int (nI 0)), some (.int (nI 1)), some (.int (nI 0))]) hX dX9_count_128 rfl kI_1 rfl rfl ?_
        refine w_goto (tgt := 83) hX dX9_count_131 (by decide) ?_
        refine w_iload_n (i := 3) hX dX9_count_83 rfl rfl ?_
        refine w_iconst hX dX9_count_84 kI_3 ?_
        refine wn_icmp_ge (tgt := 134) hX dX9_count_85 (by decide) (by first | omega | (have q1 := (hW.2.1 1 0 (by omega) (by omega)).1; have q2 := (hW.2.1 2 0 (by omega) (by omega)).1; have q3 := (hW.2.1 2 1 (by omega) (by omega)).1; simp only [Nat.reduceMul, Nat.reduceAdd] at *; omega)) (by first | omega | (have q1 := (hW.2.1 1 0 (by omega) (by omega)).1; have q2 := (hW.2.1 2 0 (by omega) (by omega)).1; have q3 := (hW.2.1 2 1 (by omega) (by omega)).1; simp only [Nat.reduceMul, Nat.reduceAdd] at *; omega)) (fun c4 => ?_) (fun c4 => ?_)
        · exact absurd c4 (by decide)
        · refine w_iconst hX dX9_count_88 kI_0 ?_
          refine w_istore (l2 := [some (.ref m), some (.int w), some (.int (nI 0)), some (.int (nI 1)), some (.int (nI 0))]) hX dX9_count_89 (ltb rfl) rfl rfl ?_
          refine w_iload hX dX9_count_91 rfl ?_
          refine w_iload_n (i := 3) hX dX9_count_93 rfl rfl ?_
          refine wn_icmp_ge (tgt := 128) hX dX9_count_94 (by decide) (by first | omega | (have q1 := (hW.2.1 1 0 (by omega) (by omega)).1; have q2 := (hW.2.1 2 0 (by omega) (by omega)).1; have q3 := (hW.2.1 2 1 (by omega) (by omega)).1; simp only [Nat.reduceMul, Nat.reduceAdd] at *; omega)) (by first | omega | (have q1 := (hW.2.1 1 0 (by omega) (by omega)).1; have q2 := (hW.2.1 2 0 (by omega) (by omega)).1; have q3 := (hW.2.1 2 1 (by omega) (by omega)).1; simp only [Nat.reduceMul, Nat.reduceAdd] at *; omega)) (fun c5 => ?_) (fun c5 => ?_)
          · exact absurd c5 (by decide)
          · refine w_iload_n (i := 2) hX dX9_count_97 rfl rfl ?_
            refine w_aload_n (i := 0) hX dX9_count_98 rfl rfl ?_
            refine w_getR (q := m + 6) hX dX9_count_99 fo_RX9_73 rfl (mod_s hm.1.1) (mod_r10 hm.1.1) ?_
            refine w_bipush hX dX9_count_102 kB_76 ?_
            refine w_iconst hX dX9_count_104 kI_3 ?_
            refine w_iload_n (i := 3) hX dX9_count_105 rfl rfl ?_
            refine w_imulN hX dX9_count_106 ?_
            refine w_iaddN hX dX9_count_107 ?_
            refine w_iload hX dX9_count_108 rfl ?_
            refine w_iaddN hX dX9_count_110 ?_
            refine w_ialdN hX dX9_count_111 (mod_a6 hm.1.1) (by omega) (by omega) ?_
            refine w_top (y := nI (B (76 + (3 * 1) + 0))) ((hm.f (by omega)).1.2 _ (by omega)).1 ?_
            refine wn_if_le (tgt := 119) hX dX9_count_112 (by decide) (by first | omega | (have q1 := (hW.2.1 1 0 (by omega) (by omega)).1; have q2 := (hW.2.1 2 0 (by omega) (by omega)).1; have q3 := (hW.2.1 2 1 (by omega) (by omega)).1; simp only [Nat.reduceMul, Nat.reduceAdd] at *; omega)) (fun c6 => ?_) (fun c6 => ?_)
            · refine w_iconst hX dX9_count_119 kI_0 ?_
              refine w_iaddN hX dX9_count_120 ?_
              refine w_istore_n (i := 2) (l2 := [some (.ref m), some (.int w), some (.int (nI (0 + 0))), some (.int (nI 1)), some (.int (nI 0))]) hX dX9_count_121 rfl (ltb rfl) rfl rfl ?_
              refine w_iincN (w := 1) (l2 := [some (.ref m), some (.int w), some (.int (nI (0 + 0))), some (.int (nI 1)), some (.int (nI 1))]) hX dX9_count_122 rfl kI_1 rfl rfl ?_
              refine w_goto (tgt := 91) hX dX9_count_125 (by decide) ?_
              refine w_iload hX dX9_count_91 rfl ?_
              refine w_iload_n (i := 3) hX dX9_count_93 rfl rfl ?_
              refine wn_icmp_ge (tgt := 128) hX dX9_count_94 (by decide) (by first | omega | (have q1 := (hW.2.1 1 0 (by omega) (by omega)).1; have q2 := (hW.2.1 2 0 (by omega) (by omega)).1; have q3 := (hW.2.1 2 1 (by omega) (by omega)).1; simp only [Nat.reduceMul, Nat.reduceAdd] at *; omega)) (by first | omega | (have q1 := (hW.2.1 1 0 (by omega) (by omega)).1; have q2 := (hW.2.1 2 0 (by omega) (by omega)).1; have q3 := (hW.2.1 2 1 (by omega) (by omega)).1; simp only [Nat.reduceMul, Nat.reduceAdd] at *; omega)) (fun c7 => ?_) (fun c7 => ?_)
              · refine w_iincN (w := 1) (l2 := [some (.ref m), some (.int w), some (.int (nI (0 + 0))), some (.int (nI 2)), some (.int (nI 1))]) hX dX9_count_128 rfl kI_1 rfl rfl ?_
                refine w_goto (tgt := 83) hX dX9_count_131 (by decide) ?_
                refine w_iload_n (i := 3) hX dX9_count_83 rfl rfl ?_
                refine w_iconst hX dX9_count_84 kI_3 ?_
                refine wn_icmp_ge (tgt := 134) hX dX9_count_85 (by decide) (by first | omega | (have q1 := (hW.2.1 1 0 (by omega) (by omega)).1; have q2 := (hW.2.1 2 0 (by omega) (by omega)).1; have q3 := (hW.2.1 2 1 (by omega) (by omega)).1; simp only [Nat.reduceMul, Nat.reduceAdd] at *; omega)) (by first | omega | (have q1 := (hW.2.1 1 0 (by omega) (by omega)).1; have q2 := (hW.2.1 2 0 (by omega) (by omega)).1; have q3 := (hW.2.1 2 1 (by omega) (by omega)).1; simp only [Nat.reduceMul, Nat.reduceAdd] at *; omega)) (fun c8 => ?_) (fun c8 => ?_)
                · exact absurd c8 (by decide)
                · refine w_iconst hX dX9_count_88 kI_0 ?_
                  refine w_istore (l2 := [some (.ref m), some (.int w), some (.int (nI (0 + 0))), some (.int (nI 2)), some (.int (nI 0))]) hX dX9_count_89 (ltb rfl) rfl rfl ?_
                  refine w_iload hX dX9_count_91 rfl ?_
                  refine w_iload_n (i := 3) hX dX9_count_93 rfl rfl ?_
                  refine wn_icmp_ge (tgt := 128) hX dX9_count_94 (by decide) (by first | omega | (have q1 := (hW.2.1 1 0 (by omega) (by omega)).1; have q2 := (hW.2.1 2 0 (by omega) (by omega)).1; have q3 := (hW.2.1 2 1 (by omega) (by omega)).1; simp only [Nat.reduceMul, Nat.reduceAdd] at *; omega)) (by first | omega | (have q1 := (hW.2.1 1 0 (by omega) (by omega)).1; have q2 := (hW.2.1 2 0 (by omega) (by omega)).1; have q3 := (hW.2.1 2 1 (by omega) (by omega)).1; simp only [Nat.reduceMul, Nat.reduceAdd] at *; omega)) (fun c9 => ?_) (fun c9 => ?_)
                  · exact absurd c9 (by decide)
                  · refine w_iload_n (i := 2) hX dX9_count_97 rfl rfl ?_
                    refine w_aload_n (i := 0) hX dX9_count_98 rfl rfl ?_
                    refine w_getR (q := m + 6) hX dX9_count_99 fo_RX9_73 rfl (mod_s hm.1.1) (mod_r10 hm.1.1) ?_
                    refine w_bipush hX dX9_count_102 kB_76 ?_
                    refine w_iconst hX dX9_count_104 kI_3 ?_
                    refine w_iload_n (i := 3) hX dX9_count_105 rfl rfl ?_
                    refine w_imulN hX dX9_count_106 ?_
                    refine w_iaddN hX dX9_count_107 ?_
                    refine w_iload hX dX9_count_108 rfl ?_
                    refine w_iaddN hX dX9_count_110 ?_
                    refine w_ialdN hX dX9_count_111 (mod_a6 hm.1.1) (by omega) (by omega) ?_
                    refine w_top (y := nI (B (76 + (3 * 2) + 0))) ((hm.f (by omega)).1.2 _ (by omega)).1 ?_
                    refine wn_if_le (tgt := 119) hX dX9_count_112 (by decide) (by first | omega | (have q1 := (hW.2.1 1 0 (by omega) (by omega)).1; have q2 := (hW.2.1 2 0 (by omega) (by omega)).1; have q3 := (hW.2.1 2 1 (by omega) (by omega)).1; simp only [Nat.reduceMul, Nat.reduceAdd] at *; omega)) (fun c10 => ?_) (fun c10 => ?_)
                    · refine w_iconst hX dX9_count_119 kI_0 ?_
                      refine w_iaddN hX dX9_count_120 ?_
                      refine w_istore_n (i := 2) (l2 := [some (.ref m), some (.int w), some (.int (nI (0 + 0 + 0))), some (.int (nI 2)), some (.int (nI 0))]) hX dX9_count_121 rfl (ltb rfl) rfl rfl ?_
                      refine w_iincN (w := 1) (l2 := [some (.ref m), some (.int w), some (.int (nI (0 + 0 + 0))), some (.int (nI 2)), some (.int (nI 1))]) hX dX9_count_122 rfl kI_1 rfl rfl ?_
                      refine w_goto (tgt := 91) hX dX9_count_125 (by decide) ?_
                      refine w_iload hX dX9_count_91 rfl ?_
                      refine w_iload_n (i := 3) hX dX9_count_93 rfl rfl ?_
                      refine wn_icmp_ge (tgt := 128) hX dX9_count_94 (by decide) (by first | omega | (have q1 := (hW.2.1 1 0 (by omega) (by omega)).1; have q2 := (hW.2.1 2 0 (by omega) (by omega)).1; have q3 := (hW.2.1 2 1 (by omega) (by omega)).1; simp only [Nat.reduceMul, Nat.reduceAdd] at *; omega)) (by first | omega | (have q1 := (hW.2.1 1 0 (by omega) (by omega)).1; have q2 := (hW.2.1 2 0 (by omega) (by omega)).1; have q3 := (hW.2.1 2 1 (by omega) (by omega)).1; simp only [Nat.reduceMul, Nat.reduceAdd] at *; omega)) (fun c11 => ?_) (fun c11 => ?_)
                      · exact absurd c11 (by decide)
                      · refine w_iload_n (i := 2) hX dX9_count_97 rfl rfl ?_
                        refine w_aload_n (i := 0) hX dX9_count_98 rfl rfl ?_
                        refine w_getR (q := m + 6) hX dX9_count_99 fo_RX9_73 rfl (mod_s hm.1.1) (mod_r10 hm.1.1) ?_
                        refine w_bipush hX dX9_count_102 kB_76 ?_
                        refine w_iconst hX dX9_count_104 kI_3 ?_
                        refine w_iload_n (i := 3) hX dX9_count_105 rfl rfl ?_
                        refine w_imulN hX dX9_count_106 ?_
                        refine w_iaddN hX dX9_count_107 ?_
                        refine w_iload hX dX9_count_108 rfl ?_
                        refine w_iaddN hX dX9_count_110 ?_
                        refine w_ialdN hX dX9_count_111 (mod_a6 hm.1.1) (by omega) (by omega) ?_
                        refine w_top (y := nI (B (76 + (3 * 2) + 1))) ((hm.f (by omega)).1.2 _ (by omega)).1 ?_
                        refine wn_if_le (tgt := 119) hX dX9_count_112 (by decide) (by first | omega | (have q1 := (hW.2.1 1 0 (by omega) (by omega)).1; have q2 := (hW.2.1 2 0 (by omega) (by omega)).1; have q3 := (hW.2.1 2 1 (by omega) (by omega)).1; simp only [Nat.reduceMul, Nat.reduceAdd] at *; omega)) (fun c12 => ?_) (fun c12 => ?_)
                        · refine w_iconst hX dX9_count_119 kI_0 ?_
                          refine w_iaddN hX dX9_count_120 ?_
                          refine w_istore_n (i := 2) (l2 := [some (.ref m), some (.int w), some (.int (nI (0 + 0 + 0 + 0))), some (.int (nI 2)), some (.int (nI 1))]) hX dX9_count_121 rfl (ltb rfl) rfl rfl ?_
                          refine w_iincN (w := 1) (l2 := [some (.ref m), some (.int w), some (.int (nI (0 + 0 + 0 + 0))), some (.int (nI 2)), some (.int (nI 2))]) hX dX9_count_122 rfl kI_1 rfl rfl ?_
                          refine w_goto (tgt := 91) hX dX9_count_125 (by decide) ?_
                          refine w_iload hX dX9_count_91 rfl ?_
                          refine w_iload_n (i := 3) hX dX9_count_93 rfl rfl ?_
                          refine wn_icmp_ge (tgt := 128) hX dX9_count_94 (by decide) (by first | omega | (have q1 := (hW.2.1 1 0 (by omega) (by omega)).1; have q2 := (hW.2.1 2 0 (by omega) (by omega)).1; have q3 := (hW.2.1 2 1 (by omega) (by omega)).1; simp only [Nat.reduceMul, Nat.reduceAdd] at *; omega)) (by first | omega | (have q1 := (hW.2.1 1 0 (by omega) (by omega)).1; have q2 := (hW.2.1 2 0 (by omega) (by omega)).1; have q3 := (hW.2.1 2 1 (by omega) (by omega)).1; simp only [Nat.reduceMul, Nat.reduceAdd] at *; omega)) (fun c13 => ?_) (fun c13 => ?_)
                          · refine w_iincN (w := 1) (l2 := [some (.ref m), some (.int w), some (.int (nI (0 + 0 + 0 + 0))), some (.int (nI 3)), some (.int (nI 2))]) hX dX9_count_128 rfl kI_1 rfl rfl ?_
                            refine w_goto (tgt := 83) hX dX9_count_131 (by decide) ?_
                            refine w_iload_n (i := 3) hX dX9_count_83 rfl rfl ?_
                            refine w_iconst hX dX9_count_84 kI_3 ?_
                            refine wn_icmp_ge (tgt := 134) hX dX9_count_85 (by decide) (by first | omega | (have q1 := (hW.2.1 1 0 (by omega) (by omega)).1; have q2 := (hW.2.1 2 0 (by omega) (by omega)).1; have q3 := (hW.2.1 2 1 (by omega) (by omega)).1; simp only [Nat.reduceMul, Nat.reduceAdd] at *; omega)) (by first | omega | (have q1 := (hW.2.1 1 0 (by omega) (by omega)).1; have q2 := (hW.2.1 2 0 (by omega) (by omega)).1; have q3 := (hW.2.1 2 1 (by omega) (by omega)).1; simp only [Nat.reduceMul, Nat.reduceAdd] at *; omega)) (fun c14 => ?_) (fun c14 => ?_)
                            · refine w_iload_n (i := 2) hX dX9_count_134 rfl rfl ?_
                              exact w_iret hX hE dX9_count_135 (Or.inl rfl) rfl ⟨by unfold A_count; rw [if_neg (by rw [c1]; decide), if_neg (by rw [c1]; decide), if_neg (by rw [c1]; decide), if_neg (by rw [c1]; decide), if_neg (by rw [c1]; decide), if_pos c1]; unfold wayN; simp only [Nat.reduceMul, Nat.reduceAdd] at *; (repeat' split) <;> first | rfl | omega, rfl⟩
                            · exact absurd c14 (by decide)
                          · exact absurd c13 (by decide)
                        · refine w_iconst hX dX9_count_115 kI_1 ?_
                          refine w_goto (tgt := 120) hX dX9_count_116 (by decide) ?_
                          refine w_iaddN hX dX9_count_120 ?_
                          refine w_istore_n (i := 2) (l2 := [some (.ref m), some (.int w), some (.int (nI (0 + 0 + 0 + 1))), some (.int (nI 2)), some (.int (nI 1))]) hX dX9_count_121 rfl (ltb rfl) rfl rfl ?_
                          refine w_iincN (w := 1) (l2 := [some (.ref m), some (.int w), some (.int (nI (0 + 0 + 0 + 1))), some (.int (nI 2)), some (.int (nI 2))]) hX dX9_count_122 rfl kI_1 rfl rfl ?_
                          refine w_goto (tgt := 91) hX dX9_count_125 (by decide) ?_
                          refine w_iload hX dX9_count_91 rfl ?_
                          refine w_iload_n (i := 3) hX dX9_count_93 rfl rfl ?_
                          refine wn_icmp_ge (tgt := 128) hX dX9_count_94 (by decide) (by first | omega | (have q1 := (hW.2.1 1 0 (by omega) (by omega)).1; have q2 := (hW.2.1 2 0 (by omega) (by omega)).1; have q3 := (hW.2.1 2 1 (by omega) (by omega)).1; simp only [Nat.reduceMul, Nat.reduceAdd] at *; omega)) (by first | omega | (have q1 := (hW.2.1 1 0 (by omega) (by omega)).1; have q2 := (hW.2.1 2 0 (by omega) (by omega)).1; have q3 := (hW.2.1 2 1 (by omega) (by omega)).1; simp only [Nat.reduceMul, Nat.reduceAdd] at *; omega)) (fun c15 => ?_) (fun c15 => ?_)
                          · refine w_iincN (w := 1) (l2 := [some (.ref m), some (.int w), some (.int (nI (0 + 0 + 0 + 1))), some (.int (nI 3)), some (.int (nI 2))]) hX dX9_count_128 rfl kI_1 rfl rfl ?_
                            refine w_goto (tgt := 83) hX dX9_count_131 (by decide) ?_
                            refine w_iload_n (i := 3) hX dX9_count_83 rfl rfl ?_
                            refine w_iconst hX dX9_count_84 kI_3 ?_
                            refine wn_icmp_ge (tgt := 134) hX dX9_count_85 (by decide) (by first | omega | (have q1 := (hW.2.1 1 0 (by omega) (by omega)).1; have q2 := (hW.2.1 2 0 (by omega) (by omega)).1; have q3 := (hW.2.1 2 1 (by omega) (by omega)).1; simp only [Nat.reduceMul, Nat.reduceAdd] at *; omega)) (by first | omega | (have q1 := (hW.2.1 1 0 (by omega) (by omega)).1; have q2 := (hW.2.1 2 0 (by omega) (by omega)).1; have q3 := (hW.2.1 2 1 (by omega) (by omega)).1; simp only [Nat.reduceMul, Nat.reduceAdd] at *; omega)) (fun c16 => ?_) (fun c16 => ?_)
                            · refine w_iload_n (i := 2) hX dX9_count_134 rfl rfl ?_
                              exact w_iret hX hE dX9_count_135 (Or.inl rfl) rfl ⟨by unfold A_count; rw [if_neg (by rw [c1]; decide), if_neg (by rw [c1]; decide), if_neg (by rw [c1]; decide), if_neg (by rw [c1]; decide), if_neg (by rw [c1]; decide), if_pos c1]; unfold wayN; simp only [Nat.reduceMul, Nat.reduceAdd] at *; (repeat' split) <;> first | rfl | omega, rfl⟩
                            · exact absurd c16 (by decide)
                          · exact absurd c15 (by decide)
                    · refine w_iconst hX dX9_count_115 kI_1 ?_
                      refine w_goto (tgt := 120) hX dX9_count_116 (by decide) ?_
                      refine w_iaddN hX dX9_count_120 ?_
                      refine w_istore_n (i := 2) (l2 := [some (.ref m), some (.int w), some (.int (nI (0 + 0 + 1))), some (.int (nI 2)), some (.int (nI 0))]) hX dX9_count_121 rfl (ltb rfl) rfl rfl ?_
                      refine w_iincN (w := 1) (l2 := [some (.ref m), some (.int w), some (.int (nI (0 + 0 + 1))), some (.int (nI 2)), some (.int (nI 1))]) hX dX9_count_122 rfl kI_1 rfl rfl ?_
                      refine w_goto (tgt := 91) hX dX9_count_125 (by decide) ?_
                      refine w_iload hX dX9_count_91 rfl ?_
                      refine w_iload_n (i := 3) hX dX9_count_93 rfl rfl ?_
                      refine wn_icmp_ge (tgt := 128) hX dX9_count_94 (by decide) (by first | omega | (have q1 := (hW.2.1 1 0 (by omega) (by omega)).1; have q2 := (hW.2.1 2 0 (by omega) (by omega)).1; have q3 := (hW.2.1 2 1 (by omega) (by omega)).1; simp only [Nat.reduceMul, Nat.reduceAdd] at *; omega)) (by first | omega | (have q1 := (hW.2.1 1 0 (by omega) (by omega)).1; have q2 := (hW.2.1 2 0 (by omega) (by omega)).1; have q3 := (hW.2.1 2 1 (by omega) (by omega)).1; simp only [Nat.reduceMul, Nat.reduceAdd] at *; omega)) (fun c17 => ?_) (fun c17 => ?_)
                      · exact absurd c17 (by decide)
                      · refine w_iload_n (i := 2) hX dX9_count_97 rfl rfl ?_
                        refine w_aload_n (i := 0) hX dX9_count_98 rfl rfl ?_
                        refine w_getR (q := m + 6) hX dX9_count_99 fo_RX9_73 rfl (mod_s hm.1.1) (mod_r10 hm.1.1) ?_
                        refine w_bipush hX dX9_count_102 kB_76 ?_
                        refine w_iconst hX dX9_count_104 kI_3 ?_
                        refine w_iload_n (i := 3) hX dX9_count_105 rfl rfl ?_
                        refine w_imulN hX dX9_count_106 ?_
                        refine w_iaddN hX dX9_count_107 ?_
                        refine w_iload hX dX9_count_108 rfl ?_
                        refine w_iaddN hX dX9_count_110 ?_
                        refine w_ialdN hX dX9_count_111 (mod_a6 hm.1.1) (by omega) (by omega) ?_
                        refine w_top (y := nI (B (76 + (3 * 2) + 1))) ((hm.f (by omega)).1.2 _ (by omega)).1 ?_
                        refine wn_if_le (tgt := 119) hX dX9_count_112 (by decide) (by first | omega | (have q1 := (hW.2.1 1 0 (by omega) (by omega)).1; have q2 := (hW.2.1 2 0 (by omega) (by omega)).1; have q3 := (hW.2.1 2 1 (by omega) (by omega)).1; simp only [Nat.reduceMul, Nat.reduceAdd] at *; omega)) (fun c18 => ?_) (fun c18 => ?_)
                        · refine w_iconst hX dX9_count_119 kI_0 ?_
                          refine w_iaddN hX dX9_count_120 ?_
                          refine w_istore_n (i := 2) (l2 := [some (.ref m), some (.int w), some (.int (nI (0 + 0 + 1 + 0))), some (.int (nI 2)), some (.int (nI 1))]) hX dX9_count_121 rfl (ltb rfl) rfl rfl ?_
                          refine w_iincN (w := 1) (l2 := [some (.ref m), some (.int w), some (.int (nI (0 + 0 + 1 + 0))), some (.int (nI 2)), some (.int (nI 2))]) hX dX9_count_122 rfl kI_1 rfl rfl ?_
                          refine w_goto (tgt := 91) hX dX9_count_125 (by decide) ?_
                          refine w_iload hX dX9_count_91 rfl ?_
                          refine w_iload_n (i := 3) hX dX9_count_93 rfl rfl ?_
                          refine wn_icmp_ge (tgt := 128) hX dX9_count_94 (by decide) (by first | omega | (have q1 := (hW.2.1 1 0 (by omega) (by omega)).1; have q2 := (hW.2.1 2 0 (by omega) (by omega)).1; have q3 := (hW.2.1 2 1 (by omega) (by omega)).1; simp only [Nat.reduceMul, Nat.reduceAdd] at *; omega)) (by first | omega | (have q1 := (hW.2.1 1 0 (by omega) (by omega)).1; have q2 := (hW.2.1 2 0 (by omega) (by omega)).1; have q3 := (hW.2.1 2 1 (by omega) (by omega)).1; simp only [Nat.reduceMul, Nat.reduceAdd] at *; omega)) (fun c19 => ?_) (fun c19 => ?_)
                          · refine w_iincN (w := 1) (l2 := [some (.ref m), some (.int w), some (.int (nI (0 + 0 + 1 + 0))), some (.int (nI 3)), some (.int (nI 2))]) hX dX9_count_128 rfl kI_1 rfl rfl ?_
                            refine w_goto (tgt := 83) hX dX9_count_131 (by decide) ?_
                            refine w_iload_n (i := 3) hX dX9_count_83 rfl rfl ?_
                            refine w_iconst hX dX9_count_84 kI_3 ?_
                            refine wn_icmp_ge (tgt := 134) hX dX9_count_85 (by decide) (by first | omega | (have q1 := (hW.2.1 1 0 (by omega) (by omega)).1; have q2 := (hW.2.1 2 0 (by omega) (by omega)).1; have q3 := (hW.2.1 2 1 (by omega) (by omega)).1; simp only [Nat.reduceMul, Nat.reduceAdd] at *; omega)) (by first | omega | (have q1 := (hW.2.1 1 0 (by omega) (by omega)).1; have q2 := (hW.2.1 2 0 (by omega) (by omega)).1; have q3 := (hW.2.1 2 1 (by omega) (by omega)).1; simp only [Nat.reduceMul, Nat.reduceAdd] at *; omega)) (fun c20 => ?_) (fun c20 => ?_)
                            · refine w_iload_n (i := 2) hX dX9_count_134 rfl rfl ?_
                              exact w_iret hX hE dX9_count_135 (Or.inl rfl) rfl ⟨by unfold A_count; rw [if_neg (by rw [c1]; decide), if_neg (by rw [c1]; decide), if_neg (by rw [c1]; decide), if_neg (by rw [c1]; decide), if_neg (by rw [c1]; decide), if_pos c1]; unfold wayN; simp only [Nat.reduceMul, Nat.reduceAdd] at *; (repeat' split) <;> first | rfl | omega, rfl⟩
                            · exact absurd c20 (by decide)
                          · exact absurd c19 (by decide)
                        · refine w_iconst hX dX9_count_115 kI_1 ?_
                          refine w_goto (tgt := 120) hX dX9_count_116 (by decide) ?_
                          refine w_iaddN hX dX9_count_120 ?_
                          refine w_istore_n (i := 2) (l2 := [some (.ref m), some (.int w), some (.int (nI (0 + 0 + 1 + 1))), some (.int (nI 2)), some (.int (nI 1))]) hX dX9_count_121 rfl (ltb rfl) rfl rfl ?_
                          refine w_iincN (w := 1) (l2 := [some (.ref m), some (.int w), some (.int (nI (0 + 0 + 1 + 1))), some (.int (nI 2)), some (.int (nI 2))]) hX dX9_count_122 rfl kI_1 rfl rfl ?_
                          refine w_goto (tgt := 91) hX dX9_count_125 (by decide) ?_
                          refine w_iload hX dX9_count_91 rfl ?_
                          refine w_iload_n (i := 3) hX dX9_count_93 rfl rfl ?_
                          refine wn_icmp_ge (tgt := 128) hX dX9_count_94 (by decide) (by first | omega | (have q1 := (hW.2.1 1 0 (by omega) (by omega)).1; have q2 := (hW.2.1 2 0 (by omega) (by omega)).1; have q3 := (hW.2.1 2 1 (by omega) (by omega)).1; simp only [Nat.reduceMul, Nat.reduceAdd] at *; omega)) (by first | omega | (have q1 := (hW.2.1 1 0 (by omega) (by omega)).1; have q2 := (hW.2.1 2 0 (by omega) (by omega)).1; have q3 := (hW.2.1 2 1 (by omega) (by omega)).1; simp only [Nat.reduceMul, Nat.reduceAdd] at *; omega)) (fun c21 => ?_) (fun c21 => ?_)
                          · refine w_iincN (w := 1) (l2 := [some (.ref m), some (.int w), some (.int (nI (0 + 0 + 1 + 1))), some (.int (nI 3)), some (.int (nI 2))]) hX dX9_count_128 rfl kI_1 rfl rfl ?_
                            refine w_goto (tgt := 83) hX dX9_count_131 (by decide) ?_
                            refine w_iload_n (i := 3) hX dX9_count_83 rfl rfl ?_
                            refine w_iconst hX dX9_count_84 kI_3 ?_
                            refine wn_icmp_ge (tgt := 134) hX dX9_count_85 (by decide) (by first | omega | (have q1 := (hW.2.1 1 0 (by omega) (by omega)).1; have q2 := (hW.2.1 2 0 (by omega) (by omega)).1; have q3 := (hW.2.1 2 1 (by omega) (by omega)).1; simp only [Nat.reduceMul, Nat.reduceAdd] at *; omega)) (by first | omega | (have q1 := (hW.2.1 1 0 (by omega) (by omega)).1; have q2 := (hW.2.1 2 0 (by omega) (by omega)).1; have q3 := (hW.2.1 2 1 (by omega) (by omega)).1; simp only [Nat.reduceMul, Nat.reduceAdd] at *; omega)) (fun c22 => ?_) (fun c22 => ?_)
                            · refine w_iload_n (i := 2) hX dX9_count_134 rfl rfl ?_
                              exact w_iret hX hE dX9_count_135 (Or.inl rfl) rfl ⟨by unfold A_count; rw [if_neg (by rw [c1]; decide), if_neg (by rw [c1]; decide), if_neg (by rw [c1]; decide), if_neg (by rw [c1]; decide), if_neg (by rw [c1]; decide), if_pos c1]; unfold wayN; simp only [Nat.reduceMul, Nat.reduceAdd] at *; (repeat' split) <;> first | rfl | omega, rfl⟩
                            · exact absurd c22 (by decide)
                          · exact absurd c21 (by decide)
              · exact absurd c7 (by decide)
            · refine w_iconst hX dX9_count_115 kI_1 ?_
              refine w_goto (tgt := 120) hX dX9_count_116 (by decide) ?_
              refine w_iaddN hX dX9_count_120 ?_
              refine w_istore_n (i := 2) (l2 := [some (.ref m), some (.int w), some (.int (nI (0 + 1))), some (.int (nI 1)), some (.int (nI 0))]) hX dX9_count_121 rfl (ltb rfl) rfl rfl ?_
              refine w_iincN (w := 1) (l2 := [some (.ref m), some (.int w), some (.int (nI (0 + 1))), some (.int (nI 1)), some (.int (nI 1))]) hX dX9_count_122 rfl kI_1 rfl rfl ?_
              refine w_goto (tgt := 91) hX dX9_count_125 (by decide) ?_
              refine w_iload hX dX9_count_91 rfl ?_
              refine w_iload_n (i := 3) hX dX9_count_93 rfl rfl ?_
              refine wn_icmp_ge (tgt := 128) hX dX9_count_94 (by decide) (by first | omega | (have q1 := (hW.2.1 1 0 (by omega) (by omega)).1; have q2 := (hW.2.1 2 0 (by omega) (by omega)).1; have q3 := (hW.2.1 2 1 (by omega) (by omega)).1; simp only [Nat.reduceMul, Nat.reduceAdd] at *; omega)) (by first | omega | (have q1 := (hW.2.1 1 0 (by omega) (by omega)).1; have q2 := (hW.2.1 2 0 (by omega) (by omega)).1; have q3 := (hW.2.1 2 1 (by omega) (by omega)).1; simp only [Nat.reduceMul, Nat.reduceAdd] at *; omega)) (fun c23 => ?_) (fun c23 => ?_)
              · refine w_iincN (w := 1) (l2 := [some (.ref m), some (.int w), some (.int (nI (0 + 1))), some (.int (nI 2)), some (.int (nI 1))]) hX dX9_count_128 rfl kI_1 rfl rfl ?_
                refine w_goto (tgt := 83) hX dX9_count_131 (by decide) ?_
                refine w_iload_n (i := 3) hX dX9_count_83 rfl rfl ?_
                refine w_iconst hX dX9_count_84 kI_3 ?_
                refine wn_icmp_ge (tgt := 134) hX dX9_count_85 (by decide) (by first | omega | (have q1 := (hW.2.1 1 0 (by omega) (by omega)).1; have q2 := (hW.2.1 2 0 (by omega) (by omega)).1; have q3 := (hW.2.1 2 1 (by omega) (by omega)).1; simp only [Nat.reduceMul, Nat.reduceAdd] at *; omega)) (by first | omega | (have q1 := (hW.2.1 1 0 (by omega) (by omega)).1; have q2 := (hW.2.1 2 0 (by omega) (by omega)).1; have q3 := (hW.2.1 2 1 (by omega) (by omega)).1; simp only [Nat.reduceMul, Nat.reduceAdd] at *; omega)) (fun c24 => ?_) (fun c24 => ?_)
                · exact absurd c24 (by decide)
                · refine w_iconst hX dX9_count_88 kI_0 ?_
                  refine w_istore (l2 := [some (.ref m), some (.int w), some (.int (nI (0 + 1))), some (.int (nI 2)), some (.int (nI 0))]) hX dX9_count_89 (ltb rfl) rfl rfl ?_
                  refine w_iload hX dX9_count_91 rfl ?_
                  refine w_iload_n (i := 3) hX dX9_count_93 rfl rfl ?_
                  refine wn_icmp_ge (tgt := 128) hX dX9_count_94 (by decide) (by first | omega | (have q1 := (hW.2.1 1 0 (by omega) (by omega)).1; have q2 := (hW.2.1 2 0 (by omega) (by omega)).1; have q3 := (hW.2.1 2 1 (by omega) (by omega)).1; simp only [Nat.reduceMul, Nat.reduceAdd] at *; omega)) (by first | omega | (have q1 := (hW.2.1 1 0 (by omega) (by omega)).1; have q2 := (hW.2.1 2 0 (by omega) (by omega)).1; have q3 := (hW.2.1 2 1 (by omega) (by omega)).1; simp only [Nat.reduceMul, Nat.reduceAdd] at *; omega)) (fun c25 => ?_) (fun c25 => ?_)
                  · exact absurd c25 (by decide)
                  · refine w_iload_n (i := 2) hX dX9_count_97 rfl rfl ?_
                    refine w_aload_n (i := 0) hX dX9_count_98 rfl rfl ?_
                    refine w_getR (q := m + 6) hX dX9_count_99 fo_RX9_73 rfl (mod_s hm.1.1) (mod_r10 hm.1.1) ?_
                    refine w_bipush hX dX9_count_102 kB_76 ?_
                    refine w_iconst hX dX9_count_104 kI_3 ?_
                    refine w_iload_n (i := 3) hX dX9_count_105 rfl rfl ?_
                    refine w_imulN hX dX9_count_106 ?_
                    refine w_iaddN hX dX9_count_107 ?_
                    refine w_iload hX dX9_count_108 rfl ?_
                    refine w_iaddN hX dX9_count_110 ?_
                    refine w_ialdN hX dX9_count_111 (mod_a6 hm.1.1) (by omega) (by omega) ?_
                    refine w_top (y := nI (B (76 + (3 * 2) + 0))) ((hm.f (by omega)).1.2 _ (by omega)).1 ?_
                    refine wn_if_le (tgt := 119) hX dX9_count_112 (by decide) (by first | omega | (have q1 := (hW.2.1 1 0 (by omega) (by omega)).1; have q2 := (hW.2.1 2 0 (by omega) (by omega)).1; have q3 := (hW.2.1 2 1 (by omega) (by omega)).1; simp only [Nat.reduceMul, Nat.reduceAdd] at *; omega)) (fun c26 => ?_) (fun c26 => ?_)
                    · refine w_iconst hX dX9_count_119 kI_0 ?_
                      refine w_iaddN hX dX9_count_120 ?_
                      refine w_istore_n (i := 2) (l2 := [some (.ref m), some (.int w), some (.int (nI (0 + 1 + 0))), some (.int (nI 2)), some (.int (nI 0))]) hX dX9_count_121 rfl (ltb rfl) rfl rfl ?_
                      refine w_iincN (w := 1) (l2 := [some (.ref m), some (.int w), some (.int (nI (0 + 1 + 0))), some (.int (nI 2)), some (.int (nI 1))]) hX dX9_count_122 rfl kI_1 rfl rfl ?_
                      refine w_goto (tgt := 91) hX dX9_count_125 (by decide) ?_
                      refine w_iload hX dX9_count_91 rfl ?_
                      refine w_iload_n (i := 3) hX dX9_count_93 rfl rfl ?_
                      refine wn_icmp_ge (tgt := 128) hX dX9_count_94 (by decide) (by first | omega | (have q1 := (hW.2.1 1 0 (by omega) (by omega)).1; have q2 := (hW.2.1 2 0 (by omega) (by omega)).1; have q3 := (hW.2.1 2 1 (by omega) (by omega)).1; simp only [Nat.reduceMul, Nat.reduceAdd] at *; omega)) (by first | omega | (have q1 := (hW.2.1 1 0 (by omega) (by omega)).1; have q2 := (hW.2.1 2 0 (by omega) (by omega)).1; have q3 := (hW.2.1 2 1 (by omega) (by omega)).1; simp only [Nat.reduceMul, Nat.reduceAdd] at *; omega)) (fun c27 => ?_) (fun c27 => ?_)
                      · exact absurd c27 (by decide)
                      · refine w_iload_n (i := 2) hX dX9_count_97 rfl rfl ?_
                        refine w_aload_n (i := 0) hX dX9_count_98 rfl rfl ?_
                        refine w_getR (q := m + 6) hX dX9_count_99 fo_RX9_73 rfl (mod_s hm.1.1) (mod_r10 hm.1.1) ?_
                        refine w_bipush hX dX9_count_102 kB_76 ?_
                        refine w_iconst hX dX9_count_104 kI_3 ?_
                        refine w_iload_n (i := 3) hX dX9_count_105 rfl rfl ?_
                        refine w_imulN hX dX9_count_106 ?_
                        refine w_iaddN hX dX9_count_107 ?_
                        refine w_iload hX dX9_count_108 rfl ?_
                        refine w_iaddN hX dX9_count_110 ?_
                        refine w_ialdN hX dX9_count_111 (mod_a6 hm.1.1) (by omega) (by omega) ?_
                        refine w_top (y := nI (B (76 + (3 * 2) + 1))) ((hm.f (by omega)).1.2 _ (by omega)).1 ?_
                        refine wn_if_le (tgt := 119) hX dX9_count_112 (by decide) (by first | omega | (have q1 := (hW.2.1 1 0 (by omega) (by omega)).1; have q2 := (hW.2.1 2 0 (by omega) (by omega)).1; have q3 := (hW.2.1 2 1 (by omega) (by omega)).1; simp only [Nat.reduceMul, Nat.reduceAdd] at *; omega)) (fun c28 => ?_) (fun c28 => ?_)
                        · refine w_iconst hX dX9_count_119 kI_0 ?_
                          refine w_iaddN hX dX9_count_120 ?_
                          refine w_istore_n (i := 2) (l2 := [some (.ref m), some (.int w), some (.int (nI (0 + 1 + 0 + 0))), some (.int (nI 2)), some (.int (nI 1))]) hX dX9_count_121 rfl (ltb rfl) rfl rfl ?_
                          refine w_iincN (w := 1) (l2 := [some (.ref m), some (.int w), some (.int (nI (0 + 1 + 0 + 0))), some (.int (nI 2)), some (.int (nI 2))]) hX dX9_count_122 rfl kI_1 rfl rfl ?_
                          refine w_goto (tgt := 91) hX dX9_count_125 (by decide) ?_
                          refine w_iload hX dX9_count_91 rfl ?_
                          refine w_iload_n (i := 3) hX dX9_count_93 rfl rfl ?_
                          refine wn_icmp_ge (tgt := 128) hX dX9_count_94 (by decide) (by first | omega | (have q1 := (hW.2.1 1 0 (by omega) (by omega)).1; have q2 := (hW.2.1 2 0 (by omega) (by omega)).1; have q3 := (hW.2.1 2 1 (by omega) (by omega)).1; simp only [Nat.reduceMul, Nat.reduceAdd] at *; omega)) (by first | omega | (have q1 := (hW.2.1 1 0 (by omega) (by omega)).1; have q2 := (hW.2.1 2 0 (by omega) (by omega)).1; have q3 := (hW.2.1 2 1 (by omega) (by omega)).1; simp only [Nat.reduceMul, Nat.reduceAdd] at *; omega)) (fun c29 => ?_) (fun c29 => ?_)
                          · refine w_iincN (w := 1) (l2 := [some (.ref m), some (.int w), some (.int (nI (0 + 1 + 0 + 0))), some (.int (nI 3)), some (.int (nI 2))]) hX dX9_count_128 rfl kI_1 rfl rfl ?_
                            refine w_goto (tgt := 83) hX dX9_count_131 (by decide) ?_
                            refine w_iload_n (i := 3) hX dX9_count_83 rfl rfl ?_
                            refine w_iconst hX dX9_count_84 kI_3 ?_
                            refine wn_icmp_ge (tgt := 134) hX dX9_count_85 (by decide) (by first | omega | (have q1 := (hW.2.1 1 0 (by omega) (by omega)).1; have q2 := (hW.2.1 2 0 (by omega) (by omega)).1; have q3 := (hW.2.1 2 1 (by omega) (by omega)).1; simp only [Nat.reduceMul, Nat.reduceAdd] at *; omega)) (by first | omega | (have q1 := (hW.2.1 1 0 (by omega) (by omega)).1; have q2 := (hW.2.1 2 0 (by omega) (by omega)).1; have q3 := (hW.2.1 2 1 (by omega) (by omega)).1; simp only [Nat.reduceMul, Nat.reduceAdd] at *; omega)) (fun c30 => ?_) (fun c30 => ?_)
                            · refine w_iload_n (i := 2) hX dX9_count_134 rfl rfl ?_
                              exact w_iret hX hE dX9_count_135 (Or.inl rfl) rfl ⟨by unfold A_count; rw [if_neg (by rw [c1]; decide), if_neg (by rw [c1]; decide), if_neg (by rw [c1]; decide), if_neg (by rw [c1]; decide), if_neg (by rw [c1]; decide), if_pos c1]; unfold wayN; simp only [Nat.reduceMul, Nat.reduceAdd] at *; (repeat' split) <;> first | rfl | omega, rfl⟩
                            · exact absurd c30 (by decide)
                          · exact absurd c29 (by decide)
                        · refine w_iconst hX dX9_count_115 kI_1 ?_
                          refine w_goto (tgt := 120) hX dX9_count_116 (by decide) ?_
                          refine w_iaddN hX dX9_count_120 ?_
                          refine w_istore_n (i := 2) (l2 := [some (.ref m), some (.int w), some (.int (nI (0 + 1 + 0 + 1))), some (.int (nI 2)), some (.int (nI 1))]) hX dX9_count_121 rfl (ltb rfl) rfl rfl ?_
                          refine w_iincN (w := 1) (l2 := [some (.ref m), some (.int w), some (.int (nI (0 + 1 + 0 + 1))), some (.int (nI 2)), some (.int (nI 2))]) hX dX9_count_122 rfl kI_1 rfl rfl ?_
                          refine w_goto (tgt := 91) hX dX9_count_125 (by decide) ?_
                          refine w_iload hX dX9_count_91 rfl ?_
                          refine w_iload_n (i := 3) hX dX9_count_93 rfl rfl ?_
                          refine wn_icmp_ge (tgt := 128) hX dX9_count_94 (by decide) (by first | omega | (have q1 := (hW.2.1 1 0 (by omega) (by omega)).1; have q2 := (hW.2.1 2 0 (by omega) (by omega)).1; have q3 := (hW.2.1 2 1 (by omega) (by omega)).1; simp only [Nat.reduceMul, Nat.reduceAdd] at *; omega)) (by first | omega | (have q1 := (hW.2.1 1 0 (by omega) (by omega)).1; have q2 := (hW.2.1 2 0 (by omega) (by omega)).1; have q3 := (hW.2.1 2 1 (by omega) (by omega)).1; simp only [Nat.reduceMul, Nat.reduceAdd] at *; omega)) (fun c31 => ?_) (fun c31 => ?_)
                          · refine w_iincN (w := 1) (l2 := [some (.ref m), some (.int w), some (.int (nI (0 + 1 + 0 + 1))), some (.int (nI 3)), some (.int (nI 2))]) hX dX9_count_128 rfl kI_1 rfl rfl ?_
                            refine w_goto (tgt := 83) hX dX9_count_131 (by decide) ?_
                            refine w_iload_n (i := 3) hX dX9_count_83 rfl rfl ?_
                            refine w_iconst hX dX9_count_84 kI_3 ?_
                            refine wn_icmp_ge (tgt := 134) hX dX9_count_85 (by decide) (by first | omega | (have q1 := (hW.2.1 1 0 (by omega) (by omega)).1; have q2 := (hW.2.1 2 0 (by omega) (by omega)).1; have q3 := (hW.2.1 2 1 (by omega) (by omega)).1; simp only [Nat.reduceMul, Nat.reduceAdd] at *; omega)) (by first | omega | (have q1 := (hW.2.1 1 0 (by omega) (by omega)).1; have q2 := (hW.2.1 2 0 (by omega) (by omega)).1; have q3 := (hW.2.1 2 1 (by omega) (by omega)).1; simp only [Nat.reduceMul, Nat.reduceAdd] at *; omega)) (fun c32 => ?_) (fun c32 => ?_)
                            · refine w_iload_n (i := 2) hX dX9_count_134 rfl rfl ?_
                              exact w_iret hX hE dX9_count_135 (Or.inl rfl) rfl ⟨by unfold A_count; rw [if_neg (by rw [c1]; decide), if_neg (by rw [c1]; decide), if_neg (by rw [c1]; decide), if_neg (by rw [c1]; decide), if_neg (by rw [c1]; decide), if_pos c1]; unfold wayN; simp only [Nat.reduceMul, Nat.reduceAdd] at *; (repeat' split) <;> first | rfl | omega, rfl⟩
                            · exact absurd c32 (by decide)
                          · exact absurd c31 (by decide)
                    · refine w_iconst hX dX9_count_115 kI_1 ?_
                      refine w_goto (tgt := 120) hX dX9_count_116 (by decide) ?_
                      refine w_iaddN hX dX9_count_120 ?_
                      refine w_istore_n (i := 2) (l2 := [some (.ref m), some (.int w), some (.int (nI (0 + 1 + 1))), some (.int (nI 2)), some (.int (nI 0))]) hX dX9_count_121 rfl (ltb rfl) rfl rfl ?_
                      refine w_iincN (w := 1) (l2 := [some (.ref m), some (.int w), some (.int (nI (0 + 1 + 1))), some (.int (nI 2)), some (.int (nI 1))]) hX dX9_count_122 rfl kI_1 rfl rfl ?_
                      refine w_goto (tgt := 91) hX dX9_count_125 (by decide) ?_
                      refine w_iload hX dX9_count_91 rfl ?_
                      refine w_iload_n (i := 3) hX dX9_count_93 rfl rfl ?_
                      refine wn_icmp_ge (tgt := 128) hX dX9_count_94 (by decide) (by first | omega | (have q1 := (hW.2.1 1 0 (by omega) (by omega)).1; have q2 := (hW.2.1 2 0 (by omega) (by omega)).1; have q3 := (hW.2.1 2 1 (by omega) (by omega)).1; simp only [Nat.reduceMul, Nat.reduceAdd] at *; omega)) (by first | omega | (have q1 := (hW.2.1 1 0 (by omega) (by omega)).1; have q2 := (hW.2.1 2 0 (by omega) (by omega)).1; have q3 := (hW.2.1 2 1 (by omega) (by omega)).1; simp only [Nat.reduceMul, Nat.reduceAdd] at *; omega)) (fun c33 => ?_) (fun c33 => ?_)
                      · exact absurd c33 (by decide)
                      · refine w_iload_n (i := 2) hX dX9_count_97 rfl rfl ?_
                        refine w_aload_n (i := 0) hX dX9_count_98 rfl rfl ?_
                        refine w_getR (q := m + 6) hX dX9_count_99 fo_RX9_73 rfl (mod_s hm.1.1) (mod_r10 hm.1.1) ?_
                        refine w_bipush hX dX9_count_102 kB_76 ?_
                        refine w_iconst hX dX9_count_104 kI_3 ?_
                        refine w_iload_n (i := 3) hX dX9_count_105 rfl rfl ?_
                        refine w_imulN hX dX9_count_106 ?_
                        refine w_iaddN hX dX9_count_107 ?_
                        refine w_iload hX dX9_count_108 rfl ?_
                        refine w_iaddN hX dX9_count_110 ?_
                        refine w_ialdN hX dX9_count_111 (mod_a6 hm.1.1) (by omega) (by omega) ?_
                        refine w_top (y := nI (B (76 + (3 * 2) + 1))) ((hm.f (by omega)).1.2 _ (by omega)).1 ?_
                        refine wn_if_le (tgt := 119) hX dX9_count_112 (by decide) (by first | omega | (have q1 := (hW.2.1 1 0 (by omega) (by omega)).1; have q2 := (hW.2.1 2 0 (by omega) (by omega)).1; have q3 := (hW.2.1 2 1 (by omega) (by omega)).1; simp only [Nat.reduceMul, Nat.reduceAdd] at *; omega)) (fun c34 => ?_) (fun c34 => ?_)
                        · refine w_iconst hX dX9_count_119 kI_0 ?_
                          refine w_iaddN hX dX9_count_120 ?_
                          refine w_istore_n (i := 2) (l2 := [some (.ref m), some (.int w), some (.int (nI (0 + 1 + 1 + 0))), some (.int (nI 2)), some (.int (nI 1))]) hX dX9_count_121 rfl (ltb rfl) rfl rfl ?_
                          refine w_iincN (w := 1) (l2 := [some (.ref m), some (.int w), some (.int (nI (0 + 1 + 1 + 0))), some (.int (nI 2)), some (.int (nI 2))]) hX dX9_count_122 rfl kI_1 rfl rfl ?_
                          refine w_goto (tgt := 91) hX dX9_count_125 (by decide) ?_
                          refine w_iload hX dX9_count_91 rfl ?_
                          refine w_iload_n (i := 3) hX dX9_count_93 rfl rfl ?_
                          refine wn_icmp_ge (tgt := 128) hX dX9_count_94 (by decide) (by first | omega | (have q1 := (hW.2.1 1 0 (by omega) (by omega)).1; have q2 := (hW.2.1 2 0 (by omega) (by omega)).1; have q3 := (hW.2.1 2 1 (by omega) (by omega)).1; simp only [Nat.reduceMul, Nat.reduceAdd] at *; omega)) (by first | omega | (have q1 := (hW.2.1 1 0 (by omega) (by omega)).1; have q2 := (hW.2.1 2 0 (by omega) (by omega)).1; have q3 := (hW.2.1 2 1 (by omega) (by omega)).1; simp only [Nat.reduceMul, Nat.reduceAdd] at *; omega)) (fun c35 => ?_) (fun c35 => ?_)
                          · refine w_iincN (w := 1) (l2 := [some (.ref m), some (.int w), some (.int (nI (0 + 1 + 1 + 0))), some (.int (nI 3)), some (.int (nI 2))]) hX dX9_count_128 rfl kI_1 rfl rfl ?_
                            refine w_goto (tgt := 83) hX dX9_count_131 (by decide) ?_
                            refine w_iload_n (i := 3) hX dX9_count_83 rfl rfl ?_
                            refine w_iconst hX dX9_count_84 kI_3 ?_
                            refine wn_icmp_ge (tgt := 134) hX dX9_count_85 (by decide) (by first | omega | (have q1 := (hW.2.1 1 0 (by omega) (by omega)).1; have q2 := (hW.2.1 2 0 (by omega) (by omega)).1; have q3 := (hW.2.1 2 1 (by omega) (by omega)).1; simp only [Nat.reduceMul, Nat.reduceAdd] at *; omega)) (by first | omega | (have q1 := (hW.2.1 1 0 (by omega) (by omega)).1; have q2 := (hW.2.1 2 0 (by omega) (by omega)).1; have q3 := (hW.2.1 2 1 (by omega) (by omega)).1; simp only [Nat.reduceMul, Nat.reduceAdd] at *; omega)) (fun c36 => ?_) (fun c36 => ?_)
                            · refine w_iload_n (i := 2) hX dX9_count_134 rfl rfl ?_
                              exact w_iret hX hE dX9_count_135 (Or.inl rfl) rfl ⟨by unfold A_count; rw [if_neg (by rw [c1]; decide), if_neg (by rw [c1]; decide), if_neg (by rw [c1]; decide), if_neg (by rw [c1]; decide), if_neg (by rw [c1]; decide), if_pos c1]; unfold wayN; simp only [Nat.reduceMul, Nat.reduceAdd] at *; (repeat' split) <;> first | rfl | omega, rfl⟩
                            · exact absurd c36 (by decide)
                          · exact absurd c35 (by decide)
                        · refine w_iconst hX dX9_count_115 kI_1 ?_
                          refine w_goto (tgt := 120) hX dX9_count_116 (by decide) ?_
                          refine w_iaddN hX dX9_count_120 ?_
                          refine w_istore_n (i := 2) (l2 := [some (.ref m), some (.int w), some (.int (nI (0 + 1 + 1 + 1))), some (.int (nI 2)), some (.int (nI 1))]) hX dX9_count_121 rfl (ltb rfl) rfl rfl ?_
                          refine w_iincN (w := 1) (l2 := [some (.ref m), some (.int w), some (.int (nI (0 + 1 + 1 + 1))), some (.int (nI 2)), some (.int (nI 2))]) hX dX9_count_122 rfl kI_1 rfl rfl ?_
                          refine w_goto (tgt := 91) hX dX9_count_125 (by decide) ?_
                          refine w_iload hX dX9_count_91 rfl ?_
                          refine w_iload_n (i := 3) hX dX9_count_93 rfl rfl ?_
                          refine wn_icmp_ge (tgt := 128) hX dX9_count_94 (by decide) (by first | omega | (have q1 := (hW.2.1 1 0 (by omega) (by omega)).1; have q2 := (hW.2.1 2 0 (by omega) (by omega)).1; have q3 := (hW.2.1 2 1 (by omega) (by omega)).1; simp only [Nat.reduceMul, Nat.reduceAdd] at *; omega)) (by first | omega | (have q1 := (hW.2.1 1 0 (by omega) (by omega)).1; have q2 := (hW.2.1 2 0 (by omega) (by omega)).1; have q3 := (hW.2.1 2 1 (by omega) (by omega)).1; simp only [Nat.reduceMul, Nat.reduceAdd] at *; omega)) (fun c37 => ?_) (fun c37 => ?_)
                          · refine w_iincN (w := 1) (l2 := [some (.ref m), some (.int w), some (.int (nI (0 + 1 + 1 + 1))), some (.int (nI 3)), some (.int (nI 2))]) hX dX9_count_128 rfl kI_1 rfl rfl ?_
                            refine w_goto (tgt := 83) hX dX9_count_131 (by decide) ?_
                            refine w_iload_n (i := 3) hX dX9_count_83 rfl rfl ?_
                            refine w_iconst hX dX9_count_84 kI_3 ?_
                            refine wn_icmp_ge (tgt := 134) hX dX9_count_85 (by decide) (by first | omega | (have q1 := (hW.2.1 1 0 (by omega) (by omega)).1; have q2 := (hW.2.1 2 0 (by omega) (by omega)).1; have q3 := (hW.2.1 2 1 (by omega) (by omega)).1; simp only [Nat.reduceMul, Nat.reduceAdd] at *; omega)) (by first | omega | (have q1 := (hW.2.1 1 0 (by omega) (by omega)).1; have q2 := (hW.2.1 2 0 (by omega) (by omega)).1; have q3 := (hW.2.1 2 1 (by omega) (by omega)).1; simp only [Nat.reduceMul, Nat.reduceAdd] at *; omega)) (fun c38 => ?_) (fun c38 => ?_)
                            · refine w_iload_n (i := 2) hX dX9_count_134 rfl rfl ?_
                              exact w_iret hX hE dX9_count_135 (Or.inl rfl) rfl ⟨by unfold A_count; rw [if_neg (by rw [c1]; decide), if_neg (by rw [c1]; decide), if_neg (by rw [c1]; decide), if_neg (by rw [c1]; decide), if_neg (by rw [c1]; decide), if_pos c1]; unfold wayN; simp only [Nat.reduceMul, Nat.reduceAdd] at *; (repeat' split) <;> first | rfl | omega, rfl⟩
                            · exact absurd c38 (by decide)
                          · exact absurd c37 (by decide)
              · exact absurd c23 (by decide)
      · exact absurd c3 (by decide)
  · refine w_tableIn (tgt := 136) hX dX9_count_8 (by rw [c1]; decide) (by rw [c1]; decide) (by rw [c1]; rfl) (by decide) ?_
    refine w_aload_n (i := 0) hX dX9_count_136 rfl rfl ?_
    refine w_getI hX dX9_count_137 fo_RX9_11 rfl (mod_s hm.1.1) ?_
    refine w_top (y := nI s.2) (by rw [gI_nk (by omega)]; exact ht.2.1) ?_
    exact w_iret hX hE dX9_count_140 (Or.inl rfl) rfl ⟨by unfold A_count; rw [if_neg (by rw [c1]; decide), if_neg (by rw [c1]; decide), if_neg (by rw [c1]; decide), if_neg (by rw [c1]; decide), if_neg (by rw [c1]; decide), if_neg (by rw [c1]; decide), if_pos c1], rfl⟩
  · refine w_tableOut (tgt := 141) hX dX9_count_8 c1 (by decide) ?_
    refine w_iconst hX dX9_count_141 kI_m1 ?_
    exact w_iret hX hE dX9_count_142 (Or.inl rfl) rfl ⟨by unfold A_count; rw [if_neg (fun e => by rw [e] at c1; revert c1; decide), if_neg (fun e => by rw [e] at c1; revert c1; decide), if_neg (fun e => by rw [e] at c1; revert c1; decide), if_neg (fun e => by rw [e] at c1; revert c1; decide), if_neg (fun e => by rw [e] at c1; revert c1; decide), if_neg (fun e => by rw [e] at c1; revert c1; decide), if_neg (fun e => by rw [e] at c1; revert c1; decide)], rfl⟩
