theorem sw6 (x : Int32) : x = nI 0 ∨ x = nI 1 ∨ x = nI 2 ∨ x = nI 3 ∨ x = nI 4 ∨ x = nI 5 ∨ (x.toInt < 0 ∨ 5 < x.toInt) := by
  rcases sw7 x with h | h | h | h | h | h | h | h
  · exact Or.inl h
  · exact Or.inr (Or.inl h)
  · exact Or.inr (Or.inr (Or.inl h))
  · exact Or.inr (Or.inr (Or.inr (Or.inl h)))
  · exact Or.inr (Or.inr (Or.inr (Or.inr (Or.inl h))))
  · exact Or.inr (Or.inr (Or.inr (Or.inr (Or.inr (Or.inl h)))))
  · refine Or.inr (Or.inr (Or.inr (Or.inr (Or.inr (Or.inr (Or.inr ?_))))))
    rw [h]; decide
  · refine Or.inr (Or.inr (Or.inr (Or.inr (Or.inr (Or.inr ?_)))))
    omega
def allL : Nat := 33554430
def vtA (B : Nat → Nat) : Nat → Nat := vt B (fun s => (33554430 : Nat).testBit s) (B 126)
def E_vote (B : Nat → Nat) (w : Int32) : Int32 := if w = nI 0 then nI (mst (vtA B) 23) else if w = nI 1 then nI (mst (fun s => smW B s (B 126)) 23) else if w = nI 2 then nI (mst (fun s => plC B s 24) 23) else if w = nI 3 then oI (prs B 24 0) else if w = nI 4 then nI (rOff B 23 33554430) else if w = nI 5 then nI (mst (fun s => lsC B s (B 126 - 1)) 23) else -1
def A_vote (B : Nat → Nat) (w : Int32) : Int32 := if B 126 = 0 then -1 else E_vote B w
set_option maxHeartbeats 1000000 in
theorem s_elect (Γ : Gm) (μ : Mem) (v b : Nat) (B : Nat → Nat) (hv : isVt μ v) (hvb : v + 1 < b) (hR : Rb μ b B) (hW : WB B) (hP1 : 1 ≤ B 126) (w : Int32) : SpI Γ MX6_elect 4 0 0 [.ref v, .ref b, .int w] μ (fun r μ2 => r = E_vote B w ∧ same (fun o _ => o = v + 1) μ μ2) := by
  refine SpI.of okX6_elect rfl [some (.ref v), some (.ref b), some (.int w)] ⟨rfl, rfl, rfl, trivial⟩ (leb rfl) (leb rfl) (fun X hX hE hnm => ?_)
  have hP := hW.2.2.2.1.1
  refine w_iload_n (i := 2) hX dX6_elect_0 rfl rfl ?_
  rcases sw6 w with c1 | c1 | c1 | c1 | c1 | c1 | c1
  · refine w_tableIn (tgt := 40) hX dX6_elect_1 (by rw [c1]; decide) (by rw [c1]; decide) (by rw [c1]; rfl) (by decide) ?_
    refine w_aload_n (i := 0) hX dX6_elect_40 rfl rfl ?_
    refine w_aload_n (i := 1) hX dX6_elect_41 rfl rfl ?_
    refine w_ldc hX dX6_elect_42 ki_RX6_15 ?_
    refine w_top (y := nI 33554430) rfl ?_
    refine w_callVV (As := [.ref b, .int (nI 33554430)]) (rest := []) (ci := 6) (o := v) (k2 := 0) (n2 := 0) hX dX6_elect_44 (s_castVotes Γ μ v b B hv hvb hR hW 33554430 (by omega)) okX6_castVotes (ltb rfl) (vt_s hv) ml_RX6_16 imX6_castVotes seX6_castVotes rfl (leb rfl) (leb rfl) rfl rfl (fun νc hq9 => ?_)
    obtain ⟨hsm, hpt⟩ := hq9
    refine w_aload_n (i := 0) hX dX6_elect_47 rfl rfl ?_
    refine w_callVI (As := []) (rest := []) (ci := 6) (o := v) (k2 := 0) (n2 := 0) hX dX6_elect_48 (s_mostPoints Γ νc v (hsm.isVt hv) (vtA B) (fun s h1 h2 => hpt s h2) (fun s h => by have : vtA B s ≤ B 126 := vt_le _; omega)) okX6_mostPoints (ltb rfl) (vt_s (hsm.isVt hv)) ml_RX6_20 imX6_mostPoints seX6_mostPoints rfl (leb rfl) (leb rfl) rfl rfl (fun r9 μ9 hq9 => ?_)
    obtain ⟨hr9, hm9⟩ := hq9; rw [hr9, hm9]; clear hr9 hm9 r9 μ9
    exact w_iret hX hE dX6_elect_51 (Or.inl rfl) rfl ⟨by unfold E_vote; rw [if_pos c1], hsm⟩
  · refine w_tableIn (tgt := 52) hX dX6_elect_1 (by rw [c1]; decide) (by rw [c1]; decide) (by rw [c1]; rfl) (by decide) ?_
    refine w_aload_n (i := 0) hX dX6_elect_52 rfl rfl ?_
    refine w_aload_n (i := 1) hX dX6_elect_53 rfl rfl ?_
    refine w_callVV (As := [.ref b]) (rest := []) (ci := 6) (o := v) (k2 := 0) (n2 := 0) hX dX6_elect_54 (s_addWorths Γ μ v b B hv hvb hR hW) okX6_addWorths (ltb rfl) (vt_s hv) ml_RX6_24 imX6_addWorths seX6_addWorths rfl (leb rfl) (leb rfl) rfl rfl (fun νc hq9 => ?_)
    obtain ⟨hsm, hpt⟩ := hq9
    refine w_aload_n (i := 0) hX dX6_elect_57 rfl rfl ?_
    refine w_callVI (As := []) (rest := []) (ci := 6) (o := v) (k2 := 0) (n2 := 0) hX dX6_elect_58 (s_mostPoints Γ νc v (hsm.isVt hv) ((fun s => smW B s (B 126))) hpt (fun s h => by have := smW_le hW (show s ≤ 24 by omega) (B 126) hP; show smW B s (B 126) < _; omega)) okX6_mostPoints (ltb rfl) (vt_s (hsm.isVt hv)) ml_RX6_20 imX6_mostPoints seX6_mostPoints rfl (leb rfl) (leb rfl) rfl rfl (fun r9 μ9 hq9 => ?_)
    obtain ⟨hr9, hm9⟩ := hq9; rw [hr9, hm9]; clear hr9 hm9 r9 μ9
    exact w_iret hX hE dX6_elect_61 (Or.inl rfl) rfl ⟨by unfold E_vote; rw [if_neg (by rw [c1]; decide), if_pos c1], hsm⟩
  · refine w_tableIn (tgt := 62) hX dX6_elect_1 (by rw [c1]; decide) (by rw [c1]; decide) (by rw [c1]; rfl) (by decide) ?_
    refine w_aload_n (i := 0) hX dX6_elect_62 rfl rfl ?_
    refine w_aload_n (i := 1) hX dX6_elect_63 rfl rfl ?_
    refine w_callVV (As := [.ref b]) (rest := []) (ci := 6) (o := v) (k2 := 0) (n2 := 0) hX dX6_elect_64 (s_addPlaces Γ μ v b B hv hvb hR hW) okX6_addPlaces (ltb rfl) (vt_s hv) ml_RX6_28 imX6_addPlaces seX6_addPlaces rfl (leb rfl) (leb rfl) rfl rfl (fun νc hq9 => ?_)
    obtain ⟨hsm, hpt⟩ := hq9
    refine w_aload_n (i := 0) hX dX6_elect_67 rfl rfl ?_
    refine w_callVI (As := []) (rest := []) (ci := 6) (o := v) (k2 := 0) (n2 := 0) hX dX6_elect_68 (s_mostPoints Γ νc v (hsm.isVt hv) ((fun s => plC B s 24)) hpt (fun s h => by have := plC_le hW (s := s) 24; show plC B s 24 < _; omega)) okX6_mostPoints (ltb rfl) (vt_s (hsm.isVt hv)) ml_RX6_20 imX6_mostPoints seX6_mostPoints rfl (leb rfl) (leb rfl) rfl rfl (fun r9 μ9 hq9 => ?_)
    obtain ⟨hr9, hm9⟩ := hq9; rw [hr9, hm9]; clear hr9 hm9 r9 μ9
    exact w_iret hX hE dX6_elect_71 (Or.inl rfl) rfl ⟨by unfold E_vote; rw [if_neg (by rw [c1]; decide), if_neg (by rw [c1]; decide), if_pos c1], hsm⟩
  · refine w_tableIn (tgt := 72) hX dX6_elect_1 (by rw [c1]; decide) (by rw [c1]; decide) (by rw [c1]; rfl) (by decide) ?_
    refine w_aload_n (i := 1) hX dX6_elect_72 rfl rfl ?_
    refine w_callSI (As := [.ref b]) (rest := []) (k2 := 0) (n2 := 0) hX dX6_elect_73 (s_beatsAll Γ μ b B hR hW) okX6_beatsAll ml_RX6_31 stX6_beatsAll rfl (leb rfl) (leb rfl) rfl rfl (fun r9 μ9 hq9 => ?_)
    obtain ⟨hr9, hm9⟩ := hq9; rw [hr9, hm9]; clear hr9 hm9 r9 μ9
    exact w_iret hX hE dX6_elect_76 (Or.inl rfl) rfl ⟨by unfold E_vote; rw [if_neg (by rw [c1]; decide), if_neg (by rw [c1]; decide), if_neg (by rw [c1]; decide), if_pos c1], same.rf⟩
  · refine w_tableIn (tgt := 77) hX dX6_elect_1 (by rw [c1]; decide) (by rw [c1]; decide) (by rw [c1]; rfl) (by decide) ?_
    refine w_aload_n (i := 0) hX dX6_elect_77 rfl rfl ?_
    refine w_aload_n (i := 1) hX dX6_elect_78 rfl rfl ?_
    refine w_callVI (As := [.ref b]) (rest := []) (ci := 6) (o := v) (k2 := 0) (n2 := 0) hX dX6_elect_79 (s_runOff Γ μ v b B hv hvb hR hW hP1) okX6_runOff (ltb rfl) (vt_s hv) ml_RX6_35 imX6_runOff seX6_runOff rfl (leb rfl) (leb rfl) rfl rfl (fun rr νc hq9 => ?_)
    obtain ⟨hr9, hsm⟩ := hq9
    rw [hr9]
    exact w_iret hX hE dX6_elect_82 (Or.inl rfl) rfl ⟨by unfold E_vote; rw [if_neg (by rw [c1]; decide), if_neg (by rw [c1]; decide), if_neg (by rw [c1]; decide), if_neg (by rw [c1]; decide), if_pos c1], hsm⟩
  · refine w_tableIn (tgt := 83) hX dX6_elect_1 (by rw [c1]; decide) (by rw [c1]; decide) (by rw [c1]; rfl) (by decide) ?_
    refine w_aload_n (i := 0) hX dX6_elect_83 rfl rfl ?_
    refine w_aload_n (i := 1) hX dX6_elect_84 rfl rfl ?_
    refine w_callVV (As := [.ref b]) (rest := []) (ci := 6) (o := v) (k2 := 0) (n2 := 0) hX dX6_elect_85 (s_takeLeast Γ μ v b B hv hvb hR hW hP1) okX6_takeLeastWorths (ltb rfl) (vt_s hv) ml_RX6_38 imX6_takeLeastWorths seX6_takeLeastWorths rfl (leb rfl) (leb rfl) rfl rfl (fun νc hq9 => ?_)
    obtain ⟨hsm, hpt⟩ := hq9
    refine w_aload_n (i := 0) hX dX6_elect_88 rfl rfl ?_
    refine w_callVI (As := []) (rest := []) (ci := 6) (o := v) (k2 := 0) (n2 := 0) hX dX6_elect_89 (s_mostPoints Γ νc v (hsm.isVt hv) ((fun s => lsC B s (B 126 - 1))) hpt (fun s h => by have := lsC_le hW (show s ≤ 24 by omega) (B 126 - 1); show lsC B s (B 126 - 1) < _; omega)) okX6_mostPoints (ltb rfl) (vt_s (hsm.isVt hv)) ml_RX6_20 imX6_mostPoints seX6_mostPoints rfl (leb rfl) (leb rfl) rfl rfl (fun r9 μ9 hq9 => ?_)
    obtain ⟨hr9, hm9⟩ := hq9; rw [hr9, hm9]; clear hr9 hm9 r9 μ9
    exact w_iret hX hE dX6_elect_92 (Or.inl rfl) rfl ⟨by unfold E_vote; rw [if_neg (by rw [c1]; decide), if_neg (by rw [c1]; decide), if_neg (by rw [c1]; decide), if_neg (by rw [c1]; decide), if_neg (by rw [c1]; decide), if_pos c1], hsm⟩
  · refine w_tableOut (tgt := 93) hX dX6_elect_1 c1 (by decide) ?_
    refine w_iconst hX dX6_elect_93 kI_m1 ?_
    exact w_iret hX hE dX6_elect_94 (Or.inl rfl) rfl ⟨by unfold E_vote; rw [if_neg (fun e => by rw [e] at c1; revert c1; decide), if_neg (fun e => by rw [e] at c1; revert c1; decide), if_neg (fun e => by rw [e] at c1; revert c1; decide), if_neg (fun e => by rw [e] at c1; revert c1; decide), if_neg (fun e => by rw [e] at c1; revert c1; decide), if_neg (fun e => by rw [e] at c1; revert c1; decide)], same.rf⟩
set_option maxHeartbeats 1000000 in
theorem s_x_vote (Γ : Gm) (μ : Mem) (b c9 : Nat) (B : Nat → Nat) (hx : isX μ b c9) (hR : Rb μ b B) (hW : WB B) (hb25 : 25 ≤ b) (hv : isVt μ 18) (w : Int32) : SpI Γ MX8_vote 5 0 0 [.ref 0, .int w] μ (fun r μ2 => r = A_vote B w ∧ same (fun o _ => o = 19) μ μ2) := by
  refine SpI.of okX8_vote rfl [some (.ref 0), some (.int w)] ⟨rfl, rfl, trivial⟩ (leb rfl) (leb rfl) (fun X hX hE hnm => ?_)
  refine w_aload_n (i := 0) hX dX8_vote_0 rfl rfl ?_
  refine w_getR (q := b) hX dX8_vote_1 fo_RX8_54 rfl hx.1 hx.2.2.2.2.2.2.2.1 ?_
  refine w_getI hX dX8_vote_4 fo_RX8_166 rfl (bk_s hR.1) ?_
  refine w_top (y := nI (B 126)) hR.2.2.2.2.2.2.2.1 ?_
  refine wn_if_le (tgt := 25) hX dX8_vote_7 (by decide) (by have := hW.2.2.2.1.1; omega) (fun c1 => ?_) (fun c1 => ?_)
  · refine w_iconst hX dX8_vote_25 kI_m1 ?_
    exact w_iret hX hE dX8_vote_26 (Or.inl rfl) rfl ⟨by unfold A_vote; rw [if_pos (by omega)], same.rf⟩
  · refine w_aload_n (i := 0) hX dX8_vote_10 rfl rfl ?_
    refine w_getR (q := 18) hX dX8_vote_11 fo_RX8_40 rfl hx.1 hx.2.2.2.2.2.1 ?_
    refine w_aload_n (i := 0) hX dX8_vote_14 rfl rfl ?_
    refine w_getR (q := b) hX dX8_vote_15 fo_RX8_54 rfl hx.1 hx.2.2.2.2.2.2.2.1 ?_
    refine w_iload_n (i := 1) hX dX8_vote_18 rfl rfl ?_
    refine w_callVI (As := [.ref b, .int w]) (rest := []) (ci := 6) (o := 18) (k2 := 0) (n2 := 0) hX dX8_vote_19 (s_elect Γ μ 18 b B hv (by omega) hR hW (by omega) w) okX6_elect (ltb rfl) (vt_s hv) ml_RX8_172 imX6_elect seX6_elect rfl (leb rfl) (leb rfl) rfl rfl (fun r9 νc hq9 => ?_)
    obtain ⟨hr9, hsm⟩ := hq9
    rw [hr9]
    refine w_goto (tgt := 26) hX dX8_vote_22 (by decide) ?_
    exact w_iret hX hE dX8_vote_26 (Or.inl rfl) rfl ⟨by unfold A_vote; rw [if_neg (by omega)], hsm⟩
