theorem cl_ns : Cond.classLink RL 13 nsC ∈ gG := inG 1020 (by decide +kernel) (by decide +kernel)
/-- a guarded call's answer -/
def GA (a : Option Int32) (w : Nat) (μ μ2 : Mem) (r : Int32) : Prop := match a with
  | some v => r = nI 0 ∧ μ2 = sL μ w 0 v.toInt64
  | none => r = nI 1 ∧ μ2 = μ
theorem GA_s {a : Option Int32} {w : Nat} {μ : Mem} {v : Int32} (h : a = some v) : GA a w μ (sL μ w 0 v.toInt64) (nI 0) := by subst h; exact ⟨rfl, rfl⟩
theorem GA_n {a : Option Int32} {w : Nat} {μ μ2 : Mem} (h : a = none ∧ μ2 = μ) : GA a w μ μ2 (nI 1) := by obtain ⟨rfl, rfl⟩ := h; exact ⟨rfl, rfl⟩
theorem hokL_shown : HOK ML_shown [(0, 10, 13, 13)] := ⟨inG 1019 (by decide +kernel) (by decide +kernel), inG 118 (by decide +kernel) (by decide +kernel), by decide +kernel, by decide +kernel, by decide +kernel⟩
set_option maxHeartbeats 1000000 in
theorem s_l_shown (Γ : Gm) (hfr : Γ.2.2.2.2.2 = false) (μ : Mem) (b c9 z : Nat) (B : Nat → Nat) (hx : isX μ b c9) (hR : Rb μ b B) (hW : WBt B) (hz : μ.1[z]? = some (.inr (1, 1))) (t q : Int32) : SpH Γ ML_shown [(0, 10, 13, 13)] 8 1 6 [.ref 0, .int t, .int q, .ref z] μ (fun r μ2 => GA (A_shown B t q) z μ μ2 r) := by
  refine SpH.of hokL_shown rfl [some (.ref 0), some (.int t), some (.int q), some (.ref z), none] ⟨rfl, rfl, rfl, rfl, trivial⟩ (leb rfl) (leb rfl) (fun X hX hE htb => ?_)
  refine w_aload_n (i := 3) hX dL_shown_0 rfl rfl ?_
  refine w_iconst hX dL_shown_1 kI_0 ?_
  refine w_aload_n (i := 0) hX dL_shown_2 rfl rfl ?_
  refine w_iload_n (i := 1) hX dL_shown_3 rfl rfl ?_
  refine w_iload_n (i := 2) hX dL_shown_4 rfl rfl ?_
  refine w_callVX (As := [.int t, .int q]) (rest := [.int (nI 0), .ref z]) (ci := 8) (o := 0) (k2 := 0) (n2 := 0) hX hfr hE htb dL_shown_5 (s_x_shown Γ hfr μ b c9 B hx hR hW t q) okX8_shown (ltb rfl) hx.1 ml_RL_7 imX8_shown seX8_shown rfl (leb rfl) (leb rfl) rfl rfl ⟨by decide, by decide⟩ (by decide) cl_ns dL_shown_13 dL_shown_15 dL_shown_16 (ltb rfl) (fun μ2 h => GA_n h) (fun r9 μ9 hq9 => ?_)
  obtain ⟨hr9, hm9⟩ := hq9; rw [hm9]; clear hm9
  refine w_i2l hX dL_shown_8 ?_
  refine w_lastN hX dL_shown_9 hz (by omega) (by omega) ?_
  refine w_goto (tgt := 17) hX dL_shown_10 (by decide) ?_
  refine w_iconst hX dL_shown_17 kI_0 ?_
  exact w_iret hX hE dL_shown_18 (Or.inl rfl) rfl (GA_s hr9)
theorem hokL_backs : HOK ML_backs [(0, 10, 13, 13)] := ⟨inG 1098 (by decide +kernel) (by decide +kernel), inG 118 (by decide +kernel) (by decide +kernel), by decide +kernel, by decide +kernel, by decide +kernel⟩
set_option maxHeartbeats 1000000 in
theorem s_l_backs (Γ : Gm) (hfr : Γ.2.2.2.2.2 = false) (μ : Mem) (b c9 z : Nat) (B : Nat → Nat) (hx : isX μ b c9) (hR : Rb μ b B) (hW : WBt B) (hz : μ.1[z]? = some (.inr (1, 1))) (t q : Int32) : SpH Γ ML_backs [(0, 10, 13, 13)] 8 1 6 [.ref 0, .int t, .int q, .ref z] μ (fun r μ2 => GA (A_backs B t q) z μ μ2 r) := by
  refine SpH.of hokL_backs rfl [some (.ref 0), some (.int t), some (.int q), some (.ref z), none] ⟨rfl, rfl, rfl, rfl, trivial⟩ (leb rfl) (leb rfl) (fun X hX hE htb => ?_)
  refine w_aload_n (i := 3) hX dL_backs_0 rfl rfl ?_
  refine w_iconst hX dL_backs_1 kI_0 ?_
  refine w_aload_n (i := 0) hX dL_backs_2 rfl rfl ?_
  refine w_iload_n (i := 1) hX dL_backs_3 rfl rfl ?_
  refine w_iload_n (i := 2) hX dL_backs_4 rfl rfl ?_
  refine w_callVX (As := [.int t, .int q]) (rest := [.int (nI 0), .ref z]) (ci := 8) (o := 0) (k2 := 0) (n2 := 0) hX hfr hE htb dL_backs_5 (s_x_backs Γ hfr μ b c9 B hx hR hW t q) okX8_backs (ltb rfl) hx.1 ml_RL_15 imX8_backs seX8_backs rfl (leb rfl) (leb rfl) rfl rfl ⟨by decide, by decide⟩ (by decide) cl_ns dL_backs_13 dL_backs_15 dL_backs_16 (ltb rfl) (fun μ2 h => GA_n h) (fun r9 μ9 hq9 => ?_)
  obtain ⟨hr9, hm9⟩ := hq9; rw [hm9]; clear hm9
  refine w_i2l hX dL_backs_8 ?_
  refine w_lastN hX dL_backs_9 hz (by omega) (by omega) ?_
  refine w_goto (tgt := 17) hX dL_backs_10 (by decide) ?_
  refine w_iconst hX dL_backs_17 kI_0 ?_
  exact w_iret hX hE dL_backs_18 (Or.inl rfl) rfl (GA_s hr9)
theorem hokL_between : HOK ML_between [(0, 18, 21, 13)] := ⟨inG 1106 (by decide +kernel) (by decide +kernel), inG 118 (by decide +kernel) (by decide +kernel), by decide +kernel, by decide +kernel, by decide +kernel⟩
set_option maxHeartbeats 1000000 in
theorem s_l_between (Γ : Gm) (hfr : Γ.2.2.2.2.2 = false) (μ : Mem) (b c9 z : Nat) (B : Nat → Nat) (hx : isX μ b c9) (hR : Rb μ b B) (hW : WBt B) (hz : μ.1[z]? = some (.inr (1, 1))) (t d q d2 q2 w : Int32) : SpH Γ ML_between [(0, 18, 21, 13)] 8 1 6 [.ref 0, .int t, .int d, .int q, .int d2, .int q2, .int w, .ref z] μ (fun r μ2 => GA (A_between B t d q d2 q2 w) z μ μ2 r) := by
  refine SpH.of hokL_between rfl [some (.ref 0), some (.int t), some (.int d), some (.int q), some (.int d2), some (.int q2), some (.int w), some (.ref z), none] ⟨rfl, rfl, rfl, rfl, rfl, rfl, rfl, rfl, trivial⟩ (leb rfl) (leb rfl) (fun X hX hE htb => ?_)
  refine w_aload hX dL_between_0 rfl ?_
  refine w_iconst hX dL_between_2 kI_0 ?_
  refine w_aload_n (i := 0) hX dL_between_3 rfl rfl ?_
  refine w_iload_n (i := 1) hX dL_between_4 rfl rfl ?_
  refine w_iload_n (i := 2) hX dL_between_5 rfl rfl ?_
  refine w_iload_n (i := 3) hX dL_between_6 rfl rfl ?_
  refine w_iload hX dL_between_7 rfl ?_
  refine w_iload hX dL_between_9 rfl ?_
  refine w_iload hX dL_between_11 rfl ?_
  refine w_callVX (As := [.int t, .int d, .int q, .int d2, .int q2, .int w]) (rest := [.int (nI 0), .ref z]) (ci := 8) (o := 0) (k2 := 0) (n2 := 0) hX hfr hE htb dL_between_13 (s_x_between Γ hfr μ b c9 B hx hR hW t d q d2 q2 w) okX8_between (ltb rfl) hx.1 ml_RL_18 imX8_between seX8_between rfl (leb rfl) (leb rfl) rfl rfl ⟨by decide, by decide⟩ (by decide) cl_ns dL_between_21 dL_between_23 dL_between_24 (ltb rfl) (fun μ2 h => GA_n h) (fun r9 μ9 hq9 => ?_)
  obtain ⟨hr9, hm9⟩ := hq9; rw [hm9]; clear hm9
  refine w_i2l hX dL_between_16 ?_
  refine w_lastN hX dL_between_17 hz (by omega) (by omega) ?_
  refine w_goto (tgt := 25) hX dL_between_18 (by decide) ?_
  refine w_iconst hX dL_between_25 kI_0 ?_
  exact w_iret hX hE dL_between_26 (Or.inl rfl) rfl (GA_s hr9)
theorem hokL_wage : HOK ML_wage [(0, 20, 23, 13)] := ⟨inG 1113 (by decide +kernel) (by decide +kernel), inG 118 (by decide +kernel) (by decide +kernel), by decide +kernel, by decide +kernel, by decide +kernel⟩
set_option maxHeartbeats 1000000 in
theorem s_l_wage (Γ : Gm) (hfr : Γ.2.2.2.2.2 = false) (μ : Mem) (b c9 z : Nat) (B : Nat → Nat) (hx : isX μ b c9) (hR : Rb μ b B) (hW : WBt B) (hz : μ.1[z]? = some (.inr (1, 1))) (t d q d2 q2 rt w : Int32) : SpH Γ ML_wage [(0, 20, 23, 13)] 8 1 6 [.ref 0, .int t, .int d, .int q, .int d2, .int q2, .int rt, .int w, .ref z] μ (fun r μ2 => GA (A_wage B t d q d2 q2 rt w) z μ μ2 r) := by
  refine SpH.of hokL_wage rfl [some (.ref 0), some (.int t), some (.int d), some (.int q), some (.int d2), some (.int q2), some (.int rt), some (.int w), some (.ref z), none] ⟨rfl, rfl, rfl, rfl, rfl, rfl, rfl, rfl, rfl, trivial⟩ (leb rfl) (leb rfl) (fun X hX hE htb => ?_)
  refine w_aload hX dL_wage_0 rfl ?_
  refine w_iconst hX dL_wage_2 kI_0 ?_
  refine w_aload_n (i := 0) hX dL_wage_3 rfl rfl ?_
  refine w_iload_n (i := 1) hX dL_wage_4 rfl rfl ?_
  refine w_iload_n (i := 2) hX dL_wage_5 rfl rfl ?_
  refine w_iload_n (i := 3) hX dL_wage_6 rfl rfl ?_
  refine w_iload hX dL_wage_7 rfl ?_
  refine w_iload hX dL_wage_9 rfl ?_
  refine w_iload hX dL_wage_11 rfl ?_
  refine w_iload hX dL_wage_13 rfl ?_
  refine w_callVX (As := [.int t, .int d, .int q, .int d2, .int q2, .int rt, .int w]) (rest := [.int (nI 0), .ref z]) (ci := 8) (o := 0) (k2 := 0) (n2 := 0) hX hfr hE htb dL_wage_15 (s_x_wage Γ hfr μ b c9 B hx hR hW t d q d2 q2 rt w) okX8_wage (ltb rfl) hx.1 ml_RL_22 imX8_wage seX8_wage rfl (leb rfl) (leb rfl) rfl rfl ⟨by decide, by decide⟩ (by decide) cl_ns dL_wage_23 dL_wage_25 dL_wage_26 (ltb rfl) (fun μ2 h => GA_n h) (fun r9 μ9 hq9 => ?_)
  obtain ⟨hr9, hm9⟩ := hq9; rw [hm9]; clear hm9
  refine w_i2l hX dL_wage_18 ?_
  refine w_lastN hX dL_wage_19 hz (by omega) (by omega) ?_
  refine w_goto (tgt := 27) hX dL_wage_20 (by decide) ?_
  refine w_iconst hX dL_wage_27 kI_0 ?_
  exact w_iret hX hE dL_wage_28 (Or.inl rfl) rfl (GA_s hr9)
theorem hokL_deed : HOK ML_deed [(0, 14, 17, 13)] := ⟨inG 1125 (by decide +kernel) (by decide +kernel), inG 118 (by decide +kernel) (by decide +kernel), by decide +kernel, by decide +kernel, by decide +kernel⟩
set_option maxHeartbeats 1000000 in
theorem s_l_deed (Γ : Gm) (hfr : Γ.2.2.2.2.2 = false) (μ : Mem) (b c9 z : Nat) (B : Nat → Nat) (hx : isX μ b c9) (hR : Rb μ b B) (hW : WBt B) (hz : μ.1[z]? = some (.inr (1, 1))) (t q l t2 : Int32) : SpH Γ ML_deed [(0, 14, 17, 13)] 8 1 6 [.ref 0, .int t, .int q, .int l, .int t2, .ref z] μ (fun r μ2 => GA (A_deed B t q l t2) z μ μ2 r) := by
  refine SpH.of hokL_deed rfl [some (.ref 0), some (.int t), some (.int q), some (.int l), some (.int t2), some (.ref z), none] ⟨rfl, rfl, rfl, rfl, rfl, rfl, trivial⟩ (leb rfl) (leb rfl) (fun X hX hE htb => ?_)
  refine w_aload hX dL_deed_0 rfl ?_
  refine w_iconst hX dL_deed_2 kI_0 ?_
  refine w_aload_n (i := 0) hX dL_deed_3 rfl rfl ?_
  refine w_iload_n (i := 1) hX dL_deed_4 rfl rfl ?_
  refine w_iload_n (i := 2) hX dL_deed_5 rfl rfl ?_
  refine w_iload_n (i := 3) hX dL_deed_6 rfl rfl ?_
  refine w_iload hX dL_deed_7 rfl ?_
  refine w_callVX (As := [.int t, .int q, .int l, .int t2]) (rest := [.int (nI 0), .ref z]) (ci := 8) (o := 0) (k2 := 0) (n2 := 0) hX hfr hE htb dL_deed_9 (s_x_deed Γ hfr μ b c9 B hx hR hW t q l t2) okX8_deed (ltb rfl) hx.1 ml_RL_26 imX8_deed seX8_deed rfl (leb rfl) (leb rfl) rfl rfl ⟨by decide, by decide⟩ (by decide) cl_ns dL_deed_17 dL_deed_19 dL_deed_20 (ltb rfl) (fun μ2 h => GA_n h) (fun r9 μ9 hq9 => ?_)
  obtain ⟨hr9, hm9⟩ := hq9; rw [hm9]; clear hm9
  refine w_i2l hX dL_deed_12 ?_
  refine w_lastN hX dL_deed_13 hz (by omega) (by omega) ?_
  refine w_goto (tgt := 21) hX dL_deed_14 (by decide) ?_
  refine w_iconst hX dL_deed_21 kI_0 ?_
  exact w_iret hX hE dL_deed_22 (Or.inl rfl) rfl (GA_s hr9)
