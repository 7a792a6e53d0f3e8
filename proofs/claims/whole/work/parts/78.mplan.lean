def HA (μ : Mem) (m : Nat) (B : Nat → Nat) (aw : Option Nat) : Prop := mb μ m B ∧ maw μ m aw ∧ WBt B
theorem HA.sm {S : Nat → Nat → Prop} {μ ν : Mem} {m : Nat} {B : Nat → Nat} {aw : Option Nat} (h : HA μ m B aw) (hs : same S μ ν) (hS : ∀ o k, S o k → o ≠ m + 6 ∧ ¬ (o = m ∧ k = 16)) : HA ν m B aw :=
  ⟨⟨hs.isMod h.1.1, fun j hj => by rw [(hs.2.2 _ _ (fun h9 => (hS _ _ h9).1 rfl)).1]; exact h.1.2 j hj⟩, ⟨by rw [(hs.2.2 _ _ (fun h9 => (hS _ _ h9).2 ⟨rfl, rfl⟩)).1]; exact h.2.1.1, h.2.1.2⟩, h.2.2⟩
theorem HA.sI {μ : Mem} {m o k : Nat} {v : Int32} {B : Nat → Nat} {aw : Option Nat} (h : HA μ m B aw) (ho : o ≠ m + 6 ∧ ¬ (o = m ∧ k = 16)) : HA (sI μ o k v) m B aw :=
  h.sm (S := fun o' k' => o' = o ∧ k' = k) (same.rf.sI ⟨rfl, rfl⟩) (fun o' k' h9 => by obtain ⟨rfl, rfl⟩ := h9; exact ho)
theorem HM_HA {μ : Mem} {m : Nat} {B : Nat → Nat} : HM μ m B ↔ HA μ m B none := Iff.rfl
set_option maxHeartbeats 1000000 in
theorem s_a_works (Γ : Gm) (μ : Mem) (m : Nat) (B : Nat → Nat) (aw : Option Nat) (hm : HA μ m B aw) (hW : WB B)  : SpI Γ MX9_works 0 0 0 [.ref m] μ (fun r μ2 => r = nI (B 85) ∧ μ2 = μ) := by
  refine SpI.of okX9_works rfl [some (.ref m)] ⟨rfl, trivial⟩ (leb rfl) (leb rfl) (fun X hX hE hnm => ?_)
  refine w_aload_n (i := 0) hX dX9_works_0 rfl rfl ?_
  refine w_getR (q := m + 6) hX dX9_works_1 fo_RX9_73 rfl (mod_s hm.1.1) (mod_r10 hm.1.1) ?_
  refine w_bipush hX dX9_works_4 kB_85 ?_
  refine w_ialdN hX dX9_works_6 (mod_a6 hm.1.1) (by omega) (by omega) ?_
  refine w_top (y := nI (B 85)) (hm.1.2 _ (by omega)).1 ?_
  exact w_iret hX hE dX9_works_7 (Or.inl rfl) rfl ⟨rfl, rfl⟩
set_option maxHeartbeats 1000000 in
theorem s_a_workOf (Γ : Gm) (μ : Mem) (m : Nat) (B : Nat → Nat) (aw : Option Nat) (hm : HA μ m B aw) (hW : WB B) (q w : Nat) (hq : q < 8) (hw : w < 5) : SpI Γ MX9_workOf 0 0 0 [.ref m, .int (nI q), .int (nI w)] μ (fun r μ2 => r = nI (B (86 + (5 * q) + w)) ∧ μ2 = μ) := by
  refine SpI.of okX9_workOf rfl [some (.ref m), some (.int (nI q)), some (.int (nI w))] ⟨rfl, rfl, rfl, trivial⟩ (leb rfl) (leb rfl) (fun X hX hE hnm => ?_)
  refine w_aload_n (i := 0) hX dX9_workOf_0 rfl rfl ?_
  refine w_getR (q := m + 6) hX dX9_workOf_1 fo_RX9_73 rfl (mod_s hm.1.1) (mod_r10 hm.1.1) ?_
  refine w_bipush hX dX9_workOf_4 kB_86 ?_
  refine w_iconst hX dX9_workOf_6 kI_5 ?_
  refine w_iload_n (i := 1) hX dX9_workOf_7 rfl rfl ?_
  refine w_imulN hX dX9_workOf_8 ?_
  refine w_iaddN hX dX9_workOf_9 ?_
  refine w_iload_n (i := 2) hX dX9_workOf_10 rfl rfl ?_
  refine w_iaddN hX dX9_workOf_11 ?_
  refine w_ialdN hX dX9_workOf_12 (mod_a6 hm.1.1) (by omega) (by omega) ?_
  refine w_top (y := nI (B (86 + (5 * q) + w))) (hm.1.2 _ (by omega)).1 ?_
  exact w_iret hX hE dX9_workOf_13 (Or.inl rfl) rfl ⟨rfl, rfl⟩
set_option maxHeartbeats 1000000 in
theorem s_a_shown (Γ : Gm) (μ : Mem) (m : Nat) (B : Nat → Nat) (aw : Option Nat) (hm : HA μ m B aw) (hW : WB B) (c : Nat) (hc : c ≤ 20000000) : SpI Γ MX9_shownAt 3 0 0 [.ref m, .int (nI 0), .int (nI c)] μ (fun r μ2 => r = (nI c) - (nI (60 * (mBk B aw 0 c (nB B 0)))) ∧ μ2 = μ) := by
  refine SpI.of okX9_shownAt rfl [some (.ref m), some (.int (nI 0)), some (.int (nI c))] ⟨rfl, rfl, rfl, trivial⟩ (leb rfl) (leb rfl) (fun X hX hE hnm => ?_)
  refine w_iload_n (i := 2) hX dX9_shownAt_0 rfl rfl ?_
  refine w_bipush hX dX9_shownAt_1 kB_60 ?_
  refine w_aload_n (i := 0) hX dX9_shownAt_3 rfl rfl ?_
  refine w_iload_n (i := 1) hX dX9_shownAt_4 rfl rfl ?_
  refine w_iload_n (i := 2) hX dX9_shownAt_5 rfl rfl ?_
  refine w_callVI (As := [.int (nI 0), .int (nI c)]) (rest := [.int (nI 60), .int (nI c)]) (ci := 9) (o := m) (k2 := 0) (n2 := 0) hX dX9_shownAt_6 (s_m_backsBy Γ μ m B hm.1 aw hm.2.1 0 (by omega) (nB_le hm.2.2 (by omega)) c hc) okX9_backsBy (ltb rfl) (mod_s hm.1.1) ml_RX9_253 imX9_backsBy seX9_backsBy rfl (leb rfl) (leb rfl) rfl rfl (fun r9 μ9 hq9 => ?_)
  obtain ⟨hr9, hm9⟩ := hq9; rw [hr9, hm9]; clear hr9 hm9 r9 μ9
  refine w_imulN hX dX9_shownAt_9 ?_
  refine w_isub hX dX9_shownAt_10 ?_
  exact w_iret hX hE dX9_shownAt_11 (Or.inl rfl) rfl ⟨rfl, rfl⟩
set_option maxHeartbeats 1000000 in
theorem s_a_begin (Γ : Gm) (μ : Mem) (m : Nat) (B : Nat → Nat) (aw : Option Nat) (hm : HA μ m B aw) (hW : WB B) (d w t : Nat) (hd : d ≤ 3649) (ha : aw = none ∨ aw = some d) (hw : w < B 85) (hwd : B (86 + 5 * w) = d) (ht : t < 2 ^ 29) : SpI Γ MX9_beginFrom 4 0 0 [.ref m, .int (nI w), .int (nI t)] μ (fun r μ2 => r = nI ((eb (WnB B (b0F B d) (skW B d aw)) w t).getD 100000000) ∧ μ2 = μ) := by
  refine SpI.of okX9_beginFrom rfl [some (.ref m), some (.int (nI w)), some (.int (nI t)), none, none, none, none] ⟨rfl, rfl, rfl, trivial⟩ (leb rfl) (leb rfl) (fun X hX hE hnm => ?_)
  have hn8 := hW.2.2.1.1; have hb0 := b0F_le hW hd
  obtain ⟨-, hk1, hk2, hk3, hk4, -⟩ := hW.2.2.1.2 w hw
  have hsk := skW_ok (d := d) (aw := aw) hm.2.2
  have hok := okWn_B (b0 := b0F B d) (sk := (skW B d aw)) hW (by omega) hsk
  have hpl := (psd_le hsk (B (86 + 5 * w + 1))).1
  have hb00 : 1440 * d + 60 * mFi B aw 0 (1440 * d) (nB B 0) = b0F B d := by have h9 := clk_fi (f := 0) hm.2.2 ha (by omega); rw [(psd_le hsk 0).2] at h9; simpa using h9
  refine w_aload_n (i := 0) hX dX9_beginFrom_0 rfl rfl ?_
  refine w_iload_n (i := 1) hX dX9_beginFrom_1 rfl rfl ?_
  refine w_iconst hX dX9_beginFrom_2 kI_0 ?_
  refine w_callVI (As := [.int (nI w), .int (nI 0)]) (rest := []) (ci := 9) (o := m) (k2 := 0) (n2 := 0) hX dX9_beginFrom_3 (s_a_workOf Γ μ m B aw hm hW w 0 (by omega) (by omega)) okX9_workOf (ltb rfl) (mod_s hm.1.1) ml_RX9_320 imX9_workOf seX9_workOf rfl (leb rfl) (leb rfl) rfl rfl (fun r9 μ9 hq9 => ?_)
  obtain ⟨hr9, hm9⟩ := hq9; rw [hr9, hm9, show B (86 + 5 * w + 0) = B (86 + 5 * w) from rfl]; clear hr9 hm9 r9 μ9
  refine w_istore_n (i := 3) (l2 := [some (.ref m), some (.int (nI w)), some (.int (nI t)), some (.int (nI (B (86 + 5 * w)))), none, none, none]) hX dX9_beginFrom_6 rfl (ltb rfl) rfl rfl ?_
  refine w_locs (ls2 := [some (.ref m), some (.int (nI w)), some (.int (nI t)), some (.int (nI d)), none, none, none]) (by rw [hwd]) ?_
  refine w_aload_n (i := 0) hX dX9_beginFrom_7 rfl rfl ?_
  refine w_iconst hX dX9_beginFrom_8 kI_0 ?_
  refine w_sipush hX dX9_beginFrom_9 kS_1440 ?_
  refine w_iload_n (i := 3) hX dX9_beginFrom_12 rfl rfl ?_
  refine w_imulN hX dX9_beginFrom_13 ?_
  refine w_aload_n (i := 0) hX dX9_beginFrom_14 rfl rfl ?_
  refine w_iload_n (i := 1) hX dX9_beginFrom_15 rfl rfl ?_
  refine w_iconst hX dX9_beginFrom_16 kI_1 ?_
  refine w_callVI (As := [.int (nI w), .int (nI 1)]) (rest := [.int (nI (1440 * d)), .int (nI 0), .ref m]) (ci := 9) (o := m) (k2 := 0) (n2 := 0) hX dX9_beginFrom_17 (s_a_workOf Γ μ m B aw hm hW w 1 (by omega) (by omega)) okX9_workOf (ltb rfl) (mod_s hm.1.1) ml_RX9_320 imX9_workOf seX9_workOf rfl (leb rfl) (leb rfl) rfl rfl (fun r9 μ9 hq9 => ?_)
  obtain ⟨hr9, hm9⟩ := hq9; rw [hr9, hm9]; clear hr9 hm9 r9 μ9
  refine w_iaddN hX dX9_beginFrom_20 ?_
  refine w_callVI (As := [.int (nI 0), .int (nI (1440 * d + (B (86 + 5 * w + 1))))]) (rest := []) (ci := 9) (o := m) (k2 := 0) (n2 := 0) hX dX9_beginFrom_21 (s_m_firstOf Γ μ m B hm.1 aw hm.2.1 0 (by omega) (nB_le hm.2.2 (by omega)) (1440 * d + B (86 + 5 * w + 1)) (by omega)) okX9_firstOf (ltb rfl) (mod_s hm.1.1) ml_RX9_256 imX9_firstOf seX9_firstOf rfl (leb rfl) (leb rfl) rfl rfl (fun r9 μ9 hq9 => ?_)
  obtain ⟨hr9, hm9⟩ := hq9; rw [hr9, hm9, show B (1 + 25 * 0) = nB B 0 from rfl, clk_fi hm.2.2 ha (by omega)]; clear hr9 hm9 r9 μ9
  refine w_istore (l2 := [some (.ref m), some (.int (nI w)), some (.int (nI t)), some (.int (nI d)), some (.int (nI (b0F B d + B (86 + 5 * w + 1) + psd (skW B d aw) (B (86 + 5 * w + 1))))), none, none]) hX dX9_beginFrom_24 (ltb rfl) rfl rfl ?_
  have j38 : WP Γ X 0 0 38 [some (.ref m), some (.int (nI w)), some (.int (nI t)), some (.int (nI d)), none, none, none] [.int (nI (max (b0F B d + B (86 + 5 * w + 1) + psd (skW B d aw) (B (86 + 5 * w + 1))) t))] μ := by
    refine w_istore (l2 := [some (.ref m), some (.int (nI w)), some (.int (nI t)), some (.int (nI d)), some (.int (nI (max (b0F B d + B (86 + 5 * w + 1) + psd (skW B d aw) (B (86 + 5 * w + 1))) t))), none, none]) hX dX9_beginFrom_38 (ltb rfl) rfl rfl ?_
    refine w_aload_n (i := 0) hX dX9_beginFrom_40 rfl rfl ?_
    refine w_iconst hX dX9_beginFrom_41 kI_0 ?_
    refine w_sipush hX dX9_beginFrom_42 kS_1440 ?_
    refine w_iload_n (i := 3) hX dX9_beginFrom_45 rfl rfl ?_
    refine w_imulN hX dX9_beginFrom_46 ?_
    refine w_callVI (As := [.int (nI 0), .int (nI (1440 * d))]) (rest := []) (ci := 9) (o := m) (k2 := 0) (n2 := 0) hX dX9_beginFrom_47 (s_m_firstOf Γ μ m B hm.1 aw hm.2.1 0 (by omega) (nB_le hm.2.2 (by omega)) (1440 * d) (by omega)) okX9_firstOf (ltb rfl) (mod_s hm.1.1) ml_RX9_256 imX9_firstOf seX9_firstOf rfl (leb rfl) (leb rfl) rfl rfl (fun r9 μ9 hq9 => ?_)
    obtain ⟨hr9, hm9⟩ := hq9; rw [hr9, hm9, show B (1 + 25 * 0) = nB B 0 from rfl, hb00]; clear hr9 hm9 r9 μ9
    refine w_sipush hX dX9_beginFrom_50 kS_1440 ?_
    refine w_iaddN hX dX9_beginFrom_53 ?_
    refine w_bipush hX dX9_beginFrom_54 kB_60 ?_
    refine w_iaddN hX dX9_beginFrom_56 ?_
    refine w_istore (l2 := [some (.ref m), some (.int (nI w)), some (.int (nI t)), some (.int (nI d)), some (.int (nI (max (b0F B d + B (86 + 5 * w + 1) + psd (skW B d aw) (B (86 + 5 * w + 1))) t))), some (.int (nI (b0F B d + 1440 + 60))), none]) hX dX9_beginFrom_57 (ltb rfl) rfl rfl ?_
    have loop : ∀ q x, b0F B d + 1500 ≤ x + q → b0F B d ≤ x → x < 2 ^ 30 → t ≤ x → (∀ s, inW (WnB B (b0F B d) (skW B d aw)) w s → t ≤ s → x ≤ s) → WP Γ X 0 0 59 [some (.ref m), some (.int (nI w)), some (.int (nI t)), some (.int (nI d)), some (.int (nI x)), some (.int (nI (b0F B d + 1440 + 60))), none] [] μ := by
      intro q
      induction q with
      | zero =>
        intro x hq hx1 hx2 hx3 hx4
        refine w_iload hX dX9_beginFrom_59 rfl ?_
        refine w_iload hX dX9_beginFrom_61 rfl ?_
        refine wn_icmp_ge (tgt := 112) hX dX9_beginFrom_63 (by decide) (by omega) (by omega) (fun c1 => ?_) (fun c1 => ?_)
        · refine w_ldcw hX dX9_beginFrom_112 ki_RX9_323 ?_
          refine w_top (y := nI 100000000) rfl ?_
          exact w_iret hX hE dX9_beginFrom_115 (Or.inl rfl) rfl ⟨by rw [eb_no hok hw (fun s h1 h2 => by have h3 := hx4 s h1 h2; have h4 := inW_f0 hsk h1; omega)]; rfl, rfl⟩
        · exfalso; omega
      | succ q ih =>
        intro x hq hx1 hx2 hx3 hx4
        refine w_iload hX dX9_beginFrom_59 rfl ?_
        refine w_iload hX dX9_beginFrom_61 rfl ?_
        refine wn_icmp_ge (tgt := 112) hX dX9_beginFrom_63 (by decide) (by omega) (by omega) (fun c2 => ?_) (fun c2 => ?_)
        · refine w_ldcw hX dX9_beginFrom_112 ki_RX9_323 ?_
          refine w_top (y := nI 100000000) rfl ?_
          exact w_iret hX hE dX9_beginFrom_115 (Or.inl rfl) rfl ⟨by rw [eb_no hok hw (fun s h1 h2 => by have h3 := hx4 s h1 h2; have h4 := inW_f0 hsk h1; omega)]; rfl, rfl⟩
        · refine w_aload_n (i := 0) hX dX9_beginFrom_66 rfl rfl ?_
          refine w_iconst hX dX9_beginFrom_67 kI_0 ?_
          refine w_iload hX dX9_beginFrom_68 rfl ?_
          refine w_callVI (As := [.int (nI 0), .int (nI x)]) (rest := []) (ci := 9) (o := m) (k2 := 0) (n2 := 0) hX dX9_beginFrom_70 (s_a_shown Γ μ m B aw hm hW x (by omega)) okX9_shownAt (ltb rfl) (mod_s hm.1.1) ml_RX9_273 imX9_shownAt seX9_shownAt rfl (leb rfl) (leb rfl) rfl rfl (fun r9 μ9 hq9 => ?_)
          obtain ⟨hr9, hm9⟩ := hq9; rw [hr9, hm9]; clear hr9 hm9 r9 μ9
          refine w_sipush hX dX9_beginFrom_73 kS_1440 ?_
          refine w_iload_n (i := 3) hX dX9_beginFrom_76 rfl rfl ?_
          refine w_imulN hX dX9_beginFrom_77 ?_
          refine w_isub hX dX9_beginFrom_78 ?_
          refine w_top (y := nI (x - b0F B d - psd (skW B d aw) (x - b0F B d))) (by have h9 := clk_bk hm.2.2 ha hx1 (by omega); have h8 := (psd_le hsk (x - b0F B d)).1; rw [pk_sub (by omega), pk_sub (by omega)]; congr 1; omega) ?_
          refine w_istore (l2 := [some (.ref m), some (.int (nI w)), some (.int (nI t)), some (.int (nI d)), some (.int (nI x)), some (.int (nI (b0F B d + 1440 + 60))), some (.int (nI (x - b0F B d - psd (skW B d aw) (x - b0F B d))))]) hX dX9_beginFrom_79 (ltb rfl) rfl rfl ?_
          refine w_iload hX dX9_beginFrom_81 rfl ?_
          refine w_aload_n (i := 0) hX dX9_beginFrom_83 rfl rfl ?_
          refine w_iload_n (i := 1) hX dX9_beginFrom_84 rfl rfl ?_
          refine w_iconst hX dX9_beginFrom_85 kI_1 ?_
          refine w_callVI (As := [.int (nI w), .int (nI 1)]) (rest := [.int (nI (x - b0F B d - psd (skW B d aw) (x - b0F B d)))]) (ci := 9) (o := m) (k2 := 0) (n2 := 0) hX dX9_beginFrom_86 (s_a_workOf Γ μ m B aw hm hW w 1 (by omega) (by omega)) okX9_workOf (ltb rfl) (mod_s hm.1.1) ml_RX9_320 imX9_workOf seX9_workOf rfl (leb rfl) (leb rfl) rfl rfl (fun r9 μ9 hq9 => ?_)
          obtain ⟨hr9, hm9⟩ := hq9; rw [hr9, hm9]; clear hr9 hm9 r9 μ9
          refine wn_icmp_lt (tgt := 106) hX dX9_beginFrom_89 (by decide) (by omega) (by omega) (fun c3 => ?_) (fun c3 => ?_)
          · refine w_iincN (w := 1) (l2 := [some (.ref m), some (.int (nI w)), some (.int (nI t)), some (.int (nI d)), some (.int (nI (x + 1))), some (.int (nI (b0F B d + 1440 + 60))), some (.int (nI (x - b0F B d - psd (skW B d aw) (x - b0F B d))))]) hX dX9_beginFrom_106 rfl kI_1 rfl rfl ?_
            refine w_goto (tgt := 59) hX dX9_beginFrom_109 (by decide) ?_
            refine w_sub (l2 := [some (.ref m), some (.int (nI w)), some (.int (nI t)), some (.int (nI d)), some (.int (nI (x + 1))), some (.int (nI (b0F B d + 1440 + 60))), none]) (by simp [lsub]) (leb rfl) ?_
            refine ih (x + 1) (by omega) (by omega) (by omega) (by omega) (fun s h1 h2 => ?_)
            have h3 := hx4 s h1 h2
            by_cases e : s = x
            · subst e; have h4 := (inW_clk hsk hk1 hk2 hx1 (by omega)).mp h1; omega
            · omega
          · refine w_iload hX dX9_beginFrom_92 rfl ?_
            refine w_aload_n (i := 0) hX dX9_beginFrom_94 rfl rfl ?_
            refine w_iload_n (i := 1) hX dX9_beginFrom_95 rfl rfl ?_
            refine w_iconst hX dX9_beginFrom_96 kI_2 ?_
            refine w_callVI (As := [.int (nI w), .int (nI 2)]) (rest := [.int (nI (x - b0F B d - psd (skW B d aw) (x - b0F B d)))]) (ci := 9) (o := m) (k2 := 0) (n2 := 0) hX dX9_beginFrom_97 (s_a_workOf Γ μ m B aw hm hW w 2 (by omega) (by omega)) okX9_workOf (ltb rfl) (mod_s hm.1.1) ml_RX9_320 imX9_workOf seX9_workOf rfl (leb rfl) (leb rfl) rfl rfl (fun r9 μ9 hq9 => ?_)
            obtain ⟨hr9, hm9⟩ := hq9; rw [hr9, hm9]; clear hr9 hm9 r9 μ9
            refine wn_icmp_ge (tgt := 106) hX dX9_beginFrom_100 (by decide) (by omega) (by omega) (fun c4 => ?_) (fun c4 => ?_)
            · refine w_iincN (w := 1) (l2 := [some (.ref m), some (.int (nI w)), some (.int (nI t)), some (.int (nI d)), some (.int (nI (x + 1))), some (.int (nI (b0F B d + 1440 + 60))), some (.int (nI (x - b0F B d - psd (skW B d aw) (x - b0F B d))))]) hX dX9_beginFrom_106 rfl kI_1 rfl rfl ?_
              refine w_goto (tgt := 59) hX dX9_beginFrom_109 (by decide) ?_
              refine w_sub (l2 := [some (.ref m), some (.int (nI w)), some (.int (nI t)), some (.int (nI d)), some (.int (nI (x + 1))), some (.int (nI (b0F B d + 1440 + 60))), none]) (by simp [lsub]) (leb rfl) ?_
              refine ih (x + 1) (by omega) (by omega) (by omega) (by omega) (fun s h1 h2 => ?_)
              have h3 := hx4 s h1 h2
              by_cases e : s = x
              · subst e; have h4 := (inW_clk hsk hk1 hk2 hx1 (by omega)).mp h1; omega
              · omega
            · refine w_iload hX dX9_beginFrom_103 rfl ?_
              exact w_iret hX hE dX9_beginFrom_105 (Or.inl rfl) rfl ⟨by rw [eb_of hok hw ((inW_clk hsk hk1 hk2 hx1 (by omega)).mpr ⟨by omega, by omega⟩) hx3 hx4]; rfl, rfl⟩
    exact loop (b0F B d + 1500) _ (by omega) (by omega) (by omega) (by omega) (fun s h1 h2 => by have h3 := inW_f0 hsk h1; omega)
  refine w_iload hX dX9_beginFrom_26 rfl ?_
  refine w_iload_n (i := 2) hX dX9_beginFrom_28 rfl rfl ?_
  refine wn_icmp_ge (tgt := 36) hX dX9_beginFrom_29 (by decide) (by omega) (by omega) (fun c5 => ?_) (fun c5 => ?_)
  · refine w_iload hX dX9_beginFrom_36 rfl ?_
    refine w_top (y := nI (max (b0F B d + B (86 + 5 * w + 1) + psd (skW B d aw) (B (86 + 5 * w + 1))) t)) (congrArg nI (by omega)) ?_
    refine w_sub (l2 := [some (.ref m), some (.int (nI w)), some (.int (nI t)), some (.int (nI d)), none, none, none]) (by simp [lsub]) (leb rfl) ?_
    exact j38
  · refine w_iload_n (i := 2) hX dX9_beginFrom_32 rfl rfl ?_
    refine w_goto (tgt := 38) hX dX9_beginFrom_33 (by decide) ?_
    refine w_top (y := nI (max (b0F B d + B (86 + 5 * w + 1) + psd (skW B d aw) (B (86 + 5 * w + 1))) t)) (congrArg nI (by omega)) ?_
    refine w_sub (l2 := [some (.ref m), some (.int (nI w)), some (.int (nI t)), some (.int (nI d)), none, none, none]) (by simp [lsub]) (leb rfl) ?_
    exact j38
