/-! the law's loop -/
theorem and31 (y : Int32) : ∃ v, v < 32 ∧ y &&& nI 31 = nI v := by
  refine ⟨(y.toBitVec &&& 31#32).toNat, ?_, ?_⟩
  · rw [BitVec.toNat_and]; exact Nat.lt_of_le_of_lt Nat.and_le_right (by decide)
  · apply Int32.toBitVec_inj.mp
    rw [Int32.toBitVec_and]
    show _ = BitVec.ofNat 32 _
    rw [BitVec.ofNat_toNat, BitVec.setWidth_eq]; rfl
theorem le8 {i L : Nat} (hi : i < 2 ^ 30) (hL : L < 2 ^ 30) (h : nI i ≤ nI L - nI 8) : i + 8 ≤ L := by
  have h1 := Int32.le_iff_toInt_le.mp h
  rw [nI_toInt (by omega), Int32.toInt_sub, nI_toInt (by omega), nI_toInt (by omega), show (2 : Nat) ^ 32 = 4294967296 from rfl] at h1
  rw [Int.bmod_eq_of_le (by omega) (by omega)] at h1
  omega
set_option maxHeartbeats 2000000 in
theorem l_loop {Γ : Gm} (hfr : Γ.2.2.2.2.2 = false) {X : Cx} {L : Nat} {xs : Nat → Int32} (hX : GX Γ X RL cL_law 280) (hC : SCR Γ X L xs) (hL : L ≤ 4096) (hend : ∀ k n ls μ, WP Γ X k n 1557 ls [] μ) : ∀ r i k n ν, L ≤ i + 8 * r + 7 → i ≤ L + 8 → r ≤ k → 6 * r ≤ n → LIx ν → WP Γ X k n 23 [some (.ref scr), some (.ref 0), some (.ref 57), some (.ref 80), some (.int (nI i)), none, none] [] ν := by
  intro r
  induction r with
  | zero =>
    intro i k n ν h1 hb hk hn hI
    refine w_iload hX dL_law_23 rfl ?_
    refine w_aload_n (i := 0) hX dL_law_25 rfl rfl ?_
    refine w_slen hX hC dL_law_26 ?_
    refine w_top (y := nI L) rfl ?_
    refine w_bipush hX dL_law_27 kB_8 ?_
    refine w_isub hX dL_law_29 ?_
    refine wc_icmp_gt (tgt := 1557) hX dL_law_30 (by decide) (fun c1 => ?_) (fun c1 => ?_)
    · exact hend _ _ _ _
    · have h8 := le8 (by omega) (by omega) c1
      exfalso; omega
  | succ r ih =>
    intro i k n ν h1 hb hk hn hI
    obtain ⟨k1, rfl⟩ : ∃ k1, k = 1 + k1 := ⟨k - 1, by omega⟩
    obtain ⟨n1, rfl⟩ : ∃ n1, n = 6 + n1 := ⟨n - 6, by omega⟩
    refine w_iload hX dL_law_23 rfl ?_
    refine w_aload_n (i := 0) hX dL_law_25 rfl rfl ?_
    refine w_slen hX hC dL_law_26 ?_
    refine w_top (y := nI L) rfl ?_
    refine w_bipush hX dL_law_27 kB_8 ?_
    refine w_isub hX dL_law_29 ?_
    refine wc_icmp_gt (tgt := 1557) hX dL_law_30 (by decide) (fun c1 => ?_) (fun c1 => ?_)
    · exact hend _ _ _ _
    · have hi := le8 (by omega) (by omega) c1
      have kk : ∀ ν2, LIx ν2 → WP Γ X k1 n1 1551 [some (.ref scr), some (.ref 0), some (.ref 57), some (.ref 80), some (.int (nI i)), none, none] [] ν2 := fun ν2 h2 => by
        refine w_iincN (w := 8) (l2 := [some (.ref scr), some (.ref 0), some (.ref 57), some (.ref 80), some (.int (nI (i + 8))), none, none]) hX dL_law_1551 rfl kI_8 rfl rfl ?_
        refine w_goto (tgt := 23) hX dL_law_1554 (by decide) ?_
        exact ih (i + 8) k1 n1 ν2 (by omega) (by omega) (by omega) (by omega) h2
      refine w_aload_n (i := 0) hX dL_law_33 rfl rfl ?_
      refine w_iload hX dL_law_34 rfl ?_
      refine w_sld hX hC (vp_in_nI (by omega) (by omega)) dL_law_36 ?_
      refine w_bipush hX dL_law_37 kB_31 ?_
      refine w_iand hX dL_law_39 ?_
      obtain ⟨b, c, B, s, k9, h⟩ := hI
      obtain ⟨v, hv, e⟩ := and31 (xs (nI i).toNatClampNeg)
      refine w_top e ?_
      clear e
      rcases (show v = 0 ∨ v = 1 ∨ v = 2 ∨ v = 3 ∨ v = 4 ∨ v = 5 ∨ v = 6 ∨ v = 7 ∨ v = 8 ∨ v = 9 ∨ v = 10 ∨ v = 11 ∨ v = 12 ∨ v = 13 ∨ v = 14 ∨ v = 15 ∨ v = 16 ∨ v = 17 ∨ v = 18 ∨ v = 19 ∨ v = 20 ∨ v = 21 ∨ v = 22 ∨ v = 23 ∨ v = 24 ∨ v = 25 ∨ v = 26 ∨ v = 27 ∨ v = 28 ∨ v = 29 ∨ v = 30 ∨ v = 31 by omega) with rfl | rfl | rfl | rfl | rfl | rfl | rfl | rfl | rfl | rfl | rfl | rfl | rfl | rfl | rfl | rfl | rfl | rfl | rfl | rfl | rfl | rfl | rfl | rfl | rfl | rfl | rfl | rfl | rfl | rfl | rfl | rfl
      · refine w_tableIn (tgt := 168) hX dL_law_40 (by decide) (by decide) rfl (by decide) ?_
        exact w_budget hfr (by omega) (by omega) (l_feed hX hC hi (by omega) ν b c B s k9 h kk)
      · refine w_tableIn (tgt := 315) hX dL_law_40 (by decide) (by decide) rfl (by decide) ?_
        exact w_budget hfr (by omega) (by omega) (l_book hX hC hi (by omega) ν b c B s k9 h kk)
      · refine w_tableIn (tgt := 328) hX dL_law_40 (by decide) (by decide) rfl (by decide) ?_
        exact l_shown hfr hX hC hi (by omega) ν b c B s k9 h kk
      · refine w_tableIn (tgt := 396) hX dL_law_40 (by decide) (by decide) rfl (by decide) ?_
        exact w_budget hfr (by omega) (by omega) (l_moment hX hC hi (by omega) ν b c B s k9 h kk)
      · refine w_tableIn (tgt := 457) hX dL_law_40 (by decide) (by decide) rfl (by decide) ?_
        exact l_backs hfr hX hC hi (by omega) ν b c B s k9 h kk
      · refine w_tableIn (tgt := 525) hX dL_law_40 (by decide) (by decide) rfl (by decide) ?_
        exact l_between hfr hX hC hi (by omega) ν b c B s k9 h kk
      · refine w_tableIn (tgt := 643) hX dL_law_40 (by decide) (by decide) rfl (by decide) ?_
        exact w_budget hfr (by omega) (by omega) (l_paper hX hC hi (by omega) ν b c B s k9 h kk)
      · refine w_tableIn (tgt := 680) hX dL_law_40 (by decide) (by decide) rfl (by decide) ?_
        exact w_budget hfr (by omega) (by omega) (l_worlds hX hC hi (by omega) ν b c B s k9 h kk)
      · refine w_tableIn (tgt := 693) hX dL_law_40 (by decide) (by decide) rfl (by decide) ?_
        exact w_budget hfr (by omega) (by omega) (l_world hX hC hi (by omega) ν b c B s k9 h kk)
      · refine w_tableIn (tgt := 730) hX dL_law_40 (by decide) (by decide) rfl (by decide) ?_
        exact w_budget hfr (by omega) (by omega) (l_sure hX hC hi (by omega) ν b c B s k9 h kk)
      · refine w_tableIn (tgt := 755) hX dL_law_40 (by decide) (by decide) rfl (by decide) ?_
        exact w_budget hfr (by omega) (by omega) (l_before hX hC hi (by omega) ν b c B s k9 h kk)
      · refine w_tableIn (tgt := 792) hX dL_law_40 (by decide) (by decide) rfl (by decide) ?_
        exact w_budget hfr (by omega) (by omega) (l_together hX hC hi (by omega) ν b c B s k9 h kk)
      · refine w_tableIn (tgt := 805) hX dL_law_40 (by decide) (by decide) rfl (by decide) ?_
        exact w_budget hfr (by omega) (by omega) (l_open hX hC hi (by omega) ν b c B s k9 h kk)
      · refine w_tableIn (tgt := 818) hX dL_law_40 (by decide) (by decide) rfl (by decide) ?_
        exact w_budget hfr (by omega) (by omega) (l_work hX hC hi (by omega) ν b c B s k9 h kk)
      · refine w_tableIn (tgt := 855) hX dL_law_40 (by decide) (by decide) rfl (by decide) ?_
        exact w_budget hfr (by omega) (by omega) (l_best hX hC hi (by omega) ν b c B s k9 h kk)
      · refine w_tableIn (tgt := 892) hX dL_law_40 (by decide) (by decide) rfl (by decide) ?_
        exact w_budget hfr (by omega) (by omega) (l_order hX hC hi (by omega) ν b c B s k9 h kk)
      · refine w_tableIn (tgt := 929) hX dL_law_40 (by decide) (by decide) rfl (by decide) ?_
        exact w_budget hfr (by omega) (by omega) (l_begins hX hC hi (by omega) ν b c B s k9 h kk)
      · refine w_tableIn (tgt := 966) hX dL_law_40 (by decide) (by decide) rfl (by decide) ?_
        exact w_budget hfr (by omega) (by omega) (l_wish hX hC hi (by omega) ν b c B s k9 h kk)
      · refine w_tableIn (tgt := 1003) hX dL_law_40 (by decide) (by decide) rfl (by decide) ?_
        exact w_budget hfr (by omega) (by omega) (l_vote hX hC hi (by omega) ν b c B s k9 h kk)
      · refine w_tableIn (tgt := 1028) hX dL_law_40 (by decide) (by decide) rfl (by decide) ?_
        exact w_budget hfr (by omega) (by omega) (l_prefers hX hC hi (by omega) ν b c B s k9 h kk)
      · refine w_tableIn (tgt := 1065) hX dL_law_40 (by decide) (by decide) rfl (by decide) ?_
        exact w_budget hfr (by omega) (by omega) (l_most hX hC hi (by omega) ν b c B s k9 h kk)
      · refine w_tableIn (tgt := 1102) hX dL_law_40 (by decide) (by decide) rfl (by decide) ?_
        exact w_budget hfr (by omega) (by omega) (l_goes hX hC hi (by omega) ν b c B s k9 h kk)
      · refine w_tableIn (tgt := 1163) hX dL_law_40 (by decide) (by decide) rfl (by decide) ?_
        exact w_budget hfr (by omega) (by omega) (l_way hX hC hi (by omega) ν b c B s k9 h kk)
      · refine w_tableIn (tgt := 1200) hX dL_law_40 (by decide) (by decide) rfl (by decide) ?_
        exact l_wage hfr hX hC hi (by omega) ν b c B s k9 h kk
      · refine w_tableIn (tgt := 1332) hX dL_law_40 (by decide) (by decide) rfl (by decide) ?_
        exact l_deed hfr hX hC hi (by omega) ν b c B s k9 h kk
      · refine w_tableIn (tgt := 1424) hX dL_law_40 (by decide) (by decide) rfl (by decide) ?_
        exact w_budget hfr (by omega) (by omega) (l_none hX hC hi (by omega) ν b c B s k9 h kk)
      · refine w_tableIn (tgt := 1473) hX dL_law_40 (by decide) (by decide) rfl (by decide) ?_
        exact w_budget hfr (by omega) (by omega) (l_mark hX hC hi (by omega) ν b c B s k9 h kk)
      · refine w_tableIn (tgt := 1526) hX dL_law_40 (by decide) (by decide) rfl (by decide) ?_
        exact w_budget hfr (by omega) (by omega) (l_count hX hC hi (by omega) ν b c B s k9 h kk)
      · refine w_tableOut (tgt := 1551) hX dL_law_40 (Or.inr (by decide)) (by decide) ?_
        exact w_budget hfr (by omega) (by omega) (kk ν ⟨b, c, B, s, k9, h⟩)
      · refine w_tableOut (tgt := 1551) hX dL_law_40 (Or.inr (by decide)) (by decide) ?_
        exact w_budget hfr (by omega) (by omega) (kk ν ⟨b, c, B, s, k9, h⟩)
      · refine w_tableOut (tgt := 1551) hX dL_law_40 (Or.inr (by decide)) (by decide) ?_
        exact w_budget hfr (by omega) (by omega) (kk ν ⟨b, c, B, s, k9, h⟩)
      · refine w_tableOut (tgt := 1551) hX dL_law_40 (Or.inr (by decide)) (by decide) ?_
        exact w_budget hfr (by omega) (by omega) (kk ν ⟨b, c, B, s, k9, h⟩)
def m0 : Mem := ([], fun _ _ => 0, fun _ _ => 0, fun _ _ => none)
theorem isMod_N {ν : Mem} {m n : Nat} {x : Shp} (h : isMod ν m) (hl : ν.1.length = n) (hm : m + 22 < n) : isMod (sN ν x) m := by
  have g : ∀ k, gR (sN ν x) m k = gR ν m k := fun k => gR_old hl (by omega)
  obtain ⟨h0, ⟨a0, b0⟩, ⟨a1, b1⟩, ⟨a2, b2⟩, ⟨a3, b3⟩, ⟨a4, b4⟩, ⟨a5, b5⟩, ⟨a6, b6⟩, ⟨a7, b7⟩, ⟨a8, b8⟩, ⟨a9, b9⟩, ⟨a10, b10⟩, ⟨a11, b11⟩, ⟨a12, b12⟩, ⟨a13, b13⟩, ⟨a14, b14⟩, ⟨a15, b15⟩, ⟨a16, b16⟩, ⟨a17, b17⟩, ⟨a18, b18⟩, ⟨a19, b19⟩, ⟨a20, b20⟩, ⟨a21, b21⟩⟩ := h
  exact ⟨shO hl (by omega) h0, ⟨by rw [g]; exact a0, shO hl (by omega) b0⟩, ⟨by rw [g]; exact a1, shO hl (by omega) b1⟩, ⟨by rw [g]; exact a2, shO hl (by omega) b2⟩, ⟨by rw [g]; exact a3, shO hl (by omega) b3⟩, ⟨by rw [g]; exact a4, shO hl (by omega) b4⟩, ⟨by rw [g]; exact a5, shO hl (by omega) b5⟩, ⟨by rw [g]; exact a6, shO hl (by omega) b6⟩, ⟨by rw [g]; exact a7, shO hl (by omega) b7⟩, ⟨by rw [g]; exact a8, shO hl (by omega) b8⟩, ⟨by rw [g]; exact a9, shO hl (by omega) b9⟩, ⟨by rw [g]; exact a10, shO hl (by omega) b10⟩, ⟨by rw [g]; exact a11, shO hl (by omega) b11⟩, ⟨by rw [g]; exact a12, shO hl (by omega) b12⟩, ⟨by rw [g]; exact a13, shO hl (by omega) b13⟩, ⟨by rw [g]; exact a14, shO hl (by omega) b14⟩, ⟨by rw [g]; exact a15, shO hl (by omega) b15⟩, ⟨by rw [g]; exact a16, shO hl (by omega) b16⟩, ⟨by rw [g]; exact a17, shO hl (by omega) b17⟩, ⟨by rw [g]; exact a18, shO hl (by omega) b18⟩, ⟨by rw [g]; exact a19, shO hl (by omega) b19⟩, ⟨by rw [g]; exact a20, shO hl (by omega) b20⟩, ⟨by rw [g]; exact a21, shO hl (by omega) b21⟩⟩
theorem YI.N {ν : Mem} {x : Shp} {k9 : Nat} {B : Nat → Nat} {s : Tp} (h : YI ν 57 B s k9) (hl : ν.1.length = 80) : YI (sN ν x) 57 B s k9 := by
  have g : ∀ o k, o < 80 → gI (sN ν x) o k = gI ν o k := fun o k ho => gI_old hl ho
  exact ⟨⟨⟨isMod_N h.1.1.1 hl (by omega), fun j hj => ⟨by rw [g _ _ (by omega)]; exact (h.1.1.2 j hj).1, (h.1.1.2 j hj).2⟩⟩, ⟨by rw [g _ _ (by omega)]; exact h.1.2.1.1, h.1.2.1.2⟩, h.1.2.2⟩, ⟨isMod_N h.1.1.1 hl (by omega), by rw [g _ _ (by omega)]; exact h.2.1.2.1, fun j hj => by rw [g _ _ (by omega)]; exact h.2.1.2.2 j hj⟩, fun k hk => by rw [gL_old hl (by omega)]; exact h.2.2.1 k hk, h.2.2.2.1, fun i hi => ⟨by rw [g _ _ (by omega)]; exact (h.2.2.2.2 i hi).1, fun hb j hj => by rw [g _ _ (by omega)]; exact (h.2.2.2.2 i hi).2 hb j hj⟩⟩
set_option maxHeartbeats 2000000 in
theorem l_start {Γ : Gm} (hfr : Γ.2.2.2.2.2 = true) {X : Cx} {L : Nat} {xs : Nat → Int32} (hX : GX Γ X RL cL_law 280) (hC : SCR Γ X L xs) (hL : L ≤ 4096) (hend : ∀ k n ls μ, WP (offG Γ) X k n 1557 ls [] μ) : WP Γ X 601024 7293034 0 [some (.ref scr), none, none, none, none, none, none] [] m0 := by
  -- new
  refine w_new (k := 601023) (n := 7293025) hX hfr dL_law_0 no_RL_8 (by decide) ?_
  refine w_dup hX dL_law_3 rfl ?_
  refine w_callIV (As := []) (rest := [.ref 0]) (o := 0) (k2 := 600967) (n2 := 7290277) hX dL_law_4 (s_c_x_open Γ (sN m0 (.inl 8)) hfr (rdm hfr) (lnN rfl) (shW rfl) (fun k => gI_nw rfl)) okX8_init ml_RL_30 imX8_init rfl rfl rfl (leb rfl) (leb rfl) rfl rfl (fun ν1 hq9 => ?_)
  obtain ⟨X1, L1, Xw, Xp, Xj⟩ := hq9
  refine w_astore_n (i := 1) (l2 := [some (.ref scr), some (.ref 0), none, none, none, none, none]) hX dL_law_7 rfl (ltb rfl) rfl rfl ?_
  -- new
  refine w_new (k := 600966) (n := 7290244) hX hfr dL_law_8 no_RL_31 (by rw [L1]; decide) ?_
  rw [L1]
  refine w_dup hX dL_law_11 rfl ?_
  refine w_callIV (As := []) (rest := [.ref 57]) (o := 57) (k2 := 600944) (n2 := 7282630) hX dL_law_12 (s_c_model Γ (sN ν1 (.inl 9)) hfr 57 (by decide) (lnN L1) (shW L1) (fun k => gI_nw L1)) okX9_init ml_RL_33 imX9_init rfl rfl rfl (leb rfl) (leb rfl) rfl rfl (fun ν2 hq9 => ?_)
  obtain ⟨M2, L2, O2, Z2, T2, H2, W2⟩ := hq9
  have Y2 := YI.first M2 L2 Z2 T2 H2 W2
  replace L2 : ν2.1.length = 80 := L2
  refine w_astore_n (i := 2) (l2 := [some (.ref scr), some (.ref 0), some (.ref 57), none, none, none, none]) hX dL_law_15 rfl (ltb rfl) rfl rfl ?_
  refine w_iconst hX dL_law_16 kI_1 ?_
  refine w_newL (k := 600943) (n := 7282629) (len := 1) hX hfr dL_law_17 (by decide) rfl (by decide) (by rw [L2]; decide) ?_
  rw [L2]
  refine w_astore_n (i := 3) (l2 := [some (.ref scr), some (.ref 0), some (.ref 57), some (.ref 80), none, none, none]) hX dL_law_19 rfl (ltb rfl) rfl rfl ?_
  refine w_iconst hX dL_law_20 kI_0 ?_
  refine w_istore (l2 := [some (.ref scr), some (.ref 0), some (.ref 57), some (.ref 80), some (.int (nI 0)), none, none]) hX dL_law_21 (ltb rfl) rfl rfl ?_
  have O3 : OLD 57 ν1 (sN ν2 (.inr (1, 1))) := (((OLD.rf.sN L1 (by decide)).tr O2).sN L2 (by decide))
  refine WP.off ?_
  exact l_loop (offG_f Γ) hX.off hC.off hL hend 513 0 _ _ _ (by omega) (by omega) (by decide) (by decide) ⟨25, 41, _, _, 0, X1.old Xw Xp Xj O3 (Nat.le_of_eq L1.symm), Y2.N L2, PI0.1, okT_0, shW L2⟩
