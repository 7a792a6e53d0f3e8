def fsB : List (Nat × Nat × Nat) := [(0, 4, 3), (1, 0, 9), (2, 0, 40), (3, 0, 216), (4, 0, 48), (5, 0, 64), (6, 1, 32), (7, 0, 32), (8, 0, 32)]
/-- a book in the making, with t clocks -/
def CLI (μ ν : Mem) (o t : Nat) : Prop := ν.1.length = o + 10 + 2 * t ∧ ν.1[o]? = some (.inl 0) ∧ (∀ i x, fsB[i]? = some x → gR ν o x.1 = some (o + 1 + i) ∧ ν.1[o + 1 + i]? = some (.inr (x.2.1, x.2.2))) ∧ OLD o μ ν ∧ (∀ q k, o < q → q < o + 10 → gI ν q k = nI 0) ∧ (∀ k, gI ν o k = nI 0) ∧ ∀ i, i < t → gR ν (o + 1) i = some (o + 10 + 2 * i) ∧ isClk ν (o + 10 + 2 * i) ∧ gI ν (o + 10 + 2 * i) 1 = nI 0
theorem isClk.old {μ ν : Mem} {c o : Nat} (h : isClk μ c) (hO : OLD o μ ν) (hc : c + 1 < o) (hl : o ≤ μ.1.length) : isClk ν c := ⟨by rw [hO.1 _ (by omega)]; exact h.1, by rw [(hO.2.2 _ _ (by omega)).2.2]; exact h.2.1, by rw [hO.1 _ (by omega)]; exact h.2.2⟩
theorem CLI.step {μ ν ξ : Mem} {o t c : Nat} (h : CLI μ ν o t) (ht : t < 3) (hc : c = o + 10 + 2 * t) (h1 : isClk ξ c) (h2 : ξ.1.length = c + 2) (h3 : OLD c (sN ν (.inl 1)) ξ) (h4 : gI ξ c 1 = nI 0) : CLI μ (sR ξ (o + 1) t (some c)) o (t + 1) := by
  obtain ⟨a1, a2, a3, a4, a5, a6, a7⟩ := h
  have hO : OLD c ν ξ := (OLD.rf.sN a1 (by omega)).tr h3
  have hl9 : fsB.length = 9 := rfl
  refine ⟨by show ξ.1.length = _; omega, by show ξ.1[o]? = _; rw [hO.1 _ (by omega)]; exact a2, fun i x hx => ?_, ((a4.tr (hO.dn (by omega))).sR (by omega)), fun q k hq1 hq2 => by show gI ξ q k = _; rw [(hO.2.2 _ _ (by omega)).1]; exact a5 q k hq1 hq2, fun k => by show gI ξ o k = _; rw [(hO.2.2 _ _ (by omega)).1]; exact a6 k, fun i hi => ?_⟩
  · have hi9 := (List.getElem?_eq_some_iff.mp hx).1
    obtain ⟨b1, b2⟩ := a3 i x hx
    exact ⟨by rw [gR_ne (by omega), (hO.2.2 _ _ (by omega)).2.2]; exact b1, by show ξ.1[o + 1 + i]? = _; rw [hO.1 _ (by omega)]; exact b2⟩
  · by_cases e : i = t
    · subst e; subst hc
      exact ⟨gR_same, isClk_R h1 (by omega), h4⟩
    · obtain ⟨b1, b2, b3⟩ := a7 i (by omega)
      exact ⟨by rw [gR_ne (by omega), (hO.2.2 _ _ (by omega)).2.2]; exact b1, isClk_R (b2.old hO (by omega) (by omega)) (by omega), by show gI ξ _ 1 = _; rw [(hO.2.2 _ _ (by omega)).1]; exact b3⟩
theorem CLI.bk {μ ν : Mem} {o : Nat} (h : CLI μ ν o 3) : isBk ν o ∧ Rb ν o (fun _ => 0) := by
  obtain ⟨a1, a2, a3, a4, a5, a6, a7⟩ := h
  have hb : isBk ν o := ⟨a2, a3 0 _ rfl, a3 1 _ rfl, a3 2 _ rfl, a3 3 _ rfl, a3 4 _ rfl, a3 5 _ rfl, a3 6 _ rfl, a3 7 _ rfl, a3 8 _ rfl, ⟨(a7 0 (by omega)).1, (a7 0 (by omega)).2.1⟩, ⟨(a7 1 (by omega)).1, (a7 1 (by omega)).2.1⟩, ⟨(a7 2 (by omega)).1, (a7 2 (by omega)).2.1⟩⟩
  exact ⟨hb, hb, a6 9, fun t ht => ⟨(a7 t ht).2.1, (a7 t ht).2.2, Nat.zero_le _, fun k hk => absurd hk (Nat.not_lt_zero _)⟩, fun i hi => a5 _ _ (by omega) (by omega), a6 10, a6 11, fun i hi => absurd hi (Nat.not_lt_zero _), a6 12, fun q s hq h1 h2 => a5 _ _ (by omega) (by omega), a6 13, fun i hi => absurd hi (Nat.not_lt_zero _), a6 14, fun i hi => absurd hi (Nat.not_lt_zero _)⟩
theorem gI_nw {μ : Mem} {x : Shp} {n k : Nat} (h : μ.1.length = n) : gI (sN μ x) n k = nI 0 := by subst h; rw [gI_new]; rfl
set_option maxHeartbeats 1000000 in
theorem c0_3 {Γ : Gm} {X : Cx} {μ : Mem} {o : Nat} (hX : GX Γ X MX0_init.1.cls MX0_init.2.1 2) (hE : EndV Γ X μ.1.length 15 (fun μ2 => CLI μ μ2 o 3)) (hini : X.2.2.2.2.2.2.2.1.name = "<init>") (hfr : Γ.2.2.2.2.2 = true) (ho8 : o < 800000) (ν : Mem) (I : CLI μ ν o 3) : WP Γ X 0 0 79 [some (.ref o), some (.int (nI 3))] [] ν := by
  have ho : o < 900000 := by omega
  refine w_iload_n (i := 1) hX dX0_init_79 rfl rfl ?_
  refine w_iconst hX dX0_init_80 kI_3 ?_
  refine wn_icmp_ge (tgt := 103) hX dX0_init_81 (by decide) (by omega) (by omega) (fun c1 => ?_) (fun c1 => ?_)
  · exact w_vret hX hE dX0_init_103 (Or.inl rfl) I
  · exact absurd c1 (by decide)
set_option maxHeartbeats 1000000 in
theorem c0_2 {Γ : Gm} {X : Cx} {μ : Mem} {o : Nat} (hX : GX Γ X MX0_init.1.cls MX0_init.2.1 2) (hE : EndV Γ X μ.1.length 15 (fun μ2 => CLI μ μ2 o 3)) (hini : X.2.2.2.2.2.2.2.1.name = "<init>") (hfr : Γ.2.2.2.2.2 = true) (ho8 : o < 800000) (ν : Mem) (I : CLI μ ν o 2) : WP Γ X 2 14 79 [some (.ref o), some (.int (nI 2))] [] ν := by
  have ho : o < 900000 := by omega
  refine w_iload_n (i := 1) hX dX0_init_79 rfl rfl ?_
  refine w_iconst hX dX0_init_80 kI_3 ?_
  refine wn_icmp_ge (tgt := 103) hX dX0_init_81 (by decide) (by omega) (by omega) (fun c1 => ?_) (fun c1 => ?_)
  · exact absurd c1 (by decide)
  · refine w_aload_n (i := 0) hX dX0_init_84 rfl rfl ?_
    refine w_getR (q := o + 1) hX dX0_init_85 fo_RX0_13 rfl I.2.1 (I.2.2.1 0 _ rfl).1 ?_
    refine w_iload_n (i := 1) hX dX0_init_88 rfl rfl ?_
    -- new
    refine w_new (n := 12) hX hfr dX0_init_89 no_RX0_11 (lt_scr (n := 13) (show (ν : Mem).1.length = o + 1 + 13 from I.1) ho (by decide)) ?_
    rw [show (ν : Mem).1.length = o + 14 from I.1]
    refine w_dup hX dX0_init_92 rfl ?_
    refine w_callINV (As := []) (rest := [.ref (o + 14), .int (nI 2), .ref (o + 1)]) (o := o + 14) (k2 := 0) (n2 := 0) hX dX0_init_93 (s_c_clock Γ (sN ν (.inl 1)) hfr (o + 14) (by omega) (lnN I.1) (shW I.1) (fun k => gI_nw I.1)) okX1_init (List.mem_of_getElem? (i := 5) rfl) imX1_init rfl rfl rfl (leb rfl) (leb rfl) rfl rfl (fun μ9 hq9 => ?_)
    obtain ⟨h1, h2, h3, -, h4⟩ := hq9
    refine w_aastN hX dX0_init_96 (show (μ9 : Mem).1[o + 1]? = some (.inr (4, 3)) by rw [h3.1 _ (by rw [lnN I.1]; omega)]; exact shO I.1 (by omega) (I.2.2.1 0 _ rfl).2) h1.1 (by decide) (by decide) ?_
    have J := I.step (by omega) (show o + 14 = _ from rfl) h1 h2 h3 h4
    refine w_iincN (w := 1) (l2 := [some (.ref o), some (.int (nI 3))]) hX dX0_init_97 rfl kI_1 rfl rfl ?_
    refine w_goto (tgt := 79) hX dX0_init_100 (by decide) ?_
    exact c0_3 hX hE hini hfr ho8 _ J
set_option maxHeartbeats 1000000 in
theorem c0_1 {Γ : Gm} {X : Cx} {μ : Mem} {o : Nat} (hX : GX Γ X MX0_init.1.cls MX0_init.2.1 2) (hE : EndV Γ X μ.1.length 15 (fun μ2 => CLI μ μ2 o 3)) (hini : X.2.2.2.2.2.2.2.1.name = "<init>") (hfr : Γ.2.2.2.2.2 = true) (ho8 : o < 800000) (ν : Mem) (I : CLI μ ν o 1) : WP Γ X 4 28 79 [some (.ref o), some (.int (nI 1))] [] ν := by
  have ho : o < 900000 := by omega
  refine w_iload_n (i := 1) hX dX0_init_79 rfl rfl ?_
  refine w_iconst hX dX0_init_80 kI_3 ?_
  refine wn_icmp_ge (tgt := 103) hX dX0_init_81 (by decide) (by omega) (by omega) (fun c1 => ?_) (fun c1 => ?_)
  · exact absurd c1 (by decide)
  · refine w_aload_n (i := 0) hX dX0_init_84 rfl rfl ?_
    refine w_getR (q := o + 1) hX dX0_init_85 fo_RX0_13 rfl I.2.1 (I.2.2.1 0 _ rfl).1 ?_
    refine w_iload_n (i := 1) hX dX0_init_88 rfl rfl ?_
    -- new
    refine w_new (n := 26) hX hfr dX0_init_89 no_RX0_11 (lt_scr (n := 11) (show (ν : Mem).1.length = o + 1 + 11 from I.1) ho (by decide)) ?_
    rw [show (ν : Mem).1.length = o + 12 from I.1]
    refine w_dup hX dX0_init_92 rfl ?_
    refine w_callINV (As := []) (rest := [.ref (o + 12), .int (nI 1), .ref (o + 1)]) (o := o + 12) (k2 := 2) (n2 := 14) hX dX0_init_93 (s_c_clock Γ (sN ν (.inl 1)) hfr (o + 12) (by omega) (lnN I.1) (shW I.1) (fun k => gI_nw I.1)) okX1_init (List.mem_of_getElem? (i := 5) rfl) imX1_init rfl rfl rfl (leb rfl) (leb rfl) rfl rfl (fun μ9 hq9 => ?_)
    obtain ⟨h1, h2, h3, -, h4⟩ := hq9
    refine w_aastN hX dX0_init_96 (show (μ9 : Mem).1[o + 1]? = some (.inr (4, 3)) by rw [h3.1 _ (by rw [lnN I.1]; omega)]; exact shO I.1 (by omega) (I.2.2.1 0 _ rfl).2) h1.1 (by decide) (by decide) ?_
    have J := I.step (by omega) (show o + 12 = _ from rfl) h1 h2 h3 h4
    refine w_iincN (w := 1) (l2 := [some (.ref o), some (.int (nI 2))]) hX dX0_init_97 rfl kI_1 rfl rfl ?_
    refine w_goto (tgt := 79) hX dX0_init_100 (by decide) ?_
    exact c0_2 hX hE hini hfr ho8 _ J
set_option maxHeartbeats 1000000 in
theorem c0_0 {Γ : Gm} {X : Cx} {μ : Mem} {o : Nat} (hX : GX Γ X MX0_init.1.cls MX0_init.2.1 2) (hE : EndV Γ X μ.1.length 15 (fun μ2 => CLI μ μ2 o 3)) (hini : X.2.2.2.2.2.2.2.1.name = "<init>") (hfr : Γ.2.2.2.2.2 = true) (ho8 : o < 800000) (ν : Mem) (I : CLI μ ν o 0) : WP Γ X 6 42 79 [some (.ref o), some (.int (nI 0))] [] ν := by
  have ho : o < 900000 := by omega
  refine w_iload_n (i := 1) hX dX0_init_79 rfl rfl ?_
  refine w_iconst hX dX0_init_80 kI_3 ?_
  refine wn_icmp_ge (tgt := 103) hX dX0_init_81 (by decide) (by omega) (by omega) (fun c1 => ?_) (fun c1 => ?_)
  · exact absurd c1 (by decide)
  · refine w_aload_n (i := 0) hX dX0_init_84 rfl rfl ?_
    refine w_getR (q := o + 1) hX dX0_init_85 fo_RX0_13 rfl I.2.1 (I.2.2.1 0 _ rfl).1 ?_
    refine w_iload_n (i := 1) hX dX0_init_88 rfl rfl ?_
    -- new
    refine w_new (n := 40) hX hfr dX0_init_89 no_RX0_11 (lt_scr (n := 9) (show (ν : Mem).1.length = o + 1 + 9 from I.1) ho (by decide)) ?_
    rw [show (ν : Mem).1.length = o + 10 from I.1]
    refine w_dup hX dX0_init_92 rfl ?_
    refine w_callINV (As := []) (rest := [.ref (o + 10), .int (nI 0), .ref (o + 1)]) (o := o + 10) (k2 := 4) (n2 := 28) hX dX0_init_93 (s_c_clock Γ (sN ν (.inl 1)) hfr (o + 10) (by omega) (lnN I.1) (shW I.1) (fun k => gI_nw I.1)) okX1_init (List.mem_of_getElem? (i := 5) rfl) imX1_init rfl rfl rfl (leb rfl) (leb rfl) rfl rfl (fun μ9 hq9 => ?_)
    obtain ⟨h1, h2, h3, -, h4⟩ := hq9
    refine w_aastN hX dX0_init_96 (show (μ9 : Mem).1[o + 1]? = some (.inr (4, 3)) by rw [h3.1 _ (by rw [lnN I.1]; omega)]; exact shO I.1 (by omega) (I.2.2.1 0 _ rfl).2) h1.1 (by decide) (by decide) ?_
    have J := I.step (by omega) (show o + 10 = _ from rfl) h1 h2 h3 h4
    refine w_iincN (w := 1) (l2 := [some (.ref o), some (.int (nI 1))]) hX dX0_init_97 rfl kI_1 rfl rfl ?_
    refine w_goto (tgt := 79) hX dX0_init_100 (by decide) ?_
    exact c0_1 hX hE hini hfr ho8 _ J
set_option maxHeartbeats 2000000 in
theorem c0_a {Γ : Gm} {X : Cx} {μ : Mem} {o : Nat} (hX : GX Γ X MX0_init.1.cls MX0_init.2.1 2) (hE : EndV Γ X μ.1.length 15 (fun μ2 => CLI μ μ2 o 3)) (hini : X.2.2.2.2.2.2.2.1.name = "<init>") (hfr : Γ.2.2.2.2.2 = true) (ho8 : o < 800000) (ν : Mem) (I : INV μ ν o 0 [] (fun _ => nI 0)) : WP Γ X 15 518 0 [some (.ref o), none] [] ν := by
  have ho : o < 900000 := by omega
  refine w_aload_n (i := 0) hX dX0_init_0 rfl rfl ?_
  refine w_objInit hX dX0_init_1 ol_RX0_5 (leb rfl) (leb rfl) ?_
  refine w_aload_n (i := 0) hX dX0_init_4 rfl rfl ?_
  refine w_iconst hX dX0_init_5 kI_3 ?_
  have K0 : ν.1.length = o + 1 + 0 := I.1
  refine w_newQ (len := 3) hX hfr dX0_init_6 cl_RX0_11 (by decide) rfl (by decide) (lt_scr K0 ho (by decide)) ?_
  rw [K0]
  refine w_putRF hX hini dX0_init_9 fo_RX0_13 rfl rfl rfl (shO K0 (lt_a o _) I.2.1) ?_
  have J0 := I.step (M := sN ν (.inr (4, 3))) (f := 0) (t := 4) (l := 3) (n := 0) rfl rfl (fun _ _ => rfl) (fun _ _ => rfl) (fun _ _ _ => rfl) (by decide)
  refine w_aload_n (i := 0) hX dX0_init_12 rfl rfl ?_
  refine w_bipush hX dX0_init_13 kB_9 ?_
  have K1 : (sR (sN ν (.inr (4, 3))) o 0 (some (o + 1 + 0))).1.length = o + 1 + 1 := J0.1
  refine w_newI (len := 9) hX hfr dX0_init_15 (by decide) rfl (by decide) (lt_scr K1 ho (by decide)) ?_
  rw [K1]
  refine w_putRF hX hini dX0_init_17 fo_RX0_17 rfl rfl rfl (shO K1 (lt_a o _) J0.2.1) ?_
  have J1 := J0.step (M := sN (sR (sN ν (.inr (4, 3))) o 0 (some (o + 1 + 0))) (.inr (0, 9))) (f := 1) (t := 0) (l := 9) (n := 1) rfl rfl (fun _ _ => rfl) (fun _ _ => rfl) (fun _ _ _ => rfl) (by decide)
  refine w_aload_n (i := 0) hX dX0_init_20 rfl rfl ?_
  refine w_bipush hX dX0_init_21 kB_40 ?_
  have K2 : (sR (sN (sR (sN ν (.inr (4, 3))) o 0 (some (o + 1 + 0))) (.inr (0, 9))) o 1 (some (o + 1 + 1))).1.length = o + 1 + 2 := J1.1
  refine w_newI (len := 40) hX hfr dX0_init_23 (by decide) rfl (by decide) (lt_scr K2 ho (by decide)) ?_
  rw [K2]
  refine w_putRF hX hini dX0_init_25 fo_RX0_21 rfl rfl rfl (shO K2 (lt_a o _) J1.2.1) ?_
  have J2 := J1.step (M := sN (sR (sN (sR (sN ν (.inr (4, 3))) o 0 (some (o + 1 + 0))) (.inr (0, 9))) o 1 (some (o + 1 + 1))) (.inr (0, 40))) (f := 2) (t := 0) (l := 40) (n := 2) rfl rfl (fun _ _ => rfl) (fun _ _ => rfl) (fun _ _ _ => rfl) (by decide)
  refine w_aload_n (i := 0) hX dX0_init_28 rfl rfl ?_
  refine w_sipush hX dX0_init_29 kS_216 ?_
  have K3 : (sR (sN (sR (sN (sR (sN ν (.inr (4, 3))) o 0 (some (o + 1 + 0))) (.inr (0, 9))) o 1 (some (o + 1 + 1))) (.inr (0, 40))) o 2 (some (o + 1 + 2))).1.length = o + 1 + 3 := J2.1
  refine w_newI (len := 216) hX hfr dX0_init_32 (by decide) rfl (by decide) (lt_scr K3 ho (by decide)) ?_
  rw [K3]
  refine w_putRF hX hini dX0_init_34 fo_RX0_24 rfl rfl rfl (shO K3 (lt_a o _) J2.2.1) ?_
  have J3 := J2.step (M := sN (sR (sN (sR (sN (sR (sN ν (.inr (4, 3))) o 0 (some (o + 1 + 0))) (.inr (0, 9))) o 1 (some (o + 1 + 1))) (.inr (0, 40))) o 2 (some (o + 1 + 2))) (.inr (0, 216))) (f := 3) (t := 0) (l := 216) (n := 3) rfl rfl (fun _ _ => rfl) (fun _ _ => rfl) (fun _ _ _ => rfl) (by decide)
  refine w_aload_n (i := 0) hX dX0_init_37 rfl rfl ?_
  refine w_bipush hX dX0_init_38 kB_48 ?_
  have K4 : (sR (sN (sR (sN (sR (sN (sR (sN ν (.inr (4, 3))) o 0 (some (o + 1 + 0))) (.inr (0, 9))) o 1 (some (o + 1 + 1))) (.inr (0, 40))) o 2 (some (o + 1 + 2))) (.inr (0, 216))) o 3 (some (o + 1 + 3))).1.length = o + 1 + 4 := J3.1
  refine w_newI (len := 48) hX hfr dX0_init_40 (by decide) rfl (by decide) (lt_scr K4 ho (by decide)) ?_
  rw [K4]
  refine w_putRF hX hini dX0_init_42 fo_RX0_27 rfl rfl rfl (shO K4 (lt_a o _) J3.2.1) ?_
  have J4 := J3.step (M := sN (sR (sN (sR (sN (sR (sN (sR (sN ν (.inr (4, 3))) o 0 (some (o + 1 + 0))) (.inr (0, 9))) o 1 (some (o + 1 + 1))) (.inr (0, 40))) o 2 (some (o + 1 + 2))) (.inr (0, 216))) o 3 (some (o + 1 + 3))) (.inr (0, 48))) (f := 4) (t := 0) (l := 48) (n := 4) rfl rfl (fun _ _ => rfl) (fun _ _ => rfl) (fun _ _ _ => rfl) (by decide)
  refine w_aload_n (i := 0) hX dX0_init_45 rfl rfl ?_
  refine w_bipush hX dX0_init_46 kB_64 ?_
  have K5 : (sR (sN (sR (sN (sR (sN (sR (sN (sR (sN ν (.inr (4, 3))) o 0 (some (o + 1 + 0))) (.inr (0, 9))) o 1 (some (o + 1 + 1))) (.inr (0, 40))) o 2 (some (o + 1 + 2))) (.inr (0, 216))) o 3 (some (o + 1 + 3))) (.inr (0, 48))) o 4 (some (o + 1 + 4))).1.length = o + 1 + 5 := J4.1
  refine w_newI (len := 64) hX hfr dX0_init_48 (by decide) rfl (by decide) (lt_scr K5 ho (by decide)) ?_
  rw [K5]
  refine w_putRF hX hini dX0_init_50 fo_RX0_30 rfl rfl rfl (shO K5 (lt_a o _) J4.2.1) ?_
  have J5 := J4.step (M := sN (sR (sN (sR (sN (sR (sN (sR (sN (sR (sN ν (.inr (4, 3))) o 0 (some (o + 1 + 0))) (.inr (0, 9))) o 1 (some (o + 1 + 1))) (.inr (0, 40))) o 2 (some (o + 1 + 2))) (.inr (0, 216))) o 3 (some (o + 1 + 3))) (.inr (0, 48))) o 4 (some (o + 1 + 4))) (.inr (0, 64))) (f := 5) (t := 0) (l := 64) (n := 5) rfl rfl (fun _ _ => rfl) (fun _ _ => rfl) (fun _ _ _ => rfl) (by decide)
  refine w_aload_n (i := 0) hX dX0_init_53 rfl rfl ?_
  refine w_bipush hX dX0_init_54 kB_32 ?_
  have K6 : (sR (sN (sR (sN (sR (sN (sR (sN (sR (sN (sR (sN ν (.inr (4, 3))) o 0 (some (o + 1 + 0))) (.inr (0, 9))) o 1 (some (o + 1 + 1))) (.inr (0, 40))) o 2 (some (o + 1 + 2))) (.inr (0, 216))) o 3 (some (o + 1 + 3))) (.inr (0, 48))) o 4 (some (o + 1 + 4))) (.inr (0, 64))) o 5 (some (o + 1 + 5))).1.length = o + 1 + 6 := J5.1
  refine w_newL (len := 32) hX hfr dX0_init_56 (by decide) rfl (by decide) (lt_scr K6 ho (by decide)) ?_
  rw [K6]
  refine w_putRF hX hini dX0_init_58 fo_RX0_33 rfl rfl rfl (shO K6 (lt_a o _) J5.2.1) ?_
  have J6 := J5.step (M := sN (sR (sN (sR (sN (sR (sN (sR (sN (sR (sN (sR (sN ν (.inr (4, 3))) o 0 (some (o + 1 + 0))) (.inr (0, 9))) o 1 (some (o + 1 + 1))) (.inr (0, 40))) o 2 (some (o + 1 + 2))) (.inr (0, 216))) o 3 (some (o + 1 + 3))) (.inr (0, 48))) o 4 (some (o + 1 + 4))) (.inr (0, 64))) o 5 (some (o + 1 + 5))) (.inr (1, 32))) (f := 6) (t := 1) (l := 32) (n := 6) rfl rfl (fun _ _ => rfl) (fun _ _ => rfl) (fun _ _ _ => rfl) (by decide)
  refine w_aload_n (i := 0) hX dX0_init_61 rfl rfl ?_
  refine w_bipush hX dX0_init_62 kB_32 ?_
  have K7 : (sR (sN (sR (sN (sR (sN (sR (sN (sR (sN (sR (sN (sR (sN ν (.inr (4, 3))) o 0 (some (o + 1 + 0))) (.inr (0, 9))) o 1 (some (o + 1 + 1))) (.inr (0, 40))) o 2 (some (o + 1 + 2))) (.inr (0, 216))) o 3 (some (o + 1 + 3))) (.inr (0, 48))) o 4 (some (o + 1 + 4))) (.inr (0, 64))) o 5 (some (o + 1 + 5))) (.inr (1, 32))) o 6 (some (o + 1 + 6))).1.length = o + 1 + 7 := J6.1
  refine w_newI (len := 32) hX hfr dX0_init_64 (by decide) rfl (by decide) (lt_scr K7 ho (by decide)) ?_
  rw [K7]
  refine w_putRF hX hini dX0_init_66 fo_RX0_37 rfl rfl rfl (shO K7 (lt_a o _) J6.2.1) ?_
  have J7 := J6.step (M := sN (sR (sN (sR (sN (sR (sN (sR (sN (sR (sN (sR (sN (sR (sN ν (.inr (4, 3))) o 0 (some (o + 1 + 0))) (.inr (0, 9))) o 1 (some (o + 1 + 1))) (.inr (0, 40))) o 2 (some (o + 1 + 2))) (.inr (0, 216))) o 3 (some (o + 1 + 3))) (.inr (0, 48))) o 4 (some (o + 1 + 4))) (.inr (0, 64))) o 5 (some (o + 1 + 5))) (.inr (1, 32))) o 6 (some (o + 1 + 6))) (.inr (0, 32))) (f := 7) (t := 0) (l := 32) (n := 7) rfl rfl (fun _ _ => rfl) (fun _ _ => rfl) (fun _ _ _ => rfl) (by decide)
  refine w_aload_n (i := 0) hX dX0_init_69 rfl rfl ?_
  refine w_bipush hX dX0_init_70 kB_32 ?_
  have K8 : (sR (sN (sR (sN (sR (sN (sR (sN (sR (sN (sR (sN (sR (sN (sR (sN ν (.inr (4, 3))) o 0 (some (o + 1 + 0))) (.inr (0, 9))) o 1 (some (o + 1 + 1))) (.inr (0, 40))) o 2 (some (o + 1 + 2))) (.inr (0, 216))) o 3 (some (o + 1 + 3))) (.inr (0, 48))) o 4 (some (o + 1 + 4))) (.inr (0, 64))) o 5 (some (o + 1 + 5))) (.inr (1, 32))) o 6 (some (o + 1 + 6))) (.inr (0, 32))) o 7 (some (o + 1 + 7))).1.length = o + 1 + 8 := J7.1
  refine w_newI (len := 32) hX hfr dX0_init_72 (by decide) rfl (by decide) (lt_scr K8 ho (by decide)) ?_
  rw [K8]
  refine w_putRF hX hini dX0_init_74 fo_RX0_40 rfl rfl rfl (shO K8 (lt_a o _) J7.2.1) ?_
  have J8 := J7.step (M := sN (sR (sN (sR (sN (sR (sN (sR (sN (sR (sN (sR (sN (sR (sN (sR (sN ν (.inr (4, 3))) o 0 (some (o + 1 + 0))) (.inr (0, 9))) o 1 (some (o + 1 + 1))) (.inr (0, 40))) o 2 (some (o + 1 + 2))) (.inr (0, 216))) o 3 (some (o + 1 + 3))) (.inr (0, 48))) o 4 (some (o + 1 + 4))) (.inr (0, 64))) o 5 (some (o + 1 + 5))) (.inr (1, 32))) o 6 (some (o + 1 + 6))) (.inr (0, 32))) o 7 (some (o + 1 + 7))) (.inr (0, 32))) (f := 8) (t := 0) (l := 32) (n := 8) rfl rfl (fun _ _ => rfl) (fun _ _ => rfl) (fun _ _ _ => rfl) (by decide)
  refine w_iconst hX dX0_init_77 kI_0 ?_
  refine w_istore_n (i := 1) (l2 := [some (.ref o), some (.int (nI 0))]) hX dX0_init_78 rfl (ltb rfl) rfl rfl ?_
  exact c0_0 hX hE hini hfr ho8 _ ⟨J8.1, J8.2.1, J8.2.2.1, J8.2.2.2.1, fun q k h1 h2 => J8.2.2.2.2.1 q k h1 (by rw [J8.1]; exact h2), J8.2.2.2.2.2, fun i hi => absurd hi (Nat.not_lt_zero _)⟩
set_option maxHeartbeats 1000000 in
theorem s_c_book (Γ : Gm) (μ : Mem) (hfr : Γ.2.2.2.2.2 = true) (o : Nat) (ho8 : o < 800000) (hl : μ.1.length = o + 1) (hs : μ.1[o]? = some (.inl 0)) (hzo : ∀ k, gI μ o k = nI 0) : SpV Γ MX0_init 2 15 518 [.ref o] μ (fun μ2 => CLI μ μ2 o 3) := by
  refine SpV.of okX0_init rfl [some (.ref o), none] ⟨rfl, trivial⟩ (leb rfl) (leb rfl) (fun X hX hE hnm => ?_)
  exact c0_a hX hE hnm hfr ho8 μ (INV.rf hl hs hzo)
