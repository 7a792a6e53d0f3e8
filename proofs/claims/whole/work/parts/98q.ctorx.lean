/-- the reader's maker -/
def RDM (Γ : Gm) : Prop := ∀ (μ : Mem) (o : Nat), o < 800000 → μ.1.length = o + 1 → μ.1[o]? = some (.inl 4) → (∀ k, gI μ o k = nI 0) → SpV Γ MX4_init 6 2 19 [.ref o] μ (fun μ2 => isRd μ2 o ∧ μ2.1.length = o + 3 ∧ OLD o μ μ2 ∧ ∀ k, k < 18 → gL μ2 (o + 1) k = lN (kw k))
set_option maxHeartbeats 1000000 in
theorem cx_8 {Γ : Gm} {X : Cx} {l9 : Nat} (hX : GX Γ X MX8_init.1.cls MX8_init.2.1 7) (hE : EndV Γ X l9 56 (fun μ2 => XI μ2 25 41 (fun _ => 0) ((fun _ => 0), 0) 0 ∧ μ2.1.length = 57 ∧ gI μ2 6 5 = nI 0 ∧ gI μ2 12 9 = (-1 : Int32) ∧ gI μ2 20 6 = (-1 : Int32))) (hini : X.2.2.2.2.2.2.2.1.name = "<init>") (hfr : Γ.2.2.2.2.2 = true) (HR : RDM Γ) (ν : Mem) (L : ν.1.length = 57) (S0 : ν.1[0]? = some (.inl 8)) (M8 : gI ν 0 8 = nI 0) (R0 : gR ν 0 0 = some 1) (R1 : gR ν 0 1 = some 3) (R2 : gR ν 0 2 = some 6) (R3 : gR ν 0 3 = some 12) (R4 : gR ν 0 4 = some 18) (R5 : gR ν 0 5 = some 20) (R6 : gR ν 0 6 = some 25) (R7 : gR ν 0 7 = some 41) (Tp : isTp ν 1) (Tl : gI ν 1 1 = nI 0) (Rd : isRd ν 3) (Kw : ∀ k, k < 18 → gL ν (3 + 1) k = lN (kw k)) (Wd : isWd ν 6) (Wl : gI ν 6 5 = nI 0) (Pl : isPl ν 12) (Pv : gI ν 12 9 = (-1 : Int32)) (Vt : isVt ν 18) (Jn : isJn ν 20) (Jv : gI ν 20 6 = (-1 : Int32)) (Bk : Rb ν 25 (fun _ => 0)) (Sp : isBk ν 41) : WP Γ X 0 0 92 [some (.ref 0)] [] ν := by
  exact w_vret hX hE dX8_init_92 (Or.inl rfl) ⟨⟨⟨S0, R0, R1, R2, R3, R4, R5, R6, R7⟩, Or.inl ⟨rfl, rfl⟩, Bk, Sp, ⟨Tp, Tl, fun j hj => absurd hj (Nat.not_lt_zero _)⟩, Rd, Kw, Vt, ⟨Wd, Or.inl Wl⟩, ⟨Pl, Or.inl Pv⟩, ⟨Jn, Or.inl Jv⟩, M8⟩, L, Wl, Pv, Jv⟩
set_option maxHeartbeats 1000000 in
theorem cx_7 {Γ : Gm} {X : Cx} {l9 : Nat} (hX : GX Γ X MX8_init.1.cls MX8_init.2.1 7) (hE : EndV Γ X l9 56 (fun μ2 => XI μ2 25 41 (fun _ => 0) ((fun _ => 0), 0) 0 ∧ μ2.1.length = 57 ∧ gI μ2 6 5 = nI 0 ∧ gI μ2 12 9 = (-1 : Int32) ∧ gI μ2 20 6 = (-1 : Int32))) (hini : X.2.2.2.2.2.2.2.1.name = "<init>") (hfr : Γ.2.2.2.2.2 = true) (HR : RDM Γ) (ν : Mem) (L : ν.1.length = 41) (S0 : ν.1[0]? = some (.inl 8)) (M8 : gI ν 0 8 = nI 0) (R0 : gR ν 0 0 = some 1) (R1 : gR ν 0 1 = some 3) (R2 : gR ν 0 2 = some 6) (R3 : gR ν 0 3 = some 12) (R4 : gR ν 0 4 = some 18) (R5 : gR ν 0 5 = some 20) (R6 : gR ν 0 6 = some 25) (Tp : isTp ν 1) (Tl : gI ν 1 1 = nI 0) (Rd : isRd ν 3) (Kw : ∀ k, k < 18 → gL ν (3 + 1) k = lN (kw k)) (Wd : isWd ν 6) (Wl : gI ν 6 5 = nI 0) (Pl : isPl ν 12) (Pv : gI ν 12 9 = (-1 : Int32)) (Vt : isVt ν 18) (Jn : isJn ν 20) (Jv : gI ν 20 6 = (-1 : Int32)) (Bk : Rb ν 25 (fun _ => 0)) : WP Γ X 16 534 81 [some (.ref 0)] [] ν := by
  refine w_aload_n (i := 0) hX dX8_init_81 rfl rfl ?_
  -- new
  refine w_new (n := 518) hX hfr dX8_init_82 no_RX8_51 (by rw [L]; decide) ?_
  rw [L]
  refine w_dup hX dX8_init_85 rfl ?_
  refine w_callIV (As := []) (rest := [.ref 41, .ref 0]) (o := 41) (k2 := 0) (n2 := 0) hX dX8_init_86 (s_c_book Γ (sN ν (.inl 0)) hfr 41 (by decide) (lnN L) (shW L) (fun k => gI_nw L)) okX0_init ml_RX8_53 imX0_init rfl rfl rfl (leb rfl) (leb rfl) rfl rfl (fun ν9 hq9 => ?_)
  have hcl := hq9
  obtain ⟨hob, hrb⟩ := hcl.bk
  have hlen := hcl.1
  have hO := hcl.2.2.2.1
  have hOO : OLD 41 ν ν9 := (OLD.rf.sN L (by decide)).tr hO
  have Sx : ν9.1[0]? = some (.inl 8) := by rw [hOO.1 0 (by rw [L]; decide)]; exact S0
  refine w_putR hX dX8_init_89 fo_RX8_58 rfl rfl Sx ?_
  exact cx_8 hX hE hini hfr HR (sR ν9 0 7 (some 41)) hlen Sx (by show gI ν9 0 8 = _; rw [(hOO.2.2 0 8 (by decide)).1]; exact M8) (by rw [gR_ne (by decide), (hOO.2.2 0 0 (by decide)).2.2]; exact R0) (by rw [gR_ne (by decide), (hOO.2.2 0 1 (by decide)).2.2]; exact R1) (by rw [gR_ne (by decide), (hOO.2.2 0 2 (by decide)).2.2]; exact R2) (by rw [gR_ne (by decide), (hOO.2.2 0 3 (by decide)).2.2]; exact R3) (by rw [gR_ne (by decide), (hOO.2.2 0 4 (by decide)).2.2]; exact R4) (by rw [gR_ne (by decide), (hOO.2.2 0 5 (by decide)).2.2]; exact R5) (by rw [gR_ne (by decide), (hOO.2.2 0 6 (by decide)).2.2]; exact R6) gR_same (isTp_R (Tp.old hOO (by decide) (Nat.le_of_eq L.symm)) (by decide)) (by show gI ν9 1 1 = _; rw [(hOO.2.2 _ _ (by decide)).1]; exact Tl) (isRd_R0 (Rd.old hOO (by decide) (Nat.le_of_eq L.symm)) (by decide)) (fun k hk => by show gL ν9 (3 + 1) k = _; rw [(hOO.2.2 _ _ (by decide)).2.1]; exact Kw k hk) (isWd_R (Wd.old hOO (by decide) (Nat.le_of_eq L.symm)) (by decide)) (by show gI ν9 6 5 = _; rw [(hOO.2.2 _ _ (by decide)).1]; exact Wl) (isPl_R (Pl.old hOO (by decide) (Nat.le_of_eq L.symm)) (by decide)) (by show gI ν9 12 9 = _; rw [(hOO.2.2 _ _ (by decide)).1]; exact Pv) (isVt_R (Vt.old hOO (by decide) (Nat.le_of_eq L.symm)) (by decide)) (isJn_R (Jn.old hOO (by decide) (Nat.le_of_eq L.symm)) (by decide)) (by show gI ν9 20 6 = _; rw [(hOO.2.2 _ _ (by decide)).1]; exact Jv) (Rb_R (Bk.old hOO (by decide) (Nat.le_of_eq L.symm)) (by decide)) (isBk_R hob (Or.inl (by decide)))
set_option maxHeartbeats 1000000 in
theorem cx_6 {Γ : Gm} {X : Cx} {l9 : Nat} (hX : GX Γ X MX8_init.1.cls MX8_init.2.1 7) (hE : EndV Γ X l9 56 (fun μ2 => XI μ2 25 41 (fun _ => 0) ((fun _ => 0), 0) 0 ∧ μ2.1.length = 57 ∧ gI μ2 6 5 = nI 0 ∧ gI μ2 12 9 = (-1 : Int32) ∧ gI μ2 20 6 = (-1 : Int32))) (hini : X.2.2.2.2.2.2.2.1.name = "<init>") (hfr : Γ.2.2.2.2.2 = true) (HR : RDM Γ) (ν : Mem) (L : ν.1.length = 25) (S0 : ν.1[0]? = some (.inl 8)) (M8 : gI ν 0 8 = nI 0) (R0 : gR ν 0 0 = some 1) (R1 : gR ν 0 1 = some 3) (R2 : gR ν 0 2 = some 6) (R3 : gR ν 0 3 = some 12) (R4 : gR ν 0 4 = some 18) (R5 : gR ν 0 5 = some 20) (Tp : isTp ν 1) (Tl : gI ν 1 1 = nI 0) (Rd : isRd ν 3) (Kw : ∀ k, k < 18 → gL ν (3 + 1) k = lN (kw k)) (Wd : isWd ν 6) (Wl : gI ν 6 5 = nI 0) (Pl : isPl ν 12) (Pv : gI ν 12 9 = (-1 : Int32)) (Vt : isVt ν 18) (Jn : isJn ν 20) (Jv : gI ν 20 6 = (-1 : Int32)) : WP Γ X 32 1068 70 [some (.ref 0)] [] ν := by
  refine w_aload_n (i := 0) hX dX8_init_70 rfl rfl ?_
  -- new
  refine w_new (n := 1052) hX hfr dX8_init_71 no_RX8_51 (by rw [L]; decide) ?_
  rw [L]
  refine w_dup hX dX8_init_74 rfl ?_
  refine w_callIV (As := []) (rest := [.ref 25, .ref 0]) (o := 25) (k2 := 16) (n2 := 534) hX dX8_init_75 (s_c_book Γ (sN ν (.inl 0)) hfr 25 (by decide) (lnN L) (shW L) (fun k => gI_nw L)) okX0_init ml_RX8_53 imX0_init rfl rfl rfl (leb rfl) (leb rfl) rfl rfl (fun ν9 hq9 => ?_)
  have hcl := hq9
  obtain ⟨hob, hrb⟩ := hcl.bk
  have hlen := hcl.1
  have hO := hcl.2.2.2.1
  have hOO : OLD 25 ν ν9 := (OLD.rf.sN L (by decide)).tr hO
  have Sx : ν9.1[0]? = some (.inl 8) := by rw [hOO.1 0 (by rw [L]; decide)]; exact S0
  refine w_putR hX dX8_init_78 fo_RX8_54 rfl rfl Sx ?_
  exact cx_7 hX hE hini hfr HR (sR ν9 0 6 (some 25)) hlen Sx (by show gI ν9 0 8 = _; rw [(hOO.2.2 0 8 (by decide)).1]; exact M8) (by rw [gR_ne (by decide), (hOO.2.2 0 0 (by decide)).2.2]; exact R0) (by rw [gR_ne (by decide), (hOO.2.2 0 1 (by decide)).2.2]; exact R1) (by rw [gR_ne (by decide), (hOO.2.2 0 2 (by decide)).2.2]; exact R2) (by rw [gR_ne (by decide), (hOO.2.2 0 3 (by decide)).2.2]; exact R3) (by rw [gR_ne (by decide), (hOO.2.2 0 4 (by decide)).2.2]; exact R4) (by rw [gR_ne (by decide), (hOO.2.2 0 5 (by decide)).2.2]; exact R5) gR_same (isTp_R (Tp.old hOO (by decide) (Nat.le_of_eq L.symm)) (by decide)) (by show gI ν9 1 1 = _; rw [(hOO.2.2 _ _ (by decide)).1]; exact Tl) (isRd_R0 (Rd.old hOO (by decide) (Nat.le_of_eq L.symm)) (by decide)) (fun k hk => by show gL ν9 (3 + 1) k = _; rw [(hOO.2.2 _ _ (by decide)).2.1]; exact Kw k hk) (isWd_R (Wd.old hOO (by decide) (Nat.le_of_eq L.symm)) (by decide)) (by show gI ν9 6 5 = _; rw [(hOO.2.2 _ _ (by decide)).1]; exact Wl) (isPl_R (Pl.old hOO (by decide) (Nat.le_of_eq L.symm)) (by decide)) (by show gI ν9 12 9 = _; rw [(hOO.2.2 _ _ (by decide)).1]; exact Pv) (isVt_R (Vt.old hOO (by decide) (Nat.le_of_eq L.symm)) (by decide)) (isJn_R (Jn.old hOO (by decide) (Nat.le_of_eq L.symm)) (by decide)) (by show gI ν9 20 6 = _; rw [(hOO.2.2 _ _ (by decide)).1]; exact Jv) (Rb_R hrb (by decide))
set_option maxHeartbeats 1000000 in
theorem cx_5 {Γ : Gm} {X : Cx} {l9 : Nat} (hX : GX Γ X MX8_init.1.cls MX8_init.2.1 7) (hE : EndV Γ X l9 56 (fun μ2 => XI μ2 25 41 (fun _ => 0) ((fun _ => 0), 0) 0 ∧ μ2.1.length = 57 ∧ gI μ2 6 5 = nI 0 ∧ gI μ2 12 9 = (-1 : Int32) ∧ gI μ2 20 6 = (-1 : Int32))) (hini : X.2.2.2.2.2.2.2.1.name = "<init>") (hfr : Γ.2.2.2.2.2 = true) (HR : RDM Γ) (ν : Mem) (L : ν.1.length = 20) (S0 : ν.1[0]? = some (.inl 8)) (M8 : gI ν 0 8 = nI 0) (R0 : gR ν 0 0 = some 1) (R1 : gR ν 0 1 = some 3) (R2 : gR ν 0 2 = some 6) (R3 : gR ν 0 3 = some 12) (R4 : gR ν 0 4 = some 18) (Tp : isTp ν 1) (Tl : gI ν 1 1 = nI 0) (Rd : isRd ν 3) (Kw : ∀ k, k < 18 → gL ν (3 + 1) k = lN (kw k)) (Wd : isWd ν 6) (Wl : gI ν 6 5 = nI 0) (Pl : isPl ν 12) (Pv : gI ν 12 9 = (-1 : Int32)) (Vt : isVt ν 18) : WP Γ X 37 1220 59 [some (.ref 0)] [] ν := by
  refine w_aload_n (i := 0) hX dX8_init_59 rfl rfl ?_
  -- new
  refine w_new (n := 1212) hX hfr dX8_init_60 no_RX8_44 (by rw [L]; decide) ?_
  rw [L]
  refine w_dup hX dX8_init_63 rfl ?_
  refine w_callINV (As := []) (rest := [.ref 20, .ref 0]) (o := 20) (k2 := 32) (n2 := 1068) hX dX8_init_64 (s_c_journey Γ (sN ν (.inl 2)) hfr 20 (by decide) (lnN L) (shW L) (fun k => gI_nw L)) okX2_init (List.mem_of_getElem? (i := 4) rfl) imX2_init rfl rfl rfl (leb rfl) (leb rfl) rfl rfl (fun ν9 hq9 => ?_)
  obtain ⟨hob, hlen, hO, -, hv⟩ := hq9
  have hOO : OLD 20 ν ν9 := (OLD.rf.sN L (by decide)).tr hO
  have Sx : ν9.1[0]? = some (.inl 8) := by rw [hOO.1 0 (by rw [L]; decide)]; exact S0
  refine w_putRF hX hini dX8_init_67 fo_RX8_47 rfl rfl rfl Sx ?_
  exact cx_6 hX hE hini hfr HR (sR ν9 0 5 (some 20)) hlen Sx (by show gI ν9 0 8 = _; rw [(hOO.2.2 0 8 (by decide)).1]; exact M8) (by rw [gR_ne (by decide), (hOO.2.2 0 0 (by decide)).2.2]; exact R0) (by rw [gR_ne (by decide), (hOO.2.2 0 1 (by decide)).2.2]; exact R1) (by rw [gR_ne (by decide), (hOO.2.2 0 2 (by decide)).2.2]; exact R2) (by rw [gR_ne (by decide), (hOO.2.2 0 3 (by decide)).2.2]; exact R3) (by rw [gR_ne (by decide), (hOO.2.2 0 4 (by decide)).2.2]; exact R4) gR_same (isTp_R (Tp.old hOO (by decide) (Nat.le_of_eq L.symm)) (by decide)) (by show gI ν9 1 1 = _; rw [(hOO.2.2 _ _ (by decide)).1]; exact Tl) (isRd_R0 (Rd.old hOO (by decide) (Nat.le_of_eq L.symm)) (by decide)) (fun k hk => by show gL ν9 (3 + 1) k = _; rw [(hOO.2.2 _ _ (by decide)).2.1]; exact Kw k hk) (isWd_R (Wd.old hOO (by decide) (Nat.le_of_eq L.symm)) (by decide)) (by show gI ν9 6 5 = _; rw [(hOO.2.2 _ _ (by decide)).1]; exact Wl) (isPl_R (Pl.old hOO (by decide) (Nat.le_of_eq L.symm)) (by decide)) (by show gI ν9 12 9 = _; rw [(hOO.2.2 _ _ (by decide)).1]; exact Pv) (isVt_R (Vt.old hOO (by decide) (Nat.le_of_eq L.symm)) (by decide)) (isJn_R hob (by decide)) hv
set_option maxHeartbeats 1000000 in
theorem cx_4 {Γ : Gm} {X : Cx} {l9 : Nat} (hX : GX Γ X MX8_init.1.cls MX8_init.2.1 7) (hE : EndV Γ X l9 56 (fun μ2 => XI μ2 25 41 (fun _ => 0) ((fun _ => 0), 0) 0 ∧ μ2.1.length = 57 ∧ gI μ2 6 5 = nI 0 ∧ gI μ2 12 9 = (-1 : Int32) ∧ gI μ2 20 6 = (-1 : Int32))) (hini : X.2.2.2.2.2.2.2.1.name = "<init>") (hfr : Γ.2.2.2.2.2 = true) (HR : RDM Γ) (ν : Mem) (L : ν.1.length = 18) (S0 : ν.1[0]? = some (.inl 8)) (M8 : gI ν 0 8 = nI 0) (R0 : gR ν 0 0 = some 1) (R1 : gR ν 0 1 = some 3) (R2 : gR ν 0 2 = some 6) (R3 : gR ν 0 3 = some 12) (Tp : isTp ν 1) (Tl : gI ν 1 1 = nI 0) (Rd : isRd ν 3) (Kw : ∀ k, k < 18 → gL ν (3 + 1) k = lN (kw k)) (Wd : isWd ν 6) (Wl : gI ν 6 5 = nI 0) (Pl : isPl ν 12) (Pv : gI ν 12 9 = (-1 : Int32)) : WP Γ X 39 1246 48 [some (.ref 0)] [] ν := by
  refine w_aload_n (i := 0) hX dX8_init_48 rfl rfl ?_
  -- new
  refine w_new (n := 1245) hX hfr dX8_init_49 no_RX8_37 (by rw [L]; decide) ?_
  rw [L]
  refine w_dup hX dX8_init_52 rfl ?_
  refine w_callINV (As := []) (rest := [.ref 18, .ref 0]) (o := 18) (k2 := 37) (n2 := 1220) hX dX8_init_53 (s_c_votes Γ (sN ν (.inl 6)) hfr 18 (by decide) (lnN L) (shW L) (fun k => gI_nw L)) okX6_init (List.mem_of_getElem? (i := 3) rfl) imX6_init rfl rfl rfl (leb rfl) (leb rfl) rfl rfl (fun ν9 hq9 => ?_)
  obtain ⟨hob, hlen, hO, -⟩ := hq9
  have hOO : OLD 18 ν ν9 := (OLD.rf.sN L (by decide)).tr hO
  have Sx : ν9.1[0]? = some (.inl 8) := by rw [hOO.1 0 (by rw [L]; decide)]; exact S0
  refine w_putRF hX hini dX8_init_56 fo_RX8_40 rfl rfl rfl Sx ?_
  exact cx_5 hX hE hini hfr HR (sR ν9 0 4 (some 18)) hlen Sx (by show gI ν9 0 8 = _; rw [(hOO.2.2 0 8 (by decide)).1]; exact M8) (by rw [gR_ne (by decide), (hOO.2.2 0 0 (by decide)).2.2]; exact R0) (by rw [gR_ne (by decide), (hOO.2.2 0 1 (by decide)).2.2]; exact R1) (by rw [gR_ne (by decide), (hOO.2.2 0 2 (by decide)).2.2]; exact R2) (by rw [gR_ne (by decide), (hOO.2.2 0 3 (by decide)).2.2]; exact R3) gR_same (isTp_R (Tp.old hOO (by decide) (Nat.le_of_eq L.symm)) (by decide)) (by show gI ν9 1 1 = _; rw [(hOO.2.2 _ _ (by decide)).1]; exact Tl) (isRd_R0 (Rd.old hOO (by decide) (Nat.le_of_eq L.symm)) (by decide)) (fun k hk => by show gL ν9 (3 + 1) k = _; rw [(hOO.2.2 _ _ (by decide)).2.1]; exact Kw k hk) (isWd_R (Wd.old hOO (by decide) (Nat.le_of_eq L.symm)) (by decide)) (by show gI ν9 6 5 = _; rw [(hOO.2.2 _ _ (by decide)).1]; exact Wl) (isPl_R (Pl.old hOO (by decide) (Nat.le_of_eq L.symm)) (by decide)) (by show gI ν9 12 9 = _; rw [(hOO.2.2 _ _ (by decide)).1]; exact Pv) (isVt_R hob (by decide))
set_option maxHeartbeats 1000000 in
theorem cx_3 {Γ : Gm} {X : Cx} {l9 : Nat} (hX : GX Γ X MX8_init.1.cls MX8_init.2.1 7) (hE : EndV Γ X l9 56 (fun μ2 => XI μ2 25 41 (fun _ => 0) ((fun _ => 0), 0) 0 ∧ μ2.1.length = 57 ∧ gI μ2 6 5 = nI 0 ∧ gI μ2 12 9 = (-1 : Int32) ∧ gI μ2 20 6 = (-1 : Int32))) (hini : X.2.2.2.2.2.2.2.1.name = "<init>") (hfr : Γ.2.2.2.2.2 = true) (HR : RDM Γ) (ν : Mem) (L : ν.1.length = 12) (S0 : ν.1[0]? = some (.inl 8)) (M8 : gI ν 0 8 = nI 0) (R0 : gR ν 0 0 = some 1) (R1 : gR ν 0 1 = some 3) (R2 : gR ν 0 2 = some 6) (Tp : isTp ν 1) (Tl : gI ν 1 1 = nI 0) (Rd : isRd ν 3) (Kw : ∀ k, k < 18 → gL ν (3 + 1) k = lN (kw k)) (Wd : isWd ν 6) (Wl : gI ν 6 5 = nI 0) : WP Γ X 45 1560 37 [some (.ref 0)] [] ν := by
  refine w_aload_n (i := 0) hX dX8_init_37 rfl rfl ?_
  -- new
  refine w_new (n := 1550) hX hfr dX8_init_38 no_RX8_30 (by rw [L]; decide) ?_
  rw [L]
  refine w_dup hX dX8_init_41 rfl ?_
  refine w_callINV (As := []) (rest := [.ref 12, .ref 0]) (o := 12) (k2 := 39) (n2 := 1246) hX dX8_init_42 (s_c_plan Γ (sN ν (.inl 3)) hfr 12 (by decide) (lnN L) (shW L) (fun k => gI_nw L)) okX3_init (List.mem_of_getElem? (i := 2) rfl) imX3_init rfl rfl rfl (leb rfl) (leb rfl) rfl rfl (fun ν9 hq9 => ?_)
  obtain ⟨hob, hlen, hO, -, hv⟩ := hq9
  have hOO : OLD 12 ν ν9 := (OLD.rf.sN L (by decide)).tr hO
  have Sx : ν9.1[0]? = some (.inl 8) := by rw [hOO.1 0 (by rw [L]; decide)]; exact S0
  refine w_putRF hX hini dX8_init_45 fo_RX8_33 rfl rfl rfl Sx ?_
  exact cx_4 hX hE hini hfr HR (sR ν9 0 3 (some 12)) hlen Sx (by show gI ν9 0 8 = _; rw [(hOO.2.2 0 8 (by decide)).1]; exact M8) (by rw [gR_ne (by decide), (hOO.2.2 0 0 (by decide)).2.2]; exact R0) (by rw [gR_ne (by decide), (hOO.2.2 0 1 (by decide)).2.2]; exact R1) (by rw [gR_ne (by decide), (hOO.2.2 0 2 (by decide)).2.2]; exact R2) gR_same (isTp_R (Tp.old hOO (by decide) (Nat.le_of_eq L.symm)) (by decide)) (by show gI ν9 1 1 = _; rw [(hOO.2.2 _ _ (by decide)).1]; exact Tl) (isRd_R0 (Rd.old hOO (by decide) (Nat.le_of_eq L.symm)) (by decide)) (fun k hk => by show gL ν9 (3 + 1) k = _; rw [(hOO.2.2 _ _ (by decide)).2.1]; exact Kw k hk) (isWd_R (Wd.old hOO (by decide) (Nat.le_of_eq L.symm)) (by decide)) (by show gI ν9 6 5 = _; rw [(hOO.2.2 _ _ (by decide)).1]; exact Wl) (isPl_R hob (by decide)) hv
set_option maxHeartbeats 1000000 in
theorem cx_2 {Γ : Gm} {X : Cx} {l9 : Nat} (hX : GX Γ X MX8_init.1.cls MX8_init.2.1 7) (hE : EndV Γ X l9 56 (fun μ2 => XI μ2 25 41 (fun _ => 0) ((fun _ => 0), 0) 0 ∧ μ2.1.length = 57 ∧ gI μ2 6 5 = nI 0 ∧ gI μ2 12 9 = (-1 : Int32) ∧ gI μ2 20 6 = (-1 : Int32))) (hini : X.2.2.2.2.2.2.2.1.name = "<init>") (hfr : Γ.2.2.2.2.2 = true) (HR : RDM Γ) (ν : Mem) (L : ν.1.length = 6) (S0 : ν.1[0]? = some (.inl 8)) (M8 : gI ν 0 8 = nI 0) (R0 : gR ν 0 0 = some 1) (R1 : gR ν 0 1 = some 3) (Tp : isTp ν 1) (Tl : gI ν 1 1 = nI 0) (Rd : isRd ν 3) (Kw : ∀ k, k < 18 → gL ν (3 + 1) k = lN (kw k)) : WP Γ X 51 1717 26 [some (.ref 0)] [] ν := by
  refine w_aload_n (i := 0) hX dX8_init_26 rfl rfl ?_
  -- new
  refine w_new (n := 1708) hX hfr dX8_init_27 no_RX8_23 (by rw [L]; decide) ?_
  rw [L]
  refine w_dup hX dX8_init_30 rfl ?_
  refine w_callINV (As := []) (rest := [.ref 6, .ref 0]) (o := 6) (k2 := 45) (n2 := 1560) hX dX8_init_31 (s_c_worlds Γ (sN ν (.inl 7)) hfr 6 (by decide) (lnN L) (shW L) (fun k => gI_nw L)) okX7_init (List.mem_of_getElem? (i := 1) rfl) imX7_init rfl rfl rfl (leb rfl) (leb rfl) rfl rfl (fun ν9 hq9 => ?_)
  obtain ⟨hob, hlen, hO, -, hv⟩ := hq9
  have hOO : OLD 6 ν ν9 := (OLD.rf.sN L (by decide)).tr hO
  have Sx : ν9.1[0]? = some (.inl 8) := by rw [hOO.1 0 (by rw [L]; decide)]; exact S0
  refine w_putRF hX hini dX8_init_34 fo_RX8_26 rfl rfl rfl Sx ?_
  exact cx_3 hX hE hini hfr HR (sR ν9 0 2 (some 6)) hlen Sx (by show gI ν9 0 8 = _; rw [(hOO.2.2 0 8 (by decide)).1]; exact M8) (by rw [gR_ne (by decide), (hOO.2.2 0 0 (by decide)).2.2]; exact R0) (by rw [gR_ne (by decide), (hOO.2.2 0 1 (by decide)).2.2]; exact R1) gR_same (isTp_R (Tp.old hOO (by decide) (Nat.le_of_eq L.symm)) (by decide)) (by show gI ν9 1 1 = _; rw [(hOO.2.2 _ _ (by decide)).1]; exact Tl) (isRd_R0 (Rd.old hOO (by decide) (Nat.le_of_eq L.symm)) (by decide)) (fun k hk => by show gL ν9 (3 + 1) k = _; rw [(hOO.2.2 _ _ (by decide)).2.1]; exact Kw k hk) (isWd_R hob (by decide)) hv
set_option maxHeartbeats 1000000 in
theorem cx_1 {Γ : Gm} {X : Cx} {l9 : Nat} (hX : GX Γ X MX8_init.1.cls MX8_init.2.1 7) (hE : EndV Γ X l9 56 (fun μ2 => XI μ2 25 41 (fun _ => 0) ((fun _ => 0), 0) 0 ∧ μ2.1.length = 57 ∧ gI μ2 6 5 = nI 0 ∧ gI μ2 12 9 = (-1 : Int32) ∧ gI μ2 20 6 = (-1 : Int32))) (hini : X.2.2.2.2.2.2.2.1.name = "<init>") (hfr : Γ.2.2.2.2.2 = true) (HR : RDM Γ) (ν : Mem) (L : ν.1.length = 3) (S0 : ν.1[0]? = some (.inl 8)) (M8 : gI ν 0 8 = nI 0) (R0 : gR ν 0 0 = some 1) (Tp : isTp ν 1) (Tl : gI ν 1 1 = nI 0) : WP Γ X 54 1746 15 [some (.ref 0)] [] ν := by
  refine w_aload_n (i := 0) hX dX8_init_15 rfl rfl ?_
  -- new
  refine w_new (n := 1736) hX hfr dX8_init_16 no_RX8_16 (by rw [L]; decide) ?_
  rw [L]
  refine w_dup hX dX8_init_19 rfl ?_
  refine w_callIV (As := []) (rest := [.ref 3, .ref 0]) (o := 3) (k2 := 51) (n2 := 1717) hX dX8_init_20 (HR (sN ν (.inl 4)) 3 (by decide) (lnN L) (shW L) (fun k => gI_nw L)) okX4_init ml_RX8_18 imX4_init rfl rfl rfl (leb rfl) (leb rfl) rfl rfl (fun ν9 hq9 => ?_)
  obtain ⟨hob, hlen, hO, hkw⟩ := hq9
  have hOO : OLD 3 ν ν9 := (OLD.rf.sN L (by decide)).tr hO
  have Sx : ν9.1[0]? = some (.inl 8) := by rw [hOO.1 0 (by rw [L]; decide)]; exact S0
  refine w_putRF hX hini dX8_init_23 fo_RX8_19 rfl rfl rfl Sx ?_
  exact cx_2 hX hE hini hfr HR (sR ν9 0 1 (some 3)) hlen Sx (by show gI ν9 0 8 = _; rw [(hOO.2.2 0 8 (by decide)).1]; exact M8) (by rw [gR_ne (by decide), (hOO.2.2 0 0 (by decide)).2.2]; exact R0) gR_same (isTp_R (Tp.old hOO (by decide) (Nat.le_of_eq L.symm)) (by decide)) (by show gI ν9 1 1 = _; rw [(hOO.2.2 _ _ (by decide)).1]; exact Tl) (isRd_R0 hob (by decide)) hkw
set_option maxHeartbeats 1000000 in
theorem cx_0 {Γ : Gm} {X : Cx} {l9 : Nat} (hX : GX Γ X MX8_init.1.cls MX8_init.2.1 7) (hE : EndV Γ X l9 56 (fun μ2 => XI μ2 25 41 (fun _ => 0) ((fun _ => 0), 0) 0 ∧ μ2.1.length = 57 ∧ gI μ2 6 5 = nI 0 ∧ gI μ2 12 9 = (-1 : Int32) ∧ gI μ2 20 6 = (-1 : Int32))) (hini : X.2.2.2.2.2.2.2.1.name = "<init>") (hfr : Γ.2.2.2.2.2 = true) (HR : RDM Γ) (ν : Mem) (L : ν.1.length = 1) (S0 : ν.1[0]? = some (.inl 8)) (M8 : gI ν 0 8 = nI 0) : WP Γ X 56 2748 4 [some (.ref 0)] [] ν := by
  refine w_aload_n (i := 0) hX dX8_init_4 rfl rfl ?_
  -- new
  refine w_new (n := 2746) hX hfr dX8_init_5 no_RX8_7 (by rw [L]; decide) ?_
  rw [L]
  refine w_dup hX dX8_init_8 rfl ?_
  refine w_callINV (As := []) (rest := [.ref 1, .ref 0]) (o := 1) (k2 := 54) (n2 := 1746) hX dX8_init_9 (s_c_tape Γ (sN ν (.inl 5)) hfr 1 (by decide) (lnN L) (shW L) (fun k => gI_nw L)) okX5_init (List.mem_of_getElem? (i := 0) rfl) imX5_init rfl rfl rfl (leb rfl) (leb rfl) rfl rfl (fun ν9 hq9 => ?_)
  obtain ⟨hob, hlen, hO, -, hv⟩ := hq9
  have hOO : OLD 1 ν ν9 := (OLD.rf.sN L (by decide)).tr hO
  have Sx : ν9.1[0]? = some (.inl 8) := by rw [hOO.1 0 (by rw [L]; decide)]; exact S0
  refine w_putRF hX hini dX8_init_12 fo_RX8_10 rfl rfl rfl Sx ?_
  exact cx_1 hX hE hini hfr HR (sR ν9 0 0 (some 1)) hlen Sx (by show gI ν9 0 8 = _; rw [(hOO.2.2 0 8 (by decide)).1]; exact M8) gR_same (isTp_R hob (by decide)) hv
set_option maxHeartbeats 1000000 in
theorem s_c_x_open (Γ : Gm) (μ : Mem) (hfr : Γ.2.2.2.2.2 = true) (HR : RDM Γ) (hl : μ.1.length = 1) (hs : μ.1[0]? = some (.inl 8)) (hzo : ∀ k, gI μ 0 k = nI 0) : SpV Γ MX8_init 7 56 2748 [.ref 0] μ (fun μ2 => XI μ2 25 41 (fun _ => 0) ((fun _ => 0), 0) 0 ∧ μ2.1.length = 57 ∧ gI μ2 6 5 = nI 0 ∧ gI μ2 12 9 = (-1 : Int32) ∧ gI μ2 20 6 = (-1 : Int32)) := by
  refine SpV.of okX8_init rfl [some (.ref 0)] ⟨rfl, trivial⟩ (leb rfl) (leb rfl) (fun X hX hE hnm => ?_)
  refine w_aload_n (i := 0) hX dX8_init_0 rfl rfl ?_
  refine w_objInit hX dX8_init_1 ol_RX8_1 (leb rfl) (leb rfl) ?_
  exact cx_0 hX hE hnm hfr HR μ hl hs (hzo 8)
