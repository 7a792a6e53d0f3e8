/-! the makers: what a new object's maker leaves -/
theorem lnN {μ : Mem} {x : Shp} {n : Nat} (h : μ.1.length = n) : (sN μ x).1.length = n + 1 := by
  show (μ.1 ++ [x]).length = _; rw [List.length_append, h]; rfl
theorem shO {μ : Mem} {x y : Shp} {o n : Nat} (h : μ.1.length = n) (ho : o < n) (hs : μ.1[o]? = some y) : (sN μ x).1[o]? = some y := by
  show (μ.1 ++ [x])[o]? = _; rw [List.getElem?_append_left (by omega)]; exact hs
theorem shW {μ : Mem} {x : Shp} {n : Nat} (h : μ.1.length = n) : (sN μ x).1[n]? = some x := by
  show (μ.1 ++ [x])[n]? = _; rw [← h]; simp
theorem gR_old {μ : Mem} {x : Shp} {o k n : Nat} (h : μ.1.length = n) (ho : o < n) : gR (sN μ x) o k = gR μ o k := if_neg (by omega)
theorem gI_old {μ : Mem} {x : Shp} {o k n : Nat} (h : μ.1.length = n) (ho : o < n) : gI (sN μ x) o k = gI μ o k := if_neg (by omega)
theorem gL_old {μ : Mem} {x : Shp} {o k n : Nat} (h : μ.1.length = n) (ho : o < n) : gL (sN μ x) o k = gL μ o k := if_neg (by omega)
/-- below o nothing changed -/
def OLD (o : Nat) (μ ν : Mem) : Prop := (∀ q, q < μ.1.length → ν.1[q]? = μ.1[q]?) ∧ μ.1.length ≤ ν.1.length ∧ ∀ q k, q < o → gI ν q k = gI μ q k ∧ gL ν q k = gL μ q k ∧ gR ν q k = gR μ q k
theorem OLD.rf {o : Nat} {μ : Mem} : OLD o μ μ := ⟨fun _ _ => rfl, Nat.le_refl _, fun _ _ _ => ⟨rfl, rfl, rfl⟩⟩
theorem OLD.tr {o : Nat} {μ ν ξ : Mem} (h : OLD o μ ν) (h2 : OLD o ν ξ) : OLD o μ ξ := ⟨fun q hq => by rw [h2.1 q (Nat.lt_of_lt_of_le hq h.2.1)]; exact h.1 q hq, Nat.le_trans h.2.1 h2.2.1, fun q k hq => ⟨by rw [(h2.2.2 q k hq).1]; exact (h.2.2 q k hq).1, by rw [(h2.2.2 q k hq).2.1]; exact (h.2.2 q k hq).2.1, by rw [(h2.2.2 q k hq).2.2]; exact (h.2.2 q k hq).2.2⟩⟩
theorem OLD.dn {o o2 : Nat} {μ ν : Mem} (h : OLD o μ ν) (ho : o2 ≤ o) : OLD o2 μ ν := ⟨h.1, h.2.1, fun q k hq => h.2.2 q k (by omega)⟩
theorem OLD.sN {o n : Nat} {μ ν : Mem} {x : Shp} (h : OLD o μ ν) (hl : ν.1.length = n) (ho : o ≤ n) : OLD o μ (sN ν x) := ⟨fun q hq => by
    have h2 := h.2.1
    show (ν.1 ++ [x])[q]? = _; rw [List.getElem?_append_left (by omega)]; exact h.1 q hq, by rw [lnN hl]; have := h.2.1; omega, fun q k hq => ⟨by rw [gI_old hl (by omega)]; exact (h.2.2 q k hq).1, by rw [gL_old hl (by omega)]; exact (h.2.2 q k hq).2.1, by rw [gR_old hl (by omega)]; exact (h.2.2 q k hq).2.2⟩⟩
theorem OLD.sR {o q0 k0 : Nat} {v : Option Nat} {μ ν : Mem} (h : OLD o μ ν) (ho : o ≤ q0) : OLD o μ (sR ν q0 k0 v) := ⟨h.1, h.2.1, fun q k hq => ⟨(h.2.2 q k hq).1, (h.2.2 q k hq).2.1, by rw [gR_ne (by omega)]; exact (h.2.2 q k hq).2.2⟩⟩
theorem OLD.sI {o q0 k0 : Nat} {v : Int32} {μ ν : Mem} (h : OLD o μ ν) (ho : o ≤ q0) : OLD o μ (sI ν q0 k0 v) := ⟨h.1, h.2.1, fun q k hq => ⟨by rw [gI_no (by omega)]; exact (h.2.2 q k hq).1, (h.2.2 q k hq).2.1, (h.2.2 q k hq).2.2⟩⟩
theorem OLD.sL {o q0 k0 : Nat} {v : Int64} {μ ν : Mem} (h : OLD o μ ν) (ho : o ≤ q0) : OLD o μ (sL ν q0 k0 v) := ⟨h.1, h.2.1, fun q k hq => ⟨(h.2.2 q k hq).1, by rw [gL_ne (fun e => by omega)]; exact (h.2.2 q k hq).2.1, (h.2.2 q k hq).2.2⟩⟩
/-- above o all numbers are nought -/
def ZR (o : Nat) (μ : Mem) : Prop := ∀ q k, o < q → q < μ.1.length → gI μ q k = nI 0
theorem ZR.rf {o : Nat} {μ : Mem} (h : μ.1.length = o + 1) : ZR o μ := fun q k h1 h2 => by omega
theorem ZR.sN {o n : Nat} {μ : Mem} {x : Shp} (h : ZR o μ) (hl : μ.1.length = n) : ZR o (sN μ x) := fun q k h1 h2 => by
  rw [lnN hl] at h2
  by_cases e : q = n
  · show (if q = μ.1.length then (0 : Int32) else _) = _; rw [if_pos (by omega)]; rfl
  · rw [gI_old hl (by omega)]; exact h q k h1 (by omega)
theorem ZR.sI {o k0 : Nat} {v : Int32} {μ : Mem} (h : ZR o μ) : ZR o (sI μ o k0 v) := fun q k h1 h2 => by rw [gI_no (by omega)]; exact h q k h1 h2
set_option maxHeartbeats 1000000 in
theorem s_c_tape (Γ : Gm) (μ : Mem) (hfr : Γ.2.2.2.2.2 = true) (o : Nat) (ho : o < 900000) (hl : μ.1.length = o + 1) (hs : μ.1[o]? = some (.inl 5)) (hzo : ∀ k, gI μ o k = nI 0) : SpV Γ MX5_init 1 1 1000 [.ref o] μ (fun μ2 => isTp μ2 o ∧ μ2.1.length = o + 2 ∧ OLD o μ μ2 ∧ ZR o μ2 ∧ gI μ2 o 1 = nI 0) := by
  refine SpV.of okX5_init rfl [some (.ref o)] ⟨rfl, trivial⟩ (leb rfl) (leb rfl) (fun X hX hE hnm => ?_)
  have hini := hnm
  refine w_aload_n (i := 0) hX dX5_init_0 rfl rfl ?_
  refine w_objInit hX dX5_init_1 ol_RX5_1 (leb rfl) (leb rfl) ?_
  refine w_aload_n (i := 0) hX dX5_init_4 rfl rfl ?_
  refine w_sipush hX dX5_init_5 kS_1000 ?_
  have K0 : μ.1.length = o + 1 := hl
  have Z0 : ZR o μ := (ZR.rf hl)
  have O0 : OLD o μ μ := OLD.rf
  refine w_newB (len := 1000) hX hfr dX5_init_8 (by decide) rfl (by decide) (by rw [K0]; unfold scr; omega) ?_
  rw [K0]
  have S0 : (sN μ (.inr (2, 1000))).1[o]? = some (.inl 5) := shO K0 (by omega) hs
  have A0 : (sN μ (.inr (2, 1000))).1[o + 1]? = some (.inr (2, 1000)) := shW K0
  refine w_putRF hX hini dX5_init_10 fo_RX5_9 rfl rfl rfl S0 ?_
  have hOB : isTp (sR (sN μ (.inr (2, 1000))) o 0 (some (o + 1))) o := ⟨(show (sR (sN μ (.inr (2, 1000))) o 0 (some (o + 1))).1[o]? = _ from S0), ⟨by rw [gR_same], A0⟩⟩
  exact w_vret hX hE dX5_init_13 (Or.inl rfl) ⟨hOB, lnN K0, ((OLD.rf).sN K0 (by omega)).sR (by omega), ((ZR.rf hl)).sN K0, by rw [gI_sR, gI_old K0 (by omega)]; exact hzo 1⟩
set_option maxHeartbeats 1000000 in
theorem s_c_worlds (Γ : Gm) (μ : Mem) (hfr : Γ.2.2.2.2.2 = true) (o : Nat) (ho : o < 900000) (hl : μ.1.length = o + 1) (hs : μ.1[o]? = some (.inl 7)) (hzo : ∀ k, gI μ o k = nI 0) : SpV Γ MX7_init 1 5 148 [.ref o] μ (fun μ2 => isWd μ2 o ∧ μ2.1.length = o + 6 ∧ OLD o μ μ2 ∧ ZR o μ2 ∧ gI μ2 o 5 = nI 0) := by
  refine SpV.of okX7_init rfl [some (.ref o)] ⟨rfl, trivial⟩ (leb rfl) (leb rfl) (fun X hX hE hnm => ?_)
  have hini := hnm
  refine w_aload_n (i := 0) hX dX7_init_0 rfl rfl ?_
  refine w_objInit hX dX7_init_1 ol_RX7_5 (leb rfl) (leb rfl) ?_
  refine w_aload_n (i := 0) hX dX7_init_4 rfl rfl ?_
  refine w_bipush hX dX7_init_5 kB_24 ?_
  have K0 : μ.1.length = o + 1 := hl
  have Z0 : ZR o μ := (ZR.rf hl)
  have O0 : OLD o μ μ := OLD.rf
  refine w_newI (len := 24) hX hfr dX7_init_7 (by decide) rfl (by decide) (by rw [K0]; unfold scr; omega) ?_
  rw [K0]
  have S0 : (sN μ (.inr (0, 24))).1[o]? = some (.inl 7) := shO K0 (by omega) hs
  have A0 : (sN μ (.inr (0, 24))).1[o + 1]? = some (.inr (0, 24)) := shW K0
  refine w_putRF hX hini dX7_init_9 fo_RX7_13 rfl rfl rfl S0 ?_
  refine w_aload_n (i := 0) hX dX7_init_12 rfl rfl ?_
  refine w_bipush hX dX7_init_13 kB_24 ?_
  have K1 : (sR (sN μ (.inr (0, 24))) o 0 (some (o + 1))).1.length = o + 2 := lnN K0
  have Z1 : ZR o (sR (sN μ (.inr (0, 24))) o 0 (some (o + 1))) := Z0.sN K0
  have O1 : OLD o μ (sR (sN μ (.inr (0, 24))) o 0 (some (o + 1))) := (O0.sN K0 (by omega)).sR (by omega)
  refine w_newI (len := 24) hX hfr dX7_init_15 (by decide) rfl (by decide) (by rw [K1]; unfold scr; omega) ?_
  rw [K1]
  have S1 : (sN (sR (sN μ (.inr (0, 24))) o 0 (some (o + 1))) (.inr (0, 24))).1[o]? = some (.inl 7) := shO K1 (by omega) S0
  have A1 : (sN (sR (sN μ (.inr (0, 24))) o 0 (some (o + 1))) (.inr (0, 24))).1[o + 2]? = some (.inr (0, 24)) := shW K1
  have A0_1 : (sN (sR (sN μ (.inr (0, 24))) o 0 (some (o + 1))) (.inr (0, 24))).1[o + 1]? = some (.inr (0, 24)) := shO K1 (by omega) A0
  refine w_putRF hX hini dX7_init_17 fo_RX7_17 rfl rfl rfl S1 ?_
  refine w_aload_n (i := 0) hX dX7_init_20 rfl rfl ?_
  refine w_bipush hX dX7_init_21 kB_24 ?_
  have K2 : (sR (sN (sR (sN μ (.inr (0, 24))) o 0 (some (o + 1))) (.inr (0, 24))) o 1 (some (o + 2))).1.length = o + 3 := lnN K1
  have Z2 : ZR o (sR (sN (sR (sN μ (.inr (0, 24))) o 0 (some (o + 1))) (.inr (0, 24))) o 1 (some (o + 2))) := Z1.sN K1
  have O2 : OLD o μ (sR (sN (sR (sN μ (.inr (0, 24))) o 0 (some (o + 1))) (.inr (0, 24))) o 1 (some (o + 2))) := (O1.sN K1 (by omega)).sR (by omega)
  refine w_newI (len := 24) hX hfr dX7_init_23 (by decide) rfl (by decide) (by rw [K2]; unfold scr; omega) ?_
  rw [K2]
  have S2 : (sN (sR (sN (sR (sN μ (.inr (0, 24))) o 0 (some (o + 1))) (.inr (0, 24))) o 1 (some (o + 2))) (.inr (0, 24))).1[o]? = some (.inl 7) := shO K2 (by omega) S1
  have A2 : (sN (sR (sN (sR (sN μ (.inr (0, 24))) o 0 (some (o + 1))) (.inr (0, 24))) o 1 (some (o + 2))) (.inr (0, 24))).1[o + 3]? = some (.inr (0, 24)) := shW K2
  have A0_2 : (sN (sR (sN (sR (sN μ (.inr (0, 24))) o 0 (some (o + 1))) (.inr (0, 24))) o 1 (some (o + 2))) (.inr (0, 24))).1[o + 1]? = some (.inr (0, 24)) := shO K2 (by omega) A0_1
  have A1_2 : (sN (sR (sN (sR (sN μ (.inr (0, 24))) o 0 (some (o + 1))) (.inr (0, 24))) o 1 (some (o + 2))) (.inr (0, 24))).1[o + 2]? = some (.inr (0, 24)) := shO K2 (by omega) A1
  refine w_putRF hX hini dX7_init_25 fo_RX7_20 rfl rfl rfl S2 ?_
  refine w_aload_n (i := 0) hX dX7_init_28 rfl rfl ?_
  refine w_bipush hX dX7_init_29 kB_64 ?_
  have K3 : (sR (sN (sR (sN (sR (sN μ (.inr (0, 24))) o 0 (some (o + 1))) (.inr (0, 24))) o 1 (some (o + 2))) (.inr (0, 24))) o 2 (some (o + 3))).1.length = o + 4 := lnN K2
  have Z3 : ZR o (sR (sN (sR (sN (sR (sN μ (.inr (0, 24))) o 0 (some (o + 1))) (.inr (0, 24))) o 1 (some (o + 2))) (.inr (0, 24))) o 2 (some (o + 3))) := Z2.sN K2
  have O3 : OLD o μ (sR (sN (sR (sN (sR (sN μ (.inr (0, 24))) o 0 (some (o + 1))) (.inr (0, 24))) o 1 (some (o + 2))) (.inr (0, 24))) o 2 (some (o + 3))) := (O2.sN K2 (by omega)).sR (by omega)
  refine w_newL (len := 64) hX hfr dX7_init_31 (by decide) rfl (by decide) (by rw [K3]; unfold scr; omega) ?_
  rw [K3]
  have S3 : (sN (sR (sN (sR (sN (sR (sN μ (.inr (0, 24))) o 0 (some (o + 1))) (.inr (0, 24))) o 1 (some (o + 2))) (.inr (0, 24))) o 2 (some (o + 3))) (.inr (1, 64))).1[o]? = some (.inl 7) := shO K3 (by omega) S2
  have A3 : (sN (sR (sN (sR (sN (sR (sN μ (.inr (0, 24))) o 0 (some (o + 1))) (.inr (0, 24))) o 1 (some (o + 2))) (.inr (0, 24))) o 2 (some (o + 3))) (.inr (1, 64))).1[o + 4]? = some (.inr (1, 64)) := shW K3
  have A0_3 : (sN (sR (sN (sR (sN (sR (sN μ (.inr (0, 24))) o 0 (some (o + 1))) (.inr (0, 24))) o 1 (some (o + 2))) (.inr (0, 24))) o 2 (some (o + 3))) (.inr (1, 64))).1[o + 1]? = some (.inr (0, 24)) := shO K3 (by omega) A0_2
  have A1_3 : (sN (sR (sN (sR (sN (sR (sN μ (.inr (0, 24))) o 0 (some (o + 1))) (.inr (0, 24))) o 1 (some (o + 2))) (.inr (0, 24))) o 2 (some (o + 3))) (.inr (1, 64))).1[o + 2]? = some (.inr (0, 24)) := shO K3 (by omega) A1_2
  have A2_3 : (sN (sR (sN (sR (sN (sR (sN μ (.inr (0, 24))) o 0 (some (o + 1))) (.inr (0, 24))) o 1 (some (o + 2))) (.inr (0, 24))) o 2 (some (o + 3))) (.inr (1, 64))).1[o + 3]? = some (.inr (0, 24)) := shO K3 (by omega) A2
  refine w_putRF hX hini dX7_init_33 fo_RX7_23 rfl rfl rfl S3 ?_
  refine w_aload_n (i := 0) hX dX7_init_36 rfl rfl ?_
  refine w_bipush hX dX7_init_37 kB_12 ?_
  have K4 : (sR (sN (sR (sN (sR (sN (sR (sN μ (.inr (0, 24))) o 0 (some (o + 1))) (.inr (0, 24))) o 1 (some (o + 2))) (.inr (0, 24))) o 2 (some (o + 3))) (.inr (1, 64))) o 3 (some (o + 4))).1.length = o + 5 := lnN K3
  have Z4 : ZR o (sR (sN (sR (sN (sR (sN (sR (sN μ (.inr (0, 24))) o 0 (some (o + 1))) (.inr (0, 24))) o 1 (some (o + 2))) (.inr (0, 24))) o 2 (some (o + 3))) (.inr (1, 64))) o 3 (some (o + 4))) := Z3.sN K3
  have O4 : OLD o μ (sR (sN (sR (sN (sR (sN (sR (sN μ (.inr (0, 24))) o 0 (some (o + 1))) (.inr (0, 24))) o 1 (some (o + 2))) (.inr (0, 24))) o 2 (some (o + 3))) (.inr (1, 64))) o 3 (some (o + 4))) := (O3.sN K3 (by omega)).sR (by omega)
  refine w_newI (len := 12) hX hfr dX7_init_39 (by decide) rfl (by decide) (by rw [K4]; unfold scr; omega) ?_
  rw [K4]
  have S4 : (sN (sR (sN (sR (sN (sR (sN (sR (sN μ (.inr (0, 24))) o 0 (some (o + 1))) (.inr (0, 24))) o 1 (some (o + 2))) (.inr (0, 24))) o 2 (some (o + 3))) (.inr (1, 64))) o 3 (some (o + 4))) (.inr (0, 12))).1[o]? = some (.inl 7) := shO K4 (by omega) S3
  have A4 : (sN (sR (sN (sR (sN (sR (sN (sR (sN μ (.inr (0, 24))) o 0 (some (o + 1))) (.inr (0, 24))) o 1 (some (o + 2))) (.inr (0, 24))) o 2 (some (o + 3))) (.inr (1, 64))) o 3 (some (o + 4))) (.inr (0, 12))).1[o + 5]? = some (.inr (0, 12)) := shW K4
  have A0_4 : (sN (sR (sN (sR (sN (sR (sN (sR (sN μ (.inr (0, 24))) o 0 (some (o + 1))) (.inr (0, 24))) o 1 (some (o + 2))) (.inr (0, 24))) o 2 (some (o + 3))) (.inr (1, 64))) o 3 (some (o + 4))) (.inr (0, 12))).1[o + 1]? = some (.inr (0, 24)) := shO K4 (by omega) A0_3
  have A1_4 : (sN (sR (sN (sR (sN (sR (sN (sR (sN μ (.inr (0, 24))) o 0 (some (o + 1))) (.inr (0, 24))) o 1 (some (o + 2))) (.inr (0, 24))) o 2 (some (o + 3))) (.inr (1, 64))) o 3 (some (o + 4))) (.inr (0, 12))).1[o + 2]? = some (.inr (0, 24)) := shO K4 (by omega) A1_3
  have A2_4 : (sN (sR (sN (sR (sN (sR (sN (sR (sN μ (.inr (0, 24))) o 0 (some (o + 1))) (.inr (0, 24))) o 1 (some (o + 2))) (.inr (0, 24))) o 2 (some (o + 3))) (.inr (1, 64))) o 3 (some (o + 4))) (.inr (0, 12))).1[o + 3]? = some (.inr (0, 24)) := shO K4 (by omega) A2_3
  have A3_4 : (sN (sR (sN (sR (sN (sR (sN (sR (sN μ (.inr (0, 24))) o 0 (some (o + 1))) (.inr (0, 24))) o 1 (some (o + 2))) (.inr (0, 24))) o 2 (some (o + 3))) (.inr (1, 64))) o 3 (some (o + 4))) (.inr (0, 12))).1[o + 4]? = some (.inr (1, 64)) := shO K4 (by omega) A3
  refine w_putRF hX hini dX7_init_41 fo_RX7_27 rfl rfl rfl S4 ?_
  have hOB : isWd (sR (sN (sR (sN (sR (sN (sR (sN (sR (sN μ (.inr (0, 24))) o 0 (some (o + 1))) (.inr (0, 24))) o 1 (some (o + 2))) (.inr (0, 24))) o 2 (some (o + 3))) (.inr (1, 64))) o 3 (some (o + 4))) (.inr (0, 12))) o 4 (some (o + 5))) o := ⟨(show (sR (sN (sR (sN (sR (sN (sR (sN (sR (sN μ (.inr (0, 24))) o 0 (some (o + 1))) (.inr (0, 24))) o 1 (some (o + 2))) (.inr (0, 24))) o 2 (some (o + 3))) (.inr (1, 64))) o 3 (some (o + 4))) (.inr (0, 12))) o 4 (some (o + 5))).1[o]? = _ from S4), ⟨by rw [gR_ne (by omega), gR_old K4 (by omega), gR_ne (by omega), gR_old K3 (by omega), gR_ne (by omega), gR_old K2 (by omega), gR_ne (by omega), gR_old K1 (by omega), gR_same], A0_4⟩, ⟨by rw [gR_ne (by omega), gR_old K4 (by omega), gR_ne (by omega), gR_old K3 (by omega), gR_ne (by omega), gR_old K2 (by omega), gR_same], A1_4⟩, ⟨by rw [gR_ne (by omega), gR_old K4 (by omega), gR_ne (by omega), gR_old K3 (by omega), gR_same], A2_4⟩, ⟨by rw [gR_ne (by omega), gR_old K4 (by omega), gR_same], A3_4⟩, ⟨by rw [gR_same], A4⟩⟩
  exact w_vret hX hE dX7_init_44 (Or.inl rfl) ⟨hOB, lnN K4, ((((((((((OLD.rf).sN K0 (by omega)).sR (by omega)).sN K1 (by omega)).sR (by omega)).sN K2 (by omega)).sR (by omega)).sN K3 (by omega)).sR (by omega)).sN K4 (by omega)).sR (by omega), ((((((ZR.rf hl)).sN K0).sN K1).sN K2).sN K3).sN K4, by rw [gI_sR, gI_old K4 (by omega), gI_sR, gI_old K3 (by omega), gI_sR, gI_old K2 (by omega), gI_sR, gI_old K1 (by omega), gI_sR, gI_old K0 (by omega)]; exact hzo 5⟩
set_option maxHeartbeats 1000000 in
theorem s_c_plan (Γ : Gm) (μ : Mem) (hfr : Γ.2.2.2.2.2 = true) (o : Nat) (ho : o < 900000) (hl : μ.1.length = o + 1) (hs : μ.1[o]? = some (.inl 3)) (hzo : ∀ k, gI μ o k = nI 0) : SpV Γ MX3_init 1 5 304 [.ref o] μ (fun μ2 => isPl μ2 o ∧ μ2.1.length = o + 6 ∧ OLD o μ μ2 ∧ ZR o μ2 ∧ gI μ2 o 9 = (-1 : Int32)) := by
  refine SpV.of okX3_init rfl [some (.ref o)] ⟨rfl, trivial⟩ (leb rfl) (leb rfl) (fun X hX hE hnm => ?_)
  have hini := hnm
  refine w_aload_n (i := 0) hX dX3_init_0 rfl rfl ?_
  refine w_objInit hX dX3_init_1 ol_RX3_5 (leb rfl) (leb rfl) ?_
  refine w_aload_n (i := 0) hX dX3_init_4 rfl rfl ?_
  refine w_bipush hX dX3_init_5 kB_16 ?_
  have K0 : μ.1.length = o + 1 := hl
  have Z0 : ZR o μ := (ZR.rf hl)
  have O0 : OLD o μ μ := OLD.rf
  refine w_newI (len := 16) hX hfr dX3_init_7 (by decide) rfl (by decide) (by rw [K0]; unfold scr; omega) ?_
  rw [K0]
  have S0 : (sN μ (.inr (0, 16))).1[o]? = some (.inl 3) := shO K0 (by omega) hs
  have A0 : (sN μ (.inr (0, 16))).1[o + 1]? = some (.inr (0, 16)) := shW K0
  refine w_putRF hX hini dX3_init_9 fo_RX3_11 rfl rfl rfl S0 ?_
  refine w_aload_n (i := 0) hX dX3_init_12 rfl rfl ?_
  refine w_bipush hX dX3_init_13 kB_16 ?_
  have K1 : (sR (sN μ (.inr (0, 16))) o 0 (some (o + 1))).1.length = o + 2 := lnN K0
  have Z1 : ZR o (sR (sN μ (.inr (0, 16))) o 0 (some (o + 1))) := Z0.sN K0
  have O1 : OLD o μ (sR (sN μ (.inr (0, 16))) o 0 (some (o + 1))) := (O0.sN K0 (by omega)).sR (by omega)
  refine w_newI (len := 16) hX hfr dX3_init_15 (by decide) rfl (by decide) (by rw [K1]; unfold scr; omega) ?_
  rw [K1]
  have S1 : (sN (sR (sN μ (.inr (0, 16))) o 0 (some (o + 1))) (.inr (0, 16))).1[o]? = some (.inl 3) := shO K1 (by omega) S0
  have A1 : (sN (sR (sN μ (.inr (0, 16))) o 0 (some (o + 1))) (.inr (0, 16))).1[o + 2]? = some (.inr (0, 16)) := shW K1
  have A0_1 : (sN (sR (sN μ (.inr (0, 16))) o 0 (some (o + 1))) (.inr (0, 16))).1[o + 1]? = some (.inr (0, 16)) := shO K1 (by omega) A0
  refine w_putRF hX hini dX3_init_17 fo_RX3_17 rfl rfl rfl S1 ?_
  refine w_aload_n (i := 0) hX dX3_init_20 rfl rfl ?_
  refine w_sipush hX dX3_init_21 kS_256 ?_
  have K2 : (sR (sN (sR (sN μ (.inr (0, 16))) o 0 (some (o + 1))) (.inr (0, 16))) o 1 (some (o + 2))).1.length = o + 3 := lnN K1
  have Z2 : ZR o (sR (sN (sR (sN μ (.inr (0, 16))) o 0 (some (o + 1))) (.inr (0, 16))) o 1 (some (o + 2))) := Z1.sN K1
  have O2 : OLD o μ (sR (sN (sR (sN μ (.inr (0, 16))) o 0 (some (o + 1))) (.inr (0, 16))) o 1 (some (o + 2))) := (O1.sN K1 (by omega)).sR (by omega)
  refine w_newI (len := 256) hX hfr dX3_init_24 (by decide) rfl (by decide) (by rw [K2]; unfold scr; omega) ?_
  rw [K2]
  have S2 : (sN (sR (sN (sR (sN μ (.inr (0, 16))) o 0 (some (o + 1))) (.inr (0, 16))) o 1 (some (o + 2))) (.inr (0, 256))).1[o]? = some (.inl 3) := shO K2 (by omega) S1
  have A2 : (sN (sR (sN (sR (sN μ (.inr (0, 16))) o 0 (some (o + 1))) (.inr (0, 16))) o 1 (some (o + 2))) (.inr (0, 256))).1[o + 3]? = some (.inr (0, 256)) := shW K2
  have A0_2 : (sN (sR (sN (sR (sN μ (.inr (0, 16))) o 0 (some (o + 1))) (.inr (0, 16))) o 1 (some (o + 2))) (.inr (0, 256))).1[o + 1]? = some (.inr (0, 16)) := shO K2 (by omega) A0_1
  have A1_2 : (sN (sR (sN (sR (sN μ (.inr (0, 16))) o 0 (some (o + 1))) (.inr (0, 16))) o 1 (some (o + 2))) (.inr (0, 256))).1[o + 2]? = some (.inr (0, 16)) := shO K2 (by omega) A1
  refine w_putRF hX hini dX3_init_26 fo_RX3_20 rfl rfl rfl S2 ?_
  refine w_aload_n (i := 0) hX dX3_init_29 rfl rfl ?_
  refine w_bipush hX dX3_init_30 kB_8 ?_
  have K3 : (sR (sN (sR (sN (sR (sN μ (.inr (0, 16))) o 0 (some (o + 1))) (.inr (0, 16))) o 1 (some (o + 2))) (.inr (0, 256))) o 2 (some (o + 3))).1.length = o + 4 := lnN K2
  have Z3 : ZR o (sR (sN (sR (sN (sR (sN μ (.inr (0, 16))) o 0 (some (o + 1))) (.inr (0, 16))) o 1 (some (o + 2))) (.inr (0, 256))) o 2 (some (o + 3))) := Z2.sN K2
  have O3 : OLD o μ (sR (sN (sR (sN (sR (sN μ (.inr (0, 16))) o 0 (some (o + 1))) (.inr (0, 16))) o 1 (some (o + 2))) (.inr (0, 256))) o 2 (some (o + 3))) := (O2.sN K2 (by omega)).sR (by omega)
  refine w_newI (len := 8) hX hfr dX3_init_32 (by decide) rfl (by decide) (by rw [K3]; unfold scr; omega) ?_
  rw [K3]
  have S3 : (sN (sR (sN (sR (sN (sR (sN μ (.inr (0, 16))) o 0 (some (o + 1))) (.inr (0, 16))) o 1 (some (o + 2))) (.inr (0, 256))) o 2 (some (o + 3))) (.inr (0, 8))).1[o]? = some (.inl 3) := shO K3 (by omega) S2
  have A3 : (sN (sR (sN (sR (sN (sR (sN μ (.inr (0, 16))) o 0 (some (o + 1))) (.inr (0, 16))) o 1 (some (o + 2))) (.inr (0, 256))) o 2 (some (o + 3))) (.inr (0, 8))).1[o + 4]? = some (.inr (0, 8)) := shW K3
  have A0_3 : (sN (sR (sN (sR (sN (sR (sN μ (.inr (0, 16))) o 0 (some (o + 1))) (.inr (0, 16))) o 1 (some (o + 2))) (.inr (0, 256))) o 2 (some (o + 3))) (.inr (0, 8))).1[o + 1]? = some (.inr (0, 16)) := shO K3 (by omega) A0_2
  have A1_3 : (sN (sR (sN (sR (sN (sR (sN μ (.inr (0, 16))) o 0 (some (o + 1))) (.inr (0, 16))) o 1 (some (o + 2))) (.inr (0, 256))) o 2 (some (o + 3))) (.inr (0, 8))).1[o + 2]? = some (.inr (0, 16)) := shO K3 (by omega) A1_2
  have A2_3 : (sN (sR (sN (sR (sN (sR (sN μ (.inr (0, 16))) o 0 (some (o + 1))) (.inr (0, 16))) o 1 (some (o + 2))) (.inr (0, 256))) o 2 (some (o + 3))) (.inr (0, 8))).1[o + 3]? = some (.inr (0, 256)) := shO K3 (by omega) A2
  refine w_putRF hX hini dX3_init_34 fo_RX3_23 rfl rfl rfl S3 ?_
  refine w_aload_n (i := 0) hX dX3_init_37 rfl rfl ?_
  refine w_bipush hX dX3_init_38 kB_8 ?_
  have K4 : (sR (sN (sR (sN (sR (sN (sR (sN μ (.inr (0, 16))) o 0 (some (o + 1))) (.inr (0, 16))) o 1 (some (o + 2))) (.inr (0, 256))) o 2 (some (o + 3))) (.inr (0, 8))) o 3 (some (o + 4))).1.length = o + 5 := lnN K3
  have Z4 : ZR o (sR (sN (sR (sN (sR (sN (sR (sN μ (.inr (0, 16))) o 0 (some (o + 1))) (.inr (0, 16))) o 1 (some (o + 2))) (.inr (0, 256))) o 2 (some (o + 3))) (.inr (0, 8))) o 3 (some (o + 4))) := Z3.sN K3
  have O4 : OLD o μ (sR (sN (sR (sN (sR (sN (sR (sN μ (.inr (0, 16))) o 0 (some (o + 1))) (.inr (0, 16))) o 1 (some (o + 2))) (.inr (0, 256))) o 2 (some (o + 3))) (.inr (0, 8))) o 3 (some (o + 4))) := (O3.sN K3 (by omega)).sR (by omega)
  refine w_newI (len := 8) hX hfr dX3_init_40 (by decide) rfl (by decide) (by rw [K4]; unfold scr; omega) ?_
  rw [K4]
  have S4 : (sN (sR (sN (sR (sN (sR (sN (sR (sN μ (.inr (0, 16))) o 0 (some (o + 1))) (.inr (0, 16))) o 1 (some (o + 2))) (.inr (0, 256))) o 2 (some (o + 3))) (.inr (0, 8))) o 3 (some (o + 4))) (.inr (0, 8))).1[o]? = some (.inl 3) := shO K4 (by omega) S3
  have A4 : (sN (sR (sN (sR (sN (sR (sN (sR (sN μ (.inr (0, 16))) o 0 (some (o + 1))) (.inr (0, 16))) o 1 (some (o + 2))) (.inr (0, 256))) o 2 (some (o + 3))) (.inr (0, 8))) o 3 (some (o + 4))) (.inr (0, 8))).1[o + 5]? = some (.inr (0, 8)) := shW K4
  have A0_4 : (sN (sR (sN (sR (sN (sR (sN (sR (sN μ (.inr (0, 16))) o 0 (some (o + 1))) (.inr (0, 16))) o 1 (some (o + 2))) (.inr (0, 256))) o 2 (some (o + 3))) (.inr (0, 8))) o 3 (some (o + 4))) (.inr (0, 8))).1[o + 1]? = some (.inr (0, 16)) := shO K4 (by omega) A0_3
  have A1_4 : (sN (sR (sN (sR (sN (sR (sN (sR (sN μ (.inr (0, 16))) o 0 (some (o + 1))) (.inr (0, 16))) o 1 (some (o + 2))) (.inr (0, 256))) o 2 (some (o + 3))) (.inr (0, 8))) o 3 (some (o + 4))) (.inr (0, 8))).1[o + 2]? = some (.inr (0, 16)) := shO K4 (by omega) A1_3
  have A2_4 : (sN (sR (sN (sR (sN (sR (sN (sR (sN μ (.inr (0, 16))) o 0 (some (o + 1))) (.inr (0, 16))) o 1 (some (o + 2))) (.inr (0, 256))) o 2 (some (o + 3))) (.inr (0, 8))) o 3 (some (o + 4))) (.inr (0, 8))).1[o + 3]? = some (.inr (0, 256)) := shO K4 (by omega) A2_3
  have A3_4 : (sN (sR (sN (sR (sN (sR (sN (sR (sN μ (.inr (0, 16))) o 0 (some (o + 1))) (.inr (0, 16))) o 1 (some (o + 2))) (.inr (0, 256))) o 2 (some (o + 3))) (.inr (0, 8))) o 3 (some (o + 4))) (.inr (0, 8))).1[o + 4]? = some (.inr (0, 8)) := shO K4 (by omega) A3
  refine w_putRF hX hini dX3_init_42 fo_RX3_26 rfl rfl rfl S4 ?_
  refine w_aload_n (i := 0) hX dX3_init_45 rfl rfl ?_
  refine w_iconst hX dX3_init_46 kI_m1 ?_
  refine w_putI hX dX3_init_47 fo_RX3_29 rfl rfl rfl rfl S4 ?_
  have hOB : isPl (sI (sR (sN (sR (sN (sR (sN (sR (sN (sR (sN μ (.inr (0, 16))) o 0 (some (o + 1))) (.inr (0, 16))) o 1 (some (o + 2))) (.inr (0, 256))) o 2 (some (o + 3))) (.inr (0, 8))) o 3 (some (o + 4))) (.inr (0, 8))) o 4 (some (o + 5))) o 9 ((-1 : Int32))) o := ⟨(show (sI (sR (sN (sR (sN (sR (sN (sR (sN (sR (sN μ (.inr (0, 16))) o 0 (some (o + 1))) (.inr (0, 16))) o 1 (some (o + 2))) (.inr (0, 256))) o 2 (some (o + 3))) (.inr (0, 8))) o 3 (some (o + 4))) (.inr (0, 8))) o 4 (some (o + 5))) o 9 ((-1 : Int32))).1[o]? = _ from S4), ⟨by rw [gR_sI, gR_ne (by omega), gR_old K4 (by omega), gR_ne (by omega), gR_old K3 (by omega), gR_ne (by omega), gR_old K2 (by omega), gR_ne (by omega), gR_old K1 (by omega), gR_same], A0_4⟩, ⟨by rw [gR_sI, gR_ne (by omega), gR_old K4 (by omega), gR_ne (by omega), gR_old K3 (by omega), gR_ne (by omega), gR_old K2 (by omega), gR_same], A1_4⟩, ⟨by rw [gR_sI, gR_ne (by omega), gR_old K4 (by omega), gR_ne (by omega), gR_old K3 (by omega), gR_same], A2_4⟩, ⟨by rw [gR_sI, gR_ne (by omega), gR_old K4 (by omega), gR_same], A3_4⟩, ⟨by rw [gR_sI, gR_same], A4⟩⟩
  exact w_vret hX hE dX3_init_50 (Or.inl rfl) ⟨hOB, lnN K4, (((((((((((OLD.rf).sN K0 (by omega)).sR (by omega)).sN K1 (by omega)).sR (by omega)).sN K2 (by omega)).sR (by omega)).sN K3 (by omega)).sR (by omega)).sN K4 (by omega)).sR (by omega)).sI (by omega), (((((((ZR.rf hl)).sN K0).sN K1).sN K2).sN K3).sN K4).sI, by rw [gI_same]⟩
set_option maxHeartbeats 1000000 in
theorem s_c_votes (Γ : Gm) (μ : Mem) (hfr : Γ.2.2.2.2.2 = true) (o : Nat) (ho : o < 900000) (hl : μ.1.length = o + 1) (hs : μ.1[o]? = some (.inl 6)) (hzo : ∀ k, gI μ o k = nI 0) : SpV Γ MX6_init 1 1 25 [.ref o] μ (fun μ2 => isVt μ2 o ∧ μ2.1.length = o + 2 ∧ OLD o μ μ2 ∧ ZR o μ2) := by
  refine SpV.of okX6_init rfl [some (.ref o)] ⟨rfl, trivial⟩ (leb rfl) (leb rfl) (fun X hX hE hnm => ?_)
  have hini := hnm
  refine w_aload_n (i := 0) hX dX6_init_0 rfl rfl ?_
  refine w_objInit hX dX6_init_1 ol_RX6_3 (leb rfl) (leb rfl) ?_
  refine w_aload_n (i := 0) hX dX6_init_4 rfl rfl ?_
  refine w_bipush hX dX6_init_5 kB_25 ?_
  have K0 : μ.1.length = o + 1 := hl
  have Z0 : ZR o μ := (ZR.rf hl)
  have O0 : OLD o μ μ := OLD.rf
  refine w_newI (len := 25) hX hfr dX6_init_7 (by decide) rfl (by decide) (by rw [K0]; unfold scr; omega) ?_
  rw [K0]
  have S0 : (sN μ (.inr (0, 25))).1[o]? = some (.inl 6) := shO K0 (by omega) hs
  have A0 : (sN μ (.inr (0, 25))).1[o + 1]? = some (.inr (0, 25)) := shW K0
  refine w_putRF hX hini dX6_init_9 fo_RX6_9 rfl rfl rfl S0 ?_
  have hOB : isVt (sR (sN μ (.inr (0, 25))) o 0 (some (o + 1))) o := ⟨(show (sR (sN μ (.inr (0, 25))) o 0 (some (o + 1))).1[o]? = _ from S0), ⟨by rw [gR_same], A0⟩⟩
  exact w_vret hX hE dX6_init_12 (Or.inl rfl) ⟨hOB, lnN K0, ((OLD.rf).sN K0 (by omega)).sR (by omega), ((ZR.rf hl)).sN K0⟩
set_option maxHeartbeats 1000000 in
theorem s_c_journey (Γ : Gm) (μ : Mem) (hfr : Γ.2.2.2.2.2 = true) (o : Nat) (ho : o < 900000) (hl : μ.1.length = o + 1) (hs : μ.1[o]? = some (.inl 2)) (hzo : ∀ k, gI μ o k = nI 0) : SpV Γ MX2_init 1 4 144 [.ref o] μ (fun μ2 => isJn μ2 o ∧ μ2.1.length = o + 5 ∧ OLD o μ μ2 ∧ ZR o μ2 ∧ gI μ2 o 6 = (-1 : Int32)) := by
  refine SpV.of okX2_init rfl [some (.ref o)] ⟨rfl, trivial⟩ (leb rfl) (leb rfl) (fun X hX hE hnm => ?_)
  have hini := hnm
  refine w_aload_n (i := 0) hX dX2_init_0 rfl rfl ?_
  refine w_objInit hX dX2_init_1 ol_RX2_7 (leb rfl) (leb rfl) ?_
  refine w_aload_n (i := 0) hX dX2_init_4 rfl rfl ?_
  refine w_bipush hX dX2_init_5 kB_36 ?_
  have K0 : μ.1.length = o + 1 := hl
  have Z0 : ZR o μ := (ZR.rf hl)
  have O0 : OLD o μ μ := OLD.rf
  refine w_newI (len := 36) hX hfr dX2_init_7 (by decide) rfl (by decide) (by rw [K0]; unfold scr; omega) ?_
  rw [K0]
  have S0 : (sN μ (.inr (0, 36))).1[o]? = some (.inl 2) := shO K0 (by omega) hs
  have A0 : (sN μ (.inr (0, 36))).1[o + 1]? = some (.inr (0, 36)) := shW K0
  refine w_putRF hX hini dX2_init_9 fo_RX2_15 rfl rfl rfl S0 ?_
  refine w_aload_n (i := 0) hX dX2_init_12 rfl rfl ?_
  refine w_bipush hX dX2_init_13 kB_36 ?_
  have K1 : (sR (sN μ (.inr (0, 36))) o 0 (some (o + 1))).1.length = o + 2 := lnN K0
  have Z1 : ZR o (sR (sN μ (.inr (0, 36))) o 0 (some (o + 1))) := Z0.sN K0
  have O1 : OLD o μ (sR (sN μ (.inr (0, 36))) o 0 (some (o + 1))) := (O0.sN K0 (by omega)).sR (by omega)
  refine w_newI (len := 36) hX hfr dX2_init_15 (by decide) rfl (by decide) (by rw [K1]; unfold scr; omega) ?_
  rw [K1]
  have S1 : (sN (sR (sN μ (.inr (0, 36))) o 0 (some (o + 1))) (.inr (0, 36))).1[o]? = some (.inl 2) := shO K1 (by omega) S0
  have A1 : (sN (sR (sN μ (.inr (0, 36))) o 0 (some (o + 1))) (.inr (0, 36))).1[o + 2]? = some (.inr (0, 36)) := shW K1
  have A0_1 : (sN (sR (sN μ (.inr (0, 36))) o 0 (some (o + 1))) (.inr (0, 36))).1[o + 1]? = some (.inr (0, 36)) := shO K1 (by omega) A0
  refine w_putRF hX hini dX2_init_17 fo_RX2_19 rfl rfl rfl S1 ?_
  refine w_aload_n (i := 0) hX dX2_init_20 rfl rfl ?_
  refine w_bipush hX dX2_init_21 kB_36 ?_
  have K2 : (sR (sN (sR (sN μ (.inr (0, 36))) o 0 (some (o + 1))) (.inr (0, 36))) o 1 (some (o + 2))).1.length = o + 3 := lnN K1
  have Z2 : ZR o (sR (sN (sR (sN μ (.inr (0, 36))) o 0 (some (o + 1))) (.inr (0, 36))) o 1 (some (o + 2))) := Z1.sN K1
  have O2 : OLD o μ (sR (sN (sR (sN μ (.inr (0, 36))) o 0 (some (o + 1))) (.inr (0, 36))) o 1 (some (o + 2))) := (O1.sN K1 (by omega)).sR (by omega)
  refine w_newI (len := 36) hX hfr dX2_init_23 (by decide) rfl (by decide) (by rw [K2]; unfold scr; omega) ?_
  rw [K2]
  have S2 : (sN (sR (sN (sR (sN μ (.inr (0, 36))) o 0 (some (o + 1))) (.inr (0, 36))) o 1 (some (o + 2))) (.inr (0, 36))).1[o]? = some (.inl 2) := shO K2 (by omega) S1
  have A2 : (sN (sR (sN (sR (sN μ (.inr (0, 36))) o 0 (some (o + 1))) (.inr (0, 36))) o 1 (some (o + 2))) (.inr (0, 36))).1[o + 3]? = some (.inr (0, 36)) := shW K2
  have A0_2 : (sN (sR (sN (sR (sN μ (.inr (0, 36))) o 0 (some (o + 1))) (.inr (0, 36))) o 1 (some (o + 2))) (.inr (0, 36))).1[o + 1]? = some (.inr (0, 36)) := shO K2 (by omega) A0_1
  have A1_2 : (sN (sR (sN (sR (sN μ (.inr (0, 36))) o 0 (some (o + 1))) (.inr (0, 36))) o 1 (some (o + 2))) (.inr (0, 36))).1[o + 2]? = some (.inr (0, 36)) := shO K2 (by omega) A1
  refine w_putRF hX hini dX2_init_25 fo_RX2_22 rfl rfl rfl S2 ?_
  refine w_aload_n (i := 0) hX dX2_init_28 rfl rfl ?_
  refine w_bipush hX dX2_init_29 kB_36 ?_
  have K3 : (sR (sN (sR (sN (sR (sN μ (.inr (0, 36))) o 0 (some (o + 1))) (.inr (0, 36))) o 1 (some (o + 2))) (.inr (0, 36))) o 2 (some (o + 3))).1.length = o + 4 := lnN K2
  have Z3 : ZR o (sR (sN (sR (sN (sR (sN μ (.inr (0, 36))) o 0 (some (o + 1))) (.inr (0, 36))) o 1 (some (o + 2))) (.inr (0, 36))) o 2 (some (o + 3))) := Z2.sN K2
  have O3 : OLD o μ (sR (sN (sR (sN (sR (sN μ (.inr (0, 36))) o 0 (some (o + 1))) (.inr (0, 36))) o 1 (some (o + 2))) (.inr (0, 36))) o 2 (some (o + 3))) := (O2.sN K2 (by omega)).sR (by omega)
  refine w_newI (len := 36) hX hfr dX2_init_31 (by decide) rfl (by decide) (by rw [K3]; unfold scr; omega) ?_
  rw [K3]
  have S3 : (sN (sR (sN (sR (sN (sR (sN μ (.inr (0, 36))) o 0 (some (o + 1))) (.inr (0, 36))) o 1 (some (o + 2))) (.inr (0, 36))) o 2 (some (o + 3))) (.inr (0, 36))).1[o]? = some (.inl 2) := shO K3 (by omega) S2
  have A3 : (sN (sR (sN (sR (sN (sR (sN μ (.inr (0, 36))) o 0 (some (o + 1))) (.inr (0, 36))) o 1 (some (o + 2))) (.inr (0, 36))) o 2 (some (o + 3))) (.inr (0, 36))).1[o + 4]? = some (.inr (0, 36)) := shW K3
  have A0_3 : (sN (sR (sN (sR (sN (sR (sN μ (.inr (0, 36))) o 0 (some (o + 1))) (.inr (0, 36))) o 1 (some (o + 2))) (.inr (0, 36))) o 2 (some (o + 3))) (.inr (0, 36))).1[o + 1]? = some (.inr (0, 36)) := shO K3 (by omega) A0_2
  have A1_3 : (sN (sR (sN (sR (sN (sR (sN μ (.inr (0, 36))) o 0 (some (o + 1))) (.inr (0, 36))) o 1 (some (o + 2))) (.inr (0, 36))) o 2 (some (o + 3))) (.inr (0, 36))).1[o + 2]? = some (.inr (0, 36)) := shO K3 (by omega) A1_2
  have A2_3 : (sN (sR (sN (sR (sN (sR (sN μ (.inr (0, 36))) o 0 (some (o + 1))) (.inr (0, 36))) o 1 (some (o + 2))) (.inr (0, 36))) o 2 (some (o + 3))) (.inr (0, 36))).1[o + 3]? = some (.inr (0, 36)) := shO K3 (by omega) A2
  refine w_putRF hX hini dX2_init_33 fo_RX2_25 rfl rfl rfl S3 ?_
  refine w_aload_n (i := 0) hX dX2_init_36 rfl rfl ?_
  refine w_iconst hX dX2_init_37 kI_m1 ?_
  refine w_putI hX dX2_init_38 fo_RX2_28 rfl rfl rfl rfl S3 ?_
  refine w_aload_n (i := 0) hX dX2_init_41 rfl rfl ?_
  refine w_iconst hX dX2_init_42 kI_m1 ?_
  refine w_putI hX dX2_init_43 fo_RX2_32 rfl rfl rfl rfl S3 ?_
  have hOB : isJn (sI (sI (sR (sN (sR (sN (sR (sN (sR (sN μ (.inr (0, 36))) o 0 (some (o + 1))) (.inr (0, 36))) o 1 (some (o + 2))) (.inr (0, 36))) o 2 (some (o + 3))) (.inr (0, 36))) o 3 (some (o + 4))) o 6 ((-1 : Int32))) o 7 ((-1 : Int32))) o := ⟨(show (sI (sI (sR (sN (sR (sN (sR (sN (sR (sN μ (.inr (0, 36))) o 0 (some (o + 1))) (.inr (0, 36))) o 1 (some (o + 2))) (.inr (0, 36))) o 2 (some (o + 3))) (.inr (0, 36))) o 3 (some (o + 4))) o 6 ((-1 : Int32))) o 7 ((-1 : Int32))).1[o]? = _ from S3), ⟨by rw [gR_sI, gR_sI, gR_ne (by omega), gR_old K3 (by omega), gR_ne (by omega), gR_old K2 (by omega), gR_ne (by omega), gR_old K1 (by omega), gR_same], A0_3⟩, ⟨by rw [gR_sI, gR_sI, gR_ne (by omega), gR_old K3 (by omega), gR_ne (by omega), gR_old K2 (by omega), gR_same], A1_3⟩, ⟨by rw [gR_sI, gR_sI, gR_ne (by omega), gR_old K3 (by omega), gR_same], A2_3⟩, ⟨by rw [gR_sI, gR_sI, gR_same], A3⟩⟩
  exact w_vret hX hE dX2_init_46 (Or.inl rfl) ⟨hOB, lnN K3, ((((((((((OLD.rf).sN K0 (by omega)).sR (by omega)).sN K1 (by omega)).sR (by omega)).sN K2 (by omega)).sR (by omega)).sN K3 (by omega)).sR (by omega)).sI (by omega)).sI (by omega), (((((((ZR.rf hl)).sN K0).sN K1).sN K2).sN K3).sI).sI, by rw [gI_nk (by omega), gI_same]⟩
