set_option maxHeartbeats 1000000 in
theorem s_c_clock (Γ : Gm) (μ : Mem) (hfr : Γ.2.2.2.2.2 = true) (o : Nat) (ho : o < 900000) (hl : μ.1.length = o + 1) (hs : μ.1[o]? = some (.inl 1)) (hzo : ∀ k, gI μ o k = nI 0) : SpV Γ MX1_init 1 1 12 [.ref o] μ (fun μ2 => isClk μ2 o ∧ μ2.1.length = o + 2 ∧ OLD o μ μ2 ∧ ZR o μ2 ∧ gI μ2 o 1 = nI 0) := by
  refine SpV.of okX1_init rfl [some (.ref o)] ⟨rfl, trivial⟩ (leb rfl) (leb rfl) (fun X hX hE hnm => ?_)
  have hini := hnm
  refine w_aload_n (i := 0) hX dX1_init_0 rfl rfl ?_
  refine w_objInit hX dX1_init_1 ol_RX1_3 (leb rfl) (leb rfl) ?_
  refine w_aload_n (i := 0) hX dX1_init_4 rfl rfl ?_
  refine w_bipush hX dX1_init_5 kB_12 ?_
  have K0 : μ.1.length = o + 1 := hl
  have Z0 : ZR o μ := (ZR.rf hl)
  have O0 : OLD o μ μ := OLD.rf
  refine w_newI (len := 12) hX hfr dX1_init_7 (by decide) rfl (by decide) (by rw [K0]; unfold scr; omega) ?_
  rw [K0]
  have S0 : (sN μ (.inr (0, 12))).1[o]? = some (.inl 1) := shO K0 (by omega) hs
  have A0 : (sN μ (.inr (0, 12))).1[o + 1]? = some (.inr (0, 12)) := shW K0
  refine w_putRF hX hini dX1_init_9 fo_RX1_11 rfl rfl rfl S0 ?_
  have hOB : isClk (sR (sN μ (.inr (0, 12))) o 0 (some (o + 1))) o := ⟨(show (sR (sN μ (.inr (0, 12))) o 0 (some (o + 1))).1[o]? = _ from S0), by rw [gR_same], A0⟩
  exact w_vret hX hE dX1_init_12 (Or.inl rfl) ⟨hOB, lnN K0, ((OLD.rf).sN K0 (by omega)).sR (by omega), ((ZR.rf hl)).sN K0, by rw [gI_sR, gI_old K0 (by omega)]; exact hzo 1⟩
theorem lt_scr {μ : Mem} {o n : Nat} (h : μ.1.length = o + 1 + n) (ho : o < 900000) (hn : n < 100) : μ.1.length < scr := by rw [h]; unfold scr; omega
theorem lt_a (o n : Nat) : o < o + 1 + n := by omega
/-- an object in the making: its arrays so far, its numbers -/
def INV (μ ν : Mem) (o ci : Nat) (fs : List (Nat × Nat × Nat)) (F : Nat → Int32) : Prop := ν.1.length = o + 1 + fs.length ∧ ν.1[o]? = some (.inl ci) ∧ (∀ i x, fs[i]? = some x → gR ν o x.1 = some (o + 1 + i) ∧ ν.1[o + 1 + i]? = some (.inr (x.2.1, x.2.2))) ∧ OLD o μ ν ∧ ZR o ν ∧ ∀ k, gI ν o k = F k
theorem INV.rf {μ : Mem} {o ci : Nat} (hl : μ.1.length = o + 1) (hs : μ.1[o]? = some (.inl ci)) (hz : ∀ k, gI μ o k = nI 0) : INV μ μ o ci [] (fun _ => nI 0) := ⟨hl, hs, fun i x h => by simp at h, OLD.rf, ZR.rf hl, hz⟩
theorem INV.step {μ ν M : Mem} {o ci f t l n : Nat} {fs : List (Nat × Nat × Nat)} {F : Nat → Int32} (h : INV μ ν o ci fs F) (hn : fs.length = n) (hsh : M.1 = (sN ν (.inr (t, l))).1) (hr : ∀ q k, gR M q k = gR (sN ν (.inr (t, l))) q k) (hgi : ∀ q k, gI M q k = gI (sN ν (.inr (t, l))) q k) (hgl : ∀ q k, q ≠ o + 1 + n → gL M q k = gL (sN ν (.inr (t, l))) q k) (hnew : ∀ x ∈ fs, x.1 ≠ f) : INV μ (sR M o f (some (o + 1 + n))) o ci (fs ++ [(f, t, l)]) F := by
  subst hn
  obtain ⟨h1, h2, h3, h4, h5, h6⟩ := h
  have hO : OLD o μ (sN ν (.inr (t, l))) := h4.sN h1 (by omega)
  have hZ : ZR o (sN ν (.inr (t, l))) := h5.sN h1
  refine ⟨?_, ?_, fun i x hx => ?_, ⟨?_, ?_, fun q k hq => ⟨?_, ?_, ?_⟩⟩, fun q k hq1 hq2 => ?_, fun k => ?_⟩
  · show M.1.length = _; rw [hsh, lnN h1, List.length_append]; rfl
  · show M.1[o]? = _; rw [hsh]; exact shO h1 (by omega) h2
  · by_cases e : i < fs.length
    · rw [List.getElem?_append_left e] at hx
      obtain ⟨a, b⟩ := h3 i x hx
      refine ⟨?_, ?_⟩
      · rw [gR_ne (fun e9 => hnew x (List.mem_of_getElem? hx) e9.2), hr, gR_old h1 (by omega)]; exact a
      · show M.1[o + 1 + i]? = _; rw [hsh]; exact shO h1 (by omega) b
    · have hi : i = fs.length := by
        have := (List.getElem?_eq_some_iff.mp hx).1
        rw [List.length_append] at this
        simp at this; omega
      subst hi
      rw [List.getElem?_append_right (Nat.le_refl _)] at hx
      simp at hx; subst hx
      exact ⟨gR_same, by show M.1[o + 1 + fs.length]? = _; rw [hsh]; exact shW h1⟩
  · intro q hq; show M.1[q]? = _; rw [hsh]; exact hO.1 q hq
  · show _ ≤ M.1.length; rw [hsh]; exact hO.2.1
  · show gI M q k = _; rw [hgi]; exact (hO.2.2 q k hq).1
  · show gL M q k = _; rw [hgl q k (by omega)]; exact (hO.2.2 q k hq).2.1
  · rw [gR_ne (by omega), hr]; exact (hO.2.2 q k hq).2.2
  · show gI M q k = _; rw [hgi]; exact hZ q k hq1 (by have h9 : q < M.1.length := hq2; rw [hsh] at h9; exact h9)
  · show gI M o k = _; rw [hgi, gI_old h1 (by omega)]; exact h6 k
theorem INV.sI {μ ν : Mem} {o ci k0 : Nat} {v : Int32} {fs : List (Nat × Nat × Nat)} {F : Nat → Int32} (h : INV μ ν o ci fs F) : INV μ (sI ν o k0 v) o ci fs (fun k => if k = k0 then v else F k) := by
  obtain ⟨h1, h2, h3, h4, h5, h6⟩ := h
  refine ⟨h1, h2, h3, h4.sI (Nat.le_refl _), h5.sI, fun k => ?_⟩
  by_cases e : k = k0
  · show _ = if k = k0 then v else F k; rw [if_pos e, e, gI_same]
  · show _ = if k = k0 then v else F k; rw [if_neg e, gI_nk e]; exact h6 k
set_option maxHeartbeats 2000000 in
theorem c9_280 {Γ : Gm} {X : Cx} {μ : Mem} {o : Nat} (hX : GX Γ X MX9_init.1.cls MX9_init.2.1 1) (hE : EndV Γ X μ.1.length 22 (fun μ2 => isMod μ2 o ∧ μ2.1.length = o + 1 + 22 ∧ OLD o μ μ2 ∧ ZR o μ2 ∧ gI μ2 o 2 = nI 0 ∧ gI μ2 o 16 = (-1 : Int32) ∧ ∀ k, k < 18 → gL μ2 (o + 5) k = lN (phi (kw k)))) (hini : X.2.2.2.2.2.2.2.1.name = "<init>") (hfr : Γ.2.2.2.2.2 = true) (ho : o < 900000) (ν : Mem) (F : Nat → Int32) (I : INV μ ν o 9 [(1, 0, 1000), (4, 0, 1002), (5, 0, 1002), (6, 1, 1002), (9, 1, 18), (10, 0, 2880), (11, 1, 32), (12, 0, 32), (13, 0, 32), (17, 0, 12), (20, 0, 12), (21, 0, 12), (22, 0, 144), (23, 0, 256), (24, 0, 8), (25, 0, 8), (26, 3, 25), (27, 0, 25)] F) (hF2 : F 2 = nI 0) (W : ∀ k, k < 18 → gL ν (o + 1 + 4) k = lN (phi (kw k))) (hF16 : F 16 = (-1 : Int32)) : WP Γ X 4 112 280 [some (.ref o)] [] ν := by
  refine w_aload_n (i := 0) hX dX9_init_280 rfl rfl ?_
  refine w_bipush hX dX9_init_281 kB_36 ?_
  have K18 : ν.1.length = o + 1 + 18 := I.1
  refine w_newI (len := 36) hX hfr dX9_init_283 (by decide) rfl (by decide) (lt_scr K18 ho (by decide)) ?_
  rw [K18]
  refine w_putRF hX hini dX9_init_285 fo_RX9_116 rfl rfl rfl (shO K18 (lt_a o _) I.2.1) ?_
  have J0 := I.step (M := sN ν (.inr (0, 36))) (f := 29) (t := 0) (l := 36) (n := 18) rfl rfl (fun _ _ => rfl) (fun _ _ => rfl) (fun _ _ _ => rfl) (by decide)
  have WJ0 : ∀ k, k < 18 → gL (sR (sN ν (.inr (0, 36))) o 29 (some (o + 1 + 18))) (o + 1 + 4) k = lN (phi (kw k)) := fun k hk => by rw [gL_sR, gL_old K18 (by omega)]; exact W k hk
  refine w_aload_n (i := 0) hX dX9_init_288 rfl rfl ?_
  refine w_bipush hX dX9_init_289 kB_36 ?_
  have K19 : (sR (sN ν (.inr (0, 36))) o 29 (some (o + 1 + 18))).1.length = o + 1 + 19 := J0.1
  refine w_newI (len := 36) hX hfr dX9_init_291 (by decide) rfl (by decide) (lt_scr K19 ho (by decide)) ?_
  rw [K19]
  refine w_putRF hX hini dX9_init_293 fo_RX9_119 rfl rfl rfl (shO K19 (lt_a o _) J0.2.1) ?_
  have J1 := J0.step (M := sN (sR (sN ν (.inr (0, 36))) o 29 (some (o + 1 + 18))) (.inr (0, 36))) (f := 30) (t := 0) (l := 36) (n := 19) rfl rfl (fun _ _ => rfl) (fun _ _ => rfl) (fun _ _ _ => rfl) (by decide)
  have WJ1 : ∀ k, k < 18 → gL (sR (sN (sR (sN ν (.inr (0, 36))) o 29 (some (o + 1 + 18))) (.inr (0, 36))) o 30 (some (o + 1 + 19))) (o + 1 + 4) k = lN (phi (kw k)) := fun k hk => by rw [gL_sR, gL_old K19 (by omega)]; exact WJ0 k hk
  refine w_aload_n (i := 0) hX dX9_init_296 rfl rfl ?_
  refine w_bipush hX dX9_init_297 kB_36 ?_
  have K20 : (sR (sN (sR (sN ν (.inr (0, 36))) o 29 (some (o + 1 + 18))) (.inr (0, 36))) o 30 (some (o + 1 + 19))).1.length = o + 1 + 20 := J1.1
  refine w_newI (len := 36) hX hfr dX9_init_299 (by decide) rfl (by decide) (lt_scr K20 ho (by decide)) ?_
  rw [K20]
  refine w_putRF hX hini dX9_init_301 fo_RX9_122 rfl rfl rfl (shO K20 (lt_a o _) J1.2.1) ?_
  have J2 := J1.step (M := sN (sR (sN (sR (sN ν (.inr (0, 36))) o 29 (some (o + 1 + 18))) (.inr (0, 36))) o 30 (some (o + 1 + 19))) (.inr (0, 36))) (f := 31) (t := 0) (l := 36) (n := 20) rfl rfl (fun _ _ => rfl) (fun _ _ => rfl) (fun _ _ _ => rfl) (by decide)
  have WJ2 : ∀ k, k < 18 → gL (sR (sN (sR (sN (sR (sN ν (.inr (0, 36))) o 29 (some (o + 1 + 18))) (.inr (0, 36))) o 30 (some (o + 1 + 19))) (.inr (0, 36))) o 31 (some (o + 1 + 20))) (o + 1 + 4) k = lN (phi (kw k)) := fun k hk => by rw [gL_sR, gL_old K20 (by omega)]; exact WJ1 k hk
  refine w_aload_n (i := 0) hX dX9_init_304 rfl rfl ?_
  refine w_iconst hX dX9_init_305 kI_4 ?_
  have K21 : (sR (sN (sR (sN (sR (sN ν (.inr (0, 36))) o 29 (some (o + 1 + 18))) (.inr (0, 36))) o 30 (some (o + 1 + 19))) (.inr (0, 36))) o 31 (some (o + 1 + 20))).1.length = o + 1 + 21 := J2.1
  refine w_newZ (len := 4) hX hfr dX9_init_306 (by decide) rfl (by decide) (lt_scr K21 ho (by decide)) ?_
  rw [K21]
  refine w_putRF hX hini dX9_init_308 fo_RX9_125 rfl rfl rfl (shO K21 (lt_a o _) J2.2.1) ?_
  have J3 := J2.step (M := sN (sR (sN (sR (sN (sR (sN ν (.inr (0, 36))) o 29 (some (o + 1 + 18))) (.inr (0, 36))) o 30 (some (o + 1 + 19))) (.inr (0, 36))) o 31 (some (o + 1 + 20))) (.inr (3, 4))) (f := 32) (t := 3) (l := 4) (n := 21) rfl rfl (fun _ _ => rfl) (fun _ _ => rfl) (fun _ _ _ => rfl) (by decide)
  have WJ3 : ∀ k, k < 18 → gL (sR (sN (sR (sN (sR (sN (sR (sN ν (.inr (0, 36))) o 29 (some (o + 1 + 18))) (.inr (0, 36))) o 30 (some (o + 1 + 19))) (.inr (0, 36))) o 31 (some (o + 1 + 20))) (.inr (3, 4))) o 32 (some (o + 1 + 21))) (o + 1 + 4) k = lN (phi (kw k)) := fun k hk => by rw [gL_sR, gL_old K21 (by omega)]; exact WJ2 k hk
  refine w_aload_n (i := 0) hX dX9_init_311 rfl rfl ?_
  refine w_iconst hX dX9_init_312 kI_0 ?_
  refine w_putI hX dX9_init_313 fo_RX9_1 rfl rfl rfl rfl J3.2.1 ?_
  have J4 := J3.sI (k0 := 0) (v := nI 0)
  have WJ4 : ∀ k, k < 18 → gL (sI (sR (sN (sR (sN (sR (sN (sR (sN ν (.inr (0, 36))) o 29 (some (o + 1 + 18))) (.inr (0, 36))) o 30 (some (o + 1 + 19))) (.inr (0, 36))) o 31 (some (o + 1 + 20))) (.inr (3, 4))) o 32 (some (o + 1 + 21))) o 0 (nI 0)) (o + 1 + 4) k = lN (phi (kw k)) := fun k hk => by rw [gL_sI]; exact WJ3 k hk
  exact w_vret hX hE dX9_init_316 (Or.inl rfl) ⟨⟨J4.2.1, J4.2.2.1 0 _ rfl, J4.2.2.1 1 _ rfl, J4.2.2.1 2 _ rfl, J4.2.2.1 3 _ rfl, J4.2.2.1 4 _ rfl, J4.2.2.1 5 _ rfl, J4.2.2.1 6 _ rfl, J4.2.2.1 7 _ rfl, J4.2.2.1 8 _ rfl, J4.2.2.1 9 _ rfl, J4.2.2.1 10 _ rfl, J4.2.2.1 11 _ rfl, J4.2.2.1 12 _ rfl, J4.2.2.1 13 _ rfl, J4.2.2.1 14 _ rfl, J4.2.2.1 15 _ rfl, J4.2.2.1 16 _ rfl, J4.2.2.1 17 _ rfl, J4.2.2.1 18 _ rfl, J4.2.2.1 19 _ rfl, J4.2.2.1 20 _ rfl, J4.2.2.1 21 _ rfl⟩, J4.1, J4.2.2.2.1, J4.2.2.2.2.1, (J4.2.2.2.2.2 2).trans ((if_neg (by decide)).trans hF2), (J4.2.2.2.2.2 16).trans ((if_neg (by decide)).trans hF16), WJ4⟩
set_option maxHeartbeats 2000000 in
theorem c9_239 {Γ : Gm} {X : Cx} {μ : Mem} {o : Nat} (hX : GX Γ X MX9_init.1.cls MX9_init.2.1 1) (hE : EndV Γ X μ.1.length 22 (fun μ2 => isMod μ2 o ∧ μ2.1.length = o + 1 + 22 ∧ OLD o μ μ2 ∧ ZR o μ2 ∧ gI μ2 o 2 = nI 0 ∧ gI μ2 o 16 = (-1 : Int32) ∧ ∀ k, k < 18 → gL μ2 (o + 5) k = lN (phi (kw k)))) (hini : X.2.2.2.2.2.2.2.1.name = "<init>") (hfr : Γ.2.2.2.2.2 = true) (ho : o < 900000) (ν : Mem) (F : Nat → Int32) (I : INV μ ν o 9 [(1, 0, 1000), (4, 0, 1002), (5, 0, 1002), (6, 1, 1002), (9, 1, 18), (10, 0, 2880), (11, 1, 32), (12, 0, 32), (13, 0, 32), (17, 0, 12), (20, 0, 12), (21, 0, 12), (22, 0, 144)] F) (hF2 : F 2 = nI 0) (W : ∀ k, k < 18 → gL ν (o + 1 + 4) k = lN (phi (kw k))) (hF16 : F 16 = (-1 : Int32)) : WP Γ X 9 434 239 [some (.ref o)] [] ν := by
  refine w_aload_n (i := 0) hX dX9_init_239 rfl rfl ?_
  refine w_sipush hX dX9_init_240 kS_256 ?_
  have K13 : ν.1.length = o + 1 + 13 := I.1
  refine w_newI (len := 256) hX hfr dX9_init_243 (by decide) rfl (by decide) (lt_scr K13 ho (by decide)) ?_
  rw [K13]
  refine w_putRF hX hini dX9_init_245 fo_RX9_100 rfl rfl rfl (shO K13 (lt_a o _) I.2.1) ?_
  have J0 := I.step (M := sN ν (.inr (0, 256))) (f := 23) (t := 0) (l := 256) (n := 13) rfl rfl (fun _ _ => rfl) (fun _ _ => rfl) (fun _ _ _ => rfl) (by decide)
  have WJ0 : ∀ k, k < 18 → gL (sR (sN ν (.inr (0, 256))) o 23 (some (o + 1 + 13))) (o + 1 + 4) k = lN (phi (kw k)) := fun k hk => by rw [gL_sR, gL_old K13 (by omega)]; exact W k hk
  refine w_aload_n (i := 0) hX dX9_init_248 rfl rfl ?_
  refine w_bipush hX dX9_init_249 kB_8 ?_
  have K14 : (sR (sN ν (.inr (0, 256))) o 23 (some (o + 1 + 13))).1.length = o + 1 + 14 := J0.1
  refine w_newI (len := 8) hX hfr dX9_init_251 (by decide) rfl (by decide) (lt_scr K14 ho (by decide)) ?_
  rw [K14]
  refine w_putRF hX hini dX9_init_253 fo_RX9_103 rfl rfl rfl (shO K14 (lt_a o _) J0.2.1) ?_
  have J1 := J0.step (M := sN (sR (sN ν (.inr (0, 256))) o 23 (some (o + 1 + 13))) (.inr (0, 8))) (f := 24) (t := 0) (l := 8) (n := 14) rfl rfl (fun _ _ => rfl) (fun _ _ => rfl) (fun _ _ _ => rfl) (by decide)
  have WJ1 : ∀ k, k < 18 → gL (sR (sN (sR (sN ν (.inr (0, 256))) o 23 (some (o + 1 + 13))) (.inr (0, 8))) o 24 (some (o + 1 + 14))) (o + 1 + 4) k = lN (phi (kw k)) := fun k hk => by rw [gL_sR, gL_old K14 (by omega)]; exact WJ0 k hk
  refine w_aload_n (i := 0) hX dX9_init_256 rfl rfl ?_
  refine w_bipush hX dX9_init_257 kB_8 ?_
  have K15 : (sR (sN (sR (sN ν (.inr (0, 256))) o 23 (some (o + 1 + 13))) (.inr (0, 8))) o 24 (some (o + 1 + 14))).1.length = o + 1 + 15 := J1.1
  refine w_newI (len := 8) hX hfr dX9_init_259 (by decide) rfl (by decide) (lt_scr K15 ho (by decide)) ?_
  rw [K15]
  refine w_putRF hX hini dX9_init_261 fo_RX9_106 rfl rfl rfl (shO K15 (lt_a o _) J1.2.1) ?_
  have J2 := J1.step (M := sN (sR (sN (sR (sN ν (.inr (0, 256))) o 23 (some (o + 1 + 13))) (.inr (0, 8))) o 24 (some (o + 1 + 14))) (.inr (0, 8))) (f := 25) (t := 0) (l := 8) (n := 15) rfl rfl (fun _ _ => rfl) (fun _ _ => rfl) (fun _ _ _ => rfl) (by decide)
  have WJ2 : ∀ k, k < 18 → gL (sR (sN (sR (sN (sR (sN ν (.inr (0, 256))) o 23 (some (o + 1 + 13))) (.inr (0, 8))) o 24 (some (o + 1 + 14))) (.inr (0, 8))) o 25 (some (o + 1 + 15))) (o + 1 + 4) k = lN (phi (kw k)) := fun k hk => by rw [gL_sR, gL_old K15 (by omega)]; exact WJ1 k hk
  refine w_aload_n (i := 0) hX dX9_init_264 rfl rfl ?_
  refine w_bipush hX dX9_init_265 kB_25 ?_
  have K16 : (sR (sN (sR (sN (sR (sN ν (.inr (0, 256))) o 23 (some (o + 1 + 13))) (.inr (0, 8))) o 24 (some (o + 1 + 14))) (.inr (0, 8))) o 25 (some (o + 1 + 15))).1.length = o + 1 + 16 := J2.1
  refine w_newZ (len := 25) hX hfr dX9_init_267 (by decide) rfl (by decide) (lt_scr K16 ho (by decide)) ?_
  rw [K16]
  refine w_putRF hX hini dX9_init_269 fo_RX9_109 rfl rfl rfl (shO K16 (lt_a o _) J2.2.1) ?_
  have J3 := J2.step (M := sN (sR (sN (sR (sN (sR (sN ν (.inr (0, 256))) o 23 (some (o + 1 + 13))) (.inr (0, 8))) o 24 (some (o + 1 + 14))) (.inr (0, 8))) o 25 (some (o + 1 + 15))) (.inr (3, 25))) (f := 26) (t := 3) (l := 25) (n := 16) rfl rfl (fun _ _ => rfl) (fun _ _ => rfl) (fun _ _ _ => rfl) (by decide)
  have WJ3 : ∀ k, k < 18 → gL (sR (sN (sR (sN (sR (sN (sR (sN ν (.inr (0, 256))) o 23 (some (o + 1 + 13))) (.inr (0, 8))) o 24 (some (o + 1 + 14))) (.inr (0, 8))) o 25 (some (o + 1 + 15))) (.inr (3, 25))) o 26 (some (o + 1 + 16))) (o + 1 + 4) k = lN (phi (kw k)) := fun k hk => by rw [gL_sR, gL_old K16 (by omega)]; exact WJ2 k hk
  refine w_aload_n (i := 0) hX dX9_init_272 rfl rfl ?_
  refine w_bipush hX dX9_init_273 kB_25 ?_
  have K17 : (sR (sN (sR (sN (sR (sN (sR (sN ν (.inr (0, 256))) o 23 (some (o + 1 + 13))) (.inr (0, 8))) o 24 (some (o + 1 + 14))) (.inr (0, 8))) o 25 (some (o + 1 + 15))) (.inr (3, 25))) o 26 (some (o + 1 + 16))).1.length = o + 1 + 17 := J3.1
  refine w_newI (len := 25) hX hfr dX9_init_275 (by decide) rfl (by decide) (lt_scr K17 ho (by decide)) ?_
  rw [K17]
  refine w_putRF hX hini dX9_init_277 fo_RX9_113 rfl rfl rfl (shO K17 (lt_a o _) J3.2.1) ?_
  have J4 := J3.step (M := sN (sR (sN (sR (sN (sR (sN (sR (sN ν (.inr (0, 256))) o 23 (some (o + 1 + 13))) (.inr (0, 8))) o 24 (some (o + 1 + 14))) (.inr (0, 8))) o 25 (some (o + 1 + 15))) (.inr (3, 25))) o 26 (some (o + 1 + 16))) (.inr (0, 25))) (f := 27) (t := 0) (l := 25) (n := 17) rfl rfl (fun _ _ => rfl) (fun _ _ => rfl) (fun _ _ _ => rfl) (by decide)
  have WJ4 : ∀ k, k < 18 → gL (sR (sN (sR (sN (sR (sN (sR (sN (sR (sN ν (.inr (0, 256))) o 23 (some (o + 1 + 13))) (.inr (0, 8))) o 24 (some (o + 1 + 14))) (.inr (0, 8))) o 25 (some (o + 1 + 15))) (.inr (3, 25))) o 26 (some (o + 1 + 16))) (.inr (0, 25))) o 27 (some (o + 1 + 17))) (o + 1 + 4) k = lN (phi (kw k)) := fun k hk => by rw [gL_sR, gL_old K17 (by omega)]; exact WJ3 k hk
  exact c9_280 hX hE hini hfr ho _ _ J4 hF2 WJ4 hF16
set_option maxHeartbeats 2000000 in
theorem c9_206 {Γ : Gm} {X : Cx} {μ : Mem} {o : Nat} (hX : GX Γ X MX9_init.1.cls MX9_init.2.1 1) (hE : EndV Γ X μ.1.length 22 (fun μ2 => isMod μ2 o ∧ μ2.1.length = o + 1 + 22 ∧ OLD o μ μ2 ∧ ZR o μ2 ∧ gI μ2 o 2 = nI 0 ∧ gI μ2 o 16 = (-1 : Int32) ∧ ∀ k, k < 18 → gL μ2 (o + 5) k = lN (phi (kw k)))) (hini : X.2.2.2.2.2.2.2.1.name = "<init>") (hfr : Γ.2.2.2.2.2 = true) (ho : o < 900000) (ν : Mem) (F : Nat → Int32) (I : INV μ ν o 9 [(1, 0, 1000), (4, 0, 1002), (5, 0, 1002), (6, 1, 1002), (9, 1, 18), (10, 0, 2880), (11, 1, 32), (12, 0, 32), (13, 0, 32)] F) (hF2 : F 2 = nI 0) (W : ∀ k, k < 18 → gL ν (o + 1 + 4) k = lN (phi (kw k))) (hF16 : F 16 = (-1 : Int32)) : WP Γ X 13 614 206 [some (.ref o)] [] ν := by
  refine w_aload_n (i := 0) hX dX9_init_206 rfl rfl ?_
  refine w_bipush hX dX9_init_207 kB_12 ?_
  have K9 : ν.1.length = o + 1 + 9 := I.1
  refine w_newI (len := 12) hX hfr dX9_init_209 (by decide) rfl (by decide) (lt_scr K9 ho (by decide)) ?_
  rw [K9]
  refine w_putRF hX hini dX9_init_211 fo_RX9_88 rfl rfl rfl (shO K9 (lt_a o _) I.2.1) ?_
  have J0 := I.step (M := sN ν (.inr (0, 12))) (f := 17) (t := 0) (l := 12) (n := 9) rfl rfl (fun _ _ => rfl) (fun _ _ => rfl) (fun _ _ _ => rfl) (by decide)
  have WJ0 : ∀ k, k < 18 → gL (sR (sN ν (.inr (0, 12))) o 17 (some (o + 1 + 9))) (o + 1 + 4) k = lN (phi (kw k)) := fun k hk => by rw [gL_sR, gL_old K9 (by omega)]; exact W k hk
  refine w_aload_n (i := 0) hX dX9_init_214 rfl rfl ?_
  refine w_bipush hX dX9_init_215 kB_12 ?_
  have K10 : (sR (sN ν (.inr (0, 12))) o 17 (some (o + 1 + 9))).1.length = o + 1 + 10 := J0.1
  refine w_newI (len := 12) hX hfr dX9_init_217 (by decide) rfl (by decide) (lt_scr K10 ho (by decide)) ?_
  rw [K10]
  refine w_putRF hX hini dX9_init_219 fo_RX9_91 rfl rfl rfl (shO K10 (lt_a o _) J0.2.1) ?_
  have J1 := J0.step (M := sN (sR (sN ν (.inr (0, 12))) o 17 (some (o + 1 + 9))) (.inr (0, 12))) (f := 20) (t := 0) (l := 12) (n := 10) rfl rfl (fun _ _ => rfl) (fun _ _ => rfl) (fun _ _ _ => rfl) (by decide)
  have WJ1 : ∀ k, k < 18 → gL (sR (sN (sR (sN ν (.inr (0, 12))) o 17 (some (o + 1 + 9))) (.inr (0, 12))) o 20 (some (o + 1 + 10))) (o + 1 + 4) k = lN (phi (kw k)) := fun k hk => by rw [gL_sR, gL_old K10 (by omega)]; exact WJ0 k hk
  refine w_aload_n (i := 0) hX dX9_init_222 rfl rfl ?_
  refine w_bipush hX dX9_init_223 kB_12 ?_
  have K11 : (sR (sN (sR (sN ν (.inr (0, 12))) o 17 (some (o + 1 + 9))) (.inr (0, 12))) o 20 (some (o + 1 + 10))).1.length = o + 1 + 11 := J1.1
  refine w_newI (len := 12) hX hfr dX9_init_225 (by decide) rfl (by decide) (lt_scr K11 ho (by decide)) ?_
  rw [K11]
  refine w_putRF hX hini dX9_init_227 fo_RX9_94 rfl rfl rfl (shO K11 (lt_a o _) J1.2.1) ?_
  have J2 := J1.step (M := sN (sR (sN (sR (sN ν (.inr (0, 12))) o 17 (some (o + 1 + 9))) (.inr (0, 12))) o 20 (some (o + 1 + 10))) (.inr (0, 12))) (f := 21) (t := 0) (l := 12) (n := 11) rfl rfl (fun _ _ => rfl) (fun _ _ => rfl) (fun _ _ _ => rfl) (by decide)
  have WJ2 : ∀ k, k < 18 → gL (sR (sN (sR (sN (sR (sN ν (.inr (0, 12))) o 17 (some (o + 1 + 9))) (.inr (0, 12))) o 20 (some (o + 1 + 10))) (.inr (0, 12))) o 21 (some (o + 1 + 11))) (o + 1 + 4) k = lN (phi (kw k)) := fun k hk => by rw [gL_sR, gL_old K11 (by omega)]; exact WJ1 k hk
  refine w_aload_n (i := 0) hX dX9_init_230 rfl rfl ?_
  refine w_sipush hX dX9_init_231 kS_144 ?_
  have K12 : (sR (sN (sR (sN (sR (sN ν (.inr (0, 12))) o 17 (some (o + 1 + 9))) (.inr (0, 12))) o 20 (some (o + 1 + 10))) (.inr (0, 12))) o 21 (some (o + 1 + 11))).1.length = o + 1 + 12 := J2.1
  refine w_newI (len := 144) hX hfr dX9_init_234 (by decide) rfl (by decide) (lt_scr K12 ho (by decide)) ?_
  rw [K12]
  refine w_putRF hX hini dX9_init_236 fo_RX9_97 rfl rfl rfl (shO K12 (lt_a o _) J2.2.1) ?_
  have J3 := J2.step (M := sN (sR (sN (sR (sN (sR (sN ν (.inr (0, 12))) o 17 (some (o + 1 + 9))) (.inr (0, 12))) o 20 (some (o + 1 + 10))) (.inr (0, 12))) o 21 (some (o + 1 + 11))) (.inr (0, 144))) (f := 22) (t := 0) (l := 144) (n := 12) rfl rfl (fun _ _ => rfl) (fun _ _ => rfl) (fun _ _ _ => rfl) (by decide)
  have WJ3 : ∀ k, k < 18 → gL (sR (sN (sR (sN (sR (sN (sR (sN ν (.inr (0, 12))) o 17 (some (o + 1 + 9))) (.inr (0, 12))) o 20 (some (o + 1 + 10))) (.inr (0, 12))) o 21 (some (o + 1 + 11))) (.inr (0, 144))) o 22 (some (o + 1 + 12))) (o + 1 + 4) k = lN (phi (kw k)) := fun k hk => by rw [gL_sR, gL_old K12 (by omega)]; exact WJ2 k hk
  exact c9_239 hX hE hini hfr ho _ _ J3 hF2 WJ3 hF16
set_option maxHeartbeats 2000000 in
theorem c9_168 {Γ : Gm} {X : Cx} {μ : Mem} {o : Nat} (hX : GX Γ X MX9_init.1.cls MX9_init.2.1 1) (hE : EndV Γ X μ.1.length 22 (fun μ2 => isMod μ2 o ∧ μ2.1.length = o + 1 + 22 ∧ OLD o μ μ2 ∧ ZR o μ2 ∧ gI μ2 o 2 = nI 0 ∧ gI μ2 o 16 = (-1 : Int32) ∧ ∀ k, k < 18 → gL μ2 (o + 5) k = lN (phi (kw k)))) (hini : X.2.2.2.2.2.2.2.1.name = "<init>") (hfr : Γ.2.2.2.2.2 = true) (ho : o < 900000) (ν : Mem) (F : Nat → Int32) (I : INV μ ν o 9 [(1, 0, 1000), (4, 0, 1002), (5, 0, 1002), (6, 1, 1002), (9, 1, 18)] F) (hF2 : F 2 = nI 0) (W : ∀ k, k < 18 → gL ν (o + 1 + 4) k = lN (phi (kw k))) : WP Γ X 17 3590 168 [some (.ref o)] [] ν := by
  refine w_aload_n (i := 0) hX dX9_init_168 rfl rfl ?_
  refine w_sipush hX dX9_init_169 kS_2880 ?_
  have K5 : ν.1.length = o + 1 + 5 := I.1
  refine w_newI (len := 2880) hX hfr dX9_init_172 (by decide) rfl (by decide) (lt_scr K5 ho (by decide)) ?_
  rw [K5]
  refine w_putRF hX hini dX9_init_174 fo_RX9_73 rfl rfl rfl (shO K5 (lt_a o _) I.2.1) ?_
  have J0 := I.step (M := sN ν (.inr (0, 2880))) (f := 10) (t := 0) (l := 2880) (n := 5) rfl rfl (fun _ _ => rfl) (fun _ _ => rfl) (fun _ _ _ => rfl) (by decide)
  have WJ0 : ∀ k, k < 18 → gL (sR (sN ν (.inr (0, 2880))) o 10 (some (o + 1 + 5))) (o + 1 + 4) k = lN (phi (kw k)) := fun k hk => by rw [gL_sR, gL_old K5 (by omega)]; exact W k hk
  refine w_aload_n (i := 0) hX dX9_init_177 rfl rfl ?_
  refine w_bipush hX dX9_init_178 kB_32 ?_
  have K6 : (sR (sN ν (.inr (0, 2880))) o 10 (some (o + 1 + 5))).1.length = o + 1 + 6 := J0.1
  refine w_newL (len := 32) hX hfr dX9_init_180 (by decide) rfl (by decide) (lt_scr K6 ho (by decide)) ?_
  rw [K6]
  refine w_putRF hX hini dX9_init_182 fo_RX9_76 rfl rfl rfl (shO K6 (lt_a o _) J0.2.1) ?_
  have J1 := J0.step (M := sN (sR (sN ν (.inr (0, 2880))) o 10 (some (o + 1 + 5))) (.inr (1, 32))) (f := 11) (t := 1) (l := 32) (n := 6) rfl rfl (fun _ _ => rfl) (fun _ _ => rfl) (fun _ _ _ => rfl) (by decide)
  have WJ1 : ∀ k, k < 18 → gL (sR (sN (sR (sN ν (.inr (0, 2880))) o 10 (some (o + 1 + 5))) (.inr (1, 32))) o 11 (some (o + 1 + 6))) (o + 1 + 4) k = lN (phi (kw k)) := fun k hk => by rw [gL_sR, gL_old K6 (by omega)]; exact WJ0 k hk
  refine w_aload_n (i := 0) hX dX9_init_185 rfl rfl ?_
  refine w_bipush hX dX9_init_186 kB_32 ?_
  have K7 : (sR (sN (sR (sN ν (.inr (0, 2880))) o 10 (some (o + 1 + 5))) (.inr (1, 32))) o 11 (some (o + 1 + 6))).1.length = o + 1 + 7 := J1.1
  refine w_newI (len := 32) hX hfr dX9_init_188 (by decide) rfl (by decide) (lt_scr K7 ho (by decide)) ?_
  rw [K7]
  refine w_putRF hX hini dX9_init_190 fo_RX9_79 rfl rfl rfl (shO K7 (lt_a o _) J1.2.1) ?_
  have J2 := J1.step (M := sN (sR (sN (sR (sN ν (.inr (0, 2880))) o 10 (some (o + 1 + 5))) (.inr (1, 32))) o 11 (some (o + 1 + 6))) (.inr (0, 32))) (f := 12) (t := 0) (l := 32) (n := 7) rfl rfl (fun _ _ => rfl) (fun _ _ => rfl) (fun _ _ _ => rfl) (by decide)
  have WJ2 : ∀ k, k < 18 → gL (sR (sN (sR (sN (sR (sN ν (.inr (0, 2880))) o 10 (some (o + 1 + 5))) (.inr (1, 32))) o 11 (some (o + 1 + 6))) (.inr (0, 32))) o 12 (some (o + 1 + 7))) (o + 1 + 4) k = lN (phi (kw k)) := fun k hk => by rw [gL_sR, gL_old K7 (by omega)]; exact WJ1 k hk
  refine w_aload_n (i := 0) hX dX9_init_193 rfl rfl ?_
  refine w_bipush hX dX9_init_194 kB_32 ?_
  have K8 : (sR (sN (sR (sN (sR (sN ν (.inr (0, 2880))) o 10 (some (o + 1 + 5))) (.inr (1, 32))) o 11 (some (o + 1 + 6))) (.inr (0, 32))) o 12 (some (o + 1 + 7))).1.length = o + 1 + 8 := J2.1
  refine w_newI (len := 32) hX hfr dX9_init_196 (by decide) rfl (by decide) (lt_scr K8 ho (by decide)) ?_
  rw [K8]
  refine w_putRF hX hini dX9_init_198 fo_RX9_82 rfl rfl rfl (shO K8 (lt_a o _) J2.2.1) ?_
  have J3 := J2.step (M := sN (sR (sN (sR (sN (sR (sN ν (.inr (0, 2880))) o 10 (some (o + 1 + 5))) (.inr (1, 32))) o 11 (some (o + 1 + 6))) (.inr (0, 32))) o 12 (some (o + 1 + 7))) (.inr (0, 32))) (f := 13) (t := 0) (l := 32) (n := 8) rfl rfl (fun _ _ => rfl) (fun _ _ => rfl) (fun _ _ _ => rfl) (by decide)
  have WJ3 : ∀ k, k < 18 → gL (sR (sN (sR (sN (sR (sN (sR (sN ν (.inr (0, 2880))) o 10 (some (o + 1 + 5))) (.inr (1, 32))) o 11 (some (o + 1 + 6))) (.inr (0, 32))) o 12 (some (o + 1 + 7))) (.inr (0, 32))) o 13 (some (o + 1 + 8))) (o + 1 + 4) k = lN (phi (kw k)) := fun k hk => by rw [gL_sR, gL_old K8 (by omega)]; exact WJ2 k hk
  refine w_aload_n (i := 0) hX dX9_init_201 rfl rfl ?_
  refine w_iconst hX dX9_init_202 kI_m1 ?_
  refine w_putI hX dX9_init_203 fo_RX9_85 rfl rfl rfl rfl J3.2.1 ?_
  have J4 := J3.sI (k0 := 16) (v := (-1 : Int32))
  have WJ4 : ∀ k, k < 18 → gL (sI (sR (sN (sR (sN (sR (sN (sR (sN ν (.inr (0, 2880))) o 10 (some (o + 1 + 5))) (.inr (1, 32))) o 11 (some (o + 1 + 6))) (.inr (0, 32))) o 12 (some (o + 1 + 7))) (.inr (0, 32))) o 13 (some (o + 1 + 8))) o 16 ((-1 : Int32))) (o + 1 + 4) k = lN (phi (kw k)) := fun k hk => by rw [gL_sI]; exact WJ3 k hk
  exact c9_206 hX hE hini hfr ho _ _ J4 ((if_neg (by decide)).trans hF2) WJ4 (if_pos rfl)
set_option maxHeartbeats 2000000 in
theorem c9_40 {Γ : Gm} {X : Cx} {μ : Mem} {o : Nat} (hX : GX Γ X MX9_init.1.cls MX9_init.2.1 1) (hE : EndV Γ X μ.1.length 22 (fun μ2 => isMod μ2 o ∧ μ2.1.length = o + 1 + 22 ∧ OLD o μ μ2 ∧ ZR o μ2 ∧ gI μ2 o 2 = nI 0 ∧ gI μ2 o 16 = (-1 : Int32) ∧ ∀ k, k < 18 → gL μ2 (o + 5) k = lN (phi (kw k)))) (hini : X.2.2.2.2.2.2.2.1.name = "<init>") (hfr : Γ.2.2.2.2.2 = true) (ho : o < 900000) (ν : Mem) (F : Nat → Int32) (I : INV μ ν o 9 [(1, 0, 1000), (4, 0, 1002), (5, 0, 1002), (6, 1, 1002)] F) (hF2 : F 2 = nI 0) : WP Γ X 18 3608 40 [some (.ref o)] [] ν := by
  refine w_aload_n (i := 0) hX dX9_init_40 rfl rfl ?_
  refine w_bipush hX dX9_init_41 kB_18 ?_
  have K4 : ν.1.length = o + 1 + 4 := I.1
  refine w_newL (len := 18) hX hfr dX9_init_43 (by decide) rfl (by decide) (lt_scr K4 ho (by decide)) ?_
  rw [K4]
  refine w_dup hX dX9_init_45 rfl ?_
  refine w_iconst hX dX9_init_46 kI_0 ?_
  refine w_ldc2 hX dX9_init_47 kl_RX9_34 ?_
  refine w_lastN hX dX9_init_50 (shW K4) (by omega) (by omega) ?_
  refine w_dup hX dX9_init_51 rfl ?_
  refine w_iconst hX dX9_init_52 kI_1 ?_
  refine w_ldc2 hX dX9_init_53 kl_RX9_36 ?_
  refine w_lastN hX dX9_init_56 (shW K4) (by omega) (by omega) ?_
  refine w_dup hX dX9_init_57 rfl ?_
  refine w_iconst hX dX9_init_58 kI_2 ?_
  refine w_ldc2 hX dX9_init_59 kl_RX9_38 ?_
  refine w_lastN hX dX9_init_62 (shW K4) (by omega) (by omega) ?_
  refine w_dup hX dX9_init_63 rfl ?_
  refine w_iconst hX dX9_init_64 kI_3 ?_
  refine w_ldc2 hX dX9_init_65 kl_RX9_40 ?_
  refine w_lastN hX dX9_init_68 (shW K4) (by omega) (by omega) ?_
  refine w_dup hX dX9_init_69 rfl ?_
  refine w_iconst hX dX9_init_70 kI_4 ?_
  refine w_ldc2 hX dX9_init_71 kl_RX9_42 ?_
  refine w_lastN hX dX9_init_74 (shW K4) (by omega) (by omega) ?_
  refine w_dup hX dX9_init_75 rfl ?_
  refine w_iconst hX dX9_init_76 kI_5 ?_
  refine w_ldc2 hX dX9_init_77 kl_RX9_44 ?_
  refine w_lastN hX dX9_init_80 (shW K4) (by omega) (by omega) ?_
  refine w_dup hX dX9_init_81 rfl ?_
  refine w_bipush hX dX9_init_82 kB_6 ?_
  refine w_ldc2 hX dX9_init_84 kl_RX9_46 ?_
  refine w_lastN hX dX9_init_87 (shW K4) (by omega) (by omega) ?_
  refine w_dup hX dX9_init_88 rfl ?_
  refine w_bipush hX dX9_init_89 kB_7 ?_
  refine w_ldc2 hX dX9_init_91 kl_RX9_48 ?_
  refine w_lastN hX dX9_init_94 (shW K4) (by omega) (by omega) ?_
  refine w_dup hX dX9_init_95 rfl ?_
  refine w_bipush hX dX9_init_96 kB_8 ?_
  refine w_ldc2 hX dX9_init_98 kl_RX9_50 ?_
  refine w_lastN hX dX9_init_101 (shW K4) (by omega) (by omega) ?_
  refine w_dup hX dX9_init_102 rfl ?_
  refine w_bipush hX dX9_init_103 kB_9 ?_
  refine w_ldc2 hX dX9_init_105 kl_RX9_52 ?_
  refine w_lastN hX dX9_init_108 (shW K4) (by omega) (by omega) ?_
  refine w_dup hX dX9_init_109 rfl ?_
  refine w_bipush hX dX9_init_110 kB_10 ?_
  refine w_ldc2 hX dX9_init_112 kl_RX9_54 ?_
  refine w_lastN hX dX9_init_115 (shW K4) (by omega) (by omega) ?_
  refine w_dup hX dX9_init_116 rfl ?_
  refine w_bipush hX dX9_init_117 kB_11 ?_
  refine w_ldc2 hX dX9_init_119 kl_RX9_56 ?_
  refine w_lastN hX dX9_init_122 (shW K4) (by omega) (by omega) ?_
  refine w_dup hX dX9_init_123 rfl ?_
  refine w_bipush hX dX9_init_124 kB_12 ?_
  refine w_ldc2 hX dX9_init_126 kl_RX9_58 ?_
  refine w_lastN hX dX9_init_129 (shW K4) (by omega) (by omega) ?_
  refine w_dup hX dX9_init_130 rfl ?_
  refine w_bipush hX dX9_init_131 kB_13 ?_
  refine w_ldc2 hX dX9_init_133 kl_RX9_60 ?_
  refine w_lastN hX dX9_init_136 (shW K4) (by omega) (by omega) ?_
  refine w_dup hX dX9_init_137 rfl ?_
  refine w_bipush hX dX9_init_138 kB_14 ?_
  refine w_ldc2 hX dX9_init_140 kl_RX9_62 ?_
  refine w_lastN hX dX9_init_143 (shW K4) (by omega) (by omega) ?_
  refine w_dup hX dX9_init_144 rfl ?_
  refine w_bipush hX dX9_init_145 kB_15 ?_
  refine w_ldc2 hX dX9_init_147 kl_RX9_64 ?_
  refine w_lastN hX dX9_init_150 (shW K4) (by omega) (by omega) ?_
  refine w_dup hX dX9_init_151 rfl ?_
  refine w_bipush hX dX9_init_152 kB_16 ?_
  refine w_ldc2 hX dX9_init_154 kl_RX9_66 ?_
  refine w_lastN hX dX9_init_157 (shW K4) (by omega) (by omega) ?_
  refine w_dup hX dX9_init_158 rfl ?_
  refine w_bipush hX dX9_init_159 kB_17 ?_
  refine w_ldc2 hX dX9_init_161 kl_RX9_68 ?_
  refine w_lastN hX dX9_init_164 (shW K4) (by omega) (by omega) ?_
  refine w_putRF hX hini dX9_init_165 fo_RX9_70 rfl rfl rfl (shO K4 (lt_a o _) I.2.1) ?_
  have J0 := I.step (M := sL (sL (sL (sL (sL (sL (sL (sL (sL (sL (sL (sL (sL (sL (sL (sL (sL (sL (sN ν (.inr (1, 18))) (o + 1 + 4) 0 ((1034460 : Int64))) (o + 1 + 4) 1 ((102797 : Int64))) (o + 1 + 4) 2 ((57 : Int64))) (o + 1 + 4) 3 ((31549 : Int64))) (o + 1 + 4) 4 ((1186231 : Int64))) (o + 1 + 4) 5 ((5538 : Int64))) (o + 1 + 4) 6 ((329128 : Int64))) (o + 1 + 4) 7 ((755 : Int64))) (o + 1 + 4) 8 ((628896 : Int64))) (o + 1 + 4) 9 ((43890888 : Int64))) (o + 1 + 4) 10 ((1119812451 : Int64))) (o + 1 + 4) 11 ((426554 : Int64))) (o + 1 + 4) 12 ((30059336 : Int64))) (o + 1 + 4) 13 ((347 : Int64))) (o + 1 + 4) 14 ((11726208 : Int64))) (o + 1 + 4) 15 ((1327079004 : Int64))) (o + 1 + 4) 16 ((2205662 : Int64))) (o + 1 + 4) 17 ((1612802819 : Int64))) (f := 9) (t := 1) (l := 18) (n := 4) rfl rfl (fun _ _ => rfl) (fun _ _ => rfl) (fun q k hq => by rw [gL_ne (fun e => hq e.1), gL_ne (fun e => hq e.1), gL_ne (fun e => hq e.1), gL_ne (fun e => hq e.1), gL_ne (fun e => hq e.1), gL_ne (fun e => hq e.1), gL_ne (fun e => hq e.1), gL_ne (fun e => hq e.1), gL_ne (fun e => hq e.1), gL_ne (fun e => hq e.1), gL_ne (fun e => hq e.1), gL_ne (fun e => hq e.1), gL_ne (fun e => hq e.1), gL_ne (fun e => hq e.1), gL_ne (fun e => hq e.1), gL_ne (fun e => hq e.1), gL_ne (fun e => hq e.1), gL_ne (fun e => hq e.1)]) (by decide)
  have WJ0 : ∀ k, k < 18 → gL (sR (sL (sL (sL (sL (sL (sL (sL (sL (sL (sL (sL (sL (sL (sL (sL (sL (sL (sL (sN ν (.inr (1, 18))) (o + 1 + 4) 0 ((1034460 : Int64))) (o + 1 + 4) 1 ((102797 : Int64))) (o + 1 + 4) 2 ((57 : Int64))) (o + 1 + 4) 3 ((31549 : Int64))) (o + 1 + 4) 4 ((1186231 : Int64))) (o + 1 + 4) 5 ((5538 : Int64))) (o + 1 + 4) 6 ((329128 : Int64))) (o + 1 + 4) 7 ((755 : Int64))) (o + 1 + 4) 8 ((628896 : Int64))) (o + 1 + 4) 9 ((43890888 : Int64))) (o + 1 + 4) 10 ((1119812451 : Int64))) (o + 1 + 4) 11 ((426554 : Int64))) (o + 1 + 4) 12 ((30059336 : Int64))) (o + 1 + 4) 13 ((347 : Int64))) (o + 1 + 4) 14 ((11726208 : Int64))) (o + 1 + 4) 15 ((1327079004 : Int64))) (o + 1 + 4) 16 ((2205662 : Int64))) (o + 1 + 4) 17 ((1612802819 : Int64))) o 9 (some (o + 1 + 4))) (o + 1 + 4) k = lN (phi (kw k)) := by
    intro k hk
    rw [gL_sR, ← km_ok k hk]
    rcases (show k = 0 ∨ k = 1 ∨ k = 2 ∨ k = 3 ∨ k = 4 ∨ k = 5 ∨ k = 6 ∨ k = 7 ∨ k = 8 ∨ k = 9 ∨ k = 10 ∨ k = 11 ∨ k = 12 ∨ k = 13 ∨ k = 14 ∨ k = 15 ∨ k = 16 ∨ k = 17 by omega) with rfl | rfl | rfl | rfl | rfl | rfl | rfl | rfl | rfl | rfl | rfl | rfl | rfl | rfl | rfl | rfl | rfl | rfl
    · rw [gL_ne (fun e => by omega), gL_ne (fun e => by omega), gL_ne (fun e => by omega), gL_ne (fun e => by omega), gL_ne (fun e => by omega), gL_ne (fun e => by omega), gL_ne (fun e => by omega), gL_ne (fun e => by omega), gL_ne (fun e => by omega), gL_ne (fun e => by omega), gL_ne (fun e => by omega), gL_ne (fun e => by omega), gL_ne (fun e => by omega), gL_ne (fun e => by omega), gL_ne (fun e => by omega), gL_ne (fun e => by omega), gL_ne (fun e => by omega), gL_same]; rfl
    · rw [gL_ne (fun e => by omega), gL_ne (fun e => by omega), gL_ne (fun e => by omega), gL_ne (fun e => by omega), gL_ne (fun e => by omega), gL_ne (fun e => by omega), gL_ne (fun e => by omega), gL_ne (fun e => by omega), gL_ne (fun e => by omega), gL_ne (fun e => by omega), gL_ne (fun e => by omega), gL_ne (fun e => by omega), gL_ne (fun e => by omega), gL_ne (fun e => by omega), gL_ne (fun e => by omega), gL_ne (fun e => by omega), gL_same]; rfl
    · rw [gL_ne (fun e => by omega), gL_ne (fun e => by omega), gL_ne (fun e => by omega), gL_ne (fun e => by omega), gL_ne (fun e => by omega), gL_ne (fun e => by omega), gL_ne (fun e => by omega), gL_ne (fun e => by omega), gL_ne (fun e => by omega), gL_ne (fun e => by omega), gL_ne (fun e => by omega), gL_ne (fun e => by omega), gL_ne (fun e => by omega), gL_ne (fun e => by omega), gL_ne (fun e => by omega), gL_same]; rfl
    · rw [gL_ne (fun e => by omega), gL_ne (fun e => by omega), gL_ne (fun e => by omega), gL_ne (fun e => by omega), gL_ne (fun e => by omega), gL_ne (fun e => by omega), gL_ne (fun e => by omega), gL_ne (fun e => by omega), gL_ne (fun e => by omega), gL_ne (fun e => by omega), gL_ne (fun e => by omega), gL_ne (fun e => by omega), gL_ne (fun e => by omega), gL_ne (fun e => by omega), gL_same]; rfl
    · rw [gL_ne (fun e => by omega), gL_ne (fun e => by omega), gL_ne (fun e => by omega), gL_ne (fun e => by omega), gL_ne (fun e => by omega), gL_ne (fun e => by omega), gL_ne (fun e => by omega), gL_ne (fun e => by omega), gL_ne (fun e => by omega), gL_ne (fun e => by omega), gL_ne (fun e => by omega), gL_ne (fun e => by omega), gL_ne (fun e => by omega), gL_same]; rfl
    · rw [gL_ne (fun e => by omega), gL_ne (fun e => by omega), gL_ne (fun e => by omega), gL_ne (fun e => by omega), gL_ne (fun e => by omega), gL_ne (fun e => by omega), gL_ne (fun e => by omega), gL_ne (fun e => by omega), gL_ne (fun e => by omega), gL_ne (fun e => by omega), gL_ne (fun e => by omega), gL_ne (fun e => by omega), gL_same]; rfl
    · rw [gL_ne (fun e => by omega), gL_ne (fun e => by omega), gL_ne (fun e => by omega), gL_ne (fun e => by omega), gL_ne (fun e => by omega), gL_ne (fun e => by omega), gL_ne (fun e => by omega), gL_ne (fun e => by omega), gL_ne (fun e => by omega), gL_ne (fun e => by omega), gL_ne (fun e => by omega), gL_same]; rfl
    · rw [gL_ne (fun e => by omega), gL_ne (fun e => by omega), gL_ne (fun e => by omega), gL_ne (fun e => by omega), gL_ne (fun e => by omega), gL_ne (fun e => by omega), gL_ne (fun e => by omega), gL_ne (fun e => by omega), gL_ne (fun e => by omega), gL_ne (fun e => by omega), gL_same]; rfl
    · rw [gL_ne (fun e => by omega), gL_ne (fun e => by omega), gL_ne (fun e => by omega), gL_ne (fun e => by omega), gL_ne (fun e => by omega), gL_ne (fun e => by omega), gL_ne (fun e => by omega), gL_ne (fun e => by omega), gL_ne (fun e => by omega), gL_same]; rfl
    · rw [gL_ne (fun e => by omega), gL_ne (fun e => by omega), gL_ne (fun e => by omega), gL_ne (fun e => by omega), gL_ne (fun e => by omega), gL_ne (fun e => by omega), gL_ne (fun e => by omega), gL_ne (fun e => by omega), gL_same]; rfl
    · rw [gL_ne (fun e => by omega), gL_ne (fun e => by omega), gL_ne (fun e => by omega), gL_ne (fun e => by omega), gL_ne (fun e => by omega), gL_ne (fun e => by omega), gL_ne (fun e => by omega), gL_same]; rfl
    · rw [gL_ne (fun e => by omega), gL_ne (fun e => by omega), gL_ne (fun e => by omega), gL_ne (fun e => by omega), gL_ne (fun e => by omega), gL_ne (fun e => by omega), gL_same]; rfl
    · rw [gL_ne (fun e => by omega), gL_ne (fun e => by omega), gL_ne (fun e => by omega), gL_ne (fun e => by omega), gL_ne (fun e => by omega), gL_same]; rfl
    · rw [gL_ne (fun e => by omega), gL_ne (fun e => by omega), gL_ne (fun e => by omega), gL_ne (fun e => by omega), gL_same]; rfl
    · rw [gL_ne (fun e => by omega), gL_ne (fun e => by omega), gL_ne (fun e => by omega), gL_same]; rfl
    · rw [gL_ne (fun e => by omega), gL_ne (fun e => by omega), gL_same]; rfl
    · rw [gL_ne (fun e => by omega), gL_same]; rfl
    · rw [gL_same]; rfl
  exact c9_168 hX hE hini hfr ho _ _ J0 hF2 WJ0
set_option maxHeartbeats 2000000 in
theorem c9_0 {Γ : Gm} {X : Cx} {μ : Mem} {o : Nat} (hX : GX Γ X MX9_init.1.cls MX9_init.2.1 1) (hE : EndV Γ X μ.1.length 22 (fun μ2 => isMod μ2 o ∧ μ2.1.length = o + 1 + 22 ∧ OLD o μ μ2 ∧ ZR o μ2 ∧ gI μ2 o 2 = nI 0 ∧ gI μ2 o 16 = (-1 : Int32) ∧ ∀ k, k < 18 → gL μ2 (o + 5) k = lN (phi (kw k)))) (hini : X.2.2.2.2.2.2.2.1.name = "<init>") (hfr : Γ.2.2.2.2.2 = true) (ho : o < 900000) (ν : Mem) (F : Nat → Int32) (I : INV μ ν o 9 [] F) (hF2 : F 2 = nI 0) : WP Γ X 22 7614 0 [some (.ref o)] [] ν := by
  refine w_aload_n (i := 0) hX dX9_init_0 rfl rfl ?_
  refine w_objInit hX dX9_init_1 ol_RX9_18 (leb rfl) (leb rfl) ?_
  refine w_aload_n (i := 0) hX dX9_init_4 rfl rfl ?_
  refine w_sipush hX dX9_init_5 kS_1000 ?_
  have K0 : ν.1.length = o + 1 + 0 := I.1
  refine w_newI (len := 1000) hX hfr dX9_init_8 (by decide) rfl (by decide) (lt_scr K0 ho (by decide)) ?_
  rw [K0]
  refine w_putRF hX hini dX9_init_10 fo_RX9_14 rfl rfl rfl (shO K0 (lt_a o _) I.2.1) ?_
  have J0 := I.step (M := sN ν (.inr (0, 1000))) (f := 1) (t := 0) (l := 1000) (n := 0) rfl rfl (fun _ _ => rfl) (fun _ _ => rfl) (fun _ _ _ => rfl) (by decide)
  refine w_aload_n (i := 0) hX dX9_init_13 rfl rfl ?_
  refine w_sipush hX dX9_init_14 kS_1002 ?_
  have K1 : (sR (sN ν (.inr (0, 1000))) o 1 (some (o + 1 + 0))).1.length = o + 1 + 1 := J0.1
  refine w_newI (len := 1002) hX hfr dX9_init_17 (by decide) rfl (by decide) (lt_scr K1 ho (by decide)) ?_
  rw [K1]
  refine w_putRF hX hini dX9_init_19 fo_RX9_24 rfl rfl rfl (shO K1 (lt_a o _) J0.2.1) ?_
  have J1 := J0.step (M := sN (sR (sN ν (.inr (0, 1000))) o 1 (some (o + 1 + 0))) (.inr (0, 1002))) (f := 4) (t := 0) (l := 1002) (n := 1) rfl rfl (fun _ _ => rfl) (fun _ _ => rfl) (fun _ _ _ => rfl) (by decide)
  refine w_aload_n (i := 0) hX dX9_init_22 rfl rfl ?_
  refine w_sipush hX dX9_init_23 kS_1002 ?_
  have K2 : (sR (sN (sR (sN ν (.inr (0, 1000))) o 1 (some (o + 1 + 0))) (.inr (0, 1002))) o 4 (some (o + 1 + 1))).1.length = o + 1 + 2 := J1.1
  refine w_newI (len := 1002) hX hfr dX9_init_26 (by decide) rfl (by decide) (lt_scr K2 ho (by decide)) ?_
  rw [K2]
  refine w_putRF hX hini dX9_init_28 fo_RX9_27 rfl rfl rfl (shO K2 (lt_a o _) J1.2.1) ?_
  have J2 := J1.step (M := sN (sR (sN (sR (sN ν (.inr (0, 1000))) o 1 (some (o + 1 + 0))) (.inr (0, 1002))) o 4 (some (o + 1 + 1))) (.inr (0, 1002))) (f := 5) (t := 0) (l := 1002) (n := 2) rfl rfl (fun _ _ => rfl) (fun _ _ => rfl) (fun _ _ _ => rfl) (by decide)
  refine w_aload_n (i := 0) hX dX9_init_31 rfl rfl ?_
  refine w_sipush hX dX9_init_32 kS_1002 ?_
  have K3 : (sR (sN (sR (sN (sR (sN ν (.inr (0, 1000))) o 1 (some (o + 1 + 0))) (.inr (0, 1002))) o 4 (some (o + 1 + 1))) (.inr (0, 1002))) o 5 (some (o + 1 + 2))).1.length = o + 1 + 3 := J2.1
  refine w_newL (len := 1002) hX hfr dX9_init_35 (by decide) rfl (by decide) (lt_scr K3 ho (by decide)) ?_
  rw [K3]
  refine w_putRF hX hini dX9_init_37 fo_RX9_30 rfl rfl rfl (shO K3 (lt_a o _) J2.2.1) ?_
  have J3 := J2.step (M := sN (sR (sN (sR (sN (sR (sN ν (.inr (0, 1000))) o 1 (some (o + 1 + 0))) (.inr (0, 1002))) o 4 (some (o + 1 + 1))) (.inr (0, 1002))) o 5 (some (o + 1 + 2))) (.inr (1, 1002))) (f := 6) (t := 1) (l := 1002) (n := 3) rfl rfl (fun _ _ => rfl) (fun _ _ => rfl) (fun _ _ _ => rfl) (by decide)
  exact c9_40 hX hE hini hfr ho _ _ J3 hF2
set_option maxHeartbeats 1000000 in
theorem s_c_model (Γ : Gm) (μ : Mem) (hfr : Γ.2.2.2.2.2 = true) (o : Nat) (ho : o < 900000) (hl : μ.1.length = o + 1) (hs : μ.1[o]? = some (.inl 9)) (hzo : ∀ k, gI μ o k = nI 0) : SpV Γ MX9_init 1 22 7614 [.ref o] μ (fun μ2 => isMod μ2 o ∧ μ2.1.length = o + 1 + 22 ∧ OLD o μ μ2 ∧ ZR o μ2 ∧ gI μ2 o 2 = nI 0 ∧ gI μ2 o 16 = (-1 : Int32) ∧ ∀ k, k < 18 → gL μ2 (o + 5) k = lN (phi (kw k))) := by
  refine SpV.of okX9_init rfl [some (.ref o)] ⟨rfl, trivial⟩ (leb rfl) (leb rfl) (fun X hX hE hnm => ?_)
  exact c9_0 hX hE hnm hfr ho μ _ (INV.rf hl hs hzo) rfl
