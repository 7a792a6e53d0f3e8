/-! the law's script -/
def SCR (Γ : Gm) (X : Cx) (L : Nat) (xs : Nat → Int32) : Prop := match X with
  | (p, e, R, s, m, args, below, meth, c, Q) => va_X (Γ.2.2.2.2.1 0) L xs s s.heap ∧ Γ.2.2.2.2.1 0 < s.heap.size ∧ Γ.2.2.2.2.1 0 < Γ.2.2.2.1
theorem gad_scr (Γ : Gm) : gad Γ scr = Γ.2.2.2.2.1 0 := by unfold gad; rw [if_pos (Nat.le_refl _), Nat.sub_self]
section Scr
variable {Γ : Gm} {X : Cx} {own : String} {cc : ByteArray} {d k n pc L : Nat} {xs : Nat → Int32} {ls : List (Option Value)} {rest : List Value} {μ : Mem}
theorem w_sld (hX : GX Γ X own cc d) (hC : SCR Γ X L xs) {i : Int32} (hin : vp_in i L) (hd : decode cc pc = .ok (.iaload, 1)) (kk : WP Γ X k n (pc + 1) ls (.int (xs i.toNatClampNeg) :: rest) μ) : WP Γ X k n pc ls (.int i :: .ref scr :: rest) μ := by
  obtain ⟨p, e, R, s, m, args, below, meth, c, Q⟩ := X
  obtain ⟨hx, hb, ho, ht, hK, hE, hb0, hf, hlo⟩ := hX
  obtain ⟨hC1, hC2, hC3⟩ := hC
  intro H locs cells slots a h1 h2 hP hS hz hn hl
  have e9 : (Value.int i :: Value.ref scr :: rest).map (grv Γ) = .int i :: .ref (Γ.2.2.2.2.1 0) :: rest.map (grv Γ) := by
    show Value.int i :: Value.ref (gad Γ scr) :: rest.map (grv Γ) = _; rw [gad_scr]
  rw [e9]
  exact va_sld hx hb hC1 hC2 (fun h => absurd h (Nat.not_le.mpr hC3)) hS hin hd (kk H locs cells slots a h1 h2 hP hS hz hn hl)
theorem w_slen (hX : GX Γ X own cc d) (hC : SCR Γ X L xs) (hd : decode cc pc = .ok (.arraylength, 1)) (kk : WP Γ X k n (pc + 1) ls (.int (Int32.ofNat L) :: rest) μ) : WP Γ X k n pc ls (.ref scr :: rest) μ := by
  obtain ⟨p, e, R, s, m, args, below, meth, c, Q⟩ := X
  obtain ⟨hx, hb, ho, ht, hK, hE, hb0, hf, hlo⟩ := hX
  obtain ⟨hC1, hC2, hC3⟩ := hC
  intro H locs cells slots a h1 h2 hP hS hz hn hl
  have e9 : (Value.ref scr :: rest).map (grv Γ) = .ref (Γ.2.2.2.2.1 0) :: rest.map (grv Γ) := by
    show Value.ref (gad Γ scr) :: rest.map (grv Γ) = _; rw [gad_scr]
  rw [e9]
  exact va_slen hx hb hC1 hC2 (fun h => absurd h (Nat.not_le.mpr hC3)) hS hd (kk H locs cells slots a h1 h2 hP hS hz hn hl)
theorem SCR.off (h : SCR Γ X L xs) : SCR (offG Γ) X L xs := h
end Scr
