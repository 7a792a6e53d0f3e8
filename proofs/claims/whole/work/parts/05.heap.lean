theorem gcel_obj {Γ : Gm} {μ : Mem} {o ci : Nat} (h : μ.1[o]? = some (.inl ci)) : gcel Γ μ o = .inr (ci, gfs Γ μ o ci) := by
  unfold gcel
  rw [h]
theorem gcel_arr {Γ : Gm} {μ : Mem} {o t n : Nat} (h : μ.1[o]? = some (.inr (t, n))) : gcel Γ μ o = .inl (Γ.2.2.1 t, n, garr Γ μ o t) := by
  unfold gcel
  rw [h]
theorem gfs_at {Γ : Gm} {μ : Mem} {o ci k : Nat} (h : k < nfX ci) : (gfs Γ μ o ci)[k]? = some (fval Γ μ o ci k) := by simp [gfs, h]
theorem gfs_len {Γ : Gm} {μ : Mem} {o ci : Nat} : (gfs Γ μ o ci).length = nfX ci := by simp [gfs]
def cRX (ci : Nat) : String := (vwCl.getD ci ("", TX0, 0)).1
def cTX (ci : Nat) : u_T := (vwCl.getD ci ("", TX0, 0)).2.1
theorem vwCl_at {ci : Nat} (h : ci < 10) : vwCl[ci]? = some (cRX ci, cTX ci, nfX ci) := by
  have h2 : ci < vwCl.length := h
  rw [List.getElem?_eq_getElem h2]
  simp only [cRX, cTX, nfX, List.getD_eq_getElem?_getD, List.getElem?_eq_getElem h2, Option.getD_some]
/-- a field's link -/
def FOK (own : String) (ix ci f : Nat) : Prop := ci < 10 ∧ f < nfX ci ∧ (∀ w ∈ u_ws (cRX ci) (cTX ci) (nfX ci), w ∈ gG) ∧ Cond.fieldLink own ix (cTX ci f).1 (cTX ci f).2.1 (cTX ci f).2.2.1 ∈ gG ∧ (∀ j, j < nfX ci → parseFieldDescriptor (cTX ci j).2.2.1 = some (tyX ci j)) ∧ (∀ a, a < nfX ci → ∀ b, b < nfX ci → a ≠ b → (cTX ci a).2.1 ≠ (cTX ci b).2.1)
theorem gfs_setI {Γ : Gm} {μ : Mem} {o ci f : Nat} {v : Int32} (hk : fkn ci f = 0) : gfs Γ (sI μ o f v) o ci = (gfs Γ μ o ci).set f (.int v) := by
  apply List.ext_getElem?
  intro i
  by_cases hi : i < nfX ci
  · rw [gfs_at hi]
    by_cases hf : f = i
    · subst hf
      rw [List.getElem?_set_self (by rw [gfs_len]; exact hi)]
      simp [fval, hk, gI, sI]
    · rw [List.getElem?_set_ne hf, gfs_at hi]
      have hf' : ¬ i = f := fun e => hf e.symm
      simp [fval, gI, gL, gR, sI, hf']
  · rw [List.getElem?_eq_none (by rw [gfs_len]; omega), List.getElem?_eq_none (by rw [List.length_set, gfs_len]; omega)]
theorem gfs_setL {Γ : Gm} {μ : Mem} {o ci f : Nat} {v : Int64} (hk : fkn ci f = 1) : gfs Γ (sL μ o f v) o ci = (gfs Γ μ o ci).set f (.long v) := by
  apply List.ext_getElem?
  intro i
  by_cases hi : i < nfX ci
  · rw [gfs_at hi]
    by_cases hf : f = i
    · subst hf
      rw [List.getElem?_set_self (by rw [gfs_len]; exact hi)]
      simp [fval, hk, gL, sL]
    · rw [List.getElem?_set_ne hf, gfs_at hi]
      have hf' : ¬ i = f := fun e => hf e.symm
      simp [fval, gI, gL, gR, sL, hf']
  · rw [List.getElem?_eq_none (by rw [gfs_len]; omega), List.getElem?_eq_none (by rw [List.length_set, gfs_len]; omega)]
theorem gfs_setR {Γ : Gm} {μ : Mem} {o ci f : Nat} {v : Option Nat} (hk : fkn ci f = 2) : gfs Γ (sR μ o f v) o ci = (gfs Γ μ o ci).set f (va_rf (v.map (gad Γ))) := by
  apply List.ext_getElem?
  intro i
  by_cases hi : i < nfX ci
  · rw [gfs_at hi]
    by_cases hf : f = i
    · subst hf
      rw [List.getElem?_set_self (by rw [gfs_len]; exact hi)]
      simp [fval, hk, gR, sR]
    · rw [List.getElem?_set_ne hf, gfs_at hi]
      have hf' : ¬ i = f := fun e => hf e.symm
      simp [fval, gI, gL, gR, sR, hf']
  · rw [List.getElem?_eq_none (by rw [gfs_len]; omega), List.getElem?_eq_none (by rw [List.length_set, gfs_len]; omega)]
theorem gcel_congr {Γ : Gm} {μ μ' : Mem} {j : Nat} (h1 : μ'.1 = μ.1) (hI : gI μ' j = gI μ j) (hL : gL μ' j = gL μ j) (hR : gR μ' j = gR μ j) : gcel Γ μ' j = gcel Γ μ j := by
  have fv : fval Γ μ' j = fval Γ μ j := by
    funext ci k
    simp only [fval, hI, hL, hR]
  have gv : garr Γ μ' j = garr Γ μ j := by
    funext t
    simp only [garr, hI, hL, hR]
  simp only [gcel, gfs, fv, gv, h1]
theorem gcel_neI {Γ : Gm} {μ : Mem} {o f j : Nat} {v : Int32} (h : j ≠ o) : gcel Γ (sI μ o f v) j = gcel Γ μ j :=
  gcel_congr rfl (by funext b; simp [gI, sI, h]) rfl rfl
theorem gcel_neL {Γ : Gm} {μ : Mem} {o f j : Nat} {v : Int64} (h : j ≠ o) : gcel Γ (sL μ o f v) j = gcel Γ μ j :=
  gcel_congr rfl rfl (by funext b; simp [gL, sL, h]) rfl
theorem gcel_neR {Γ : Gm} {μ : Mem} {o f j : Nat} {v : Option Nat} (h : j ≠ o) : gcel Γ (sR μ o f v) j = gcel Γ μ j :=
  gcel_congr rfl rfl rfl (by funext b; simp [gR, sR, h])
section HeapRules
variable {Γ : Gm} {X : Cx} {own : String} {cc : ByteArray} {d k n pc : Nat} {ls : List (Option Value)} {rest : List Value} {μ : Mem} {ix ci f o : Nat}
theorem w_getI (hX : GX Γ X own cc d) (hd : decode cc pc = .ok (.getfield ix, 3)) (hF : FOK own ix ci f) (hk : fkn ci f = 0) (hs : μ.1[o]? = some (.inl ci)) (kk : WP Γ X k n (pc + 3) ls (.int (gI μ o f) :: rest) μ) : WP Γ X k n pc ls (.ref o :: rest) μ := by
  obtain ⟨p, e, R, s, m, args, below, meth, c, Q⟩ := X
  obtain ⟨hx, hb, ho, ht, hK, hE, hb0, hf, hlo⟩ := hX
  obtain ⟨hc, hkN, hin, hlk, hty, hnm⟩ := hF
  intro H locs cells slots a h1 h2 hP hS hz hn hl
  have he := gws_at (Γ := Γ) (List.getElem?_eq_some_iff.mp hs).1
  rw [gcel_obj hs] at he
  exact va_get (D := Γ.2.1) (ci := ci) (v := .int (gI μ o f)) hx hb ht hin ho hK hP o he (vwCl_at hc) f hkN (ht _ hlk) (fun _ h => h) (by rw [gfs_at hkN]; simp [fval, hk]) hd (kk H locs cells slots a h1 h2 hP hS hz hn hl)
theorem w_getL (hX : GX Γ X own cc d) (hd : decode cc pc = .ok (.getfield ix, 3)) (hF : FOK own ix ci f) (hk : fkn ci f = 1) (hs : μ.1[o]? = some (.inl ci)) (kk : WP Γ X k n (pc + 3) ls (.long (gL μ o f) :: rest) μ) : WP Γ X k n pc ls (.ref o :: rest) μ := by
  obtain ⟨p, e, R, s, m, args, below, meth, c, Q⟩ := X
  obtain ⟨hx, hb, ho, ht, hK, hE, hb0, hf, hlo⟩ := hX
  obtain ⟨hc, hkN, hin, hlk, hty, hnm⟩ := hF
  intro H locs cells slots a h1 h2 hP hS hz hn hl
  have he := gws_at (Γ := Γ) (List.getElem?_eq_some_iff.mp hs).1
  rw [gcel_obj hs] at he
  exact va_get (D := Γ.2.1) (ci := ci) (v := .long (gL μ o f)) hx hb ht hin ho hK hP o he (vwCl_at hc) f hkN (ht _ hlk) (fun _ h => h) (by rw [gfs_at hkN]; simp [fval, hk]) hd (kk H locs cells slots a h1 h2 hP hS hz hn hl)
theorem w_getR (hX : GX Γ X own cc d) {q : Nat} (hd : decode cc pc = .ok (.getfield ix, 3)) (hF : FOK own ix ci f) (hk : fkn ci f = 2) (hs : μ.1[o]? = some (.inl ci)) (hr : gR μ o f = some q) (kk : WP Γ X k n (pc + 3) ls (.ref q :: rest) μ) : WP Γ X k n pc ls (.ref o :: rest) μ := by
  obtain ⟨p, e, R, s, m, args, below, meth, c, Q⟩ := X
  obtain ⟨hx, hb, ho, ht, hK, hE, hb0, hf, hlo⟩ := hX
  obtain ⟨hc, hkN, hin, hlk, hty, hnm⟩ := hF
  intro H locs cells slots a h1 h2 hP hS hz hn hl
  have he := gws_at (Γ := Γ) (List.getElem?_eq_some_iff.mp hs).1
  rw [gcel_obj hs] at he
  exact va_get (D := Γ.2.1) (ci := ci) (v := .ref (gad Γ q)) hx hb ht hin ho hK hP o he (vwCl_at hc) f hkN (ht _ hlk) (fun _ h => h) (by rw [gfs_at hkN]; simp [fval, hk, hr, va_rf]) hd (kk H locs cells slots a h1 h2 hP hS hz hn hl)
theorem w_putI (hX : GX Γ X own cc d) {v : Int32} (hd : decode cc pc = .ok (.putfield ix, 3)) (hF : FOK own ix ci f) (hk : fkn ci f = 0) (hfin : (cTX ci f).2.2.2 = false) (hnw : narrow (tyX ci f) (.int v) = .int v) (hft : fits (tyX ci f) (.int v) = true) (hs : μ.1[o]? = some (.inl ci)) (kk : WP Γ X k n (pc + 3) ls rest (sI μ o f v)) : WP Γ X k n pc ls (.int v :: .ref o :: rest) μ := by
  obtain ⟨p, e, R, s, m, args, below, meth, c, Q⟩ := X
  obtain ⟨hx, hb, ho, ht, hK, hE, hb0, hf, hlo⟩ := hX
  obtain ⟨hc, hkN, hin, hlk, hty, hnm⟩ := hF
  intro H locs cells slots a h1 h2 hP hS hz hn hl
  have he := gws_at (Γ := Γ) (List.getElem?_eq_some_iff.mp hs).1
  rw [gcel_obj hs] at he
  refine va_put (D := Γ.2.1) (ci := ci) (v := .int v) hx hb ht hin (tyX ci) hty hnm ho hK hP (gws_D hn) hS o he (vwCl_at hc) f hkN (ht _ hlk) (fun _ h => h) hfin (hty f hkN) hnw hft (by rw [gfs_len]; exact hkN) hd (fun H1 locs1 hP1 _ hS1 => ?_)
  rw [gws_set (Γ := Γ) (μ := μ) (o := o) (μ' := sI μ o f v) rfl (by rw [gcel_obj (μ := sI μ o f v) hs, gfs_setI hk]) (fun j hj => gcel_neI hj)] at hP1
  exact kk H1 locs1 cells slots a h1 h2 hP1 hS1 hz hn hl
theorem w_putL (hX : GX Γ X own cc d) {v : Int64} (hd : decode cc pc = .ok (.putfield ix, 3)) (hF : FOK own ix ci f) (hk : fkn ci f = 1) (hfin : (cTX ci f).2.2.2 = false) (hty2 : tyX ci f = .long) (hs : μ.1[o]? = some (.inl ci)) (kk : WP Γ X k n (pc + 3) ls rest (sL μ o f v)) : WP Γ X k n pc ls (.long v :: .ref o :: rest) μ := by
  obtain ⟨p, e, R, s, m, args, below, meth, c, Q⟩ := X
  obtain ⟨hx, hb, ho, ht, hK, hE, hb0, hf, hlo⟩ := hX
  obtain ⟨hc, hkN, hin, hlk, hty, hnm⟩ := hF
  intro H locs cells slots a h1 h2 hP hS hz hn hl
  have he := gws_at (Γ := Γ) (List.getElem?_eq_some_iff.mp hs).1
  rw [gcel_obj hs] at he
  refine va_put (D := Γ.2.1) (ci := ci) (v := .long v) hx hb ht hin (tyX ci) hty hnm ho hK hP (gws_D hn) hS o he (vwCl_at hc) f hkN (ht _ hlk) (fun _ h => h) hfin (hty f hkN) (by rw [hty2]; rfl) (by rw [hty2]; rfl) (by rw [gfs_len]; exact hkN) hd (fun H1 locs1 hP1 _ hS1 => ?_)
  rw [gws_set (Γ := Γ) (μ := μ) (o := o) (μ' := sL μ o f v) rfl (by rw [gcel_obj (μ := sL μ o f v) hs, gfs_setL hk]) (fun j hj => gcel_neL hj)] at hP1
  exact kk H1 locs1 cells slots a h1 h2 hP1 hS1 hz hn hl
theorem ref_fit {ty : FieldType} (h : (∃ C, ty = .object C) ∨ ∃ t, ty = .array t) (a : Nat) : narrow ty (.ref a) = .ref a ∧ fits ty (.ref a) = true := by
  rcases h with ⟨C, rfl⟩ | ⟨t, rfl⟩ <;> exact ⟨rfl, rfl⟩
theorem fkn_ref (h : fkn ci f = 2) : (∃ C, tyX ci f = .object C) ∨ ∃ t, tyX ci f = .array t := by
  unfold fkn at h
  split at h
  · cases h
  · rename_i C hC; exact Or.inl ⟨C, hC⟩
  · rename_i t hC; exact Or.inr ⟨t, hC⟩
  · cases h
theorem w_putR (hX : GX Γ X own cc d) {v : Nat} (hd : decode cc pc = .ok (.putfield ix, 3)) (hF : FOK own ix ci f) (hk : fkn ci f = 2) (hfin : (cTX ci f).2.2.2 = false) (hs : μ.1[o]? = some (.inl ci)) (kk : WP Γ X k n (pc + 3) ls rest (sR μ o f (some v))) : WP Γ X k n pc ls (.ref v :: .ref o :: rest) μ := by
  obtain ⟨p, e, R, s, m, args, below, meth, c, Q⟩ := X
  obtain ⟨hx, hb, ho, ht, hK, hE, hb0, hf, hlo⟩ := hX
  obtain ⟨hc, hkN, hin, hlk, hty, hnm⟩ := hF
  intro H locs cells slots a h1 h2 hP hS hz hn hl
  have he := gws_at (Γ := Γ) (List.getElem?_eq_some_iff.mp hs).1
  rw [gcel_obj hs] at he
  have hrf := ref_fit (fkn_ref hk) (gad Γ v)
  refine va_put (D := Γ.2.1) (ci := ci) (v := .ref (gad Γ v)) hx hb ht hin (tyX ci) hty hnm ho hK hP (gws_D hn) hS o he (vwCl_at hc) f hkN (ht _ hlk) (fun _ h => h) hfin (hty f hkN) hrf.1 hrf.2 (by rw [gfs_len]; exact hkN) hd (fun H1 locs1 hP1 _ hS1 => ?_)
  rw [gws_set (Γ := Γ) (μ := μ) (o := o) (μ' := sR μ o f (some v)) rfl (by rw [gcel_obj (μ := sR μ o f (some v)) hs, gfs_setR hk]; rfl) (fun j hj => gcel_neR hj)] at hP1
  exact kk H1 locs1 cells slots a h1 h2 hP1 hS1 hz hn hl
theorem w_putRF (hX : GX Γ X own cc d) (hini : X.2.2.2.2.2.2.2.1.name = "<init>") {v : Nat} (hd : decode cc pc = .ok (.putfield ix, 3)) (hF : FOK own ix ci f) (hk : fkn ci f = 2) (hfin : (cTX ci f).2.2.2 = true) (hdl : (cTX ci f).1 = own) (hs : μ.1[o]? = some (.inl ci)) (kk : WP Γ X k n (pc + 3) ls rest (sR μ o f (some v))) : WP Γ X k n pc ls (.ref v :: .ref o :: rest) μ := by
  obtain ⟨p, e, R, s, m, args, below, meth, c, Q⟩ := X
  obtain ⟨hx, hb, ho, ht, hK, hE, hb0, hf, hlo⟩ := hX
  obtain ⟨hc, hkN, hin, hlk, hty, hnm⟩ := hF
  intro H locs cells slots a h1 h2 hP hS hz hn hl
  have he := gws_at (Γ := Γ) (List.getElem?_eq_some_iff.mp hs).1
  rw [gcel_obj hs] at he
  have hrf := ref_fit (fkn_ref hk) (gad Γ v)
  refine va_putF (D := Γ.2.1) (ci := ci) (v := .ref (gad Γ v)) hx hb ht hin (tyX ci) hty hnm ho hK hP (gws_D hn) hS o he (vwCl_at hc) f hkN (ht _ hlk) (fun _ h => h) hfin hini hdl (hty f hkN) hrf.1 hrf.2 (by rw [gfs_len]; exact hkN) hd (fun H1 locs1 hP1 _ hS1 => ?_)
  rw [gws_set (Γ := Γ) (μ := μ) (o := o) (μ' := sR μ o f (some v)) rfl (by rw [gcel_obj (μ := sR μ o f (some v)) hs, gfs_setR hk]; rfl) (fun j hj => gcel_neR hj)] at hP1
  exact kk H1 locs1 cells slots a h1 h2 hP1 hS1 hz hn hl
end HeapRules
