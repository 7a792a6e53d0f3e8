/-! new cells, the JDK's max, min, abs, Object's constructor -/
theorem gcel_lt {Γ : Gm} {μ : Mem} {x : Shp} {j : Nat} (h : j < μ.1.length) : gcel Γ (sN μ x) j = gcel Γ μ j := by
  have h9 : ¬ j = μ.1.length := by omega
  have e1 : (sN μ x).1[j]? = μ.1[j]? := List.getElem?_append_left h
  have hI : gI (sN μ x) j = gI μ j := by funext b; simp [gI, sN, h9]
  have hL : gL (sN μ x) j = gL μ j := by funext b; simp [gL, sN, h9]
  have hR : gR (sN μ x) j = gR μ j := by funext b; simp [gR, sN, h9]
  have fv : fval Γ (sN μ x) j = fval Γ μ j := by
    funext ci k
    simp only [fval, hI, hL, hR]
  have gv : garr Γ (sN μ x) j = garr Γ μ j := by
    funext t
    simp only [garr, hI, hL, hR]
  simp only [gcel, gfs, fv, gv, e1]
theorem sN_at {μ : Mem} {x : Shp} : (sN μ x).1[μ.1.length]? = some x := by simp [sN]
theorem sN_len {μ : Mem} {x : Shp} : (sN μ x).1.length = μ.1.length + 1 := by simp [sN]
theorem gws_new {Γ : Gm} {μ : Mem} {x : Shp} {q : Nat} {e : va_E} (hq : q = gad Γ μ.1.length) (he : gcel Γ (sN μ x) μ.1.length = e) : gws Γ μ ++ [(q, e)] = gws Γ (sN μ x) := by
  subst hq; subst he
  unfold gws
  rw [sN_len, List.range_succ, List.map_append]
  congr 1
  apply List.map_congr_left
  intro j hj
  rw [gcel_lt (List.mem_range.mp hj)]
/-- the new cell's address is the next one -/
theorem new_at {Γ : Gm} {μ : Mem} {H1 : Heap} {D : va_G} {q sz cells : Nat} {e : va_E} (hP : va_P D vwCl (gws Γ μ ++ [(q, e)]) H1) (hD : va_D (gA Γ) (gws Γ μ ++ [(q, e)])) (hn : μ.1.length < scr) (h1 : H1.size ≤ sz + (cells + 1)) (h2 : sz + cells ≤ Γ.2.2.2.1 + μ.1.length) : q = gad Γ μ.1.length := by
  have hl : (gws Γ μ ++ [(q, e)])[μ.1.length]? = some (q, e) := by
    rw [List.getElem?_append_right (by rw [gws_len]; exact Nat.le_refl _), gws_len]
    simp
  have g1 : q < H1.size := (hP _ _ hl).lt
  have g2 : Γ.2.2.2.1 ≤ q := hD.2 _ _ hl
  have g3 : gad Γ μ.1.length = Γ.2.2.2.1 + μ.1.length := by
    unfold gad
    rw [if_neg (by omega)]
  rw [g3]
  rcases Nat.lt_or_ge q (Γ.2.2.2.1 + μ.1.length) with h | h
  · exfalso
    have hi : q - Γ.2.2.2.1 < μ.1.length := by omega
    have hj : (gws Γ μ ++ [(q, e)])[q - Γ.2.2.2.1]? = some (gad Γ (q - Γ.2.2.2.1), gcel Γ μ (q - Γ.2.2.2.1)) := by
      rw [List.getElem?_append_left (by rw [gws_len]; exact hi), gws_at hi]
    have e1 : gad Γ (q - Γ.2.2.2.1) = q := by
      unfold gad
      rw [if_neg (by omega)]
      omega
    have := hD.1 _ _ _ _ hj hl (by exact e1)
    omega
  · omega
/-- an object's fields when it is made -/
theorem gfs_new {Γ : Gm} {μ : Mem} {ci : Nat} : ∀ j, j < nfX ci → (∀ i, i < nfX ci → tyX ci i = .int ∨ tyX ci i = .long ∨ tyX ci i = .boolean ∨ fkn ci i = 2) → defaultValue (tyX ci j) = vp_V (gfs Γ (sN μ (.inl ci)) μ.1.length ci) j := by
  intro j hj hk
  unfold vp_V
  rw [List.getD_eq_getElem?_getD, gfs_at hj, Option.getD_some]
  rcases hk j hj with h | h | h | h
  · simp [fval, fkn, h, gI, sN]; rfl
  · simp [fval, fkn, h, gL, sN]; rfl
  · simp [fval, fkn, h, gI, sN]; rfl
  · rcases fkn_ref h with ⟨C, hC⟩ | ⟨t, hC⟩
    · simp [fval, fkn, hC, gR, sN, va_rf]; rfl
    · simp [fval, fkn, hC, gR, sN, va_rf]; rfl
section NewRules
variable {Γ : Gm} {X : Cx} {own : String} {cc : ByteArray} {d k n pc : Nat} {ls : List (Option Value)} {rest : List Value} {μ : Mem} {ix ci : Nat}
def NOK (own : String) (ix ci : Nat) : Prop := ci < 10 ∧ (∀ w ∈ u_ws (cRX ci) (cTX ci) (nfX ci), w ∈ gG) ∧ (∀ j, j < nfX ci → parseFieldDescriptor (cTX ci j).2.2.1 = some (tyX ci j)) ∧ Cond.classLink own ix (cRX ci) ∈ gG ∧ Cond.instantiable (cRX ci) (nfX ci) ∈ gG ∧ Cond.initialized (cRX ci) ∈ gG ∧ (∀ i, i < nfX ci → tyX ci i = .int ∨ tyX ci i = .long ∨ tyX ci i = .boolean ∨ fkn ci i = 2)
theorem w_new (hX : GX Γ X own cc d) (hfr : Γ.2.2.2.2.2 = true) (hd : decode cc pc = .ok (.new ix, 3)) (hN : NOK own ix ci) (hl9 : μ.1.length < scr) (kk : WP Γ X k n (pc + 3) ls (.ref μ.1.length :: rest) (sN μ (.inl ci))) : WP Γ X (k + 1) (n + nfX ci) pc ls rest μ := by
  obtain ⟨p, e, R, s, m, args, below, meth, c, Q⟩ := X
  obtain ⟨hx, hb, ho, ht, hK, hE, hb0, hf, hlo⟩ := hX
  obtain ⟨hci, hin, hty, hcl, hins, hini, hkd⟩ := hN
  intro H locs cells slots a h1 h2 hP hS hz hn hl
  have hz1 := hz hfr
  refine va_new (D := Γ.2.1) (ci := ci) (fs := gfs Γ (sN μ (.inl ci)) μ.1.length ci) hx hb ht hin (tyX ci) hty ho (ht _ hcl) (ht _ hins) (ht _ hini) hK hP (gws_D hn) hS (fun q h => Nat.le_trans hb0 h) (vwCl_at hci) (fun j hj => gfs_new j hj hkd) (by omega) (by omega) hd (fun q H1 hP1 hD1 hS1 => ?_)
  refine W_bound (fun hbd => ?_)
  have hq := new_at hP1 hD1 hl9 hbd hz1.1
  rw [gws_new (x := .inl ci) hq (gcel_obj sN_at)] at hP1
  rw [hq]
  exact kk H1 locs (cells + 1) (slots + nfX ci) a (by omega) (by omega) hP1 hS1 (fun _ => by rw [sN_len]; omega) (by rw [sN_len]; omega) hl
theorem arr_cls {Γ : Gm} {s : State} {cA : ClassId} {ty : FieldType} {t : Nat} (hK : va_K Γ.2.1 vwCl (gtys Γ) s) (hK1 : va_K Γ.2.1 vwCl (gtys Γ ++ [(cA, ty)]) s) (ht : (gtys Γ)[t]? = some (Γ.2.2.1 t, ty)) : cA = Γ.2.2.1 t := by
  have h1 := (hK1.2 5 (cA, ty) rfl).2
  have h2 := (hK.2 t _ ht).2
  cases ty with
  | object C =>
    obtain ⟨_, _, -, -, -, g1⟩ := h1
    obtain ⟨_, _, -, -, -, g2⟩ := h2
    exact Option.some.inj (g1.symm.trans g2)
  | _ => exact Option.some.inj (h1.symm.trans h2)
theorem w_newa (hX : GX Γ X own cc d) (hfr : Γ.2.2.2.2.2 = true) {at9 : ArrayType} {t : Nat} {ty : FieldType} {i : Int32} {len : Nat} (hd : decode cc pc = .ok (.newarray at9, 2)) (hty : newarray.typeOf at9 = ty) (ht9 : (gtys Γ)[t]? = some (Γ.2.2.1 t, ty)) (hw : Cond.arrayClass ty ∈ gG) (hcell : ∀ cA : ClassId, vp_cell cA (len, garr Γ (sN μ (.inr (t, len))) μ.1.length t) = arrV cA len (fun _ => defaultValue ty)) (hi : ¬ i < 0) (hlen : i.toNatClampNeg = len) (hby : len * componentBytes ty ≤ 536870912) (hl9 : μ.1.length < scr) (kk : WP Γ X k n (pc + 2) ls (.ref μ.1.length :: rest) (sN μ (.inr (t, len)))) : WP Γ X (k + 1) (n + len) pc ls (.int i :: rest) μ := by
  obtain ⟨p, e, R, s, m, args, below, meth, c, Q⟩ := X
  obtain ⟨hx, hb, ho, ht, hK, hE, hb0, hf, hlo⟩ := hX
  intro H locs cells slots a h1 h2 hP hS hz hn hl
  have hz1 := hz hfr
  refine va_newa (D := Γ.2.1) (a0 := (len, garr Γ (sN μ (.inr (t, len))) μ.1.length t)) hx hb (by rw [hty]; exact ht _ hw) hty hK hP (gws_D hn) hS (fun q h => Nat.le_trans hb0 h) hcell hi hlen hby (by omega) (by omega) hd (fun q cA H1 hK1 hP1 hD1 hS1 => ?_)
  refine W_bound (fun hbd => ?_)
  have hq := new_at hP1 hD1 hl9 hbd hz1.1
  have hcA := arr_cls hK hK1 ht9
  subst hcA
  rw [gws_new (x := .inr (t, len)) hq (gcel_arr sN_at)] at hP1
  rw [hq]
  exact kk H1 locs (cells + 1) (slots + len) a (by omega) (by omega) hP1 hS1 (fun _ => by rw [sN_len]; omega) (by rw [sN_len]; omega) hl
theorem gI_new {μ : Mem} {x : Shp} : gI (sN μ x) μ.1.length = fun _ => 0 := by funext b; simp [gI, sN]
theorem gL_new {μ : Mem} {x : Shp} : gL (sN μ x) μ.1.length = fun _ => 0 := by funext b; simp [gL, sN]
theorem gR_new {μ : Mem} {x : Shp} : gR (sN μ x) μ.1.length = fun _ => none := by funext b; simp [gR, sN]
theorem w_newI (hX : GX Γ X own cc d) (hfr : Γ.2.2.2.2.2 = true) {i : Int32} {len : Nat} (hd : decode cc pc = .ok (.newarray .int, 2)) (hi : ¬ i < 0) (hlen : i.toNatClampNeg = len) (hby : len * componentBytes .int ≤ 536870912) (hl9 : μ.1.length < scr) (kk : WP Γ X k n (pc + 2) ls (.ref μ.1.length :: rest) (sN μ (.inr (0, len)))) : WP Γ X (k + 1) (n + len) pc ls (.int i :: rest) μ :=
  w_newa hX hfr (t := 0) hd rfl rfl ac_int (fun cA => by show vp_cell cA (len, .inl (gI (sN μ (.inr (0, len))) μ.1.length)) = _; rw [gI_new]; rfl) hi hlen hby hl9 kk
theorem w_newL (hX : GX Γ X own cc d) (hfr : Γ.2.2.2.2.2 = true) {i : Int32} {len : Nat} (hd : decode cc pc = .ok (.newarray .long, 2)) (hi : ¬ i < 0) (hlen : i.toNatClampNeg = len) (hby : len * componentBytes .long ≤ 536870912) (hl9 : μ.1.length < scr) (kk : WP Γ X k n (pc + 2) ls (.ref μ.1.length :: rest) (sN μ (.inr (1, len)))) : WP Γ X (k + 1) (n + len) pc ls (.int i :: rest) μ :=
  w_newa hX hfr (t := 1) hd rfl rfl ac_long (fun cA => by show vp_cell cA (len, .inr (.inl (gL (sN μ (.inr (1, len))) μ.1.length))) = _; rw [gL_new]; rfl) hi hlen hby hl9 kk
theorem w_newB (hX : GX Γ X own cc d) (hfr : Γ.2.2.2.2.2 = true) {i : Int32} {len : Nat} (hd : decode cc pc = .ok (.newarray .byte, 2)) (hi : ¬ i < 0) (hlen : i.toNatClampNeg = len) (hby : len * componentBytes .byte ≤ 536870912) (hl9 : μ.1.length < scr) (kk : WP Γ X k n (pc + 2) ls (.ref μ.1.length :: rest) (sN μ (.inr (2, len)))) : WP Γ X (k + 1) (n + len) pc ls (.int i :: rest) μ :=
  w_newa hX hfr (t := 2) hd rfl rfl ac_byte (fun cA => by show vp_cell cA (len, .inl (gI (sN μ (.inr (2, len))) μ.1.length)) = _; rw [gI_new]; rfl) hi hlen hby hl9 kk
theorem w_newZ (hX : GX Γ X own cc d) (hfr : Γ.2.2.2.2.2 = true) {i : Int32} {len : Nat} (hd : decode cc pc = .ok (.newarray .boolean, 2)) (hi : ¬ i < 0) (hlen : i.toNatClampNeg = len) (hby : len * componentBytes .boolean ≤ 536870912) (hl9 : μ.1.length < scr) (kk : WP Γ X k n (pc + 2) ls (.ref μ.1.length :: rest) (sN μ (.inr (3, len)))) : WP Γ X (k + 1) (n + len) pc ls (.int i :: rest) μ :=
  w_newa hX hfr (t := 3) hd rfl rfl ac_boolean (fun cA => by show vp_cell cA (len, .inl (gI (sN μ (.inr (3, len))) μ.1.length)) = _; rw [gI_new]; rfl) hi hlen hby hl9 kk
theorem w_newQ (hX : GX Γ X own cc d) (hfr : Γ.2.2.2.2.2 = true) {i : Int32} {len : Nat} (hd : decode cc pc = .ok (.anewarray ix, 3)) (hcl : Cond.classLink own ix "HourAgain$Clock" ∈ gG) (hi : ¬ i < 0) (hlen : i.toNatClampNeg = len) (hby : len * 4 ≤ 536870912) (hl9 : μ.1.length < scr) (kk : WP Γ X k n (pc + 3) ls (.ref μ.1.length :: rest) (sN μ (.inr (4, len)))) : WP Γ X (k + 1) (n + len) pc ls (.int i :: rest) μ := by
  obtain ⟨p, e, R, s, m, args, below, meth, c, Q⟩ := X
  obtain ⟨hx, hb, ho, ht, hK, hE, hb0, hf, hlo⟩ := hX
  intro H locs cells slots a h1 h2 hP hS hz hn hl
  have hz1 := hz hfr
  refine va_newq (D := Γ.2.1) hx hb ho (ht _ hcl) hE.2.2.2.1.1 hK hP (gws_D hn) hS (fun q h => Nat.le_trans hb0 h) hi hlen hby (by omega) (by omega) hd (fun q cA H1 hK1 hP1 hD1 hS1 => ?_)
  refine W_bound (fun hbd => ?_)
  have hq := new_at hP1 hD1 hl9 hbd hz1.1
  have hcA := arr_cls (t := 4) hK hK1 rfl
  subst hcA
  rw [gws_new (x := .inr (4, len)) hq (by rw [gcel_arr sN_at]; show Sum.inl (_, len, Sum.inr (Sum.inr (Sum.inr (Sum.inr (fun j => (gR (sN μ (.inr (4, len))) μ.1.length j).map (gad Γ)))))) = _; rw [gR_new]; rfl)] at hP1
  rw [hq]
  exact kk H1 locs (cells + 1) (slots + len) a (by omega) (by omega) hP1 hS1 (fun _ => by rw [sN_len]; omega) (by rw [sN_len]; omega) hl
theorem w_objInit (hX : GX Γ X own cc d) {o : Nat} (hd : decode cc pc = .ok (.invokespecial ix, 3)) (hl9 : Cond.methodLink own ix objectInit ∈ gG) (hdd : 1 ≤ d) (hrm : (rest.map fun v => v.category).sum ≤ 8) (kk : WP Γ X k n (pc + 3) ls rest μ) : WP Γ X k n pc ls (.ref o :: rest) μ := by
  obtain ⟨p, e, R, s, m, args, below, meth, c, Q⟩ := X
  obtain ⟨hx, hb, ho, ht, hK, hE, hb0, hf, hlo⟩ := hX
  intro H locs cells slots a h1 h2 hP hS hz hn hl
  have h8 := rest_room (Γ := Γ) hrm
  exact W.objInit hx hb ho (ht _ hl9) (ht _ oi_i) (ht _ oi_c) rfl hl.1.1 rfl hd (by omega) (by show 2 * 0 + _ + 12 ≤ R.locals; omega) (kk H locs cells slots a h1 h2 hP hS hz hn hl)
theorem w_max (hX : GX Γ X own cc d) {x y : Int32} (hd : decode cc pc = .ok (.invokestatic ix, 3)) (hl9 : Cond.methodLink own ix yJ9_max_7cf53 ∈ gG) (hdd : 1 ≤ d) (hrm : (rest.map fun v => v.category).sum ≤ 8) (kk : WP Γ X k n (pc + 3) ls (.int (if x < y then y else x) :: rest) μ) : WP Γ X k n pc ls (.int y :: .int x :: rest) μ := by
  obtain ⟨p, e, R, s, m, args, below, meth, c, Q⟩ := X
  obtain ⟨hx, hb, ho, ht, hK, hE, hb0, hf, hlo⟩ := hX
  intro H locs cells slots a h1 h2 hP hS hz hn hl
  have h8 := rest_room (Γ := Γ) hrm
  exact va_mmax hx hb hl.1.1.symm ho (ht _ hl9) (ht _ stJ9_max_7cf53) (ht _ ini_RJ9) (ht _ cdJ9_max) (by omega) (by omega) (by omega) (by omega) hd (kk H locs cells slots a h1 h2 hP hS hz hn hl)
theorem w_min (hX : GX Γ X own cc d) {x y : Int32} (hd : decode cc pc = .ok (.invokestatic ix, 3)) (hl9 : Cond.methodLink own ix yJ9_min_7cf53 ∈ gG) (hdd : 1 ≤ d) (hrm : (rest.map fun v => v.category).sum ≤ 8) (kk : WP Γ X k n (pc + 3) ls (.int (if y < x then y else x) :: rest) μ) : WP Γ X k n pc ls (.int y :: .int x :: rest) μ := by
  obtain ⟨p, e, R, s, m, args, below, meth, c, Q⟩ := X
  obtain ⟨hx, hb, ho, ht, hK, hE, hb0, hf, hlo⟩ := hX
  intro H locs cells slots a h1 h2 hP hS hz hn hl
  have h8 := rest_room (Γ := Γ) hrm
  exact va_mmin hx hb hl.1.1.symm ho (ht _ hl9) (ht _ stJ9_min_7cf53) (ht _ ini_RJ9) (ht _ cdJ9_min) (by omega) (by omega) (by omega) (by omega) hd (kk H locs cells slots a h1 h2 hP hS hz hn hl)
theorem w_abs (hX : GX Γ X own cc d) {x : Int32} (hd : decode cc pc = .ok (.invokestatic ix, 3)) (hl9 : Cond.methodLink own ix yJ9_abs_0f7a4 ∈ gG) (hdd : 1 ≤ d) (hrm : (rest.map fun v => v.category).sum ≤ 8) (kk : WP Γ X k n (pc + 3) ls (.int (if 0 ≤ x then x else 0 - x) :: rest) μ) : WP Γ X k n pc ls (.int x :: rest) μ := by
  obtain ⟨p, e, R, s, m, args, below, meth, c, Q⟩ := X
  obtain ⟨hx, hb, ho, ht, hK, hE, hb0, hf, hlo⟩ := hX
  intro H locs cells slots a h1 h2 hP hS hz hn hl
  have h8 := rest_room (Γ := Γ) hrm
  exact va_mabs hx hb hl.1.1.symm ho (ht _ hl9) (ht _ stJ9_abs_0f7a4) (ht _ ini_RJ9) (ht _ cdJ9_abs) (by omega) (by omega) (by omega) (by omega) hd (kk H locs cells slots a h1 h2 hP hS hz hn hl)
end NewRules
