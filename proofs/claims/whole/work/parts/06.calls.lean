section ArrRules
variable {Γ : Gm} {X : Cx} {own : String} {cc : ByteArray} {d k n pc : Nat} {ls : List (Option Value)} {rest : List Value} {μ : Mem} {o len : Nat} {i : Int32}
theorem w_iald (hX : GX Γ X own cc d) (hd : decode cc pc = .ok (.iaload, 1)) (hs : μ.1[o]? = some (.inr (0, len))) (hi : vp_in i len) (kk : WP Γ X k n (pc + 1) ls (.int (gI μ o i.toNatClampNeg) :: rest) μ) : WP Γ X k n pc ls (.int i :: .ref o :: rest) μ := by
  obtain ⟨p, e, R, s, m, args, below, meth, c, Q⟩ := X
  obtain ⟨hx, hb, ho, ht, hK, hE, hb0, hf, hlo⟩ := hX
  intro H locs cells slots a h1 h2 hP hS hz hn hl
  have he := gws_at (Γ := Γ) (List.getElem?_eq_some_iff.mp hs).1
  rw [gcel_arr hs] at he
  exact va_iald hx hb hK hP o 0 he rfl hi hd (kk H locs cells slots a h1 h2 hP hS hz hn hl)
theorem w_lald (hX : GX Γ X own cc d) (hd : decode cc pc = .ok (.laload, 1)) (hs : μ.1[o]? = some (.inr (1, len))) (hi : vp_in i len) (kk : WP Γ X k n (pc + 1) ls (.long (gL μ o i.toNatClampNeg) :: rest) μ) : WP Γ X k n pc ls (.int i :: .ref o :: rest) μ := by
  obtain ⟨p, e, R, s, m, args, below, meth, c, Q⟩ := X
  obtain ⟨hx, hb, ho, ht, hK, hE, hb0, hf, hlo⟩ := hX
  intro H locs cells slots a h1 h2 hP hS hz hn hl
  have he := gws_at (Γ := Γ) (List.getElem?_eq_some_iff.mp hs).1
  rw [gcel_arr hs] at he
  exact va_lald hx hb hK hP o 1 he rfl hi hd (kk H locs cells slots a h1 h2 hP hS hz hn hl)
theorem w_bald (hX : GX Γ X own cc d) (hd : decode cc pc = .ok (.baload, 1)) (hs : μ.1[o]? = some (.inr (2, len))) (hi : vp_in i len) (kk : WP Γ X k n (pc + 1) ls (.int (gI μ o i.toNatClampNeg) :: rest) μ) : WP Γ X k n pc ls (.int i :: .ref o :: rest) μ := by
  obtain ⟨p, e, R, s, m, args, below, meth, c, Q⟩ := X
  obtain ⟨hx, hb, ho, ht, hK, hE, hb0, hf, hlo⟩ := hX
  intro H locs cells slots a h1 h2 hP hS hz hn hl
  have he := gws_at (Γ := Γ) (List.getElem?_eq_some_iff.mp hs).1
  rw [gcel_arr hs] at he
  exact va_bald hx hb hK hP o 2 he rfl hi hd (kk H locs cells slots a h1 h2 hP hS hz hn hl)
theorem w_zald (hX : GX Γ X own cc d) (hd : decode cc pc = .ok (.baload, 1)) (hs : μ.1[o]? = some (.inr (3, len))) (hi : vp_in i len) (kk : WP Γ X k n (pc + 1) ls (.int (gI μ o i.toNatClampNeg) :: rest) μ) : WP Γ X k n pc ls (.int i :: .ref o :: rest) μ := by
  obtain ⟨p, e, R, s, m, args, below, meth, c, Q⟩ := X
  obtain ⟨hx, hb, ho, ht, hK, hE, hb0, hf, hlo⟩ := hX
  intro H locs cells slots a h1 h2 hP hS hz hn hl
  have he := gws_at (Γ := Γ) (List.getElem?_eq_some_iff.mp hs).1
  rw [gcel_arr hs] at he
  exact va_zald hx hb hK hP o 3 he rfl hi hd (kk H locs cells slots a h1 h2 hP hS hz hn hl)
theorem w_aald (hX : GX Γ X own cc d) {q : Nat} (hd : decode cc pc = .ok (.aaload, 1)) (hs : μ.1[o]? = some (.inr (4, len))) (hi : vp_in i len) (hr : gR μ o i.toNatClampNeg = some q) (kk : WP Γ X k n (pc + 1) ls (.ref q :: rest) μ) : WP Γ X k n pc ls (.int i :: .ref o :: rest) μ := by
  obtain ⟨p, e, R, s, m, args, below, meth, c, Q⟩ := X
  obtain ⟨hx, hb, ho, ht, hK, hE, hb0, hf, hlo⟩ := hX
  intro H locs cells slots a h1 h2 hP hS hz hn hl
  have he := gws_at (Γ := Γ) (List.getElem?_eq_some_iff.mp hs).1
  rw [gcel_arr hs] at he
  refine va_aldq hx hb hK hP o 4 he rfl hi hd ?_
  rw [hr]
  exact kk H locs cells slots a h1 h2 hP hS hz hn hl
theorem w_alen (hX : GX Γ X own cc d) {t : Nat} (ht5 : t < 5) (hd : decode cc pc = .ok (.arraylength, 1)) (hs : μ.1[o]? = some (.inr (t, len))) (kk : WP Γ X k n (pc + 1) ls (.int (nI len) :: rest) μ) : WP Γ X k n pc ls (.ref o :: rest) μ := by
  obtain ⟨p, e, R, s, m, args, below, meth, c, Q⟩ := X
  obtain ⟨hx, hb, ho, ht, hK, hE, hb0, hf, hlo⟩ := hX
  intro H locs cells slots a h1 h2 hP hS hz hn hl
  have he := gws_at (Γ := Γ) (List.getElem?_eq_some_iff.mp hs).1
  rw [gcel_arr hs] at he
  have hty : ∃ ty, (gtys Γ)[t]? = some (Γ.2.2.1 t, ty) := by
    match t, ht5 with
    | 0, _ => exact ⟨_, rfl⟩
    | 1, _ => exact ⟨_, rfl⟩
    | 2, _ => exact ⟨_, rfl⟩
    | 3, _ => exact ⟨_, rfl⟩
    | 4, _ => exact ⟨_, rfl⟩
  obtain ⟨ty, hty⟩ := hty
  exact va_alen hx hb hK hP o t he hty rfl hd (kk H locs cells slots a h1 h2 hP hS hz hn hl)
theorem upd_gI {j : Nat} {v : Int32} : upd (gI μ o) j v = gI (sI μ o j v) o := by
  funext b
  simp [upd, gI, sI]
theorem w_iast (hX : GX Γ X own cc d) {v : Int32} (hd : decode cc pc = .ok (.iastore, 1)) (hs : μ.1[o]? = some (.inr (0, len))) (hi : vp_in i len) (kk : WP Γ X k n (pc + 1) ls rest (sI μ o i.toNatClampNeg v)) : WP Γ X k n pc ls (.int v :: .int i :: .ref o :: rest) μ := by
  obtain ⟨p, e, R, s, m, args, below, meth, c, Q⟩ := X
  obtain ⟨hx, hb, ho, ht, hK, hE, hb0, hf, hlo⟩ := hX
  intro H locs cells slots a h1 h2 hP hS hz hn hl
  have he := gws_at (Γ := Γ) (List.getElem?_eq_some_iff.mp hs).1
  rw [gcel_arr hs] at he
  refine va_iast (x := v) hx hb hK hP (gws_D hn) hS o 0 he rfl hi hd (fun H1 locs1 hP1 _ hS1 => ?_)
  rw [gws_set (Γ := Γ) (μ := μ) (o := o) (μ' := sI μ o i.toNatClampNeg v) rfl (by rw [gcel_arr (μ := sI μ o i.toNatClampNeg v) hs, upd_gI]; rfl) (fun j hj => gcel_neI hj)] at hP1
  exact kk H1 locs1 cells slots a h1 h2 hP1 hS1 hz hn hl
theorem w_bast (hX : GX Γ X own cc d) {v w : Int32} (hd : decode cc pc = .ok (.bastore, 1)) (hs : μ.1[o]? = some (.inr (2, len))) (hi : vp_in i len) (hw : vp_nar .byte v = w) (kk : WP Γ X k n (pc + 1) ls rest (sI μ o i.toNatClampNeg w)) : WP Γ X k n pc ls (.int v :: .int i :: .ref o :: rest) μ := by
  obtain ⟨p, e, R, s, m, args, below, meth, c, Q⟩ := X
  obtain ⟨hx, hb, ho, ht, hK, hE, hb0, hf, hlo⟩ := hX
  intro H locs cells slots a h1 h2 hP hS hz hn hl
  have he := gws_at (Γ := Γ) (List.getElem?_eq_some_iff.mp hs).1
  rw [gcel_arr hs] at he
  refine va_bast (x := v) hx hb hK hP (gws_D hn) hS o 2 he rfl hi hd (fun H1 locs1 hP1 _ hS1 => ?_)
  rw [hw, gws_set (Γ := Γ) (μ := μ) (o := o) (μ' := sI μ o i.toNatClampNeg w) rfl (by rw [gcel_arr (μ := sI μ o i.toNatClampNeg w) hs, upd_gI]; rfl) (fun j hj => gcel_neI hj)] at hP1
  exact kk H1 locs1 cells slots a h1 h2 hP1 hS1 hz hn hl
theorem w_zast (hX : GX Γ X own cc d) {v w : Int32} (hd : decode cc pc = .ok (.bastore, 1)) (hs : μ.1[o]? = some (.inr (3, len))) (hi : vp_in i len) (hw : vp_nar .boolean v = w) (kk : WP Γ X k n (pc + 1) ls rest (sI μ o i.toNatClampNeg w)) : WP Γ X k n pc ls (.int v :: .int i :: .ref o :: rest) μ := by
  obtain ⟨p, e, R, s, m, args, below, meth, c, Q⟩ := X
  obtain ⟨hx, hb, ho, ht, hK, hE, hb0, hf, hlo⟩ := hX
  intro H locs cells slots a h1 h2 hP hS hz hn hl
  have he := gws_at (Γ := Γ) (List.getElem?_eq_some_iff.mp hs).1
  rw [gcel_arr hs] at he
  refine va_zast (x := v) hx hb hK hP (gws_D hn) hS o 3 he rfl hi hd (fun H1 locs1 hP1 _ hS1 => ?_)
  rw [hw, gws_set (Γ := Γ) (μ := μ) (o := o) (μ' := sI μ o i.toNatClampNeg w) rfl (by rw [gcel_arr (μ := sI μ o i.toNatClampNeg w) hs, upd_gI]; rfl) (fun j hj => gcel_neI hj)] at hP1
  exact kk H1 locs1 cells slots a h1 h2 hP1 hS1 hz hn hl
theorem updL_gL {j : Nat} {v : Int64} : vp_updL (gL μ o) j v = gL (sL μ o j v) o := by
  funext b
  simp [vp_updL, gL, sL]
theorem w_last (hX : GX Γ X own cc d) {v : Int64} (hd : decode cc pc = .ok (.lastore, 1)) (hs : μ.1[o]? = some (.inr (1, len))) (hi : vp_in i len) (kk : WP Γ X k n (pc + 1) ls rest (sL μ o i.toNatClampNeg v)) : WP Γ X k n pc ls (.long v :: .int i :: .ref o :: rest) μ := by
  obtain ⟨p, e, R, s, m, args, below, meth, c, Q⟩ := X
  obtain ⟨hx, hb, ho, ht, hK, hE, hb0, hf, hlo⟩ := hX
  intro H locs cells slots a h1 h2 hP hS hz hn hl
  have he := gws_at (Γ := Γ) (List.getElem?_eq_some_iff.mp hs).1
  rw [gcel_arr hs] at he
  refine va_last (x := v) hx hb hK hP (gws_D hn) hS o 1 he rfl hi hd (fun H1 locs1 hP1 _ hS1 => ?_)
  rw [gws_set (Γ := Γ) (μ := μ) (o := o) (μ' := sL μ o i.toNatClampNeg v) rfl (by rw [gcel_arr (μ := sL μ o i.toNatClampNeg v) hs, updL_gL]; rfl) (fun j hj => gcel_neL hj)] at hP1
  exact kk H1 locs1 cells slots a h1 h2 hP1 hS1 hz hn hl
theorem upR_gR {j q : Nat} : va_up (fun j => (gR μ o j).map (gad Γ)) j (some (gad Γ q)) = fun b => (gR (sR μ o j (some q)) o b).map (gad Γ) := by
  funext b
  by_cases h : b = j
  · simp [va_up, gR, sR, h]
  · simp [va_up, gR, sR, h]
theorem w_aast (hX : GX Γ X own cc d) {q : Nat} (hd : decode cc pc = .ok (.aastore, 1)) (hs : μ.1[o]? = some (.inr (4, len))) (hq : μ.1[q]? = some (.inl 1)) (hi : vp_in i len) (kk : WP Γ X k n (pc + 1) ls rest (sR μ o i.toNatClampNeg (some q))) : WP Γ X k n pc ls (.ref q :: .int i :: .ref o :: rest) μ := by
  obtain ⟨p, e, R, s, m, args, below, meth, c, Q⟩ := X
  obtain ⟨hx, hb, ho, ht, hK, hE, hb0, hf, hlo⟩ := hX
  intro H locs cells slots a h1 h2 hP hS hz hn hl
  have he := gws_at (Γ := Γ) (List.getElem?_eq_some_iff.mp hs).1
  rw [gcel_arr hs] at he
  have hv := gws_at (Γ := Γ) (List.getElem?_eq_some_iff.mp hq).1
  rw [gcel_obj hq] at hv
  refine va_astq hx hb hK hP (gws_D hn) hS o 4 q 1 (r := (RX1, TX1, 2)) he rfl hv rfl hi hd (fun H1 locs1 hP1 _ hS1 => ?_)
  rw [gws_set (Γ := Γ) (μ := μ) (o := o) (μ' := sR μ o i.toNatClampNeg (some q)) rfl (by rw [gcel_arr (μ := sR μ o i.toNatClampNeg (some q)) hs, upR_gR]; rfl) (fun j hj => gcel_neR hj)] at hP1
  exact kk H1 locs1 cells slots a h1 h2 hP1 hS1 hz hn hl
end ArrRules
/-! contracts -/
def Pre (Γ : Gm) (μ : Mem) (U : State) : Prop := va_P Γ.2.1 vwCl (gws Γ μ) U.heap ∧ va_K Γ.2.1 vwCl (gtys Γ) U ∧ Ex Γ U U.heap ∧ Γ.2.2.2.1 ≤ U.heap.size ∧ (Γ.2.2.2.2.2 = true → U.heap.size ≤ Γ.2.2.2.1 + μ.1.length) ∧ μ.1.length ≤ scr
def Post (Γ : Gm) (l0 k : Nat) (μ : Mem) (t : State) : Prop := va_P Γ.2.1 vwCl (gws Γ μ) t.heap ∧ (Γ.2.2.2.2.2 = true → l0 + k ≤ μ.1.length) ∧ μ.1.length ≤ scr
def gRm (d k n : Nat) : Room := { frames := d, cells := k, slots := n, locals := 40 * d }
def SpI (Γ : Gm) (M : Mth) (d k n : Nat) (as : List Value) (μ : Mem) (Q : Int32 → Mem → Prop) : Prop :=
  Met Γ.1 M.1 (gWS M) (gRm d k n) (va_Pc (as.map (grv Γ)) (Pre Γ μ)) (va_Qi Q (Post Γ μ.1.length k) (gA Γ)) k n (gA Γ)
def SpV (Γ : Gm) (M : Mth) (d k n : Nat) (as : List Value) (μ : Mem) (Q : Mem → Prop) : Prop :=
  Met Γ.1 M.1 (gWS M) (gRm d k n) (va_Pc (as.map (grv Γ)) (Pre Γ μ)) (va_Qv Q (Post Γ μ.1.length k) (gA Γ)) k n (gA Γ)
def SpQ (Γ : Gm) (M : Mth) (d k n : Nat) (as : List Value) (μ : Mem) (Q : Option Nat → Mem → Prop) : Prop :=
  Met Γ.1 M.1 (gWS M) (gRm d k n) (va_Pc (as.map (grv Γ)) (Pre Γ μ)) (va_Qq (fun r μ' => ∃ q : Option Nat, r = q.map (gad Γ) ∧ Q q μ') (Post Γ μ.1.length k) (gA Γ)) k n (gA Γ)
def EndI (Γ : Gm) (X : Cx) (l0 k : Nat) (ty : FieldType) (Q : Int32 → Mem → Prop) : Prop := match X with
  | (p, e, R, s, m, args, below, meth, c, Qe) => Qe = MQ below (va_Qi Q (Post Γ l0 k) (gA Γ)) args s R.cells R.slots (gA Γ) ∧ meth.sig.returnType = some ty ∧ meth.locks = false ∧ (Γ.2.2.2.2.2 = true → Γ.2.2.2.1 + l0 ≤ s.heap.size) ∧ R.cells = k
def EndV (Γ : Gm) (X : Cx) (l0 k : Nat) (Q : Mem → Prop) : Prop := match X with
  | (p, e, R, s, m, args, below, meth, c, Qe) => Qe = MQ below (va_Qv Q (Post Γ l0 k) (gA Γ)) args s R.cells R.slots (gA Γ) ∧ meth.sig.returnType = none ∧ meth.locks = false ∧ (Γ.2.2.2.2.2 = true → Γ.2.2.2.1 + l0 ≤ s.heap.size) ∧ R.cells = k
def EndQ (Γ : Gm) (X : Cx) (l0 k : Nat) (Q : Option Nat → Mem → Prop) : Prop := match X with
  | (p, e, R, s, m, args, below, meth, c, Qe) => Qe = MQ below (va_Qq (fun r μ' => ∃ q : Option Nat, r = q.map (gad Γ) ∧ Q q μ') (Post Γ l0 k) (gA Γ)) args s R.cells R.slots (gA Γ) ∧ (∃ C, meth.sig.returnType = some (.object C)) ∧ meth.locks = false ∧ (Γ.2.2.2.2.2 = true → Γ.2.2.2.1 + l0 ≤ s.heap.size) ∧ R.cells = k
theorem post_of {Γ : Gm} {l0 K k cells : Nat} {s t : State} {H : Heap} {μ : Mem} {Rc : Nat} (hP : va_P Γ.2.1 vwCl (gws Γ μ) H) (hz : Γ.2.2.2.2.2 = true → s.heap.size + cells ≤ Γ.2.2.2.1 + μ.1.length ∧ cells + k = Rc) (hn : μ.1.length ≤ scr) (h0 : Γ.2.2.2.2.2 = true → Γ.2.2.2.1 + l0 ≤ s.heap.size) (hR : Rc = K) (hk : k = 0 ∨ Γ.2.2.2.2.2 = false) (ht : t.heap = H) : Post Γ l0 K μ t := by
  refine ⟨by rw [ht]; exact hP, fun hf => ?_, hn⟩
  obtain ⟨z1, z2⟩ := hz hf
  have z3 := h0 hf
  rcases hk with hk | hk
  · omega
  · rw [hf] at hk; cases hk
section Ends
variable {Γ : Gm} {X : Cx} {own : String} {cc : ByteArray} {d k n pc l0 K : Nat} {ls : List (Option Value)} {μ : Mem}
theorem w_iret (hX : GX Γ X own cc d) {ty : FieldType} {Q : Int32 → Mem → Prop} {v : Int32} (hE : EndI Γ X l0 K ty Q) (hd : decode cc pc = .ok (.ireturn, 1)) (hk : k = 0 ∨ Γ.2.2.2.2.2 = false) (hnw : narrow ty (.int v) = .int v) (hq : Q v μ) : WP Γ X k n pc ls [.int v] μ := by
  obtain ⟨p, e, R, s, m, args, below, meth, c, Qe⟩ := X
  obtain ⟨hx, hb, ho, ht, hK, hEx, hb0, hf, hlo⟩ := hX
  obtain ⟨rfl, hr, hlk, h0, hR⟩ := hE
  intro H locs cells slots a h1 h2 hP hS hz hn hl
  refine W.widen (k := R.cells) (n := R.slots) (by omega) (by omega) ?_
  exact W.zret hx hb hr hnw (fun t ht2 hW => ⟨⟨v, μ, rfl, hq, post_of hP hz hn h0 hR hk ht2⟩, hS.F ht2⟩) hS.2.2 hd hlk
theorem w_vret (hX : GX Γ X own cc d) {Q : Mem → Prop} (hE : EndV Γ X l0 K Q) (hd : decode cc pc = .ok (.return_, 1)) (hk : k = 0 ∨ Γ.2.2.2.2.2 = false) (hq : Q μ) : WP Γ X k n pc ls [] μ := by
  obtain ⟨p, e, R, s, m, args, below, meth, c, Qe⟩ := X
  obtain ⟨hx, hb, ho, ht, hK, hEx, hb0, hf, hlo⟩ := hX
  obtain ⟨rfl, hr, hlk, h0, hR⟩ := hE
  intro H locs cells slots a h1 h2 hP hS hz hn hl
  refine W.widen (k := R.cells) (n := R.slots) (by omega) (by omega) ?_
  exact W.vret hx hb hr (fun t ht2 hW => ⟨⟨μ, rfl, hq, post_of hP hz hn h0 hR hk ht2⟩, hS.F ht2⟩) hS.2.2 hd hlk
theorem w_aret (hX : GX Γ X own cc d) {Q : Option Nat → Mem → Prop} {q : Nat} (hE : EndQ Γ X l0 K Q) (hd : decode cc pc = .ok (.areturn, 1)) (hk : k = 0 ∨ Γ.2.2.2.2.2 = false) (hq : Q (some q) μ) : WP Γ X k n pc ls [.ref q] μ := by
  obtain ⟨p, e, R, s, m, args, below, meth, c, Qe⟩ := X
  obtain ⟨hx, hb, ho, ht, hK, hEx, hb0, hf, hlo⟩ := hX
  obtain ⟨rfl, ⟨C, hr⟩, hlk, h0, hR⟩ := hE
  intro H locs cells slots a h1 h2 hP hS hz hn hl
  refine W.widen (k := R.cells) (n := R.slots) (by omega) (by omega) ?_
  exact W.aret hx hb hr (Or.inl ⟨C, rfl⟩) (Or.inr ⟨gad Γ q, rfl⟩) (fun t ht2 hW => ⟨⟨some (gad Γ q), μ, rfl, ⟨some q, rfl, hq⟩, post_of hP hz hn h0 hR hk ht2⟩, hS.F ht2⟩) hS.2.2 hd hlk
theorem w_aretN (hX : GX Γ X own cc d) {Q : Option Nat → Mem → Prop} (hE : EndQ Γ X l0 K Q) (hd : decode cc pc = .ok (.areturn, 1)) (hk : k = 0 ∨ Γ.2.2.2.2.2 = false) (hq : Q none μ) : WP Γ X k n pc ls [.null] μ := by
  obtain ⟨p, e, R, s, m, args, below, meth, c, Qe⟩ := X
  obtain ⟨hx, hb, ho, ht, hK, hEx, hb0, hf, hlo⟩ := hX
  obtain ⟨rfl, ⟨C, hr⟩, hlk, h0, hR⟩ := hE
  intro H locs cells slots a h1 h2 hP hS hz hn hl
  refine W.widen (k := R.cells) (n := R.slots) (by omega) (by omega) ?_
  exact W.aret hx hb hr (Or.inl ⟨C, rfl⟩) (Or.inl rfl) (fun t ht2 hW => ⟨⟨none, μ, rfl, ⟨none, rfl, hq⟩, post_of hP hz hn h0 hR hk ht2⟩, hS.F ht2⟩) hS.2.2 hd hlk
end Ends
