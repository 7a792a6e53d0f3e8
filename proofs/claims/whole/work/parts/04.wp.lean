/-- the words of the throw, those that don't go with the tables apart -/
abbrev nsL : List Cond := vx_at0 RX8 87 "java/util/NoSuchElementException" ["java/lang/RuntimeException", "java/lang/Exception"]
def nsN : List Cond := nsL.filter (fun w => !goodWord w)
def kindW (w : Cond) : Nat := match w with
  | .castable _ _ => 1
  | .declares _ => 2
  | _ => 0
theorem nsL_ot : ∀ w ∈ nsL, vx_ot w = true := by decide +kernel
theorem nsL_in : ∀ w ∈ nsL.filter goodWord, w ∈ lw_tbl := by decide +kernel
theorem nsN_in : ∀ w ∈ nsN, w ∈ lw_tbl := by decide +kernel
theorem nsN_k : ∀ w ∈ nsN, kindW w = 1 ∨ kindW w = 2 := by decide +kernel
theorem nsN_cast : Cond.castable "java/util/NoSuchElementException" "java/util/NoSuchElementException" ∈ nsN := by decide +kernel
theorem kindW_on {w : Cond} (h : kindW w = 1 ∨ kindW w = 2) : w.onTables = true := by
  cases w <;> first | rfl | (simp [kindW] at h)
theorem kindW_warm {w : Cond} (h : kindW w = 1 ∨ kindW w = 2) {s U : State} (hW : s.WarmedH U.vm) (hz : va_Nw w s) : va_Nw w U := by
  cases w <;> first | exact va_Nw.warmC hW hz | exact va_Nw.warmD hW hz | (simp [kindW] at h)
/-- the words' text, whether texts are compact, the formatter -/
def kwTx : String := "town back at way work day from to long worth person hour paper in first second after within "
def kwB : List Int32 := [116, 111, 119, 110, 32, 98, 97, 99, 107, 32, 97, 116, 32, 119, 97, 121, 32, 119, 111, 114, 107, 32, 100, 97, 121, 32, 102, 114, 111, 109, 32, 116, 111, 32, 108, 111, 110, 103, 32, 119, 111, 114, 116, 104, 32, 112, 101, 114, 115, 111, 110, 32, 104, 111, 117, 114, 32, 112, 97, 112, 101, 114, 32, 105, 110, 32, 102, 105, 114, 115, 116, 32, 115, 101, 99, 111, 110, 100, 32, 97, 102, 116, 101, 114, 32, 119, 105, 116, 104, 105, 110, 32]
def Str (Γ : Gm) (U : State) (H : Heap) : Prop := vk_R RX4 19 kwTx (Γ.2.2.2.2.1 1) U ∧ vk_S 1 [92] [kwB] (fun _ => Γ.2.2.2.2.1 1) (fun _ => Γ.2.2.2.2.1 2) (gA Γ) U H ∧ va_Z RJ0 "COMPACT_STRINGS" "Z" (.int 1) (gA Γ) U H ∧ (va_Z RJ3 "SIOOBE_FORMATTER" "Ljava/util/function/BiFunction;" .null (gA Γ) U H ∨ va_Z RJ3 "SIOOBE_FORMATTER" "Ljava/util/function/BiFunction;" (.ref (Γ.2.2.2.2.1 3)) (gA Γ) U H)
theorem Str.moved {Γ : Gm} {s U : State} {H : Heap} (ha : s.vm.Alike U.vm) (hR : vk_R RX4 19 kwTx (Γ.2.2.2.2.1 1) U) (h : Str Γ s H) : Str Γ U H := ⟨hR, vk_S.moved ha h.2.1, va_Z.moved ha h.2.2.1, h.2.2.2.elim (fun h => Or.inl (va_Z.moved ha h)) (fun h => Or.inr (va_Z.moved ha h))⟩
theorem Str.kept {Γ : Gm} {U : State} {H H1 : Heap} (h : Str Γ U H) (hq : ∀ a : Nat, a < H.size → ¬ gA Γ a → H1[a]? = H[a]?) : Str Γ U H1 := ⟨h.1, vk_S.kept h.2.1 hq, va_Z.kept h.2.2.1 hq, h.2.2.2.elim (fun h => Or.inl (va_Z.kept h hq)) (fun h => Or.inr (va_Z.kept h hq))⟩
/-- what a method's start must know of the machine beside the world -/
def Ex (Γ : Gm) (U : State) (H : Heap) : Prop :=
  (∀ q ∈ gN, va_Nw (.methodLinkNest q.1 q.2.1 q.2.2.1 q.2.2.2) U) ∧ vx_Zq Bundle.tN "UNASSIGNED_STACK" Bundle.steD (gA Γ) U H ∧ vx_Zq Bundle.tN "SUPPRESSED_SENTINEL" Bundle.listD (gA Γ) U H ∧ (va_AO "HourAgain$Clock" U ∧ Str Γ U H) ∧ Γ.1.stackTraces = false ∧ ∀ w ∈ nsN, va_Nw w U
theorem Ex.go {Γ : Gm} {s U : State} {H : Heap} {locs : List Loc} (h : Ex Γ s s.heap) (hS : va_S (gA Γ) s.heap H locs) (hW : s.WarmedH U.vm) : Ex Γ U H :=
  ⟨fun q hq => va_Nw.warmM hW (h.1 q hq), vx_Zq.moved hW.alike (vx_Zq.kept h.2.1 (fun a h1 h2 => hS.2.1 a h1 h2)), vx_Zq.moved hW.alike (vx_Zq.kept h.2.2.1 (fun a h1 h2 => hS.2.1 a h1 h2)), ⟨va_AO.moved hW.alike h.2.2.2.1.1, (h.2.2.2.1.2.kept (fun a h1 h2 => hS.2.1 a h1 h2)).moved hW.alike (vk_R.warm hW h.2.2.2.1.2.1)⟩, h.2.2.2.2.1, fun w hw => kindW_warm (nsN_k w hw) hW (h.2.2.2.2.2 w hw)⟩
theorem Ex.same {Γ : Gm} {U V : State} (hv : U.vm = V.vm) (hh : U.heap = V.heap) (h : Ex Γ U U.heap) : Ex Γ V V.heap := by
  have ha : U.vm.Alike V.vm := by rw [hv]; exact Vm.Alike.refl V.vm
  rw [← hh]
  exact ⟨fun q hq => va_Nw.same rfl hv (h.1 q hq), vx_Zq.moved ha h.2.1, vx_Zq.moved ha h.2.2.1, ⟨va_AO.moved ha h.2.2.2.1.1, h.2.2.2.1.2.moved ha (vk_R.same hv.symm h.2.2.2.1.2.1)⟩, h.2.2.2.2.1, fun w hw => va_Nw.same (kindW_on (nsN_k w hw)) hv (h.2.2.2.2.2 w hw)⟩
abbrev Cx : Type := Program × Env × Room × State × MethodId × Array Value × List Frame × Method × Code × (State → Prop)
def WP (Γ : Gm) (X : Cx) (k n pc : Nat) (ls : List (Option Value)) (st : List Value) (μ : Mem) : Prop := match X with
  | (p, e, R, s, m, args, below, meth, c, Q) => ∀ (H : Heap) (locs : List Loc) (cells slots : Nat) (a : Array Slot), cells + k ≤ R.cells → slots + n ≤ R.slots → va_P Γ.2.1 vwCl (gws Γ μ) H → va_S (gA Γ) s.heap H locs → (Γ.2.2.2.2.2 = true → s.heap.size + cells ≤ Γ.2.2.2.1 + μ.1.length ∧ cells + k = R.cells) → μ.1.length ≤ scr → lrel Γ c.maxLocals ls a → W p Γ.1 e R s m args below meth c H locs cells slots Q (F0 m pc a (st.map (grv Γ)))
def GX (Γ : Gm) (X : Cx) (own : String) (cc : ByteArray) (d : Nat) : Prop := match X with
  | (p, e, R, s, m, args, below, meth, c, Q) => p.tables.exec = Jvm.exec ∧ c.code = cc ∧ s.vm.findClass own = some m.cls ∧ (∀ w ∈ gG, w.before args s = true) ∧ va_K Γ.2.1 vwCl (gtys Γ) s ∧ Ex Γ s s.heap ∧ Γ.2.2.2.1 ≤ s.heap.size ∧ d ≤ R.frames ∧ 40 * d ≤ R.locals
section Rules
variable {Γ : Gm} {X : Cx} {own : String} {cc : ByteArray} {d k n pc : Nat} {ls : List (Option Value)} {rest : List Value} {μ : Mem}
theorem w_iconst (hX : GX Γ X own cc d) {z : Int} {v : Int32} (hd : decode cc pc = .ok (.iconst z, 1)) (hv : Int32.ofInt z = v) (kk : WP Γ X k n (pc + 1) ls (.int v :: rest) μ) : WP Γ X k n pc ls (rest) μ := by
  obtain ⟨p, e, R, s, m, args, below, meth, c, Q⟩ := X
  obtain ⟨hx, hb, ho, ht, hK, hE, hb0, hf, hlo⟩ := hX
  intro H locs cells slots a h1 h2 hP hS hz hn hl
  exact lv_iconst hx hb hd hv (kk H locs cells slots a h1 h2 hP hS hz hn hl)
theorem w_bipush (hX : GX Γ X own cc d) {z : Int} {v : Int32} (hd : decode cc pc = .ok (.bipush z, 2)) (hv : (Int8.ofInt z).toInt32 = v) (kk : WP Γ X k n (pc + 2) ls (.int v :: rest) μ) : WP Γ X k n pc ls (rest) μ := by
  obtain ⟨p, e, R, s, m, args, below, meth, c, Q⟩ := X
  obtain ⟨hx, hb, ho, ht, hK, hE, hb0, hf, hlo⟩ := hX
  intro H locs cells slots a h1 h2 hP hS hz hn hl
  exact lv_bipush hx hb hd hv (kk H locs cells slots a h1 h2 hP hS hz hn hl)
theorem w_sipush (hX : GX Γ X own cc d) {z : Int} {v : Int32} (hd : decode cc pc = .ok (.sipush z, 3)) (hv : (Int16.ofInt z).toInt32 = v) (kk : WP Γ X k n (pc + 3) ls (.int v :: rest) μ) : WP Γ X k n pc ls (rest) μ := by
  obtain ⟨p, e, R, s, m, args, below, meth, c, Q⟩ := X
  obtain ⟨hx, hb, ho, ht, hK, hE, hb0, hf, hlo⟩ := hX
  intro H locs cells slots a h1 h2 hP hS hz hn hl
  exact lv_sipush hx hb hd hv (kk H locs cells slots a h1 h2 hP hS hz hn hl)
theorem w_lconst (hX : GX Γ X own cc d) {z : Fin 2} {v : Int64} (hd : decode cc pc = .ok (.lconst z, 1)) (hv : Int64.ofNat (z : Nat) = v) (kk : WP Γ X k n (pc + 1) ls (.long v :: rest) μ) : WP Γ X k n pc ls (rest) μ := by
  obtain ⟨p, e, R, s, m, args, below, meth, c, Q⟩ := X
  obtain ⟨hx, hb, ho, ht, hK, hE, hb0, hf, hlo⟩ := hX
  intro H locs cells slots a h1 h2 hP hS hz hn hl
  exact lv_lconst hx hb hd hv (kk H locs cells slots a h1 h2 hP hS hz hn hl)
theorem w_null (hX : GX Γ X own cc d)  (hd : decode cc pc = .ok (.aconst_null, 1)) (kk : WP Γ X k n (pc + 1) ls (.null :: rest) μ) : WP Γ X k n pc ls (rest) μ := by
  obtain ⟨p, e, R, s, m, args, below, meth, c, Q⟩ := X
  obtain ⟨hx, hb, ho, ht, hK, hE, hb0, hf, hlo⟩ := hX
  intro H locs cells slots a h1 h2 hP hS hz hn hl
  exact lv_null hx hb hd (kk H locs cells slots a h1 h2 hP hS hz hn hl)
theorem w_ldc (hX : GX Γ X own cc d) {ix : Nat} {v : Int32} (hd : decode cc pc = .ok (.ldc ix, 2)) (hw : Cond.constant own ix v ∈ gG) (kk : WP Γ X k n (pc + 2) ls (.int v :: rest) μ) : WP Γ X k n pc ls (rest) μ := by
  obtain ⟨p, e, R, s, m, args, below, meth, c, Q⟩ := X
  obtain ⟨hx, hb, ho, ht, hK, hE, hb0, hf, hlo⟩ := hX
  intro H locs cells slots a h1 h2 hP hS hz hn hl
  exact lv_ldc hx hb ho (ht _ hw) hd (kk H locs cells slots a h1 h2 hP hS hz hn hl)
theorem w_ldcw (hX : GX Γ X own cc d) {ix : Nat} {v : Int32} (hd : decode cc pc = .ok (.ldc_w ix, 3)) (hw : Cond.constant own ix v ∈ gG) (kk : WP Γ X k n (pc + 3) ls (.int v :: rest) μ) : WP Γ X k n pc ls (rest) μ := by
  obtain ⟨p, e, R, s, m, args, below, meth, c, Q⟩ := X
  obtain ⟨hx, hb, ho, ht, hK, hE, hb0, hf, hlo⟩ := hX
  intro H locs cells slots a h1 h2 hP hS hz hn hl
  exact lv_ldcw hx hb ho (ht _ hw) hd (kk H locs cells slots a h1 h2 hP hS hz hn hl)
theorem w_ldc2 (hX : GX Γ X own cc d) {ix : Nat} {v : Int64} (hd : decode cc pc = .ok (.ldc2_w ix, 3)) (hw : Cond.constantLong own ix v ∈ gG) (kk : WP Γ X k n (pc + 3) ls (.long v :: rest) μ) : WP Γ X k n pc ls (rest) μ := by
  obtain ⟨p, e, R, s, m, args, below, meth, c, Q⟩ := X
  obtain ⟨hx, hb, ho, ht, hK, hE, hb0, hf, hlo⟩ := hX
  intro H locs cells slots a h1 h2 hP hS hz hn hl
  exact lv_ldc2 hx hb ho (ht _ hw) hd (kk H locs cells slots a h1 h2 hP hS hz hn hl)
theorem w_iload (hX : GX Γ X own cc d) {i : Nat} {v : Int32} (hd : decode cc pc = .ok (.iload i, 2)) (hi : ls[i]? = some (some (.int v))) (kk : WP Γ X k n (pc + 2) ls (.int v :: rest) μ) : WP Γ X k n pc ls (rest) μ := by
  obtain ⟨p, e, R, s, m, args, below, meth, c, Q⟩ := X
  obtain ⟨hx, hb, ho, ht, hK, hE, hb0, hf, hlo⟩ := hX
  intro H locs cells slots a h1 h2 hP hS hz hn hl
  exact lv_iload hx hb hd (hl.at hi) (kk H locs cells slots a h1 h2 hP hS hz hn hl)
theorem w_iload_n (hX : GX Γ X own cc d) {j : Fin 4} {i : Nat} {v : Int32} (hd : decode cc pc = .ok (.iload_n j, 1)) (hj : (j : Nat) = i) (hi : ls[i]? = some (some (.int v))) (kk : WP Γ X k n (pc + 1) ls (.int v :: rest) μ) : WP Γ X k n pc ls (rest) μ := by
  obtain ⟨p, e, R, s, m, args, below, meth, c, Q⟩ := X
  obtain ⟨hx, hb, ho, ht, hK, hE, hb0, hf, hlo⟩ := hX
  intro H locs cells slots a h1 h2 hP hS hz hn hl
  exact lv_iload_n hx hb hd hj (hl.at hi) (kk H locs cells slots a h1 h2 hP hS hz hn hl)
theorem w_lload (hX : GX Γ X own cc d) {i : Nat} {v : Int64} (hd : decode cc pc = .ok (.lload i, 2)) (hi : ls[i]? = some (some (.long v))) (kk : WP Γ X k n (pc + 2) ls (.long v :: rest) μ) : WP Γ X k n pc ls (rest) μ := by
  obtain ⟨p, e, R, s, m, args, below, meth, c, Q⟩ := X
  obtain ⟨hx, hb, ho, ht, hK, hE, hb0, hf, hlo⟩ := hX
  intro H locs cells slots a h1 h2 hP hS hz hn hl
  exact lv_lload hx hb hd (hl.at hi) (kk H locs cells slots a h1 h2 hP hS hz hn hl)
theorem w_lload_n (hX : GX Γ X own cc d) {j : Fin 4} {i : Nat} {v : Int64} (hd : decode cc pc = .ok (.lload_n j, 1)) (hj : (j : Nat) = i) (hi : ls[i]? = some (some (.long v))) (kk : WP Γ X k n (pc + 1) ls (.long v :: rest) μ) : WP Γ X k n pc ls (rest) μ := by
  obtain ⟨p, e, R, s, m, args, below, meth, c, Q⟩ := X
  obtain ⟨hx, hb, ho, ht, hK, hE, hb0, hf, hlo⟩ := hX
  intro H locs cells slots a h1 h2 hP hS hz hn hl
  exact lv_lload_n hx hb hd hj (hl.at hi) (kk H locs cells slots a h1 h2 hP hS hz hn hl)
theorem w_aload (hX : GX Γ X own cc d) {i : Nat} {v : Nat} (hd : decode cc pc = .ok (.aload i, 2)) (hi : ls[i]? = some (some (.ref v))) (kk : WP Γ X k n (pc + 2) ls (.ref v :: rest) μ) : WP Γ X k n pc ls (rest) μ := by
  obtain ⟨p, e, R, s, m, args, below, meth, c, Q⟩ := X
  obtain ⟨hx, hb, ho, ht, hK, hE, hb0, hf, hlo⟩ := hX
  intro H locs cells slots a h1 h2 hP hS hz hn hl
  exact lv_aload hx hb hd (hl.at hi) (kk H locs cells slots a h1 h2 hP hS hz hn hl)
theorem w_aload_n (hX : GX Γ X own cc d) {j : Fin 4} {i : Nat} {v : Nat} (hd : decode cc pc = .ok (.aload_n j, 1)) (hj : (j : Nat) = i) (hi : ls[i]? = some (some (.ref v))) (kk : WP Γ X k n (pc + 1) ls (.ref v :: rest) μ) : WP Γ X k n pc ls (rest) μ := by
  obtain ⟨p, e, R, s, m, args, below, meth, c, Q⟩ := X
  obtain ⟨hx, hb, ho, ht, hK, hE, hb0, hf, hlo⟩ := hX
  intro H locs cells slots a h1 h2 hP hS hz hn hl
  exact lv_aload_n hx hb hd hj (hl.at hi) (kk H locs cells slots a h1 h2 hP hS hz hn hl)
theorem w_aloadN (hX : GX Γ X own cc d) {i : Nat} (hd : decode cc pc = .ok (.aload i, 2)) (hi : ls[i]? = some (some .null)) (kk : WP Γ X k n (pc + 2) ls (.null :: rest) μ) : WP Γ X k n pc ls (rest) μ := by
  obtain ⟨p, e, R, s, m, args, below, meth, c, Q⟩ := X
  obtain ⟨hx, hb, ho, ht, hK, hE, hb0, hf, hlo⟩ := hX
  intro H locs cells slots a h1 h2 hP hS hz hn hl
  exact lv_aloadN hx hb hd (hl.at hi) (kk H locs cells slots a h1 h2 hP hS hz hn hl)
theorem w_aload_nN (hX : GX Γ X own cc d) {j : Fin 4} {i : Nat} (hd : decode cc pc = .ok (.aload_n j, 1)) (hj : (j : Nat) = i) (hi : ls[i]? = some (some .null)) (kk : WP Γ X k n (pc + 1) ls (.null :: rest) μ) : WP Γ X k n pc ls (rest) μ := by
  obtain ⟨p, e, R, s, m, args, below, meth, c, Q⟩ := X
  obtain ⟨hx, hb, ho, ht, hK, hE, hb0, hf, hlo⟩ := hX
  intro H locs cells slots a h1 h2 hP hS hz hn hl
  exact lv_aload_nN hx hb hd hj (hl.at hi) (kk H locs cells slots a h1 h2 hP hS hz hn hl)
theorem w_istore (hX : GX Γ X own cc d) {i : Nat} {v : Int32} {l2 : List (Option Value)} (hd : decode cc pc = .ok (.istore i, 2)) (hi : i < ls.length) (hp : okP ls i = true) (he : ls.set i (some (.int v)) = l2) (kk : WP Γ X k n (pc + 2) l2 rest μ) : WP Γ X k n pc ls (.int v :: rest) μ := by
  obtain ⟨p, e, R, s, m, args, below, meth, c, Q⟩ := X
  obtain ⟨hx, hb, ho, ht, hK, hE, hb0, hf, hlo⟩ := hX
  intro H locs cells slots a h1 h2 hP hS hz hn hl
  subst he
  exact lv_istore hx hb hd hl.1 (Nat.lt_of_lt_of_le hi hl.2) rfl (fun a2 hl2 => kk H locs cells slots a2 h1 h2 hP hS hz hn (lrel.store1 (v := .int v) hp hl.2 hl2))
theorem w_istore_n (hX : GX Γ X own cc d) {i : Nat} {j : Fin 4} {v : Int32} {l2 : List (Option Value)} (hd : decode cc pc = .ok (.istore_n j, 1)) (hj : (j : Nat) = i) (hi : i < ls.length) (hp : okP ls i = true) (he : ls.set i (some (.int v)) = l2) (kk : WP Γ X k n (pc + 1) l2 rest μ) : WP Γ X k n pc ls (.int v :: rest) μ := by
  obtain ⟨p, e, R, s, m, args, below, meth, c, Q⟩ := X
  obtain ⟨hx, hb, ho, ht, hK, hE, hb0, hf, hlo⟩ := hX
  intro H locs cells slots a h1 h2 hP hS hz hn hl
  subst he
  exact lv_istore_n hx hb hd hj hl.1 (Nat.lt_of_lt_of_le hi hl.2) rfl (fun a2 hl2 => kk H locs cells slots a2 h1 h2 hP hS hz hn (lrel.store1 (v := .int v) hp hl.2 hl2))
theorem w_astore (hX : GX Γ X own cc d) {i : Nat} {v : Nat} {l2 : List (Option Value)} (hd : decode cc pc = .ok (.astore i, 2)) (hi : i < ls.length) (hp : okP ls i = true) (he : ls.set i (some (.ref v)) = l2) (kk : WP Γ X k n (pc + 2) l2 rest μ) : WP Γ X k n pc ls (.ref v :: rest) μ := by
  obtain ⟨p, e, R, s, m, args, below, meth, c, Q⟩ := X
  obtain ⟨hx, hb, ho, ht, hK, hE, hb0, hf, hlo⟩ := hX
  intro H locs cells slots a h1 h2 hP hS hz hn hl
  subst he
  exact lv_astore hx hb hd hl.1 (Nat.lt_of_lt_of_le hi hl.2) rfl (fun a2 hl2 => kk H locs cells slots a2 h1 h2 hP hS hz hn (lrel.store1 (v := .ref v) hp hl.2 hl2))
theorem w_astore_n (hX : GX Γ X own cc d) {i : Nat} {j : Fin 4} {v : Nat} {l2 : List (Option Value)} (hd : decode cc pc = .ok (.astore_n j, 1)) (hj : (j : Nat) = i) (hi : i < ls.length) (hp : okP ls i = true) (he : ls.set i (some (.ref v)) = l2) (kk : WP Γ X k n (pc + 1) l2 rest μ) : WP Γ X k n pc ls (.ref v :: rest) μ := by
  obtain ⟨p, e, R, s, m, args, below, meth, c, Q⟩ := X
  obtain ⟨hx, hb, ho, ht, hK, hE, hb0, hf, hlo⟩ := hX
  intro H locs cells slots a h1 h2 hP hS hz hn hl
  subst he
  exact lv_astore_n hx hb hd hj hl.1 (Nat.lt_of_lt_of_le hi hl.2) rfl (fun a2 hl2 => kk H locs cells slots a2 h1 h2 hP hS hz hn (lrel.store1 (v := .ref v) hp hl.2 hl2))
theorem w_astoreN (hX : GX Γ X own cc d) {i : Nat}  {l2 : List (Option Value)} (hd : decode cc pc = .ok (.astore i, 2)) (hi : i < ls.length) (hp : okP ls i = true) (he : ls.set i (some (.null)) = l2) (kk : WP Γ X k n (pc + 2) l2 rest μ) : WP Γ X k n pc ls (.null :: rest) μ := by
  obtain ⟨p, e, R, s, m, args, below, meth, c, Q⟩ := X
  obtain ⟨hx, hb, ho, ht, hK, hE, hb0, hf, hlo⟩ := hX
  intro H locs cells slots a h1 h2 hP hS hz hn hl
  subst he
  exact lv_astoreN hx hb hd hl.1 (Nat.lt_of_lt_of_le hi hl.2) rfl (fun a2 hl2 => kk H locs cells slots a2 h1 h2 hP hS hz hn (lrel.store1 (v := .null) hp hl.2 hl2))
theorem w_astore_nN (hX : GX Γ X own cc d) {i : Nat} {j : Fin 4} {l2 : List (Option Value)} (hd : decode cc pc = .ok (.astore_n j, 1)) (hj : (j : Nat) = i) (hi : i < ls.length) (hp : okP ls i = true) (he : ls.set i (some (.null)) = l2) (kk : WP Γ X k n (pc + 1) l2 rest μ) : WP Γ X k n pc ls (.null :: rest) μ := by
  obtain ⟨p, e, R, s, m, args, below, meth, c, Q⟩ := X
  obtain ⟨hx, hb, ho, ht, hK, hE, hb0, hf, hlo⟩ := hX
  intro H locs cells slots a h1 h2 hP hS hz hn hl
  subst he
  exact lv_astore_nN hx hb hd hj hl.1 (Nat.lt_of_lt_of_le hi hl.2) rfl (fun a2 hl2 => kk H locs cells slots a2 h1 h2 hP hS hz hn (lrel.store1 (v := .null) hp hl.2 hl2))
theorem w_lstore (hX : GX Γ X own cc d) {i : Nat} {v : Int64} {l2 : List (Option Value)} (hd : decode cc pc = .ok (.lstore i, 2)) (hi : i + 1 < ls.length) (hp : okP ls i = true) (he : (ls.set i (some (.long v))).set (i + 1) none = l2) (kk : WP Γ X k n (pc + 2) l2 rest μ) : WP Γ X k n pc ls (.long v :: rest) μ := by
  obtain ⟨p, e, R, s, m, args, below, meth, c, Q⟩ := X
  obtain ⟨hx, hb, ho, ht, hK, hE, hb0, hf, hlo⟩ := hX
  intro H locs cells slots a h1 h2 hP hS hz hn hl
  subst he
  exact lv_lstore hx hb hd hl.1 (Nat.lt_of_lt_of_le hi hl.2) rfl (fun a2 hl2 => kk H locs cells slots a2 h1 h2 hP hS hz hn (lrel.store2 (v := .long v) hp hl.2 hl2))
theorem w_lstore_n (hX : GX Γ X own cc d) {i : Nat} {j : Fin 4} {v : Int64} {l2 : List (Option Value)} (hd : decode cc pc = .ok (.lstore_n j, 1)) (hj : (j : Nat) = i) (hi : i + 1 < ls.length) (hp : okP ls i = true) (he : (ls.set i (some (.long v))).set (i + 1) none = l2) (kk : WP Γ X k n (pc + 1) l2 rest μ) : WP Γ X k n pc ls (.long v :: rest) μ := by
  obtain ⟨p, e, R, s, m, args, below, meth, c, Q⟩ := X
  obtain ⟨hx, hb, ho, ht, hK, hE, hb0, hf, hlo⟩ := hX
  intro H locs cells slots a h1 h2 hP hS hz hn hl
  subst he
  exact lv_lstore_n hx hb hd hj hl.1 (Nat.lt_of_lt_of_le hi hl.2) rfl (fun a2 hl2 => kk H locs cells slots a2 h1 h2 hP hS hz hn (lrel.store2 (v := .long v) hp hl.2 hl2))
theorem asc_get {Γ : Gm} {ls : List (Option Value)} {i : Nat} {v : Value} (h : ls[i]? = some (some v)) : ∃ k : Nat, (asc Γ 0 ls)[k]? = some (i, grv Γ v) :=
  List.getElem?_of_mem ((asc_mem ls 0 _).mpr ⟨i, v, h, by simp⟩)
theorem w_iinc (hX : GX Γ X own cc d) {i : Nat} {z : Int} {v w : Int32} {l2 : List (Option Value)} (hd : decode cc pc = .ok (.iinc i z, 3)) (hi : ls[i]? = some (some (.int v))) (hv : v + Int32.ofInt z = w) (hp : okP ls i = true) (he : ls.set i (some (.int w)) = l2) (kk : WP Γ X k n (pc + 3) l2 rest μ) : WP Γ X k n pc ls rest μ := by
  obtain ⟨p, e, R, s, m, args, below, meth, c, Q⟩ := X
  obtain ⟨hx, hb, ho, ht, hK, hE, hb0, hf, hlo⟩ := hX
  intro H locs cells slots a h1 h2 hP hS hz hn hl
  subst he
  have hlt : i < ls.length := (List.getElem?_eq_some_iff.mp hi).1
  obtain ⟨j, hj⟩ := asc_get (Γ := Γ) hi
  exact lv_iinc hx hb hd hl.1 hj hv (Nat.lt_of_lt_of_le hlt hl.2) rfl (fun a2 hl2 => kk H locs cells slots a2 h1 h2 hP hS hz hn (lrel.store1 (v := .int w) hp hl.2 hl2))
theorem w_iadd (hX : GX Γ X own cc d) {x y : Int32} (hd : decode cc pc = .ok (.iadd, 1)) (kk : WP Γ X k n (pc + 1) ls (.int (x + y) :: rest) μ) : WP Γ X k n pc ls (.int y :: .int x :: rest) μ := by
  obtain ⟨p, e, R, s, m, args, below, meth, c, Q⟩ := X
  obtain ⟨hx, hb, ho, ht, hK, hE, hb0, hf, hlo⟩ := hX
  intro H locs cells slots a h1 h2 hP hS hz hn hl
  exact lv_iadd hx hb hd (kk H locs cells slots a h1 h2 hP hS hz hn hl)
theorem w_isub (hX : GX Γ X own cc d) {x y : Int32} (hd : decode cc pc = .ok (.isub, 1)) (kk : WP Γ X k n (pc + 1) ls (.int (x - y) :: rest) μ) : WP Γ X k n pc ls (.int y :: .int x :: rest) μ := by
  obtain ⟨p, e, R, s, m, args, below, meth, c, Q⟩ := X
  obtain ⟨hx, hb, ho, ht, hK, hE, hb0, hf, hlo⟩ := hX
  intro H locs cells slots a h1 h2 hP hS hz hn hl
  exact lv_isub hx hb hd (kk H locs cells slots a h1 h2 hP hS hz hn hl)
theorem w_imul (hX : GX Γ X own cc d) {x y : Int32} (hd : decode cc pc = .ok (.imul, 1)) (kk : WP Γ X k n (pc + 1) ls (.int (x * y) :: rest) μ) : WP Γ X k n pc ls (.int y :: .int x :: rest) μ := by
  obtain ⟨p, e, R, s, m, args, below, meth, c, Q⟩ := X
  obtain ⟨hx, hb, ho, ht, hK, hE, hb0, hf, hlo⟩ := hX
  intro H locs cells slots a h1 h2 hP hS hz hn hl
  exact lv_imul hx hb hd (kk H locs cells slots a h1 h2 hP hS hz hn hl)
theorem w_iand (hX : GX Γ X own cc d) {x y : Int32} (hd : decode cc pc = .ok (.iand, 1)) (kk : WP Γ X k n (pc + 1) ls (.int (x &&& y) :: rest) μ) : WP Γ X k n pc ls (.int y :: .int x :: rest) μ := by
  obtain ⟨p, e, R, s, m, args, below, meth, c, Q⟩ := X
  obtain ⟨hx, hb, ho, ht, hK, hE, hb0, hf, hlo⟩ := hX
  intro H locs cells slots a h1 h2 hP hS hz hn hl
  exact lv_iand hx hb hd (kk H locs cells slots a h1 h2 hP hS hz hn hl)
theorem w_ior (hX : GX Γ X own cc d) {x y : Int32} (hd : decode cc pc = .ok (.ior, 1)) (kk : WP Γ X k n (pc + 1) ls (.int (x ||| y) :: rest) μ) : WP Γ X k n pc ls (.int y :: .int x :: rest) μ := by
  obtain ⟨p, e, R, s, m, args, below, meth, c, Q⟩ := X
  obtain ⟨hx, hb, ho, ht, hK, hE, hb0, hf, hlo⟩ := hX
  intro H locs cells slots a h1 h2 hP hS hz hn hl
  exact lv_ior hx hb hd (kk H locs cells slots a h1 h2 hP hS hz hn hl)
theorem w_ixor (hX : GX Γ X own cc d) {x y : Int32} (hd : decode cc pc = .ok (.ixor, 1)) (kk : WP Γ X k n (pc + 1) ls (.int (x ^^^ y) :: rest) μ) : WP Γ X k n pc ls (.int y :: .int x :: rest) μ := by
  obtain ⟨p, e, R, s, m, args, below, meth, c, Q⟩ := X
  obtain ⟨hx, hb, ho, ht, hK, hE, hb0, hf, hlo⟩ := hX
  intro H locs cells slots a h1 h2 hP hS hz hn hl
  exact lv_ixor hx hb hd (kk H locs cells slots a h1 h2 hP hS hz hn hl)
theorem w_ishl (hX : GX Γ X own cc d) {x y : Int32} (hd : decode cc pc = .ok (.ishl, 1)) (kk : WP Γ X k n (pc + 1) ls (.int (x <<< (y &&& 31)) :: rest) μ) : WP Γ X k n pc ls (.int y :: .int x :: rest) μ := by
  obtain ⟨p, e, R, s, m, args, below, meth, c, Q⟩ := X
  obtain ⟨hx, hb, ho, ht, hK, hE, hb0, hf, hlo⟩ := hX
  intro H locs cells slots a h1 h2 hP hS hz hn hl
  exact lv_ishl hx hb hd (kk H locs cells slots a h1 h2 hP hS hz hn hl)
theorem w_ishr (hX : GX Γ X own cc d) {x y : Int32} (hd : decode cc pc = .ok (.ishr, 1)) (kk : WP Γ X k n (pc + 1) ls (.int (x >>> (y &&& 31)) :: rest) μ) : WP Γ X k n pc ls (.int y :: .int x :: rest) μ := by
  obtain ⟨p, e, R, s, m, args, below, meth, c, Q⟩ := X
  obtain ⟨hx, hb, ho, ht, hK, hE, hb0, hf, hlo⟩ := hX
  intro H locs cells slots a h1 h2 hP hS hz hn hl
  exact lv_ishr hx hb hd (kk H locs cells slots a h1 h2 hP hS hz hn hl)
theorem w_idiv (hX : GX Γ X own cc d) {x y : Int32} (hd : decode cc pc = .ok (.idiv, 1)) (hne : ¬ y = 0) (kk : WP Γ X k n (pc + 1) ls (.int (x / y) :: rest) μ) : WP Γ X k n pc ls (.int y :: .int x :: rest) μ := by
  obtain ⟨p, e, R, s, m, args, below, meth, c, Q⟩ := X
  obtain ⟨hx, hb, ho, ht, hK, hE, hb0, hf, hlo⟩ := hX
  intro H locs cells slots a h1 h2 hP hS hz hn hl
  exact lv_idiv hx hb hd hne (kk H locs cells slots a h1 h2 hP hS hz hn hl)
theorem w_irem (hX : GX Γ X own cc d) {x y : Int32} (hd : decode cc pc = .ok (.irem, 1)) (hne : ¬ y = 0) (kk : WP Γ X k n (pc + 1) ls (.int (x - x / y * y) :: rest) μ) : WP Γ X k n pc ls (.int y :: .int x :: rest) μ := by
  obtain ⟨p, e, R, s, m, args, below, meth, c, Q⟩ := X
  obtain ⟨hx, hb, ho, ht, hK, hE, hb0, hf, hlo⟩ := hX
  intro H locs cells slots a h1 h2 hP hS hz hn hl
  exact lv_irem hx hb hd hne (kk H locs cells slots a h1 h2 hP hS hz hn hl)
theorem w_ineg (hX : GX Γ X own cc d) {x : Int32} (hd : decode cc pc = .ok (.ineg, 1)) (kk : WP Γ X k n (pc + 1) ls (.int (-x) :: rest) μ) : WP Γ X k n pc ls (.int x :: rest) μ := by
  obtain ⟨p, e, R, s, m, args, below, meth, c, Q⟩ := X
  obtain ⟨hx, hb, ho, ht, hK, hE, hb0, hf, hlo⟩ := hX
  intro H locs cells slots a h1 h2 hP hS hz hn hl
  exact lv_ineg hx hb hd (kk H locs cells slots a h1 h2 hP hS hz hn hl)
theorem w_iushr (hX : GX Γ X own cc d) {x y : Int32} (hd : decode cc pc = .ok (.iushr, 1)) (kk : WP Γ X k n (pc + 1) ls (.int ((x.toUInt32 >>> (y.toUInt32 &&& Int32.toUInt32 31)).toInt32) :: rest) μ) : WP Γ X k n pc ls (.int y :: .int x :: rest) μ := by
  obtain ⟨p, e, R, s, m, args, below, meth, c, Q⟩ := X
  obtain ⟨hx, hb, ho, ht, hK, hE, hb0, hf, hlo⟩ := hX
  intro H locs cells slots a h1 h2 hP hS hz hn hl
  exact lv_iushr hx hb hd rfl (kk H locs cells slots a h1 h2 hP hS hz hn hl)
theorem w_ladd (hX : GX Γ X own cc d) {x y : Int64} (hd : decode cc pc = .ok (.ladd, 1)) (kk : WP Γ X k n (pc + 1) ls (.long (x + y) :: rest) μ) : WP Γ X k n pc ls (.long y :: .long x :: rest) μ := by
  obtain ⟨p, e, R, s, m, args, below, meth, c, Q⟩ := X
  obtain ⟨hx, hb, ho, ht, hK, hE, hb0, hf, hlo⟩ := hX
  intro H locs cells slots a h1 h2 hP hS hz hn hl
  exact lv_ladd hx hb hd (kk H locs cells slots a h1 h2 hP hS hz hn hl)
theorem w_lsub (hX : GX Γ X own cc d) {x y : Int64} (hd : decode cc pc = .ok (.lsub, 1)) (kk : WP Γ X k n (pc + 1) ls (.long (x - y) :: rest) μ) : WP Γ X k n pc ls (.long y :: .long x :: rest) μ := by
  obtain ⟨p, e, R, s, m, args, below, meth, c, Q⟩ := X
  obtain ⟨hx, hb, ho, ht, hK, hE, hb0, hf, hlo⟩ := hX
  intro H locs cells slots a h1 h2 hP hS hz hn hl
  exact lv_lsub hx hb hd (kk H locs cells slots a h1 h2 hP hS hz hn hl)
theorem w_lmul (hX : GX Γ X own cc d) {x y : Int64} (hd : decode cc pc = .ok (.lmul, 1)) (kk : WP Γ X k n (pc + 1) ls (.long (x * y) :: rest) μ) : WP Γ X k n pc ls (.long y :: .long x :: rest) μ := by
  obtain ⟨p, e, R, s, m, args, below, meth, c, Q⟩ := X
  obtain ⟨hx, hb, ho, ht, hK, hE, hb0, hf, hlo⟩ := hX
  intro H locs cells slots a h1 h2 hP hS hz hn hl
  exact lv_lmul hx hb hd (kk H locs cells slots a h1 h2 hP hS hz hn hl)
theorem w_land (hX : GX Γ X own cc d) {x y : Int64} (hd : decode cc pc = .ok (.land, 1)) (kk : WP Γ X k n (pc + 1) ls (.long (x &&& y) :: rest) μ) : WP Γ X k n pc ls (.long y :: .long x :: rest) μ := by
  obtain ⟨p, e, R, s, m, args, below, meth, c, Q⟩ := X
  obtain ⟨hx, hb, ho, ht, hK, hE, hb0, hf, hlo⟩ := hX
  intro H locs cells slots a h1 h2 hP hS hz hn hl
  exact lv_land hx hb hd (kk H locs cells slots a h1 h2 hP hS hz hn hl)
theorem w_lor (hX : GX Γ X own cc d) {x y : Int64} (hd : decode cc pc = .ok (.lor, 1)) (kk : WP Γ X k n (pc + 1) ls (.long (x ||| y) :: rest) μ) : WP Γ X k n pc ls (.long y :: .long x :: rest) μ := by
  obtain ⟨p, e, R, s, m, args, below, meth, c, Q⟩ := X
  obtain ⟨hx, hb, ho, ht, hK, hE, hb0, hf, hlo⟩ := hX
  intro H locs cells slots a h1 h2 hP hS hz hn hl
  exact lv_lor hx hb hd (kk H locs cells slots a h1 h2 hP hS hz hn hl)
theorem w_ldiv (hX : GX Γ X own cc d) {x y : Int64} (hd : decode cc pc = .ok (.ldiv, 1)) (hne : ¬ y = 0) (kk : WP Γ X k n (pc + 1) ls (.long (x / y) :: rest) μ) : WP Γ X k n pc ls (.long y :: .long x :: rest) μ := by
  obtain ⟨p, e, R, s, m, args, below, meth, c, Q⟩ := X
  obtain ⟨hx, hb, ho, ht, hK, hE, hb0, hf, hlo⟩ := hX
  intro H locs cells slots a h1 h2 hP hS hz hn hl
  exact lv_ldiv hx hb hd hne (kk H locs cells slots a h1 h2 hP hS hz hn hl)
theorem w_lushr (hX : GX Γ X own cc d) {x : Int64} {y : Int32} (hd : decode cc pc = .ok (.lushr, 1)) (kk : WP Γ X k n (pc + 1) ls (.long ((x.toUInt64 >>> (y.toInt64.toUInt64 &&& Int64.toUInt64 63)).toInt64) :: rest) μ) : WP Γ X k n pc ls (.int y :: .long x :: rest) μ := by
  obtain ⟨p, e, R, s, m, args, below, meth, c, Q⟩ := X
  obtain ⟨hx, hb, ho, ht, hK, hE, hb0, hf, hlo⟩ := hX
  intro H locs cells slots a h1 h2 hP hS hz hn hl
  exact lv_lushr hx hb hd rfl (kk H locs cells slots a h1 h2 hP hS hz hn hl)
theorem w_lshl (hX : GX Γ X own cc d) {x : Int64} {y : Int32} (hd : decode cc pc = .ok (.lshl, 1)) (kk : WP Γ X k n (pc + 1) ls (.long (x <<< (y.toInt64 &&& 63)) :: rest) μ) : WP Γ X k n pc ls (.int y :: .long x :: rest) μ := by
  obtain ⟨p, e, R, s, m, args, below, meth, c, Q⟩ := X
  obtain ⟨hx, hb, ho, ht, hK, hE, hb0, hf, hlo⟩ := hX
  intro H locs cells slots a h1 h2 hP hS hz hn hl
  exact lv_lshl hx hb hd rfl (kk H locs cells slots a h1 h2 hP hS hz hn hl)
theorem w_lshr (hX : GX Γ X own cc d) {x : Int64} {y : Int32} (hd : decode cc pc = .ok (.lshr, 1)) (kk : WP Γ X k n (pc + 1) ls (.long (x >>> (y.toInt64 &&& 63)) :: rest) μ) : WP Γ X k n pc ls (.int y :: .long x :: rest) μ := by
  obtain ⟨p, e, R, s, m, args, below, meth, c, Q⟩ := X
  obtain ⟨hx, hb, ho, ht, hK, hE, hb0, hf, hlo⟩ := hX
  intro H locs cells slots a h1 h2 hP hS hz hn hl
  exact lv_lshr hx hb hd rfl (kk H locs cells slots a h1 h2 hP hS hz hn hl)
theorem w_lcmp (hX : GX Γ X own cc d) {x y : Int64} (hd : decode cc pc = .ok (.lcmp, 1)) (kk : WP Γ X k n (pc + 1) ls (.int (lg_cmp x y) :: rest) μ) : WP Γ X k n pc ls (.long y :: .long x :: rest) μ := by
  obtain ⟨p, e, R, s, m, args, below, meth, c, Q⟩ := X
  obtain ⟨hx, hb, ho, ht, hK, hE, hb0, hf, hlo⟩ := hX
  intro H locs cells slots a h1 h2 hP hS hz hn hl
  exact W.lcmp hx hb hd (kk H locs cells slots a h1 h2 hP hS hz hn hl)
theorem w_i2l (hX : GX Γ X own cc d) {x : Int32} (hd : decode cc pc = .ok (.i2l, 1)) (kk : WP Γ X k n (pc + 1) ls (.long x.toInt64 :: rest) μ) : WP Γ X k n pc ls (.int x :: rest) μ := by
  obtain ⟨p, e, R, s, m, args, below, meth, c, Q⟩ := X
  obtain ⟨hx, hb, ho, ht, hK, hE, hb0, hf, hlo⟩ := hX
  intro H locs cells slots a h1 h2 hP hS hz hn hl
  exact lv_i2l hx hb hd rfl (kk H locs cells slots a h1 h2 hP hS hz hn hl)
theorem w_l2i (hX : GX Γ X own cc d) {x : Int64} (hd : decode cc pc = .ok (.l2i, 1)) (kk : WP Γ X k n (pc + 1) ls (.int x.toInt32 :: rest) μ) : WP Γ X k n pc ls (.long x :: rest) μ := by
  obtain ⟨p, e, R, s, m, args, below, meth, c, Q⟩ := X
  obtain ⟨hx, hb, ho, ht, hK, hE, hb0, hf, hlo⟩ := hX
  intro H locs cells slots a h1 h2 hP hS hz hn hl
  exact lv_l2i hx hb hd rfl (kk H locs cells slots a h1 h2 hP hS hz hn hl)
theorem w_i2b (hX : GX Γ X own cc d) {x : Int32} (hd : decode cc pc = .ok (.i2b, 1)) (kk : WP Γ X k n (pc + 1) ls (.int x.toInt8.toInt32 :: rest) μ) : WP Γ X k n pc ls (.int x :: rest) μ := by
  obtain ⟨p, e, R, s, m, args, below, meth, c, Q⟩ := X
  obtain ⟨hx, hb, ho, ht, hK, hE, hb0, hf, hlo⟩ := hX
  intro H locs cells slots a h1 h2 hP hS hz hn hl
  exact lv_i2b hx hb hd rfl (kk H locs cells slots a h1 h2 hP hS hz hn hl)
theorem w_dup (hX : GX Γ X own cc d) {v : Value} (hd : decode cc pc = .ok (.dup, 1)) (hv : v.category = 1) (kk : WP Γ X k n (pc + 1) ls (v :: v :: rest) μ) : WP Γ X k n pc ls (v :: rest) μ := by
  obtain ⟨p, e, R, s, m, args, below, meth, c, Q⟩ := X
  obtain ⟨hx, hb, ho, ht, hK, hE, hb0, hf, hlo⟩ := hX
  intro H locs cells slots a h1 h2 hP hS hz hn hl
  exact lv_dup hx hb hd (by rw [grv_cat]; exact hv) (kk H locs cells slots a h1 h2 hP hS hz hn hl)
theorem w_pop (hX : GX Γ X own cc d) {v : Value} (hd : decode cc pc = .ok (.pop, 1)) (hv : v.category = 1) (kk : WP Γ X k n (pc + 1) ls (rest) μ) : WP Γ X k n pc ls (v :: rest) μ := by
  obtain ⟨p, e, R, s, m, args, below, meth, c, Q⟩ := X
  obtain ⟨hx, hb, ho, ht, hK, hE, hb0, hf, hlo⟩ := hX
  intro H locs cells slots a h1 h2 hP hS hz hn hl
  exact lv_pop hx hb hd (by rw [grv_cat]; exact hv) (kk H locs cells slots a h1 h2 hP hS hz hn hl)
theorem w_dup2 (hX : GX Γ X own cc d) {v w : Value} (hd : decode cc pc = .ok (.dup2, 1)) (hv : v.category = 1) (hw : w.category = 1) (kk : WP Γ X k n (pc + 1) ls (v :: w :: v :: w :: rest) μ) : WP Γ X k n pc ls (v :: w :: rest) μ := by
  obtain ⟨p, e, R, s, m, args, below, meth, c, Q⟩ := X
  obtain ⟨hx, hb, ho, ht, hK, hE, hb0, hf, hlo⟩ := hX
  intro H locs cells slots a h1 h2 hP hS hz hn hl
  exact lv_dup2_11 hx hb hd (by rw [grv_cat]; exact hv) (by rw [grv_cat]; exact hw) (kk H locs cells slots a h1 h2 hP hS hz hn hl)
theorem w_dup2L (hX : GX Γ X own cc d) {v : Value} (hd : decode cc pc = .ok (.dup2, 1)) (hv : v.category = 2) (kk : WP Γ X k n (pc + 1) ls (v :: v :: rest) μ) : WP Γ X k n pc ls (v :: rest) μ := by
  obtain ⟨p, e, R, s, m, args, below, meth, c, Q⟩ := X
  obtain ⟨hx, hb, ho, ht, hK, hE, hb0, hf, hlo⟩ := hX
  intro H locs cells slots a h1 h2 hP hS hz hn hl
  exact lv_dup2_2 hx hb hd (by rw [grv_cat]; exact hv) (kk H locs cells slots a h1 h2 hP hS hz hn hl)
theorem w_if_eq (hX : GX Γ X own cc d) {x : Int32} {off : Int} {tgt : Nat} (hd : decode cc pc = .ok (.ifCond .eq off, 3)) (hg : (pc : Int) + off = (tgt : Int)) (kt : x = 0 → WP Γ X k n tgt ls rest μ) (kf : ¬ x = 0 → WP Γ X k n (pc + 3) ls rest μ) : WP Γ X k n pc ls (.int x :: rest) μ := by
  obtain ⟨p, e, R, s, m, args, below, meth, c, Q⟩ := X
  obtain ⟨hx, hb, ho, ht, hK, hE, hb0, hf, hlo⟩ := hX
  intro H locs cells slots a h1 h2 hP hS hz hn hl
  exact lv_if_eq hx hb hd hg (fun h => kt h H locs cells slots a h1 h2 hP hS hz hn hl) (fun h => kf h H locs cells slots a h1 h2 hP hS hz hn hl)
theorem w_icmp_eq (hX : GX Γ X own cc d) {x y : Int32} {off : Int} {tgt : Nat} (hd : decode cc pc = .ok (.if_icmp .eq off, 3)) (hg : (pc : Int) + off = (tgt : Int)) (kt : x = y → WP Γ X k n tgt ls rest μ) (kf : ¬ x = y → WP Γ X k n (pc + 3) ls rest μ) : WP Γ X k n pc ls (.int y :: .int x :: rest) μ := by
  obtain ⟨p, e, R, s, m, args, below, meth, c, Q⟩ := X
  obtain ⟨hx, hb, ho, ht, hK, hE, hb0, hf, hlo⟩ := hX
  intro H locs cells slots a h1 h2 hP hS hz hn hl
  exact lv_icmp_eq hx hb hd hg (fun h => kt h H locs cells slots a h1 h2 hP hS hz hn hl) (fun h => kf h H locs cells slots a h1 h2 hP hS hz hn hl)
theorem w_if_ne (hX : GX Γ X own cc d) {x : Int32} {off : Int} {tgt : Nat} (hd : decode cc pc = .ok (.ifCond .ne off, 3)) (hg : (pc : Int) + off = (tgt : Int)) (kt : ¬ x = 0 → WP Γ X k n tgt ls rest μ) (kf : x = 0 → WP Γ X k n (pc + 3) ls rest μ) : WP Γ X k n pc ls (.int x :: rest) μ := by
  obtain ⟨p, e, R, s, m, args, below, meth, c, Q⟩ := X
  obtain ⟨hx, hb, ho, ht, hK, hE, hb0, hf, hlo⟩ := hX
  intro H locs cells slots a h1 h2 hP hS hz hn hl
  exact lv_if_ne hx hb hd hg (fun h => kt h H locs cells slots a h1 h2 hP hS hz hn hl) (fun h => kf h H locs cells slots a h1 h2 hP hS hz hn hl)
theorem w_icmp_ne (hX : GX Γ X own cc d) {x y : Int32} {off : Int} {tgt : Nat} (hd : decode cc pc = .ok (.if_icmp .ne off, 3)) (hg : (pc : Int) + off = (tgt : Int)) (kt : ¬ x = y → WP Γ X k n tgt ls rest μ) (kf : x = y → WP Γ X k n (pc + 3) ls rest μ) : WP Γ X k n pc ls (.int y :: .int x :: rest) μ := by
  obtain ⟨p, e, R, s, m, args, below, meth, c, Q⟩ := X
  obtain ⟨hx, hb, ho, ht, hK, hE, hb0, hf, hlo⟩ := hX
  intro H locs cells slots a h1 h2 hP hS hz hn hl
  exact lv_icmp_ne hx hb hd hg (fun h => kt h H locs cells slots a h1 h2 hP hS hz hn hl) (fun h => kf h H locs cells slots a h1 h2 hP hS hz hn hl)
theorem w_if_lt (hX : GX Γ X own cc d) {x : Int32} {off : Int} {tgt : Nat} (hd : decode cc pc = .ok (.ifCond .lt off, 3)) (hg : (pc : Int) + off = (tgt : Int)) (kt : x < 0 → WP Γ X k n tgt ls rest μ) (kf : ¬ x < 0 → WP Γ X k n (pc + 3) ls rest μ) : WP Γ X k n pc ls (.int x :: rest) μ := by
  obtain ⟨p, e, R, s, m, args, below, meth, c, Q⟩ := X
  obtain ⟨hx, hb, ho, ht, hK, hE, hb0, hf, hlo⟩ := hX
  intro H locs cells slots a h1 h2 hP hS hz hn hl
  exact lv_if_lt hx hb hd hg (fun h => kt h H locs cells slots a h1 h2 hP hS hz hn hl) (fun h => kf h H locs cells slots a h1 h2 hP hS hz hn hl)
theorem w_icmp_lt (hX : GX Γ X own cc d) {x y : Int32} {off : Int} {tgt : Nat} (hd : decode cc pc = .ok (.if_icmp .lt off, 3)) (hg : (pc : Int) + off = (tgt : Int)) (kt : x < y → WP Γ X k n tgt ls rest μ) (kf : ¬ x < y → WP Γ X k n (pc + 3) ls rest μ) : WP Γ X k n pc ls (.int y :: .int x :: rest) μ := by
  obtain ⟨p, e, R, s, m, args, below, meth, c, Q⟩ := X
  obtain ⟨hx, hb, ho, ht, hK, hE, hb0, hf, hlo⟩ := hX
  intro H locs cells slots a h1 h2 hP hS hz hn hl
  exact lv_icmp_lt hx hb hd hg (fun h => kt h H locs cells slots a h1 h2 hP hS hz hn hl) (fun h => kf h H locs cells slots a h1 h2 hP hS hz hn hl)
theorem w_if_ge (hX : GX Γ X own cc d) {x : Int32} {off : Int} {tgt : Nat} (hd : decode cc pc = .ok (.ifCond .ge off, 3)) (hg : (pc : Int) + off = (tgt : Int)) (kt : 0 ≤ x → WP Γ X k n tgt ls rest μ) (kf : ¬ 0 ≤ x → WP Γ X k n (pc + 3) ls rest μ) : WP Γ X k n pc ls (.int x :: rest) μ := by
  obtain ⟨p, e, R, s, m, args, below, meth, c, Q⟩ := X
  obtain ⟨hx, hb, ho, ht, hK, hE, hb0, hf, hlo⟩ := hX
  intro H locs cells slots a h1 h2 hP hS hz hn hl
  exact lv_if_ge hx hb hd hg (fun h => kt h H locs cells slots a h1 h2 hP hS hz hn hl) (fun h => kf h H locs cells slots a h1 h2 hP hS hz hn hl)
theorem w_icmp_ge (hX : GX Γ X own cc d) {x y : Int32} {off : Int} {tgt : Nat} (hd : decode cc pc = .ok (.if_icmp .ge off, 3)) (hg : (pc : Int) + off = (tgt : Int)) (kt : y ≤ x → WP Γ X k n tgt ls rest μ) (kf : ¬ y ≤ x → WP Γ X k n (pc + 3) ls rest μ) : WP Γ X k n pc ls (.int y :: .int x :: rest) μ := by
  obtain ⟨p, e, R, s, m, args, below, meth, c, Q⟩ := X
  obtain ⟨hx, hb, ho, ht, hK, hE, hb0, hf, hlo⟩ := hX
  intro H locs cells slots a h1 h2 hP hS hz hn hl
  exact lv_icmp_ge hx hb hd hg (fun h => kt h H locs cells slots a h1 h2 hP hS hz hn hl) (fun h => kf h H locs cells slots a h1 h2 hP hS hz hn hl)
theorem w_if_gt (hX : GX Γ X own cc d) {x : Int32} {off : Int} {tgt : Nat} (hd : decode cc pc = .ok (.ifCond .gt off, 3)) (hg : (pc : Int) + off = (tgt : Int)) (kt : 0 < x → WP Γ X k n tgt ls rest μ) (kf : ¬ 0 < x → WP Γ X k n (pc + 3) ls rest μ) : WP Γ X k n pc ls (.int x :: rest) μ := by
  obtain ⟨p, e, R, s, m, args, below, meth, c, Q⟩ := X
  obtain ⟨hx, hb, ho, ht, hK, hE, hb0, hf, hlo⟩ := hX
  intro H locs cells slots a h1 h2 hP hS hz hn hl
  exact lv_if_gt hx hb hd hg (fun h => kt h H locs cells slots a h1 h2 hP hS hz hn hl) (fun h => kf h H locs cells slots a h1 h2 hP hS hz hn hl)
theorem w_icmp_gt (hX : GX Γ X own cc d) {x y : Int32} {off : Int} {tgt : Nat} (hd : decode cc pc = .ok (.if_icmp .gt off, 3)) (hg : (pc : Int) + off = (tgt : Int)) (kt : y < x → WP Γ X k n tgt ls rest μ) (kf : ¬ y < x → WP Γ X k n (pc + 3) ls rest μ) : WP Γ X k n pc ls (.int y :: .int x :: rest) μ := by
  obtain ⟨p, e, R, s, m, args, below, meth, c, Q⟩ := X
  obtain ⟨hx, hb, ho, ht, hK, hE, hb0, hf, hlo⟩ := hX
  intro H locs cells slots a h1 h2 hP hS hz hn hl
  exact lv_icmp_gt hx hb hd hg (fun h => kt h H locs cells slots a h1 h2 hP hS hz hn hl) (fun h => kf h H locs cells slots a h1 h2 hP hS hz hn hl)
theorem w_if_le (hX : GX Γ X own cc d) {x : Int32} {off : Int} {tgt : Nat} (hd : decode cc pc = .ok (.ifCond .le off, 3)) (hg : (pc : Int) + off = (tgt : Int)) (kt : x ≤ 0 → WP Γ X k n tgt ls rest μ) (kf : ¬ x ≤ 0 → WP Γ X k n (pc + 3) ls rest μ) : WP Γ X k n pc ls (.int x :: rest) μ := by
  obtain ⟨p, e, R, s, m, args, below, meth, c, Q⟩ := X
  obtain ⟨hx, hb, ho, ht, hK, hE, hb0, hf, hlo⟩ := hX
  intro H locs cells slots a h1 h2 hP hS hz hn hl
  exact lv_if_le hx hb hd hg (fun h => kt h H locs cells slots a h1 h2 hP hS hz hn hl) (fun h => kf h H locs cells slots a h1 h2 hP hS hz hn hl)
theorem w_icmp_le (hX : GX Γ X own cc d) {x y : Int32} {off : Int} {tgt : Nat} (hd : decode cc pc = .ok (.if_icmp .le off, 3)) (hg : (pc : Int) + off = (tgt : Int)) (kt : x ≤ y → WP Γ X k n tgt ls rest μ) (kf : ¬ x ≤ y → WP Γ X k n (pc + 3) ls rest μ) : WP Γ X k n pc ls (.int y :: .int x :: rest) μ := by
  obtain ⟨p, e, R, s, m, args, below, meth, c, Q⟩ := X
  obtain ⟨hx, hb, ho, ht, hK, hE, hb0, hf, hlo⟩ := hX
  intro H locs cells slots a h1 h2 hP hS hz hn hl
  exact lv_icmp_le hx hb hd hg (fun h => kt h H locs cells slots a h1 h2 hP hS hz hn hl) (fun h => kf h H locs cells slots a h1 h2 hP hS hz hn hl)
theorem w_goto (hX : GX Γ X own cc d) {off : Int} {tgt : Nat} (hd : decode cc pc = .ok (.goto off, 3)) (hg : (pc : Int) + off = (tgt : Int)) (kk : WP Γ X k n tgt ls rest μ) : WP Γ X k n pc ls rest μ := by
  obtain ⟨p, e, R, s, m, args, below, meth, c, Q⟩ := X
  obtain ⟨hx, hb, ho, ht, hK, hE, hb0, hf, hlo⟩ := hX
  intro H locs cells slots a h1 h2 hP hS hz hn hl
  exact lv_goto hx hb hd hg (kk H locs cells slots a h1 h2 hP hS hz hn hl)
theorem w_ifnull (hX : GX Γ X own cc d) {x : Nat} {off : Int} (hd : decode cc pc = .ok (.ifnull off, 3)) (kk : WP Γ X k n (pc + 3) ls rest μ) : WP Γ X k n pc ls (.ref x :: rest) μ := by
  obtain ⟨p, e, R, s, m, args, below, meth, c, Q⟩ := X
  obtain ⟨hx, hb, ho, ht, hK, hE, hb0, hf, hlo⟩ := hX
  intro H locs cells slots a h1 h2 hP hS hz hn hl
  exact lv_ifnull hx hb hd (kk H locs cells slots a h1 h2 hP hS hz hn hl)
theorem w_ifnullN (hX : GX Γ X own cc d) {off : Int} {tgt : Nat} (hd : decode cc pc = .ok (.ifnull off, 3)) (hg : (pc : Int) + off = (tgt : Int)) (kk : WP Γ X k n tgt ls rest μ) : WP Γ X k n pc ls (.null :: rest) μ := by
  obtain ⟨p, e, R, s, m, args, below, meth, c, Q⟩ := X
  obtain ⟨hx, hb, ho, ht, hK, hE, hb0, hf, hlo⟩ := hX
  intro H locs cells slots a h1 h2 hP hS hz hn hl
  exact lv_ifnullN hx hb hd hg (kk H locs cells slots a h1 h2 hP hS hz hn hl)
theorem w_ifnonnull (hX : GX Γ X own cc d) {x : Nat} {off : Int} {tgt : Nat} (hd : decode cc pc = .ok (.ifnonnull off, 3)) (hg : (pc : Int) + off = (tgt : Int)) (kk : WP Γ X k n tgt ls rest μ) : WP Γ X k n pc ls (.ref x :: rest) μ := by
  obtain ⟨p, e, R, s, m, args, below, meth, c, Q⟩ := X
  obtain ⟨hx, hb, ho, ht, hK, hE, hb0, hf, hlo⟩ := hX
  intro H locs cells slots a h1 h2 hP hS hz hn hl
  exact lv_ifnonnull hx hb hd hg (kk H locs cells slots a h1 h2 hP hS hz hn hl)
theorem w_ifnonnullN (hX : GX Γ X own cc d) {off : Int} (hd : decode cc pc = .ok (.ifnonnull off, 3)) (kk : WP Γ X k n (pc + 3) ls rest μ) : WP Γ X k n pc ls (.null :: rest) μ := by
  obtain ⟨p, e, R, s, m, args, below, meth, c, Q⟩ := X
  obtain ⟨hx, hb, ho, ht, hK, hE, hb0, hf, hlo⟩ := hX
  intro H locs cells slots a h1 h2 hP hS hz hn hl
  exact lv_ifnonnullN hx hb hd (kk H locs cells slots a h1 h2 hP hS hz hn hl)
theorem w_tableIn (hX : GX Γ X own cc d) {dflt lo hi : Int} {offs : Array Int} {len : Nat} {x : Int32} {off : Int} {tgt : Nat} (hd : decode cc pc = .ok (.tableswitch dflt lo hi offs, len)) (g1 : ¬ x.toInt < lo) (g2 : ¬ hi < x.toInt) (hq : offs[(x.toInt - lo).toNat]? = some off) (hg : (pc : Int) + off = (tgt : Int)) (kk : WP Γ X k n tgt ls rest μ) : WP Γ X k n pc ls (.int x :: rest) μ := by
  obtain ⟨p, e, R, s, m, args, below, meth, c, Q⟩ := X
  obtain ⟨hx, hb, ho, ht, hK, hE, hb0, hf, hlo⟩ := hX
  intro H locs cells slots a h1 h2 hP hS hz hn hl
  exact lv_tableIn hx hb hd g1 g2 hq hg (kk H locs cells slots a h1 h2 hP hS hz hn hl)
theorem w_tableOut (hX : GX Γ X own cc d) {dflt lo hi : Int} {offs : Array Int} {len : Nat} {x : Int32} {tgt : Nat} (hd : decode cc pc = .ok (.tableswitch dflt lo hi offs, len)) (g1 : x.toInt < lo ∨ hi < x.toInt) (hg : (pc : Int) + dflt = (tgt : Int)) (kk : WP Γ X k n tgt ls rest μ) : WP Γ X k n pc ls (.int x :: rest) μ := by
  obtain ⟨p, e, R, s, m, args, below, meth, c, Q⟩ := X
  obtain ⟨hx, hb, ho, ht, hK, hE, hb0, hf, hlo⟩ := hX
  intro H locs cells slots a h1 h2 hP hS hz hn hl
  exact lv_tableOut hx hb hd g1 hg (kk H locs cells slots a h1 h2 hP hS hz hn hl)
theorem w_sub {l2 : List (Option Value)} (hs : lsub l2 ls) (hln : l2.length ≤ ls.length) (kk : WP Γ X k n pc l2 rest μ) : WP Γ X k n pc ls rest μ := by
  obtain ⟨p, e, R, s, m, args, below, meth, c, Q⟩ := X
  intro H locs cells slots a h1 h2 hP hS hz hn hl
  exact kk H locs cells slots a h1 h2 hP hS hz hn (hl.sub hs hln)
theorem w_budget {k2 n2 : Nat} (hfr : Γ.2.2.2.2.2 = false) (hk : k2 ≤ k) (hn2 : n2 ≤ n) (kk : WP Γ X k2 n2 pc ls rest μ) : WP Γ X k n pc ls rest μ := by
  obtain ⟨p, e, R, s, m, args, below, meth, c, Q⟩ := X
  intro H locs cells slots a h1 h2 hP hS hz hn hl
  exact kk H locs cells slots a (by omega) (by omega) hP hS (fun h => by rw [hfr] at h; cases h) hn hl
end Rules
