/-! methods that return or throw, and their catching -/
abbrev nsC : String := "java/util/NoSuchElementException"
def SpX (Γ : Gm) (M : Mth) (d k n : Nat) (as : List Value) (μ : Mem) (Q : Int32 → Mem → Prop) (QX : Mem → Prop) : Prop :=
  vx_Met Γ.1 M.1 (gWS M) (gRm d k n) (va_Pc (as.map (grv Γ)) (Pre Γ μ)) (va_Qi Q (Post Γ μ.1.length k) (gA Γ)) (vx_X QX (fun E μ2 t => E = nsC ∧ Post Γ μ.1.length k μ2 t) (gA Γ)) k n (gA Γ)
def EndX (Γ : Gm) (X : Cx) (l0 k : Nat) (ty : FieldType) (Q : Int32 → Mem → Prop) (QX : Mem → Prop) : Prop := match X with
  | (p, e, R, s, m, args, below, meth, c, Qe) => Qe = vx_MQ below (va_Qi Q (Post Γ l0 k) (gA Γ)) (vx_X QX (fun E μ2 t => E = nsC ∧ Post Γ l0 k μ2 t) (gA Γ)) args s R.cells R.slots (gA Γ) ∧ meth.sig.returnType = some ty ∧ meth.locks = false ∧ (∀ x ∈ c.exceptionTable.toList, False) ∧ Γ.2.2.2.2.2 = false ∧ R.cells = k
section Exc
variable {Γ : Gm} {X : Cx} {own : String} {cc : ByteArray} {d k n pc l0 K : Nat} {ls : List (Option Value)} {rest : List Value} {μ : Mem}
theorem w_iretX (hX : GX Γ X own cc d) {ty : FieldType} {Q : Int32 → Mem → Prop} {QX : Mem → Prop} {v : Int32} (hE : EndX Γ X l0 K ty Q QX) (hd : decode cc pc = .ok (.ireturn, 1)) (hnw : narrow ty (.int v) = .int v) (hq : Q v μ) : WP Γ X k n pc ls [.int v] μ := by
  obtain ⟨p, e, R, s, m, args, below, meth, c, Qe⟩ := X
  obtain ⟨hx, hb, ho, ht, hK, hEx, hb0, hf, hlo⟩ := hX
  obtain ⟨rfl, hr, hlk, htb, hfr, hR⟩ := hE
  intro H locs cells slots a h1 h2 hP hS hz hn hl
  refine vx_ret ?_
  refine W.widen (k := R.cells) (n := R.slots) (by omega) (by omega) ?_
  exact W.zret hx hb hr hnw (fun t ht2 hW => ⟨⟨v, μ, rfl, hq, by rw [ht2]; exact hP, fun hf9 => (by rw [hfr] at hf9; cases hf9), hn⟩, hS.F ht2⟩) hS.2.2 hd hlk
theorem nsL_ok {args : Array Value} {s : State} (ht : ∀ w ∈ gG, w.before args s = true) (hN : ∀ w ∈ nsN, va_Nw w s) : ∀ w ∈ nsL, w.before args s = true := by
  intro w hw
  by_cases hg : goodWord w = true
  · exact ht w (List.mem_filter.mpr ⟨nsL_in w (List.mem_filter.mpr ⟨hw, hg⟩), hg⟩)
  · have h9 : w ∈ nsN := List.mem_filter.mpr ⟨hw, by simp [hg]⟩
    exact va_Nw.use (kindW_on (nsN_k w h9)) (hN w h9)
/-- throw new NoSuchElementException() -/
theorem w_throw (hX : GX Γ X RX8 cc d) {ik : Nat} {ty : FieldType} {Q : Int32 → Mem → Prop} {QX : Mem → Prop} (hE : EndX Γ X l0 K ty Q QX) (d0 : decode cc pc = .ok (.new ik, 3)) (d3 : decode cc (pc + 3) = .ok (.dup, 1)) (d4 : decode cc (pc + 4) = .ok (.invokespecial 87, 3)) (d7 : decode cc (pc + 7) = .ok (.athrow, 1)) (hcl : Cond.classLink RX8 ik nsC ∈ gG) (hin : Cond.initialized nsC ∈ gG) (hdd : 6 ≤ d) (hq : QX μ) : WP Γ X (k + 1) (n + 6) pc ls [] μ := by
  obtain ⟨p, e, R, s, m, args, below, meth, c, Qe⟩ := X
  obtain ⟨hx, hb, ho, ht, hK, hEx, hb0, hf, hlo⟩ := hX
  obtain ⟨rfl, hr, hlk, htb, hfr, hR⟩ := hE
  intro H locs cells slots a h1 h2 hP hS hz hn hl
  refine vx_throw0 (own := RX8) (cls := nsC) (names := ["java/lang/RuntimeException", "java/lang/Exception"]) (ic := 87) (A := gA Γ) hx hb hEx.2.2.2.2.1 ho (by decide +kernel) (by decide +kernel) (ht _ hcl) (ht _ hin) (nsL_ok ht hEx.2.2.2.2.2) ?_ hEx.2.1 hEx.2.2.1 hS hl.1.1 d0 d3 d4 d7 (fun x hx9 => (htb x hx9).elim) (by show 2 + 3 < R.frames; omega) (by show 0 + (13 * (2 + 1) + 42) ≤ R.locals; omega) (by omega) (by omega) hlk (fun t hal hsz hk => ?_) hS.2.2 (by omega) (by omega)
  · intro w hw
    rcases List.mem_cons.mp hw with rfl | hw
    · rfl
    · rcases List.mem_cons.mp hw with rfl | hw
      · rfl
      · exact nsL_ot w hw
  · refine ⟨μ, hq, ⟨rfl, ?_, fun hf9 => (by rw [hfr] at hf9; cases hf9), hn⟩, ?_⟩
    · intro k9 q9 hk9
      exact (hP k9 q9 hk9).kept (hk _ (hP k9 q9 hk9).lt)
    · exact ⟨Nat.le_trans hS.1 hsz, fun q h3 h4 => by rw [hk q (Nat.lt_of_lt_of_le h3 hS.1)]; exact hS.2.1 q h3 h4⟩
end Exc
theorem SpX.of {Γ : Gm} {M : Mth} {d k n : Nat} {as : List Value} {μ : Mem} {Q : Int32 → Mem → Prop} {QX : Mem → Prop} {ty : FieldType} (hfr : Γ.2.2.2.2.2 = false) (hM : MOK M) (hret : M.2.2.2.1 = some ty) (ls : List (Option Value)) (hls : lsub ls (entL as)) (hlen : (entL as).length ≤ M.2.2.1) (hl2 : ls.length ≤ M.2.2.1) (h : ∀ X : Cx, GX Γ X M.1.cls M.2.1 d → EndX Γ X μ.1.length k ty Q QX → X.2.2.2.2.2.2.2.1.name = M.1.name → WP Γ X k n 0 ls [] μ) : SpX Γ M d k n as μ Q QX := by
  refine vx_ofW (cc := M.2.1) (maxL := M.2.2.1) (ret := M.2.2.2.1) hM.2.2.2.1 rfl ?_
  intro p e s m args below meth c s₁ B hml htb hv
  obtain ⟨rfl, hP, hK, hE, hb0, hz, hn⟩ := hv
  have hr := B.returns
  have hts := atoms_spec (ws := gWS M) B.pre
  have hown : s.vm.findClass M.1.cls = some m.cls := findClass_of_methodNamed B.named
  have hlocks := B.notSynchronized
  rw [lg_entry_eq]
  refine h (p, e, gRm d k n, s, m, _, below, meth, c, _) ⟨B.exec, B.bytes, hown, fun w hw => hts w (List.mem_cons_of_mem _ hw), hK, hE, hb0, Nat.le_refl _, Nat.le_refl _⟩ ⟨rfl, hr.trans hret, hlocks, htb, hfr, rfl⟩ (name_of_methodNamed B.named B.method).1 s.heap [] 0 0 _ (by show 0 + k ≤ k; omega) (by show 0 + n ≤ n; omega) hP va_S.rf (fun hf => ⟨hz hf, Nat.zero_add _⟩) hn ?_
  rw [hml]
  exact lrel_entry hlen hls hl2
