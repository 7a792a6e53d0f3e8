/-! the law's own five methods: a call that may throw, caught there -/
def SpH (Γ : Gm) (M : Mth) (hh : List (Nat × Nat × Nat × Nat)) (d k n : Nat) (as : List Value) (μ : Mem) (Q : Int32 → Mem → Prop) : Prop :=
  Met Γ.1 M.1 (Cond.codeWith M.1 M.2.1 M.2.2.1 M.2.2.2.1 hh :: gG) (gRm d k n) (va_Pc (as.map (grv Γ)) (Pre Γ μ)) (va_Qi Q (Post Γ μ.1.length k) (gA Γ)) k n (gA Γ)
def HOK (M : Mth) (hh : List (Nat × Nat × Nat × Nat)) : Prop := Cond.codeWith M.1 M.2.1 M.2.2.1 M.2.2.2.1 hh ∈ gG ∧ Cond.initialized M.1.cls ∈ gG ∧ (M.1.cls ≠ "java/lang/invoke/MethodHandle" ∧ M.1.cls ≠ "java/lang/invoke/VarHandle" ∧ (parseMethodDescriptor M.1.desc).map (fun d => d.parameters.length) = some M.2.2.2.2) ∧ plainName M.1.cls = true ∧ M.2.2.1 ≤ 21
theorem SpH.of {Γ : Gm} {M : Mth} {hh : List (Nat × Nat × Nat × Nat)} {d k n : Nat} {as : List Value} {μ : Mem} {Q : Int32 → Mem → Prop} {ty : FieldType} (hM : HOK M hh) (hret : M.2.2.2.1 = some ty) (ls : List (Option Value)) (hls : lsub ls (entL as)) (hlen : (entL as).length ≤ M.2.2.1) (hl2 : ls.length ≤ M.2.2.1) (h : ∀ X : Cx, GX Γ X M.1.cls M.2.1 d → EndI Γ X μ.1.length k ty Q → X.2.2.2.2.2.2.2.2.1.exceptionTable.toList = tableOf hh → WP Γ X k n 0 ls [] μ) : SpH Γ M hh d k n as μ Q := by
  refine va_MetW (cc := M.2.1) (maxL := M.2.2.1) (ret := M.2.2.2.1) (hh := hh) hM.2.2.2.1 rfl ?_
  intro p e s m args below meth c s₁ B hml hv
  obtain ⟨rfl, hP, hK, hE, hb0, hz, hn⟩ := hv
  have hr := B.returns
  have hts := atoms_spec (ws := Cond.codeWith M.1 M.2.1 M.2.2.1 M.2.2.2.1 hh :: gG) B.pre
  have hown : s.vm.findClass M.1.cls = some m.cls := findClass_of_methodNamed B.named
  have hlocks := B.notSynchronized
  have htb := vx_table (x := M.1) B (hts _ List.mem_cons_self)
  have h0 : Γ.2.2.2.2.2 = true → Γ.2.2.2.1 + μ.1.length ≤ s.heap.size := by
    intro hf
    by_cases hl0 : μ.1.length = 0
    · omega
    · have h1 := (hP (μ.1.length - 1) _ (gws_at (by omega))).lt
      have h2 : gad Γ (μ.1.length - 1) = Γ.2.2.2.1 + (μ.1.length - 1) := by
        unfold gad
        rw [if_neg (by omega)]
      rw [show ((gad Γ (μ.1.length - 1), gcel Γ μ (μ.1.length - 1)) : Nat × va_E).1 = gad Γ (μ.1.length - 1) from rfl] at h1
      omega
  rw [lg_entry_eq]
  refine h (p, e, gRm d k n, s, m, _, below, meth, c, _) ⟨B.exec, B.bytes, hown, fun w hw => hts w (List.mem_cons_of_mem _ hw), hK, hE, hb0, Nat.le_refl _, Nat.le_refl _⟩ ⟨rfl, hr.trans hret, hlocks, h0, rfl⟩ htb s.heap [] 0 0 _ (by show 0 + k ≤ k; omega) (by show 0 + n ≤ n; omega) hP va_S.rf (fun hf => ⟨hz hf, Nat.zero_add _⟩) hn ?_
  rw [hml]
  exact lrel_entry hlen hls hl2
section Wrap
variable {Γ : Gm} {X : Cx} {own : String} {cc : ByteArray} {d k n pc : Nat} {ls : List (Option Value)} {rest As : List Value} {μ : Mem} {ix ci o d' k' n' k2 n2 l0 K : Nat} {M : Mth}
/-- a call that may throw; the handler stores what was thrown and answers 1 -/
theorem w_callVX (hX : GX Γ X own cc d) (hfr : Γ.2.2.2.2.2 = false) {Qc : Int32 → Mem → Prop} {QX : Mem → Prop} {Q : Int32 → Mem → Prop} {f9 t9 h9 c9 i9 : Nat} (hE0 : EndI Γ X l0 K .int Q) (htb : X.2.2.2.2.2.2.2.2.1.exceptionTable.toList = tableOf [(f9, t9, h9, c9)]) (hd : decode cc pc = .ok (.invokevirtual ix, 3)) (hS9 : SpX Γ M d' k' n' (.ref o :: As) μ Qc QX) (hM : MOK M) (hci : ci < 10) (hsh : μ.1[o]? = some (.inl ci)) (hl9 : Cond.methodLink own ix M.1 ∈ gG) (him : Cond.instanceMethod M.1 ∈ gG) (hse : Cond.selects (cRX ci) M.1 M.1 ∈ gG) (hna : As.length = M.2.2.2.2) (hdd : d' + 1 ≤ d) (hrm : (rest.map fun v => v.category).sum ≤ 8) (hk : k' + k2 = k) (hn0 : n' + n2 = n)
    (hcov : f9 ≤ pc ∧ pc < t9) (hc9 : c9 ≠ 0) (hcl9 : Cond.classLink own c9 nsC ∈ gG) (dh0 : decode cc h9 = .ok (.astore i9, 2)) (dh1 : decode cc (h9 + 2) = .ok (.iconst 1, 1)) (dh2 : decode cc (h9 + 3) = .ok (.ireturn, 1)) (hi9 : i9 < ls.length)
    (kx : ∀ μ2 : Mem, QX μ2 → Q (nI 1) μ2) (kk : ∀ (r : Int32) (μ2 : Mem), Qc r μ2 → WP Γ X k2 n2 (pc + 3) ls (.int r :: rest) μ2) : WP Γ X k n pc ls (As.reverse ++ .ref o :: rest) μ := by
  obtain ⟨p, e, R, s, m, args, below, meth, c, Qe⟩ := X
  obtain ⟨hx, hb, ho, ht, hK, hE, hb0, hf, hlo⟩ := hX
  obtain ⟨rfl, hr, hlk, h0, hR⟩ := hE0
  intro H locs cells slots a h1 h2 hP hS hz hn hl
  refine W_bound (fun hbd => ?_)
  have he := gws_at (Γ := Γ) (List.getElem?_eq_some_iff.mp hsh).1
  rw [gcel_obj hsh] at he
  refine vx_calli (vx_runV (As := As.map (grv Γ)) (rest := rest.map (grv Γ)) ⟨hx, hb, rfl, ho, ht⟩ hS9 ⟨callB_ok ht hM (ht _ hl9) hf hlo hdd, ht _ him, ht _ hse⟩ ⟨Pre_blind, va_recv hK hP (vwCl_at hci) he, fun U hU hW => ⟨rfl, Pre_at hP hK hE hb0 hS hz hn hbd hU hW⟩⟩ rfl (by rw [List.length_map]; exact hna) hl.1.1 (by show List.map (grv Γ) (As.reverse ++ .ref o :: rest) = _; rw [st_map, List.map_cons]; rfl) (lv_room (rest_room hrm)) hd ⟨by omega, by omega⟩) hS (fun q _ h => h) (fun q h => h) (fun q _ h => h) (fun E ce q9 u t H1 locs1 ht1 hvm hw hB hz1 hk1 hS1 hcell hv9 hcl => ?_) (fun r u t H1 locs1 ht1 hvm hw hB hz1 hk1 hS1 => ?_)
  · obtain ⟨rfl, hP1, hz2, hn2⟩ := hB
    rw [ht1] at hP1
    refine vx_catch (own := own) (name := nsC) ho [] ⟨f9, t9, h9, c9⟩ [] htb (fun z hz9 => by cases hz9) (by simp [covers, hcov.1, hcov.2]) hc9 (ht _ hcl9) (va_Nw.use rfl (hE.2.2.2.2.2 _ nsN_cast)) hcell hv9 hcl ?_
    refine lv_astore hx hb dh0 hl.1 (Nat.lt_of_lt_of_le hi9 hl.2) rfl (fun a2 hl2 => ?_)
    refine lv_iconst (v := nI 1) hx hb dh1 (by decide) ?_
    refine W.widen (k := R.cells) (n := R.slots) (by omega) (by omega) ?_
    exact W.zret hx hb hr rfl (fun t2 ht2 hW => ⟨⟨nI 1, u, rfl, kx u hw, by rw [ht2]; exact hP1, fun hf9 => (by rw [hfr] at hf9; cases hf9), hn2⟩, hS1.F ht2⟩) hS1.2.2 dh2 hlk
  · obtain ⟨hP1, hz2, hn2⟩ := hB
    rw [ht1] at hP1
    exact kk r u hw H1 locs1 (cells + k') (slots + n') a (by omega) (by omega) hP1 hS1 (hz_call hz hk hz2) hn2 hl
/-- a call of such a method of the law's -/
theorem w_callSH (hX : GX Γ X own cc d) {hh : List (Nat × Nat × Nat × Nat)} {Qc : Int32 → Mem → Prop} (hd : decode cc pc = .ok (.invokestatic ix, 3)) (hS9 : SpH Γ M hh d' k' n' As μ Qc) (hM : HOK M hh) (hl9 : Cond.methodLink own ix M.1 ∈ gG) (hst9 : Cond.static M.1 ∈ gG) (hna : As.length = M.2.2.2.2) (hdd : d' + 1 ≤ d) (hrm : (rest.map fun v => v.category).sum ≤ 8) (hk : k' + k2 = k) (hn0 : n' + n2 = n) (kk : ∀ (r : Int32) (μ2 : Mem), Qc r μ2 → WP Γ X k2 n2 (pc + 3) ls (.int r :: rest) μ2) : WP Γ X k n pc ls (As.reverse ++ rest) μ := by
  obtain ⟨p, e, R, s, m, args, below, meth, c, Q⟩ := X
  obtain ⟨hx, hb, ho, ht, hK, hE, hb0, hf, hlo⟩ := hX
  intro H locs cells slots a h1 h2 hP hS hz hn hl
  refine W_bound (fun hbd => ?_)
  have hG : GoodIn gG (va_wsS own ix M.1 (Cond.codeWith M.1 M.2.1 M.2.2.1 M.2.2.2.1 hh :: gG)) := by
    intro w hw
    have hg : w ∈ gG := by
      simp only [va_wsS, List.mem_append, List.mem_cons, List.not_mem_nil, or_false] at hw
      rcases hw with (rfl | rfl | rfl) | rfl | h
      · exact hl9
      · exact hst9
      · exact hM.2.1
      · exact hM.1
      · exact h
    exact gG_good w hg
  refine va_calli (vx_runSW (As := As.map (grv Γ)) (rest := rest.map (grv Γ)) ⟨hx, hb, rfl, ho, ht⟩ hS9 (vx_cwSW M.2.2.2.2 ht hG rfl rfl rfl hM.2.2.1 ⟨?_, ?_⟩) ⟨Pre_blind, fun U hU hW => ⟨rfl, Pre_at hP hK hE hb0 hS hz hn hbd hU hW⟩⟩ rfl (by rw [List.length_map]; exact hna) hl.1.1 (by show List.map (grv Γ) (As.reverse ++ rest) = _; rw [st_map]) (lv_room (rest_room hrm)) hd ⟨by omega, by omega⟩) hS (fun q _ h => h) (fun q h => h) (fun r u t H1 locs1 ht1 hvm hw hB hz1 hk1 hS1 => ?_)
  · show d' + 1 ≤ R.frames
    omega
  · show 8 + (M.2.2.1 + 11) + 40 * d' ≤ R.locals
    have := hM.2.2.2.2
    omega
  · obtain ⟨hP1, hz2, hn2⟩ := hB
    rw [ht1] at hP1
    exact kk r u hw H1 locs1 (cells + k') (slots + n') a (by omega) (by omega) hP1 hS1 (hz_call hz hk hz2) hn2 hl
end Wrap
