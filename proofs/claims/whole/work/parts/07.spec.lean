theorem W_bound {p : Program} {l : Launch} {e : Env} {R : Room} {s : State} {m : MethodId} {args : Array Value} {below : List Frame} {meth : Method} {c : Code} {H : Heap} {locs : List Loc} {cells slots : Nat} {Q : State → Prop} {g : JFrame} (h : H.size ≤ s.heap.size + cells → W p l e R s m args below meth c H locs cells slots Q g) : W p l e R s m args below meth c H locs cells slots Q g := by
  intro T hT X
  have h1 : T.heap.size ≤ s.heap.size + cells := X.same.2.2.1
  rw [hT] at h1
  exact h h1 T hT X
theorem gWS_good {M : Mth} (hM : MOK M) : GoodIn gG (gWS M) := by
  intro w hw
  rcases List.mem_cons.mp hw with rfl | h
  · exact ⟨hM.1, good_of_word (List.mem_filter.mp hM.1).2⟩
  · exact gG_good w h
theorem Pre_blind {Γ : Gm} {μ : Mem} {av : List Value} : FrameBlind (va_Pc av (Pre Γ μ)) := by
  intro a U g mk h
  obtain ⟨q0, qP, qK, qE, q1, q2, q3⟩ := h
  exact ⟨q0, qP, va_K.moved (u := U) (U := U.calling g mk a) (Vm.Alike.refl U.vm) qK, Ex.same (U := U) (V := U.calling g mk a) rfl rfl qE, q1, q2, q3⟩
theorem Pre_at {Γ : Gm} {μ : Mem} {s U : State} {H : Heap} {locs : List Loc} {cells k Rc : Nat} (hP : va_P Γ.2.1 vwCl (gws Γ μ) H) (hK : va_K Γ.2.1 vwCl (gtys Γ) s) (hE : Ex Γ s s.heap) (hb0 : Γ.2.2.2.1 ≤ s.heap.size) (hS : va_S (gA Γ) s.heap H locs) (hz : Γ.2.2.2.2.2 = true → s.heap.size + cells ≤ Γ.2.2.2.1 + μ.1.length ∧ cells + k = Rc) (hn : μ.1.length ≤ scr) (hbd : H.size ≤ s.heap.size + cells) (hU : U.heap = H) (hW : s.WarmedH U.vm) : Pre Γ μ U := by
  subst hU
  exact ⟨hP, va_K.moved hW.alike hK, hE.go hS hW, Nat.le_trans hb0 hS.1, fun hf => Nat.le_trans hbd (hz hf).1, hn⟩
theorem hz_call {Γ : Gm} {l0 l1 k2 k' k cells sz Rc : Nat} (hz : Γ.2.2.2.2.2 = true → sz + cells ≤ Γ.2.2.2.1 + l0 ∧ cells + k = Rc) (hk : k' + k2 = k) (hp : Γ.2.2.2.2.2 = true → l0 + k' ≤ l1) : Γ.2.2.2.2.2 = true → sz + (cells + k') ≤ Γ.2.2.2.1 + l1 ∧ cells + k' + k2 = Rc := by
  intro hf
  have h1 := hz hf
  have h2 := hp hf
  omega
theorem callB_ok {R : Room} {s : State} {args : Array Value} {own : String} {ix d d' k' n' : Nat} {M : Mth} (ht : ∀ w ∈ gG, w.before args s = true) (hM : MOK M) (hl : (Cond.methodLink own ix M.1).before args s = true) (hf : d ≤ R.frames) (hlo : 40 * d ≤ R.locals) (hdd : d' + 1 ≤ d) : CallB R s args own ix M.1 M.2.1 M.2.2.1 M.2.2.2.1 (gWS M) (gRm d' k' n') k' n' M.2.2.2.2 := by
  refine callB_of M.2.2.2.2 ht (gWS_good hM) rfl rfl rfl (ht _ hM.2.1) hl hM.2.2.1 ⟨?_, ?_⟩
  · show d' + 1 ≤ R.frames
    omega
  · show 8 + (M.2.2.1 + 11) + 40 * d' ≤ R.locals
    have := hM.2.2.2.2
    omega
theorem callN_ok {R : Room} {s : State} {args : Array Value} {own host : String} {ix d d' k' n' : Nat} {M : Mth} (ht : ∀ w ∈ gG, w.before args s = true) (hM : MOK M) (hl : va_Nw (.methodLinkNest own ix M.1 host) s) (hf : d ≤ R.frames) (hlo : 40 * d ≤ R.locals) (hdd : d' + 1 ≤ d) : va_CN R s args own ix M.1 host M.2.1 M.2.2.1 M.2.2.2.1 (gWS M) (gRm d' k' n') k' n' M.2.2.2.2 := by
  refine va_cnB M.2.2.2.2 ht (gWS_good hM) rfl rfl rfl hl (ht _ hM.2.1) hM.2.2.1 ⟨?_, ?_⟩
  · show d' + 1 ≤ R.frames
    omega
  · show 8 + (M.2.2.1 + 11) + 40 * d' ≤ R.locals
    have := hM.2.2.2.2
    omega
theorem rest_room {Γ : Gm} {rest : List Value} (h : (rest.map fun v => v.category).sum ≤ 8) : ((rest.map (grv Γ)).map fun v => v.category).sum ≤ 8 := by
  rw [List.map_map]
  rw [show ((fun v : Value => v.category) ∘ grv Γ) = fun v => v.category from funext fun v => grv_cat v]
  exact h
theorem st_map {Γ : Gm} {As rest : List Value} : (As.reverse ++ rest).map (grv Γ) = (As.map (grv Γ)).reverse ++ rest.map (grv Γ) := by
  simp
theorem rf_map {Γ : Gm} (q : Option Nat) : va_rf (q.map (gad Γ)) = grv Γ (va_rf q) := by
  cases q <;> rfl
section CallRules
variable {Γ : Gm} {X : Cx} {own : String} {cc : ByteArray} {d k n pc : Nat} {ls : List (Option Value)} {rest As : List Value} {μ : Mem} {ix ci o d' k' n' k2 n2 : Nat} {M : Mth}
theorem w_callVI (hX : GX Γ X own cc d) {Qc : Int32 → Mem → Prop} (hd : decode cc pc = .ok (.invokevirtual ix, 3)) (hS9 : SpI Γ M d' k' n' (.ref o :: As) μ Qc) (hM : MOK M) (hci : ci < 10) (hsh : μ.1[o]? = some (.inl ci)) (hl9 : Cond.methodLink own ix M.1 ∈ gG) (him : Cond.instanceMethod M.1 ∈ gG) (hse : Cond.selects (cRX ci) M.1 M.1 ∈ gG) (hna : As.length = M.2.2.2.2) (hdd : d' + 1 ≤ d) (hrm : (rest.map fun v => v.category).sum ≤ 8) (hk : k' + k2 = k) (hn0 : n' + n2 = n) (kk : ∀ (r : Int32) (μ2 : Mem), Qc r μ2 → WP Γ X k2 n2 (pc + 3) ls (.int r :: rest) μ2) : WP Γ X k n pc ls (As.reverse ++ .ref o :: rest) μ := by
  obtain ⟨p, e, R, s, m, args, below, meth, c, Q⟩ := X
  obtain ⟨hx, hb, ho, ht, hK, hE, hb0, hf, hlo⟩ := hX
  intro H locs cells slots a h1 h2 hP hS hz hn hl
  refine W_bound (fun hbd => ?_)
  have he := gws_at (Γ := Γ) (List.getElem?_eq_some_iff.mp hsh).1
  rw [gcel_obj hsh] at he
  refine va_calli (va_runV (As := As.map (grv Γ)) (rest := rest.map (grv Γ)) ⟨hx, hb, rfl, ho, ht⟩ hS9 ⟨callB_ok ht hM (ht _ hl9) hf hlo hdd, ht _ him, ht _ hse⟩ ⟨Pre_blind, va_recv hK hP (vwCl_at hci) he, fun U hU hW => ⟨rfl, Pre_at hP hK hE hb0 hS hz hn hbd hU hW⟩⟩ rfl (by rw [List.length_map]; exact hna) hl.1.1 (by show List.map (grv Γ) (As.reverse ++ .ref o :: rest) = _; rw [st_map, List.map_cons]; rfl) (lv_room (rest_room hrm)) hd ⟨by omega, by omega⟩) hS (fun q _ h => h) (fun q h => h) (fun r u t H1 locs1 ht1 hvm hw hB hz1 hk1 hS1 => ?_)
  obtain ⟨hP1, hz2, hn2⟩ := hB
  rw [ht1] at hP1
  exact kk r u hw H1 locs1 (cells + k') (slots + n') a (by omega) (by omega) hP1 hS1 (hz_call hz hk hz2) hn2 hl
theorem w_callVV (hX : GX Γ X own cc d) {Qc : Mem → Prop} (hd : decode cc pc = .ok (.invokevirtual ix, 3)) (hS9 : SpV Γ M d' k' n' (.ref o :: As) μ Qc) (hM : MOK M) (hci : ci < 10) (hsh : μ.1[o]? = some (.inl ci)) (hl9 : Cond.methodLink own ix M.1 ∈ gG) (him : Cond.instanceMethod M.1 ∈ gG) (hse : Cond.selects (cRX ci) M.1 M.1 ∈ gG) (hna : As.length = M.2.2.2.2) (hdd : d' + 1 ≤ d) (hrm : (rest.map fun v => v.category).sum ≤ 8) (hk : k' + k2 = k) (hn0 : n' + n2 = n) (kk : ∀ (μ2 : Mem), Qc μ2 → WP Γ X k2 n2 (pc + 3) ls rest μ2) : WP Γ X k n pc ls (As.reverse ++ .ref o :: rest) μ := by
  obtain ⟨p, e, R, s, m, args, below, meth, c, Q⟩ := X
  obtain ⟨hx, hb, ho, ht, hK, hE, hb0, hf, hlo⟩ := hX
  intro H locs cells slots a h1 h2 hP hS hz hn hl
  refine W_bound (fun hbd => ?_)
  have he := gws_at (Γ := Γ) (List.getElem?_eq_some_iff.mp hsh).1
  rw [gcel_obj hsh] at he
  refine va_callv (va_runV (As := As.map (grv Γ)) (rest := rest.map (grv Γ)) ⟨hx, hb, rfl, ho, ht⟩ hS9 ⟨callB_ok ht hM (ht _ hl9) hf hlo hdd, ht _ him, ht _ hse⟩ ⟨Pre_blind, va_recv hK hP (vwCl_at hci) he, fun U hU hW => ⟨rfl, Pre_at hP hK hE hb0 hS hz hn hbd hU hW⟩⟩ rfl (by rw [List.length_map]; exact hna) hl.1.1 (by show List.map (grv Γ) (As.reverse ++ .ref o :: rest) = _; rw [st_map, List.map_cons]; rfl) (lv_room (rest_room hrm)) hd ⟨by omega, by omega⟩) hS (fun q _ h => h) (fun q h => h) (fun u t H1 locs1 ht1 hvm hw hB hz1 hk1 hS1 => ?_)
  obtain ⟨hP1, hz2, hn2⟩ := hB
  rw [ht1] at hP1
  exact kk u hw H1 locs1 (cells + k') (slots + n') a (by omega) (by omega) hP1 hS1 (hz_call hz hk hz2) hn2 hl
theorem w_callVQ (hX : GX Γ X own cc d) {Qc : Option Nat → Mem → Prop} (hd : decode cc pc = .ok (.invokevirtual ix, 3)) (hS9 : SpQ Γ M d' k' n' (.ref o :: As) μ Qc) (hM : MOK M) (hci : ci < 10) (hsh : μ.1[o]? = some (.inl ci)) (hl9 : Cond.methodLink own ix M.1 ∈ gG) (him : Cond.instanceMethod M.1 ∈ gG) (hse : Cond.selects (cRX ci) M.1 M.1 ∈ gG) (hna : As.length = M.2.2.2.2) (hdd : d' + 1 ≤ d) (hrm : (rest.map fun v => v.category).sum ≤ 8) (hk : k' + k2 = k) (hn0 : n' + n2 = n) (kk : ∀ (r : Option Nat) (μ2 : Mem), Qc r μ2 → WP Γ X k2 n2 (pc + 3) ls (va_rf r :: rest) μ2) : WP Γ X k n pc ls (As.reverse ++ .ref o :: rest) μ := by
  obtain ⟨p, e, R, s, m, args, below, meth, c, Q⟩ := X
  obtain ⟨hx, hb, ho, ht, hK, hE, hb0, hf, hlo⟩ := hX
  intro H locs cells slots a h1 h2 hP hS hz hn hl
  refine W_bound (fun hbd => ?_)
  have he := gws_at (Γ := Γ) (List.getElem?_eq_some_iff.mp hsh).1
  rw [gcel_obj hsh] at he
  refine va_callq (va_runV (As := As.map (grv Γ)) (rest := rest.map (grv Γ)) ⟨hx, hb, rfl, ho, ht⟩ hS9 ⟨callB_ok ht hM (ht _ hl9) hf hlo hdd, ht _ him, ht _ hse⟩ ⟨Pre_blind, va_recv hK hP (vwCl_at hci) he, fun U hU hW => ⟨rfl, Pre_at hP hK hE hb0 hS hz hn hbd hU hW⟩⟩ rfl (by rw [List.length_map]; exact hna) hl.1.1 (by show List.map (grv Γ) (As.reverse ++ .ref o :: rest) = _; rw [st_map, List.map_cons]; rfl) (lv_room (rest_room hrm)) hd ⟨by omega, by omega⟩) hS (fun q _ h => h) (fun q h => h) (fun r u t H1 locs1 ht1 hvm hw hB hz1 hk1 hS1 => ?_)
  obtain ⟨hP1, hz2, hn2⟩ := hB
  rw [ht1] at hP1
  obtain ⟨q9, rfl, hw⟩ := hw
  rw [rf_map]
  exact kk q9 u hw H1 locs1 (cells + k') (slots + n') a (by omega) (by omega) hP1 hS1 (hz_call hz hk hz2) hn2 hl
theorem w_callSI (hX : GX Γ X own cc d) {Qc : Int32 → Mem → Prop} (hd : decode cc pc = .ok (.invokestatic ix, 3)) (hS9 : SpI Γ M d' k' n' As μ Qc) (hM : MOK M) (hl9 : Cond.methodLink own ix M.1 ∈ gG) (hst9 : Cond.static M.1 ∈ gG) (hna : As.length = M.2.2.2.2) (hdd : d' + 1 ≤ d) (hrm : (rest.map fun v => v.category).sum ≤ 8) (hk : k' + k2 = k) (hn0 : n' + n2 = n) (kk : ∀ (r : Int32) (μ2 : Mem), Qc r μ2 → WP Γ X k2 n2 (pc + 3) ls (.int r :: rest) μ2) : WP Γ X k n pc ls (As.reverse ++ rest) μ := by
  obtain ⟨p, e, R, s, m, args, below, meth, c, Q⟩ := X
  obtain ⟨hx, hb, ho, ht, hK, hE, hb0, hf, hlo⟩ := hX
  intro H locs cells slots a h1 h2 hP hS hz hn hl
  refine W_bound (fun hbd => ?_)
  refine va_calli (va_runS (As := As.map (grv Γ)) (rest := rest.map (grv Γ)) ⟨hx, hb, rfl, ho, ht⟩ hS9 ⟨callB_ok ht hM (ht _ hl9) hf hlo hdd, ht _ hst9⟩ ⟨Pre_blind, fun U hU hW => ⟨rfl, Pre_at hP hK hE hb0 hS hz hn hbd hU hW⟩⟩ rfl (by rw [List.length_map]; exact hna) hl.1.1 (by show List.map (grv Γ) (As.reverse ++ rest) = _; rw [st_map]) (lv_room (rest_room hrm)) hd ⟨by omega, by omega⟩) hS (fun q _ h => h) (fun q h => h) (fun r u t H1 locs1 ht1 hvm hw hB hz1 hk1 hS1 => ?_)
  obtain ⟨hP1, hz2, hn2⟩ := hB
  rw [ht1] at hP1
  exact kk r u hw H1 locs1 (cells + k') (slots + n') a (by omega) (by omega) hP1 hS1 (hz_call hz hk hz2) hn2 hl
theorem w_callSV (hX : GX Γ X own cc d) {Qc : Mem → Prop} (hd : decode cc pc = .ok (.invokestatic ix, 3)) (hS9 : SpV Γ M d' k' n' As μ Qc) (hM : MOK M) (hl9 : Cond.methodLink own ix M.1 ∈ gG) (hst9 : Cond.static M.1 ∈ gG) (hna : As.length = M.2.2.2.2) (hdd : d' + 1 ≤ d) (hrm : (rest.map fun v => v.category).sum ≤ 8) (hk : k' + k2 = k) (hn0 : n' + n2 = n) (kk : ∀ (μ2 : Mem), Qc μ2 → WP Γ X k2 n2 (pc + 3) ls rest μ2) : WP Γ X k n pc ls (As.reverse ++ rest) μ := by
  obtain ⟨p, e, R, s, m, args, below, meth, c, Q⟩ := X
  obtain ⟨hx, hb, ho, ht, hK, hE, hb0, hf, hlo⟩ := hX
  intro H locs cells slots a h1 h2 hP hS hz hn hl
  refine W_bound (fun hbd => ?_)
  refine va_callv (va_runS (As := As.map (grv Γ)) (rest := rest.map (grv Γ)) ⟨hx, hb, rfl, ho, ht⟩ hS9 ⟨callB_ok ht hM (ht _ hl9) hf hlo hdd, ht _ hst9⟩ ⟨Pre_blind, fun U hU hW => ⟨rfl, Pre_at hP hK hE hb0 hS hz hn hbd hU hW⟩⟩ rfl (by rw [List.length_map]; exact hna) hl.1.1 (by show List.map (grv Γ) (As.reverse ++ rest) = _; rw [st_map]) (lv_room (rest_room hrm)) hd ⟨by omega, by omega⟩) hS (fun q _ h => h) (fun q h => h) (fun u t H1 locs1 ht1 hvm hw hB hz1 hk1 hS1 => ?_)
  obtain ⟨hP1, hz2, hn2⟩ := hB
  rw [ht1] at hP1
  exact kk u hw H1 locs1 (cells + k') (slots + n') a (by omega) (by omega) hP1 hS1 (hz_call hz hk hz2) hn2 hl
theorem w_callSNI (hX : GX Γ X own cc d) {Qc : Int32 → Mem → Prop} (hd : decode cc pc = .ok (.invokestatic ix, 3)) (hS9 : SpI Γ M d' k' n' As μ Qc) (hM : MOK M) {host : String} (hl9 : (own, ix, M.1, host) ∈ gN) (hst9 : Cond.static M.1 ∈ gG) (hna : As.length = M.2.2.2.2) (hdd : d' + 1 ≤ d) (hrm : (rest.map fun v => v.category).sum ≤ 8) (hk : k' + k2 = k) (hn0 : n' + n2 = n) (kk : ∀ (r : Int32) (μ2 : Mem), Qc r μ2 → WP Γ X k2 n2 (pc + 3) ls (.int r :: rest) μ2) : WP Γ X k n pc ls (As.reverse ++ rest) μ := by
  obtain ⟨p, e, R, s, m, args, below, meth, c, Q⟩ := X
  obtain ⟨hx, hb, ho, ht, hK, hE, hb0, hf, hlo⟩ := hX
  intro H locs cells slots a h1 h2 hP hS hz hn hl
  refine W_bound (fun hbd => ?_)
  refine va_calli (va_runSN (As := As.map (grv Γ)) (rest := rest.map (grv Γ)) ⟨hx, hb, rfl, ho, ht⟩ hS9 ⟨callN_ok ht hM (hE.1 _ hl9) hf hlo hdd, ht _ hst9, trivial⟩ ⟨Pre_blind, fun U hU hW => ⟨rfl, Pre_at hP hK hE hb0 hS hz hn hbd hU hW⟩⟩ rfl (by rw [List.length_map]; exact hna) hl.1.1 (by show List.map (grv Γ) (As.reverse ++ rest) = _; rw [st_map]) (lv_room (rest_room hrm)) hd ⟨by omega, by omega⟩) hS (fun q _ h => h) (fun q h => h) (fun r u t H1 locs1 ht1 hvm hw hB hz1 hk1 hS1 => ?_)
  obtain ⟨hP1, hz2, hn2⟩ := hB
  rw [ht1] at hP1
  exact kk r u hw H1 locs1 (cells + k') (slots + n') a (by omega) (by omega) hP1 hS1 (hz_call hz hk hz2) hn2 hl
theorem w_callSNV (hX : GX Γ X own cc d) {Qc : Mem → Prop} (hd : decode cc pc = .ok (.invokestatic ix, 3)) (hS9 : SpV Γ M d' k' n' As μ Qc) (hM : MOK M) {host : String} (hl9 : (own, ix, M.1, host) ∈ gN) (hst9 : Cond.static M.1 ∈ gG) (hna : As.length = M.2.2.2.2) (hdd : d' + 1 ≤ d) (hrm : (rest.map fun v => v.category).sum ≤ 8) (hk : k' + k2 = k) (hn0 : n' + n2 = n) (kk : ∀ (μ2 : Mem), Qc μ2 → WP Γ X k2 n2 (pc + 3) ls rest μ2) : WP Γ X k n pc ls (As.reverse ++ rest) μ := by
  obtain ⟨p, e, R, s, m, args, below, meth, c, Q⟩ := X
  obtain ⟨hx, hb, ho, ht, hK, hE, hb0, hf, hlo⟩ := hX
  intro H locs cells slots a h1 h2 hP hS hz hn hl
  refine W_bound (fun hbd => ?_)
  refine va_callv (va_runSN (As := As.map (grv Γ)) (rest := rest.map (grv Γ)) ⟨hx, hb, rfl, ho, ht⟩ hS9 ⟨callN_ok ht hM (hE.1 _ hl9) hf hlo hdd, ht _ hst9, trivial⟩ ⟨Pre_blind, fun U hU hW => ⟨rfl, Pre_at hP hK hE hb0 hS hz hn hbd hU hW⟩⟩ rfl (by rw [List.length_map]; exact hna) hl.1.1 (by show List.map (grv Γ) (As.reverse ++ rest) = _; rw [st_map]) (lv_room (rest_room hrm)) hd ⟨by omega, by omega⟩) hS (fun q _ h => h) (fun q h => h) (fun u t H1 locs1 ht1 hvm hw hB hz1 hk1 hS1 => ?_)
  obtain ⟨hP1, hz2, hn2⟩ := hB
  rw [ht1] at hP1
  exact kk u hw H1 locs1 (cells + k') (slots + n') a (by omega) (by omega) hP1 hS1 (hz_call hz hk hz2) hn2 hl
theorem w_callIV (hX : GX Γ X own cc d) {Qc : Mem → Prop} (hd : decode cc pc = .ok (.invokespecial ix, 3)) (hS9 : SpV Γ M d' k' n' (.ref o :: As) μ Qc) (hM : MOK M) (hl9 : Cond.methodLink own ix M.1 ∈ gG) (him : Cond.instanceMethod M.1 ∈ gG) (hin9 : M.1.name = "<init>") (hrt : M.2.2.2.1 = none) (hna : As.length = M.2.2.2.2) (hdd : d' + 1 ≤ d) (hrm : (rest.map fun v => v.category).sum ≤ 8) (hk : k' + k2 = k) (hn0 : n' + n2 = n) (kk : ∀ (μ2 : Mem), Qc μ2 → WP Γ X k2 n2 (pc + 3) ls rest μ2) : WP Γ X k n pc ls (As.reverse ++ .ref o :: rest) μ := by
  obtain ⟨p, e, R, s, m, args, below, meth, c, Q⟩ := X
  obtain ⟨hx, hb, ho, ht, hK, hE, hb0, hf, hlo⟩ := hX
  intro H locs cells slots a h1 h2 hP hS hz hn hl
  refine W_bound (fun hbd => ?_)
  have hcb := callB_ok (k' := k') (n' := n') ht hM (ht _ hl9) hf hlo hdd
  rw [hrt] at hcb
  refine va_callv (va_runI (As := As.map (grv Γ)) (rest := rest.map (grv Γ)) ⟨hx, hb, rfl, ho, ht⟩ hS9 ⟨hcb, hin9, ht _ him⟩ ⟨Pre_blind, fun U hU hW => ⟨rfl, Pre_at hP hK hE hb0 hS hz hn hbd hU hW⟩⟩ rfl (by rw [List.length_map]; exact hna) hl.1.1 (by show List.map (grv Γ) (As.reverse ++ .ref o :: rest) = _; rw [st_map, List.map_cons]; rfl) (lv_room (rest_room hrm)) hd ⟨by omega, by omega⟩) hS (fun q _ h => h) (fun q h => h) (fun u t H1 locs1 ht1 hvm hw hB hz1 hk1 hS1 => ?_)
  obtain ⟨hP1, hz2, hn2⟩ := hB
  rw [ht1] at hP1
  exact kk u hw H1 locs1 (cells + k') (slots + n') a (by omega) (by omega) hP1 hS1 (hz_call hz hk hz2) hn2 hl
theorem w_callINV (hX : GX Γ X own cc d) {Qc : Mem → Prop} (hd : decode cc pc = .ok (.invokespecial ix, 3)) (hS9 : SpV Γ M d' k' n' (.ref o :: As) μ Qc) (hM : MOK M) {host : String} (hl9 : (own, ix, M.1, host) ∈ gN) (him : Cond.instanceMethod M.1 ∈ gG) (hin9 : M.1.name = "<init>") (hrt : M.2.2.2.1 = none) (hna : As.length = M.2.2.2.2) (hdd : d' + 1 ≤ d) (hrm : (rest.map fun v => v.category).sum ≤ 8) (hk : k' + k2 = k) (hn0 : n' + n2 = n) (kk : ∀ (μ2 : Mem), Qc μ2 → WP Γ X k2 n2 (pc + 3) ls rest μ2) : WP Γ X k n pc ls (As.reverse ++ .ref o :: rest) μ := by
  obtain ⟨p, e, R, s, m, args, below, meth, c, Q⟩ := X
  obtain ⟨hx, hb, ho, ht, hK, hE, hb0, hf, hlo⟩ := hX
  intro H locs cells slots a h1 h2 hP hS hz hn hl
  refine W_bound (fun hbd => ?_)
  have hcb := callN_ok (k' := k') (n' := n') ht hM (hE.1 _ hl9) hf hlo hdd
  rw [hrt] at hcb
  refine va_callv (va_runIN (As := As.map (grv Γ)) (rest := rest.map (grv Γ)) ⟨hx, hb, rfl, ho, ht⟩ hS9 ⟨hcb, hin9, ht _ him⟩ ⟨Pre_blind, fun U hU hW => ⟨rfl, Pre_at hP hK hE hb0 hS hz hn hbd hU hW⟩⟩ rfl (by rw [List.length_map]; exact hna) hl.1.1 (by show List.map (grv Γ) (As.reverse ++ .ref o :: rest) = _; rw [st_map, List.map_cons]; rfl) (lv_room (rest_room hrm)) hd ⟨by omega, by omega⟩) hS (fun q _ h => h) (fun q h => h) (fun u t H1 locs1 ht1 hvm hw hB hz1 hk1 hS1 => ?_)
  obtain ⟨hP1, hz2, hn2⟩ := hB
  rw [ht1] at hP1
  exact kk u hw H1 locs1 (cells + k') (slots + n') a (by omega) (by omega) hP1 hS1 (hz_call hz hk hz2) hn2 hl
end CallRules
theorem SpI.of {Γ : Gm} {M : Mth} {d k n : Nat} {as : List Value} {μ : Mem} {Q : Int32 → Mem → Prop} {ty : FieldType} (hM : MOK M) (hret : M.2.2.2.1 = some ty) (ls : List (Option Value)) (hls : lsub ls (entL as)) (hlen : (entL as).length ≤ M.2.2.1) (hl2 : ls.length ≤ M.2.2.1) (h : ∀ X : Cx, GX Γ X M.1.cls M.2.1 d → EndI Γ X μ.1.length k ty Q → X.2.2.2.2.2.2.2.1.name = M.1.name → WP Γ X k n 0 ls [] μ) : SpI Γ M d k n as μ Q := by
  refine Met.ofW (cc := M.2.1) (maxL := M.2.2.1) (ret := M.2.2.2.1) hM.2.2.2.1 rfl ?_
  intro p e s m args below meth c s₁ B hml hv
  obtain ⟨rfl, hP, hK, hE, hb0, hz, hn⟩ := hv
  have hr := B.returns
  have hts := atoms_spec (ws := gWS M) B.pre
  have hown : s.vm.findClass M.1.cls = some m.cls := findClass_of_methodNamed B.named
  have hlocks := B.notSynchronized
  have h0 : Γ.2.2.2.2.2 = true → Γ.2.2.2.1 + μ.1.length ≤ s.heap.size := by
    intro hf
    by_cases hl0 : μ.1.length = 0
    · omega
    · have h1 := (hP (μ.1.length - 1) _ (gws_at (by omega))).lt
      have h2 : gad Γ (μ.1.length - 1) = Γ.2.2.2.1 + (μ.1.length - 1) := by
        unfold gad
        rw [if_neg (by omega)]
      rw [show ((gad Γ (μ.1.length - 1), gcel Γ μ (μ.1.length - 1)) : Nat × va_E).1 = gad Γ (μ.1.length - 1) from rfl] at h1
      omega
  rw [lg_entry_eq]
  refine h (p, e, gRm d k n, s, m, _, below, meth, c, _) ⟨B.exec, B.bytes, hown, fun w hw => hts w (List.mem_cons_of_mem _ hw), hK, hE, hb0, Nat.le_refl _, Nat.le_refl _⟩ ⟨rfl, hr.trans hret, hlocks, h0, rfl⟩ (name_of_methodNamed B.named B.method).1 s.heap [] 0 0 _ (by show 0 + k ≤ k; omega) (by show 0 + n ≤ n; omega) hP va_S.rf (fun hf => ⟨hz hf, Nat.zero_add _⟩) hn ?_
  rw [hml]
  exact lrel_entry hlen hls hl2
theorem SpV.of {Γ : Gm} {M : Mth} {d k n : Nat} {as : List Value} {μ : Mem} {Q : Mem → Prop} (hM : MOK M) (hret : M.2.2.2.1 = none) (ls : List (Option Value)) (hls : lsub ls (entL as)) (hlen : (entL as).length ≤ M.2.2.1) (hl2 : ls.length ≤ M.2.2.1) (h : ∀ X : Cx, GX Γ X M.1.cls M.2.1 d → EndV Γ X μ.1.length k Q → X.2.2.2.2.2.2.2.1.name = M.1.name → WP Γ X k n 0 ls [] μ) : SpV Γ M d k n as μ Q := by
  refine Met.ofW (cc := M.2.1) (maxL := M.2.2.1) (ret := M.2.2.2.1) hM.2.2.2.1 rfl ?_
  intro p e s m args below meth c s₁ B hml hv
  obtain ⟨rfl, hP, hK, hE, hb0, hz, hn⟩ := hv
  have hr := B.returns
  have hts := atoms_spec (ws := gWS M) B.pre
  have hown : s.vm.findClass M.1.cls = some m.cls := findClass_of_methodNamed B.named
  have hlocks := B.notSynchronized
  have h0 : Γ.2.2.2.2.2 = true → Γ.2.2.2.1 + μ.1.length ≤ s.heap.size := by
    intro hf
    by_cases hl0 : μ.1.length = 0
    · omega
    · have h1 := (hP (μ.1.length - 1) _ (gws_at (by omega))).lt
      have h2 : gad Γ (μ.1.length - 1) = Γ.2.2.2.1 + (μ.1.length - 1) := by
        unfold gad
        rw [if_neg (by omega)]
      rw [show ((gad Γ (μ.1.length - 1), gcel Γ μ (μ.1.length - 1)) : Nat × va_E).1 = gad Γ (μ.1.length - 1) from rfl] at h1
      omega
  rw [lg_entry_eq]
  refine h (p, e, gRm d k n, s, m, _, below, meth, c, _) ⟨B.exec, B.bytes, hown, fun w hw => hts w (List.mem_cons_of_mem _ hw), hK, hE, hb0, Nat.le_refl _, Nat.le_refl _⟩ ⟨rfl, hr.trans hret, hlocks, h0, rfl⟩ (name_of_methodNamed B.named B.method).1 s.heap [] 0 0 _ (by show 0 + k ≤ k; omega) (by show 0 + n ≤ n; omega) hP va_S.rf (fun hf => ⟨hz hf, Nat.zero_add _⟩) hn ?_
  rw [hml]
  exact lrel_entry hlen hls hl2
theorem SpQ.of {Γ : Gm} {M : Mth} {d k n : Nat} {as : List Value} {μ : Mem} {Q : Option Nat → Mem → Prop} (hM : MOK M) (hret : ∃ C, M.2.2.2.1 = some (.object C)) (ls : List (Option Value)) (hls : lsub ls (entL as)) (hlen : (entL as).length ≤ M.2.2.1) (hl2 : ls.length ≤ M.2.2.1) (h : ∀ X : Cx, GX Γ X M.1.cls M.2.1 d → EndQ Γ X μ.1.length k Q → X.2.2.2.2.2.2.2.1.name = M.1.name → WP Γ X k n 0 ls [] μ) : SpQ Γ M d k n as μ Q := by
  refine Met.ofW (cc := M.2.1) (maxL := M.2.2.1) (ret := M.2.2.2.1) hM.2.2.2.1 rfl ?_
  intro p e s m args below meth c s₁ B hml hv
  obtain ⟨rfl, hP, hK, hE, hb0, hz, hn⟩ := hv
  have hr := B.returns
  have hts := atoms_spec (ws := gWS M) B.pre
  have hown : s.vm.findClass M.1.cls = some m.cls := findClass_of_methodNamed B.named
  have hlocks := B.notSynchronized
  have h0 : Γ.2.2.2.2.2 = true → Γ.2.2.2.1 + μ.1.length ≤ s.heap.size := by
    intro hf
    by_cases hl0 : μ.1.length = 0
    · omega
    · have h1 := (hP (μ.1.length - 1) _ (gws_at (by omega))).lt
      have h2 : gad Γ (μ.1.length - 1) = Γ.2.2.2.1 + (μ.1.length - 1) := by
        unfold gad
        rw [if_neg (by omega)]
      rw [show ((gad Γ (μ.1.length - 1), gcel Γ μ (μ.1.length - 1)) : Nat × va_E).1 = gad Γ (μ.1.length - 1) from rfl] at h1
      omega
  rw [lg_entry_eq]
  refine h (p, e, gRm d k n, s, m, _, below, meth, c, _) ⟨B.exec, B.bytes, hown, fun w hw => hts w (List.mem_cons_of_mem _ hw), hK, hE, hb0, Nat.le_refl _, Nat.le_refl _⟩ ⟨rfl, (by obtain ⟨C, hC⟩ := hret; exact ⟨C, hr.trans hC⟩), hlocks, h0, rfl⟩ (name_of_methodNamed B.named B.method).1 s.heap [] 0 0 _ (by show 0 + k ≤ k; omega) (by show 0 + n ≤ n; omega) hP va_S.rf (fun hf => ⟨hz hf, Nat.zero_add _⟩) hn ?_
  rw [hml]
  exact lrel_entry hlen hls hl2
