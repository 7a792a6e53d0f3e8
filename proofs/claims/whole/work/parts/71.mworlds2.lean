def SV (m : Nat) : Nat → Nat → Prop := fun o k => (m + 10 ≤ o ∧ o ≤ m + 13) ∨ (o = m ∧ (k = 0 ∨ k = 18 ∨ k = 19))
theorem TH0 {μ : Mem} {m : Nat} {B : Nat → Nat} {bits : Nat} {ask : Option Nat} (hm : HM μ m B) (hb : bits = FB B ∨ ask = some 0) (ha : ∀ a, ask = some a → a < 2 ^ 31) : TH m B bits ask 0 0 (sI (sI μ m 18 (nI 0)) m 19 (oI ask)) :=
  ⟨(hm.f (by omega)).f (by omega), ⟨by rw [gI_nk (by omega), gI_same, Nat.zero_mul]; rfl, gI_same, fun a h => ⟨by rw [Nat.zero_mul]; exact Nat.zero_le _, ha a h⟩, hb, fun _ h => by rw [Nat.zero_mul] at h; exact absurd h (Nat.not_lt_zero _)⟩, fun q h => absurd h (Nat.not_lt_zero _), rfl, by show 0 < 2 ^ 0; omega⟩
theorem TQ0 {μ μ2 : Mem} {m : Nat} {B : Nat → Nat} {bits : Nat} {ask : Option Nat} {r : Int32} (h : TQ m B bits ask 0 0 μ r μ2) : same (ST m) μ μ2 ∧ ((r = bI false ∧ TP μ2 m B bits ask (2 ^ szB B bits)) ∨ (r = bI true ∧ ∃ x, x < 2 ^ szB B bits ∧ VS B bits x = true ∧ ask = some (cvV (VS B bits) x) ∧ MOQ μ2 m B bits (B 352) (szB B bits) x)) := by
  unfold TQ at h
  rw [show cvV (tbF bits) 0 = 0 from rfl, Nat.sub_zero, Nat.zero_add, Nat.one_mul] at h
  refine ⟨h.1, ?_⟩
  rcases h.2 with h | ⟨h1, x, h2, h3, h4⟩
  · exact Or.inl ⟨h.1, h.2.1⟩
  · exact Or.inr ⟨h1, x, h3, h4⟩
theorem ST_SV {m o k : Nat} (h : ST m o k) : SV m o k := by unfold ST at h; unfold SV; omega
theorem F0s {μ ν : Mem} {m : Nat} {v : Int32} (h : same (ST m) (sI (sI μ m 18 (nI 0)) m 19 v) ν) : same (SV m) μ ν := ((same.rf.sI (Or.inr ⟨rfl, by omega⟩)).sI (Or.inr ⟨rfl, by omega⟩)).tr (h.up (fun _ _ h => ST_SV h))
theorem ex_F {B : Nat → Nat} : exB B (FB B) = decide (0 < totB B) := by unfold exB totB; rw [szB_F]; rfl
theorem nw_F {B : Nat → Nat} {x : Nat} (hx : x < 2 ^ B 352) (h : VF B x = true) : nwV (VF B) (cvV (VF B) x) (2 ^ B 352) = x := nwV_eq h rfl _ hx
/-- every pick of a world may be -/
theorem VF_my {B : Nat → Nat} {v q : Nat} (hW : WB B) (hv : VF B v = true) (hq : q < B 352) : myB B (2 * q + pkb (B 352) v q) = true := by
  have h1 : gdP (clB B) (meB B (FB B)) (szB B (FB B)) v = true := hv
  rw [szB_F] at h1
  have h2 := gdP_pre (B 352 - 1 - q) (q + 1) v (by rw [show q + 1 + (B 352 - 1 - q) = B 352 by omega]; exact h1)
  simp only [gdP, Bool.and_eq_true, Bool.not_eq_true'] at h2
  have h3 := h2.2
  have hc : cvV (tbF (FB B)) q = q := cv_FB q (by omega)
  cases h4 : myB B (2 * q + pkb (B 352) v q) with
  | true => rfl
  | false =>
    have h5 := (tie (bits := FB B) (u := v / 2 ^ (B 352 - 1 - q)) hW hq (by unfold tbF; rw [FB_tb]; simp [hq])).mpr (Or.inl h4)
    rw [hc, h3] at h5
    cases h5
theorem hc1_tw {B : Nat → Nat} {q : Nat} (hW : WB B) (hq : q < B 352) : ∀ v, hcV (VF B) (B 352) 1 q v = true → tw B (ptw B q) (ptm B q) = true := by
  intro v
  induction v with
  | zero => intro h; cases h
  | succ v ih =>
    intro h
    simp only [hcV, Bool.or_eq_true, Bool.and_eq_true, decide_eq_true_eq] at h
    rcases h with h | h
    · exact ih h
    · have h1 := VF_my hW h.1 hq
      rw [h.2, my1, Bool.and_eq_true] at h1
      exact h1.2
theorem lsm_eq {V : Nat → Bool} {n p : Nat} {mo : Nat → Nat → Nat} (h01 : mo p 0 = mo p 1) : ∀ v, 0 < cvV V v → lsV V n mo p v = mo p 0 ∧ msV V n mo p v = mo p 0 := by
  intro v
  induction v with
  | zero => intro h; simp [cvV] at h
  | succ v ih =>
    intro h
    have hb : mo p (pkb n v p) = mo p 0 := by
      have hb := pkb_lt (n := n) (w := v) (p := p)
      rcases (show pkb n v p = 0 ∨ pkb n v p = 1 by omega) with e | e <;> rw [e]
      exact h01.symm
    simp only [cvV] at h
    simp only [lsV, msV, hb]
    by_cases hv : V v = true
    · rw [if_pos hv, if_pos hv]
      by_cases h0 : cvV V v = 0
      · rw [if_pos (Or.inl h0), if_pos (Or.inl h0)]; exact ⟨rfl, rfl⟩
      · obtain ⟨i1, i2⟩ := ih (by omega)
        rw [i1, i2]
        exact ⟨by split <;> rfl, by split <;> rfl⟩
    · rw [if_neg hv, if_neg hv]
      rw [if_neg hv] at h
      exact ih (by omega)
def LSF (B : Nat → Nat) (q : Nat) : Nat := lsV (VF B) (B 352) (moF B) q (2 ^ B 352)
def MSF (B : Nat → Nat) (q : Nat) : Nat := msV (VF B) (B 352) (moF B) q (2 ^ B 352)
theorem sure_ls {B : Nat → Nat} {q : Nat} (hW : WB B) (hq : q < B 352) (h0 : 0 < totB B) : (LSF B q < MSF B q ↔ h01 B 0 q = h01 B 1 q) ∧ (LSF B q = MSF B q → E_sure B q = nI (LSF B q)) ∧ (LSF B q ≠ MSF B q → E_sure B q = -1) := by
  have hs := (hc_some (V := VF B) (n := B 352) (p := q) (2 ^ B 352)).mp h0
  by_cases ht : tw B (ptw B q) (ptm B q) = true
  · have hlt : moF B q 0 < moF B q 1 := by
      show mcB B (2 * q) < mcB B (2 * q + 1)
      rw [mc0, mc1]; unfold lst fst; rw [if_pos ht]; omega
    obtain ⟨e1, e2⟩ := ls_hc (V := VF B) (n := B 352) hlt (2 ^ B 352) h0
    have e1' : LSF B q = moF B q (if h01 B 0 q = true then 0 else 1) := e1
    have e2' : MSF B q = moF B q (if h01 B 1 q = true then 1 else 0) := e2
    have hs' : h01 B 0 q = true ∨ h01 B 1 q = true := hs
    unfold E_sure
    rw [e1', e2']
    show _ ∧ (_ → _ = nI (mcB B _)) ∧ _
    cases a : h01 B 0 q <;> cases b : h01 B 1 q <;> simp [a, b] at hs' ⊢
    exact ⟨hlt, fun h => absurd h (Nat.ne_of_lt hlt)⟩
  · have h1 : h01 B 1 q = false := by
      rw [Bool.eq_false_iff]; intro h; exact ht (hc1_tw hW hq _ h)
    have h2 : h01 B 0 q = true := by
      rcases hs with h | h
      · exact h
      · exact absurd (show h01 B 1 q = true from h) (by rw [h1]; decide)
    have heq : moF B q 0 = moF B q 1 := by
      show mcB B (2 * q) = mcB B (2 * q + 1)
      rw [mc0, mc1]; unfold lst fst; rw [if_neg ht]; omega
    obtain ⟨e1, e2⟩ := lsm_eq (V := VF B) (n := B 352) heq (2 ^ B 352) h0
    have e1' : LSF B q = moF B q 0 := e1
    have e2' : MSF B q = moF B q 0 := e2
    unfold E_sure
    rw [e1', e2', h1, h2]
    refine ⟨⟨fun h => absurd h (Nat.lt_irrefl _), fun h => by cases h⟩, fun _ => rfl, fun h => absurd rfl h⟩
theorem od_bef {B : Nat → Nat} {a b : Nat} : odV (VF B) (B 352) (moF B) a b (2 ^ B 352) = E_bef B a b := od_mt _
theorem LS_lt {B : Nat → Nat} {q : Nat} (hW : WB B) (hq : q < B 352) : LSF B q < 2 ^ 30 ∧ MSF B q < 2 ^ 30 := ls_lt (fun c hc => moF_lt hW hq hc) (by omega) _
set_option maxHeartbeats 1000000 in
theorem s_m_findN (Γ : Gm) (μ : Mem) (m : Nat) (B : Nat → Nat) (hm : HM μ m B) (hW : WB B)  : SpI Γ MX9_findWorld 16 0 0 [.ref m, .int (nI (FB B)), .int ((-1 : Int32))] μ (fun r μ2 => r = bI false ∧ gI μ2 m 18 = nI (totB B) ∧ NT μ2 m B (2 ^ B 352) ∧ same (SV m) μ μ2) := by
  refine SpI.of okX9_findWorld rfl [some (.ref m), some (.int (nI (FB B))), some (.int ((-1 : Int32)))] ⟨rfl, rfl, rfl, trivial⟩ (leb rfl) (leb rfl) (fun X hX hE hnm => ?_)
  have hP12 := hW.2.2.2.2.1.1
  refine w_aload_n (i := 0) hX dX9_findWorld_0 rfl rfl ?_
  refine w_iconst hX dX9_findWorld_1 kI_0 ?_
  refine w_putI hX dX9_findWorld_2 fo_RX9_293 rfl rfl rfl rfl (mod_s hm.1.1) ?_
  refine w_aload_n (i := 0) hX dX9_findWorld_5 rfl rfl ?_
  refine w_iload_n (i := 2) hX dX9_findWorld_6 rfl rfl ?_
  refine w_putI hX dX9_findWorld_7 fo_RX9_296 rfl rfl rfl rfl (mod_s hm.1.1) ?_
  refine w_aload_n (i := 0) hX dX9_findWorld_10 rfl rfl ?_
  refine w_iload_n (i := 1) hX dX9_findWorld_11 rfl rfl ?_
  refine w_iconst hX dX9_findWorld_12 kI_0 ?_
  refine w_callVI (As := [.int (nI (FB B)), .int (nI 0)]) (rest := []) (ci := 9) (o := m) (k2 := 0) (n2 := 0) hX dX9_findWorld_13 (s_m_tries Γ m B hW (FB B) none (by have := FB_lt hW; omega) (B 352) 0 (Nat.zero_add _) (sI (sI μ m 18 (nI 0)) m 19 (oI none)) 0 (TH0 hm (Or.inl rfl) (fun a h => by cases h))) okX9_tries (ltb rfl) (mod_s hm.1.1) ml_RX9_302 imX9_tries seX9_tries rfl (by omega) (leb rfl) rfl rfl (fun r5 ν hq9 => ?_)
  obtain ⟨hs5, hq5⟩ := TQ0 hq9
  rcases hq5 with ⟨e5, hT⟩ | ⟨e5, y, hy1, hy2, hy3, hy4⟩
  · subst e5
    exact w_iret hX hE dX9_findWorld_16 (Or.inl rfl) rfl ⟨rfl, by rw [szB_F] at hT; exact hT.1, by rw [szB_F] at hT; exact hT.2.2.2.2 rfl, F0s hs5⟩
  · subst e5
    cases hy3
set_option maxHeartbeats 1000000 in
theorem s_m_find0 (Γ : Gm) (μ : Mem) (m : Nat) (B : Nat → Nat) (hm : HM μ m B) (hW : WB B) (bits : Nat) (hbits : bits < 2 ^ 31) : SpI Γ MX9_findWorld 16 0 0 [.ref m, .int (nI bits), .int (nI 0)] μ (fun r μ2 => r = bI (exB B bits) ∧ same (SV m) μ μ2) := by
  refine SpI.of okX9_findWorld rfl [some (.ref m), some (.int (nI bits)), some (.int (nI 0))] ⟨rfl, rfl, rfl, trivial⟩ (leb rfl) (leb rfl) (fun X hX hE hnm => ?_)
  have hP12 := hW.2.2.2.2.1.1
  refine w_aload_n (i := 0) hX dX9_findWorld_0 rfl rfl ?_
  refine w_iconst hX dX9_findWorld_1 kI_0 ?_
  refine w_putI hX dX9_findWorld_2 fo_RX9_293 rfl rfl rfl rfl (mod_s hm.1.1) ?_
  refine w_aload_n (i := 0) hX dX9_findWorld_5 rfl rfl ?_
  refine w_iload_n (i := 2) hX dX9_findWorld_6 rfl rfl ?_
  refine w_putI hX dX9_findWorld_7 fo_RX9_296 rfl rfl rfl rfl (mod_s hm.1.1) ?_
  refine w_aload_n (i := 0) hX dX9_findWorld_10 rfl rfl ?_
  refine w_iload_n (i := 1) hX dX9_findWorld_11 rfl rfl ?_
  refine w_iconst hX dX9_findWorld_12 kI_0 ?_
  refine w_callVI (As := [.int (nI bits), .int (nI 0)]) (rest := []) (ci := 9) (o := m) (k2 := 0) (n2 := 0) hX dX9_findWorld_13 (s_m_tries Γ m B hW bits (some 0) hbits (B 352) 0 (Nat.zero_add _) (sI (sI μ m 18 (nI 0)) m 19 (oI (some 0))) 0 (TH0 hm (Or.inr rfl) (fun a h => by cases h; omega))) okX9_tries (ltb rfl) (mod_s hm.1.1) ml_RX9_302 imX9_tries seX9_tries rfl (by omega) (leb rfl) rfl rfl (fun r5 ν hq9 => ?_)
  obtain ⟨hs5, hq5⟩ := TQ0 hq9
  rcases hq5 with ⟨e5, hT⟩ | ⟨e5, y, hy1, hy2, hy3, hy4⟩
  · subst e5
    exact w_iret hX hE dX9_findWorld_16 (Or.inl rfl) rfl ⟨by rw [show exB B bits = false from decide_eq_false (by have := (hT.2.2.1 0 rfl).1; omega)], F0s hs5⟩
  · subst e5
    exact w_iret hX hE dX9_findWorld_16 (Or.inl rfl) rfl ⟨by rw [show exB B bits = true from decide_eq_true (by have := cvV_lt hy2 hy1; omega)], F0s hs5⟩
set_option maxHeartbeats 1000000 in
theorem s_m_findA (Γ : Gm) (μ : Mem) (m : Nat) (B : Nat → Nat) (hm : HM μ m B) (hW : WB B) (a : Nat) (ha : a < 2 ^ 31) : SpI Γ MX9_findWorld 16 0 0 [.ref m, .int (nI (FB B)), .int (nI a)] μ (fun r μ2 => r = bI (decide (a < totB B)) ∧ (a < totB B → ∀ q, q < B 352 → gI μ2 (m + 10) q = nI (mcB B (2 * q + pkb (B 352) (nwV (VF B) a (2 ^ B 352)) q))) ∧ same (SV m) μ μ2) := by
  refine SpI.of okX9_findWorld rfl [some (.ref m), some (.int (nI (FB B))), some (.int (nI a))] ⟨rfl, rfl, rfl, trivial⟩ (leb rfl) (leb rfl) (fun X hX hE hnm => ?_)
  have hP12 := hW.2.2.2.2.1.1
  refine w_aload_n (i := 0) hX dX9_findWorld_0 rfl rfl ?_
  refine w_iconst hX dX9_findWorld_1 kI_0 ?_
  refine w_putI hX dX9_findWorld_2 fo_RX9_293 rfl rfl rfl rfl (mod_s hm.1.1) ?_
  refine w_aload_n (i := 0) hX dX9_findWorld_5 rfl rfl ?_
  refine w_iload_n (i := 2) hX dX9_findWorld_6 rfl rfl ?_
  refine w_putI hX dX9_findWorld_7 fo_RX9_296 rfl rfl rfl rfl (mod_s hm.1.1) ?_
  refine w_aload_n (i := 0) hX dX9_findWorld_10 rfl rfl ?_
  refine w_iload_n (i := 1) hX dX9_findWorld_11 rfl rfl ?_
  refine w_iconst hX dX9_findWorld_12 kI_0 ?_
  refine w_callVI (As := [.int (nI (FB B)), .int (nI 0)]) (rest := []) (ci := 9) (o := m) (k2 := 0) (n2 := 0) hX dX9_findWorld_13 (s_m_tries Γ m B hW (FB B) (some a) (by have := FB_lt hW; omega) (B 352) 0 (Nat.zero_add _) (sI (sI μ m 18 (nI 0)) m 19 (oI (some a))) 0 (TH0 hm (Or.inl rfl) (fun b h => by cases h; exact ha))) okX9_tries (ltb rfl) (mod_s hm.1.1) ml_RX9_302 imX9_tries seX9_tries rfl (by omega) (leb rfl) rfl rfl (fun r5 ν hq9 => ?_)
  obtain ⟨hs5, hq5⟩ := TQ0 hq9
  rcases hq5 with ⟨e5, hT⟩ | ⟨e5, y, hy1, hy2, hy3, hy4⟩
  · subst e5
    have h9 := (hT.2.2.1 a rfl).1; rw [szB_F] at h9
    have h8 : ¬ a < totB B := Nat.not_lt.mpr h9
    exact w_iret hX hE dX9_findWorld_16 (Or.inl rfl) rfl ⟨by rw [decide_eq_false h8], fun h => absurd h h8, F0s hs5⟩
  · subst e5
    cases hy3
    rw [szB_F] at hy1
    have h8 : cvV (VS B (FB B)) y < totB B := cvV_lt hy2 hy1
    refine w_iret hX hE dX9_findWorld_16 (Or.inl rfl) rfl ⟨by rw [decide_eq_true h8], fun _ q hq => ?_, F0s hs5⟩
    rw [hy4 q hq (by unfold tbF; rw [FB_tb]; simp [hq]), moq_F hq]
    unfold moF
    rw [show nwV (VF B) (cvV (VS B (FB B)) y) (2 ^ B 352) = y from nw_F hy1 hy2]
set_option maxHeartbeats 1000000 in
theorem s_m_allP (Γ : Gm) (μ : Mem) (m : Nat) (B : Nat → Nat) (hm : HM μ m B) (hW : WB B)  : SpI Γ MX9_allPapers 1 0 0 [.ref m] μ (fun r μ2 => r = nI (FB B) ∧ μ2 = μ) := by
  refine SpI.of okX9_allPapers rfl [some (.ref m)] ⟨rfl, trivial⟩ (leb rfl) (leb rfl) (fun X hX hE hnm => ?_)
  refine w_iconst hX dX9_allPapers_0 kI_1 ?_
  refine w_aload_n (i := 0) hX dX9_allPapers_1 rfl rfl ?_
  refine w_callVI (As := []) (rest := [.int (nI 1)]) (ci := 9) (o := m) (k2 := 0) (n2 := 0) hX dX9_allPapers_2 (s_m_papers Γ μ m B hm hW) okX9_papers (ltb rfl) (mod_s hm.1.1) ml_RX9_284 imX9_papers seX9_papers rfl (leb rfl) (leb rfl) rfl rfl (fun r9 μ9 hq9 => ?_)
  obtain ⟨hr9, hm9⟩ := hq9; rw [hr9, hm9]; clear hr9 hm9 r9 μ9
  refine w_ishl hX dX9_allPapers_5 ?_
  refine w_iconst hX dX9_allPapers_6 kI_1 ?_
  refine w_isub hX dX9_allPapers_7 ?_
  refine w_top (y := nI (FB B)) (mask_nI (by have := hW.2.2.2.2.1.1; omega)) ?_
  exact w_iret hX hE dX9_allPapers_8 (Or.inl rfl) rfl ⟨rfl, rfl⟩
set_option maxHeartbeats 1000000 in
theorem s_m_worlds (Γ : Gm) (μ : Mem) (m : Nat) (B : Nat → Nat) (hm : HM μ m B) (hW : WB B)  : SpI Γ MX9_worlds 17 0 0 [.ref m] μ (fun r μ2 => r = A_worlds B ∧ same (SV m) μ μ2) := by
  refine SpI.of okX9_worlds rfl [some (.ref m)] ⟨rfl, trivial⟩ (leb rfl) (leb rfl) (fun X hX hE hnm => ?_)
  refine w_aload_n (i := 0) hX dX9_worlds_0 rfl rfl ?_
  refine w_iconst hX dX9_worlds_1 kI_0 ?_
  refine w_putI hX dX9_worlds_2 fo_RX9_1 rfl rfl rfl rfl (mod_s hm.1.1) ?_
  refine w_aload_n (i := 0) hX dX9_worlds_5 rfl rfl ?_
  refine w_aload_n (i := 0) hX dX9_worlds_6 rfl rfl ?_
  refine w_callVI (As := []) (rest := [.ref m]) (ci := 9) (o := m) (k2 := 0) (n2 := 0) hX dX9_worlds_7 (s_m_allP Γ (sI μ m 0 (nI 0)) m B (HM.sI hm (by omega)) hW) okX9_allPapers (ltb rfl) (mod_s hm.1.1) ml_RX9_308 imX9_allPapers seX9_allPapers rfl (leb rfl) (leb rfl) rfl rfl (fun r9 μ9 hq9 => ?_)
  obtain ⟨hr9, hm9⟩ := hq9; rw [hr9, hm9]; clear hr9 hm9 r9 μ9
  refine w_iconst hX dX9_worlds_10 kI_m1 ?_
  refine w_callVI (As := [.int (nI (FB B)), .int ((-1 : Int32))]) (rest := []) (ci := 9) (o := m) (k2 := 0) (n2 := 0) hX dX9_worlds_11 (s_m_findN Γ (sI μ m 0 (nI 0)) m B (hm.f (by omega)) hW) okX9_findWorld (ltb rfl) (mod_s hm.1.1) ml_RX9_311 imX9_findWorld seX9_findWorld rfl (leb rfl) (leb rfl) rfl rfl (fun r9 ν hq9 => ?_)
  obtain ⟨hr9, h18, hnt, hs9⟩ := hq9; rw [hr9]
  have hs0 : same (SV m) μ (sI μ m 0 (nI 0)) := same.rf.sI (Or.inr ⟨rfl, Or.inl rfl⟩)
  have hs := hs0.tr hs9
  have hmk := hm.sm hs (fun o k h => by unfold SV at h; omega)
  have hP12 := hW.2.2.2.2.1.1
  have htl := totB_le hW
  refine w_pop hX dX9_worlds_14 rfl ?_
  refine w_aload_n (i := 0) hX dX9_worlds_15 rfl rfl ?_
  refine w_getI hX dX9_worlds_16 fo_RX9_293 rfl (mod_s hmk.1.1) ?_
  refine w_top (y := nI (totB B)) h18 ?_
  exact w_iret hX hE dX9_worlds_19 (Or.inl rfl) rfl ⟨rfl, hs⟩
set_option maxHeartbeats 1000000 in
theorem s_m_world (Γ : Gm) (μ : Mem) (m : Nat) (B : Nat → Nat) (hm : HM μ m B) (hW : WB B) (n p : Int32) : SpI Γ MX9_world 17 0 0 [.ref m, .int n, .int p] μ (fun r μ2 => r = A_world B n p ∧ same (SV m) μ μ2) := by
  refine SpI.of okX9_world rfl [some (.ref m), some (.int n), some (.int p)] ⟨rfl, rfl, rfl, trivial⟩ (leb rfl) (leb rfl) (fun X hX hE hnm => ?_)
  refine w_aload_n (i := 0) hX dX9_world_0 rfl rfl ?_
  refine w_iconst hX dX9_world_1 kI_0 ?_
  refine w_putI hX dX9_world_2 fo_RX9_1 rfl rfl rfl rfl (mod_s hm.1.1) ?_
  refine w_iload_n (i := 1) hX dX9_world_5 rfl rfl ?_
  refine wc_if_lt (tgt := 38) hX dX9_world_6 (by decide) (fun c1 => ?_) (fun c1 => ?_)
  · refine w_iconst hX dX9_world_38 kI_m1 ?_
    exact w_iret hX hE dX9_world_39 (Or.inl rfl) rfl ⟨by unfold A_world; rw [show inC n (totB B) = false by unfold inC; rw [decide_eq_false (Int32.not_le.mpr c1)]; rfl]; rfl, same.rf.sI (Or.inr ⟨rfl, Or.inl rfl⟩)⟩
  · refine w_aload_n (i := 0) hX dX9_world_9 rfl rfl ?_
    refine w_iload_n (i := 2) hX dX9_world_10 rfl rfl ?_
    refine w_callVI (As := [.int p]) (rest := []) (ci := 9) (o := m) (k2 := 0) (n2 := 0) hX dX9_world_11 (s_m_isPaper Γ (sI μ m 0 (nI 0)) m B (HM.sI hm (by omega)) hW p) okX9_isPaper (ltb rfl) (mod_s hm.1.1) ml_RX9_287 imX9_isPaper seX9_isPaper rfl (leb rfl) (leb rfl) rfl rfl (fun r9 μ9 hq9 => ?_)
    obtain ⟨hr9, hm9⟩ := hq9; rw [hr9, hm9]; clear hr9 hm9 r9 μ9
    refine wb_eq (tgt := 38) hX dX9_world_14 (by decide) (fun hP => ?_) (fun hP => ?_)
    · refine w_iconst hX dX9_world_38 kI_m1 ?_
      exact w_iret hX hE dX9_world_39 (Or.inl rfl) rfl ⟨by unfold A_world; rw [hP, Bool.and_false]; rfl, same.rf.sI (Or.inr ⟨rfl, Or.inl rfl⟩)⟩
    · have hP12 := hW.2.2.2.2.1.1
      have hp9 := inC_nI (by omega) hP
      have htl := totB_le hW
      obtain ⟨j9, hj9, hnj⟩ := nI_of (Int32.not_lt.mpr c1)
      have htn : tN n = j9 := by rw [hnj]; exact nI_clamp hj9
      have hn9 : n = nI (tN n) := by rw [htn]; exact hnj
      have hn31 : tN n < 2 ^ 31 := by omega
      have hin : inC n (totB B) = decide (tN n < totB B) := by unfold inC; rw [decide_eq_true c1, Bool.true_and]; congr 1; rw [hn9]; exact propext ((nI_ltI hn31 (by omega)).trans (by rw [show tN (nI (tN n)) = tN n by rw [← hn9]]))
      refine w_aload_n (i := 0) hX dX9_world_17 rfl rfl ?_
      refine w_aload_n (i := 0) hX dX9_world_18 rfl rfl ?_
      refine w_callVI (As := []) (rest := [.ref m]) (ci := 9) (o := m) (k2 := 0) (n2 := 0) hX dX9_world_19 (s_m_allP Γ (sI μ m 0 (nI 0)) m B (HM.sI hm (by omega)) hW) okX9_allPapers (ltb rfl) (mod_s hm.1.1) ml_RX9_308 imX9_allPapers seX9_allPapers rfl (leb rfl) (leb rfl) rfl rfl (fun r9 μ9 hq9 => ?_)
      obtain ⟨hr9, hm9⟩ := hq9; rw [hr9, hm9]; clear hr9 hm9 r9 μ9
      refine w_iload_n (i := 1) hX dX9_world_22 rfl rfl ?_
      refine w_top (y := nI (tN n)) hn9 ?_
      refine w_callVI (As := [.int (nI (FB B)), .int (nI (tN n))]) (rest := []) (ci := 9) (o := m) (k2 := 0) (n2 := 0) hX dX9_world_23 (s_m_findA Γ (sI μ m 0 (nI 0)) m B (hm.f (by omega)) hW (tN n) hn31) okX9_findWorld (ltb rfl) (mod_s hm.1.1) ml_RX9_311 imX9_findWorld seX9_findWorld rfl (leb rfl) (leb rfl) rfl rfl (fun r9 ν hq9 => ?_)
      obtain ⟨hr9, hmo, hs9⟩ := hq9; rw [hr9]
      have hs0 : same (SV m) μ (sI μ m 0 (nI 0)) := same.rf.sI (Or.inr ⟨rfl, Or.inl rfl⟩)
      have hs := hs0.tr hs9
      have hmk := hm.sm hs (fun o k h => by unfold SV at h; omega)
      refine wb_eq (tgt := 38) hX dX9_world_26 (by decide) (fun hN => ?_) (fun hN => ?_)
      · refine w_iconst hX dX9_world_38 kI_m1 ?_
        exact w_iret hX hE dX9_world_39 (Or.inl rfl) rfl ⟨by unfold A_world; rw [hin, hN]; rfl, hs⟩
      · refine w_aload_n (i := 0) hX dX9_world_29 rfl rfl ?_
        refine w_getR (q := m + 10) hX dX9_world_30 fo_RX9_88 rfl (mod_s hmk.1.1) (mod_r17 hmk.1.1) ?_
        refine w_iload_n (i := 2) hX dX9_world_33 rfl rfl ?_
        refine w_top (y := nI (tN p)) hp9.1 ?_
        refine w_ialdN hX dX9_world_34 (mod_a10 hmk.1.1) (by omega) (by omega) ?_
        refine w_top (y := nI (mcB B (2 * tN p + pkb (B 352) (nwV (VF B) (tN n) (2 ^ B 352)) (tN p)))) (hmo (of_decide_eq_true hN) _ hp9.2) ?_
        refine w_goto (tgt := 39) hX dX9_world_35 (by decide) ?_
        exact w_iret hX hE dX9_world_39 (Or.inl rfl) rfl ⟨by unfold A_world; rw [hin, hN, hP]; rfl, hs⟩
theorem h01_0 {B : Nat → Nat} {q : Nat} (h : totB B = 0) : h01 B 0 q = false ∧ h01 B 1 q = false := by
  have hs := hc_some (V := VF B) (n := B 352) (p := q) (2 ^ B 352)
  have h0 : ¬ 0 < cvV (VF B) (2 ^ B 352) := by unfold totB at h; omega
  rw [hs] at h0
  refine ⟨?_, ?_⟩ <;> rw [Bool.eq_false_iff] <;> intro h9
  · exact h0 (Or.inl h9)
  · exact h0 (Or.inr h9)
theorem E_sure_0 {B : Nat → Nat} {q : Nat} (h : totB B = 0) : E_sure B q = -1 := by
  obtain ⟨h1, h2⟩ := h01_0 (q := q) h
  unfold E_sure; rw [h1, h2, if_pos rfl]
theorem E_bef_0 {B : Nat → Nat} {a b : Nat} (h : totB B = 0) : E_bef B a b = 0 := by rw [← od_bef]; exact odV_0 _ h
set_option maxHeartbeats 1000000 in
theorem s_m_sure (Γ : Gm) (μ : Mem) (m : Nat) (B : Nat → Nat) (hm : HM μ m B) (hW : WB B) (p : Int32) : SpI Γ MX9_sure 17 0 0 [.ref m, .int p] μ (fun r μ2 => r = A_sure B p ∧ same (SV m) μ μ2) := by
  refine SpI.of okX9_sure rfl [some (.ref m), some (.int p)] ⟨rfl, rfl, trivial⟩ (leb rfl) (leb rfl) (fun X hX hE hnm => ?_)
  refine w_aload_n (i := 0) hX dX9_sure_0 rfl rfl ?_
  refine w_iconst hX dX9_sure_1 kI_0 ?_
  refine w_putI hX dX9_sure_2 fo_RX9_1 rfl rfl rfl rfl (mod_s hm.1.1) ?_
  refine w_aload_n (i := 0) hX dX9_sure_5 rfl rfl ?_
  refine w_iload_n (i := 1) hX dX9_sure_6 rfl rfl ?_
  refine w_callVI (As := [.int p]) (rest := []) (ci := 9) (o := m) (k2 := 0) (n2 := 0) hX dX9_sure_7 (s_m_isPaper Γ (sI μ m 0 (nI 0)) m B (HM.sI hm (by omega)) hW p) okX9_isPaper (ltb rfl) (mod_s hm.1.1) ml_RX9_287 imX9_isPaper seX9_isPaper rfl (leb rfl) (leb rfl) rfl rfl (fun r9 μ9 hq9 => ?_)
  obtain ⟨hr9, hm9⟩ := hq9; rw [hr9, hm9]; clear hr9 hm9 r9 μ9
  refine wb_ne (tgt := 15) hX dX9_sure_10 (by decide) (fun hP => ?_) (fun hP => ?_)
  · refine w_aload_n (i := 0) hX dX9_sure_15 rfl rfl ?_
    refine w_aload_n (i := 0) hX dX9_sure_16 rfl rfl ?_
    refine w_callVI (As := []) (rest := [.ref m]) (ci := 9) (o := m) (k2 := 0) (n2 := 0) hX dX9_sure_17 (s_m_allP Γ (sI μ m 0 (nI 0)) m B (HM.sI hm (by omega)) hW) okX9_allPapers (ltb rfl) (mod_s hm.1.1) ml_RX9_308 imX9_allPapers seX9_allPapers rfl (leb rfl) (leb rfl) rfl rfl (fun r9 μ9 hq9 => ?_)
    obtain ⟨hr9, hm9⟩ := hq9; rw [hr9, hm9]; clear hr9 hm9 r9 μ9
    refine w_iconst hX dX9_sure_20 kI_m1 ?_
    refine w_callVI (As := [.int (nI (FB B)), .int ((-1 : Int32))]) (rest := []) (ci := 9) (o := m) (k2 := 0) (n2 := 0) hX dX9_sure_21 (s_m_findN Γ (sI μ m 0 (nI 0)) m B (hm.f (by omega)) hW) okX9_findWorld (ltb rfl) (mod_s hm.1.1) ml_RX9_311 imX9_findWorld seX9_findWorld rfl (leb rfl) (leb rfl) rfl rfl (fun r9 ν hq9 => ?_)
    obtain ⟨hr9, h18, hnt, hs9⟩ := hq9; rw [hr9]
    have hs0 : same (SV m) μ (sI μ m 0 (nI 0)) := same.rf.sI (Or.inr ⟨rfl, Or.inl rfl⟩)
    have hs := hs0.tr hs9
    have hmk := hm.sm hs (fun o k h => by unfold SV at h; omega)
    have hP12 := hW.2.2.2.2.1.1
    have htl := totB_le hW
    refine w_pop hX dX9_sure_24 rfl ?_
    have hp9 := inC_nI (by omega) hP
    have hll := LS_lt hW hp9.2
    refine w_aload_n (i := 0) hX dX9_sure_25 rfl rfl ?_
    refine w_getI hX dX9_sure_26 fo_RX9_293 rfl (mod_s hmk.1.1) ?_
    refine w_top (y := nI (totB B)) h18 ?_
    refine wn_if_le (tgt := 56) hX dX9_sure_29 (by decide) (by omega) (fun c2 => ?_) (fun c2 => ?_)
    · refine w_iconst hX dX9_sure_56 kI_m1 ?_
      exact w_iret hX hE dX9_sure_57 (Or.inl rfl) rfl ⟨by unfold A_sure; rw [if_pos hP]; exact (E_sure_0 (by omega)).symm, hs⟩
    · refine w_aload_n (i := 0) hX dX9_sure_32 rfl rfl ?_
      refine w_getR (q := m + 11) hX dX9_sure_33 fo_RX9_91 rfl (mod_s hmk.1.1) (mod_r20 hmk.1.1) ?_
      refine w_iload_n (i := 1) hX dX9_sure_36 rfl rfl ?_
      refine w_top (y := nI (tN p)) hp9.1 ?_
      refine w_ialdN hX dX9_sure_37 (mod_a11 hmk.1.1) (by omega) (by omega) ?_
      refine w_top (y := nI (LSF B (tN p))) (hnt (show 0 < totB B by omega) _ hp9.2).1 ?_
      refine w_aload_n (i := 0) hX dX9_sure_38 rfl rfl ?_
      refine w_getR (q := m + 12) hX dX9_sure_39 fo_RX9_94 rfl (mod_s hmk.1.1) (mod_r21 hmk.1.1) ?_
      refine w_iload_n (i := 1) hX dX9_sure_42 rfl rfl ?_
      refine w_top (y := nI (tN p)) hp9.1 ?_
      refine w_ialdN hX dX9_sure_43 (mod_a12 hmk.1.1) (by omega) (by omega) ?_
      refine w_top (y := nI (MSF B (tN p))) (hnt (show 0 < totB B by omega) _ hp9.2).2.1 ?_
      refine wn_icmp_ne (tgt := 56) hX dX9_sure_44 (by decide) (by omega) (by omega) (fun c3 => ?_) (fun c3 => ?_)
      · refine w_iconst hX dX9_sure_56 kI_m1 ?_
        exact w_iret hX hE dX9_sure_57 (Or.inl rfl) rfl ⟨by unfold A_sure; rw [if_pos hP]; exact ((sure_ls hW hp9.2 (by omega)).2.2 (by omega)).symm, hs⟩
      · refine w_aload_n (i := 0) hX dX9_sure_47 rfl rfl ?_
        refine w_getR (q := m + 11) hX dX9_sure_48 fo_RX9_91 rfl (mod_s hmk.1.1) (mod_r20 hmk.1.1) ?_
        refine w_iload_n (i := 1) hX dX9_sure_51 rfl rfl ?_
        refine w_top (y := nI (tN p)) hp9.1 ?_
        refine w_ialdN hX dX9_sure_52 (mod_a11 hmk.1.1) (by omega) (by omega) ?_
        refine w_top (y := nI (LSF B (tN p))) (hnt (show 0 < totB B by omega) _ hp9.2).1 ?_
        refine w_goto (tgt := 57) hX dX9_sure_53 (by decide) ?_
        exact w_iret hX hE dX9_sure_57 (Or.inl rfl) rfl ⟨by unfold A_sure; rw [if_pos hP]; exact ((sure_ls hW hp9.2 (by omega)).2.1 (by omega)).symm, hs⟩
  · refine w_iconst hX dX9_sure_13 kI_m1 ?_
    exact w_iret hX hE dX9_sure_14 (Or.inl rfl) rfl ⟨by unfold A_sure; rw [if_neg (by rw [hP]; decide)], same.rf.sI (Or.inr ⟨rfl, Or.inl rfl⟩)⟩
set_option maxHeartbeats 1000000 in
theorem s_m_before (Γ : Gm) (μ : Mem) (m : Nat) (B : Nat → Nat) (hm : HM μ m B) (hW : WB B) (a e : Int32) : SpI Γ MX9_before 17 0 0 [.ref m, .int a, .int e] μ (fun r μ2 => r = A_before B a e ∧ same (SV m) μ μ2) := by
  refine SpI.of okX9_before rfl [some (.ref m), some (.int a), some (.int e)] ⟨rfl, rfl, rfl, trivial⟩ (leb rfl) (leb rfl) (fun X hX hE hnm => ?_)
  refine w_aload_n (i := 0) hX dX9_before_0 rfl rfl ?_
  refine w_iconst hX dX9_before_1 kI_0 ?_
  refine w_putI hX dX9_before_2 fo_RX9_1 rfl rfl rfl rfl (mod_s hm.1.1) ?_
  refine w_aload_n (i := 0) hX dX9_before_5 rfl rfl ?_
  refine w_iload_n (i := 1) hX dX9_before_6 rfl rfl ?_
  refine w_callVI (As := [.int a]) (rest := []) (ci := 9) (o := m) (k2 := 0) (n2 := 0) hX dX9_before_7 (s_m_isPaper Γ (sI μ m 0 (nI 0)) m B (HM.sI hm (by omega)) hW a) okX9_isPaper (ltb rfl) (mod_s hm.1.1) ml_RX9_287 imX9_isPaper seX9_isPaper rfl (leb rfl) (leb rfl) rfl rfl (fun r9 μ9 hq9 => ?_)
  obtain ⟨hr9, hm9⟩ := hq9; rw [hr9, hm9]; clear hr9 hm9 r9 μ9
  refine wb_eq (tgt := 26) hX dX9_before_10 (by decide) (fun hA => ?_) (fun hA => ?_)
  · refine w_iconst hX dX9_before_26 kI_m1 ?_
    exact w_iret hX hE dX9_before_27 (Or.inl rfl) rfl ⟨by unfold A_before; simp [*], same.rf.sI (Or.inr ⟨rfl, Or.inl rfl⟩)⟩
  · refine w_aload_n (i := 0) hX dX9_before_13 rfl rfl ?_
    refine w_iload_n (i := 2) hX dX9_before_14 rfl rfl ?_
    refine w_callVI (As := [.int e]) (rest := []) (ci := 9) (o := m) (k2 := 0) (n2 := 0) hX dX9_before_15 (s_m_isPaper Γ (sI μ m 0 (nI 0)) m B (HM.sI hm (by omega)) hW e) okX9_isPaper (ltb rfl) (mod_s hm.1.1) ml_RX9_287 imX9_isPaper seX9_isPaper rfl (leb rfl) (leb rfl) rfl rfl (fun r9 μ9 hq9 => ?_)
    obtain ⟨hr9, hm9⟩ := hq9; rw [hr9, hm9]; clear hr9 hm9 r9 μ9
    refine wb_eq (tgt := 26) hX dX9_before_18 (by decide) (fun hB9 => ?_) (fun hB9 => ?_)
    · refine w_iconst hX dX9_before_26 kI_m1 ?_
      exact w_iret hX hE dX9_before_27 (Or.inl rfl) rfl ⟨by unfold A_before; simp [*], same.rf.sI (Or.inr ⟨rfl, Or.inl rfl⟩)⟩
    · refine w_iload_n (i := 1) hX dX9_before_21 rfl rfl ?_
      refine w_iload_n (i := 2) hX dX9_before_22 rfl rfl ?_
      refine wc_icmp_ne (tgt := 28) hX dX9_before_23 (by decide) (fun c3 => ?_) (fun c3 => ?_)
      · refine w_aload_n (i := 0) hX dX9_before_28 rfl rfl ?_
        refine w_aload_n (i := 0) hX dX9_before_29 rfl rfl ?_
        refine w_callVI (As := []) (rest := [.ref m]) (ci := 9) (o := m) (k2 := 0) (n2 := 0) hX dX9_before_30 (s_m_allP Γ (sI μ m 0 (nI 0)) m B (HM.sI hm (by omega)) hW) okX9_allPapers (ltb rfl) (mod_s hm.1.1) ml_RX9_308 imX9_allPapers seX9_allPapers rfl (leb rfl) (leb rfl) rfl rfl (fun r9 μ9 hq9 => ?_)
        obtain ⟨hr9, hm9⟩ := hq9; rw [hr9, hm9]; clear hr9 hm9 r9 μ9
        refine w_iconst hX dX9_before_33 kI_m1 ?_
        refine w_callVI (As := [.int (nI (FB B)), .int ((-1 : Int32))]) (rest := []) (ci := 9) (o := m) (k2 := 0) (n2 := 0) hX dX9_before_34 (s_m_findN Γ (sI μ m 0 (nI 0)) m B (hm.f (by omega)) hW) okX9_findWorld (ltb rfl) (mod_s hm.1.1) ml_RX9_311 imX9_findWorld seX9_findWorld rfl (leb rfl) (leb rfl) rfl rfl (fun r9 ν hq9 => ?_)
        obtain ⟨hr9, h18, hnt, hs9⟩ := hq9; rw [hr9]
        have hs0 : same (SV m) μ (sI μ m 0 (nI 0)) := same.rf.sI (Or.inr ⟨rfl, Or.inl rfl⟩)
        have hs := hs0.tr hs9
        have hmk := hm.sm hs (fun o k h => by unfold SV at h; omega)
        have hP12 := hW.2.2.2.2.1.1
        have htl := totB_le hW
        refine w_pop hX dX9_before_37 rfl ?_
        have ha9 := inC_nI (by omega) hA
        have he9 := inC_nI (by omega) hB9
        refine w_aload_n (i := 0) hX dX9_before_38 rfl rfl ?_
        refine w_getI hX dX9_before_39 fo_RX9_293 rfl (mod_s hmk.1.1) ?_
        refine w_top (y := nI (totB B)) h18 ?_
        refine wn_if_ne (tgt := 49) hX dX9_before_42 (by decide) (by omega) (fun c4 => ?_) (fun c4 => ?_)
        · refine w_aload_n (i := 0) hX dX9_before_49 rfl rfl ?_
          refine w_getR (q := m + 13) hX dX9_before_50 fo_RX9_97 rfl (mod_s hmk.1.1) (mod_r22 hmk.1.1) ?_
          refine w_bipush hX dX9_before_53 kB_12 ?_
          refine w_iload_n (i := 1) hX dX9_before_55 rfl rfl ?_
          refine w_top (y := nI (tN a)) ha9.1 ?_
          refine w_imulN hX dX9_before_56 ?_
          refine w_iload_n (i := 2) hX dX9_before_57 rfl rfl ?_
          refine w_top (y := nI (tN e)) he9.1 ?_
          refine w_iaddN hX dX9_before_58 ?_
          refine w_ialdN hX dX9_before_59 (mod_a13 hmk.1.1) (by omega) (by omega) ?_
          refine w_top (y := nI (E_bef B (tN a) (tN e))) (((hnt (show 0 < totB B by omega) _ ha9.2).2.2 _ he9.2).trans (congrArg nI od_bef)) ?_
          exact w_iret hX hE dX9_before_60 (Or.inl rfl) rfl ⟨by unfold A_before; rw [if_pos ⟨by rw [hA, hB9]; rfl, by assumption⟩], hs⟩
        · refine w_iconst hX dX9_before_45 kI_0 ?_
          refine w_goto (tgt := 60) hX dX9_before_46 (by decide) ?_
          exact w_iret hX hE dX9_before_60 (Or.inl rfl) rfl ⟨by unfold A_before; rw [if_pos ⟨by rw [hA, hB9]; rfl, by assumption⟩, E_bef_0 (by omega)], hs⟩
      · refine w_iconst hX dX9_before_26 kI_m1 ?_
        exact w_iret hX hE dX9_before_27 (Or.inl rfl) rfl ⟨by unfold A_before; simp [*], same.rf.sI (Or.inr ⟨rfl, Or.inl rfl⟩)⟩
set_option maxHeartbeats 1000000 in
theorem s_m_bits (Γ : Gm) (μ : Mem) (s : Nat) (hs : s < 2 ^ 31) : SpI Γ MX9_bits 0 0 0 [.int (nI s)] μ (fun r μ2 => r = nI (pcn s 12) ∧ μ2 = μ) := by
  refine SpI.of okX9_bits rfl [some (.int (nI s)), none, none] ⟨rfl, trivial⟩ (leb rfl) (leb rfl) (fun X hX hE hnm => ?_)
  refine w_iconst hX dX9_bits_0 kI_0 ?_
  refine w_istore_n (i := 1) (l2 := [some (.int (nI s)), some (.int (nI 0)), none]) hX dX9_bits_1 rfl (ltb rfl) rfl rfl ?_
  refine w_iconst hX dX9_bits_2 kI_0 ?_
  refine w_istore_n (i := 2) (l2 := [some (.int (nI s)), some (.int (nI 0)), some (.int (nI 0))]) hX dX9_bits_3 rfl (ltb rfl) rfl rfl ?_
  have loop : ∀ k, k ≤ 12 → WP Γ X 0 0 4 [some (.int (nI s)), some (.int (nI (pcn s k))), some (.int (nI k))] [] μ := by
    refine loopU 12 ?_
    intro k hk ih
    refine w_iload_n (i := 2) hX dX9_bits_4 rfl rfl ?_
    refine w_bipush hX dX9_bits_5 kB_12 ?_
    refine wn_icmp_ge (tgt := 24) hX dX9_bits_7 (by decide) (by omega) (by omega) (fun c1 => ?_) (fun c1 => ?_)
    · refine w_iload_n (i := 1) hX dX9_bits_24 rfl rfl ?_
      exact w_iret hX hE dX9_bits_25 (Or.inl rfl) rfl ⟨by rw [show k = 12 by omega], rfl⟩
    · refine w_iload_n (i := 1) hX dX9_bits_10 rfl rfl ?_
      refine w_iload_n (i := 0) hX dX9_bits_11 rfl rfl ?_
      refine w_iload_n (i := 2) hX dX9_bits_12 rfl rfl ?_
      refine w_ishr hX dX9_bits_13 ?_
      refine w_iconst hX dX9_bits_14 kI_1 ?_
      refine w_iand hX dX9_bits_15 ?_
      refine w_top (y := nI (if s.testBit k = true then 1 else 0)) (bit31 hs (by omega)) ?_
      refine w_iaddN hX dX9_bits_16 ?_
      refine w_istore_n (i := 1) (l2 := [some (.int (nI s)), some (.int (nI (pcn s k + (if s.testBit k = true then 1 else 0)))), some (.int (nI k))]) hX dX9_bits_17 rfl (ltb rfl) rfl rfl ?_
      refine w_iincN (w := 1) (l2 := [some (.int (nI s)), some (.int (nI (pcn s k + (if s.testBit k = true then 1 else 0)))), some (.int (nI (k + 1)))]) hX dX9_bits_18 rfl kI_1 rfl rfl ?_
      refine w_goto (tgt := 4) hX dX9_bits_21 (by decide) ?_
      refine w_locs (ls2 := [some (.int (nI s)), some (.int (nI (pcn s (k + 1)))), some (.int (nI (k + 1)))]) (by rw [pcn_k]) ?_
      exact ih (by omega)
  exact loop 0 (Nat.zero_le _)
set_option maxHeartbeats 1000000 in
theorem s_m_together (Γ : Gm) (μ : Mem) (m : Nat) (B : Nat → Nat) (hm : HM μ m B) (hW : WB B)  : SpI Γ MX9_together 17 0 0 [.ref m] μ (fun r μ2 => r = A_together B ∧ same (SV m) μ μ2) := by
  refine SpI.of okX9_together rfl [some (.ref m), none, none] ⟨rfl, trivial⟩ (leb rfl) (leb rfl) (fun X hX hE hnm => ?_)
  refine w_aload_n (i := 0) hX dX9_together_0 rfl rfl ?_
  refine w_iconst hX dX9_together_1 kI_0 ?_
  refine w_putI hX dX9_together_2 fo_RX9_1 rfl rfl rfl rfl (mod_s hm.1.1) ?_
  refine w_aload_n (i := 0) hX dX9_together_5 rfl rfl ?_
  refine w_aload_n (i := 0) hX dX9_together_6 rfl rfl ?_
  refine w_callVI (As := []) (rest := [.ref m]) (ci := 9) (o := m) (k2 := 0) (n2 := 0) hX dX9_together_7 (s_m_allP Γ (sI μ m 0 (nI 0)) m B (HM.sI hm (by omega)) hW) okX9_allPapers (ltb rfl) (mod_s hm.1.1) ml_RX9_308 imX9_allPapers seX9_allPapers rfl (leb rfl) (leb rfl) rfl rfl (fun r9 μ9 hq9 => ?_)
  obtain ⟨hr9, hm9⟩ := hq9; rw [hr9, hm9]; clear hr9 hm9 r9 μ9
  refine w_iconst hX dX9_together_10 kI_0 ?_
  refine w_callVI (As := [.int (nI (FB B)), .int (nI 0)]) (rest := []) (ci := 9) (o := m) (k2 := 0) (n2 := 0) hX dX9_together_11 (s_m_find0 Γ (sI μ m 0 (nI 0)) m B (hm.f (by omega)) hW (FB B) (by have := FB_lt hW; omega)) okX9_findWorld (ltb rfl) (mod_s hm.1.1) ml_RX9_311 imX9_findWorld seX9_findWorld rfl (leb rfl) (leb rfl) rfl rfl (fun r9 νa hq9 => ?_)
  obtain ⟨hr9, hs9⟩ := hq9; rw [hr9]
  have hs0 : same (SV m) μ (sI μ m 0 (nI 0)) := same.rf.sI (Or.inr ⟨rfl, Or.inl rfl⟩)
  have hsa := hs0.tr hs9
  have hma := hm.sm hsa (fun o k h => by unfold SV at h; omega)
  have hP12 := hW.2.2.2.2.1.1
  have h4096 := p12 hP12
  have hFB : FB B = 2 ^ B 352 - 1 := rfl
  have hpp := Nat.two_pow_pos (B 352)
  refine wb_eq (tgt := 19) hX dX9_together_14 (by decide) (fun hF => ?_) (fun hF => ?_)
  · refine w_iconst hX dX9_together_19 kI_1 ?_
    refine w_istore_n (i := 1) (l2 := [some (.ref m), some (.int (nI 1)), none]) hX dX9_together_20 rfl (ltb rfl) rfl rfl ?_
    have loop : ∀ k, k ≤ B 352 → ∀ ν : Mem, (same (SV m) μ ν) → (skA B = sks B (B 352 - k) (k + 1)) → WP Γ X 0 0 21 [some (.ref m), some (.int (nI (k + 1))), none] [] ν := by
      refine loopU (B 352) ?_
      intro k hk ihk ν hsm hv
      have hmk := hm.sm hsm (fun o k h => by unfold SV at h; omega)
      refine w_iload_n (i := 1) hX dX9_together_21 rfl rfl ?_
      refine w_aload_n (i := 0) hX dX9_together_22 rfl rfl ?_
      refine w_callVI (As := []) (rest := [.int (nI (k + 1))]) (ci := 9) (o := m) (k2 := 0) (n2 := 0) hX dX9_together_23 (s_m_papers Γ ν m B hmk hW) okX9_papers (ltb rfl) (mod_s hmk.1.1) ml_RX9_284 imX9_papers seX9_papers rfl (leb rfl) (leb rfl) rfl rfl (fun r9 μ9 hq9 => ?_)
      obtain ⟨hr9, hm9⟩ := hq9; rw [hr9, hm9]; clear hr9 hm9 r9 μ9
      refine wn_icmp_gt (tgt := 70) hX dX9_together_26 (by decide) (by omega) (by omega) (fun c2 => ?_) (fun c2 => ?_)
      · refine w_iconst hX dX9_together_70 kI_m1 ?_
        exact w_iret hX hE dX9_together_71 (Or.inl rfl) rfl ⟨by unfold A_together; rw [ex_F] at hF; rw [if_neg (of_decide_eq_false hF), hv, show B 352 - k = 0 by omega]; rfl, hsm⟩
      · refine w_iconst hX dX9_together_29 kI_1 ?_
        refine w_istore_n (i := 2) (l2 := [some (.ref m), some (.int (nI (k + 1))), some (.int (nI 1))]) hX dX9_together_30 rfl (ltb rfl) rfl rfl ?_
        have inl : ∀ b, b ≤ FB B → ∀ ν1 : Mem, (same (SV m) μ ν1) → (skb B (k + 1) (FB B) 1 = skb B (k + 1) (FB B - b) (b + 1)) → WP Γ X 0 0 31 [some (.ref m), some (.int (nI (k + 1))), some (.int (nI (b + 1)))] [] ν1 := by
          refine loopU (FB B) ?_
          intro b hb ihb ν1 hsn hsk
          have hm1 := hm.sm hsn (fun o k h => by unfold SV at h; omega)
          have hpc := pcn_le (x := b + 1) 12
          refine w_iload_n (i := 2) hX dX9_together_31 rfl rfl ?_
          refine w_aload_n (i := 0) hX dX9_together_32 rfl rfl ?_
          refine w_callVI (As := []) (rest := [.int (nI (b + 1))]) (ci := 9) (o := m) (k2 := 0) (n2 := 0) hX dX9_together_33 (s_m_allP Γ ν1 m B hm1 hW) okX9_allPapers (ltb rfl) (mod_s hm1.1.1) ml_RX9_308 imX9_allPapers seX9_allPapers rfl (leb rfl) (leb rfl) rfl rfl (fun r9 μ9 hq9 => ?_)
          obtain ⟨hr9, hm9⟩ := hq9; rw [hr9, hm9]; clear hr9 hm9 r9 μ9
          refine wn_icmp_gt (tgt := 64) hX dX9_together_36 (by decide) (by omega) (by omega) (fun c3 => ?_) (fun c3 => ?_)
          · refine w_iincN (w := 1) (l2 := [some (.ref m), some (.int (nI (k + 1 + 1))), some (.int (nI (b + 1)))]) hX dX9_together_64 rfl kI_1 rfl rfl ?_
            refine w_goto (tgt := 21) hX dX9_together_67 (by decide) ?_
            refine w_sub (l2 := [some (.ref m), some (.int (nI (k + 1 + 1))), none]) (by simp [lsub]) (leb rfl) ?_
            refine ihk (by omega) ν1 hsn ?_
            rw [show FB B - b = 0 by omega] at hsk
            rw [hv, show B 352 - k = (B 352 - (k + 1)) + 1 by omega, sks_S, hsk]; rfl
          · refine w_iload_n (i := 2) hX dX9_together_39 rfl rfl ?_
            refine w_callSI (As := [.int (nI (b + 1))]) (rest := []) (k2 := 0) (n2 := 0) hX dX9_together_40 (s_m_bits Γ ν1 (b + 1) (by omega)) okX9_bits ml_RX9_314 stX9_bits rfl (leb rfl) (leb rfl) rfl rfl (fun r9 μ9 hq9 => ?_)
            obtain ⟨hr9, hm9⟩ := hq9; rw [hr9, hm9]; clear hr9 hm9 r9 μ9
            refine w_iload_n (i := 1) hX dX9_together_43 rfl rfl ?_
            refine wn_icmp_ne (tgt := 58) hX dX9_together_44 (by decide) (by omega) (by omega) (fun c4 => ?_) (fun c4 => ?_)
            · refine w_iincN (w := 1) (l2 := [some (.ref m), some (.int (nI (k + 1))), some (.int (nI (b + 1 + 1)))]) hX dX9_together_58 rfl kI_1 rfl rfl ?_
              refine w_goto (tgt := 31) hX dX9_together_61 (by decide) ?_
              exact ihb (by omega) ν1 hsn (by rw [hsk, show FB B - b = (FB B - (b + 1)) + 1 by omega, skb_S, if_neg (fun h9 => by omega)])
            · refine w_aload_n (i := 0) hX dX9_together_47 rfl rfl ?_
              refine w_iload_n (i := 2) hX dX9_together_48 rfl rfl ?_
              refine w_iconst hX dX9_together_49 kI_0 ?_
              refine w_callVI (As := [.int (nI (b + 1)), .int (nI 0)]) (rest := []) (ci := 9) (o := m) (k2 := 0) (n2 := 0) hX dX9_together_50 (s_m_find0 Γ ν1 m B hm1 hW (b + 1) (by omega)) okX9_findWorld (ltb rfl) (mod_s hm1.1.1) ml_RX9_311 imX9_findWorld seX9_findWorld rfl (leb rfl) (leb rfl) rfl rfl (fun r9 ν2 hq9 => ?_)
              obtain ⟨hr9, hs9⟩ := hq9; rw [hr9]
              have hs2 := hsn.tr hs9
              have hm2 := hm.sm hs2 (fun o k h => by unfold SV at h; omega)
              refine wb_ne (tgt := 58) hX dX9_together_53 (by decide) (fun hex => ?_) (fun hex => ?_)
              · refine w_iincN (w := 1) (l2 := [some (.ref m), some (.int (nI (k + 1))), some (.int (nI (b + 1 + 1)))]) hX dX9_together_58 rfl kI_1 rfl rfl ?_
                refine w_goto (tgt := 31) hX dX9_together_61 (by decide) ?_
                exact ihb (by omega) ν2 hs2 (by rw [hsk, show FB B - b = (FB B - (b + 1)) + 1 by omega, skb_S, if_neg (fun h9 => by rw [hex] at h9; exact absurd h9.2 (by decide))])
              · refine w_iload_n (i := 2) hX dX9_together_56 rfl rfl ?_
                refine w_iret hX hE dX9_together_57 (Or.inl rfl) rfl ⟨?_, hs2⟩
                unfold A_together; rw [ex_F] at hF; rw [if_neg (of_decide_eq_false hF), hv, show B 352 - k = (B 352 - (k + 1)) + 1 by omega, sks_S, hsk, show FB B - b = (FB B - (b + 1)) + 1 by omega, skb_S, if_pos ⟨by omega, hex⟩]; rfl
        exact inl 0 (Nat.zero_le _) ν hsm rfl
    exact loop 0 (Nat.zero_le _) νa hsa rfl
  · refine w_iconst hX dX9_together_17 kI_m1 ?_
    exact w_iret hX hE dX9_together_18 (Or.inl rfl) rfl ⟨by unfold A_together; rw [ex_F] at hF; rw [if_pos (of_decide_eq_true hF)], hsa⟩
set_option maxHeartbeats 1000000 in
theorem s_m_open (Γ : Gm) (μ : Mem) (m : Nat) (B : Nat → Nat) (hm : HM μ m B) (hW : WB B)  : SpI Γ MX9_open 17 0 0 [.ref m] μ (fun r μ2 => r = A_open B ∧ same (SV m) μ μ2) := by
  refine SpI.of okX9_open rfl [some (.ref m), none, none] ⟨rfl, trivial⟩ (leb rfl) (leb rfl) (fun X hX hE hnm => ?_)
  refine w_aload_n (i := 0) hX dX9_open_0 rfl rfl ?_
  refine w_iconst hX dX9_open_1 kI_0 ?_
  refine w_putI hX dX9_open_2 fo_RX9_1 rfl rfl rfl rfl (mod_s hm.1.1) ?_
  refine w_aload_n (i := 0) hX dX9_open_5 rfl rfl ?_
  refine w_aload_n (i := 0) hX dX9_open_6 rfl rfl ?_
  refine w_callVI (As := []) (rest := [.ref m]) (ci := 9) (o := m) (k2 := 0) (n2 := 0) hX dX9_open_7 (s_m_allP Γ (sI μ m 0 (nI 0)) m B (HM.sI hm (by omega)) hW) okX9_allPapers (ltb rfl) (mod_s hm.1.1) ml_RX9_308 imX9_allPapers seX9_allPapers rfl (leb rfl) (leb rfl) rfl rfl (fun r9 μ9 hq9 => ?_)
  obtain ⟨hr9, hm9⟩ := hq9; rw [hr9, hm9]; clear hr9 hm9 r9 μ9
  refine w_iconst hX dX9_open_10 kI_m1 ?_
  refine w_callVI (As := [.int (nI (FB B)), .int ((-1 : Int32))]) (rest := []) (ci := 9) (o := m) (k2 := 0) (n2 := 0) hX dX9_open_11 (s_m_findN Γ (sI μ m 0 (nI 0)) m B (hm.f (by omega)) hW) okX9_findWorld (ltb rfl) (mod_s hm.1.1) ml_RX9_311 imX9_findWorld seX9_findWorld rfl (leb rfl) (leb rfl) rfl rfl (fun r9 ν hq9 => ?_)
  obtain ⟨hr9, h18, hnt, hs9⟩ := hq9; rw [hr9]
  have hs0 : same (SV m) μ (sI μ m 0 (nI 0)) := same.rf.sI (Or.inr ⟨rfl, Or.inl rfl⟩)
  have hs := hs0.tr hs9
  have hmk := hm.sm hs (fun o k h => by unfold SV at h; omega)
  have hP12 := hW.2.2.2.2.1.1
  have htl := totB_le hW
  refine w_pop hX dX9_open_14 rfl ?_
  refine w_iconst hX dX9_open_15 kI_0 ?_
  refine w_istore_n (i := 1) (l2 := [some (.ref m), some (.int (nI 0)), none]) hX dX9_open_16 rfl (ltb rfl) rfl rfl ?_
  refine w_iconst hX dX9_open_17 kI_0 ?_
  refine w_istore_n (i := 2) (l2 := [some (.ref m), some (.int (nI 0)), some (.int (nI 0))]) hX dX9_open_18 rfl (ltb rfl) rfl rfl ?_
  have loop : ∀ k, k ≤ B 352 → ∀ z : Int32, (0 < totB B → z = nI (E_open B k)) → WP Γ X 0 0 19 [some (.ref m), some (.int z), some (.int (nI k))] [] ν := by
    refine loopU (B 352) ?_
    intro k hk ih z hz
    refine w_iload_n (i := 2) hX dX9_open_19 rfl rfl ?_
    refine w_aload_n (i := 0) hX dX9_open_20 rfl rfl ?_
    refine w_callVI (As := []) (rest := [.int (nI k)]) (ci := 9) (o := m) (k2 := 0) (n2 := 0) hX dX9_open_21 (s_m_papers Γ ν m B hmk hW) okX9_papers (ltb rfl) (mod_s hmk.1.1) ml_RX9_284 imX9_papers seX9_papers rfl (leb rfl) (leb rfl) rfl rfl (fun r9 μ9 hq9 => ?_)
    obtain ⟨hr9, hm9⟩ := hq9; rw [hr9, hm9]; clear hr9 hm9 r9 μ9
    refine wn_icmp_ge (tgt := 58) hX dX9_open_24 (by decide) (by omega) (by omega) (fun c1 => ?_) (fun c1 => ?_)
    · refine w_aload_n (i := 0) hX dX9_open_58 rfl rfl ?_
      refine w_getI hX dX9_open_59 fo_RX9_293 rfl (mod_s hmk.1.1) ?_
      refine w_top (y := nI (totB B)) h18 ?_
      refine wn_if_ne (tgt := 69) hX dX9_open_62 (by decide) (by omega) (fun c2 => ?_) (fun c2 => ?_)
      · refine w_iload_n (i := 1) hX dX9_open_69 rfl rfl ?_
        exact w_iret hX hE dX9_open_70 (Or.inl rfl) rfl ⟨by unfold A_open; rw [if_pos (by omega), hz (by omega), show k = B 352 by omega], hs⟩
      · refine w_iconst hX dX9_open_65 kI_m1 ?_
        refine w_goto (tgt := 70) hX dX9_open_66 (by decide) ?_
        exact w_iret hX hE dX9_open_70 (Or.inl rfl) rfl ⟨by unfold A_open; rw [if_neg (by omega)], hs⟩
    · refine w_iload_n (i := 1) hX dX9_open_27 rfl rfl ?_
      refine w_aload_n (i := 0) hX dX9_open_28 rfl rfl ?_
      refine w_getR (q := m + 11) hX dX9_open_29 fo_RX9_91 rfl (mod_s hmk.1.1) (mod_r20 hmk.1.1) ?_
      refine w_iload_n (i := 2) hX dX9_open_32 rfl rfl ?_
      refine w_ialdN hX dX9_open_33 (mod_a11 hmk.1.1) (by omega) (by omega) ?_
      refine w_aload_n (i := 0) hX dX9_open_34 rfl rfl ?_
      refine w_getR (q := m + 12) hX dX9_open_35 fo_RX9_94 rfl (mod_s hmk.1.1) (mod_r21 hmk.1.1) ?_
      refine w_iload_n (i := 2) hX dX9_open_38 rfl rfl ?_
      refine w_ialdN hX dX9_open_39 (mod_a12 hmk.1.1) (by omega) (by omega) ?_
      refine wc_icmp_ge (tgt := 49) hX dX9_open_40 (by decide) (fun c3 => ?_) (fun c3 => ?_)
      · refine w_iconst hX dX9_open_49 kI_0 ?_
        refine w_ior hX dX9_open_50 ?_
        refine w_istore_n (i := 1) (l2 := [some (.ref m), some (.int (z ||| (nI 0))), some (.int (nI k))]) hX dX9_open_51 rfl (ltb rfl) rfl rfl ?_
        refine w_iincN (w := 1) (l2 := [some (.ref m), some (.int (z ||| (nI 0))), some (.int (nI (k + 1)))]) hX dX9_open_52 rfl kI_1 rfl rfl ?_
        refine w_goto (tgt := 19) hX dX9_open_55 (by decide) ?_
        refine ih (by omega) _ (fun h0 => ?_)
        have hll := LS_lt hW (show k < B 352 by omega)
        have hlm := hnt h0 k (by omega)
        have h9 : gI ν (m + 11) k = nI (LSF B k) := hlm.1
        have h8 : gI ν (m + 12) k = nI (MSF B k) := hlm.2.1
        rw [h9, h8] at c3
        have hsl := (sure_ls hW (show k < B 352 by omega) h0).1
        rw [hz h0, fa_or, Nat.or_zero, show E_open B (k + 1) = E_open B k by unfold E_open; rw [bw_S, if_neg (fun h7 => absurd ((nI_ltI (by omega) (by omega)).mpr (hsl.mpr (of_decide_eq_true h7))) (Int32.not_lt.mpr c3))]]
      · refine w_iconst hX dX9_open_43 kI_1 ?_
        refine w_iload_n (i := 2) hX dX9_open_44 rfl rfl ?_
        refine w_ishl hX dX9_open_45 ?_
        refine w_top (y := nI (2 ^ k)) (shl_nI (by omega)) ?_
        refine w_goto (tgt := 50) hX dX9_open_46 (by decide) ?_
        refine w_ior hX dX9_open_50 ?_
        refine w_istore_n (i := 1) (l2 := [some (.ref m), some (.int (z ||| (nI (2 ^ k)))), some (.int (nI k))]) hX dX9_open_51 rfl (ltb rfl) rfl rfl ?_
        refine w_iincN (w := 1) (l2 := [some (.ref m), some (.int (z ||| (nI (2 ^ k)))), some (.int (nI (k + 1)))]) hX dX9_open_52 rfl kI_1 rfl rfl ?_
        refine w_goto (tgt := 19) hX dX9_open_55 (by decide) ?_
        refine ih (by omega) _ (fun h0 => ?_)
        have hll := LS_lt hW (show k < B 352 by omega)
        have hlm := hnt h0 k (by omega)
        have h9 : gI ν (m + 11) k = nI (LSF B k) := hlm.1
        have h8 : gI ν (m + 12) k = nI (MSF B k) := hlm.2.1
        rw [h9, h8] at c3
        have hsl := (sure_ls hW (show k < B 352 by omega) h0).1
        rw [hz h0, fa_or, show E_open B (k + 1) = E_open B k ||| 2 ^ k by unfold E_open; rw [bw_S, if_pos (decide_eq_true (hsl.mp ((nI_ltI (by omega) (by omega)).mp c3)))]]
  exact loop 0 (Nat.zero_le _) _ (fun _ => rfl)
