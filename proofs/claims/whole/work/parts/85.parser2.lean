/-! every sentence keeps what a book is -/
theorem WBt_eq {B B' : Nat → Nat} (h : WBt B) (h0 : B' 0 ≤ 3) (e : ∀ i, 1 ≤ i → i ≤ 75 → B' i = B i) : WBt B' := by
  refine ⟨h0, fun t ht => ?_⟩
  obtain ⟨h1, h2, h3⟩ := h.2 t ht
  have en : nB B' t = nB B t := e _ (by omega) (by omega)
  rw [en]
  refine ⟨h1, fun k hk => ?_, fun k hk => ?_⟩
  · rw [e _ (by omega) (by omega), e _ (by omega) (by omega)]; exact h2 k hk
  · rw [e _ (by omega) (by omega), e _ (by omega) (by omega)]; exact h3 k hk
theorem WBw_eq {B B' : Nat → Nat} (h : WBw B) (h0 : B 0 ≤ B' 0) (e : ∀ i, 76 ≤ i → i ≤ 84 → B' i = B i) : WBw B' := by
  intro a b ha hb
  obtain ⟨h1, h2, h3⟩ := h a b ha hb
  rw [e _ (by omega) (by omega), e _ (by omega) (by omega)]
  exact ⟨h1, h2, fun h9 => h3 (by omega)⟩
theorem WBk_eq {B B' : Nat → Nat} (h : WBk B) (e : ∀ i, 85 ≤ i → i ≤ 125 → B' i = B i) : WBk B' := by
  have e0 := e 85 (by omega) (by omega)
  refine ⟨by rw [e0]; exact h.1, fun w hw => ?_⟩
  rw [e0] at hw
  have := h.1
  rw [e _ (by omega) (by omega), e _ (by omega) (by omega), e _ (by omega) (by omega), e _ (by omega) (by omega), e _ (by omega) (by omega)]
  exact h.2 w hw
theorem WBp_eq {B B' : Nat → Nat} (h : WBp B) (e : ∀ i, 126 ≤ i → i ≤ 351 → B' i = B i) : WBp B' := by
  refine ⟨by rw [e 126 (by omega) (by omega)]; exact h.1, fun q s hq hs => ?_⟩
  rw [e _ (by omega) (by omega)]
  exact h.2 q s hq hs
theorem WBa_eq {B B' : Nat → Nat} (h : WBa B) (h0 : B 0 ≤ B' 0) (e : ∀ i, 352 ≤ i → i ≤ 400 → B' i = B i) : WBa B' := by
  have e0 := e 352 (by omega) (by omega)
  refine ⟨by rw [e0]; exact h.1, fun q hq => ?_⟩
  rw [e0] at hq
  have := h.1
  have h2 := h.2 q hq
  rw [e (353 + 4 * q) (by omega) (by omega), e (353 + 4 * q + 1) (by omega) (by omega), e (353 + 4 * q + 2) (by omega) (by omega), e (353 + 4 * q + 3) (by omega) (by omega)]
  exact ⟨by omega, h2.2⟩
theorem WBr_eq {B B' : Nat → Nat} (h : WBr B) (h0 : B 352 ≤ B' 352) (e : ∀ i, 401 ≤ i → i ≤ 465 → B' i = B i) : WBr B' := by
  have e0 := e 401 (by omega) (by omega)
  refine ⟨by rw [e0]; exact h.1, fun k hk => ?_⟩
  rw [e0] at hk
  have := h.1
  have h2 := h.2 k hk
  rw [e (402 + 4 * k) (by omega) (by omega), e (402 + 4 * k + 1) (by omega) (by omega), e (402 + 4 * k + 2) (by omega) (by omega), e (402 + 4 * k + 3) (by omega) (by omega)]
  exact ⟨h2.1, by omega, by omega, h2.2.2.2⟩
theorem NMok_c {B B' : Nat → Nat} {M : NM} (h : NMok B M) (e0 : B' 0 = B 0) (e1 : B' 85 = B 85) (e2 : B' 126 = B 126) (e3 : B' 352 = B 352) : NMok B' M := by
  unfold NMok
  rw [e0, e1, e2, e3]; exact h
theorem add_ok {B : Nat → Nat} {M : NM} {a0 what w : Nat} (h : NMok B M) (hf : fnm M w = none) (hw : w < 32 ^ 8) (ha : (a0 = 0 ∧ what = 0) ∨ (a0 = 85 ∧ what = 1) ∨ (a0 = 126 ∧ what = 2) ∨ (a0 = 352 ∧ what = 3)) : NMok (stB B a0 (B a0 + 1)) (addM M w what (B a0)) := by
  obtain ⟨h1, h2, h3⟩ := h
  have hno : ∀ i, i < M.1 → M.2.1 i ≠ w := fun i hi => fnmF_none _ _ hf i (Nat.zero_le _) (by omega)
  have hB : ∀ j, B j ≤ stB B a0 (B a0 + 1) j := fun j => by unfold stB; split <;> (try subst_vars) <;> omega
  refine ⟨?_, fun i hi => ?_, fun i j hi hj e => ?_⟩
  · show M.1 + 1 = _
    rcases ha with ⟨rfl, -⟩ | ⟨rfl, -⟩ | ⟨rfl, -⟩ | ⟨rfl, -⟩ <;> simp [stB] <;> omega
  · have hi2 : i < M.1 + 1 := hi
    show stB M.2.1 M.1 w i < _ ∧ (stB M.2.2.1 M.1 what i = 0 → stB M.2.2.2 M.1 (B a0) i < _) ∧ (stB M.2.2.1 M.1 what i = 3 → stB M.2.2.2 M.1 (B a0) i < _) ∧ stB M.2.2.1 M.1 what i ≤ 3
    by_cases e : i = M.1
    · subst e
      rw [stB_same, stB_same, stB_same]
      refine ⟨hw, fun h9 => ?_, fun h9 => ?_, by omega⟩
      · have : a0 = 0 := by omega
        subst this; rw [stB_same]; omega
      · have : a0 = 352 := by omega
        subst this; rw [stB_same]; omega
    · rw [stB_ne e, stB_ne e, stB_ne e]
      obtain ⟨g1, g2, g3, g4⟩ := h2 i (by omega)
      exact ⟨g1, fun h9 => Nat.lt_of_lt_of_le (g2 h9) (hB _), fun h9 => Nat.lt_of_lt_of_le (g3 h9) (hB _), g4⟩
  · have hi2 : i < M.1 + 1 := hi
    have hj2 : j < M.1 + 1 := hj
    have e' : stB M.2.1 M.1 w i = stB M.2.1 M.1 w j := e
    by_cases ei : i = M.1
    · by_cases ej : j = M.1
      · omega
      · rw [ei, stB_same, stB_ne ej] at e'; exact absurd e'.symm (hno j (by omega))
    · by_cases ej : j = M.1
      · rw [ej, stB_same, stB_ne ei] at e'; exact absurd e' (hno i (by omega))
      · rw [stB_ne ei, stB_ne ej] at e'; exact h3 i j (by omega) (by omega) e'
theorem st_le {B : Nat → Nat} {j v : Nat} (h : ∀ i, B i ≤ 9999) (hv : v ≤ 9999) : ∀ i, stB B j v i ≤ 9999 := fun i => by unfold stB; split; exact hv; exact h i
theorem pTown_ok {s : Tp} {n : Nat} {B : Nat → Nat} {M : NM} {st : PSt} (h : PIv B M) (hp : pTown s n B M = .inr st) : PIv st.2.1 st.2.2 ∧ n < st.1 := by
  obtain ⟨h1, h2, h3, rfl⟩ := pNew_inr hp
  obtain ⟨hW, hB, hN⟩ := h
  have ne : ∀ i, i ≠ 0 → stB B 0 (B 0 + 1) i = B i := fun i hi => stB_ne hi
  have e0 : stB B 0 (B 0 + 1) 0 = B 0 + 1 := stB_same
  refine ⟨⟨⟨WBt_eq hW.1 (by show stB B 0 (B 0 + 1) 0 ≤ 3; omega) (fun i _ _ => ne i (by omega)), WBw_eq hW.2.1 (by show B 0 ≤ stB B 0 (B 0 + 1) 0; omega) (fun i _ _ => ne i (by omega)), WBk_eq hW.2.2.1 (fun i _ _ => ne i (by omega)), WBp_eq hW.2.2.2.1 (fun i _ _ => ne i (by omega)), WBa_eq hW.2.2.2.2.1 (by show B 0 ≤ stB B 0 (B 0 + 1) 0; omega) (fun i _ _ => ne i (by omega)), WBr_eq hW.2.2.2.2.2 (by show B 352 ≤ stB B 0 (B 0 + 1) 352; rw [ne _ (by omega)]; omega) (fun i _ _ => ne i (by omega))⟩, st_le hB (by have := hW.1.1; omega), add_ok hN h3 (wd_lt (by omega)) (Or.inl ⟨rfl, rfl⟩)⟩, by show n < n + 2; omega⟩
/-- a day put in its place -/
theorem posI_sp {f : Nat → Nat} {v n : Nat} (hf : ∀ i j, i < j → j < n → f i < f j) : ∀ a, a ≤ n → (∀ j, j < posI f v a → f j ≤ v) ∧ ∀ j, posI f v a ≤ j → j < a → v < f j := by
  intro a
  induction a with
  | zero => intro _; exact ⟨fun j hj => absurd hj (Nat.not_lt_zero _), fun j _ hj => absurd hj (Nat.not_lt_zero _)⟩
  | succ a ih =>
    intro ha
    obtain ⟨i1, i2⟩ := ih (by omega)
    simp only [posI]
    by_cases c : v < f a
    · rw [if_pos c]
      refine ⟨i1, fun j h1 h2 => ?_⟩
      by_cases e : j = a
      · rw [e]; exact c
      · exact i2 j h1 (by omega)
    · rw [if_neg c]
      refine ⟨fun j hj => ?_, fun j h1 h2 => by omega⟩
      by_cases e : j = a
      · rw [e]; omega
      · have := hf j a (by omega) (by omega); omega
theorem dyI_lt {B : Nat → Nat} {t : Nat} (hW : WBt B) (ht : t < 3) : ∀ i j, i < j → j < nB B t → dyI B t i < dyI B t j := by
  have key : ∀ e i, i + e + 1 < nB B t → dyI B t i < dyI B t (i + e + 1) := by
    intro e
    induction e with
    | zero => intro i h; exact (hW.2 t ht).2.2 i h
    | succ e ih =>
      intro i h
      have h1 := ih i (by omega)
      have h2 : dyI B t (i + e + 1) < dyI B t (i + e + 1 + 1) := (hW.2 t ht).2.2 (i + e + 1) h
      have : i + (e + 1) + 1 = i + e + 1 + 1 := by omega
      rw [this]; omega
  intro i j hij hj
  have := key (j - i - 1) i (by omega)
  rwa [show i + (j - i - 1) + 1 = j by omega] at this
theorem ins_n {B : Nat → Nat} {t d h : Nat} : nB (insB B t d h) t = nB B t + 1 := by
  show insB B t d h (1 + 25 * t) = _
  unfold insB; rw [if_pos rfl]
theorem ins_d {B : Nat → Nat} {t d h k : Nat} (hk : k < nB B t + 1) : dyI (insB B t d h) t k = insF (dyI B t) d (posI (dyI B t) d (nB B t)) k := by
  show insB B t d h (1 + 25 * t + 1 + 2 * k) = _
  unfold insB
  rw [if_neg (by omega), if_pos (by omega), if_pos (by omega), show (1 + 25 * t + 1 + 2 * k - (2 + 25 * t)) / 2 = k by omega]
theorem ins_h {B : Nat → Nat} {t d h k : Nat} (hk : k < nB B t + 1) : hrI (insB B t d h) t k = insF (hrI B t) h (posI (dyI B t) d (nB B t)) k := by
  show insB B t d h (1 + 25 * t + 2 + 2 * k) = _
  unfold insB
  rw [if_neg (by omega), if_pos (by omega), if_neg (by omega), show (1 + 25 * t + 2 + 2 * k - (2 + 25 * t)) / 2 = k by omega]
theorem ins_o {B : Nat → Nat} {t d h i : Nat} (hn : nB B t ≤ 11) (hi : i < 1 + 25 * t ∨ 26 + 25 * t ≤ i) : insB B t d h i = B i := by
  unfold insB
  rw [if_neg (by omega), if_neg (by omega)]
theorem mS_dh {B : Nat → Nat} {t k : Nat} : mS B t k = 1440 * dyI B t k + 60 * hrI B t k := rfl
theorem hasD_iff {B : Nat → Nat} {t d : Nat} : hasD B t d = true ↔ ∃ k, k < nB B t ∧ dyI B t k = d := by
  unfold hasD; rw [exU_iff]; simp only [decide_eq_true_eq]
theorem insF_le {f : Nat → Nat} {v p n K : Nat} (hf : ∀ j, j < n → f j ≤ K) (hv : v ≤ K) (hp : p ≤ n) : ∀ j, j < n + 1 → insF f v p j ≤ K := by
  intro j hj
  unfold insF
  by_cases c : j < p
  · rw [if_pos c]; exact hf j (by omega)
  · rw [if_neg c]
    by_cases c2 : j = p
    · rw [if_pos c2]; exact hv
    · rw [if_neg c2]; exact hf (j - 1) (by omega)
theorem insF_ge {f : Nat → Nat} {v p n K : Nat} (hf : ∀ j, j < n → K ≤ f j) (hv : K ≤ v) (hp : p ≤ n) : ∀ j, j < n + 1 → K ≤ insF f v p j := by
  intro j hj
  unfold insF
  by_cases c : j < p
  · rw [if_pos c]; exact hf j (by omega)
  · rw [if_neg c]
    by_cases c2 : j = p
    · rw [if_pos c2]; exact hv
    · rw [if_neg c2]; exact hf (j - 1) (by omega)
theorem pBack_ok {s : Tp} {n : Nat} {B : Nat → Nat} {M : NM} {st : PSt} (h : PIv B M) (hp : pBack s n B M = .inr st) : PIv st.2.1 st.2.2 ∧ n < st.1 := by
  obtain ⟨hW, hB, hN⟩ := h
  unfold pBack at hp
  by_cases c0 : B 0 = 0
  · rw [if_pos c0] at hp; cases hp
  rw [if_neg c0] at hp
  by_cases c1 : 12 ≤ nB B (B 0 - 1)
  · rw [if_pos c1] at hp; cases hp
  rw [if_neg c1] at hp
  obtain ⟨d, hd, hp⟩ := bnd_inr hp
  obtain ⟨-, -, hd1, hd2⟩ := pNb_inr hd
  by_cases c2 : hasD B (B 0 - 1) d = true
  · rw [if_pos c2] at hp; cases hp
  rw [if_neg c2] at hp
  obtain ⟨u, -, hp⟩ := bnd_inr hp
  obtain ⟨x, hx, hp⟩ := bnd_inr hp
  obtain ⟨-, -, hx1, hx2⟩ := pNb_inr hx
  cases hp
  have h3 := hW.1.1
  generalize ht : B 0 - 1 = t at *
  have htl : t < 3 := by omega
  have hno : ∀ k, k < nB B t → dyI B t k ≠ d := fun k hk e => c2 (hasD_iff.mpr ⟨k, hk, e⟩)
  have hpl := posI_le (f := dyI B t) (v := d) (nB B t)
  have hsp := posI_sp (v := d) (dyI_lt hW.1 htl) (nB B t) (Nat.le_refl _)
  have hrng := hW.1.2 t htl
  have o : ∀ i, i < 1 + 25 * t ∨ 26 + 25 * t ≤ i → insB B t d x i = B i := fun i hi => ins_o (by omega) hi
  show PIv (insB B t d x) M ∧ n < n + 4
  refine ⟨⟨⟨⟨by rw [o 0 (by omega)]; exact h3, fun t' ht' => ?_⟩, WBw_eq hW.2.1 (by rw [o 0 (by omega)]; omega) (fun i _ _ => o i (by omega)), WBk_eq hW.2.2.1 (fun i _ _ => o i (by omega)), WBp_eq hW.2.2.2.1 (fun i _ _ => o i (by omega)), WBa_eq hW.2.2.2.2.1 (by rw [o 0 (by omega)]; omega) (fun i _ _ => o i (by omega)), WBr_eq hW.2.2.2.2.2 (by rw [o _ (by omega)]; omega) (fun i _ _ => o i (by omega))⟩, fun i => ?_, NMok_c hN (o _ (by omega)) (o _ (by omega)) (o _ (by omega)) (o _ (by omega))⟩, by show n < n + 4; omega⟩
  · by_cases e : t' = t
    · subst e
      show nB (insB B t' d x) t' ≤ 12 ∧ _
      rw [ins_n]
      refine ⟨by omega, fun k hk => ?_, fun k hk => ?_⟩
      · show dyI (insB B t' d x) t' k ≤ 3649 ∧ 1 ≤ hrI (insB B t' d x) t' k ∧ hrI (insB B t' d x) t' k ≤ 24
        rw [ins_d hk, ins_h hk]
        exact ⟨insF_le (fun j hj => (hrng.2.1 j hj).1) hd2 hpl k hk, insF_ge (fun j hj => (hrng.2.1 j hj).2.1) hx1 hpl k hk, insF_le (fun j hj => (hrng.2.1 j hj).2.2) hx2 hpl k hk⟩
      · show dyI (insB B t' d x) t' k < dyI (insB B t' d x) t' (k + 1)
        rw [ins_d (by omega), ins_d hk]
        generalize hP : posI (dyI B t') d (nB B t') = P at *
        unfold insF
        by_cases g1 : k + 1 < P
        · rw [if_pos (by omega), if_pos g1]; exact dyI_lt hW.1 htl k (k + 1) (by omega) (by omega)
        · rw [if_neg g1]
          by_cases g2 : k + 1 = P
          · rw [if_pos (by omega), if_pos g2]
            have := hsp.1 k (by omega)
            have := hno k (by omega)
            omega
          · rw [if_neg g2]
            by_cases g3 : k = P
            · rw [if_neg (by omega), if_pos g3]
              have := hsp.2 (k + 1 - 1) (by omega) (by omega)
              exact this
            · rw [if_neg (by omega), if_neg g3]
              exact dyI_lt hW.1 htl (k - 1) (k + 1 - 1) (by omega) (by omega)
    · have h9 := hW.1.2 t' ht'
      have hle := h9.1
      have en : nB (insB B t d x) t' = nB B t' := o _ (by omega)
      show nB (insB B t d x) t' ≤ 12 ∧ _
      rw [en]
      refine ⟨h9.1, fun k hk => ?_, fun k hk => ?_⟩
      · rw [o _ (by omega), o _ (by omega)]; exact h9.2.1 k hk
      · rw [o _ (by omega), o _ (by omega)]; exact h9.2.2 k hk
  · show insB B t d x i ≤ 9999
    unfold insB
    split
    · omega
    · split
      · next g =>
        split
        · exact insF_le (fun j hj => by have := (hrng.2.1 j hj).1; show dyI B t j ≤ 9999; exact Nat.le_trans this (by omega)) (by omega) hpl _ (by omega)
        · exact insF_le (fun j hj => by have := (hrng.2.1 j hj).2.2; show hrI B t j ≤ 9999; exact Nat.le_trans this (by omega)) (by omega) hpl _ (by omega)
      · exact hB i
