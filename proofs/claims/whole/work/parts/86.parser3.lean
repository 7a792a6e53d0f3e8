theorem pWay_ok {s : Tp} {n : Nat} {B : Nat → Nat} {M : NM} {st : PSt} (h : PIv B M) (hp : pWay s n B M = .inr st) : PIv st.2.1 st.2.2 ∧ n < st.1 := by
  obtain ⟨hW, hB, hN⟩ := h
  unfold pWay at hp
  obtain ⟨a, ha, hp⟩ := bnd_inr hp
  obtain ⟨b, hb, hp⟩ := bnd_inr hp
  obtain ⟨-, i, hi, -, hi1, hi2⟩ := pNm_inr ha
  obtain ⟨-, j, hj, -, hj1, hj2⟩ := pNm_inr hb
  have hal := (hN.2.1 i hi).2.1 hi1
  have hbl := (hN.2.1 j hj).2.1 hj1
  rw [hi2] at hal; rw [hj2] at hbl
  by_cases c : a = b ∨ 0 < B (76 + 3 * a + b)
  · rw [if_pos c] at hp; cases hp
  rw [if_neg c] at hp
  obtain ⟨v, hv, hp⟩ := bnd_inr hp
  obtain ⟨-, -, hv1, hv2⟩ := pNb_inr hv
  cases hp
  have h3 := hW.1.1
  show PIv (stB (stB B (76 + 3 * a + b) v) (76 + 3 * b + a) v) M ∧ n < n + 4
  have o : ∀ i, i < 76 ∨ 85 ≤ i → stB (stB B (76 + 3 * a + b) v) (76 + 3 * b + a) v i = B i := fun i hi => by rw [stB_ne (by omega), stB_ne (by omega)]
  refine ⟨⟨⟨WBt_eq hW.1 (by rw [o 0 (by omega)]; exact h3) (fun i _ _ => o i (by omega)), fun x y hx hy => ?_, WBk_eq hW.2.2.1 (fun i _ _ => o i (by omega)), WBp_eq hW.2.2.2.1 (fun i _ _ => o i (by omega)), WBa_eq hW.2.2.2.2.1 (by rw [o 0 (by omega)]; omega) (fun i _ _ => o i (by omega)), WBr_eq hW.2.2.2.2.2 (by rw [o _ (by omega)]; omega) (fun i _ _ => o i (by omega))⟩, st_le (st_le hB (by omega)) (by omega), NMok_c hN (o _ (by omega)) (o _ (by omega)) (o _ (by omega)) (o _ (by omega))⟩, by omega⟩
  obtain ⟨g1, g2, g3⟩ := hW.2.1 x y hx hy
  rw [o 0 (by omega)]
  have key : ∀ x y, x < 3 → y < 3 → stB (stB B (76 + 3 * a + b) v) (76 + 3 * b + a) v (76 + 3 * x + y) = if (x = a ∧ y = b) ∨ (x = b ∧ y = a) then v else B (76 + 3 * x + y) := by
    intro x y hx hy
    by_cases e1 : x = b ∧ y = a
    · obtain ⟨rfl, rfl⟩ := e1; rw [stB_same, if_pos (Or.inr ⟨rfl, rfl⟩)]
    · rw [stB_ne (by omega)]
      by_cases e2 : x = a ∧ y = b
      · obtain ⟨rfl, rfl⟩ := e2; rw [stB_same, if_pos (Or.inl ⟨rfl, rfl⟩)]
      · rw [stB_ne (by omega), if_neg (by omega)]
  rw [key x y hx hy, key y x hy hx]
  by_cases e : (x = a ∧ y = b) ∨ (x = b ∧ y = a)
  · rw [if_pos e, if_pos (by omega)]; exact ⟨hv2, rfl, fun h9 => by omega⟩
  · rw [if_neg e, if_neg (by omega)]; exact ⟨g1, g2, g3⟩
theorem wk_ne {B : Nat → Nat} {w a b c d e i : Nat} (h : i < 86 + 5 * w ∨ 91 + 5 * w ≤ i) : wkB B w a b c d e i = B i := by
  unfold wkB
  rw [stB_ne (by omega), stB_ne (by omega), stB_ne (by omega), stB_ne (by omega), stB_ne (by omega)]
theorem pWork_ok {s : Tp} {n : Nat} {B : Nat → Nat} {M : NM} {st : PSt} (h : PIv B M) (hp : pWork s n B M = .inr st) : PIv st.2.1 st.2.2 ∧ n < st.1 := by
  obtain ⟨hW, hB, hN⟩ := h
  unfold pWork at hp
  obtain ⟨st1, h1, hp⟩ := bnd_inr hp
  obtain ⟨q1, q2, q3, rfl⟩ := pNew_inr h1
  obtain ⟨-, -, hp⟩ := bnd_inr hp
  obtain ⟨a, ha, hp⟩ := bnd_inr hp
  obtain ⟨-, -, hp⟩ := bnd_inr hp
  obtain ⟨b, hb, hp⟩ := bnd_inr hp
  obtain ⟨-, -, hp⟩ := bnd_inr hp
  obtain ⟨c, hc, hp⟩ := bnd_inr hp
  obtain ⟨-, -, hp⟩ := bnd_inr hp
  obtain ⟨d, hd, hp⟩ := bnd_inr hp
  obtain ⟨-, -, hp⟩ := bnd_inr hp
  obtain ⟨e, he, hp⟩ := bnd_inr hp
  obtain ⟨-, -, ha1, ha2⟩ := pNb_inr ha
  obtain ⟨-, -, hb1, hb2⟩ := pNb_inr hb
  obtain ⟨-, -, hc1, hc2⟩ := pNb_inr hc
  obtain ⟨-, -, hd1, hd2⟩ := pNb_inr hd
  obtain ⟨-, -, he1, he2⟩ := pNb_inr he
  cases hp
  show PIv (wkB (stB B 85 (B 85 + 1)) (B 85) a b c d e) (addM M (wd s (n + 1)) 1 (B 85)) ∧ n < n + 12
  have h3 := hW.1.1
  have o : ∀ i, i < 85 ∨ 126 ≤ i → wkB (stB B 85 (B 85 + 1)) (B 85) a b c d e i = B i := fun i hi => by rw [wk_ne (by omega), stB_ne (by omega)]
  have o85 : wkB (stB B 85 (B 85 + 1)) (B 85) a b c d e 85 = B 85 + 1 := by rw [wk_ne (by omega), stB_same]
  have hadd := add_ok (a0 := 85) (what := 1) hN q3 (wd_lt (by omega)) (Or.inr (Or.inl ⟨rfl, rfl⟩))
  refine ⟨⟨⟨WBt_eq hW.1 (by rw [o 0 (by omega)]; exact h3) (fun i _ _ => o i (by omega)), WBw_eq hW.2.1 (by rw [o 0 (by omega)]; omega) (fun i _ _ => o i (by omega)), ⟨by rw [o85]; omega, fun w hw => ?_⟩, WBp_eq hW.2.2.2.1 (fun i _ _ => o i (by omega)), WBa_eq hW.2.2.2.2.1 (by rw [o 0 (by omega)]; omega) (fun i _ _ => o i (by omega)), WBr_eq hW.2.2.2.2.2 (by rw [o _ (by omega)]; omega) (fun i _ _ => o i (by omega))⟩, ?_, NMok_c hadd (by rw [wk_ne (by omega)]) (by rw [wk_ne (by omega)]) (by rw [wk_ne (by omega)]) (by rw [wk_ne (by omega)])⟩, by omega⟩
  · rw [o85] at hw
    by_cases e9 : w = B 85
    · subst e9
      have e0 : wkB (stB B 85 (B 85 + 1)) (B 85) a b c d e (86 + 5 * B 85) = a := by unfold wkB; rw [stB_ne (by omega), stB_ne (by omega), stB_ne (by omega), stB_ne (by omega), stB_same]
      have e1 : wkB (stB B 85 (B 85 + 1)) (B 85) a b c d e (86 + 5 * B 85 + 1) = b := by unfold wkB; rw [stB_ne (by omega), stB_ne (by omega), stB_ne (by omega), stB_same]
      have e2 : wkB (stB B 85 (B 85 + 1)) (B 85) a b c d e (86 + 5 * B 85 + 2) = c := by unfold wkB; rw [stB_ne (by omega), stB_ne (by omega), stB_same]
      have e3 : wkB (stB B 85 (B 85 + 1)) (B 85) a b c d e (86 + 5 * B 85 + 3) = d := by unfold wkB; rw [stB_ne (by omega), stB_same]
      have e4 : wkB (stB B 85 (B 85 + 1)) (B 85) a b c d e (86 + 5 * B 85 + 4) = e := by unfold wkB; rw [stB_same]
      rw [e0, e1, e2, e3, e4]; omega
    · have := hW.2.2.1.2 w (by omega)
      rw [wk_ne (by omega), wk_ne (by omega), wk_ne (by omega), wk_ne (by omega), wk_ne (by omega), stB_ne (by omega), stB_ne (by omega), stB_ne (by omega), stB_ne (by omega), stB_ne (by omega)]
      exact this
  · exact st_le (st_le (st_le (st_le (st_le (st_le hB (by omega)) (by omega)) (by omega)) (by omega)) (by omega)) (by omega)
theorem pHrs_ok {s : Tp} {q : Nat} {M : NM} (hq : q < 9) : ∀ f n told B st, PIv B M → pHrs s M q f n told B = .inr st → PIv st.2.1 st.2.2 ∧ n ≤ st.1 := by
  intro f
  induction f with
  | zero => intro n told B st _ hp; cases hp
  | succ f ih =>
    intro n told B st h hp
    obtain ⟨hW, hB, hN⟩ := h
    simp only [pHrs] at hp
    by_cases c : kd s n ≠ 16
    · rw [if_pos c] at hp; cases hp; exact ⟨⟨hW, hB, hN⟩, Nat.le_refl _⟩
    rw [if_neg c] at hp
    obtain ⟨x, hx, hp⟩ := bnd_inr hp
    obtain ⟨-, -, hx1, hx2⟩ := pNb_inr hx
    by_cases c2 : told.testBit x = true
    · rw [if_pos c2] at hp; cases hp
    rw [if_neg c2] at hp
    obtain ⟨-, -, hp⟩ := bnd_inr hp
    obtain ⟨v, hv, hp⟩ := bnd_inr hp
    obtain ⟨-, -, hv1, hv2⟩ := pNb_inr hv
    have o : ∀ i, i < 127 ∨ 352 ≤ i → stB B (127 + 25 * q + x) v i = B i := fun i hi => stB_ne (by omega)
    have hPI : PIv (stB B (127 + 25 * q + x) v) M := by
      refine ⟨⟨WBt_eq hW.1 (by rw [o 0 (by omega)]; exact hW.1.1) (fun i _ _ => o i (by omega)), WBw_eq hW.2.1 (by rw [o 0 (by omega)]; omega) (fun i _ _ => o i (by omega)), WBk_eq hW.2.2.1 (fun i _ _ => o i (by omega)), ⟨by rw [o 126 (by omega)]; exact hW.2.2.2.1.1, fun p y hp9 hy => ?_⟩, WBa_eq hW.2.2.2.2.1 (by rw [o 0 (by omega)]; omega) (fun i _ _ => o i (by omega)), WBr_eq hW.2.2.2.2.2 (by rw [o _ (by omega)]; omega) (fun i _ _ => o i (by omega))⟩, st_le hB (by omega), NMok_c hN (o _ (by omega)) (o _ (by omega)) (o _ (by omega)) (o _ (by omega))⟩
      unfold stB
      split
      · exact hv2
      · exact hW.2.2.2.1.2 p y hp9 hy
    have := ih (n + 4) _ _ st hPI hp
    exact ⟨this.1, by omega⟩
theorem pPerson_ok {s : Tp} {n : Nat} {B : Nat → Nat} {M : NM} {st : PSt} (h : PIv B M) (hp : pPerson s n B M = .inr st) : PIv st.2.1 st.2.2 ∧ n < st.1 := by
  obtain ⟨hW, hB, hN⟩ := h
  unfold pPerson at hp
  obtain ⟨st1, h1, hp⟩ := bnd_inr hp
  obtain ⟨q1, q2, q3, rfl⟩ := pNew_inr h1
  have o : ∀ i, i ≠ 126 → stB B 126 (B 126 + 1) i = B i := fun i hi => stB_ne hi
  have hadd := add_ok (a0 := 126) (what := 2) hN q3 (wd_lt (by omega)) (Or.inr (Or.inr (Or.inl ⟨rfl, rfl⟩)))
  have hPI : PIv (stB B 126 (B 126 + 1)) (addM M (wd s (n + 1)) 2 (B 126)) := by
    refine ⟨⟨WBt_eq hW.1 (by rw [o 0 (by omega)]; exact hW.1.1) (fun i _ _ => o i (by omega)), WBw_eq hW.2.1 (by rw [o 0 (by omega)]; omega) (fun i _ _ => o i (by omega)), WBk_eq hW.2.2.1 (fun i _ _ => o i (by omega)), ⟨by rw [stB_same]; omega, fun p y hp9 hy => by rw [o _ (by omega)]; exact hW.2.2.2.1.2 p y hp9 hy⟩, WBa_eq hW.2.2.2.2.1 (by rw [o 0 (by omega)]; omega) (fun i _ _ => o i (by omega)), WBr_eq hW.2.2.2.2.2 (by rw [o _ (by omega)]; omega) (fun i _ _ => o i (by omega))⟩, st_le hB (by omega), hadd⟩
  have := pHrs_ok q1 26 (n + 2) 0 _ st hPI hp
  exact ⟨this.1, by omega⟩
theorem pa_ne {B : Nat → Nat} {w a b c d i : Nat} (h : i < 353 + 4 * w ∨ 357 + 4 * w ≤ i) : paB B w a b c d i = B i := by
  unfold paB
  rw [stB_ne (by omega), stB_ne (by omega), stB_ne (by omega), stB_ne (by omega)]
theorem paper_ok {s : Tp} {n : Nat} {B : Nat → Nat} {M : NM} {a b c d : Nat} (h : PIv B M) (q1 : B 352 < 12) (q2 : kd s (n + 1) = 4) (q3 : fnm M (wd s (n + 1)) = none) (ha : a < B 0) (hb : b ≤ 3649) (hc : c ≤ 1439) (hd : d ≤ 2) : PIv (paB (stB B 352 (B 352 + 1)) (B 352) a b c d) (addM M (wd s (n + 1)) 3 (B 352)) := by
  obtain ⟨hW, hB, hN⟩ := h
  have h3 := hW.1.1
  have o : ∀ i, i < 352 ∨ 401 ≤ i → paB (stB B 352 (B 352 + 1)) (B 352) a b c d i = B i := fun i hi => by rw [pa_ne (by omega), stB_ne (by omega)]
  have o52 : paB (stB B 352 (B 352 + 1)) (B 352) a b c d 352 = B 352 + 1 := by rw [pa_ne (by omega), stB_same]
  have hadd := add_ok (a0 := 352) (what := 3) hN q3 (wd_lt (by omega)) (Or.inr (Or.inr (Or.inr ⟨rfl, rfl⟩)))
  refine ⟨⟨WBt_eq hW.1 (by rw [o 0 (by omega)]; exact h3) (fun i _ _ => o i (by omega)), WBw_eq hW.2.1 (by rw [o 0 (by omega)]; omega) (fun i _ _ => o i (by omega)), WBk_eq hW.2.2.1 (fun i _ _ => o i (by omega)), WBp_eq hW.2.2.2.1 (fun i _ _ => o i (by omega)), ⟨by rw [o52]; omega, fun p hp => ?_⟩, WBr_eq hW.2.2.2.2.2 (by rw [o52]; omega) (fun i _ _ => o i (by omega))⟩, st_le (st_le (st_le (st_le (st_le hB (by omega)) (by omega)) (by omega)) (by omega)) (by omega), NMok_c hadd (by rw [pa_ne (by omega)]) (by rw [pa_ne (by omega)]) (by rw [pa_ne (by omega)]) (by rw [pa_ne (by omega)])⟩
  rw [o52] at hp
  rw [o 0 (by omega)]
  by_cases e9 : p = B 352
  · subst e9
    have e0 : paB (stB B 352 (B 352 + 1)) (B 352) a b c d (353 + 4 * B 352) = a := by unfold paB; rw [stB_ne (by omega), stB_ne (by omega), stB_ne (by omega), stB_same]
    have e1 : paB (stB B 352 (B 352 + 1)) (B 352) a b c d (353 + 4 * B 352 + 1) = b := by unfold paB; rw [stB_ne (by omega), stB_ne (by omega), stB_same]
    have e2 : paB (stB B 352 (B 352 + 1)) (B 352) a b c d (353 + 4 * B 352 + 2) = c := by unfold paB; rw [stB_ne (by omega), stB_same]
    have e3 : paB (stB B 352 (B 352 + 1)) (B 352) a b c d (353 + 4 * B 352 + 3) = d := by unfold paB; rw [stB_same]
    rw [e0, e1, e2, e3]; omega
  · have := hW.2.2.2.2.1.2 p (by omega)
    rw [pa_ne (by omega), pa_ne (by omega), pa_ne (by omega), pa_ne (by omega), stB_ne (by omega), stB_ne (by omega), stB_ne (by omega), stB_ne (by omega)]
    exact this
theorem addM_num {M : NM} {B : Nat → Nat} {w k v i what : Nat} (hN : NMok B M) (hi : i < (addM M w k v).1) (hk : (addM M w k v).2.2.1 i = what) (hne : k ≠ what) : i < M.1 ∧ M.2.2.1 i = what ∧ (addM M w k v).2.2.2 i = M.2.2.2 i := by
  have hi2 : i < M.1 + 1 := hi
  have hk2 : stB M.2.2.1 M.1 k i = what := hk
  by_cases e : i = M.1
  · rw [e, stB_same] at hk2; exact absurd hk2 hne
  · rw [stB_ne e] at hk2
    exact ⟨by omega, hk2, stB_ne e⟩
theorem pPaper_ok {s : Tp} {n : Nat} {B : Nat → Nat} {M : NM} {st : PSt} (h : PIv B M) (hp : pPaper s n B M = .inr st) : PIv st.2.1 st.2.2 ∧ n < st.1 := by
  unfold pPaper at hp
  obtain ⟨st1, h1, hp⟩ := bnd_inr hp
  obtain ⟨q1, q2, q3, rfl⟩ := pNew_inr h1
  obtain ⟨-, -, hp⟩ := bnd_inr hp
  obtain ⟨a, ha, hp⟩ := bnd_inr hp
  obtain ⟨-, -, hp⟩ := bnd_inr hp
  obtain ⟨b, hb, hp⟩ := bnd_inr hp
  obtain ⟨-, -, hp⟩ := bnd_inr hp
  obtain ⟨c, hc, hp⟩ := bnd_inr hp
  obtain ⟨-, -, hb1, hb2⟩ := pNb_inr hb
  obtain ⟨-, -, hc1, hc2⟩ := pNb_inr hc
  obtain ⟨-, i, hi, -, hi1, hi2⟩ := pNm_inr ha
  obtain ⟨g1, g2, g3⟩ := addM_num h.2.2 hi hi1 (by omega)
  have hal := (h.2.2.2.1 i g1).2.1 g2
  have hi3 : (addM M (wd s (n + 1)) 3 (B 352)).2.2.2 i = a := hi2
  rw [g3] at hi3
  rw [hi3] at hal
  by_cases c1 : kd s (n + 8) = 19
  · rw [if_pos c1] at hp; cases hp
    exact ⟨paper_ok h q1 q2 q3 hal hb2 hc2 (by omega), by show n < n + 9; omega⟩
  · rw [if_neg c1] at hp
    by_cases c2 : kd s (n + 8) = 20
    · rw [if_pos c2] at hp; cases hp
      exact ⟨paper_ok h q1 q2 q3 hal hb2 hc2 (by omega), by show n < n + 9; omega⟩
    · rw [if_neg c2] at hp; cases hp
      exact ⟨paper_ok h q1 q2 q3 hal hb2 hc2 (by omega), by show n < n + 8; omega⟩
theorem ru_ne {B : Nat → Nat} {w a b c d i : Nat} (h : (i < 402 + 4 * w ∨ 406 + 4 * w ≤ i) ∧ i ≠ 401) : ruB B w a b c d i = B i := by
  unfold ruB
  rw [stB_ne (by omega), stB_ne (by omega), stB_ne (by omega), stB_ne (by omega), stB_ne (by omega)]
theorem pRule_ok {s : Tp} {n w : Nat} {B : Nat → Nat} {M : NM} {st : PSt} (h : PIv B M) (hw : w ≤ 1) (hp : pRule s n B M w = .inr st) : PIv st.2.1 st.2.2 ∧ n < st.1 := by
  obtain ⟨hW, hB, hN⟩ := h
  unfold pRule at hp
  by_cases c0 : 16 ≤ B 401
  · rw [if_pos c0] at hp; cases hp
  rw [if_neg c0] at hp
  obtain ⟨a, ha, hp⟩ := bnd_inr hp
  obtain ⟨b, hb, hp⟩ := bnd_inr hp
  obtain ⟨-, i, hi, -, hi1, hi2⟩ := pNm_inr ha
  obtain ⟨-, j, hj, -, hj1, hj2⟩ := pNm_inr hb
  have hal := (hN.2.1 i hi).2.2.1 hi1
  have hbl := (hN.2.1 j hj).2.2.1 hj1
  rw [hi2] at hal; rw [hj2] at hbl
  by_cases c : a = b
  · rw [if_pos c] at hp; cases hp
  rw [if_neg c] at hp
  obtain ⟨v, hv, hp⟩ := bnd_inr hp
  obtain ⟨-, -, hv1, hv2⟩ := pNb_inr hv
  cases hp
  have h12 := hW.2.2.2.2.1.1
  show PIv (ruB B (B 401) w a b v) M ∧ n < n + 4
  have o : ∀ i, i < 401 → ruB B (B 401) w a b v i = B i := fun i hi => ru_ne (by omega)
  have o1 : ruB B (B 401) w a b v 401 = B 401 + 1 := by unfold ruB; rw [stB_same]
  refine ⟨⟨⟨WBt_eq hW.1 (by rw [o 0 (by omega)]; exact hW.1.1) (fun i _ _ => o i (by omega)), WBw_eq hW.2.1 (by rw [o 0 (by omega)]; omega) (fun i _ _ => o i (by omega)), WBk_eq hW.2.2.1 (fun i _ _ => o i (by omega)), WBp_eq hW.2.2.2.1 (fun i _ _ => o i (by omega)), WBa_eq hW.2.2.2.2.1 (by rw [o 0 (by omega)]; omega) (fun i _ _ => o i (by omega)), ⟨by rw [o1]; omega, fun k hk => ?_⟩⟩, st_le (st_le (st_le (st_le (st_le hB (by omega)) (by omega)) (by omega)) (by omega)) (by omega), NMok_c hN (o _ (by omega)) (o _ (by omega)) (o _ (by omega)) (o _ (by omega))⟩, by omega⟩
  rw [o1] at hk
  rw [o 352 (by omega)]
  by_cases e9 : k = B 401
  · subst e9
    have e0 : ruB B (B 401) w a b v (402 + 4 * B 401) = w := by unfold ruB; rw [stB_ne (by omega), stB_ne (by omega), stB_ne (by omega), stB_ne (by omega), stB_same]
    have e1 : ruB B (B 401) w a b v (402 + 4 * B 401 + 1) = a := by unfold ruB; rw [stB_ne (by omega), stB_ne (by omega), stB_ne (by omega), stB_same]
    have e2 : ruB B (B 401) w a b v (402 + 4 * B 401 + 2) = b := by unfold ruB; rw [stB_ne (by omega), stB_ne (by omega), stB_same]
    have e3 : ruB B (B 401) w a b v (402 + 4 * B 401 + 3) = v := by unfold ruB; rw [stB_ne (by omega), stB_same]
    rw [e0, e1, e2, e3]; omega
  · have := hW.2.2.2.2.2.2 k (by omega)
    rw [ru_ne (by omega), ru_ne (by omega), ru_ne (by omega), ru_ne (by omega)]
    exact this
theorem pSen_ok {s : Tp} {n : Nat} {B : Nat → Nat} {M : NM} {st : PSt} (h : PIv B M) (hp : bnd (pSen s n B M) (pSemi s) = .inr st) : PIv st.2.1 st.2.2 ∧ n + 1 < st.1 := by
  obtain ⟨st1, h1, h2⟩ := bnd_inr hp
  obtain ⟨-, -, h2⟩ := bnd_inr h2
  cases h2
  suffices h9 : PIv st1.2.1 st1.2.2 ∧ n < st1.1 from ⟨h9.1, by show n + 1 < st1.1 + 1; omega⟩
  unfold pSen at h1
  by_cases c1 : kd s n = 5
  · rw [if_pos c1] at h1; exact pTown_ok h h1
  rw [if_neg c1] at h1
  by_cases c2 : kd s n = 6
  · rw [if_pos c2] at h1; exact pBack_ok h h1
  rw [if_neg c2] at h1
  by_cases c3 : kd s n = 8
  · rw [if_pos c3] at h1; exact pWay_ok h h1
  rw [if_neg c3] at h1
  by_cases c4 : kd s n = 9
  · rw [if_pos c4] at h1; exact pWork_ok h h1
  rw [if_neg c4] at h1
  by_cases c5 : kd s n = 15
  · rw [if_pos c5] at h1; exact pPerson_ok h h1
  rw [if_neg c5] at h1
  by_cases c6 : kd s n = 17
  · rw [if_pos c6] at h1; exact pPaper_ok h h1
  rw [if_neg c6] at h1
  by_cases c7 : kd s n = 21
  · rw [if_pos c7] at h1; exact pRule_ok h (by omega) h1
  rw [if_neg c7] at h1
  by_cases c8 : kd s n = 22
  · rw [if_pos c8] at h1; exact pRule_ok h (by omega) h1
  rw [if_neg c8] at h1
  cases h1
theorem PI0 : PIv (fun _ => 0) M0 := by
  refine ⟨⟨⟨Nat.zero_le _, fun t ht => ⟨Nat.zero_le _, fun k hk => absurd hk (Nat.not_lt_zero _), fun k hk => absurd hk (Nat.not_lt_zero _)⟩⟩, fun a b _ _ => ⟨Nat.zero_le _, rfl, fun _ => rfl⟩, ⟨Nat.zero_le _, fun w hw => absurd hw (Nat.not_lt_zero _)⟩, ⟨Nat.zero_le _, fun q s _ _ => Nat.zero_le _⟩, ⟨Nat.zero_le _, fun q hq => absurd hq (Nat.not_lt_zero _)⟩, ⟨Nat.zero_le _, fun k hk => absurd hk (Nat.not_lt_zero _)⟩⟩, fun j => Nat.zero_le _, rfl, fun i hi => absurd hi (Nat.not_lt_zero _), fun i j hi => absurd hi (Nat.not_lt_zero _)⟩
