/-! what a text tells: sentences over (token, book, names) -/
abbrev NM : Type := Nat × (Nat → Nat) × (Nat → Nat) × (Nat → Nat)
abbrev PSt : Type := Nat × (Nat → Nat) × NM
def ft (s : Tp) (w n : Nat) : Nat := w + 16 * pl s n
def bnd {α β : Type} (x : Nat ⊕ α) (f : α → Nat ⊕ β) : Nat ⊕ β := match x with
  | .inl e => .inl e
  | .inr a => f a
def stB (B : Nat → Nat) (j v : Nat) : Nat → Nat := fun i => if i = j then v else B i
theorem stB_same {B : Nat → Nat} {j v : Nat} : stB B j v j = v := if_pos rfl
theorem stB_ne {B : Nat → Nat} {i j v : Nat} (h : i ≠ j) : stB B j v i = B i := if_neg h
def fnmF (cod : Nat → Nat) (w : Nat) : Nat → Nat → Option Nat
  | 0, _ => none
  | f + 1, k => if cod k = w then some k else fnmF cod w f (k + 1)
def fnm (M : NM) (w : Nat) : Option Nat := fnmF M.2.1 w M.1 0
theorem fnmF_y {cod : Nat → Nat} {w n k : Nat} (hk : k < n) (h : cod k = w) : fnmF cod w (n - k) k = some k := by
  rw [show n - k = (n - (k + 1)) + 1 by omega]; simp only [fnmF]; rw [if_pos h]
theorem fnmF_n {cod : Nat → Nat} {w n k : Nat} (hk : k < n) (h : cod k ≠ w) : fnmF cod w (n - k) k = fnmF cod w (n - (k + 1)) (k + 1) := by
  rw [show n - k = (n - (k + 1)) + 1 by omega]; simp only [fnmF]; rw [if_neg h]
theorem fnmF_some {cod : Nat → Nat} {w : Nat} : ∀ f k i, fnmF cod w f k = some i → k ≤ i ∧ i < k + f ∧ cod i = w := by
  intro f
  induction f with
  | zero => intro k i h; cases h
  | succ f ih =>
    intro k i h
    simp only [fnmF] at h
    by_cases e : cod k = w
    · rw [if_pos e] at h; cases h; exact ⟨Nat.le_refl _, by omega, e⟩
    · rw [if_neg e] at h
      have := ih (k + 1) i h
      exact ⟨by omega, by omega, this.2.2⟩
theorem fnmF_none {cod : Nat → Nat} {w : Nat} : ∀ f k, fnmF cod w f k = none → ∀ i, k ≤ i → i < k + f → cod i ≠ w := by
  intro f
  induction f with
  | zero => intro k _ i h1 h2; omega
  | succ f ih =>
    intro k h i h1 h2
    simp only [fnmF] at h
    by_cases e : cod k = w
    · rw [if_pos e] at h; cases h
    · rw [if_neg e] at h
      by_cases e2 : i = k
      · rw [e2]; exact e
      · exact ih (k + 1) h i (by omega) (by omega)
def addM (M : NM) (w k v : Nat) : NM := (M.1 + 1, stB M.2.1 M.1 w, stB M.2.2.1 M.1 k, stB M.2.2.2 M.1 v)
def pNew (s : Tp) (n : Nat) (B : Nat → Nat) (M : NM) (a0 most what : Nat) : Nat ⊕ PSt :=
  if most ≤ B a0 then .inl (ft s 5 n) else if kd s (n + 1) ≠ 4 then .inl (ft s 1 (n + 1)) else match fnm M (wd s (n + 1)) with
    | some _ => .inl (ft s 3 (n + 1))
    | none => .inr (n + 2, stB B a0 (B a0 + 1), addM M (wd s (n + 1)) what (B a0))
def pNb (s : Tp) (n lo hi : Nat) : Nat ⊕ Nat := if kd s n ≠ 3 then .inl (ft s 1 n) else if vl s n < lo ∨ hi < vl s n then .inl (ft s 4 n) else .inr (vl s n)
def pNm (s : Tp) (n : Nat) (M : NM) (what : Nat) : Nat ⊕ Nat := if kd s n ≠ 4 then .inl (ft s 1 n) else match fnm M (wd s n) with
  | none => .inl (ft s 2 n)
  | some i => if M.2.2.1 i = what then .inr (M.2.2.2 i) else .inl (ft s 2 n)
def pWd (s : Tp) (n w : Nat) : Nat ⊕ Unit := if kd s n = w then .inr () else .inl (ft s 1 n)
def hrI (B : Nat → Nat) (t k : Nat) : Nat := B (1 + 25 * t + 2 + 2 * k)
def hasD (B : Nat → Nat) (t d : Nat) : Bool := exU (fun k => decide (dyI B t k = d)) (nB B t)
def insB (B : Nat → Nat) (t d h : Nat) : Nat → Nat := fun i =>
  if i = 1 + 25 * t then nB B t + 1 else if 1 + 25 * t < i ∧ i ≤ 1 + 25 * t + 2 * (nB B t + 1) then (if (i - (2 + 25 * t)) % 2 = 0 then insF (dyI B t) d (posI (dyI B t) d (nB B t)) ((i - (2 + 25 * t)) / 2) else insF (hrI B t) h (posI (dyI B t) d (nB B t)) ((i - (2 + 25 * t)) / 2)) else B i
def pTown (s : Tp) (n : Nat) (B : Nat → Nat) (M : NM) : Nat ⊕ PSt := pNew s n B M 0 3 0
def pBack (s : Tp) (n : Nat) (B : Nat → Nat) (M : NM) : Nat ⊕ PSt :=
  if B 0 = 0 then .inl (ft s 1 n) else if 12 ≤ nB B (B 0 - 1) then .inl (ft s 5 n) else
    bnd (pNb s (n + 1) 0 3649) (fun d => if hasD B (B 0 - 1) d = true then .inl (ft s 3 (n + 1)) else
      bnd (pWd s (n + 2) 7) (fun _ => bnd (pNb s (n + 3) 1 24) (fun h => .inr (n + 4, insB B (B 0 - 1) d h, M))))
def pWay (s : Tp) (n : Nat) (B : Nat → Nat) (M : NM) : Nat ⊕ PSt :=
  bnd (pNm s (n + 1) M 0) (fun a => bnd (pNm s (n + 2) M 0) (fun b => if a = b ∨ 0 < B (76 + 3 * a + b) then .inl (ft s 3 (n + 2)) else
    bnd (pNb s (n + 3) 1 9999) (fun v => .inr (n + 4, stB (stB B (76 + 3 * a + b) v) (76 + 3 * b + a) v, M))))
def wkB (B : Nat → Nat) (w a b c d e : Nat) : Nat → Nat := stB (stB (stB (stB (stB B (86 + 5 * w) a) (86 + 5 * w + 1) b) (86 + 5 * w + 2) c) (86 + 5 * w + 3) d) (86 + 5 * w + 4) e
def pWork (s : Tp) (n : Nat) (B : Nat → Nat) (M : NM) : Nat ⊕ PSt :=
  bnd (pNew s n B M 85 8 1) (fun st => bnd (pWd s (n + 2) 10) (fun _ => bnd (pNb s (n + 3) 0 3649) (fun a => bnd (pWd s (n + 4) 11) (fun _ => bnd (pNb s (n + 5) 0 1440) (fun b => bnd (pWd s (n + 6) 12) (fun _ => bnd (pNb s (n + 7) (b + 1) 1440) (fun c => bnd (pWd s (n + 8) 13) (fun _ => bnd (pNb s (n + 9) 1 1440) (fun d => bnd (pWd s (n + 10) 14) (fun _ => bnd (pNb s (n + 11) 0 999) (fun e => .inr (n + 12, wkB st.2.1 (B 85) a b c d e, st.2.2))))))))))))
def pHrs (s : Tp) (M : NM) (q : Nat) : Nat → Nat → Nat → (Nat → Nat) → Nat ⊕ PSt
  | 0, _, _, _ => .inl 1
  | f + 1, n, told, B => if kd s n ≠ 16 then .inr (n, B, M) else bnd (pNb s (n + 1) 1 24) (fun h => if told.testBit h = true then .inl (ft s 3 (n + 1)) else
      bnd (pWd s (n + 2) 14) (fun _ => bnd (pNb s (n + 3) 0 99) (fun v => pHrs s M q f (n + 4) (told ||| 2 ^ h) (stB B (127 + 25 * q + h) v))))
def pPerson (s : Tp) (n : Nat) (B : Nat → Nat) (M : NM) : Nat ⊕ PSt := bnd (pNew s n B M 126 9 2) (fun st => pHrs s st.2.2 (B 126) 26 (n + 2) 0 st.2.1)
def paB (B : Nat → Nat) (q a b c d : Nat) : Nat → Nat := stB (stB (stB (stB B (353 + 4 * q) a) (353 + 4 * q + 1) b) (353 + 4 * q + 2) c) (353 + 4 * q + 3) d
def pPaper (s : Tp) (n : Nat) (B : Nat → Nat) (M : NM) : Nat ⊕ PSt :=
  bnd (pNew s n B M 352 12 3) (fun st => bnd (pWd s (n + 2) 18) (fun _ => bnd (pNm s (n + 3) st.2.2 0) (fun a => bnd (pWd s (n + 4) 10) (fun _ => bnd (pNb s (n + 5) 0 3649) (fun b => bnd (pWd s (n + 6) 7) (fun _ => bnd (pNb s (n + 7) 0 1439) (fun c =>
    if kd s (n + 8) = 19 then .inr (n + 9, paB st.2.1 (B 352) a b c 1, st.2.2) else if kd s (n + 8) = 20 then .inr (n + 9, paB st.2.1 (B 352) a b c 2, st.2.2) else .inr (n + 8, paB st.2.1 (B 352) a b c 0, st.2.2))))))))
def ruB (B : Nat → Nat) (k a b c d : Nat) : Nat → Nat := stB (stB (stB (stB (stB B (402 + 4 * k) a) (402 + 4 * k + 1) b) (402 + 4 * k + 2) c) (402 + 4 * k + 3) d) 401 (k + 1)
def pRule (s : Tp) (n : Nat) (B : Nat → Nat) (M : NM) (w : Nat) : Nat ⊕ PSt :=
  if 16 ≤ B 401 then .inl (ft s 5 n) else bnd (pNm s (n + 1) M 3) (fun a => bnd (pNm s (n + 2) M 3) (fun b => if a = b then .inl (ft s 3 (n + 2)) else
    bnd (pNb s (n + 3) 0 9999) (fun v => .inr (n + 4, ruB B (B 401) w a b v, M))))
def pSen (s : Tp) (n : Nat) (B : Nat → Nat) (M : NM) : Nat ⊕ PSt :=
  if kd s n = 5 then pTown s n B M else if kd s n = 6 then pBack s n B M else if kd s n = 8 then pWay s n B M else if kd s n = 9 then pWork s n B M else if kd s n = 15 then pPerson s n B M else if kd s n = 17 then pPaper s n B M else if kd s n = 21 then pRule s n B M 0 else if kd s n = 22 then pRule s n B M 1 else .inl (ft s 1 n)
def pSemi (s : Tp) (st : PSt) : Nat ⊕ PSt := bnd (pWd s st.1 2) (fun _ => .inr (st.1 + 1, st.2))
def pAll (s : Tp) : Nat → PSt → Nat ⊕ PSt
  | 0, _ => .inl 1
  | f + 1, st => if kd s st.1 = 0 then .inr st else bnd (bnd (pSen s st.1 st.2.1 st.2.2) (pSemi s)) (pAll s f)
def M0 : NM := (0, (fun _ => 0), (fun _ => 0), (fun _ => 0))
def pRead (s : Tp) : Nat ⊕ PSt := pAll s 1001 (0, (fun _ => 0), M0)
/-- what stays true between sentences -/
def NMok (B : Nat → Nat) (M : NM) : Prop := M.1 = B 0 + B 85 + B 126 + B 352 ∧ (∀ i, i < M.1 → M.2.1 i < 32 ^ 8 ∧ (M.2.2.1 i = 0 → M.2.2.2 i < B 0) ∧ (M.2.2.1 i = 3 → M.2.2.2 i < B 352) ∧ M.2.2.1 i ≤ 3) ∧ ∀ i j, i < M.1 → j < M.1 → M.2.1 i = M.2.1 j → i = j
def PIv (B : Nat → Nat) (M : NM) : Prop := WB B ∧ (∀ j, B j ≤ 9999) ∧ NMok B M
theorem ft_lt {s : Tp} {w n : Nat} (hs : okT s) (hw : w ≤ 5) (h1 : 1 ≤ w) : 1 ≤ ft s w n ∧ ft s w n < 2 ^ 20 := by
  have := (pl_le (s := s) n).2
  have := hs.1
  unfold ft; omega
theorem pNb_inr {s : Tp} {n lo hi v : Nat} (h : pNb s n lo hi = .inr v) : kd s n = 3 ∧ v = vl s n ∧ lo ≤ v ∧ v ≤ hi := by
  unfold pNb at h
  by_cases c : kd s n ≠ 3
  · rw [if_pos c] at h; cases h
  · rw [if_neg c] at h
    by_cases c2 : vl s n < lo ∨ hi < vl s n
    · rw [if_pos c2] at h; cases h
    · rw [if_neg c2] at h; cases h; exact ⟨by omega, rfl, by omega, by omega⟩
theorem pNm_inr {s : Tp} {n what v : Nat} {M : NM} (h : pNm s n M what = .inr v) : kd s n = 4 ∧ ∃ i, i < M.1 ∧ M.2.1 i = wd s n ∧ M.2.2.1 i = what ∧ M.2.2.2 i = v := by
  unfold pNm at h
  by_cases c : kd s n ≠ 4
  · rw [if_pos c] at h; cases h
  · rw [if_neg c] at h
    cases h9 : fnm M (wd s n) with
    | none => rw [h9] at h; cases h
    | some i =>
      rw [h9] at h
      have h8 := fnmF_some _ _ _ h9
      by_cases c2 : M.2.2.1 i = what
      · have h7 : (if M.2.2.1 i = what then Sum.inr (M.2.2.2 i) else Sum.inl (ft s 2 n) : Nat ⊕ Nat) = .inr v := h
        rw [if_pos c2] at h7; cases h7
        exact ⟨by omega, i, by omega, h8.2.2, c2, rfl⟩
      · have h7 : (if M.2.2.1 i = what then Sum.inr (M.2.2.2 i) else Sum.inl (ft s 2 n) : Nat ⊕ Nat) = .inr v := h
        rw [if_neg c2] at h7; cases h7
theorem pWd_inr {s : Tp} {n w : Nat} {u : Unit} (h : pWd s n w = .inr u) : kd s n = w := by
  unfold pWd at h
  by_cases c : kd s n = w
  · exact c
  · rw [if_neg c] at h; cases h
theorem bnd_inr {α β : Type} {x : Nat ⊕ α} {f : α → Nat ⊕ β} {y : β} (h : bnd x f = .inr y) : ∃ a, x = .inr a ∧ f a = .inr y := by
  cases x with
  | inl e => cases h
  | inr a => exact ⟨a, rfl, h⟩
theorem pNew_inr {s : Tp} {n a0 most what : Nat} {B : Nat → Nat} {M : NM} {st : PSt} (h : pNew s n B M a0 most what = .inr st) : B a0 < most ∧ kd s (n + 1) = 4 ∧ fnm M (wd s (n + 1)) = none ∧ st = (n + 2, stB B a0 (B a0 + 1), addM M (wd s (n + 1)) what (B a0)) := by
  unfold pNew at h
  by_cases c : most ≤ B a0
  · rw [if_pos c] at h; cases h
  · rw [if_neg c] at h
    by_cases c2 : kd s (n + 1) ≠ 4
    · rw [if_pos c2] at h; cases h
    · rw [if_neg c2] at h
      cases h9 : fnm M (wd s (n + 1)) with
      | some i => rw [h9] at h; cases h
      | none => rw [h9] at h; cases h; exact ⟨by omega, by omega, rfl, rfl⟩
