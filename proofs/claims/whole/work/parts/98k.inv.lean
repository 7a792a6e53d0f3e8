/-! what the law keeps: the class's side and the reference's side of one book, one tape, one set of marks -/
theorem tpR.sm {S : Nat → Nat → Prop} {μ ν : Mem} {t : Nat} {s : Tp} (h : tpR μ t s) (hs : same S μ ν) (hS : ∀ o k, S o k → ¬ (o = t ∨ o = t + 1)) : tpR ν t s :=
  ⟨hs.isTp h.1, by rw [(hs.2.2 _ _ (fun h9 => hS _ _ h9 (Or.inl rfl))).1]; exact h.2.1, fun j hj => by rw [(hs.2.2 _ _ (fun h9 => hS _ _ h9 (Or.inr rfl))).1]; exact h.2.2 j hj⟩
theorem mtR.sm {S : Nat → Nat → Prop} {μ ν : Mem} {m : Nat} {s : Tp} (h : mtR μ m s) (hs : same S μ ν) (hS : ∀ o k, S o k → ¬ ((o = m ∧ k = 2) ∨ o = m + 1)) : mtR ν m s :=
  ⟨hs.isMod h.1, by rw [(hs.2.2 _ _ (fun h9 => hS _ _ h9 (Or.inl ⟨rfl, rfl⟩))).1]; exact h.2.1, fun j hj => by rw [(hs.2.2 _ _ (fun h9 => hS _ _ h9 (Or.inr rfl))).1]; exact h.2.2 j hj⟩
theorem WdI.sm {S : Nat → Nat → Prop} {μ ν : Mem} {w : Nat} {B : Nat → Nat} (h : WdI μ w B) (hs : same S μ ν) (hS : ∀ o k, S o k → ¬ (w ≤ o ∧ o ≤ w + 5)) : WdI ν w B := by
  have g : ∀ o k, w ≤ o → o ≤ w + 5 → gI ν o k = gI μ o k := fun o k h1 h2 => (hs.2.2 o k (fun h9 => hS _ _ h9 ⟨h1, h2⟩)).1
  refine ⟨hs.isWd h.1, ?_⟩
  rcases h.2 with h1 | ⟨h1, a, b, c, d, e⟩
  · exact Or.inl (by rw [g _ _ (by omega) (by omega)]; exact h1)
  · exact Or.inr ⟨by rw [g _ _ (by omega) (by omega)]; exact h1, by rw [g _ _ (by omega) (by omega)]; exact a, fun i hi => by rw [g _ _ (by omega) (by omega)]; exact b i hi, fun i hi => by rw [g _ _ (by omega) (by omega)]; exact c i hi, fnR_same d hs (fun h9 => hS _ _ h9 ⟨by omega, by omega⟩) (fun k h9 => hS _ _ h9 ⟨by omega, by omega⟩) (fun k h9 => hS _ _ h9 ⟨by omega, by omega⟩), by rw [g _ _ (by omega) (by omega)]; exact e⟩
theorem PlI.sm {S : Nat → Nat → Prop} {μ ν : Mem} {w : Nat} {B : Nat → Nat} (h : PlI μ w B) (hs : same S μ ν) (hS : ∀ o k, S o k → ¬ (w ≤ o ∧ o ≤ w + 5)) : PlI ν w B := by
  have g : ∀ o k, w ≤ o → o ≤ w + 5 → gI ν o k = gI μ o k := fun o k h1 h2 => (hs.2.2 o k (fun h9 => hS _ _ h9 ⟨h1, h2⟩)).1
  refine ⟨hs.isPl h.1, ?_⟩
  rcases h.2 with h1 | ⟨f, h1, h2, a, b, c, d, e⟩
  · exact Or.inl (by rw [g _ _ (by omega) (by omega)]; exact h1)
  · exact Or.inr ⟨f, h1, by rw [g _ _ (by omega) (by omega)]; exact h2, by rw [g _ _ (by omega) (by omega)]; exact a, by rw [g _ _ (by omega) (by omega)]; exact b, by rw [g _ _ (by omega) (by omega)]; exact c, by rw [g _ _ (by omega) (by omega)]; exact d, fun j hj => ⟨by rw [g _ _ (by omega) (by omega)]; exact (e j hj).1, by rw [g _ _ (by omega) (by omega)]; exact (e j hj).2⟩⟩
theorem JI.sm {S : Nat → Nat → Prop} {μ ν : Mem} {w : Nat} {B : Nat → Nat} (h : JI μ w B) (hs : same S μ ν) (hS : ∀ o k, S o k → ¬ (w ≤ o ∧ o ≤ w + 4)) : JI ν w B := by
  have g : ∀ o k, w ≤ o → o ≤ w + 4 → gI ν o k = gI μ o k := fun o k h1 h2 => (hs.2.2 o k (fun h9 => hS _ _ h9 ⟨h1, h2⟩)).1
  refine ⟨hs.isJn h.1, ?_⟩
  rcases h.2 with h1 | ⟨f, f2, h1, h1', h2, h3, a, b, c⟩
  · exact Or.inl (by rw [g _ _ (by omega) (by omega)]; exact h1)
  · refine Or.inr ⟨f, f2, h1, h1', by rw [g _ _ (by omega) (by omega)]; exact h2, by rw [g _ _ (by omega) (by omega)]; exact h3, by rw [g _ _ (by omega) (by omega)]; exact a, fun i hi => by rw [g _ _ (by omega) (by omega)]; exact b i hi, ?_⟩
    exact evR_same c hs (fun h9 => hS _ _ h9 ⟨by omega, by omega⟩) (fun k h9 => hS _ _ h9 ⟨by omega, by omega⟩) (fun k h9 => hS _ _ h9 ⟨by omega, by omega⟩)
/-- the class's side -/
def XI (μ : Mem) (b c : Nat) (B : Nat → Nat) (s : Tp) (k9 : Nat) : Prop := isX μ b c ∧ ((b = 25 ∧ c = 41) ∨ (b = 41 ∧ c = 25)) ∧ Rb μ b B ∧ isBk μ c ∧ tpR μ 1 s ∧ isRd μ 3 ∧ (∀ k, k < 18 → gL μ 4 k = lN (kw k)) ∧ isVt μ 18 ∧ WdI μ 6 B ∧ PlI μ 12 B ∧ JI μ 20 B ∧ gI μ 0 8 = nI k9
/-- the reference's side -/
def YI (μ : Mem) (m : Nat) (B : Nat → Nat) (s : Tp) (k9 : Nat) : Prop := HM μ m B ∧ mtR μ m s ∧ (∀ k, k < 18 → gL μ (m + 5) k = lN (phi (kw k))) ∧ mkR μ m B k9
theorem XI.gen {S : Nat → Nat → Prop} {μ ν : Mem} {b c k9 : Nat} {B : Nat → Nat} {s : Tp} (h : XI μ b c B s k9) (hs : same S μ ν) (hS : ∀ o k, S o k → (5 < o ∧ o < 25) ∨ 57 ≤ o) (hW : WdI ν 6 B) (hP : PlI ν 12 B) (hJ : JI ν 20 B) : XI ν b c B s k9 := by
  obtain ⟨a0, a1, a2, a3, a4, a5, a6, a7, a8, a9, a10, a11⟩ := h
  exact ⟨hs.isX a0, a1, Rb_fr hs (fun o k h => by have := hS o k h; omega) a2, hs.isBk a3, a4.sm hs (fun o k h => by have := hS o k h; omega), hs.isRd a5, fun k hk => by rw [(hs.2.2 _ _ (fun h9 => by have := hS _ _ h9; omega)).2]; exact a6 k hk, hs.isVt a7, hW, hP, hJ, by rw [(hs.2.2 _ _ (fun h9 => by have := hS _ _ h9; omega)).1]; exact a11⟩
theorem XI.sm {S : Nat → Nat → Prop} {μ ν : Mem} {b c k9 : Nat} {B : Nat → Nat} {s : Tp} (h : XI μ b c B s k9) (hs : same S μ ν) (hS : ∀ o k, S o k → 57 ≤ o ∨ o = 19) : XI ν b c B s k9 :=
  h.gen hs (fun o k h9 => by have := hS o k h9; omega) (h.2.2.2.2.2.2.2.2.1.sm hs (fun o k h9 => by have := hS o k h9; omega)) (h.2.2.2.2.2.2.2.2.2.1.sm hs (fun o k h9 => by have := hS o k h9; omega)) (h.2.2.2.2.2.2.2.2.2.2.1.sm hs (fun o k h9 => by have := hS o k h9; omega))
theorem XI.w {μ ν : Mem} {b c k9 : Nat} {B : Nat → Nat} {s : Tp} (h : XI μ b c B s k9) (hs : same (SW 6) μ ν) (hW : WdI ν 6 B) : XI ν b c B s k9 :=
  h.gen hs (fun o k h9 => by unfold SW at h9; omega) hW (h.2.2.2.2.2.2.2.2.2.1.sm hs (fun o k h9 => by unfold SW at h9; omega)) (h.2.2.2.2.2.2.2.2.2.2.1.sm hs (fun o k h9 => by unfold SW at h9; omega))
theorem XI.p {μ ν : Mem} {b c k9 : Nat} {B : Nat → Nat} {s : Tp} (h : XI μ b c B s k9) (hs : same (SPl 12) μ ν) (hP : PlI ν 12 B) : XI ν b c B s k9 :=
  h.gen hs (fun o k h9 => by unfold SPl at h9; omega) (h.2.2.2.2.2.2.2.2.1.sm hs (fun o k h9 => by unfold SPl at h9; omega)) hP (h.2.2.2.2.2.2.2.2.2.2.1.sm hs (fun o k h9 => by unfold SPl at h9; omega))
theorem XI.j {μ ν : Mem} {b c k9 : Nat} {B : Nat → Nat} {s : Tp} (h : XI μ b c B s k9) (hs : same (SJ 20) μ ν) (hJ : JI ν 20 B) : XI ν b c B s k9 :=
  h.gen hs (fun o k h9 => by unfold SJ at h9; omega) (h.2.2.2.2.2.2.2.2.1.sm hs (fun o k h9 => by unfold SJ at h9; omega)) (h.2.2.2.2.2.2.2.2.2.1.sm hs (fun o k h9 => by unfold SJ at h9; omega)) hJ
theorem XI.mark {μ ν : Mem} {b c k9 k8 : Nat} {B : Nat → Nat} {s : Tp} (h : XI μ b c B s k9) (hs : same (fun o k => o = 0 ∧ k = 8) μ ν) (hk : gI ν 0 8 = nI k8) : XI ν b c B s k8 := by
  obtain ⟨a0, a1, a2, a3, a4, a5, a6, a7, a8, a9, a10, a11⟩ := h
  exact ⟨hs.isX a0, a1, Rb_fr hs (fun o k h => by omega) a2, hs.isBk a3, a4.sm hs (fun o k h => by omega), hs.isRd a5, fun k hk => by rw [(hs.2.2 _ _ (fun h9 => by omega)).2]; exact a6 k hk, hs.isVt a7, a8.sm hs (fun o k h => by omega), a9.sm hs (fun o k h => by omega), a10.sm hs (fun o k h => by omega), hk⟩
theorem XI.feed {μ ν : Mem} {b c k9 : Nat} {B : Nat → Nat} {s s2 : Tp} (h : XI μ b c B s k9) (hs : same (fun o k => (o = 1 ∧ k = 1) ∨ o = 1 + 1) μ ν) (ht : tpR ν 1 s2) : XI ν b c B s2 k9 := by
  obtain ⟨a0, a1, a2, a3, a4, a5, a6, a7, a8, a9, a10, a11⟩ := h
  exact ⟨hs.isX a0, a1, Rb_fr hs (fun o k h => by omega) a2, hs.isBk a3, ht, hs.isRd a5, fun k hk => by rw [(hs.2.2 _ _ (fun h9 => by omega)).2]; exact a6 k hk, hs.isVt a7, a8.sm hs (fun o k h => by omega), a9.sm hs (fun o k h => by omega), a10.sm hs (fun o k h => by omega), by rw [(hs.2.2 _ _ (fun h9 => by omega)).1]; exact a11⟩
theorem mkR.sm {S : Nat → Nat → Prop} {μ ν : Mem} {m k9 : Nat} {B : Nat → Nat} (h : mkR μ m B k9) (hs : same S μ ν) (hS : ∀ o k, S o k → ¬ ((o = m + 6 ∧ 960 ≤ k) ∨ o = m + 22)) : mkR ν m B k9 :=
  ⟨h.1, fun i hi => ⟨by rw [(hs.2.2 _ _ (fun h9 => hS _ _ h9 (Or.inr rfl))).1]; exact (h.2 i hi).1, fun hb j hj => by rw [(hs.2.2 _ _ (fun h9 => hS _ _ h9 (Or.inl ⟨rfl, by omega⟩))).1]; exact (h.2 i hi).2 hb j hj⟩⟩
theorem YI.gen {S : Nat → Nat → Prop} {μ ν : Mem} {m k9 : Nat} {B : Nat → Nat} {s : Tp} (h : YI μ m B s k9) (hs : same S μ ν) (hH : HM ν m B) (hS : ∀ o k, S o k → ¬ ((o = m ∧ k = 2) ∨ o = m + 1 ∨ o = m + 5 ∨ o = m + 6 ∨ o = m + 22)) : YI ν m B s k9 :=
  ⟨hH, h.2.1.sm hs (fun o k h9 => by have := hS o k h9; omega), fun k hk => by rw [(hs.2.2 _ _ (fun h9 => by have := hS _ _ h9; omega)).2]; exact h.2.2.1 k hk, h.2.2.2.sm hs (fun o k h9 => by have := hS o k h9; omega)⟩
theorem YI.sm {S : Nat → Nat → Prop} {μ ν : Mem} {m k9 : Nat} {B : Nat → Nat} {s : Tp} (h : YI μ m B s k9) (hs : same S μ ν) (hS : ∀ o k, S o k → ¬ ((o = m ∧ (k = 2 ∨ k = 16)) ∨ o = m + 1 ∨ o = m + 5 ∨ o = m + 6 ∨ o = m + 22)) : YI ν m B s k9 :=
  h.gen hs (h.1.sm hs (fun o k h9 => by have := hS o k h9; omega)) (fun o k h9 => by have := hS o k h9; omega)
theorem YI.mark {μ ν : Mem} {m k9 k8 : Nat} {B : Nat → Nat} {s : Tp} (h : YI μ m B s k9) (hs : same (SMk m) μ ν) (hH : HM ν m B) (hk : mkR ν m B k8) : YI ν m B s k8 :=
  ⟨hH, h.2.1.sm hs (fun o k h9 => by unfold SMk at h9; omega), fun k hk => by rw [(hs.2.2 _ _ (fun h9 => by unfold SMk at h9; omega)).2]; exact h.2.2.1 k hk, hk⟩
theorem YI.feed {μ ν : Mem} {m k9 : Nat} {B : Nat → Nat} {s s2 : Tp} (h : YI μ m B s k9) (hs : same (fun o k => (o = m ∧ (k = 2 ∨ k = 0)) ∨ o = m + 1) μ ν) (ht : mtR ν m s2) : YI ν m B s2 k9 :=
  ⟨h.1.sm hs (fun o k h9 => by omega), ht, fun k hk => by rw [(hs.2.2 _ _ (fun h9 => by omega)).2]; exact h.2.2.1 k hk, h.2.2.2.sm hs (fun o k h9 => by omega)⟩
theorem isWd_R {μ : Mem} {w o k : Nat} {v : Option Nat} (h : isWd μ w) (ho : o ≠ w) : isWd (sR μ o k v) w := by
  have g : ∀ q, gR (sR μ o k v) w q = gR μ w q := fun q => gR_ne (by omega)
  unfold isWd; simp only [g]; exact h
theorem isPl_R {μ : Mem} {w o k : Nat} {v : Option Nat} (h : isPl μ w) (ho : o ≠ w) : isPl (sR μ o k v) w := by
  have g : ∀ q, gR (sR μ o k v) w q = gR μ w q := fun q => gR_ne (by omega)
  unfold isPl; simp only [g]; exact h
theorem isVt_R {μ : Mem} {w o k : Nat} {v : Option Nat} (h : isVt μ w) (ho : o ≠ w) : isVt (sR μ o k v) w := by
  have g : ∀ q, gR (sR μ o k v) w q = gR μ w q := fun q => gR_ne (by omega)
  unfold isVt; simp only [g]; exact h
theorem isJn_R {μ : Mem} {w o k : Nat} {v : Option Nat} (h : isJn μ w) (ho : o ≠ w) : isJn (sR μ o k v) w := by
  have g : ∀ q, gR (sR μ o k v) w q = gR μ w q := fun q => gR_ne (by omega)
  unfold isJn; simp only [g]; exact h
theorem isRd_R0 {μ : Mem} {w o k : Nat} {v : Option Nat} (h : isRd μ w) (ho : o ≠ w) : isRd (sR μ o k v) w := by
  have g : ∀ q, gR (sR μ o k v) w q = gR μ w q := fun q => gR_ne (by omega)
  unfold isRd; simp only [g]; exact h
theorem isMod_R {μ : Mem} {w o k : Nat} {v : Option Nat} (h : isMod μ w) (ho : o ≠ w) : isMod (sR μ o k v) w := by
  have g : ∀ q, gR (sR μ o k v) w q = gR μ w q := fun q => gR_ne (by omega)
  unfold isMod; simp only [g]; exact h
theorem isX_R {μ : Mem} {b c o k : Nat} {v : Option Nat} (h : isX μ b c) (ho : o ≠ 0) : isX (sR μ o k v) b c := by
  have g : ∀ q, gR (sR μ o k v) 0 q = gR μ 0 q := fun q => gR_ne (by omega)
  unfold isX; simp only [g]; exact h
theorem Rb_R {μ : Mem} {b o k : Nat} {v : Option Nat} {B : Nat → Nat} (h : Rb μ b B) (ho : o < b) : Rb (sR μ o k v) b B :=
  ⟨isBk_R h.1 (Or.inl ho), h.2.1, fun t ht => ⟨isClk_R (h.2.2.1 t ht).1 (by omega), (h.2.2.1 t ht).2⟩, h.2.2.2⟩
theorem YI_R {μ : Mem} {m o k k9 : Nat} {v : Option Nat} {B : Nat → Nat} {s : Tp} (h : YI μ m B s k9) (ho : o ≠ m) : YI (sR μ o k v) m B s k9 :=
  ⟨⟨⟨isMod_R h.1.1.1 ho, h.1.1.2⟩, h.1.2.1, h.1.2.2⟩, ⟨isMod_R h.2.1.1 ho, h.2.1.2⟩, h.2.2.1, h.2.2.2⟩
theorem XI_R {μ : Mem} {b c k k9 : Nat} {v : Option Nat} {B : Nat → Nat} {s : Tp} (h : XI μ b c B s k9) (hk : 2 ≤ k) : XI (sR μ 3 k v) b c B s k9 := by
  obtain ⟨a0, a1, a2, a3, a4, a5, a6, a7, a8, a9, a10, a11⟩ := h
  exact ⟨isX_R a0 (by omega), a1, Rb_R a2 (by omega), isBk_R a3 (Or.inl (by omega)), ⟨isTp_R a4.1 (by omega), a4.2⟩, isRd_R a5 hk, a6, isVt_R a7 (by omega), ⟨isWd_R a8.1 (by omega), a8.2⟩, ⟨isPl_R a9.1 (by omega), a9.2⟩, ⟨isJn_R a10.1 (by omega), a10.2⟩, a11⟩
theorem XI.book_l {μ ν : Mem} {b c k9 : Nat} {B : Nat → Nat} {s : Tp} (h : XI μ b c B s k9) (hs : same (SRB 3 c) (rdM μ 3 1 c) ν) : XI (sI ν 1 1 (nI 0)) b c B (s.1, 0) k9 := by
  have h1 : XI (rdM μ 3 1 c) b c B s k9 := XI_R (XI_R h (by omega)) (by omega)
  obtain ⟨a0, a1, a2, a3, a4, a5, a6, a7, a8, a9, a10, a11⟩ := h1
  have hs2 : same (fun o k => SRB 3 c o k ∨ (o = 1 ∧ k = 1)) (rdM μ 3 1 c) (sI ν 1 1 (nI 0)) := (hs.up (fun o k h => Or.inl h)).sI (Or.inr ⟨rfl, rfl⟩)
  have hS : ∀ o k, (SRB 3 c o k ∨ (o = 1 ∧ k = 1)) → (o = 3 ∧ 4 ≤ k) ∨ o = 5 ∨ (c ≤ o ∧ o ≤ c + 15) ∨ (o = 1 ∧ k = 1) := fun o k h => by unfold SRB at h; omega
  exact ⟨hs2.isX a0, a1, Rb_fr hs2 (fun o k h => by have := hS o k h; omega) a2, hs2.isBk a3, ⟨hs2.isTp a4.1, gI_same, fun j hj => absurd hj (Nat.not_lt_zero _)⟩, hs2.isRd a5, fun k hk => by rw [(hs2.2.2 _ _ (fun h9 => by have := hS _ _ h9; omega)).2]; exact a6 k hk, hs2.isVt a7, a8.sm hs2 (fun o k h9 => by have := hS o k h9; omega), a9.sm hs2 (fun o k h9 => by have := hS o k h9; omega), a10.sm hs2 (fun o k h9 => by have := hS o k h9; omega), by rw [(hs2.2.2 _ _ (fun h9 => by have := hS _ _ h9; omega)).1]; exact a11⟩
theorem XI.book_r {μ ν : Mem} {b c k9 : Nat} {B B2 : Nat → Nat} {s : Tp} (h : XI μ b c B s k9) (hs : same (SRB 3 c) (rdM μ 3 1 c) ν) (hR : Rb ν c B2) : XI (spM (sI ν 1 1 (nI 0)) b c) c b B2 (s.1, 0) 0 := by
  obtain ⟨a0, a1, a2, a3, a4, a5, a6, a7, a8, a9, a10, a11⟩ := h.book_l hs
  have hR1 : Rb (sI ν 1 1 (nI 0)) c B2 := Rb_fr (same.rf.sI (S := fun o k => o = 1) rfl) (fun o k h => by omega) hR
  generalize hM : sI ν 1 1 (nI 0) = M at *
  have hs2 : same (fun o k => (o = 0 ∧ k = 8) ∨ (o = 6 ∧ k = 5) ∨ (o = 12 ∧ k = 9) ∨ (o = 20 ∧ k = 6)) (sR (sR M 0 6 (some c)) 0 7 (some b)) (spM M b c) := (((same.rf.sI (Or.inl ⟨rfl, rfl⟩)).sI (Or.inr (Or.inl ⟨rfl, rfl⟩))).sI (Or.inr (Or.inr (Or.inl ⟨rfl, rfl⟩)))).sI (Or.inr (Or.inr (Or.inr ⟨rfl, rfl⟩)))
  have g : ∀ q, q ≠ 6 → q ≠ 7 → gR (sR (sR M 0 6 (some c)) 0 7 (some b)) 0 q = gR M 0 q := fun q h1 h2 => by rw [gR_ne (by omega), gR_ne (by omega)]
  have hx : isX (sR (sR M 0 6 (some c)) 0 7 (some b)) c b := by
    obtain ⟨x0, x1, x2, x3, x4, x5, x6, x7, x8⟩ := a0
    exact ⟨x0, by rw [g _ (by omega) (by omega)]; exact x1, by rw [g _ (by omega) (by omega)]; exact x2, by rw [g _ (by omega) (by omega)]; exact x3, by rw [g _ (by omega) (by omega)]; exact x4, by rw [g _ (by omega) (by omega)]; exact x5, by rw [g _ (by omega) (by omega)]; exact x6, by rw [gR_ne (by omega), gR_same], by rw [gR_same]⟩
  refine ⟨hs2.isX hx, by omega, Rb_fr hs2 (fun o k h => by omega) (Rb_R (Rb_R hR1 (by omega)) (by omega)), hs2.isBk (isBk_R (isBk_R a2.1 (Or.inl (by omega))) (Or.inl (by omega))), ?_, hs2.isRd (isRd_R0 (isRd_R0 a5 (by omega)) (by omega)), fun k hk => by rw [(hs2.2.2 _ _ (fun h9 => by omega)).2]; exact a6 k hk, hs2.isVt (isVt_R (isVt_R a7 (by omega)) (by omega)), ⟨hs2.isWd (isWd_R (isWd_R a8.1 (by omega)) (by omega)), Or.inl ?_⟩, ⟨hs2.isPl (isPl_R (isPl_R a9.1 (by omega)) (by omega)), Or.inl ?_⟩, ⟨hs2.isJn (isJn_R (isJn_R a10.1 (by omega)) (by omega)), Or.inl ?_⟩, ?_⟩
  · exact tpR.sm (show tpR (sR (sR M 0 6 (some c)) 0 7 (some b)) 1 (s.1, 0) from ⟨isTp_R (isTp_R a4.1 (by omega)) (by omega), a4.2⟩) hs2 (fun o k h => by omega)
  · unfold spM; rw [gI_no (by omega), gI_no (by omega), gI_same]
  · unfold spM; rw [gI_no (by omega), gI_same]
  · unfold spM; rw [gI_same]
  · unfold spM; rw [gI_no (by omega), gI_no (by omega), gI_no (by omega), gI_same]
theorem YI.book_l {μ μ2 : Mem} {m k9 : Nat} {B : Nat → Nat} {s : Tp} (h : YI μ m B s k9) (hs : same (SBA m) μ μ2) (h2 : gI μ2 m 2 = nI 0) : YI μ2 m B (s.1, 0) k9 :=
  ⟨⟨⟨hs.isMod h.1.1.1, fun j hj => ⟨by rw [(hs.2.2 _ _ (fun h9 => by unfold SBA at h9; omega)).1]; exact (h.1.1.2 j hj).1, (h.1.1.2 j hj).2⟩⟩, ⟨by rw [(hs.2.2 _ _ (fun h9 => by unfold SBA at h9; omega)).1]; exact h.1.2.1.1, h.1.2.1.2⟩, h.1.2.2⟩, ⟨hs.isMod h.1.1.1, h2, fun j hj => absurd hj (Nat.not_lt_zero _)⟩, fun k hk => by rw [(hs.2.2 _ _ (fun h9 => by unfold SBA at h9; omega)).2]; exact h.2.2.1 k hk, h.2.2.2.sm hs (fun o k h9 => by unfold SBA at h9; omega)⟩
theorem YI.book_r {μ μ2 : Mem} {m k9 : Nat} {B B2 : Nat → Nat} {M2 : NM} {s : Tp} (h : YI μ m B s k9) (hs : same (SBB m) μ μ2) (h2 : gI μ2 m 2 = nI 0) (hv : ∀ j, j < 480 → gI μ2 (m + 6) j = nI (B2 j)) (hz : ∀ j, j < 4 → gI μ2 (m + 22) j = nI 0) (hP : PIv B2 M2) : YI μ2 m B2 (s.1, 0) 0 :=
  ⟨⟨⟨hs.isMod h.1.1.1, fun j hj => ⟨hv j hj, hP.2.1 j⟩⟩, ⟨by rw [(hs.2.2 _ _ (fun h9 => by unfold SBB at h9; omega)).1]; exact h.1.2.1.1, h.1.2.1.2⟩, hP.1.1⟩, ⟨hs.isMod h.1.1.1, h2, fun j hj => absurd hj (Nat.not_lt_zero _)⟩, fun k hk => by rw [(hs.2.2 _ _ (fun h9 => by unfold SBB at h9; omega)).2]; exact h.2.2.1 k hk, by omega, fun i hi => ⟨by rw [hz i hi, Nat.zero_testBit]; rfl, fun h9 => by rw [Nat.zero_testBit] at h9; cases h9⟩⟩
