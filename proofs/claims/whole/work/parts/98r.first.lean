theorem isX.old {μ ν : Mem} {b c o : Nat} (h : isX μ b c) (hO : OLD o μ ν) (ho : 0 < o) (hl : o ≤ μ.1.length) : isX ν b c := by
  obtain ⟨h0, h1, h2, h3, h4, h5, h6, h7, h8⟩ := h
  have g : ∀ k, gR ν 0 k = gR μ 0 k := fun k => (hO.2.2 0 k ho).2.2
  exact ⟨by rw [hO.1 _ (by omega)]; exact h0, by rw [g]; exact h1, by rw [g]; exact h2, by rw [g]; exact h3, by rw [g]; exact h4, by rw [g]; exact h5, by rw [g]; exact h6, by rw [g]; exact h7, by rw [g]; exact h8⟩
theorem tpR.old {μ ν : Mem} {t o : Nat} {s : Tp} (h : tpR μ t s) (hO : OLD o μ ν) (ho : t + 1 < o) (hl : o ≤ μ.1.length) : tpR ν t s := ⟨h.1.old hO ho hl, by rw [(hO.2.2 _ _ (by omega)).1]; exact h.2.1, fun j hj => by rw [(hO.2.2 _ _ (by omega)).1]; exact h.2.2 j hj⟩
theorem WdI.old {μ ν : Mem} {w o : Nat} {B : Nat → Nat} (h : WdI μ w B) (h0 : gI μ w 5 = nI 0) (hO : OLD o μ ν) (ho : w + 5 < o) (hl : o ≤ μ.1.length) : WdI ν w B := ⟨h.1.old hO ho hl, Or.inl (by rw [(hO.2.2 _ _ (by omega)).1]; exact h0)⟩
/-- the first memory of the class's side stays when more is made behind it -/
theorem XI.old {μ ν : Mem} {b c k9 : Nat} {B : Nat → Nat} {s : Tp} (h : XI μ b c B s k9) (hw : gI μ 6 5 = nI 0) (hp : gI μ 12 9 = (-1 : Int32)) (hj : gI μ 20 6 = (-1 : Int32)) (hO : OLD 57 μ ν) (hl : 57 ≤ μ.1.length) : XI ν b c B s k9 := by
  obtain ⟨a0, a1, a2, a3, a4, a5, a6, a7, a8, a9, a10, a11⟩ := h
  exact ⟨a0.old hO (by omega) hl, a1, a2.old hO (by omega) hl, a3.old hO (by omega) hl, a4.old hO (by omega) hl, a5.old hO (by omega) hl, fun k hk => by rw [(hO.2.2 _ _ (by omega)).2.1]; exact a6 k hk, a7.old hO (by omega) hl, ⟨a8.1.old hO (by omega) hl, Or.inl (by rw [(hO.2.2 _ _ (by omega)).1]; exact hw)⟩, ⟨a9.1.old hO (by omega) hl, Or.inl (by rw [(hO.2.2 _ _ (by omega)).1]; exact hp)⟩, ⟨a10.1.old hO (by omega) hl, Or.inl (by rw [(hO.2.2 _ _ (by omega)).1]; exact hj)⟩, by rw [(hO.2.2 _ _ (by omega)).1]; exact a11⟩
theorem YI.first {ν : Mem} {m : Nat} (hm : isMod ν m) (hl : ν.1.length = m + 1 + 22) (hz : ZR m ν) (h2 : gI ν m 2 = nI 0) (h16 : gI ν m 16 = (-1 : Int32)) (hw : ∀ k, k < 18 → gL ν (m + 5) k = lN (phi (kw k))) : YI ν m (fun _ => 0) ((fun _ => 0), 0) 0 :=
  ⟨⟨⟨hm, fun j hj => ⟨hz _ _ (by omega) (by omega), Nat.zero_le _⟩⟩, ⟨h16, fun v hv => by cases hv⟩, PI0.1.1⟩, ⟨hm, h2, fun j hj => absurd hj (Nat.not_lt_zero _)⟩, hw, by omega, fun i hi => ⟨by rw [hz _ _ (by omega) (by omega), Nat.zero_testBit]; rfl, fun h9 => by rw [Nat.zero_testBit] at h9; cases h9⟩⟩
theorem okT_0 : okT ((fun _ => 0), 0) := ⟨Nat.zero_le _, fun j hj => absurd hj (Nat.not_lt_zero _)⟩
