theorem isTp.old {μ ν : Mem} {t o : Nat} (h : isTp μ t) (hO : OLD o μ ν) (ht : t + 1 < o) (hl : o ≤ μ.1.length) : isTp ν t := by
  obtain ⟨h0, ⟨a0, b0⟩⟩ := h
  exact ⟨by rw [hO.1 _ (by omega)]; exact h0, ⟨by rw [(hO.2.2 _ _ (by omega)).2.2]; exact a0, by rw [hO.1 _ (by omega)]; exact b0⟩⟩
theorem isRd.old {μ ν : Mem} {t o : Nat} (h : isRd μ t) (hO : OLD o μ ν) (ht : t + 2 < o) (hl : o ≤ μ.1.length) : isRd ν t := by
  obtain ⟨h0, ⟨a0, b0⟩, ⟨a1, b1⟩⟩ := h
  exact ⟨by rw [hO.1 _ (by omega)]; exact h0, ⟨by rw [(hO.2.2 _ _ (by omega)).2.2]; exact a0, by rw [hO.1 _ (by omega)]; exact b0⟩, ⟨by rw [(hO.2.2 _ _ (by omega)).2.2]; exact a1, by rw [hO.1 _ (by omega)]; exact b1⟩⟩
theorem isWd.old {μ ν : Mem} {t o : Nat} (h : isWd μ t) (hO : OLD o μ ν) (ht : t + 5 < o) (hl : o ≤ μ.1.length) : isWd ν t := by
  obtain ⟨h0, ⟨a0, b0⟩, ⟨a1, b1⟩, ⟨a2, b2⟩, ⟨a3, b3⟩, ⟨a4, b4⟩⟩ := h
  exact ⟨by rw [hO.1 _ (by omega)]; exact h0, ⟨by rw [(hO.2.2 _ _ (by omega)).2.2]; exact a0, by rw [hO.1 _ (by omega)]; exact b0⟩, ⟨by rw [(hO.2.2 _ _ (by omega)).2.2]; exact a1, by rw [hO.1 _ (by omega)]; exact b1⟩, ⟨by rw [(hO.2.2 _ _ (by omega)).2.2]; exact a2, by rw [hO.1 _ (by omega)]; exact b2⟩, ⟨by rw [(hO.2.2 _ _ (by omega)).2.2]; exact a3, by rw [hO.1 _ (by omega)]; exact b3⟩, ⟨by rw [(hO.2.2 _ _ (by omega)).2.2]; exact a4, by rw [hO.1 _ (by omega)]; exact b4⟩⟩
theorem isPl.old {μ ν : Mem} {t o : Nat} (h : isPl μ t) (hO : OLD o μ ν) (ht : t + 5 < o) (hl : o ≤ μ.1.length) : isPl ν t := by
  obtain ⟨h0, ⟨a0, b0⟩, ⟨a1, b1⟩, ⟨a2, b2⟩, ⟨a3, b3⟩, ⟨a4, b4⟩⟩ := h
  exact ⟨by rw [hO.1 _ (by omega)]; exact h0, ⟨by rw [(hO.2.2 _ _ (by omega)).2.2]; exact a0, by rw [hO.1 _ (by omega)]; exact b0⟩, ⟨by rw [(hO.2.2 _ _ (by omega)).2.2]; exact a1, by rw [hO.1 _ (by omega)]; exact b1⟩, ⟨by rw [(hO.2.2 _ _ (by omega)).2.2]; exact a2, by rw [hO.1 _ (by omega)]; exact b2⟩, ⟨by rw [(hO.2.2 _ _ (by omega)).2.2]; exact a3, by rw [hO.1 _ (by omega)]; exact b3⟩, ⟨by rw [(hO.2.2 _ _ (by omega)).2.2]; exact a4, by rw [hO.1 _ (by omega)]; exact b4⟩⟩
theorem isVt.old {μ ν : Mem} {t o : Nat} (h : isVt μ t) (hO : OLD o μ ν) (ht : t + 1 < o) (hl : o ≤ μ.1.length) : isVt ν t := by
  obtain ⟨h0, ⟨a0, b0⟩⟩ := h
  exact ⟨by rw [hO.1 _ (by omega)]; exact h0, ⟨by rw [(hO.2.2 _ _ (by omega)).2.2]; exact a0, by rw [hO.1 _ (by omega)]; exact b0⟩⟩
theorem isJn.old {μ ν : Mem} {t o : Nat} (h : isJn μ t) (hO : OLD o μ ν) (ht : t + 4 < o) (hl : o ≤ μ.1.length) : isJn ν t := by
  obtain ⟨h0, ⟨a0, b0⟩, ⟨a1, b1⟩, ⟨a2, b2⟩, ⟨a3, b3⟩⟩ := h
  exact ⟨by rw [hO.1 _ (by omega)]; exact h0, ⟨by rw [(hO.2.2 _ _ (by omega)).2.2]; exact a0, by rw [hO.1 _ (by omega)]; exact b0⟩, ⟨by rw [(hO.2.2 _ _ (by omega)).2.2]; exact a1, by rw [hO.1 _ (by omega)]; exact b1⟩, ⟨by rw [(hO.2.2 _ _ (by omega)).2.2]; exact a2, by rw [hO.1 _ (by omega)]; exact b2⟩, ⟨by rw [(hO.2.2 _ _ (by omega)).2.2]; exact a3, by rw [hO.1 _ (by omega)]; exact b3⟩⟩
theorem isBk.old {μ ν : Mem} {t o : Nat} (h : isBk μ t) (hO : OLD o μ ν) (ht : t + 15 < o) (hl : o ≤ μ.1.length) : isBk ν t := by
  obtain ⟨h0, ⟨a0, b0⟩, ⟨a1, b1⟩, ⟨a2, b2⟩, ⟨a3, b3⟩, ⟨a4, b4⟩, ⟨a5, b5⟩, ⟨a6, b6⟩, ⟨a7, b7⟩, ⟨a8, b8⟩, ⟨a9, b9⟩, ⟨a10, b10⟩, ⟨a11, b11⟩⟩ := h
  exact ⟨by rw [hO.1 _ (by omega)]; exact h0, ⟨by rw [(hO.2.2 _ _ (by omega)).2.2]; exact a0, by rw [hO.1 _ (by omega)]; exact b0⟩, ⟨by rw [(hO.2.2 _ _ (by omega)).2.2]; exact a1, by rw [hO.1 _ (by omega)]; exact b1⟩, ⟨by rw [(hO.2.2 _ _ (by omega)).2.2]; exact a2, by rw [hO.1 _ (by omega)]; exact b2⟩, ⟨by rw [(hO.2.2 _ _ (by omega)).2.2]; exact a3, by rw [hO.1 _ (by omega)]; exact b3⟩, ⟨by rw [(hO.2.2 _ _ (by omega)).2.2]; exact a4, by rw [hO.1 _ (by omega)]; exact b4⟩, ⟨by rw [(hO.2.2 _ _ (by omega)).2.2]; exact a5, by rw [hO.1 _ (by omega)]; exact b5⟩, ⟨by rw [(hO.2.2 _ _ (by omega)).2.2]; exact a6, by rw [hO.1 _ (by omega)]; exact b6⟩, ⟨by rw [(hO.2.2 _ _ (by omega)).2.2]; exact a7, by rw [hO.1 _ (by omega)]; exact b7⟩, ⟨by rw [(hO.2.2 _ _ (by omega)).2.2]; exact a8, by rw [hO.1 _ (by omega)]; exact b8⟩, ⟨by rw [(hO.2.2 _ _ (by omega)).2.2]; exact a9, b9.old hO (by omega) hl⟩, ⟨by rw [(hO.2.2 _ _ (by omega)).2.2]; exact a10, b10.old hO (by omega) hl⟩, ⟨by rw [(hO.2.2 _ _ (by omega)).2.2]; exact a11, b11.old hO (by omega) hl⟩⟩
theorem Rb.old {μ ν : Mem} {b o : Nat} {B : Nat → Nat} (h : Rb μ b B) (hO : OLD o μ ν) (ht : b + 15 < o) (hl : o ≤ μ.1.length) : Rb ν b B := by
  obtain ⟨h0, h1, h2, h3, h4, h5, h6, h7, h8, h9, h10, h11, h12⟩ := h
  have g : ∀ q k, q < o → gI ν q k = gI μ q k := fun q k hq => (hO.2.2 q k hq).1
  refine ⟨h0.old hO ht hl, by rw [g _ _ (by omega)]; exact h1, fun t ht9 => ?_, fun i hi => by rw [g _ _ (by omega)]; exact h3 i hi, by rw [g _ _ (by omega)]; exact h4, by rw [g _ _ (by omega)]; exact h5, fun i hi => by rw [g _ _ (by omega)]; exact h6 i hi, by rw [g _ _ (by omega)]; exact h7, fun q s hq h1' h2' => by rw [g _ _ (by omega)]; exact h8 q s hq h1' h2', by rw [g _ _ (by omega)]; exact h9, fun i hi => by rw [g _ _ (by omega)]; exact h10 i hi, by rw [g _ _ (by omega)]; exact h11, fun i hi => by rw [g _ _ (by omega)]; exact h12 i hi⟩
  obtain ⟨c1, c2, c3, c4⟩ := h2 t ht9
  refine ⟨c1.old hO (by omega) hl, by rw [g _ _ (by omega)]; exact c2, c3, fun k hk => ?_⟩
  rw [g _ _ (by omega)]; exact c4 k hk
