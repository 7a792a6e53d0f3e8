/-- a clock of the class: its row of strokes lies behind it -/
def isClk (μ : Mem) (c : Nat) : Prop := μ.1[c]? = some (.inl 1) ∧ gR μ c 0 = some (c + 1) ∧ μ.1[c + 1]? = some (.inr (0, 12))
def isMod (μ : Mem) (m : Nat) : Prop := μ.1[m]? = some (.inl 9) ∧ (gR μ m 1 = some (m + 1) ∧ μ.1[m + 1]? = some (.inr (0, 1000))) ∧ (gR μ m 4 = some (m + 2) ∧ μ.1[m + 2]? = some (.inr (0, 1002))) ∧ (gR μ m 5 = some (m + 3) ∧ μ.1[m + 3]? = some (.inr (0, 1002))) ∧ (gR μ m 6 = some (m + 4) ∧ μ.1[m + 4]? = some (.inr (1, 1002))) ∧ (gR μ m 9 = some (m + 5) ∧ μ.1[m + 5]? = some (.inr (1, 18))) ∧ (gR μ m 10 = some (m + 6) ∧ μ.1[m + 6]? = some (.inr (0, 2880))) ∧ (gR μ m 11 = some (m + 7) ∧ μ.1[m + 7]? = some (.inr (1, 32))) ∧ (gR μ m 12 = some (m + 8) ∧ μ.1[m + 8]? = some (.inr (0, 32))) ∧ (gR μ m 13 = some (m + 9) ∧ μ.1[m + 9]? = some (.inr (0, 32))) ∧ (gR μ m 17 = some (m + 10) ∧ μ.1[m + 10]? = some (.inr (0, 12))) ∧ (gR μ m 20 = some (m + 11) ∧ μ.1[m + 11]? = some (.inr (0, 12))) ∧ (gR μ m 21 = some (m + 12) ∧ μ.1[m + 12]? = some (.inr (0, 12))) ∧ (gR μ m 22 = some (m + 13) ∧ μ.1[m + 13]? = some (.inr (0, 144))) ∧ (gR μ m 23 = some (m + 14) ∧ μ.1[m + 14]? = some (.inr (0, 256))) ∧ (gR μ m 24 = some (m + 15) ∧ μ.1[m + 15]? = some (.inr (0, 8))) ∧ (gR μ m 25 = some (m + 16) ∧ μ.1[m + 16]? = some (.inr (0, 8))) ∧ (gR μ m 26 = some (m + 17) ∧ μ.1[m + 17]? = some (.inr (3, 25))) ∧ (gR μ m 27 = some (m + 18) ∧ μ.1[m + 18]? = some (.inr (0, 25))) ∧ (gR μ m 29 = some (m + 19) ∧ μ.1[m + 19]? = some (.inr (0, 36))) ∧ (gR μ m 30 = some (m + 20) ∧ μ.1[m + 20]? = some (.inr (0, 36))) ∧ (gR μ m 31 = some (m + 21) ∧ μ.1[m + 21]? = some (.inr (0, 36))) ∧ (gR μ m 32 = some (m + 22) ∧ μ.1[m + 22]? = some (.inr (3, 4)))
theorem mod_s {μ : Mem} {m : Nat} (h : isMod μ m) : μ.1[m]? = some (.inl 9) := h.1
theorem mod_r1 {μ : Mem} {m : Nat} (h : isMod μ m) : gR μ m 1 = some (m + 1) := (h.2.1).1
theorem mod_a1 {μ : Mem} {m : Nat} (h : isMod μ m) : μ.1[m + 1]? = some (.inr (0, 1000)) := (h.2.1).2
theorem mod_r4 {μ : Mem} {m : Nat} (h : isMod μ m) : gR μ m 4 = some (m + 2) := (h.2.2.1).1
theorem mod_a2 {μ : Mem} {m : Nat} (h : isMod μ m) : μ.1[m + 2]? = some (.inr (0, 1002)) := (h.2.2.1).2
theorem mod_r5 {μ : Mem} {m : Nat} (h : isMod μ m) : gR μ m 5 = some (m + 3) := (h.2.2.2.1).1
theorem mod_a3 {μ : Mem} {m : Nat} (h : isMod μ m) : μ.1[m + 3]? = some (.inr (0, 1002)) := (h.2.2.2.1).2
theorem mod_r6 {μ : Mem} {m : Nat} (h : isMod μ m) : gR μ m 6 = some (m + 4) := (h.2.2.2.2.1).1
theorem mod_a4 {μ : Mem} {m : Nat} (h : isMod μ m) : μ.1[m + 4]? = some (.inr (1, 1002)) := (h.2.2.2.2.1).2
theorem mod_r9 {μ : Mem} {m : Nat} (h : isMod μ m) : gR μ m 9 = some (m + 5) := (h.2.2.2.2.2.1).1
theorem mod_a5 {μ : Mem} {m : Nat} (h : isMod μ m) : μ.1[m + 5]? = some (.inr (1, 18)) := (h.2.2.2.2.2.1).2
theorem mod_r10 {μ : Mem} {m : Nat} (h : isMod μ m) : gR μ m 10 = some (m + 6) := (h.2.2.2.2.2.2.1).1
theorem mod_a6 {μ : Mem} {m : Nat} (h : isMod μ m) : μ.1[m + 6]? = some (.inr (0, 2880)) := (h.2.2.2.2.2.2.1).2
theorem mod_r11 {μ : Mem} {m : Nat} (h : isMod μ m) : gR μ m 11 = some (m + 7) := (h.2.2.2.2.2.2.2.1).1
theorem mod_a7 {μ : Mem} {m : Nat} (h : isMod μ m) : μ.1[m + 7]? = some (.inr (1, 32)) := (h.2.2.2.2.2.2.2.1).2
theorem mod_r12 {μ : Mem} {m : Nat} (h : isMod μ m) : gR μ m 12 = some (m + 8) := (h.2.2.2.2.2.2.2.2.1).1
theorem mod_a8 {μ : Mem} {m : Nat} (h : isMod μ m) : μ.1[m + 8]? = some (.inr (0, 32)) := (h.2.2.2.2.2.2.2.2.1).2
theorem mod_r13 {μ : Mem} {m : Nat} (h : isMod μ m) : gR μ m 13 = some (m + 9) := (h.2.2.2.2.2.2.2.2.2.1).1
theorem mod_a9 {μ : Mem} {m : Nat} (h : isMod μ m) : μ.1[m + 9]? = some (.inr (0, 32)) := (h.2.2.2.2.2.2.2.2.2.1).2
theorem mod_r17 {μ : Mem} {m : Nat} (h : isMod μ m) : gR μ m 17 = some (m + 10) := (h.2.2.2.2.2.2.2.2.2.2.1).1
theorem mod_a10 {μ : Mem} {m : Nat} (h : isMod μ m) : μ.1[m + 10]? = some (.inr (0, 12)) := (h.2.2.2.2.2.2.2.2.2.2.1).2
theorem mod_r20 {μ : Mem} {m : Nat} (h : isMod μ m) : gR μ m 20 = some (m + 11) := (h.2.2.2.2.2.2.2.2.2.2.2.1).1
theorem mod_a11 {μ : Mem} {m : Nat} (h : isMod μ m) : μ.1[m + 11]? = some (.inr (0, 12)) := (h.2.2.2.2.2.2.2.2.2.2.2.1).2
theorem mod_r21 {μ : Mem} {m : Nat} (h : isMod μ m) : gR μ m 21 = some (m + 12) := (h.2.2.2.2.2.2.2.2.2.2.2.2.1).1
theorem mod_a12 {μ : Mem} {m : Nat} (h : isMod μ m) : μ.1[m + 12]? = some (.inr (0, 12)) := (h.2.2.2.2.2.2.2.2.2.2.2.2.1).2
theorem mod_r22 {μ : Mem} {m : Nat} (h : isMod μ m) : gR μ m 22 = some (m + 13) := (h.2.2.2.2.2.2.2.2.2.2.2.2.2.1).1
theorem mod_a13 {μ : Mem} {m : Nat} (h : isMod μ m) : μ.1[m + 13]? = some (.inr (0, 144)) := (h.2.2.2.2.2.2.2.2.2.2.2.2.2.1).2
theorem mod_r23 {μ : Mem} {m : Nat} (h : isMod μ m) : gR μ m 23 = some (m + 14) := (h.2.2.2.2.2.2.2.2.2.2.2.2.2.2.1).1
theorem mod_a14 {μ : Mem} {m : Nat} (h : isMod μ m) : μ.1[m + 14]? = some (.inr (0, 256)) := (h.2.2.2.2.2.2.2.2.2.2.2.2.2.2.1).2
theorem mod_r24 {μ : Mem} {m : Nat} (h : isMod μ m) : gR μ m 24 = some (m + 15) := (h.2.2.2.2.2.2.2.2.2.2.2.2.2.2.2.1).1
theorem mod_a15 {μ : Mem} {m : Nat} (h : isMod μ m) : μ.1[m + 15]? = some (.inr (0, 8)) := (h.2.2.2.2.2.2.2.2.2.2.2.2.2.2.2.1).2
theorem mod_r25 {μ : Mem} {m : Nat} (h : isMod μ m) : gR μ m 25 = some (m + 16) := (h.2.2.2.2.2.2.2.2.2.2.2.2.2.2.2.2.1).1
theorem mod_a16 {μ : Mem} {m : Nat} (h : isMod μ m) : μ.1[m + 16]? = some (.inr (0, 8)) := (h.2.2.2.2.2.2.2.2.2.2.2.2.2.2.2.2.1).2
theorem mod_r26 {μ : Mem} {m : Nat} (h : isMod μ m) : gR μ m 26 = some (m + 17) := (h.2.2.2.2.2.2.2.2.2.2.2.2.2.2.2.2.2.1).1
theorem mod_a17 {μ : Mem} {m : Nat} (h : isMod μ m) : μ.1[m + 17]? = some (.inr (3, 25)) := (h.2.2.2.2.2.2.2.2.2.2.2.2.2.2.2.2.2.1).2
theorem mod_r27 {μ : Mem} {m : Nat} (h : isMod μ m) : gR μ m 27 = some (m + 18) := (h.2.2.2.2.2.2.2.2.2.2.2.2.2.2.2.2.2.2.1).1
theorem mod_a18 {μ : Mem} {m : Nat} (h : isMod μ m) : μ.1[m + 18]? = some (.inr (0, 25)) := (h.2.2.2.2.2.2.2.2.2.2.2.2.2.2.2.2.2.2.1).2
theorem mod_r29 {μ : Mem} {m : Nat} (h : isMod μ m) : gR μ m 29 = some (m + 19) := (h.2.2.2.2.2.2.2.2.2.2.2.2.2.2.2.2.2.2.2.1).1
theorem mod_a19 {μ : Mem} {m : Nat} (h : isMod μ m) : μ.1[m + 19]? = some (.inr (0, 36)) := (h.2.2.2.2.2.2.2.2.2.2.2.2.2.2.2.2.2.2.2.1).2
theorem mod_r30 {μ : Mem} {m : Nat} (h : isMod μ m) : gR μ m 30 = some (m + 20) := (h.2.2.2.2.2.2.2.2.2.2.2.2.2.2.2.2.2.2.2.2.1).1
theorem mod_a20 {μ : Mem} {m : Nat} (h : isMod μ m) : μ.1[m + 20]? = some (.inr (0, 36)) := (h.2.2.2.2.2.2.2.2.2.2.2.2.2.2.2.2.2.2.2.2.1).2
theorem mod_r31 {μ : Mem} {m : Nat} (h : isMod μ m) : gR μ m 31 = some (m + 21) := (h.2.2.2.2.2.2.2.2.2.2.2.2.2.2.2.2.2.2.2.2.2.1).1
theorem mod_a21 {μ : Mem} {m : Nat} (h : isMod μ m) : μ.1[m + 21]? = some (.inr (0, 36)) := (h.2.2.2.2.2.2.2.2.2.2.2.2.2.2.2.2.2.2.2.2.2.1).2
theorem mod_r32 {μ : Mem} {m : Nat} (h : isMod μ m) : gR μ m 32 = some (m + 22) := (h.2.2.2.2.2.2.2.2.2.2.2.2.2.2.2.2.2.2.2.2.2.2).1
theorem mod_a22 {μ : Mem} {m : Nat} (h : isMod μ m) : μ.1[m + 22]? = some (.inr (3, 4)) := (h.2.2.2.2.2.2.2.2.2.2.2.2.2.2.2.2.2.2.2.2.2.2).2
def isTp (μ : Mem) (t : Nat) : Prop := μ.1[t]? = some (.inl 5) ∧ (gR μ t 0 = some (t + 1) ∧ μ.1[t + 1]? = some (.inr (2, 1000)))
theorem tp_s {μ : Mem} {t : Nat} (h : isTp μ t) : μ.1[t]? = some (.inl 5) := h.1
theorem tp_r0 {μ : Mem} {t : Nat} (h : isTp μ t) : gR μ t 0 = some (t + 1) := (h.2).1
theorem tp_a1 {μ : Mem} {t : Nat} (h : isTp μ t) : μ.1[t + 1]? = some (.inr (2, 1000)) := (h.2).2
def isRd (μ : Mem) (r : Nat) : Prop := μ.1[r]? = some (.inl 4) ∧ (gR μ r 0 = some (r + 1) ∧ μ.1[r + 1]? = some (.inr (1, 18))) ∧ (gR μ r 1 = some (r + 2) ∧ μ.1[r + 2]? = some (.inr (0, 1)))
theorem rd_s {μ : Mem} {r : Nat} (h : isRd μ r) : μ.1[r]? = some (.inl 4) := h.1
theorem rd_r0 {μ : Mem} {r : Nat} (h : isRd μ r) : gR μ r 0 = some (r + 1) := (h.2.1).1
theorem rd_a1 {μ : Mem} {r : Nat} (h : isRd μ r) : μ.1[r + 1]? = some (.inr (1, 18)) := (h.2.1).2
theorem rd_r1 {μ : Mem} {r : Nat} (h : isRd μ r) : gR μ r 1 = some (r + 2) := (h.2.2).1
theorem rd_a2 {μ : Mem} {r : Nat} (h : isRd μ r) : μ.1[r + 2]? = some (.inr (0, 1)) := (h.2.2).2
def isWd (μ : Mem) (w : Nat) : Prop := μ.1[w]? = some (.inl 7) ∧ (gR μ w 0 = some (w + 1) ∧ μ.1[w + 1]? = some (.inr (0, 24))) ∧ (gR μ w 1 = some (w + 2) ∧ μ.1[w + 2]? = some (.inr (0, 24))) ∧ (gR μ w 2 = some (w + 3) ∧ μ.1[w + 3]? = some (.inr (0, 24))) ∧ (gR μ w 3 = some (w + 4) ∧ μ.1[w + 4]? = some (.inr (1, 64))) ∧ (gR μ w 4 = some (w + 5) ∧ μ.1[w + 5]? = some (.inr (0, 12)))
theorem wd_s {μ : Mem} {w : Nat} (h : isWd μ w) : μ.1[w]? = some (.inl 7) := h.1
theorem wd_r0 {μ : Mem} {w : Nat} (h : isWd μ w) : gR μ w 0 = some (w + 1) := (h.2.1).1
theorem wd_a1 {μ : Mem} {w : Nat} (h : isWd μ w) : μ.1[w + 1]? = some (.inr (0, 24)) := (h.2.1).2
theorem wd_r1 {μ : Mem} {w : Nat} (h : isWd μ w) : gR μ w 1 = some (w + 2) := (h.2.2.1).1
theorem wd_a2 {μ : Mem} {w : Nat} (h : isWd μ w) : μ.1[w + 2]? = some (.inr (0, 24)) := (h.2.2.1).2
theorem wd_r2 {μ : Mem} {w : Nat} (h : isWd μ w) : gR μ w 2 = some (w + 3) := (h.2.2.2.1).1
theorem wd_a3 {μ : Mem} {w : Nat} (h : isWd μ w) : μ.1[w + 3]? = some (.inr (0, 24)) := (h.2.2.2.1).2
theorem wd_r3 {μ : Mem} {w : Nat} (h : isWd μ w) : gR μ w 3 = some (w + 4) := (h.2.2.2.2.1).1
theorem wd_a4 {μ : Mem} {w : Nat} (h : isWd μ w) : μ.1[w + 4]? = some (.inr (1, 64)) := (h.2.2.2.2.1).2
theorem wd_r4 {μ : Mem} {w : Nat} (h : isWd μ w) : gR μ w 4 = some (w + 5) := (h.2.2.2.2.2).1
theorem wd_a5 {μ : Mem} {w : Nat} (h : isWd μ w) : μ.1[w + 5]? = some (.inr (0, 12)) := (h.2.2.2.2.2).2
def isPl (μ : Mem) (p : Nat) : Prop := μ.1[p]? = some (.inl 3) ∧ (gR μ p 0 = some (p + 1) ∧ μ.1[p + 1]? = some (.inr (0, 16))) ∧ (gR μ p 1 = some (p + 2) ∧ μ.1[p + 2]? = some (.inr (0, 16))) ∧ (gR μ p 2 = some (p + 3) ∧ μ.1[p + 3]? = some (.inr (0, 256))) ∧ (gR μ p 3 = some (p + 4) ∧ μ.1[p + 4]? = some (.inr (0, 8))) ∧ (gR μ p 4 = some (p + 5) ∧ μ.1[p + 5]? = some (.inr (0, 8)))
theorem pl_s {μ : Mem} {p : Nat} (h : isPl μ p) : μ.1[p]? = some (.inl 3) := h.1
theorem pl_r0 {μ : Mem} {p : Nat} (h : isPl μ p) : gR μ p 0 = some (p + 1) := (h.2.1).1
theorem pl_a1 {μ : Mem} {p : Nat} (h : isPl μ p) : μ.1[p + 1]? = some (.inr (0, 16)) := (h.2.1).2
theorem pl_r1 {μ : Mem} {p : Nat} (h : isPl μ p) : gR μ p 1 = some (p + 2) := (h.2.2.1).1
theorem pl_a2 {μ : Mem} {p : Nat} (h : isPl μ p) : μ.1[p + 2]? = some (.inr (0, 16)) := (h.2.2.1).2
theorem pl_r2 {μ : Mem} {p : Nat} (h : isPl μ p) : gR μ p 2 = some (p + 3) := (h.2.2.2.1).1
theorem pl_a3 {μ : Mem} {p : Nat} (h : isPl μ p) : μ.1[p + 3]? = some (.inr (0, 256)) := (h.2.2.2.1).2
theorem pl_r3 {μ : Mem} {p : Nat} (h : isPl μ p) : gR μ p 3 = some (p + 4) := (h.2.2.2.2.1).1
theorem pl_a4 {μ : Mem} {p : Nat} (h : isPl μ p) : μ.1[p + 4]? = some (.inr (0, 8)) := (h.2.2.2.2.1).2
theorem pl_r4 {μ : Mem} {p : Nat} (h : isPl μ p) : gR μ p 4 = some (p + 5) := (h.2.2.2.2.2).1
theorem pl_a5 {μ : Mem} {p : Nat} (h : isPl μ p) : μ.1[p + 5]? = some (.inr (0, 8)) := (h.2.2.2.2.2).2
def isVt (μ : Mem) (v : Nat) : Prop := μ.1[v]? = some (.inl 6) ∧ (gR μ v 0 = some (v + 1) ∧ μ.1[v + 1]? = some (.inr (0, 25)))
theorem vt_s {μ : Mem} {v : Nat} (h : isVt μ v) : μ.1[v]? = some (.inl 6) := h.1
theorem vt_r0 {μ : Mem} {v : Nat} (h : isVt μ v) : gR μ v 0 = some (v + 1) := (h.2).1
theorem vt_a1 {μ : Mem} {v : Nat} (h : isVt μ v) : μ.1[v + 1]? = some (.inr (0, 25)) := (h.2).2
def isJn (μ : Mem) (j : Nat) : Prop := μ.1[j]? = some (.inl 2) ∧ (gR μ j 0 = some (j + 1) ∧ μ.1[j + 1]? = some (.inr (0, 36))) ∧ (gR μ j 1 = some (j + 2) ∧ μ.1[j + 2]? = some (.inr (0, 36))) ∧ (gR μ j 2 = some (j + 3) ∧ μ.1[j + 3]? = some (.inr (0, 36))) ∧ (gR μ j 3 = some (j + 4) ∧ μ.1[j + 4]? = some (.inr (0, 36)))
theorem jn_s {μ : Mem} {j : Nat} (h : isJn μ j) : μ.1[j]? = some (.inl 2) := h.1
theorem jn_r0 {μ : Mem} {j : Nat} (h : isJn μ j) : gR μ j 0 = some (j + 1) := (h.2.1).1
theorem jn_a1 {μ : Mem} {j : Nat} (h : isJn μ j) : μ.1[j + 1]? = some (.inr (0, 36)) := (h.2.1).2
theorem jn_r1 {μ : Mem} {j : Nat} (h : isJn μ j) : gR μ j 1 = some (j + 2) := (h.2.2.1).1
theorem jn_a2 {μ : Mem} {j : Nat} (h : isJn μ j) : μ.1[j + 2]? = some (.inr (0, 36)) := (h.2.2.1).2
theorem jn_r2 {μ : Mem} {j : Nat} (h : isJn μ j) : gR μ j 2 = some (j + 3) := (h.2.2.2.1).1
theorem jn_a3 {μ : Mem} {j : Nat} (h : isJn μ j) : μ.1[j + 3]? = some (.inr (0, 36)) := (h.2.2.2.1).2
theorem jn_r3 {μ : Mem} {j : Nat} (h : isJn μ j) : gR μ j 3 = some (j + 4) := (h.2.2.2.2).1
theorem jn_a4 {μ : Mem} {j : Nat} (h : isJn μ j) : μ.1[j + 4]? = some (.inr (0, 36)) := (h.2.2.2.2).2
def isBk (μ : Mem) (b : Nat) : Prop := μ.1[b]? = some (.inl 0) ∧ (gR μ b 0 = some (b + 1) ∧ μ.1[b + 1]? = some (.inr (4, 3))) ∧ (gR μ b 1 = some (b + 2) ∧ μ.1[b + 2]? = some (.inr (0, 9))) ∧ (gR μ b 2 = some (b + 3) ∧ μ.1[b + 3]? = some (.inr (0, 40))) ∧ (gR μ b 3 = some (b + 4) ∧ μ.1[b + 4]? = some (.inr (0, 216))) ∧ (gR μ b 4 = some (b + 5) ∧ μ.1[b + 5]? = some (.inr (0, 48))) ∧ (gR μ b 5 = some (b + 6) ∧ μ.1[b + 6]? = some (.inr (0, 64))) ∧ (gR μ b 6 = some (b + 7) ∧ μ.1[b + 7]? = some (.inr (1, 32))) ∧ (gR μ b 7 = some (b + 8) ∧ μ.1[b + 8]? = some (.inr (0, 32))) ∧ (gR μ b 8 = some (b + 9) ∧ μ.1[b + 9]? = some (.inr (0, 32))) ∧ (gR μ (b + 1) 0 = some (b + 10) ∧ isClk μ (b + 10)) ∧ (gR μ (b + 1) 1 = some (b + 12) ∧ isClk μ (b + 12)) ∧ (gR μ (b + 1) 2 = some (b + 14) ∧ isClk μ (b + 14))
theorem bk_s {μ : Mem} {b : Nat} (h : isBk μ b) : μ.1[b]? = some (.inl 0) := h.1
theorem bk_r0 {μ : Mem} {b : Nat} (h : isBk μ b) : gR μ b 0 = some (b + 1) := (h.2.1).1
theorem bk_a1 {μ : Mem} {b : Nat} (h : isBk μ b) : μ.1[b + 1]? = some (.inr (4, 3)) := (h.2.1).2
theorem bk_r1 {μ : Mem} {b : Nat} (h : isBk μ b) : gR μ b 1 = some (b + 2) := (h.2.2.1).1
theorem bk_a2 {μ : Mem} {b : Nat} (h : isBk μ b) : μ.1[b + 2]? = some (.inr (0, 9)) := (h.2.2.1).2
theorem bk_r2 {μ : Mem} {b : Nat} (h : isBk μ b) : gR μ b 2 = some (b + 3) := (h.2.2.2.1).1
theorem bk_a3 {μ : Mem} {b : Nat} (h : isBk μ b) : μ.1[b + 3]? = some (.inr (0, 40)) := (h.2.2.2.1).2
theorem bk_r3 {μ : Mem} {b : Nat} (h : isBk μ b) : gR μ b 3 = some (b + 4) := (h.2.2.2.2.1).1
theorem bk_a4 {μ : Mem} {b : Nat} (h : isBk μ b) : μ.1[b + 4]? = some (.inr (0, 216)) := (h.2.2.2.2.1).2
theorem bk_r4 {μ : Mem} {b : Nat} (h : isBk μ b) : gR μ b 4 = some (b + 5) := (h.2.2.2.2.2.1).1
theorem bk_a5 {μ : Mem} {b : Nat} (h : isBk μ b) : μ.1[b + 5]? = some (.inr (0, 48)) := (h.2.2.2.2.2.1).2
theorem bk_r5 {μ : Mem} {b : Nat} (h : isBk μ b) : gR μ b 5 = some (b + 6) := (h.2.2.2.2.2.2.1).1
theorem bk_a6 {μ : Mem} {b : Nat} (h : isBk μ b) : μ.1[b + 6]? = some (.inr (0, 64)) := (h.2.2.2.2.2.2.1).2
theorem bk_r6 {μ : Mem} {b : Nat} (h : isBk μ b) : gR μ b 6 = some (b + 7) := (h.2.2.2.2.2.2.2.1).1
theorem bk_a7 {μ : Mem} {b : Nat} (h : isBk μ b) : μ.1[b + 7]? = some (.inr (1, 32)) := (h.2.2.2.2.2.2.2.1).2
theorem bk_r7 {μ : Mem} {b : Nat} (h : isBk μ b) : gR μ b 7 = some (b + 8) := (h.2.2.2.2.2.2.2.2.1).1
theorem bk_a8 {μ : Mem} {b : Nat} (h : isBk μ b) : μ.1[b + 8]? = some (.inr (0, 32)) := (h.2.2.2.2.2.2.2.2.1).2
theorem bk_r8 {μ : Mem} {b : Nat} (h : isBk μ b) : gR μ b 8 = some (b + 9) := (h.2.2.2.2.2.2.2.2.2.1).1
theorem bk_a9 {μ : Mem} {b : Nat} (h : isBk μ b) : μ.1[b + 9]? = some (.inr (0, 32)) := (h.2.2.2.2.2.2.2.2.2.1).2
theorem bk_c0 {μ : Mem} {b : Nat} (h : isBk μ b) : gR μ (b + 1) 0 = some (b + 10) ∧ isClk μ (b + 10) := h.2.2.2.2.2.2.2.2.2.2.1
theorem bk_c1 {μ : Mem} {b : Nat} (h : isBk μ b) : gR μ (b + 1) 1 = some (b + 12) ∧ isClk μ (b + 12) := h.2.2.2.2.2.2.2.2.2.2.2.1
theorem bk_c2 {μ : Mem} {b : Nat} (h : isBk μ b) : gR μ (b + 1) 2 = some (b + 14) ∧ isClk μ (b + 14) := h.2.2.2.2.2.2.2.2.2.2.2.2
theorem bk_c {μ : Mem} {b t : Nat} (h : isBk μ b) (ht : t < 3) : gR μ (b + 1) t = some (b + 10 + 2 * t) ∧ isClk μ (b + 10 + 2 * t) := by
  match t, ht with
  | 0, _ => exact bk_c0 h
  | 1, _ => exact bk_c1 h
  | 2, _ => exact bk_c2 h
theorem gI_same {μ : Mem} {o k : Nat} {v : Int32} : gI (sI μ o k v) o k = v := by simp [gI, sI]
theorem gI_ne {μ : Mem} {o k o' k' : Nat} {v : Int32} (h : ¬ (o' = o ∧ k' = k)) : gI (sI μ o k v) o' k' = gI μ o' k' := by simp [gI, sI, h]
theorem gI_no {μ : Mem} {o k o' k' : Nat} {v : Int32} (h : o' ≠ o) : gI (sI μ o k v) o' k' = gI μ o' k' := gI_ne (fun e => h e.1)
theorem gI_nk {μ : Mem} {o k o' k' : Nat} {v : Int32} (h : k' ≠ k) : gI (sI μ o k v) o' k' = gI μ o' k' := gI_ne (fun e => h e.2)
theorem gI_sL {μ : Mem} {o k o' k' : Nat} {v : Int64} : gI (sL μ o k v) o' k' = gI μ o' k' := rfl
theorem gI_sR {μ : Mem} {o k o' k' : Nat} {v : Option Nat} : gI (sR μ o k v) o' k' = gI μ o' k' := rfl
theorem gL_sI {μ : Mem} {o k o' k' : Nat} {v : Int32} : gL (sI μ o k v) o' k' = gL μ o' k' := rfl
theorem gL_sR {μ : Mem} {o k o' k' : Nat} {v : Option Nat} : gL (sR μ o k v) o' k' = gL μ o' k' := rfl
theorem gR_sI {μ : Mem} {o k o' k' : Nat} {v : Int32} : gR (sI μ o k v) o' k' = gR μ o' k' := rfl
theorem gR_sL {μ : Mem} {o k o' k' : Nat} {v : Int64} : gR (sL μ o k v) o' k' = gR μ o' k' := rfl
theorem gL_same {μ : Mem} {o k : Nat} {v : Int64} : gL (sL μ o k v) o k = v := by simp [gL, sL]
theorem gL_ne {μ : Mem} {o k o' k' : Nat} {v : Int64} (h : ¬ (o' = o ∧ k' = k)) : gL (sL μ o k v) o' k' = gL μ o' k' := by simp [gL, sL, h]
theorem gR_same {μ : Mem} {o k : Nat} {v : Option Nat} : gR (sR μ o k v) o k = v := by simp [gR, sR]
theorem gR_ne {μ : Mem} {o k o' k' : Nat} {v : Option Nat} (h : ¬ (o' = o ∧ k' = k)) : gR (sR μ o k v) o' k' = gR μ o' k' := by simp [gR, sR, h]
/-- nothing but the places in S has changed; the shapes and the references are the same -/
def same (S : Nat → Nat → Prop) (μ μ2 : Mem) : Prop := μ2.1 = μ.1 ∧ μ2.2.2.2 = μ.2.2.2 ∧ ∀ o k, ¬ S o k → gI μ2 o k = gI μ o k ∧ gL μ2 o k = gL μ o k
theorem same.rf {S : Nat → Nat → Prop} {μ : Mem} : same S μ μ := ⟨rfl, rfl, fun _ _ _ => ⟨rfl, rfl⟩⟩
theorem same.tr {S : Nat → Nat → Prop} {μ μ2 μ3 : Mem} (h : same S μ μ2) (h2 : same S μ2 μ3) : same S μ μ3 :=
  ⟨h2.1.trans h.1, h2.2.1.trans h.2.1, fun o k hs => ⟨(h2.2.2 o k hs).1.trans (h.2.2 o k hs).1, (h2.2.2 o k hs).2.trans (h.2.2 o k hs).2⟩⟩
theorem same.up {S T : Nat → Nat → Prop} {μ μ2 : Mem} (h : same S μ μ2) (hs : ∀ o k, S o k → T o k) : same T μ μ2 :=
  ⟨h.1, h.2.1, fun o k hn => h.2.2 o k (fun q => hn (hs o k q))⟩
theorem same.sI {S : Nat → Nat → Prop} {μ μ2 : Mem} {o k : Nat} {v : Int32} (h : same S μ μ2) (hs : S o k) : same S μ (sI μ2 o k v) :=
  h.tr ⟨rfl, rfl, fun a b hn => ⟨gI_ne (fun e => hn (by rw [e.1, e.2]; exact hs)), rfl⟩⟩
theorem same.sL {S : Nat → Nat → Prop} {μ μ2 : Mem} {o k : Nat} {v : Int64} (h : same S μ μ2) (hs : S o k) : same S μ (sL μ2 o k v) :=
  h.tr ⟨rfl, rfl, fun a b hn => ⟨rfl, gL_ne (fun e => hn (by rw [e.1, e.2]; exact hs))⟩⟩
theorem gR_of {S : Nat → Nat → Prop} {μ μ2 : Mem} (h : same S μ μ2) (o k : Nat) : gR μ2 o k = gR μ o k := by
  show μ2.2.2.2 o k = _
  rw [h.2.1]; rfl
theorem same.isMod {S : Nat → Nat → Prop} {μ μ2 : Mem} {o : Nat} (h : same S μ μ2) (hm : isMod μ o) : isMod μ2 o := by
  obtain ⟨s, i, l, r⟩ := μ
  obtain ⟨s2, i2, l2, r2⟩ := μ2
  obtain ⟨h1, h2, -⟩ := h
  cases h1; cases h2; exact hm
theorem same.isTp {S : Nat → Nat → Prop} {μ μ2 : Mem} {o : Nat} (h : same S μ μ2) (hm : isTp μ o) : isTp μ2 o := by
  obtain ⟨s, i, l, r⟩ := μ
  obtain ⟨s2, i2, l2, r2⟩ := μ2
  obtain ⟨h1, h2, -⟩ := h
  cases h1; cases h2; exact hm
theorem same.isRd {S : Nat → Nat → Prop} {μ μ2 : Mem} {o : Nat} (h : same S μ μ2) (hm : isRd μ o) : isRd μ2 o := by
  obtain ⟨s, i, l, r⟩ := μ
  obtain ⟨s2, i2, l2, r2⟩ := μ2
  obtain ⟨h1, h2, -⟩ := h
  cases h1; cases h2; exact hm
theorem same.isWd {S : Nat → Nat → Prop} {μ μ2 : Mem} {o : Nat} (h : same S μ μ2) (hm : isWd μ o) : isWd μ2 o := by
  obtain ⟨s, i, l, r⟩ := μ
  obtain ⟨s2, i2, l2, r2⟩ := μ2
  obtain ⟨h1, h2, -⟩ := h
  cases h1; cases h2; exact hm
theorem same.isPl {S : Nat → Nat → Prop} {μ μ2 : Mem} {o : Nat} (h : same S μ μ2) (hm : isPl μ o) : isPl μ2 o := by
  obtain ⟨s, i, l, r⟩ := μ
  obtain ⟨s2, i2, l2, r2⟩ := μ2
  obtain ⟨h1, h2, -⟩ := h
  cases h1; cases h2; exact hm
theorem same.isVt {S : Nat → Nat → Prop} {μ μ2 : Mem} {o : Nat} (h : same S μ μ2) (hm : isVt μ o) : isVt μ2 o := by
  obtain ⟨s, i, l, r⟩ := μ
  obtain ⟨s2, i2, l2, r2⟩ := μ2
  obtain ⟨h1, h2, -⟩ := h
  cases h1; cases h2; exact hm
theorem same.isJn {S : Nat → Nat → Prop} {μ μ2 : Mem} {o : Nat} (h : same S μ μ2) (hm : isJn μ o) : isJn μ2 o := by
  obtain ⟨s, i, l, r⟩ := μ
  obtain ⟨s2, i2, l2, r2⟩ := μ2
  obtain ⟨h1, h2, -⟩ := h
  cases h1; cases h2; exact hm
theorem same.isBk {S : Nat → Nat → Prop} {μ μ2 : Mem} {o : Nat} (h : same S μ μ2) (hm : isBk μ o) : isBk μ2 o := by
  obtain ⟨s, i, l, r⟩ := μ
  obtain ⟨s2, i2, l2, r2⟩ := μ2
  obtain ⟨h1, h2, -⟩ := h
  cases h1; cases h2; exact hm
theorem same.isClk {S : Nat → Nat → Prop} {μ μ2 : Mem} {o : Nat} (h : same S μ μ2) (hm : isClk μ o) : isClk μ2 o := by
  obtain ⟨s, i, l, r⟩ := μ
  obtain ⟨s2, i2, l2, r2⟩ := μ2
  obtain ⟨h1, h2, -⟩ := h
  cases h1; cases h2; exact hm
