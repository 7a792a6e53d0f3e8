theorem nI_m1 {a : Nat} (ha : a < 2 ^ 31) : ¬ nI a = (-1 : Int32) := by
  intro h
  have h1 : (nI a).toInt = (-1 : Int32).toInt := by rw [h]
  rw [nI_toInt ha] at h1
  have h2 : (-1 : Int32).toInt = -1 := rfl
  omega
/-- first moment's hours, twice, hours by a minute -/
def fi (B : Nat → Nat) (t c : Nat) : Nat := mFi B none t c (nB B t)
def tw (B : Nat → Nat) (t c : Nat) : Bool := mTw B none t c (nB B t)
def bk (B : Nat → Nat) (t c : Nat) : Nat := mBk B none t c (nB B t)
/-- the first and the last moment of a clock time -/
def fst (B : Nat → Nat) (t c : Nat) : Nat := c + 60 * fi B t c
def lst (B : Nat → Nat) (t c : Nat) : Nat := c + 60 * fi B t c + if tw B t c = true then 60 else 0
theorem nB_le {B : Nat → Nat} (hW : WBt B) {t : Nat} (ht : t < 3) : nB B t ≤ 12 := (hW.2 t ht).1
theorem fi_le {B : Nat → Nat} (hW : WBt B) {t c : Nat} (ht : t < 3) : fi B t c ≤ 12 := Nat.le_trans (mFi_le _) (nB_le hW ht)
theorem bk_le {B : Nat → Nat} (hW : WBt B) {t c : Nat} (ht : t < 3) : bk B t c ≤ 12 := Nat.le_trans (mBk_le _) (nB_le hW ht)
theorem fst_le {B : Nat → Nat} (hW : WBt B) {t c : Nat} (ht : t < 3) : fst B t c ≤ c + 720 := by
  have := fi_le (c := c) hW ht
  unfold fst; omega
theorem lst_le {B : Nat → Nat} (hW : WBt B) {t c : Nat} (ht : t < 3) : lst B t c ≤ c + 780 := by
  have := fi_le (c := c) hW ht
  unfold lst; split <;> omega
theorem s_b_firstOf (Γ : Gm) (μ : Mem) (b : Nat) (B : Nat → Nat) (hR : Rb μ b B) (hW : WBt B) (t : Nat) (ht : t < 3) (c : Nat) (hc : c ≤ 19000000) : SpI Γ MX1_firstOf 1 0 0 [.ref (b + 10 + 2 * t), .int (nI c)] μ (fun r μ2 => r = nI (fst B t c) ∧ μ2 = μ) := by
  have h := s_firstOf Γ μ (mS B t) (nB B t) _ c (hR.2.2.1 t ht) (by omega)
  rw [upTo_mFi hW ht] at h
  exact h
theorem s_b_lastOf (Γ : Gm) (μ : Mem) (b : Nat) (B : Nat → Nat) (hR : Rb μ b B) (hW : WBt B) (t : Nat) (ht : t < 3) (c : Nat) (hc : c ≤ 19000000) : SpI Γ MX1_lastOf 1 0 0 [.ref (b + 10 + 2 * t), .int (nI c)] μ (fun r μ2 => r = nI (lst B t c) ∧ μ2 = μ) := by
  have h := s_lastOf Γ μ (mS B t) (nB B t) _ c (hR.2.2.1 t ht) (by omega)
  rw [upTo_60 hW ht, upTo_mFi hW ht] at h
  rw [show lst B t c = c + 60 * (mFi B none t c (nB B t) + if mTw B none t c (nB B t) = true then 1 else 0) by unfold lst fi tw; split <;> omega]
  exact h
theorem s_b_hasTwice (Γ : Gm) (μ : Mem) (b : Nat) (B : Nat → Nat) (hR : Rb μ b B) (hW : WBt B) (t : Nat) (ht : t < 3) (c : Nat) (hc : c ≤ 19000000) : SpI Γ MX1_hasTwice 1 0 0 [.ref (b + 10 + 2 * t), .int (nI c)] μ (fun r μ2 => r = bI (tw B t c) ∧ μ2 = μ) := by
  have h := s_hasTwice Γ μ (mS B t) (nB B t) _ c (hR.2.2.1 t ht) (by omega)
  rw [upTo_60 hW ht] at h
  rw [show tw B t c = decide (upTo (mS B t) c (nB B t) 0 < upTo (mS B t) c (nB B t) 0 + if mTw B none t c (nB B t) = true then 1 else 0) by unfold tw; cases mTw B none t c (nB B t) <;> simp]
  exact h
theorem s_b_backsBy (Γ : Gm) (μ : Mem) (b : Nat) (B : Nat → Nat) (hR : Rb μ b B) (hW : WBt B) (t : Nat) (ht : t < 3) (c : Nat) (hc : c ≤ 19000000) : SpI Γ MX1_backsBy 1 0 0 [.ref (b + 10 + 2 * t), .int (nI c)] μ (fun r μ2 => r = nI (bk B t c) ∧ μ2 = μ) := by
  have h := s_bks Γ μ (mS B t) (nB B t) _ c (hR.2.2.1 t ht) (by omega)
  rw [bks_mBk hW ht] at h
  exact h
theorem s_b_showsAt (Γ : Gm) (μ : Mem) (b : Nat) (B : Nat → Nat) (hR : Rb μ b B) (hW : WBt B) (t : Nat) (ht : t < 3) (c : Nat) (hc : c ≤ 19000000) : SpI Γ MX1_showsAt 2 0 0 [.ref (b + 10 + 2 * t), .int (nI c)] μ (fun r μ2 => r = nI c - nI (60 * bk B t c) ∧ μ2 = μ) := by
  have h := s_showsAt Γ μ (mS B t) (nB B t) _ c (hR.2.2.1 t ht) (by omega)
  rw [bks_mBk hW ht] at h
  exact h
