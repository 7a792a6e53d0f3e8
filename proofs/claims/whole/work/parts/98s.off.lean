/-! behind the makers: things may be thrown from now on -/
def offG (Γ : Gm) : Gm := (Γ.1, Γ.2.1, Γ.2.2.1, Γ.2.2.2.1, Γ.2.2.2.2.1, false)
theorem offG_f (Γ : Gm) : (offG Γ).2.2.2.2.2 = false := rfl
theorem grv_off {Γ : Gm} (v : Value) : grv (offG Γ) v = grv Γ v := by cases v <;> rfl
theorem asc_off {Γ : Gm} : ∀ (ls : List (Option Value)) (i : Nat), asc (offG Γ) i ls = asc Γ i ls := by
  intro ls
  induction ls with
  | nil => intro i; rfl
  | cons v t ih =>
    intro i
    cases v with
    | none => simp only [asc, ih]
    | some v => simp only [asc, ih, grv_off]
theorem WP.off {Γ : Gm} {X : Cx} {k n pc : Nat} {ls : List (Option Value)} {st : List Value} {μ : Mem} (h : WP (offG Γ) X k n pc ls st μ) : WP Γ X k n pc ls st μ := by
  obtain ⟨p, e, R, s, m, args, below, meth, c, Q⟩ := X
  intro H locs cells slots a h1 h2 hP hS hz hn hl
  have h9 := h H locs cells slots a h1 h2 hP hS (fun hf => Bool.noConfusion hf) hn (by unfold lrel; rw [asc_off]; exact hl)
  rwa [show st.map (grv (offG Γ)) = st.map (grv Γ) from List.map_congr_left (fun v _ => grv_off v)] at h9
theorem GX.off {Γ : Gm} {X : Cx} {own : String} {cc : ByteArray} {d : Nat} (h : GX Γ X own cc d) : GX (offG Γ) X own cc d := h
