theorem dJ0_length_8abf5_0 : decode cJ0_length_8abf5 0 = .ok (.aload_n 0, 1) := by decide +kernel
theorem dJ0_length_8abf5_1 : decode cJ0_length_8abf5 1 = .ok (.getfield 9, 3) := by decide +kernel
theorem dJ0_length_8abf5_4 : decode cJ0_length_8abf5 4 = .ok (.arraylength, 1) := by decide +kernel
theorem dJ0_length_8abf5_5 : decode cJ0_length_8abf5 5 = .ok (.aload_n 0, 1) := by decide +kernel
theorem dJ0_length_8abf5_6 : decode cJ0_length_8abf5 6 = .ok (.invokevirtual 335, 3) := by decide +kernel
theorem dJ0_length_8abf5_9 : decode cJ0_length_8abf5 9 = .ok (.ishr, 1) := by decide +kernel
theorem dJ0_length_8abf5_10 : decode cJ0_length_8abf5 10 = .ok (.ireturn, 1) := by decide +kernel
theorem dJ0_charAt_5068e_0 : decode cJ0_charAt_5068e 0 = .ok (.aload_n 0, 1) := by decide +kernel
theorem dJ0_charAt_5068e_1 : decode cJ0_charAt_5068e 1 = .ok (.invokevirtual 492, 3) := by decide +kernel
theorem dJ0_charAt_5068e_4 : decode cJ0_charAt_5068e 4 = .ok (.ifCond .eq 12, 3) := by decide +kernel
theorem dJ0_charAt_5068e_7 : decode cJ0_charAt_5068e 7 = .ok (.aload_n 0, 1) := by decide +kernel
theorem dJ0_charAt_5068e_8 : decode cJ0_charAt_5068e 8 = .ok (.getfield 9, 3) := by decide +kernel
theorem dJ0_charAt_5068e_11 : decode cJ0_charAt_5068e 11 = .ok (.iload_n 1, 1) := by decide +kernel
theorem dJ0_charAt_5068e_12 : decode cJ0_charAt_5068e 12 = .ok (.invokestatic 495, 3) := by decide +kernel
theorem dJ0_charAt_5068e_15 : decode cJ0_charAt_5068e 15 = .ok (.ireturn, 1) := by decide +kernel
theorem dJ0_charAt_5068e_16 : decode cJ0_charAt_5068e 16 = .ok (.aload_n 0, 1) := by decide +kernel
theorem dJ0_charAt_5068e_17 : decode cJ0_charAt_5068e 17 = .ok (.getfield 9, 3) := by decide +kernel
theorem dJ0_charAt_5068e_20 : decode cJ0_charAt_5068e 20 = .ok (.iload_n 1, 1) := by decide +kernel
theorem dJ0_charAt_5068e_21 : decode cJ0_charAt_5068e 21 = .ok (.invokestatic 498, 3) := by decide +kernel
theorem dJ0_charAt_5068e_24 : decode cJ0_charAt_5068e 24 = .ok (.ireturn, 1) := by decide +kernel
theorem dJ0_coder_7d493_0 : decode cJ0_coder_7d493 0 = .ok (.getstatic 38, 3) := by decide +kernel
theorem dJ0_coder_7d493_3 : decode cJ0_coder_7d493 3 = .ok (.ifCond .eq 10, 3) := by decide +kernel
theorem dJ0_coder_7d493_6 : decode cJ0_coder_7d493 6 = .ok (.aload_n 0, 1) := by decide +kernel
theorem dJ0_coder_7d493_7 : decode cJ0_coder_7d493 7 = .ok (.getfield 15, 3) := by decide +kernel
theorem dJ0_coder_7d493_10 : decode cJ0_coder_7d493 10 = .ok (.goto 4, 3) := by decide +kernel
theorem dJ0_coder_7d493_13 : decode cJ0_coder_7d493 13 = .ok (.iconst 1, 1) := by decide +kernel
theorem dJ0_coder_7d493_14 : decode cJ0_coder_7d493 14 = .ok (.ireturn, 1) := by decide +kernel
theorem dJ0_isLatin1_aae02_0 : decode cJ0_isLatin1_aae02 0 = .ok (.getstatic 38, 3) := by decide +kernel
theorem dJ0_isLatin1_aae02_3 : decode cJ0_isLatin1_aae02 3 = .ok (.ifCond .eq 14, 3) := by decide +kernel
theorem dJ0_isLatin1_aae02_6 : decode cJ0_isLatin1_aae02 6 = .ok (.aload_n 0, 1) := by decide +kernel
theorem dJ0_isLatin1_aae02_7 : decode cJ0_isLatin1_aae02 7 = .ok (.getfield 15, 3) := by decide +kernel
theorem dJ0_isLatin1_aae02_10 : decode cJ0_isLatin1_aae02 10 = .ok (.ifCond .ne 7, 3) := by decide +kernel
theorem dJ0_isLatin1_aae02_13 : decode cJ0_isLatin1_aae02 13 = .ok (.iconst 1, 1) := by decide +kernel
theorem dJ0_isLatin1_aae02_14 : decode cJ0_isLatin1_aae02 14 = .ok (.goto 4, 3) := by decide +kernel
theorem dJ0_isLatin1_aae02_17 : decode cJ0_isLatin1_aae02 17 = .ok (.iconst 0, 1) := by decide +kernel
theorem dJ0_isLatin1_aae02_18 : decode cJ0_isLatin1_aae02 18 = .ok (.ireturn, 1) := by decide +kernel
theorem dJ0_checkIndex_df160_0 : decode cJ0_checkIndex_df160 0 = .ok (.iload_n 0, 1) := by decide +kernel
theorem dJ0_checkIndex_df160_1 : decode cJ0_checkIndex_df160 1 = .ok (.iload_n 1, 1) := by decide +kernel
theorem dJ0_checkIndex_df160_2 : decode cJ0_checkIndex_df160 2 = .ok (.getstatic 1053, 3) := by decide +kernel
theorem dJ0_checkIndex_df160_5 : decode cJ0_checkIndex_df160 5 = .ok (.invokestatic 1059, 3) := by decide +kernel
theorem dJ0_checkIndex_df160_8 : decode cJ0_checkIndex_df160 8 = .ok (.pop, 1) := by decide +kernel
theorem dJ0_checkIndex_df160_9 : decode cJ0_checkIndex_df160 9 = .ok (.return_, 1) := by decide +kernel
theorem dJ1_charAt_3b067_0 : decode cJ1_charAt_3b067 0 = .ok (.iload_n 1, 1) := by decide +kernel
theorem dJ1_charAt_3b067_1 : decode cJ1_charAt_3b067 1 = .ok (.aload_n 0, 1) := by decide +kernel
theorem dJ1_charAt_3b067_2 : decode cJ1_charAt_3b067 2 = .ok (.arraylength, 1) := by decide +kernel
theorem dJ1_charAt_3b067_3 : decode cJ1_charAt_3b067 3 = .ok (.invokestatic 9, 3) := by decide +kernel
theorem dJ1_charAt_3b067_6 : decode cJ1_charAt_3b067 6 = .ok (.aload_n 0, 1) := by decide +kernel
theorem dJ1_charAt_3b067_7 : decode cJ1_charAt_3b067 7 = .ok (.iload_n 1, 1) := by decide +kernel
theorem dJ1_charAt_3b067_8 : decode cJ1_charAt_3b067 8 = .ok (.baload, 1) := by decide +kernel
theorem dJ1_charAt_3b067_9 : decode cJ1_charAt_3b067 9 = .ok (.sipush 255, 3) := by decide +kernel
theorem dJ1_charAt_3b067_12 : decode cJ1_charAt_3b067 12 = .ok (.iand, 1) := by decide +kernel
theorem dJ1_charAt_3b067_13 : decode cJ1_charAt_3b067 13 = .ok (.i2c, 1) := by decide +kernel
theorem dJ1_charAt_3b067_14 : decode cJ1_charAt_3b067 14 = .ok (.ireturn, 1) := by decide +kernel
theorem dJ3_checkIndex_8e157_0 : decode cJ3_checkIndex_8e157 0 = .ok (.iload_n 0, 1) := by decide +kernel
theorem dJ3_checkIndex_8e157_1 : decode cJ3_checkIndex_8e157 1 = .ok (.ifCond .lt 8, 3) := by decide +kernel
theorem dJ3_checkIndex_8e157_4 : decode cJ3_checkIndex_8e157 4 = .ok (.iload_n 0, 1) := by decide +kernel
theorem dJ3_checkIndex_8e157_5 : decode cJ3_checkIndex_8e157 5 = .ok (.iload_n 1, 1) := by decide +kernel
theorem dJ3_checkIndex_8e157_6 : decode cJ3_checkIndex_8e157 6 = .ok (.if_icmp .lt 10, 3) := by decide +kernel
theorem dJ3_checkIndex_8e157_9 : decode cJ3_checkIndex_8e157 9 = .ok (.aload_n 2, 1) := by decide +kernel
theorem dJ3_checkIndex_8e157_10 : decode cJ3_checkIndex_8e157 10 = .ok (.iload_n 0, 1) := by decide +kernel
theorem dJ3_checkIndex_8e157_11 : decode cJ3_checkIndex_8e157 11 = .ok (.iload_n 1, 1) := by decide +kernel
theorem dJ3_checkIndex_8e157_12 : decode cJ3_checkIndex_8e157 12 = .ok (.invokestatic 95, 3) := by decide +kernel
theorem dJ3_checkIndex_8e157_15 : decode cJ3_checkIndex_8e157 15 = .ok (.athrow, 1) := by decide +kernel
theorem dJ3_checkIndex_8e157_16 : decode cJ3_checkIndex_8e157 16 = .ok (.iload_n 0, 1) := by decide +kernel
theorem dJ3_checkIndex_8e157_17 : decode cJ3_checkIndex_8e157 17 = .ok (.ireturn, 1) := by decide +kernel
theorem fsV : Cond.fieldLink RJ0 9 RJ0 "value" "[B" ∈ gG := inG 1684 (by decide +kernel) (by decide +kernel)
theorem fsC : Cond.fieldLink RJ0 15 RJ0 "coder" "B" ∈ gG := inG 1685 (by decide +kernel) (by decide +kernel)
theorem fsZ : Cond.fieldLink RJ0 38 RJ0 "COMPACT_STRINGS" "Z" ∈ gG := inG 181 (by decide +kernel) (by decide +kernel)
theorem fsF : Cond.fieldLink RJ0 1053 RJ3 "SIOOBE_FORMATTER" "Ljava/util/function/BiFunction;" ∈ gG := inG 197 (by decide +kernel) (by decide +kernel)
theorem gad_x (Γ : Gm) (j : Nat) : gad Γ (scr + j) = Γ.2.2.2.2.1 j := by unfold gad; rw [if_pos (Nat.le_add_right _ _), Nat.add_sub_cancel_left]
theorem grv_x (Γ : Gm) (j : Nat) : grv Γ (.ref (scr + j)) = .ref (Γ.2.2.2.2.1 j) := congrArg Value.ref (gad_x Γ j)
section StrR
variable {Γ : Gm} {X : Cx} {own : String} {cc : ByteArray} {d k n pc : Nat} {ls : List (Option Value)} {rest As : List Value} {μ : Mem} {ix d' k' n' k2 n2 : Nat} {M : Mth}
theorem w_ldcS (hX : GX Γ X RX4 cc d) (hd : decode cc pc = .ok (.ldc 19, 2)) (kk : WP Γ X k n (pc + 2) ls (.ref (scr + 1) :: rest) μ) : WP Γ X k n pc ls rest μ := by
  obtain ⟨p, e, R, s, m, args, below, meth, c, Q⟩ := X
  obtain ⟨hx, hb, ho, ht, hK, hE, hb0, hf, hlo⟩ := hX
  intro H locs cells slots a h1 h2 hP hS hz hn hl
  have h9 := kk H locs cells slots a h1 h2 hP hS hz hn hl
  rw [List.map_cons, grv_x] at h9
  exact va_ldcS hx hb ho hE.2.2.2.1.2.1 hd h9
theorem w_gVal (hX : GX Γ X RJ0 cc d) (hd : decode cc pc = .ok (.getfield 9, 3)) (kk : WP Γ X k n (pc + 3) ls (.ref (scr + 2) :: rest) μ) : WP Γ X k n pc ls (.ref (scr + 1) :: rest) μ := by
  obtain ⟨p, e, R, s, m, args, below, meth, c, Q⟩ := X
  obtain ⟨hx, hb, ho, ht, hK, hE, hb0, hf, hlo⟩ := hX
  intro H locs cells slots a h1 h2 hP hS hz hn hl
  have h9 := kk H locs cells slots a h1 h2 hP hS hz hn hl
  rw [List.map_cons, grv_x] at h9 ⊢
  exact vk_getf hx hb (hE.2.2.2.1.2.2.1.1 0 (by decide)).2.2.1 hS ho (ht _ fsV) (fun x h => h) hd h9
theorem w_gCod (hX : GX Γ X RJ0 cc d) (hd : decode cc pc = .ok (.getfield 15, 3)) (kk : WP Γ X k n (pc + 3) ls (.int (nI 0) :: rest) μ) : WP Γ X k n pc ls (.ref (scr + 1) :: rest) μ := by
  obtain ⟨p, e, R, s, m, args, below, meth, c, Q⟩ := X
  obtain ⟨hx, hb, ho, ht, hK, hE, hb0, hf, hlo⟩ := hX
  intro H locs cells slots a h1 h2 hP hS hz hn hl
  have h9 := kk H locs cells slots a h1 h2 hP hS hz hn hl
  rw [List.map_cons, grv_x]
  exact vk_getf hx hb (hE.2.2.2.1.2.2.1.1 0 (by decide)).2.1 hS ho (ht _ fsC) (fun x h => h) hd h9
theorem w_tLen (hX : GX Γ X own cc d) (hd : decode cc pc = .ok (.arraylength, 1)) (kk : WP Γ X k n (pc + 1) ls (.int (nI 92) :: rest) μ) : WP Γ X k n pc ls (.ref (scr + 2) :: rest) μ := by
  obtain ⟨p, e, R, s, m, args, below, meth, c, Q⟩ := X
  obtain ⟨hx, hb, ho, ht, hK, hE, hb0, hf, hlo⟩ := hX
  intro H locs cells slots a h1 h2 hP hS hz hn hl
  have h9 := kk H locs cells slots a h1 h2 hP hS hz hn hl
  rw [List.map_cons, grv_x]
  exact va_tlen hx hb (hE.2.2.2.1.2.2.1.1 0 (by decide)).2.2.2 hS rfl hd h9
theorem w_tByte (hX : GX Γ X own cc d) {j : Nat} (hj : j < 92) (hd : decode cc pc = .ok (.baload, 1)) (kk : WP Γ X k n (pc + 1) ls (.int (kwB.getD j 0) :: rest) μ) : WP Γ X k n pc ls (.int (nI j) :: .ref (scr + 2) :: rest) μ := by
  obtain ⟨p, e, R, s, m, args, below, meth, c, Q⟩ := X
  obtain ⟨hx, hb, ho, ht, hK, hE, hb0, hf, hlo⟩ := hX
  intro H locs cells slots a h1 h2 hP hS hz hn hl
  have h9 := kk H locs cells slots a h1 h2 hP hS hz hn hl
  rw [List.map_cons, List.map_cons, grv_x]
  exact va_tb hx hb (hE.2.2.2.1.2.2.1.1 0 (by decide)).2.2.2 hS (vp_in_nI hj (by decide)) (by rw [nI_clamp (by omega)]; rfl) hd h9
theorem w_gZ (hX : GX Γ X RJ0 cc d) (hd : decode cc pc = .ok (.getstatic 38, 3)) (kk : WP Γ X k n (pc + 3) ls (.int (nI 1) :: rest) μ) : WP Γ X k n pc ls rest μ := by
  obtain ⟨p, e, R, s, m, args, below, meth, c, Q⟩ := X
  obtain ⟨hx, hb, ho, ht, hK, hE, hb0, hf, hlo⟩ := hX
  intro H locs cells slots a h1 h2 hP hS hz hn hl
  have h9 := kk H locs cells slots a h1 h2 hP hS hz hn hl
  exact va_gets hx hb hE.2.2.2.1.2.2.2.1 hS ho (ht _ fsZ) (fun x h => h) hd h9
theorem w_gF (hX : GX Γ X RJ0 cc d) (hd : decode cc pc = .ok (.getstatic 1053, 3)) (kn : WP Γ X k n (pc + 3) ls (.null :: rest) μ) (kk : WP Γ X k n (pc + 3) ls (.ref (scr + 3) :: rest) μ) : WP Γ X k n pc ls rest μ := by
  obtain ⟨p, e, R, s, m, args, below, meth, c, Q⟩ := X
  obtain ⟨hx, hb, ho, ht, hK, hE, hb0, hf, hlo⟩ := hX
  intro H locs cells slots a h1 h2 hP hS hz hn hl
  have h8 := kn H locs cells slots a h1 h2 hP hS hz hn hl
  have h9 := kk H locs cells slots a h1 h2 hP hS hz hn hl
  rw [List.map_cons, grv_x] at h9
  rcases hE.2.2.2.1.2.2.2.2 with h | h
  · exact va_gets hx hb h hS ho (ht _ fsF) (fun x h => h) hd h8
  · exact va_gets hx hb h hS ho (ht _ fsF) (fun x h => h) hd h9
theorem w_i2c (hX : GX Γ X own cc d) {x v : Int32} (hd : decode cc pc = .ok (.i2c, 1)) (hv : (x.toUInt32 % 65536).toInt32 = v) (kk : WP Γ X k n (pc + 1) ls (.int v :: rest) μ) : WP Γ X k n pc ls (.int x :: rest) μ := by
  obtain ⟨p, e, R, s, m, args, below, meth, c, Q⟩ := X
  obtain ⟨hx, hb, ho, ht, hK, hE, hb0, hf, hlo⟩ := hX
  intro H locs cells slots a h1 h2 hP hS hz hn hl
  exact lv_i2c hx hb hd hv (kk H locs cells slots a h1 h2 hP hS hz hn hl)
/-- a call of the text's own method -/
theorem w_callTI (hX : GX Γ X own cc d) {Qc : Int32 → Mem → Prop} (hd : decode cc pc = .ok (.invokevirtual ix, 3)) (hS9 : SpI Γ M d' k' n' (.ref (scr + 1) :: As) μ Qc) (hM : MOK M) (hl9 : Cond.methodLink own ix M.1 ∈ gG) (him : Cond.instanceMethod M.1 ∈ gG) (hse : Cond.selects RJ0 M.1 M.1 ∈ gG) (hna : As.length = M.2.2.2.2) (hdd : d' + 1 ≤ d) (hrm : (rest.map fun v => v.category).sum ≤ 8) (hk : k' + k2 = k) (hn0 : n' + n2 = n) (kk : ∀ (r : Int32) (μ2 : Mem), Qc r μ2 → WP Γ X k2 n2 (pc + 3) ls (.int r :: rest) μ2) : WP Γ X k n pc ls (As.reverse ++ .ref (scr + 1) :: rest) μ := by
  obtain ⟨p, e, R, s, m, args, below, meth, c, Q⟩ := X
  obtain ⟨hx, hb, ho, ht, hK, hE, hb0, hf, hlo⟩ := hX
  intro H locs cells slots a h1 h2 hP hS hz hn hl
  refine W_bound (fun hbd => ?_)
  have hrc : ∃ cell : Cell, H[gad Γ (scr + 1)]? = some cell ∧ cell.vm.isStatics = false ∧ s.vm.findClass RJ0 = some cell.cls := by
    rw [gad_x]; exact vk_recv (i := 0) hE.2.2.2.1.2.2.1 (by decide) hS
  refine va_calli (va_runV (As := As.map (grv Γ)) (rest := rest.map (grv Γ)) ⟨hx, hb, rfl, ho, ht⟩ hS9 ⟨callB_ok ht hM (ht _ hl9) hf hlo hdd, ht _ him, ht _ hse⟩ ⟨Pre_blind, hrc, fun U hU hW => ⟨rfl, Pre_at hP hK hE hb0 hS hz hn hbd hU hW⟩⟩ rfl (by rw [List.length_map]; exact hna) hl.1.1 (by show List.map (grv Γ) (As.reverse ++ .ref (scr + 1) :: rest) = _; rw [st_map, List.map_cons]; rfl) (lv_room (rest_room hrm)) hd ⟨by omega, by omega⟩) hS (fun q _ h => h) (fun q h => h) (fun r u t H1 locs1 ht1 hvm hw hB hz1 hk1 hS1 => ?_)
  obtain ⟨hP1, hz2, hn2⟩ := hB
  rw [ht1] at hP1
  exact kk r u hw H1 locs1 (cells + k') (slots + n') a (by omega) (by omega) hP1 hS1 (hz_call hz hk hz2) hn2 hl
end StrR
theorem kw_ch : ∀ i, i < 92 → (((kwB.getD i 0) &&& nI 255).toUInt32 % 65536).toInt32 = kwB.getD i 0 ∧ narrow .char (.int (kwB.getD i 0)) = .int (kwB.getD i 0) := by decide +kernel
set_option maxHeartbeats 1000000 in
theorem s_j_coder (Γ : Gm) (μ : Mem)  : SpI Γ MJ0_coder_7d493 0 0 0 [.ref (scr + 1)] μ (fun r μ2 => r = nI 0 ∧ μ2 = μ) := by
  refine SpI.of okJ0_coder_7d493 rfl [some (.ref (scr + 1))] ⟨rfl, trivial⟩ (leb rfl) (leb rfl) (fun X hX hE hnm => ?_)
  refine w_gZ hX dJ0_coder_7d493_0 ?_
  refine wn_if_eq (tgt := 13) hX dJ0_coder_7d493_3 (by decide) (by omega) (fun c1 => ?_) (fun c1 => ?_)
  · exact absurd c1 (by decide)
  · refine w_aload_n (i := 0) hX dJ0_coder_7d493_6 rfl rfl ?_
    refine w_gCod hX dJ0_coder_7d493_7 ?_
    refine w_goto (tgt := 14) hX dJ0_coder_7d493_10 (by decide) ?_
    exact w_iret hX hE dJ0_coder_7d493_14 (Or.inl rfl) rfl ⟨rfl, rfl⟩
set_option maxHeartbeats 1000000 in
theorem s_j_latin (Γ : Gm) (μ : Mem)  : SpI Γ MJ0_isLatin1_aae02 0 0 0 [.ref (scr + 1)] μ (fun r μ2 => r = nI 1 ∧ μ2 = μ) := by
  refine SpI.of okJ0_isLatin1_aae02 rfl [some (.ref (scr + 1))] ⟨rfl, trivial⟩ (leb rfl) (leb rfl) (fun X hX hE hnm => ?_)
  refine w_gZ hX dJ0_isLatin1_aae02_0 ?_
  refine wn_if_eq (tgt := 17) hX dJ0_isLatin1_aae02_3 (by decide) (by omega) (fun c1 => ?_) (fun c1 => ?_)
  · exact absurd c1 (by decide)
  · refine w_aload_n (i := 0) hX dJ0_isLatin1_aae02_6 rfl rfl ?_
    refine w_gCod hX dJ0_isLatin1_aae02_7 ?_
    refine wn_if_ne (tgt := 17) hX dJ0_isLatin1_aae02_10 (by decide) (by omega) (fun c2 => ?_) (fun c2 => ?_)
    · exact absurd c2 (by decide)
    · refine w_iconst hX dJ0_isLatin1_aae02_13 kI_1 ?_
      refine w_goto (tgt := 18) hX dJ0_isLatin1_aae02_14 (by decide) ?_
      exact w_iret hX hE dJ0_isLatin1_aae02_18 (Or.inl rfl) rfl ⟨rfl, rfl⟩
set_option maxHeartbeats 1000000 in
theorem s_j_length (Γ : Gm) (μ : Mem)  : SpI Γ MJ0_length_8abf5 1 0 0 [.ref (scr + 1)] μ (fun r μ2 => r = nI 92 ∧ μ2 = μ) := by
  refine SpI.of okJ0_length_8abf5 rfl [some (.ref (scr + 1))] ⟨rfl, trivial⟩ (leb rfl) (leb rfl) (fun X hX hE hnm => ?_)
  refine w_aload_n (i := 0) hX dJ0_length_8abf5_0 rfl rfl ?_
  refine w_gVal hX dJ0_length_8abf5_1 ?_
  refine w_tLen hX dJ0_length_8abf5_4 ?_
  refine w_aload_n (i := 0) hX dJ0_length_8abf5_5 rfl rfl ?_
  refine w_callTI (As := []) (rest := [.int (nI 92)]) (k2 := 0) (n2 := 0) hX dJ0_length_8abf5_6 (s_j_coder Γ μ) okJ0_coder_7d493 ml_RJ0_335 imJ0_coder_7d493 seJ0_coder_7d493 rfl (leb rfl) (leb rfl) rfl rfl (fun r9 μ9 hq9 => ?_)
  obtain ⟨hr9, hm9⟩ := hq9; rw [hr9, hm9]; clear hr9 hm9 r9 μ9
  refine w_ishr hX dJ0_length_8abf5_9 ?_
  refine w_top (y := nI 92) (by decide) ?_
  exact w_iret hX hE dJ0_length_8abf5_10 (Or.inl rfl) rfl ⟨rfl, rfl⟩
set_option maxHeartbeats 1000000 in
theorem s_j_checkn (Γ : Gm) (μ : Mem) (i j : Nat) (hij : i < j) (hj : j < 2 ^ 31) : SpI Γ MJ3_checkIndex_8e157 0 0 0 [.int (nI i), .int (nI j), .null] μ (fun r μ2 => r = nI i ∧ μ2 = μ) := by
  refine SpI.of okJ3_checkIndex_8e157 rfl [some (.int (nI i)), some (.int (nI j)), some (.null)] ⟨rfl, rfl, rfl, trivial⟩ (leb rfl) (leb rfl) (fun X hX hE hnm => ?_)
  refine w_iload_n (i := 0) hX dJ3_checkIndex_8e157_0 rfl rfl ?_
  refine wn_if_lt (tgt := 9) hX dJ3_checkIndex_8e157_1 (by decide) (by omega) (fun c1 => ?_) (fun c1 => ?_)
  · exfalso; omega
  · refine w_iload_n (i := 0) hX dJ3_checkIndex_8e157_4 rfl rfl ?_
    refine w_iload_n (i := 1) hX dJ3_checkIndex_8e157_5 rfl rfl ?_
    refine wn_icmp_lt (tgt := 16) hX dJ3_checkIndex_8e157_6 (by decide) (by omega) (by omega) (fun c2 => ?_) (fun c2 => ?_)
    · refine w_iload_n (i := 0) hX dJ3_checkIndex_8e157_16 rfl rfl ?_
      exact w_iret hX hE dJ3_checkIndex_8e157_17 (Or.inl rfl) rfl ⟨rfl, rfl⟩
    · exfalso; omega
set_option maxHeartbeats 1000000 in
theorem s_j_checkr (Γ : Gm) (μ : Mem) (i j : Nat) (hij : i < j) (hj : j < 2 ^ 31) : SpI Γ MJ3_checkIndex_8e157 0 0 0 [.int (nI i), .int (nI j), .ref (scr + 3)] μ (fun r μ2 => r = nI i ∧ μ2 = μ) := by
  refine SpI.of okJ3_checkIndex_8e157 rfl [some (.int (nI i)), some (.int (nI j)), some (.ref (scr + 3))] ⟨rfl, rfl, rfl, trivial⟩ (leb rfl) (leb rfl) (fun X hX hE hnm => ?_)
  refine w_iload_n (i := 0) hX dJ3_checkIndex_8e157_0 rfl rfl ?_
  refine wn_if_lt (tgt := 9) hX dJ3_checkIndex_8e157_1 (by decide) (by omega) (fun c1 => ?_) (fun c1 => ?_)
  · exfalso; omega
  · refine w_iload_n (i := 0) hX dJ3_checkIndex_8e157_4 rfl rfl ?_
    refine w_iload_n (i := 1) hX dJ3_checkIndex_8e157_5 rfl rfl ?_
    refine wn_icmp_lt (tgt := 16) hX dJ3_checkIndex_8e157_6 (by decide) (by omega) (by omega) (fun c2 => ?_) (fun c2 => ?_)
    · refine w_iload_n (i := 0) hX dJ3_checkIndex_8e157_16 rfl rfl ?_
      exact w_iret hX hE dJ3_checkIndex_8e157_17 (Or.inl rfl) rfl ⟨rfl, rfl⟩
    · exfalso; omega
set_option maxHeartbeats 1000000 in
theorem s_j_chk (Γ : Gm) (μ : Mem) (i j : Nat) (hij : i < j) (hj : j < 2 ^ 31) : SpV Γ MJ0_checkIndex_df160 1 0 0 [.int (nI i), .int (nI j)] μ (fun μ2 => μ2 = μ) := by
  refine SpV.of okJ0_checkIndex_df160 rfl [some (.int (nI i)), some (.int (nI j))] ⟨rfl, rfl, trivial⟩ (leb rfl) (leb rfl) (fun X hX hE hnm => ?_)
  refine w_iload_n (i := 0) hX dJ0_checkIndex_df160_0 rfl rfl ?_
  refine w_iload_n (i := 1) hX dJ0_checkIndex_df160_1 rfl rfl ?_
  refine w_gF hX dJ0_checkIndex_df160_2 ?_ ?_
  · refine w_callSI (As := [.int (nI i), .int (nI j), .null]) (rest := []) (k2 := 0) (n2 := 0) hX dJ0_checkIndex_df160_5 (s_j_checkn Γ μ i j hij hj) okJ3_checkIndex_8e157 ml_RJ0_1059 stJ3_checkIndex_8e157 rfl (leb rfl) (leb rfl) rfl rfl (fun r9 μ9 hq9 => ?_)
    obtain ⟨hr9, hm9⟩ := hq9; rw [hr9, hm9]; clear hr9 hm9 r9 μ9
    refine w_pop hX dJ0_checkIndex_df160_8 rfl ?_
    exact w_vret hX hE dJ0_checkIndex_df160_9 (Or.inl rfl) rfl
  · refine w_callSI (As := [.int (nI i), .int (nI j), .ref (scr + 3)]) (rest := []) (k2 := 0) (n2 := 0) hX dJ0_checkIndex_df160_5 (s_j_checkr Γ μ i j hij hj) okJ3_checkIndex_8e157 ml_RJ0_1059 stJ3_checkIndex_8e157 rfl (leb rfl) (leb rfl) rfl rfl (fun r9 μ9 hq9 => ?_)
    obtain ⟨hr9, hm9⟩ := hq9; rw [hr9, hm9]; clear hr9 hm9 r9 μ9
    refine w_pop hX dJ0_checkIndex_df160_8 rfl ?_
    exact w_vret hX hE dJ0_checkIndex_df160_9 (Or.inl rfl) rfl
set_option maxHeartbeats 1000000 in
theorem s_j_at1 (Γ : Gm) (μ : Mem) (i : Nat) (hi : i < 92) : SpI Γ MJ1_charAt_3b067 2 0 0 [.ref (scr + 2), .int (nI i)] μ (fun r μ2 => r = kwB.getD i 0 ∧ μ2 = μ) := by
  refine SpI.of okJ1_charAt_3b067 rfl [some (.ref (scr + 2)), some (.int (nI i))] ⟨rfl, rfl, trivial⟩ (leb rfl) (leb rfl) (fun X hX hE hnm => ?_)
  refine w_iload_n (i := 1) hX dJ1_charAt_3b067_0 rfl rfl ?_
  refine w_aload_n (i := 0) hX dJ1_charAt_3b067_1 rfl rfl ?_
  refine w_tLen hX dJ1_charAt_3b067_2 ?_
  refine w_callSV (As := [.int (nI i), .int (nI 92)]) (rest := []) (k2 := 0) (n2 := 0) hX dJ1_charAt_3b067_3 (s_j_chk Γ μ i 92 hi (by decide)) okJ0_checkIndex_df160 ml_RJ1_9 stJ0_checkIndex_df160 rfl (leb rfl) (leb rfl) rfl rfl (fun μ9 hq9 => ?_)
  rw [hq9]; clear hq9 μ9
  refine w_aload_n (i := 0) hX dJ1_charAt_3b067_6 rfl rfl ?_
  refine w_iload_n (i := 1) hX dJ1_charAt_3b067_7 rfl rfl ?_
  refine w_tByte hX hi dJ1_charAt_3b067_8 ?_
  refine w_sipush hX dJ1_charAt_3b067_9 kS_255 ?_
  refine w_iand hX dJ1_charAt_3b067_12 ?_
  refine w_i2c hX dJ1_charAt_3b067_13 (kw_ch i hi).1 ?_
  exact w_iret hX hE dJ1_charAt_3b067_14 (Or.inl rfl) (kw_ch i hi).2 ⟨rfl, rfl⟩
set_option maxHeartbeats 1000000 in
theorem s_j_at (Γ : Gm) (μ : Mem) (i : Nat) (hi : i < 92) : SpI Γ MJ0_charAt_5068e 3 0 0 [.ref (scr + 1), .int (nI i)] μ (fun r μ2 => r = kwB.getD i 0 ∧ μ2 = μ) := by
  refine SpI.of okJ0_charAt_5068e rfl [some (.ref (scr + 1)), some (.int (nI i))] ⟨rfl, rfl, trivial⟩ (leb rfl) (leb rfl) (fun X hX hE hnm => ?_)
  refine w_aload_n (i := 0) hX dJ0_charAt_5068e_0 rfl rfl ?_
  refine w_callTI (As := []) (rest := []) (k2 := 0) (n2 := 0) hX dJ0_charAt_5068e_1 (s_j_latin Γ μ) okJ0_isLatin1_aae02 ml_RJ0_492 imJ0_isLatin1_aae02 seJ0_isLatin1_aae02 rfl (leb rfl) (leb rfl) rfl rfl (fun r9 μ9 hq9 => ?_)
  obtain ⟨hr9, hm9⟩ := hq9; rw [hr9, hm9]; clear hr9 hm9 r9 μ9
  refine wn_if_eq (tgt := 16) hX dJ0_charAt_5068e_4 (by decide) (by omega) (fun c1 => ?_) (fun c1 => ?_)
  · exact absurd c1 (by decide)
  · refine w_aload_n (i := 0) hX dJ0_charAt_5068e_7 rfl rfl ?_
    refine w_gVal hX dJ0_charAt_5068e_8 ?_
    refine w_iload_n (i := 1) hX dJ0_charAt_5068e_11 rfl rfl ?_
    refine w_callSI (As := [.ref (scr + 2), .int (nI i)]) (rest := []) (k2 := 0) (n2 := 0) hX dJ0_charAt_5068e_12 (s_j_at1 Γ μ i hi) okJ1_charAt_3b067 ml_RJ0_495 stJ1_charAt_3b067 rfl (leb rfl) (leb rfl) rfl rfl (fun r9 μ9 hq9 => ?_)
    obtain ⟨hr9, hm9⟩ := hq9; rw [hr9, hm9]; clear hr9 hm9 r9 μ9
    exact w_iret hX hE dJ0_charAt_5068e_15 (Or.inl rfl) (kw_ch i hi).2 ⟨rfl, rfl⟩
def kwN (i : Nat) : Nat := (kwB.getD i 0).toNatClampNeg
def kst : Nat → Nat × (Nat → Nat)
  | 0 => (0, fun _ => 0)
  | i + 1 => if kwN i = 32 then ((kst i).1 + 1, (kst i).2) else ((kst i).1, fun k => if k = (kst i).1 then (kst i).2 k * 32 + (kwN i - 96) else (kst i).2 k)
theorem kst_ok : ∀ i, i < 92 → kwB.getD i 0 = nI (kwN i) ∧ (kst i).1 < 18 ∧ (kwN i = 32 ∨ 97 ≤ kwN i ∧ kwN i ≤ 122) := by decide +kernel
theorem kst_end : ∀ k, k < 18 → (kst 92).2 k = kw k := by decide +kernel
theorem kst_s {i : Nat} (h : kwN i = 32) : kst (i + 1) = ((kst i).1 + 1, (kst i).2) := by rw [kst, if_pos h]
theorem kst_l {i : Nat} (h : kwN i ≠ 32) : kst (i + 1) = ((kst i).1, fun k => if k = (kst i).1 then (kst i).2 k * 32 + (kwN i - 96) else (kst i).2 k) := by rw [kst, if_neg h]
theorem gL_nw {μ : Mem} {x : Shp} {n k : Nat} (h : μ.1.length = n) : gL (sN μ x) n k = lN 0 := if_pos h.symm
theorem isRd_L {μ : Mem} {o q j : Nat} {v : Int64} (h : isRd μ o) : isRd (sL μ q j v) o := h
set_option maxHeartbeats 1000000 in
theorem s_c_reader (Γ : Gm) (μ : Mem) (hfr : Γ.2.2.2.2.2 = true) (o : Nat) (ho : o < 800000) (hl : μ.1.length = o + 1) (hs : μ.1[o]? = some (.inl 4)) (hzo : ∀ k, gI μ o k = nI 0) : SpV Γ MX4_init 6 2 19 [.ref o] μ (fun μ2 => isRd μ2 o ∧ μ2.1.length = o + 3 ∧ OLD o μ μ2 ∧ ∀ k, k < 18 → gL μ2 (o + 1) k = lN (kw k)) := by
  refine SpV.of okX4_init rfl [some (.ref o), none, none, none] ⟨rfl, trivial⟩ (leb rfl) (leb rfl) (fun X hX hE hnm => ?_)
  have hini := hnm
  refine w_aload_n (i := 0) hX dX4_init_0 rfl rfl ?_
  refine w_objInit hX dX4_init_1 ol_RX4_3 (leb rfl) (leb rfl) ?_
  refine w_aload_n (i := 0) hX dX4_init_4 rfl rfl ?_
  refine w_bipush hX dX4_init_5 kB_18 ?_
  refine w_newL (n := 1) (len := 18) hX hfr dX4_init_7 (by decide) rfl (by decide) (by rw [hl]; unfold scr; omega) ?_
  rw [hl]
  have K1 : (sN μ (.inr (1, 18))).1.length = o + 2 := lnN hl
  have S1 : (sN μ (.inr (1, 18))).1[o]? = some (.inl 4) := shO hl (by omega) hs
  have A1 : (sN μ (.inr (1, 18))).1[o + 1]? = some (.inr (1, 18)) := shW hl
  have O1 : OLD o μ (sN μ (.inr (1, 18))) := OLD.rf.sN hl (by omega)
  have Z1 : ∀ k, gL (sN μ (.inr (1, 18))) (o + 1) k = lN 0 := fun k => gL_nw hl
  generalize sN μ (.inr (1, 18)) = M1 at K1 S1 A1 O1 Z1 ⊢
  refine w_putRF hX hini dX4_init_9 fo_RX4_11 rfl rfl rfl S1 ?_
  refine w_aload_n (i := 0) hX dX4_init_12 rfl rfl ?_
  refine w_iconst hX dX4_init_13 kI_1 ?_
  have K1b : (sR M1 o 0 (some (o + 1))).1.length = o + 2 := K1
  refine w_newI (n := 0) (len := 1) hX hfr dX4_init_14 (by decide) rfl (by decide) (by rw [K1b]; unfold scr; omega) ?_
  rw [K1b]
  have K2 : (sN (sR M1 o 0 (some (o + 1))) (.inr (0, 1))).1.length = o + 3 := lnN K1b
  have S2 : (sN (sR M1 o 0 (some (o + 1))) (.inr (0, 1))).1[o]? = some (.inl 4) := shO K1b (by omega) S1
  have A2 : (sN (sR M1 o 0 (some (o + 1))) (.inr (0, 1))).1[o + 1]? = some (.inr (1, 18)) := shO K1b (by omega) A1
  have B2 : (sN (sR M1 o 0 (some (o + 1))) (.inr (0, 1))).1[o + 2]? = some (.inr (0, 1)) := shW K1b
  have R2 : gR (sN (sR M1 o 0 (some (o + 1))) (.inr (0, 1))) o 0 = some (o + 1) := by rw [gR_old K1b (by omega), gR_same]
  have O2 : OLD o μ (sN (sR M1 o 0 (some (o + 1))) (.inr (0, 1))) := (O1.sR (Nat.le_refl _)).sN K1b (by omega)
  have Z2 : ∀ k, gL (sN (sR M1 o 0 (some (o + 1))) (.inr (0, 1))) (o + 1) k = lN 0 := fun k => by rw [gL_old K1b (by omega)]; exact Z1 k
  generalize sN (sR M1 o 0 (some (o + 1))) (.inr (0, 1)) = M2 at K2 S2 A2 B2 R2 O2 Z2 ⊢
  refine w_putRF hX hini dX4_init_16 fo_RX4_15 rfl rfl rfl S2 ?_
  refine w_iconst hX dX4_init_19 kI_0 ?_
  refine w_istore_n (i := 1) (l2 := [some (.ref o), some (.int (nI 0)), none, none]) hX dX4_init_20 rfl (ltb rfl) rfl rfl ?_
  refine w_iconst hX dX4_init_21 kI_0 ?_
  refine w_istore_n (i := 2) (l2 := [some (.ref o), some (.int (nI 0)), some (.int (nI 0)), none]) hX dX4_init_22 rfl (ltb rfl) rfl rfl ?_
  have RD : isRd (sR M2 o 1 (some (o + 2))) o := ⟨S2, ⟨by rw [gR_ne (by omega)]; exact R2, A2⟩, ⟨gR_same, B2⟩⟩
  have loop : ∀ i, i ≤ 92 → ∀ ν : Mem, isRd ν o → ν.1.length = o + 3 → OLD o μ ν → (∀ k, k < 18 → gL ν (o + 1) k = lN ((kst i).2 k)) → WP Γ X 0 0 23 [some (.ref o), some (.int (nI ((kst i).1))), some (.int (nI i)), none] [] ν := by
    refine loopU 92 ?_
    intro i hi ih ν hrd hln hO hv
    have hok := kst_ok i
    have h18 : (kst i).1 ≤ 18 := by rcases Nat.lt_or_ge i 92 with h | h; exact Nat.le_of_lt (hok h).2.1; rw [show i = 92 by omega]; decide +kernel
    refine w_iload_n (i := 2) hX dX4_init_23 rfl rfl ?_
    refine w_ldcS hX dX4_init_24 ?_
    refine w_callTI (As := []) (rest := [.int (nI i)]) (k2 := 0) (n2 := 0) hX dX4_init_26 (s_j_length Γ ν) okJ0_length_8abf5 ml_RX4_21 imJ0_length_8abf5 seJ0_length_8abf5 rfl (leb rfl) (leb rfl) rfl rfl (fun r9 μ9 hq9 => ?_)
    obtain ⟨hr9, hm9⟩ := hq9; rw [hr9, hm9]; clear hr9 hm9 r9 μ9
    refine wn_icmp_ge (tgt := 88) hX dX4_init_29 (by decide) (by omega) (by omega) (fun c1 => ?_) (fun c1 => ?_)
    · have hi92 : i = 92 := by omega
      exact w_vret hX hE dX4_init_88 (Or.inl rfl) ⟨hrd, hln, hO, fun k hk => by rw [hv k hk, hi92, kst_end k hk]⟩
    · refine w_iload_n (i := 1) hX dX4_init_32 rfl rfl ?_
      refine w_aload_n (i := 0) hX dX4_init_33 rfl rfl ?_
      refine w_getR (q := o + 1) hX dX4_init_34 fo_RX4_11 rfl hrd.1 hrd.2.1.1 ?_
      refine w_alen (len := 18) hX (ltb rfl) dX4_init_37 hrd.2.1.2 ?_
      refine wn_icmp_ge (tgt := 88) hX dX4_init_38 (by decide) (by omega) (by omega) (fun c2 => ?_) (fun c2 => ?_)
      · exact absurd (hok (by omega)).2.1 (by omega)
      · have hi9 : i < 92 := by omega
        refine w_ldcS hX dX4_init_41 ?_
        refine w_iload_n (i := 2) hX dX4_init_43 rfl rfl ?_
        refine w_callTI (As := [.int (nI i)]) (rest := []) (k2 := 0) (n2 := 0) hX dX4_init_44 (s_j_at Γ ν i hi9) okJ0_charAt_5068e ml_RX4_27 imJ0_charAt_5068e seJ0_charAt_5068e rfl (leb rfl) (leb rfl) rfl rfl (fun r9 μ9 hq9 => ?_)
        obtain ⟨hr9, hm9⟩ := hq9; rw [hr9, hm9, (hok hi9).1]; clear hr9 hm9 r9 μ9
        have hkn : kwN i < 2 ^ 31 := by have := (hok hi9).2.2; omega
        refine w_istore_n (i := 3) (l2 := [some (.ref o), some (.int (nI ((kst i).1))), some (.int (nI i)), some (.int (nI (kwN i)))]) hX dX4_init_47 rfl (ltb rfl) rfl rfl ?_
        refine w_iload_n (i := 3) hX dX4_init_48 rfl rfl ?_
        refine w_bipush hX dX4_init_49 kB_32 ?_
        refine wn_icmp_ne (tgt := 60) hX dX4_init_51 (by decide) (by omega) (by omega) (fun c3 => ?_) (fun c3 => ?_)
        · have hlet : 97 ≤ kwN i ∧ kwN i ≤ 122 := by have := (hok hi9).2.2; omega
          have hlet2 := hlet.2
          replace hlet := hlet.1
          refine w_aload_n (i := 0) hX dX4_init_60 rfl rfl ?_
          refine w_getR (q := o + 1) hX dX4_init_61 fo_RX4_11 rfl hrd.1 hrd.2.1.1 ?_
          refine w_iload_n (i := 1) hX dX4_init_64 rfl rfl ?_
          refine w_aload_n (i := 0) hX dX4_init_65 rfl rfl ?_
          refine w_getR (q := o + 1) hX dX4_init_66 fo_RX4_11 rfl hrd.1 hrd.2.1.1 ?_
          refine w_iload_n (i := 1) hX dX4_init_69 rfl rfl ?_
          refine w_laldN hX dX4_init_70 hrd.2.1.2 (hok hi9).2.1 (by omega) ?_
          refine w_topL (y := lN ((kst i).2 (kst i).1)) (hv _ (hok hi9).2.1) ?_
          refine w_ldc2 hX dX4_init_71 kl_RX4_31 ?_
          refine w_lmul hX dX4_init_74 ?_
          refine w_iload_n (i := 3) hX dX4_init_75 rfl rfl ?_
          refine w_callSI (As := [.int (nI (kwN i))]) (rest := [.long ((lN ((kst i).2 (kst i).1)) * ((32 : Int64))), .int (nI ((kst i).1)), .ref (o + 1)]) (k2 := 0) (n2 := 0) hX dX4_init_76 (s_r_num Γ ν (kwN i) hlet) okX4_letterNumber ml_RX4_33 stX4_letterNumber rfl (leb rfl) (leb rfl) rfl rfl (fun r9 μ9 hq9 => ?_)
          obtain ⟨hr9, hm9⟩ := hq9; rw [hr9, hm9]; clear hr9 hm9 r9 μ9
          refine w_i2l hX dX4_init_79 ?_
          refine w_ladd hX dX4_init_80 ?_
          refine w_topL (y := lN ((kst (i + 1)).2 (kst i).1)) (by rw [show (32 : Int64) = lN 32 from rfl, lM_mul, nI_lN (by omega), lM_add, kst_l c3]; show _ = lN (if (kst i).1 = (kst i).1 then _ else _); rw [if_pos rfl]) ?_
          refine w_lastN hX dX4_init_81 hrd.2.1.2 (hok hi9).2.1 (by omega) ?_
          refine w_iincN (w := 1) (l2 := [some (.ref o), some (.int (nI ((kst i).1))), some (.int (nI (i + 1))), some (.int (nI (kwN i)))]) hX dX4_init_82 rfl kI_1 rfl rfl ?_
          refine w_goto (tgt := 23) hX dX4_init_85 (by decide) ?_
          have e9 := kst_l c3
          refine w_sub (l2 := [some (.ref o), some (.int (nI ((kst i).1))), some (.int (nI (i + 1))), none]) (by simp [lsub]) (leb rfl) ?_
          refine w_locs (ls2 := [some (.ref o), some (.int (nI ((kst (i + 1)).1))), some (.int (nI (i + 1))), none]) (by rw [e9]) ?_
          refine ih (by omega) _ (isRd_L hrd) hln (hO.sL (by omega)) (fun k hk => ?_)
          by_cases hke : k = (kst i).1
          · rw [hke, gL_same]
          · rw [gL_ne (fun e => hke e.2), e9]; show _ = lN (if k = (kst i).1 then _ else _); rw [if_neg hke]; exact hv k hk
        · refine w_iincN (w := 1) (l2 := [some (.ref o), some (.int (nI ((kst i).1 + 1))), some (.int (nI i)), some (.int (nI (kwN i)))]) hX dX4_init_54 rfl kI_1 rfl rfl ?_
          refine w_goto (tgt := 82) hX dX4_init_57 (by decide) ?_
          refine w_iincN (w := 1) (l2 := [some (.ref o), some (.int (nI ((kst i).1 + 1))), some (.int (nI (i + 1))), some (.int (nI (kwN i)))]) hX dX4_init_82 rfl kI_1 rfl rfl ?_
          refine w_goto (tgt := 23) hX dX4_init_85 (by decide) ?_
          have e9 := kst_s c3
          refine w_sub (l2 := [some (.ref o), some (.int (nI ((kst i).1 + 1))), some (.int (nI (i + 1))), none]) (by simp [lsub]) (leb rfl) ?_
          refine w_locs (ls2 := [some (.ref o), some (.int (nI ((kst (i + 1)).1))), some (.int (nI (i + 1))), none]) (by rw [e9]) ?_
          exact ih (by omega) ν hrd hln hO (by rw [e9]; exact hv)
  exact loop 0 (Nat.zero_le _) _ RD K2 (O2.sR (Nat.le_refl _)) (fun k _ => Z2 k)
theorem rdm {Γ : Gm} (hfr : Γ.2.2.2.2.2 = true) : RDM Γ := fun μ o h1 h2 h3 h4 => s_c_reader Γ μ hfr o h1 h2 h3 h4
