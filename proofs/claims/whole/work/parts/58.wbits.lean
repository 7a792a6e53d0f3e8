theorem lM_bv (a : Nat) : (lN a).toBitVec = BitVec.ofNat 64 a := rfl
theorem lM_and (a b : Nat) : lN a &&& lN b = lN (a &&& b) := by
  apply Int64.toBitVec_inj.1
  show BitVec.ofNat 64 a &&& BitVec.ofNat 64 b = BitVec.ofNat 64 (a &&& b)
  apply BitVec.eq_of_getLsbD_eq
  intro i hi
  simp [hi]
theorem lM_or (a b : Nat) : lN a ||| lN b = lN (a ||| b) := by
  apply Int64.toBitVec_inj.1
  show BitVec.ofNat 64 a ||| BitVec.ofNat 64 b = BitVec.ofNat 64 (a ||| b)
  apply BitVec.eq_of_getLsbD_eq
  intro i hi
  simp [hi]
theorem lM_add (a b : Nat) : lN a + lN b = lN (a + b) := by
  apply Int64.toBitVec_inj.1
  show BitVec.ofNat 64 a + BitVec.ofNat 64 b = BitVec.ofNat 64 (a + b)
  apply BitVec.eq_of_toNat_eq
  simp
theorem lM_sub {a b : Nat} (h : b ≤ a) : lN a - lN b = lN (a - b) := by
  have e : lN a = lN (a - b) + lN b := by rw [lM_add]; congr 1; omega
  rw [e, Int64.add_sub_cancel]
theorem lM_ushr {a k : Nat} (ha : a < 2 ^ 64) (hk : k < 64) : ((lN a).toUInt64 >>> ((nI k).toInt64.toUInt64 &&& Int64.toUInt64 63)).toInt64 = lN (a / 2 ^ k) := by
  have hs : ∀ k, k < 64 → ((nI k).toInt64.toUInt64 &&& Int64.toUInt64 63) = UInt64.ofNat k := by decide +kernel
  rw [hs k hk]
  apply Int64.toBitVec_inj.1
  show ((lN a).toUInt64 >>> UInt64.ofNat k).toBitVec = BitVec.ofNat 64 (a / 2 ^ k)
  apply BitVec.eq_of_toNat_eq
  have h1 : ((lN a).toUInt64 >>> UInt64.ofNat k).toBitVec.toNat = ((lN a).toUInt64 >>> UInt64.ofNat k).toNat := rfl
  rw [h1, UInt64.toNat_shiftRight]
  have h2 : (lN a).toUInt64.toNat = a := by
    show (BitVec.ofNat 64 a).toNat = a
    rw [BitVec.toNat_ofNat, Nat.mod_eq_of_lt ha]
  have h3 : (UInt64.ofNat k).toNat = k := by rw [UInt64.toNat_ofNat']; omega
  have h4 : a / 2 ^ k ≤ a := Nat.div_le_self _ _
  rw [h2, h3, Nat.mod_eq_of_lt hk, Nat.shiftRight_eq_div_pow, BitVec.toNat_ofNat, Nat.mod_eq_of_lt (by omega)]
theorem lM_shl {k : Nat} (hk : k < 64) : lN 1 <<< ((nI k).toInt64 &&& 63) = lN (2 ^ k) := by
  have h : ∀ k, k < 64 → lN 1 <<< ((nI k).toInt64 &&& 63) = lN (2 ^ k) := by decide +kernel
  exact h k hk
theorem lM_i32 (a : Nat) : (lN a).toInt32 = nI a := by
  apply Int32.toBitVec_inj.1
  show (BitVec.ofNat 64 a).signExtend 32 = BitVec.ofNat 32 a
  apply BitVec.eq_of_toNat_eq
  rw [BitVec.signExtend_eq_setWidth_of_le _ (by omega), BitVec.toNat_setWidth, BitVec.toNat_ofNat, BitVec.toNat_ofNat]
  omega
set_option maxHeartbeats 1000000 in
theorem s_bcL (Γ : Gm) (μ : Mem) (x : Nat) (hx : x < 2 ^ 64) : SpI Γ MJ13_bitCount_95d88 0 0 0 [.long (lN x)] μ (fun r μ2 => r = nI (pcn x 64) ∧ μ2 = μ) := by
  refine SpI.of okJ13_bitCount_95d88 rfl [some (.long (lN x)), none] ⟨rfl, trivial⟩ (leb rfl) (leb rfl) (fun X hX hE hnm => ?_)
  obtain ⟨z, hz1, hz2, hz3⟩ := pop64 hx
  have h1 : q1 8 x < 2 ^ 64 := Nat.lt_of_le_of_lt (Nat.sub_le _ _) hx
  have h2 : q2 8 (q1 8 x) < 2 ^ 64 := by
    have g1 : q1 8 x &&& mkN 51 8 ≤ mkN 51 8 := Nat.and_le_right
    have g2 : q1 8 x / 4 &&& mkN 51 8 ≤ mkN 51 8 := Nat.and_le_right
    have g3 : mkN 51 8 + mkN 51 8 < 2 ^ 64 := by decide +kernel
    unfold q2; omega
  refine w_lload_n (i := 0) hX dJ13_bitCount_95d88_0 rfl rfl ?_
  refine w_lload_n (i := 0) hX dJ13_bitCount_95d88_1 rfl rfl ?_
  refine w_iconst hX dJ13_bitCount_95d88_2 kI_1 ?_
  refine w_lushr hX dJ13_bitCount_95d88_3 ?_
  refine w_topL (y := lN (x / 2 ^ 1)) (lM_ushr hx (by omega)) ?_
  refine w_ldc2 hX dJ13_bitCount_95d88_4 kl_RJ13_314 ?_
  refine w_topL (y := lN (mkN 85 8)) (by decide +kernel) ?_
  refine w_land hX dJ13_bitCount_95d88_7 ?_
  refine w_topL (y := lN (x / 2 ^ 1 &&& mkN 85 8)) (lM_and _ _) ?_
  refine w_lsub hX dJ13_bitCount_95d88_8 ?_
  refine w_topL (y := lN (q1 8 x)) (lM_sub (Nat.le_trans Nat.and_le_left (Nat.div_le_self _ _))) ?_
  refine w_lstore_n (i := 0) (l2 := [some (.long (lN (q1 8 x))), none]) hX dJ13_bitCount_95d88_9 rfl (ltb rfl) rfl rfl ?_
  refine w_lload_n (i := 0) hX dJ13_bitCount_95d88_10 rfl rfl ?_
  refine w_ldc2 hX dJ13_bitCount_95d88_11 kl_RJ13_316 ?_
  refine w_topL (y := lN (mkN 51 8)) (by decide +kernel) ?_
  refine w_land hX dJ13_bitCount_95d88_14 ?_
  refine w_topL (y := lN (q1 8 x &&& mkN 51 8)) (lM_and _ _) ?_
  refine w_lload_n (i := 0) hX dJ13_bitCount_95d88_15 rfl rfl ?_
  refine w_iconst hX dJ13_bitCount_95d88_16 kI_2 ?_
  refine w_lushr hX dJ13_bitCount_95d88_17 ?_
  refine w_topL (y := lN (q1 8 x / 2 ^ 2)) (lM_ushr h1 (by omega)) ?_
  refine w_ldc2 hX dJ13_bitCount_95d88_18 kl_RJ13_316 ?_
  refine w_topL (y := lN (mkN 51 8)) (by decide +kernel) ?_
  refine w_land hX dJ13_bitCount_95d88_21 ?_
  refine w_topL (y := lN (q1 8 x / 2 ^ 2 &&& mkN 51 8)) (lM_and _ _) ?_
  refine w_ladd hX dJ13_bitCount_95d88_22 ?_
  refine w_topL (y := lN (q2 8 (q1 8 x))) (lM_add _ _) ?_
  refine w_lstore_n (i := 0) (l2 := [some (.long (lN (q2 8 (q1 8 x)))), none]) hX dJ13_bitCount_95d88_23 rfl (ltb rfl) rfl rfl ?_
  refine w_lload_n (i := 0) hX dJ13_bitCount_95d88_24 rfl rfl ?_
  refine w_lload_n (i := 0) hX dJ13_bitCount_95d88_25 rfl rfl ?_
  refine w_iconst hX dJ13_bitCount_95d88_26 kI_4 ?_
  refine w_lushr hX dJ13_bitCount_95d88_27 ?_
  refine w_topL (y := lN (q2 8 (q1 8 x) / 2 ^ 4)) (lM_ushr h2 (by omega)) ?_
  refine w_ladd hX dJ13_bitCount_95d88_28 ?_
  refine w_topL (y := lN (q2 8 (q1 8 x) + q2 8 (q1 8 x) / 2 ^ 4)) (lM_add _ _) ?_
  refine w_ldc2 hX dJ13_bitCount_95d88_29 kl_RJ13_318 ?_
  refine w_topL (y := lN (mkN 15 8)) (by decide +kernel) ?_
  refine w_land hX dJ13_bitCount_95d88_32 ?_
  refine w_topL (y := lN z) ((lM_and _ _).trans (congrArg lN hz1)) ?_
  refine w_lstore_n (i := 0) (l2 := [some (.long (lN z)), none]) hX dJ13_bitCount_95d88_33 rfl (ltb rfl) rfl rfl ?_
  refine w_lload_n (i := 0) hX dJ13_bitCount_95d88_34 rfl rfl ?_
  refine w_lload_n (i := 0) hX dJ13_bitCount_95d88_35 rfl rfl ?_
  refine w_bipush hX dJ13_bitCount_95d88_36 kB_8 ?_
  refine w_lushr hX dJ13_bitCount_95d88_38 ?_
  refine w_topL (y := lN (z / 2 ^ 8)) (lM_ushr (by omega) (by omega)) ?_
  refine w_ladd hX dJ13_bitCount_95d88_39 ?_
  refine w_topL (y := lN (z + z / 256)) (lM_add _ _) ?_
  refine w_lstore_n (i := 0) (l2 := [some (.long (lN (z + z / 256))), none]) hX dJ13_bitCount_95d88_40 rfl (ltb rfl) rfl rfl ?_
  refine w_lload_n (i := 0) hX dJ13_bitCount_95d88_41 rfl rfl ?_
  refine w_lload_n (i := 0) hX dJ13_bitCount_95d88_42 rfl rfl ?_
  refine w_bipush hX dJ13_bitCount_95d88_43 kB_16 ?_
  refine w_lushr hX dJ13_bitCount_95d88_45 ?_
  refine w_topL (y := lN ((z + z / 256) / 2 ^ 16)) (lM_ushr (by omega) (by omega)) ?_
  refine w_ladd hX dJ13_bitCount_95d88_46 ?_
  refine w_topL (y := lN (z + z / 256 + (z + z / 256) / 65536)) (lM_add _ _) ?_
  refine w_lstore_n (i := 0) (l2 := [some (.long (lN (z + z / 256 + (z + z / 256) / 65536))), none]) hX dJ13_bitCount_95d88_47 rfl (ltb rfl) rfl rfl ?_
  refine w_lload_n (i := 0) hX dJ13_bitCount_95d88_48 rfl rfl ?_
  refine w_lload_n (i := 0) hX dJ13_bitCount_95d88_49 rfl rfl ?_
  refine w_bipush hX dJ13_bitCount_95d88_50 kB_32 ?_
  refine w_lushr hX dJ13_bitCount_95d88_52 ?_
  refine w_topL (y := lN ((z + z / 256 + (z + z / 256) / 65536) / 2 ^ 32)) (lM_ushr (by omega) (by omega)) ?_
  refine w_ladd hX dJ13_bitCount_95d88_53 ?_
  refine w_topL (y := lN (z + z / 256 + (z + z / 256) / 65536 + (z + z / 256 + (z + z / 256) / 65536) / 4294967296)) (lM_add _ _) ?_
  refine w_lstore_n (i := 0) (l2 := [some (.long (lN (z + z / 256 + (z + z / 256) / 65536 + (z + z / 256 + (z + z / 256) / 65536) / 4294967296))), none]) hX dJ13_bitCount_95d88_54 rfl (ltb rfl) rfl rfl ?_
  refine w_lload_n (i := 0) hX dJ13_bitCount_95d88_55 rfl rfl ?_
  refine w_l2i hX dJ13_bitCount_95d88_56 ?_
  refine w_top (y := nI (z + z / 256 + (z + z / 256) / 65536 + (z + z / 256 + (z + z / 256) / 65536) / 4294967296)) (lM_i32 _) ?_
  refine w_bipush hX dJ13_bitCount_95d88_57 kB_127 ?_
  refine w_iand hX dJ13_bitCount_95d88_59 ?_
  refine w_top (y := nI (pcn x 64)) ((fa_mask _ 7).trans (congrArg nI hz3)) ?_
  exact w_iret hX hE dJ13_bitCount_95d88_60 (Or.inl rfl) rfl ⟨rfl, rfl⟩
def bcE (x : Nat) : Int32 := ((((((((nI x) - ((((nI x).toUInt32 >>> ((nI 1).toUInt32 &&& Int32.toUInt32 31)).toInt32) &&& (nI 1431655765))) &&& (nI 858993459)) + (((((nI x) - ((((nI x).toUInt32 >>> ((nI 1).toUInt32 &&& Int32.toUInt32 31)).toInt32) &&& (nI 1431655765))).toUInt32 >>> ((nI 2).toUInt32 &&& Int32.toUInt32 31)).toInt32) &&& (nI 858993459))) + ((((((nI x) - ((((nI x).toUInt32 >>> ((nI 1).toUInt32 &&& Int32.toUInt32 31)).toInt32) &&& (nI 1431655765))) &&& (nI 858993459)) + (((((nI x) - ((((nI x).toUInt32 >>> ((nI 1).toUInt32 &&& Int32.toUInt32 31)).toInt32) &&& (nI 1431655765))).toUInt32 >>> ((nI 2).toUInt32 &&& Int32.toUInt32 31)).toInt32) &&& (nI 858993459))).toUInt32 >>> ((nI 4).toUInt32 &&& Int32.toUInt32 31)).toInt32)) &&& (nI 252645135)) + ((((((((nI x) - ((((nI x).toUInt32 >>> ((nI 1).toUInt32 &&& Int32.toUInt32 31)).toInt32) &&& (nI 1431655765))) &&& (nI 858993459)) + (((((nI x) - ((((nI x).toUInt32 >>> ((nI 1).toUInt32 &&& Int32.toUInt32 31)).toInt32) &&& (nI 1431655765))).toUInt32 >>> ((nI 2).toUInt32 &&& Int32.toUInt32 31)).toInt32) &&& (nI 858993459))) + ((((((nI x) - ((((nI x).toUInt32 >>> ((nI 1).toUInt32 &&& Int32.toUInt32 31)).toInt32) &&& (nI 1431655765))) &&& (nI 858993459)) + (((((nI x) - ((((nI x).toUInt32 >>> ((nI 1).toUInt32 &&& Int32.toUInt32 31)).toInt32) &&& (nI 1431655765))).toUInt32 >>> ((nI 2).toUInt32 &&& Int32.toUInt32 31)).toInt32) &&& (nI 858993459))).toUInt32 >>> ((nI 4).toUInt32 &&& Int32.toUInt32 31)).toInt32)) &&& (nI 252645135)).toUInt32 >>> ((nI 8).toUInt32 &&& Int32.toUInt32 31)).toInt32)) + (((((((((nI x) - ((((nI x).toUInt32 >>> ((nI 1).toUInt32 &&& Int32.toUInt32 31)).toInt32) &&& (nI 1431655765))) &&& (nI 858993459)) + (((((nI x) - ((((nI x).toUInt32 >>> ((nI 1).toUInt32 &&& Int32.toUInt32 31)).toInt32) &&& (nI 1431655765))).toUInt32 >>> ((nI 2).toUInt32 &&& Int32.toUInt32 31)).toInt32) &&& (nI 858993459))) + ((((((nI x) - ((((nI x).toUInt32 >>> ((nI 1).toUInt32 &&& Int32.toUInt32 31)).toInt32) &&& (nI 1431655765))) &&& (nI 858993459)) + (((((nI x) - ((((nI x).toUInt32 >>> ((nI 1).toUInt32 &&& Int32.toUInt32 31)).toInt32) &&& (nI 1431655765))).toUInt32 >>> ((nI 2).toUInt32 &&& Int32.toUInt32 31)).toInt32) &&& (nI 858993459))).toUInt32 >>> ((nI 4).toUInt32 &&& Int32.toUInt32 31)).toInt32)) &&& (nI 252645135)) + ((((((((nI x) - ((((nI x).toUInt32 >>> ((nI 1).toUInt32 &&& Int32.toUInt32 31)).toInt32) &&& (nI 1431655765))) &&& (nI 858993459)) + (((((nI x) - ((((nI x).toUInt32 >>> ((nI 1).toUInt32 &&& Int32.toUInt32 31)).toInt32) &&& (nI 1431655765))).toUInt32 >>> ((nI 2).toUInt32 &&& Int32.toUInt32 31)).toInt32) &&& (nI 858993459))) + ((((((nI x) - ((((nI x).toUInt32 >>> ((nI 1).toUInt32 &&& Int32.toUInt32 31)).toInt32) &&& (nI 1431655765))) &&& (nI 858993459)) + (((((nI x) - ((((nI x).toUInt32 >>> ((nI 1).toUInt32 &&& Int32.toUInt32 31)).toInt32) &&& (nI 1431655765))).toUInt32 >>> ((nI 2).toUInt32 &&& Int32.toUInt32 31)).toInt32) &&& (nI 858993459))).toUInt32 >>> ((nI 4).toUInt32 &&& Int32.toUInt32 31)).toInt32)) &&& (nI 252645135)).toUInt32 >>> ((nI 8).toUInt32 &&& Int32.toUInt32 31)).toInt32)).toUInt32 >>> ((nI 16).toUInt32 &&& Int32.toUInt32 31)).toInt32)) &&& (nI 63)
theorem bc12a : ∀ a, a < 64 → ∀ b, b < 64 → bcE (64 * a + b) = nI (pcn (64 * a + b) 12) := by decide +kernel
theorem bc12 (x : Nat) (hx : x < 4096) : ((((((((nI x) - ((((nI x).toUInt32 >>> ((nI 1).toUInt32 &&& Int32.toUInt32 31)).toInt32) &&& (nI 1431655765))) &&& (nI 858993459)) + (((((nI x) - ((((nI x).toUInt32 >>> ((nI 1).toUInt32 &&& Int32.toUInt32 31)).toInt32) &&& (nI 1431655765))).toUInt32 >>> ((nI 2).toUInt32 &&& Int32.toUInt32 31)).toInt32) &&& (nI 858993459))) + ((((((nI x) - ((((nI x).toUInt32 >>> ((nI 1).toUInt32 &&& Int32.toUInt32 31)).toInt32) &&& (nI 1431655765))) &&& (nI 858993459)) + (((((nI x) - ((((nI x).toUInt32 >>> ((nI 1).toUInt32 &&& Int32.toUInt32 31)).toInt32) &&& (nI 1431655765))).toUInt32 >>> ((nI 2).toUInt32 &&& Int32.toUInt32 31)).toInt32) &&& (nI 858993459))).toUInt32 >>> ((nI 4).toUInt32 &&& Int32.toUInt32 31)).toInt32)) &&& (nI 252645135)) + ((((((((nI x) - ((((nI x).toUInt32 >>> ((nI 1).toUInt32 &&& Int32.toUInt32 31)).toInt32) &&& (nI 1431655765))) &&& (nI 858993459)) + (((((nI x) - ((((nI x).toUInt32 >>> ((nI 1).toUInt32 &&& Int32.toUInt32 31)).toInt32) &&& (nI 1431655765))).toUInt32 >>> ((nI 2).toUInt32 &&& Int32.toUInt32 31)).toInt32) &&& (nI 858993459))) + ((((((nI x) - ((((nI x).toUInt32 >>> ((nI 1).toUInt32 &&& Int32.toUInt32 31)).toInt32) &&& (nI 1431655765))) &&& (nI 858993459)) + (((((nI x) - ((((nI x).toUInt32 >>> ((nI 1).toUInt32 &&& Int32.toUInt32 31)).toInt32) &&& (nI 1431655765))).toUInt32 >>> ((nI 2).toUInt32 &&& Int32.toUInt32 31)).toInt32) &&& (nI 858993459))).toUInt32 >>> ((nI 4).toUInt32 &&& Int32.toUInt32 31)).toInt32)) &&& (nI 252645135)).toUInt32 >>> ((nI 8).toUInt32 &&& Int32.toUInt32 31)).toInt32)) + (((((((((nI x) - ((((nI x).toUInt32 >>> ((nI 1).toUInt32 &&& Int32.toUInt32 31)).toInt32) &&& (nI 1431655765))) &&& (nI 858993459)) + (((((nI x) - ((((nI x).toUInt32 >>> ((nI 1).toUInt32 &&& Int32.toUInt32 31)).toInt32) &&& (nI 1431655765))).toUInt32 >>> ((nI 2).toUInt32 &&& Int32.toUInt32 31)).toInt32) &&& (nI 858993459))) + ((((((nI x) - ((((nI x).toUInt32 >>> ((nI 1).toUInt32 &&& Int32.toUInt32 31)).toInt32) &&& (nI 1431655765))) &&& (nI 858993459)) + (((((nI x) - ((((nI x).toUInt32 >>> ((nI 1).toUInt32 &&& Int32.toUInt32 31)).toInt32) &&& (nI 1431655765))).toUInt32 >>> ((nI 2).toUInt32 &&& Int32.toUInt32 31)).toInt32) &&& (nI 858993459))).toUInt32 >>> ((nI 4).toUInt32 &&& Int32.toUInt32 31)).toInt32)) &&& (nI 252645135)) + ((((((((nI x) - ((((nI x).toUInt32 >>> ((nI 1).toUInt32 &&& Int32.toUInt32 31)).toInt32) &&& (nI 1431655765))) &&& (nI 858993459)) + (((((nI x) - ((((nI x).toUInt32 >>> ((nI 1).toUInt32 &&& Int32.toUInt32 31)).toInt32) &&& (nI 1431655765))).toUInt32 >>> ((nI 2).toUInt32 &&& Int32.toUInt32 31)).toInt32) &&& (nI 858993459))) + ((((((nI x) - ((((nI x).toUInt32 >>> ((nI 1).toUInt32 &&& Int32.toUInt32 31)).toInt32) &&& (nI 1431655765))) &&& (nI 858993459)) + (((((nI x) - ((((nI x).toUInt32 >>> ((nI 1).toUInt32 &&& Int32.toUInt32 31)).toInt32) &&& (nI 1431655765))).toUInt32 >>> ((nI 2).toUInt32 &&& Int32.toUInt32 31)).toInt32) &&& (nI 858993459))).toUInt32 >>> ((nI 4).toUInt32 &&& Int32.toUInt32 31)).toInt32)) &&& (nI 252645135)).toUInt32 >>> ((nI 8).toUInt32 &&& Int32.toUInt32 31)).toInt32)).toUInt32 >>> ((nI 16).toUInt32 &&& Int32.toUInt32 31)).toInt32)) &&& (nI 63) = nI (pcn x 12) := by
  have h := bc12a (x / 64) (by omega) (x % 64) (by omega)
  rw [show 64 * (x / 64) + x % 64 = x by omega] at h
  exact h
set_option maxHeartbeats 1000000 in
theorem s_bcI (Γ : Gm) (μ : Mem) (x : Nat) (hx : x < 4096) : SpI Γ MJ6_bitCount_0f7a4 0 0 0 [.int (nI x)] μ (fun r μ2 => r = nI (pcn x 12) ∧ μ2 = μ) := by
  refine SpI.of okJ6_bitCount_0f7a4 rfl [some (.int (nI x))] ⟨rfl, trivial⟩ (leb rfl) (leb rfl) (fun X hX hE hnm => ?_)
  refine w_iload_n (i := 0) hX dJ6_bitCount_0f7a4_0 rfl rfl ?_
  refine w_iload_n (i := 0) hX dJ6_bitCount_0f7a4_1 rfl rfl ?_
  refine w_iconst hX dJ6_bitCount_0f7a4_2 kI_1 ?_
  refine w_iushr hX dJ6_bitCount_0f7a4_3 ?_
  refine w_ldcw hX dJ6_bitCount_0f7a4_4 ki_RJ6_265 ?_
  refine w_top (y := nI 1431655765) rfl ?_
  refine w_iand hX dJ6_bitCount_0f7a4_7 ?_
  refine w_isub hX dJ6_bitCount_0f7a4_8 ?_
  refine w_istore_n (i := 0) (l2 := [some (.int ((nI x) - ((((nI x).toUInt32 >>> ((nI 1).toUInt32 &&& Int32.toUInt32 31)).toInt32) &&& (nI 1431655765))))]) hX dJ6_bitCount_0f7a4_9 rfl (ltb rfl) rfl rfl ?_
  refine w_iload_n (i := 0) hX dJ6_bitCount_0f7a4_10 rfl rfl ?_
  refine w_ldcw hX dJ6_bitCount_0f7a4_11 ki_RJ6_266 ?_
  refine w_top (y := nI 858993459) rfl ?_
  refine w_iand hX dJ6_bitCount_0f7a4_14 ?_
  refine w_iload_n (i := 0) hX dJ6_bitCount_0f7a4_15 rfl rfl ?_
  refine w_iconst hX dJ6_bitCount_0f7a4_16 kI_2 ?_
  refine w_iushr hX dJ6_bitCount_0f7a4_17 ?_
  refine w_ldcw hX dJ6_bitCount_0f7a4_18 ki_RJ6_266 ?_
  refine w_top (y := nI 858993459) rfl ?_
  refine w_iand hX dJ6_bitCount_0f7a4_21 ?_
  refine w_iadd hX dJ6_bitCount_0f7a4_22 ?_
  refine w_istore_n (i := 0) (l2 := [some (.int ((((nI x) - ((((nI x).toUInt32 >>> ((nI 1).toUInt32 &&& Int32.toUInt32 31)).toInt32) &&& (nI 1431655765))) &&& (nI 858993459)) + (((((nI x) - ((((nI x).toUInt32 >>> ((nI 1).toUInt32 &&& Int32.toUInt32 31)).toInt32) &&& (nI 1431655765))).toUInt32 >>> ((nI 2).toUInt32 &&& Int32.toUInt32 31)).toInt32) &&& (nI 858993459))))]) hX dJ6_bitCount_0f7a4_23 rfl (ltb rfl) rfl rfl ?_
  refine w_iload_n (i := 0) hX dJ6_bitCount_0f7a4_24 rfl rfl ?_
  refine w_iload_n (i := 0) hX dJ6_bitCount_0f7a4_25 rfl rfl ?_
  refine w_iconst hX dJ6_bitCount_0f7a4_26 kI_4 ?_
  refine w_iushr hX dJ6_bitCount_0f7a4_27 ?_
  refine w_iadd hX dJ6_bitCount_0f7a4_28 ?_
  refine w_ldcw hX dJ6_bitCount_0f7a4_29 ki_RJ6_267 ?_
  refine w_top (y := nI 252645135) rfl ?_
  refine w_iand hX dJ6_bitCount_0f7a4_32 ?_
  refine w_istore_n (i := 0) (l2 := [some (.int ((((((nI x) - ((((nI x).toUInt32 >>> ((nI 1).toUInt32 &&& Int32.toUInt32 31)).toInt32) &&& (nI 1431655765))) &&& (nI 858993459)) + (((((nI x) - ((((nI x).toUInt32 >>> ((nI 1).toUInt32 &&& Int32.toUInt32 31)).toInt32) &&& (nI 1431655765))).toUInt32 >>> ((nI 2).toUInt32 &&& Int32.toUInt32 31)).toInt32) &&& (nI 858993459))) + ((((((nI x) - ((((nI x).toUInt32 >>> ((nI 1).toUInt32 &&& Int32.toUInt32 31)).toInt32) &&& (nI 1431655765))) &&& (nI 858993459)) + (((((nI x) - ((((nI x).toUInt32 >>> ((nI 1).toUInt32 &&& Int32.toUInt32 31)).toInt32) &&& (nI 1431655765))).toUInt32 >>> ((nI 2).toUInt32 &&& Int32.toUInt32 31)).toInt32) &&& (nI 858993459))).toUInt32 >>> ((nI 4).toUInt32 &&& Int32.toUInt32 31)).toInt32)) &&& (nI 252645135)))]) hX dJ6_bitCount_0f7a4_33 rfl (ltb rfl) rfl rfl ?_
  refine w_iload_n (i := 0) hX dJ6_bitCount_0f7a4_34 rfl rfl ?_
  refine w_iload_n (i := 0) hX dJ6_bitCount_0f7a4_35 rfl rfl ?_
  refine w_bipush hX dJ6_bitCount_0f7a4_36 kB_8 ?_
  refine w_iushr hX dJ6_bitCount_0f7a4_38 ?_
  refine w_iadd hX dJ6_bitCount_0f7a4_39 ?_
  refine w_istore_n (i := 0) (l2 := [some (.int (((((((nI x) - ((((nI x).toUInt32 >>> ((nI 1).toUInt32 &&& Int32.toUInt32 31)).toInt32) &&& (nI 1431655765))) &&& (nI 858993459)) + (((((nI x) - ((((nI x).toUInt32 >>> ((nI 1).toUInt32 &&& Int32.toUInt32 31)).toInt32) &&& (nI 1431655765))).toUInt32 >>> ((nI 2).toUInt32 &&& Int32.toUInt32 31)).toInt32) &&& (nI 858993459))) + ((((((nI x) - ((((nI x).toUInt32 >>> ((nI 1).toUInt32 &&& Int32.toUInt32 31)).toInt32) &&& (nI 1431655765))) &&& (nI 858993459)) + (((((nI x) - ((((nI x).toUInt32 >>> ((nI 1).toUInt32 &&& Int32.toUInt32 31)).toInt32) &&& (nI 1431655765))).toUInt32 >>> ((nI 2).toUInt32 &&& Int32.toUInt32 31)).toInt32) &&& (nI 858993459))).toUInt32 >>> ((nI 4).toUInt32 &&& Int32.toUInt32 31)).toInt32)) &&& (nI 252645135)) + ((((((((nI x) - ((((nI x).toUInt32 >>> ((nI 1).toUInt32 &&& Int32.toUInt32 31)).toInt32) &&& (nI 1431655765))) &&& (nI 858993459)) + (((((nI x) - ((((nI x).toUInt32 >>> ((nI 1).toUInt32 &&& Int32.toUInt32 31)).toInt32) &&& (nI 1431655765))).toUInt32 >>> ((nI 2).toUInt32 &&& Int32.toUInt32 31)).toInt32) &&& (nI 858993459))) + ((((((nI x) - ((((nI x).toUInt32 >>> ((nI 1).toUInt32 &&& Int32.toUInt32 31)).toInt32) &&& (nI 1431655765))) &&& (nI 858993459)) + (((((nI x) - ((((nI x).toUInt32 >>> ((nI 1).toUInt32 &&& Int32.toUInt32 31)).toInt32) &&& (nI 1431655765))).toUInt32 >>> ((nI 2).toUInt32 &&& Int32.toUInt32 31)).toInt32) &&& (nI 858993459))).toUInt32 >>> ((nI 4).toUInt32 &&& Int32.toUInt32 31)).toInt32)) &&& (nI 252645135)).toUInt32 >>> ((nI 8).toUInt32 &&& Int32.toUInt32 31)).toInt32)))]) hX dJ6_bitCount_0f7a4_40 rfl (ltb rfl) rfl rfl ?_
  refine w_iload_n (i := 0) hX dJ6_bitCount_0f7a4_41 rfl rfl ?_
  refine w_iload_n (i := 0) hX dJ6_bitCount_0f7a4_42 rfl rfl ?_
  refine w_bipush hX dJ6_bitCount_0f7a4_43 kB_16 ?_
  refine w_iushr hX dJ6_bitCount_0f7a4_45 ?_
  refine w_iadd hX dJ6_bitCount_0f7a4_46 ?_
  refine w_istore_n (i := 0) (l2 := [some (.int ((((((((nI x) - ((((nI x).toUInt32 >>> ((nI 1).toUInt32 &&& Int32.toUInt32 31)).toInt32) &&& (nI 1431655765))) &&& (nI 858993459)) + (((((nI x) - ((((nI x).toUInt32 >>> ((nI 1).toUInt32 &&& Int32.toUInt32 31)).toInt32) &&& (nI 1431655765))).toUInt32 >>> ((nI 2).toUInt32 &&& Int32.toUInt32 31)).toInt32) &&& (nI 858993459))) + ((((((nI x) - ((((nI x).toUInt32 >>> ((nI 1).toUInt32 &&& Int32.toUInt32 31)).toInt32) &&& (nI 1431655765))) &&& (nI 858993459)) + (((((nI x) - ((((nI x).toUInt32 >>> ((nI 1).toUInt32 &&& Int32.toUInt32 31)).toInt32) &&& (nI 1431655765))).toUInt32 >>> ((nI 2).toUInt32 &&& Int32.toUInt32 31)).toInt32) &&& (nI 858993459))).toUInt32 >>> ((nI 4).toUInt32 &&& Int32.toUInt32 31)).toInt32)) &&& (nI 252645135)) + ((((((((nI x) - ((((nI x).toUInt32 >>> ((nI 1).toUInt32 &&& Int32.toUInt32 31)).toInt32) &&& (nI 1431655765))) &&& (nI 858993459)) + (((((nI x) - ((((nI x).toUInt32 >>> ((nI 1).toUInt32 &&& Int32.toUInt32 31)).toInt32) &&& (nI 1431655765))).toUInt32 >>> ((nI 2).toUInt32 &&& Int32.toUInt32 31)).toInt32) &&& (nI 858993459))) + ((((((nI x) - ((((nI x).toUInt32 >>> ((nI 1).toUInt32 &&& Int32.toUInt32 31)).toInt32) &&& (nI 1431655765))) &&& (nI 858993459)) + (((((nI x) - ((((nI x).toUInt32 >>> ((nI 1).toUInt32 &&& Int32.toUInt32 31)).toInt32) &&& (nI 1431655765))).toUInt32 >>> ((nI 2).toUInt32 &&& Int32.toUInt32 31)).toInt32) &&& (nI 858993459))).toUInt32 >>> ((nI 4).toUInt32 &&& Int32.toUInt32 31)).toInt32)) &&& (nI 252645135)).toUInt32 >>> ((nI 8).toUInt32 &&& Int32.toUInt32 31)).toInt32)) + (((((((((nI x) - ((((nI x).toUInt32 >>> ((nI 1).toUInt32 &&& Int32.toUInt32 31)).toInt32) &&& (nI 1431655765))) &&& (nI 858993459)) + (((((nI x) - ((((nI x).toUInt32 >>> ((nI 1).toUInt32 &&& Int32.toUInt32 31)).toInt32) &&& (nI 1431655765))).toUInt32 >>> ((nI 2).toUInt32 &&& Int32.toUInt32 31)).toInt32) &&& (nI 858993459))) + ((((((nI x) - ((((nI x).toUInt32 >>> ((nI 1).toUInt32 &&& Int32.toUInt32 31)).toInt32) &&& (nI 1431655765))) &&& (nI 858993459)) + (((((nI x) - ((((nI x).toUInt32 >>> ((nI 1).toUInt32 &&& Int32.toUInt32 31)).toInt32) &&& (nI 1431655765))).toUInt32 >>> ((nI 2).toUInt32 &&& Int32.toUInt32 31)).toInt32) &&& (nI 858993459))).toUInt32 >>> ((nI 4).toUInt32 &&& Int32.toUInt32 31)).toInt32)) &&& (nI 252645135)) + ((((((((nI x) - ((((nI x).toUInt32 >>> ((nI 1).toUInt32 &&& Int32.toUInt32 31)).toInt32) &&& (nI 1431655765))) &&& (nI 858993459)) + (((((nI x) - ((((nI x).toUInt32 >>> ((nI 1).toUInt32 &&& Int32.toUInt32 31)).toInt32) &&& (nI 1431655765))).toUInt32 >>> ((nI 2).toUInt32 &&& Int32.toUInt32 31)).toInt32) &&& (nI 858993459))) + ((((((nI x) - ((((nI x).toUInt32 >>> ((nI 1).toUInt32 &&& Int32.toUInt32 31)).toInt32) &&& (nI 1431655765))) &&& (nI 858993459)) + (((((nI x) - ((((nI x).toUInt32 >>> ((nI 1).toUInt32 &&& Int32.toUInt32 31)).toInt32) &&& (nI 1431655765))).toUInt32 >>> ((nI 2).toUInt32 &&& Int32.toUInt32 31)).toInt32) &&& (nI 858993459))).toUInt32 >>> ((nI 4).toUInt32 &&& Int32.toUInt32 31)).toInt32)) &&& (nI 252645135)).toUInt32 >>> ((nI 8).toUInt32 &&& Int32.toUInt32 31)).toInt32)).toUInt32 >>> ((nI 16).toUInt32 &&& Int32.toUInt32 31)).toInt32)))]) hX dJ6_bitCount_0f7a4_47 rfl (ltb rfl) rfl rfl ?_
  refine w_iload_n (i := 0) hX dJ6_bitCount_0f7a4_48 rfl rfl ?_
  refine w_bipush hX dJ6_bitCount_0f7a4_49 kB_63 ?_
  refine w_iand hX dJ6_bitCount_0f7a4_51 ?_
  refine w_top (y := ((((((((nI x) - ((((nI x).toUInt32 >>> ((nI 1).toUInt32 &&& Int32.toUInt32 31)).toInt32) &&& (nI 1431655765))) &&& (nI 858993459)) + (((((nI x) - ((((nI x).toUInt32 >>> ((nI 1).toUInt32 &&& Int32.toUInt32 31)).toInt32) &&& (nI 1431655765))).toUInt32 >>> ((nI 2).toUInt32 &&& Int32.toUInt32 31)).toInt32) &&& (nI 858993459))) + ((((((nI x) - ((((nI x).toUInt32 >>> ((nI 1).toUInt32 &&& Int32.toUInt32 31)).toInt32) &&& (nI 1431655765))) &&& (nI 858993459)) + (((((nI x) - ((((nI x).toUInt32 >>> ((nI 1).toUInt32 &&& Int32.toUInt32 31)).toInt32) &&& (nI 1431655765))).toUInt32 >>> ((nI 2).toUInt32 &&& Int32.toUInt32 31)).toInt32) &&& (nI 858993459))).toUInt32 >>> ((nI 4).toUInt32 &&& Int32.toUInt32 31)).toInt32)) &&& (nI 252645135)) + ((((((((nI x) - ((((nI x).toUInt32 >>> ((nI 1).toUInt32 &&& Int32.toUInt32 31)).toInt32) &&& (nI 1431655765))) &&& (nI 858993459)) + (((((nI x) - ((((nI x).toUInt32 >>> ((nI 1).toUInt32 &&& Int32.toUInt32 31)).toInt32) &&& (nI 1431655765))).toUInt32 >>> ((nI 2).toUInt32 &&& Int32.toUInt32 31)).toInt32) &&& (nI 858993459))) + ((((((nI x) - ((((nI x).toUInt32 >>> ((nI 1).toUInt32 &&& Int32.toUInt32 31)).toInt32) &&& (nI 1431655765))) &&& (nI 858993459)) + (((((nI x) - ((((nI x).toUInt32 >>> ((nI 1).toUInt32 &&& Int32.toUInt32 31)).toInt32) &&& (nI 1431655765))).toUInt32 >>> ((nI 2).toUInt32 &&& Int32.toUInt32 31)).toInt32) &&& (nI 858993459))).toUInt32 >>> ((nI 4).toUInt32 &&& Int32.toUInt32 31)).toInt32)) &&& (nI 252645135)).toUInt32 >>> ((nI 8).toUInt32 &&& Int32.toUInt32 31)).toInt32)) + (((((((((nI x) - ((((nI x).toUInt32 >>> ((nI 1).toUInt32 &&& Int32.toUInt32 31)).toInt32) &&& (nI 1431655765))) &&& (nI 858993459)) + (((((nI x) - ((((nI x).toUInt32 >>> ((nI 1).toUInt32 &&& Int32.toUInt32 31)).toInt32) &&& (nI 1431655765))).toUInt32 >>> ((nI 2).toUInt32 &&& Int32.toUInt32 31)).toInt32) &&& (nI 858993459))) + ((((((nI x) - ((((nI x).toUInt32 >>> ((nI 1).toUInt32 &&& Int32.toUInt32 31)).toInt32) &&& (nI 1431655765))) &&& (nI 858993459)) + (((((nI x) - ((((nI x).toUInt32 >>> ((nI 1).toUInt32 &&& Int32.toUInt32 31)).toInt32) &&& (nI 1431655765))).toUInt32 >>> ((nI 2).toUInt32 &&& Int32.toUInt32 31)).toInt32) &&& (nI 858993459))).toUInt32 >>> ((nI 4).toUInt32 &&& Int32.toUInt32 31)).toInt32)) &&& (nI 252645135)) + ((((((((nI x) - ((((nI x).toUInt32 >>> ((nI 1).toUInt32 &&& Int32.toUInt32 31)).toInt32) &&& (nI 1431655765))) &&& (nI 858993459)) + (((((nI x) - ((((nI x).toUInt32 >>> ((nI 1).toUInt32 &&& Int32.toUInt32 31)).toInt32) &&& (nI 1431655765))).toUInt32 >>> ((nI 2).toUInt32 &&& Int32.toUInt32 31)).toInt32) &&& (nI 858993459))) + ((((((nI x) - ((((nI x).toUInt32 >>> ((nI 1).toUInt32 &&& Int32.toUInt32 31)).toInt32) &&& (nI 1431655765))) &&& (nI 858993459)) + (((((nI x) - ((((nI x).toUInt32 >>> ((nI 1).toUInt32 &&& Int32.toUInt32 31)).toInt32) &&& (nI 1431655765))).toUInt32 >>> ((nI 2).toUInt32 &&& Int32.toUInt32 31)).toInt32) &&& (nI 858993459))).toUInt32 >>> ((nI 4).toUInt32 &&& Int32.toUInt32 31)).toInt32)) &&& (nI 252645135)).toUInt32 >>> ((nI 8).toUInt32 &&& Int32.toUInt32 31)).toInt32)).toUInt32 >>> ((nI 16).toUInt32 &&& Int32.toUInt32 31)).toInt32)) &&& (nI 63)) rfl ?_
  exact w_iret hX hE dJ6_bitCount_0f7a4_52 (Or.inl rfl) rfl ⟨bc12 x hx, rfl⟩
set_option maxHeartbeats 1000000 in
theorem s_fillL (Γ : Gm) (μ : Mem) (a len : Nat) (v : Int64) (hsh : μ.1[a]? = some (.inr (1, len))) (hlen : len < 2 ^ 30) : SpV Γ MJ7_fill_d0a16 0 0 0 [.ref a, .long v] μ (fun μ2 => same (fun o _ => o = a) μ μ2 ∧ ∀ j, j < len → gL μ2 a j = v) := by
  refine SpV.of okJ7_fill_d0a16 rfl [some (.ref a), some (.long v), none, none, none] ⟨rfl, rfl, trivial⟩ (leb rfl) (leb rfl) (fun X hX hE hnm => ?_)
  refine w_iconst hX dJ7_fill_d0a16_0 kI_0 ?_
  refine w_istore_n (i := 3) (l2 := [some (.ref a), some (.long v), none, some (.int (nI 0)), none]) hX dJ7_fill_d0a16_1 rfl (ltb rfl) rfl rfl ?_
  refine w_aload_n (i := 0) hX dJ7_fill_d0a16_2 rfl rfl ?_
  refine w_alen (len := len) hX (ltb rfl) dJ7_fill_d0a16_3 hsh ?_
  refine w_istore (l2 := [some (.ref a), some (.long v), none, some (.int (nI 0)), some (.int (nI len))]) hX dJ7_fill_d0a16_4 (ltb rfl) rfl rfl ?_
  have loop : ∀ k, k ≤ len → ∀ ν : Mem, (same (fun o _ => o = a) μ ν) → (∀ j, j < k → gL ν a j = v) → WP Γ X 0 0 6 [some (.ref a), some (.long v), none, some (.int (nI k)), some (.int (nI len))] [] ν := by
    refine loopU (len) ?_
    intro k hk ih ν hsm hcp
    have hsh : ν.1[a]? = some (.inr (1, len)) := by rw [hsm.1]; exact hsh
    refine w_iload_n (i := 3) hX dJ7_fill_d0a16_6 rfl rfl ?_
    refine w_iload hX dJ7_fill_d0a16_7 rfl ?_
    refine wn_icmp_ge (tgt := 22) hX dJ7_fill_d0a16_9 (by decide) (by omega) (by omega) (fun c1 => ?_) (fun c1 => ?_)
    · exact w_vret hX hE dJ7_fill_d0a16_22 (Or.inl rfl) ⟨hsm, fun j hj => hcp j (by omega)⟩
    · refine w_aload_n (i := 0) hX dJ7_fill_d0a16_12 rfl rfl ?_
      refine w_iload_n (i := 3) hX dJ7_fill_d0a16_13 rfl rfl ?_
      refine w_lload_n (i := 1) hX dJ7_fill_d0a16_14 rfl rfl ?_
      refine w_lastN hX dJ7_fill_d0a16_15 hsh (by omega) (by omega) ?_
      refine w_iincN (w := 1) (l2 := [some (.ref a), some (.long v), none, some (.int (nI (k + 1))), some (.int (nI len))]) hX dJ7_fill_d0a16_16 rfl kI_1 rfl rfl ?_
      refine w_goto (tgt := 6) hX dJ7_fill_d0a16_19 (by decide) ?_
      refine ih (by omega) _ (hsm.sL rfl) (fun j hj => ?_)
      by_cases hjk : j = k
      · rw [hjk, gL_same]
      · rw [gL_ne (fun e => hjk e.2)]; exact hcp j (by omega)
  exact loop 0 (Nat.zero_le _) μ same.rf (fun j hj => by omega)
