theorem okT_e {s : Tp} : okT (s.1, 0) := ⟨Nat.zero_le _, fun j hj => absurd hj (Nat.not_lt_zero _)⟩
/-- what the class's book leaves, good or faulty -/
theorem LI.bookx {μ μ2 : Mem} {b c k9 : Nat} {B : Nat → Nat} {s : Tp} {r : Int32} (h : LI μ b c B s k9) (hq : CBP μ μ2 b c s r) : YI μ2 57 B s k9 ∧ μ2.1 = μ.1 := by
  obtain ⟨ν, hs, hq⟩ := hq
  have y1 : YI (rdM μ 3 1 c) 57 B s k9 := YI_R (YI_R h.2.1 (by omega)) (by omega)
  have hc : 25 ≤ c ∧ c ≤ 41 := by have := h.1.2.1; omega
  have y2 : YI ν 57 B s k9 := y1.sm hs (fun o k h9 => by unfold SRB at h9; omega)
  have y3 : YI (sI ν 1 1 (nI 0)) 57 B s k9 := y2.sm (S := fun o k => o = 1 ∧ k = 1) (same.rf.sI ⟨rfl, rfl⟩) (fun o k h9 => by omega)
  cases hp : pRead s with
  | inl f => rw [hp] at hq; rw [hq.2.2.2]; exact ⟨y3, hs.1⟩
  | inr st =>
    rw [hp] at hq; rw [hq.2.2]
    generalize hM : sI ν 1 1 (nI 0) = M at *
    have y4 : YI (sR (sR M 0 6 (some c)) 0 7 (some b)) 57 B s k9 := YI_R (YI_R y3 (by omega)) (by omega)
    have hs2 : same (fun o k => (o = 0 ∧ k = 8) ∨ (o = 6 ∧ k = 5) ∨ (o = 12 ∧ k = 9) ∨ (o = 20 ∧ k = 6)) (sR (sR M 0 6 (some c)) 0 7 (some b)) (spM M b c) := (((same.rf.sI (Or.inl ⟨rfl, rfl⟩)).sI (Or.inr (Or.inl ⟨rfl, rfl⟩))).sI (Or.inr (Or.inr (Or.inl ⟨rfl, rfl⟩)))).sI (Or.inr (Or.inr (Or.inr ⟨rfl, rfl⟩)))
    exact ⟨y4.sm hs2 (fun o k h9 => by omega), by rw [hs2.1, ← hM]; exact hs.1⟩
theorem LI.bookl {μ μ2 : Mem} {b c k9 f : Nat} {B : Nat → Nat} {s : Tp} {r : Int32} (h : LI μ b c B s k9) (hp : pRead s = .inl f) (hq : CBP μ μ2 b c s r) : r = nI f ∧ XI μ2 b c B (s.1, 0) k9 := by
  obtain ⟨ν, hs, hq⟩ := hq
  rw [hp] at hq; rw [hq.2.2.2]; exact ⟨hq.1, h.1.book_l hs⟩
theorem LI.bookr {μ μ2 : Mem} {b c k9 : Nat} {st : PSt} {B : Nat → Nat} {s : Tp} {r : Int32} (h : LI μ b c B s k9) (hp : pRead s = .inr st) (hq : CBP μ μ2 b c s r) : r = nI 0 ∧ XI μ2 c b st.2.1 (s.1, 0) 0 := by
  obtain ⟨ν, hs, hq⟩ := hq
  rw [hp] at hq; rw [hq.2.2]; exact ⟨hq.1, h.1.book_r hs hq.2.1⟩
theorem BKP.l {μ μ2 : Mem} {m f : Nat} {s : Tp} {r : Int32} (hq : BKP μ μ2 m s r) (hp : pRead s = .inl f) : r = nI f ∧ same (SBA m) μ μ2 ∧ gI μ2 m 2 = nI 0 := by
  unfold BKP at hq; rw [hp] at hq; exact ⟨hq.1, hq.2.2.2⟩
theorem BKP.r {μ μ2 : Mem} {m : Nat} {st : PSt} {s : Tp} {r : Int32} (hq : BKP μ μ2 m s r) (hp : pRead s = .inr st) : r = nI 0 ∧ same (SBB m) μ μ2 ∧ gI μ2 m 2 = nI 0 ∧ (∀ j, j < 480 → gI μ2 (m + 6) j = nI (st.2.1 j)) ∧ ∀ j, j < 4 → gI μ2 (m + 22) j = nI 0 := by
  unfold BKP at hq; rw [hp] at hq; exact hq
set_option maxHeartbeats 1000000 in
theorem l_book {Γ : Gm} {X : Cx} {k n i L : Nat} {xs : Nat → Int32} (hX : GX Γ X RL cL_law 280) (hC : SCR Γ X L xs) (hi : i + 8 ≤ L) (hL : L < 2 ^ 30) (ν : Mem) (b c : Nat) (B : Nat → Nat) (s : Tp) (k9 : Nat) (h : LI ν b c B s k9) (kk : ∀ ν2, LIx ν2 → WP Γ X k n 1551 [some (.ref scr), some (.ref 0), some (.ref 57), some (.ref 80), some (.int (nI i)), none, none] [] ν2) : WP Γ X k n 315 [some (.ref scr), some (.ref 0), some (.ref 57), some (.ref 80), some (.int (nI i)), none, none] [] ν := by
  have hb25 : 25 ≤ c := by have := h.1.2.1; omega
  rcases hp : pRead s with f | st
  · refine w_aload_n (i := 1) hX dL_law_315 rfl rfl ?_
    refine w_callVI (As := []) (rest := []) (ci := 8) (o := 0) (k2 := k) (n2 := n) hX dL_law_316 (s_x_book Γ ν b c h.1.1 s h.1.2.2.2.2.2.1 h.1.2.2.2.2.2.2.1 h.1.2.2.2.2.1 h.2.2.2.1 h.1.2.2.2.1 hb25 h.1.2.2.2.2.2.2.2.2.1.1.1 h.1.2.2.2.2.2.2.2.2.2.1.1.1 h.1.2.2.2.2.2.2.2.2.2.2.1.1.1) okX8_book (ltb rfl) h.1.1.1 ml_RL_41 imX8_book seX8_book rfl (leb rfl) (leb rfl) (Nat.zero_add _) (Nat.zero_add _) (fun r9 ν1 hq9 => ?_)
    have y := h.bookx hq9
    obtain ⟨hr9, hq9⟩ := h.bookl hp hq9; rw [hr9]
    have g : XI ν1 b c B (s.1, 0) k9 ∧ YI ν1 57 B s k9 ∧ ν1.1 = ν.1 := ⟨hq9, y.1, y.2⟩
    refine w_aload_n (i := 2) hX dL_law_319 rfl rfl ?_
    refine w_callVI (As := []) (rest := [.int (nI f)]) (ci := 9) (o := 57) (k2 := k) (n2 := n) hX dL_law_320 (s_m_book Γ ν1 57 s g.2.1.2.1 h.2.2.2.1 g.2.1.2.2.1) okX9_book (ltb rfl) (mod_s g.2.1.1.1.1) ml_RL_45 imX9_book seX9_book rfl (leb rfl) (leb rfl) (Nat.zero_add _) (Nat.zero_add _) (fun r9 ν2 hq9 => ?_)
    obtain ⟨hr9, hs, h2⟩ := BKP.l hq9 hp; rw [hr9]
    have l2 : LI ν2 b c B (s.1, 0) k9 := ⟨g.1.sm hs (fun o k h9 => by unfold SBA at h9; omega), g.2.1.book_l hs h2, h.2.2.1, okT_e, by rw [hs.1, g.2.2]; exact h.2.2.2.2⟩
    refine wc_icmp_eq (tgt := 1551) hX dL_law_323 (by decide) (fun c1 => ?_) (fun c1 => ?_)
    · exact kk _ ⟨_, _, _, _, _, l2⟩
    · exact absurd rfl c1
  · refine w_aload_n (i := 1) hX dL_law_315 rfl rfl ?_
    refine w_callVI (As := []) (rest := []) (ci := 8) (o := 0) (k2 := k) (n2 := n) hX dL_law_316 (s_x_book Γ ν b c h.1.1 s h.1.2.2.2.2.2.1 h.1.2.2.2.2.2.2.1 h.1.2.2.2.2.1 h.2.2.2.1 h.1.2.2.2.1 hb25 h.1.2.2.2.2.2.2.2.2.1.1.1 h.1.2.2.2.2.2.2.2.2.2.1.1.1 h.1.2.2.2.2.2.2.2.2.2.2.1.1.1) okX8_book (ltb rfl) h.1.1.1 ml_RL_41 imX8_book seX8_book rfl (leb rfl) (leb rfl) (Nat.zero_add _) (Nat.zero_add _) (fun r9 ν1 hq9 => ?_)
    have y := h.bookx hq9
    obtain ⟨hr9, hq9⟩ := h.bookr hp hq9; rw [hr9]
    have g : XI ν1 c b st.2.1 (s.1, 0) 0 ∧ YI ν1 57 B s k9 ∧ ν1.1 = ν.1 := ⟨hq9, y.1, y.2⟩
    refine w_aload_n (i := 2) hX dL_law_319 rfl rfl ?_
    refine w_callVI (As := []) (rest := [.int (nI 0)]) (ci := 9) (o := 57) (k2 := k) (n2 := n) hX dL_law_320 (s_m_book Γ ν1 57 s g.2.1.2.1 h.2.2.2.1 g.2.1.2.2.1) okX9_book (ltb rfl) (mod_s g.2.1.1.1.1) ml_RL_45 imX9_book seX9_book rfl (leb rfl) (leb rfl) (Nat.zero_add _) (Nat.zero_add _) (fun r9 ν2 hq9 => ?_)
    obtain ⟨hr9, hs, h2, h3, h4⟩ := BKP.r hq9 hp; rw [hr9]
    have l2 : LI ν2 c b st.2.1 (s.1, 0) 0 := ⟨g.1.sm hs (fun o k h9 => by unfold SBB at h9; omega), g.2.1.book_r hs h2 h3 h4 (pRead_ok hp), (pRead_ok hp).1, okT_e, by rw [hs.1, g.2.2]; exact h.2.2.2.2⟩
    refine wc_icmp_eq (tgt := 1551) hX dL_law_323 (by decide) (fun c1 => ?_) (fun c1 => ?_)
    · exact kk _ ⟨_, _, _, _, _, l2⟩
    · exact absurd c1 (by decide)
set_option maxHeartbeats 1000000 in
theorem l_feed {Γ : Gm} {X : Cx} {k n i L : Nat} {xs : Nat → Int32} (hX : GX Γ X RL cL_law 280) (hC : SCR Γ X L xs) (hi : i + 8 ≤ L) (hL : L < 2 ^ 30) (ν : Mem) (b c : Nat) (B : Nat → Nat) (s : Tp) (k9 : Nat) (h : LI ν b c B s k9) (kk : ∀ ν2, LIx ν2 → WP Γ X k n 1551 [some (.ref scr), some (.ref 0), some (.ref 57), some (.ref 80), some (.int (nI i)), none, none] [] ν2) : WP Γ X k n 168 [some (.ref scr), some (.ref 0), some (.ref 57), some (.ref 80), some (.int (nI i)), none, none] [] ν := by
  refine w_aload_n (i := 1) hX dL_law_168 rfl rfl ?_
  refine w_aload_n (i := 0) hX dL_law_169 rfl rfl ?_
  refine w_iload hX dL_law_170 rfl ?_
  refine w_iconst hX dL_law_172 kI_1 ?_
  refine w_iaddN hX dL_law_173 ?_
  refine w_sld hX hC (vp_in_nI (by omega) (by omega)) dL_law_174 ?_
  refine w_i2l hX dL_law_175 ?_
  refine w_bipush hX dL_law_176 kB_32 ?_
  refine w_lshl hX dL_law_178 ?_
  refine w_aload_n (i := 0) hX dL_law_179 rfl rfl ?_
  refine w_iload hX dL_law_180 rfl ?_
  refine w_iconst hX dL_law_182 kI_2 ?_
  refine w_iaddN hX dL_law_183 ?_
  refine w_sld hX hC (vp_in_nI (by omega) (by omega)) dL_law_184 ?_
  refine w_i2l hX dL_law_185 ?_
  refine w_ldc2 hX dL_law_186 kl_RL_34 ?_
  refine w_land hX dL_law_189 ?_
  refine w_lor hX dL_law_190 ?_
  refine w_aload_n (i := 0) hX dL_law_191 rfl rfl ?_
  refine w_iload hX dL_law_192 rfl ?_
  refine w_iconst hX dL_law_194 kI_3 ?_
  refine w_iaddN hX dL_law_195 ?_
  refine w_sld hX hC (vp_in_nI (by omega) (by omega)) dL_law_196 ?_
  refine w_i2l hX dL_law_197 ?_
  refine w_bipush hX dL_law_198 kB_32 ?_
  refine w_lshl hX dL_law_200 ?_
  refine w_aload_n (i := 0) hX dL_law_201 rfl rfl ?_
  refine w_iload hX dL_law_202 rfl ?_
  refine w_iconst hX dL_law_204 kI_4 ?_
  refine w_iaddN hX dL_law_205 ?_
  refine w_sld hX hC (vp_in_nI (by omega) (by omega)) dL_law_206 ?_
  refine w_i2l hX dL_law_207 ?_
  refine w_ldc2 hX dL_law_208 kl_RL_34 ?_
  refine w_land hX dL_law_211 ?_
  refine w_lor hX dL_law_212 ?_
  refine w_aload_n (i := 0) hX dL_law_213 rfl rfl ?_
  refine w_iload hX dL_law_214 rfl ?_
  refine w_iconst hX dL_law_216 kI_5 ?_
  refine w_iaddN hX dL_law_217 ?_
  refine w_sld hX hC (vp_in_nI (by omega) (by omega)) dL_law_218 ?_
  refine w_i2l hX dL_law_219 ?_
  refine w_bipush hX dL_law_220 kB_32 ?_
  refine w_lshl hX dL_law_222 ?_
  refine w_aload_n (i := 0) hX dL_law_223 rfl rfl ?_
  refine w_iload hX dL_law_224 rfl ?_
  refine w_bipush hX dL_law_226 kB_6 ?_
  refine w_iaddN hX dL_law_228 ?_
  refine w_sld hX hC (vp_in_nI (by omega) (by omega)) dL_law_229 ?_
  refine w_i2l hX dL_law_230 ?_
  refine w_ldc2 hX dL_law_231 kl_RL_34 ?_
  refine w_land hX dL_law_234 ?_
  refine w_lor hX dL_law_235 ?_
  refine w_callVI (As := [.long ((((xs (nI (i + 1)).toNatClampNeg).toInt64) <<< ((nI 32).toInt64 &&& 63)) ||| (((xs (nI (i + 2)).toNatClampNeg).toInt64) &&& ((4294967295 : Int64)))), .long ((((xs (nI (i + 3)).toNatClampNeg).toInt64) <<< ((nI 32).toInt64 &&& 63)) ||| (((xs (nI (i + 4)).toNatClampNeg).toInt64) &&& ((4294967295 : Int64)))), .long ((((xs (nI (i + 5)).toNatClampNeg).toInt64) <<< ((nI 32).toInt64 &&& 63)) ||| (((xs (nI (i + 6)).toNatClampNeg).toInt64) &&& ((4294967295 : Int64))))]) (rest := []) (ci := 8) (o := 0) (k2 := k) (n2 := n) hX dL_law_236 (s_x_feed Γ ν b c h.1.1 s h.1.2.2.2.2.1 h.2.2.2.1 _ _ _) okX8_feed (ltb rfl) h.1.1.1 ml_RL_36 imX8_feed seX8_feed rfl (leb rfl) (leb rfl) (Nat.zero_add _) (Nat.zero_add _) (fun r9 ν1 hq9 => ?_)
  obtain ⟨hr9, hs, ht⟩ := hq9; rw [hr9]; clear hr9 r9
  have y : YI ν1 57 B s k9 := h.2.1.sm hs (fun o k h9 => by omega)
  have g : XI ν1 b c B _ k9 ∧ YI ν1 57 B s k9 ∧ ν1.1 = ν.1 := ⟨h.1.feed hs ht, y, hs.1⟩
  refine w_aload_n (i := 2) hX dL_law_239 rfl rfl ?_
  refine w_aload_n (i := 0) hX dL_law_240 rfl rfl ?_
  refine w_iload hX dL_law_241 rfl ?_
  refine w_iconst hX dL_law_243 kI_1 ?_
  refine w_iaddN hX dL_law_244 ?_
  refine w_sld hX hC (vp_in_nI (by omega) (by omega)) dL_law_245 ?_
  refine w_i2l hX dL_law_246 ?_
  refine w_bipush hX dL_law_247 kB_32 ?_
  refine w_lshl hX dL_law_249 ?_
  refine w_aload_n (i := 0) hX dL_law_250 rfl rfl ?_
  refine w_iload hX dL_law_251 rfl ?_
  refine w_iconst hX dL_law_253 kI_2 ?_
  refine w_iaddN hX dL_law_254 ?_
  refine w_sld hX hC (vp_in_nI (by omega) (by omega)) dL_law_255 ?_
  refine w_i2l hX dL_law_256 ?_
  refine w_ldc2 hX dL_law_257 kl_RL_34 ?_
  refine w_land hX dL_law_260 ?_
  refine w_lor hX dL_law_261 ?_
  refine w_aload_n (i := 0) hX dL_law_262 rfl rfl ?_
  refine w_iload hX dL_law_263 rfl ?_
  refine w_iconst hX dL_law_265 kI_3 ?_
  refine w_iaddN hX dL_law_266 ?_
  refine w_sld hX hC (vp_in_nI (by omega) (by omega)) dL_law_267 ?_
  refine w_i2l hX dL_law_268 ?_
  refine w_bipush hX dL_law_269 kB_32 ?_
  refine w_lshl hX dL_law_271 ?_
  refine w_aload_n (i := 0) hX dL_law_272 rfl rfl ?_
  refine w_iload hX dL_law_273 rfl ?_
  refine w_iconst hX dL_law_275 kI_4 ?_
  refine w_iaddN hX dL_law_276 ?_
  refine w_sld hX hC (vp_in_nI (by omega) (by omega)) dL_law_277 ?_
  refine w_i2l hX dL_law_278 ?_
  refine w_ldc2 hX dL_law_279 kl_RL_34 ?_
  refine w_land hX dL_law_282 ?_
  refine w_lor hX dL_law_283 ?_
  refine w_aload_n (i := 0) hX dL_law_284 rfl rfl ?_
  refine w_iload hX dL_law_285 rfl ?_
  refine w_iconst hX dL_law_287 kI_5 ?_
  refine w_iaddN hX dL_law_288 ?_
  refine w_sld hX hC (vp_in_nI (by omega) (by omega)) dL_law_289 ?_
  refine w_i2l hX dL_law_290 ?_
  refine w_bipush hX dL_law_291 kB_32 ?_
  refine w_lshl hX dL_law_293 ?_
  refine w_aload_n (i := 0) hX dL_law_294 rfl rfl ?_
  refine w_iload hX dL_law_295 rfl ?_
  refine w_bipush hX dL_law_297 kB_6 ?_
  refine w_iaddN hX dL_law_299 ?_
  refine w_sld hX hC (vp_in_nI (by omega) (by omega)) dL_law_300 ?_
  refine w_i2l hX dL_law_301 ?_
  refine w_ldc2 hX dL_law_302 kl_RL_34 ?_
  refine w_land hX dL_law_305 ?_
  refine w_lor hX dL_law_306 ?_
  refine w_callVI (As := [.long ((((xs (nI (i + 1)).toNatClampNeg).toInt64) <<< ((nI 32).toInt64 &&& 63)) ||| (((xs (nI (i + 2)).toNatClampNeg).toInt64) &&& ((4294967295 : Int64)))), .long ((((xs (nI (i + 3)).toNatClampNeg).toInt64) <<< ((nI 32).toInt64 &&& 63)) ||| (((xs (nI (i + 4)).toNatClampNeg).toInt64) &&& ((4294967295 : Int64)))), .long ((((xs (nI (i + 5)).toNatClampNeg).toInt64) <<< ((nI 32).toInt64 &&& 63)) ||| (((xs (nI (i + 6)).toNatClampNeg).toInt64) &&& ((4294967295 : Int64))))]) (rest := [.int (nI ((feedT ((((xs (nI (i + 1)).toNatClampNeg).toInt64) <<< ((nI 32).toInt64 &&& 63)) ||| (((xs (nI (i + 2)).toNatClampNeg).toInt64) &&& ((4294967295 : Int64)))) ((((xs (nI (i + 3)).toNatClampNeg).toInt64) <<< ((nI 32).toInt64 &&& 63)) ||| (((xs (nI (i + 4)).toNatClampNeg).toInt64) &&& ((4294967295 : Int64)))) ((((xs (nI (i + 5)).toNatClampNeg).toInt64) <<< ((nI 32).toInt64 &&& 63)) ||| (((xs (nI (i + 6)).toNatClampNeg).toInt64) &&& ((4294967295 : Int64)))) s).2))]) (ci := 9) (o := 57) (k2 := k) (n2 := n) hX dL_law_307 (s_m_feed Γ ν1 57 s g.2.1.2.1 h.2.2.2.1 _ _ _) okX9_feed (ltb rfl) (mod_s g.2.1.1.1.1) ml_RL_40 imX9_feed seX9_feed rfl (leb rfl) (leb rfl) (Nat.zero_add _) (Nat.zero_add _) (fun r9 ν2 hq9 => ?_)
  obtain ⟨hr9, hs2, ht2⟩ := hq9; rw [hr9]; clear hr9 r9
  have l2 : LI ν2 b c B _ k9 := ⟨g.1.sm hs2 (fun o k h9 => by omega), g.2.1.feed hs2 ht2, h.2.2.1, feedT_ok h.2.2.2.1, by rw [hs2.1, g.2.2]; exact h.2.2.2.2⟩
  refine wc_icmp_eq (tgt := 1551) hX dL_law_310 (by decide) (fun c1 => ?_) (fun c1 => ?_)
  · exact kk _ ⟨_, _, _, _, _, l2⟩
  · exact absurd rfl c1
set_option maxHeartbeats 1000000 in
theorem l_mark {Γ : Gm} {X : Cx} {k n i L : Nat} {xs : Nat → Int32} (hX : GX Γ X RL cL_law 280) (hC : SCR Γ X L xs) (hi : i + 8 ≤ L) (hL : L < 2 ^ 30) (ν : Mem) (b c : Nat) (B : Nat → Nat) (s : Tp) (k9 : Nat) (h : LI ν b c B s k9) (kk : ∀ ν2, LIx ν2 → WP Γ X k n 1551 [some (.ref scr), some (.ref 0), some (.ref 57), some (.ref 80), some (.int (nI i)), none, none] [] ν2) : WP Γ X k n 1473 [some (.ref scr), some (.ref 0), some (.ref 57), some (.ref 80), some (.int (nI i)), none, none] [] ν := by
  have hk16 : k9 < 16 := h.2.1.2.2.2.1
  refine w_aload_n (i := 1) hX dL_law_1473 rfl rfl ?_
  refine w_aload_n (i := 0) hX dL_law_1474 rfl rfl ?_
  refine w_iload hX dL_law_1475 rfl ?_
  refine w_iconst hX dL_law_1477 kI_1 ?_
  refine w_iaddN hX dL_law_1478 ?_
  refine w_sld hX hC (vp_in_nI (by omega) (by omega)) dL_law_1479 ?_
  refine w_aload_n (i := 0) hX dL_law_1480 rfl rfl ?_
  refine w_iload hX dL_law_1481 rfl ?_
  refine w_iconst hX dL_law_1483 kI_2 ?_
  refine w_iaddN hX dL_law_1484 ?_
  refine w_sld hX hC (vp_in_nI (by omega) (by omega)) dL_law_1485 ?_
  refine wc_if_eq (tgt := 1493) hX dL_law_1486 (by decide) (fun c1 => ?_) (fun c1 => ?_)
  · refine w_iconst hX dL_law_1493 kI_0 ?_
    refine w_top (y := bI false) rfl ?_
    refine w_callVI (As := [.int (xs (nI (i + 1)).toNatClampNeg), .int (bI false)]) (rest := []) (ci := 8) (o := 0) (k2 := k) (n2 := n) hX dL_law_1494 (s_x_mark Γ ν b c h.1.1 k9 hk16 h.1.2.2.2.2.2.2.2.2.2.2.2 (xs (nI (i + 1)).toNatClampNeg) false) okX8_mark (ltb rfl) h.1.1.1 ml_RL_148 imX8_mark seX8_mark rfl (leb rfl) (leb rfl) (Nat.zero_add _) (Nat.zero_add _) (fun r9 ν1 hq9 => ?_)
    obtain ⟨hr9, hk1, hs⟩ := hq9; rw [hr9]; clear hr9 r9
    have g : XI ν1 b c B s (N_mark k9 (xs (nI (i + 1)).toNatClampNeg) false) ∧ YI ν1 57 B s k9 ∧ ν1.1 = ν.1 := ⟨h.1.mark hs hk1, h.2.1.sm hs (fun o k h9 => by omega), hs.1⟩
    refine w_aload_n (i := 2) hX dL_law_1497 rfl rfl ?_
    refine w_aload_n (i := 0) hX dL_law_1498 rfl rfl ?_
    refine w_iload hX dL_law_1499 rfl ?_
    refine w_iconst hX dL_law_1501 kI_1 ?_
    refine w_iaddN hX dL_law_1502 ?_
    refine w_sld hX hC (vp_in_nI (by omega) (by omega)) dL_law_1503 ?_
    refine w_aload_n (i := 0) hX dL_law_1504 rfl rfl ?_
    refine w_iload hX dL_law_1505 rfl ?_
    refine w_iconst hX dL_law_1507 kI_2 ?_
    refine w_iaddN hX dL_law_1508 ?_
    refine w_sld hX hC (vp_in_nI (by omega) (by omega)) dL_law_1509 ?_
    refine wc_if_eq (tgt := 1517) hX dL_law_1510 (by decide) (fun c2 => ?_) (fun c2 => ?_)
    · refine w_iconst hX dL_law_1517 kI_0 ?_
      refine w_top (y := bI false) rfl ?_
      refine w_callVI (As := [.int (xs (nI (i + 1)).toNatClampNeg), .int (bI false)]) (rest := [.int (bI (A_mark k9 (xs (nI (i + 1)).toNatClampNeg) false))]) (ci := 9) (o := 57) (k2 := k) (n2 := n) hX dL_law_1518 (s_m_mark Γ ν1 57 B g.2.1.1 h.2.2.1 k9 g.2.1.2.2.2 (xs (nI (i + 1)).toNatClampNeg) false) okX9_mark (ltb rfl) (mod_s g.2.1.1.1.1) ml_RL_152 imX9_mark seX9_mark rfl (leb rfl) (leb rfl) (Nat.zero_add _) (Nat.zero_add _) (fun r9 ν2 hq9 => ?_)
      obtain ⟨hr9, hH2, hk2, hs2⟩ := hq9; rw [hr9]; clear hr9 r9
      have l2 : LI ν2 b c B s (N_mark k9 (xs (nI (i + 1)).toNatClampNeg) false) := ⟨g.1.sm hs2 (fun o k h9 => by unfold SMk at h9; omega), g.2.1.mark hs2 hH2 hk2, h.2.2.1, h.2.2.2.1, by rw [hs2.1, g.2.2]; exact h.2.2.2.2⟩
      refine wc_icmp_eq (tgt := 1551) hX dL_law_1521 (by decide) (fun c3 => ?_) (fun c3 => ?_)
      · exact kk _ ⟨_, _, _, _, _, l2⟩
      · exact absurd rfl c3
    · exact absurd c1 c2
  · refine w_iconst hX dL_law_1489 kI_1 ?_
    refine w_top (y := bI true) rfl ?_
    refine w_goto (tgt := 1494) hX dL_law_1490 (by decide) ?_
    refine w_callVI (As := [.int (xs (nI (i + 1)).toNatClampNeg), .int (bI true)]) (rest := []) (ci := 8) (o := 0) (k2 := k) (n2 := n) hX dL_law_1494 (s_x_mark Γ ν b c h.1.1 k9 hk16 h.1.2.2.2.2.2.2.2.2.2.2.2 (xs (nI (i + 1)).toNatClampNeg) true) okX8_mark (ltb rfl) h.1.1.1 ml_RL_148 imX8_mark seX8_mark rfl (leb rfl) (leb rfl) (Nat.zero_add _) (Nat.zero_add _) (fun r9 ν1 hq9 => ?_)
    obtain ⟨hr9, hk1, hs⟩ := hq9; rw [hr9]; clear hr9 r9
    have g : XI ν1 b c B s (N_mark k9 (xs (nI (i + 1)).toNatClampNeg) true) ∧ YI ν1 57 B s k9 ∧ ν1.1 = ν.1 := ⟨h.1.mark hs hk1, h.2.1.sm hs (fun o k h9 => by omega), hs.1⟩
    refine w_aload_n (i := 2) hX dL_law_1497 rfl rfl ?_
    refine w_aload_n (i := 0) hX dL_law_1498 rfl rfl ?_
    refine w_iload hX dL_law_1499 rfl ?_
    refine w_iconst hX dL_law_1501 kI_1 ?_
    refine w_iaddN hX dL_law_1502 ?_
    refine w_sld hX hC (vp_in_nI (by omega) (by omega)) dL_law_1503 ?_
    refine w_aload_n (i := 0) hX dL_law_1504 rfl rfl ?_
    refine w_iload hX dL_law_1505 rfl ?_
    refine w_iconst hX dL_law_1507 kI_2 ?_
    refine w_iaddN hX dL_law_1508 ?_
    refine w_sld hX hC (vp_in_nI (by omega) (by omega)) dL_law_1509 ?_
    refine wc_if_eq (tgt := 1517) hX dL_law_1510 (by decide) (fun c4 => ?_) (fun c4 => ?_)
    · exact absurd c4 c1
    · refine w_iconst hX dL_law_1513 kI_1 ?_
      refine w_top (y := bI true) rfl ?_
      refine w_goto (tgt := 1518) hX dL_law_1514 (by decide) ?_
      refine w_callVI (As := [.int (xs (nI (i + 1)).toNatClampNeg), .int (bI true)]) (rest := [.int (bI (A_mark k9 (xs (nI (i + 1)).toNatClampNeg) true))]) (ci := 9) (o := 57) (k2 := k) (n2 := n) hX dL_law_1518 (s_m_mark Γ ν1 57 B g.2.1.1 h.2.2.1 k9 g.2.1.2.2.2 (xs (nI (i + 1)).toNatClampNeg) true) okX9_mark (ltb rfl) (mod_s g.2.1.1.1.1) ml_RL_152 imX9_mark seX9_mark rfl (leb rfl) (leb rfl) (Nat.zero_add _) (Nat.zero_add _) (fun r9 ν2 hq9 => ?_)
      obtain ⟨hr9, hH2, hk2, hs2⟩ := hq9; rw [hr9]; clear hr9 r9
      have l2 : LI ν2 b c B s (N_mark k9 (xs (nI (i + 1)).toNatClampNeg) true) := ⟨g.1.sm hs2 (fun o k h9 => by unfold SMk at h9; omega), g.2.1.mark hs2 hH2 hk2, h.2.2.1, h.2.2.2.1, by rw [hs2.1, g.2.2]; exact h.2.2.2.2⟩
      refine wc_icmp_eq (tgt := 1551) hX dL_law_1521 (by decide) (fun c5 => ?_) (fun c5 => ?_)
      · exact kk _ ⟨_, _, _, _, _, l2⟩
      · exact absurd rfl c5
