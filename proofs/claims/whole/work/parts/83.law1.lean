theorem c2r {c : Nat} (h : c ≤ 2) : -2147483648 ≤ (c : Int) ∧ (c : Int) < 2147483648 := by omega
theorem c_coef {n k : Nat} {sc : Nat → Int} {σ : Wd} {a : AS} {o5 o6 : Option Value} {cells slots : Nat} (hI : LI n sc σ a) (hn : n ≤ 2048) (hk : 4 * k + 4 ≤ n) (hs : ∀ j, i32 (sc j)) (hC : CB k σ cells slots) (K : KN n sc k) : TL 143 (LL k o5 o6) [] σ cells slots := by
  obtain ⟨hD, ⟨t, hM⟩, hV, ⟨g, h130⟩, h140⟩ := hI
  have hb9 := hC.lim (by omega)
  obtain ⟨f0, h0⟩ := hD.o
  obtain ⟨f100, h100⟩ := hM.o
  refine z_aload_n dL_law_143 rfl ?_
  refine z_aload_n dL_law_144 rfl ?_
  refine z_iload dL_law_145 rfl ?_
  refine i_iconst dL_law_147 rfl ?_
  refine i_iadd dL_law_148 ?_
  refine i_xald dL_law_149 (by first | exact h140 | rfl) (4 * k + 1) (by omega) (by omega) (by omega) ?_
  refine z_aload_n dL_law_150 rfl ?_
  refine z_iload dL_law_151 rfl ?_
  refine i_iconst dL_law_153 rfl ?_
  refine i_iadd dL_law_154 ?_
  refine i_xald dL_law_155 (by first | exact h140 | rfl) (4 * k + 2) (by omega) (by omega) (by omega) ?_
  refine z_aload_n dL_law_156 rfl ?_
  refine z_callSW (w_coef hD hV h130 (sc (4 * k + 1)) (sc (4 * k + 2)) (hs _) (hs _)) mL_78 dL_law_157 rfl rfl ⟨by decide, by decide⟩ (Nat.le_of_ble_eq_true rfl) ⟨by show cells + 1 ≤ 601024; omega, by show slots + 6 ≤ 7293033; omega⟩ (fun _ _ h => h.elim) (fun r u hq => ?_)
  obtain ⟨rfl, hDu, ⟨gu, h130u, hgu⟩, hF⟩ := hq
  have hMu := hM.w hF
  have h140u := (hF.1 140 (by decide) (by decide)).trans h140
  obtain ⟨f1, h100u⟩ := hMu.o
  refine z_istore dL_law_160 (by decide) ?_
  refine z_aload_n dL_law_162 rfl ?_
  refine z_aload_n dL_law_163 rfl ?_
  refine z_iload dL_law_164 rfl ?_
  refine i_iconst dL_law_166 rfl ?_
  refine i_iadd dL_law_167 ?_
  refine i_xald dL_law_168 (by first | exact h140u | rfl) (4 * k + 1) (by omega) (by omega) (by omega) ?_
  refine z_aload_n dL_law_169 rfl ?_
  refine z_iload dL_law_170 rfl ?_
  refine i_iconst dL_law_172 rfl ?_
  refine i_iadd dL_law_173 ?_
  refine i_xald dL_law_174 (by first | exact h140u | rfl) (4 * k + 2) (by omega) (by omega) (by omega) ?_
  refine z_callVX (m_coef hMu (sc (4 * k + 1)) (sc (4 * k + 2)) (hs _) (hs _)) mL_83 dL_law_175 h100u rfl rfl rfl ⟨by decide, by decide⟩ (Nat.le_of_ble_eq_true rfl) ⟨by show cells + 1 + 0 ≤ 601024; omega, by show slots + 6 + 0 ≤ 7293033; omega⟩ (fun _ _ h => h.elim) (fun r v hq => ?_)
  obtain ⟨⟨z6, rfl⟩, hv6, hMv, hG⟩ := hq
  obtain ⟨f2, h100v⟩ := hMv.o
  have h130v := (hG 130 (Or.inr (by decide))).trans h130u
  have hI2 := LI.step h140 hDu hF ⟨gu, h130u⟩ hMv hG (vl_coef hV _ _)
  have hC2 : CB (k + 1) v (cells + 1 + 0 + 0) (slots + 6 + 0 + 0) := hC.step (s70 hF hG) (by omega) (by omega)
  refine z_istore dL_law_178 (by decide) ?_
  refine z_aload_n dL_law_180 rfl ?_
  refine z_callVX (m_thrown hMv) mL_84 dL_law_181 h100v rfl rfl rfl ⟨by decide, by decide⟩ (Nat.le_of_ble_eq_true rfl) ⟨by show cells + 1 + 0 + 0 ≤ 601024; omega, by show slots + 6 + 0 + 0 ≤ 7293033; omega⟩ (fun _ _ h => h.elim) (fun r w hq => ?_)
  obtain ⟨rfl, rfl⟩ := hq
  refine z_iload dL_law_184 rfl ?_
  refine z_icmp_eq (tgt := 191) dL_law_186 (by decide) (fun _ => ?_) (fun h => absurd rfl h)
  refine z_iload dL_law_191 rfl ?_
  refine i_if_ne (tgt := 208) dL_law_193 (by decide) (c2r (l2_coef _ _)) (fun h0 => ?_) (fun h0 => ?_)
  · refine z_goto (tgt := 1226) dL_law_208 (by decide) ?_
    exact K _ _ _ _ _ _ hI2 hC2
  · have hc0 := Int.ofNat.inj (show Int.ofNat _ = Int.ofNat 0 from h0)
    have e1 := hgu hc0
    have e2 := Value.int.inj (Option.some.inj (hv6 hc0))
    refine z_aload_n dL_law_196 rfl ?_
    refine i_iconst dL_law_197 rfl ?_
    refine z_lald dL_law_198 h130v 0 rfl (by decide) ?_
    refine z_iload dL_law_199 rfl ?_
    rw [e1, e2]
    refine z_i2lx dL_law_201 ?_
    refine z_lcmp dL_law_202 ?_
    refine z_if_eq (tgt := 208) dL_law_203 (by decide) (fun _ => ?_) (fun h => absurd (lc_self _) h)
    refine z_goto (tgt := 1226) dL_law_208 (by decide) ?_
    exact K _ _ _ _ _ _ hI2 hC2
theorem c_sum {n k : Nat} {sc : Nat → Int} {σ : Wd} {a : AS} {o5 o6 : Option Value} {cells slots : Nat} (hI : LI n sc σ a) (hn : n ≤ 2048) (hk : 4 * k + 4 ≤ n) (hs : ∀ j, i32 (sc j)) (hC : CB k σ cells slots) (K : KN n sc k) : TL 211 (LL k o5 o6) [] σ cells slots := by
  obtain ⟨hD, ⟨t, hM⟩, hV, ⟨g, h130⟩, h140⟩ := hI
  have hb9 := hC.lim (by omega)
  obtain ⟨f0, h0⟩ := hD.o
  obtain ⟨f100, h100⟩ := hM.o
  refine z_aload_n dL_law_211 rfl ?_
  refine z_aload_n dL_law_212 rfl ?_
  refine z_iload dL_law_213 rfl ?_
  refine i_iconst dL_law_215 rfl ?_
  refine i_iadd dL_law_216 ?_
  refine i_xald dL_law_217 (by first | exact h140 | rfl) (4 * k + 1) (by omega) (by omega) (by omega) ?_
  refine z_aload_n dL_law_218 rfl ?_
  refine z_callSW (w_sum hD hV h130 (sc (4 * k + 1)) (hs _)) mL_87 dL_law_219 rfl rfl ⟨by decide, by decide⟩ (Nat.le_of_ble_eq_true rfl) ⟨by show cells + 1 ≤ 601024; omega, by show slots + 6 ≤ 7293033; omega⟩ (fun _ _ h => h.elim) (fun r u hq => ?_)
  obtain ⟨rfl, hDu, ⟨gu, h130u, hgu⟩, hF⟩ := hq
  have hMu := hM.w hF
  have h140u := (hF.1 140 (by decide) (by decide)).trans h140
  obtain ⟨f1, h100u⟩ := hMu.o
  refine z_istore dL_law_222 (by decide) ?_
  refine z_aload_n dL_law_224 rfl ?_
  refine z_aload_n dL_law_225 rfl ?_
  refine z_iload dL_law_226 rfl ?_
  refine i_iconst dL_law_228 rfl ?_
  refine i_iadd dL_law_229 ?_
  refine i_xald dL_law_230 (by first | exact h140u | rfl) (4 * k + 1) (by omega) (by omega) (by omega) ?_
  refine z_callVX (m_sum hMu hV (sc (4 * k + 1)) (hs _)) mL_90 dL_law_231 h100u rfl rfl rfl ⟨by decide, by decide⟩ (Nat.le_of_ble_eq_true rfl) ⟨by show cells + 1 + 0 ≤ 601024; omega, by show slots + 6 + 0 ≤ 7293033; omega⟩ (fun _ _ h => h.elim) (fun r v hq => ?_)
  obtain ⟨⟨z6, rfl⟩, hv6, hMv, hG⟩ := hq
  obtain ⟨f2, h100v⟩ := hMv.o
  have h130v := (hG 130 (Or.inr (by decide))).trans h130u
  have hI2 := LI.step h140 hDu hF ⟨gu, h130u⟩ hMv hG (vl_sum hV _)
  have hC2 : CB (k + 1) v (cells + 1 + 0 + 0) (slots + 6 + 0 + 0) := hC.step (s70 hF hG) (by omega) (by omega)
  refine z_istore dL_law_234 (by decide) ?_
  refine z_aload_n dL_law_236 rfl ?_
  refine z_callVX (m_thrown hMv) mL_84 dL_law_237 h100v rfl rfl rfl ⟨by decide, by decide⟩ (Nat.le_of_ble_eq_true rfl) ⟨by show cells + 1 + 0 + 0 ≤ 601024; omega, by show slots + 6 + 0 + 0 ≤ 7293033; omega⟩ (fun _ _ h => h.elim) (fun r w hq => ?_)
  obtain ⟨rfl, rfl⟩ := hq
  refine z_iload dL_law_240 rfl ?_
  refine z_icmp_eq (tgt := 247) dL_law_242 (by decide) (fun _ => ?_) (fun h => absurd rfl h)
  refine z_iload dL_law_247 rfl ?_
  refine i_if_ne (tgt := 264) dL_law_249 (by decide) (c2r (l2_sum _)) (fun h0 => ?_) (fun h0 => ?_)
  · refine z_goto (tgt := 1226) dL_law_264 (by decide) ?_
    exact K _ _ _ _ _ _ hI2 hC2
  · have hc0 := Int.ofNat.inj (show Int.ofNat _ = Int.ofNat 0 from h0)
    have e1 := hgu hc0
    have e2 := Value.int.inj (Option.some.inj (hv6 hc0))
    refine z_aload_n dL_law_252 rfl ?_
    refine i_iconst dL_law_253 rfl ?_
    refine z_lald dL_law_254 h130v 0 rfl (by decide) ?_
    refine z_iload dL_law_255 rfl ?_
    rw [e1, e2]
    refine z_i2lx dL_law_257 ?_
    refine z_lcmp dL_law_258 ?_
    refine z_if_eq (tgt := 264) dL_law_259 (by decide) (fun _ => ?_) (fun h => absurd (lc_self _) h)
    refine z_goto (tgt := 1226) dL_law_264 (by decide) ?_
    exact K _ _ _ _ _ _ hI2 hC2
theorem c_mod {n k : Nat} {sc : Nat → Int} {σ : Wd} {a : AS} {o5 o6 : Option Value} {cells slots : Nat} (hI : LI n sc σ a) (hn : n ≤ 2048) (hk : 4 * k + 4 ≤ n) (hs : ∀ j, i32 (sc j)) (hC : CB k σ cells slots) (K : KN n sc k) : TL 267 (LL k o5 o6) [] σ cells slots := by
  obtain ⟨hD, ⟨t, hM⟩, hV, ⟨g, h130⟩, h140⟩ := hI
  have hb9 := hC.lim (by omega)
  obtain ⟨f0, h0⟩ := hD.o
  obtain ⟨f100, h100⟩ := hM.o
  refine z_aload_n dL_law_267 rfl ?_
  refine z_aload_n dL_law_268 rfl ?_
  refine z_iload dL_law_269 rfl ?_
  refine i_iconst dL_law_271 rfl ?_
  refine i_iadd dL_law_272 ?_
  refine i_xald dL_law_273 (by first | exact h140 | rfl) (4 * k + 1) (by omega) (by omega) (by omega) ?_
  refine z_aload_n dL_law_274 rfl ?_
  refine z_iload dL_law_275 rfl ?_
  refine i_iconst dL_law_277 rfl ?_
  refine i_iadd dL_law_278 ?_
  refine i_xald dL_law_279 (by first | exact h140 | rfl) (4 * k + 2) (by omega) (by omega) (by omega) ?_
  refine z_aload_n dL_law_280 rfl ?_
  refine z_callSW (w_mod hD hV h130 (sc (4 * k + 1)) (sc (4 * k + 2)) (hs _) (hs _)) mL_91 dL_law_281 rfl rfl ⟨by decide, by decide⟩ (Nat.le_of_ble_eq_true rfl) ⟨by show cells + 1 ≤ 601024; omega, by show slots + 6 ≤ 7293033; omega⟩ (fun _ _ h => h.elim) (fun r u hq => ?_)
  obtain ⟨rfl, hDu, ⟨gu, h130u, hgu⟩, hF⟩ := hq
  have hMu := hM.w hF
  have h140u := (hF.1 140 (by decide) (by decide)).trans h140
  obtain ⟨f1, h100u⟩ := hMu.o
  refine z_istore dL_law_284 (by decide) ?_
  refine z_aload_n dL_law_286 rfl ?_
  refine z_aload_n dL_law_287 rfl ?_
  refine z_iload dL_law_288 rfl ?_
  refine i_iconst dL_law_290 rfl ?_
  refine i_iadd dL_law_291 ?_
  refine i_xald dL_law_292 (by first | exact h140u | rfl) (4 * k + 1) (by omega) (by omega) (by omega) ?_
  refine z_aload_n dL_law_293 rfl ?_
  refine z_iload dL_law_294 rfl ?_
  refine i_iconst dL_law_296 rfl ?_
  refine i_iadd dL_law_297 ?_
  refine i_xald dL_law_298 (by first | exact h140u | rfl) (4 * k + 2) (by omega) (by omega) (by omega) ?_
  refine z_callVX (m_mod hMu hV (sc (4 * k + 1)) (sc (4 * k + 2)) (hs _) (hs _)) mL_93 dL_law_299 h100u rfl rfl rfl ⟨by decide, by decide⟩ (Nat.le_of_ble_eq_true rfl) ⟨by show cells + 1 + 0 ≤ 601024; omega, by show slots + 6 + 0 ≤ 7293033; omega⟩ (fun _ _ h => h.elim) (fun r v hq => ?_)
  obtain ⟨⟨z6, rfl⟩, hv6, hMv, hG⟩ := hq
  obtain ⟨f2, h100v⟩ := hMv.o
  have h130v := (hG 130 (Or.inr (by decide))).trans h130u
  have hI2 := LI.step h140 hDu hF ⟨gu, h130u⟩ hMv hG (vl_mod hV _ _)
  have hC2 : CB (k + 1) v (cells + 1 + 0 + 0) (slots + 6 + 0 + 0) := hC.step (s70 hF hG) (by omega) (by omega)
  refine z_istore dL_law_302 (by decide) ?_
  refine z_aload_n dL_law_304 rfl ?_
  refine z_callVX (m_thrown hMv) mL_84 dL_law_305 h100v rfl rfl rfl ⟨by decide, by decide⟩ (Nat.le_of_ble_eq_true rfl) ⟨by show cells + 1 + 0 + 0 ≤ 601024; omega, by show slots + 6 + 0 + 0 ≤ 7293033; omega⟩ (fun _ _ h => h.elim) (fun r w hq => ?_)
  obtain ⟨rfl, rfl⟩ := hq
  refine z_iload dL_law_308 rfl ?_
  refine z_icmp_eq (tgt := 315) dL_law_310 (by decide) (fun _ => ?_) (fun h => absurd rfl h)
  refine z_iload dL_law_315 rfl ?_
  refine i_if_ne (tgt := 332) dL_law_317 (by decide) (c2r (l2_mod _ _)) (fun h0 => ?_) (fun h0 => ?_)
  · refine z_goto (tgt := 1226) dL_law_332 (by decide) ?_
    exact K _ _ _ _ _ _ hI2 hC2
  · have hc0 := Int.ofNat.inj (show Int.ofNat _ = Int.ofNat 0 from h0)
    have e1 := hgu hc0
    have e2 := Value.int.inj (Option.some.inj (hv6 hc0))
    refine z_aload_n dL_law_320 rfl ?_
    refine i_iconst dL_law_321 rfl ?_
    refine z_lald dL_law_322 h130v 0 rfl (by decide) ?_
    refine z_iload dL_law_323 rfl ?_
    rw [e1, e2]
    refine z_i2lx dL_law_325 ?_
    refine z_lcmp dL_law_326 ?_
    refine z_if_eq (tgt := 332) dL_law_327 (by decide) (fun _ => ?_) (fun h => absurd (lc_self _) h)
    refine z_goto (tgt := 1226) dL_law_332 (by decide) ?_
    exact K _ _ _ _ _ _ hI2 hC2
theorem c_combine {n k : Nat} {sc : Nat → Int} {σ : Wd} {a : AS} {o5 o6 : Option Value} {cells slots : Nat} (hI : LI n sc σ a) (hn : n ≤ 2048) (hk : 4 * k + 4 ≤ n) (hs : ∀ j, i32 (sc j)) (hC : CB k σ cells slots) (K : KN n sc k) : TL 335 (LL k o5 o6) [] σ cells slots := by
  obtain ⟨hD, ⟨t, hM⟩, hV, ⟨g, h130⟩, h140⟩ := hI
  have hb9 := hC.lim (by omega)
  obtain ⟨f0, h0⟩ := hD.o
  obtain ⟨f100, h100⟩ := hM.o
  refine z_aload_n dL_law_335 rfl ?_
  refine z_aload_n dL_law_336 rfl ?_
  refine z_iload dL_law_337 rfl ?_
  refine i_iconst dL_law_339 rfl ?_
  refine i_iadd dL_law_340 ?_
  refine i_xald dL_law_341 (by first | exact h140 | rfl) (4 * k + 1) (by omega) (by omega) (by omega) ?_
  refine z_aload_n dL_law_342 rfl ?_
  refine z_iload dL_law_343 rfl ?_
  refine i_iconst dL_law_345 rfl ?_
  refine i_iadd dL_law_346 ?_
  refine i_xald dL_law_347 (by first | exact h140 | rfl) (4 * k + 2) (by omega) (by omega) (by omega) ?_
  refine z_aload_n dL_law_348 rfl ?_
  refine z_iload dL_law_349 rfl ?_
  refine i_iconst dL_law_351 rfl ?_
  refine i_iadd dL_law_352 ?_
  refine i_xald dL_law_353 (by first | exact h140 | rfl) (4 * k + 3) (by omega) (by omega) (by omega) ?_
  refine z_aload_n dL_law_354 rfl ?_
  refine z_callSW (w_combine hD hV h130 (sc (4 * k + 1)) (sc (4 * k + 2)) (sc (4 * k + 3)) (hs _) (hs _) (hs _)) mL_94 dL_law_355 rfl rfl ⟨by decide, by decide⟩ (Nat.le_of_ble_eq_true rfl) ⟨by show cells + 1 ≤ 601024; omega, by show slots + 6 ≤ 7293033; omega⟩ (fun _ _ h => h.elim) (fun r u hq => ?_)
  obtain ⟨rfl, hDu, ⟨gu, h130u, hgu⟩, hF⟩ := hq
  have hMu := hM.w hF
  have h140u := (hF.1 140 (by decide) (by decide)).trans h140
  obtain ⟨f1, h100u⟩ := hMu.o
  refine z_istore dL_law_358 (by decide) ?_
  refine z_aload_n dL_law_360 rfl ?_
  refine z_aload_n dL_law_361 rfl ?_
  refine z_iload dL_law_362 rfl ?_
  refine i_iconst dL_law_364 rfl ?_
  refine i_iadd dL_law_365 ?_
  refine i_xald dL_law_366 (by first | exact h140u | rfl) (4 * k + 1) (by omega) (by omega) (by omega) ?_
  refine z_aload_n dL_law_367 rfl ?_
  refine z_iload dL_law_368 rfl ?_
  refine i_iconst dL_law_370 rfl ?_
  refine i_iadd dL_law_371 ?_
  refine i_xald dL_law_372 (by first | exact h140u | rfl) (4 * k + 2) (by omega) (by omega) (by omega) ?_
  refine z_aload_n dL_law_373 rfl ?_
  refine z_iload dL_law_374 rfl ?_
  refine i_iconst dL_law_376 rfl ?_
  refine i_iadd dL_law_377 ?_
  refine i_xald dL_law_378 (by first | exact h140u | rfl) (4 * k + 3) (by omega) (by omega) (by omega) ?_
  refine z_callVX (m_combine hMu hV (sc (4 * k + 1)) (sc (4 * k + 2)) (sc (4 * k + 3)) (hs _) (hs _) (hs _)) mL_97 dL_law_379 h100u rfl rfl rfl ⟨by decide, by decide⟩ (Nat.le_of_ble_eq_true rfl) ⟨by show cells + 1 + 0 ≤ 601024; omega, by show slots + 6 + 0 ≤ 7293033; omega⟩ (fun _ _ h => h.elim) (fun r v hq => ?_)
  obtain ⟨⟨z6, rfl⟩, hv6, hMv, hG⟩ := hq
  obtain ⟨f2, h100v⟩ := hMv.o
  have h130v := (hG 130 (Or.inr (by decide))).trans h130u
  have hI2 := LI.step h140 hDu hF ⟨gu, h130u⟩ hMv hG (vl_comb hV _ _ _)
  have hC2 : CB (k + 1) v (cells + 1 + 0 + 0) (slots + 6 + 0 + 0) := hC.step (s70 hF hG) (by omega) (by omega)
  refine z_istore dL_law_382 (by decide) ?_
  refine z_aload_n dL_law_384 rfl ?_
  refine z_callVX (m_thrown hMv) mL_84 dL_law_385 h100v rfl rfl rfl ⟨by decide, by decide⟩ (Nat.le_of_ble_eq_true rfl) ⟨by show cells + 1 + 0 + 0 ≤ 601024; omega, by show slots + 6 + 0 + 0 ≤ 7293033; omega⟩ (fun _ _ h => h.elim) (fun r w hq => ?_)
  obtain ⟨rfl, rfl⟩ := hq
  refine z_iload dL_law_388 rfl ?_
  refine z_icmp_eq (tgt := 395) dL_law_390 (by decide) (fun _ => ?_) (fun h => absurd rfl h)
  refine z_iload dL_law_395 rfl ?_
  refine i_if_ne (tgt := 412) dL_law_397 (by decide) (c2r (l2_comb _ _ _)) (fun h0 => ?_) (fun h0 => ?_)
  · refine z_goto (tgt := 1226) dL_law_412 (by decide) ?_
    exact K _ _ _ _ _ _ hI2 hC2
  · have hc0 := Int.ofNat.inj (show Int.ofNat _ = Int.ofNat 0 from h0)
    have e1 := hgu hc0
    have e2 := Value.int.inj (Option.some.inj (hv6 hc0))
    refine z_aload_n dL_law_400 rfl ?_
    refine i_iconst dL_law_401 rfl ?_
    refine z_lald dL_law_402 h130v 0 rfl (by decide) ?_
    refine z_iload dL_law_403 rfl ?_
    rw [e1, e2]
    refine z_i2lx dL_law_405 ?_
    refine z_lcmp dL_law_406 ?_
    refine z_if_eq (tgt := 412) dL_law_407 (by decide) (fun _ => ?_) (fun h => absurd (lc_self _) h)
    refine z_goto (tgt := 1226) dL_law_412 (by decide) ?_
    exact K _ _ _ _ _ _ hI2 hC2
theorem c_compile {n k : Nat} {sc : Nat → Int} {σ : Wd} {a : AS} {o5 o6 : Option Value} {cells slots : Nat} (hI : LI n sc σ a) (hn : n ≤ 2048) (hk : 4 * k + 4 ≤ n) (hs : ∀ j, i32 (sc j)) (hC : CB k σ cells slots) (K : KN n sc k) : TL 415 (LL k o5 o6) [] σ cells slots := by
  obtain ⟨hD, ⟨t, hM⟩, hV, ⟨g, h130⟩, h140⟩ := hI
  have hb9 := hC.lim (by omega)
  obtain ⟨f0, h0⟩ := hD.o
  obtain ⟨f100, h100⟩ := hM.o
  refine z_aload_n dL_law_415 rfl ?_
  refine z_aload_n dL_law_416 rfl ?_
  refine z_callSW (w_compile hD hV h130 ) mL_98 dL_law_417 rfl rfl ⟨by decide, by decide⟩ (Nat.le_of_ble_eq_true rfl) ⟨by show cells + 1 ≤ 601024; omega, by show slots + 6 ≤ 7293033; omega⟩ (fun _ _ h => h.elim) (fun r u hq => ?_)
  obtain ⟨z, hq, hz⟩ := hq
  have hz9 : ∃ (N : Nat → Nat) (xs : Nat → Nat → St), (cdComp a = 0 → ∀ b, b < a.ac → En (a.M b) (a.E b) (a.B b) (a.CF b) (N b) (xs b)) ∧ (cdComp a = 0 → z = (tot N a.ac : Nat)) := by
    by_cases h9 : cdComp a = 0
    · obtain ⟨N, xs, q1, q2⟩ := hz h9; exact ⟨N, xs, fun _ => q1, fun _ => q2⟩
    · exact ⟨fun _ => 0, fun _ _ => (false, 0, false), fun q => absurd q h9, fun q => absurd q h9⟩
  obtain ⟨N, xs, hEc, hz⟩ := hz9
  obtain ⟨rfl, hDu, ⟨gu, h130u, hgu⟩, hF⟩ := hq
  have hMu := hM.w hF
  have h140u := (hF.1 140 (by decide) (by decide)).trans h140
  obtain ⟨f1, h100u⟩ := hMu.o
  refine z_istore dL_law_420 (by decide) ?_
  refine z_aload_n dL_law_422 rfl ?_
  refine z_callVX (m_compile hMu hV hEc) mL_101 dL_law_423 h100u rfl rfl rfl ⟨by decide, by decide⟩ (Nat.le_of_ble_eq_true rfl) ⟨by show cells + 1 + 0 ≤ 601024; omega, by show slots + 6 + 0 ≤ 7293033; omega⟩ (fun _ _ h => h.elim) (fun r v hq => ?_)
  obtain ⟨⟨z6, rfl⟩, hv6, hMv, hG⟩ := hq
  obtain ⟨f2, h100v⟩ := hMv.o
  have h130v := (hG 130 (Or.inr (by decide))).trans h130u
  have hI2 := LI.step h140 hDu hF ⟨gu, h130u⟩ hMv hG (vl_comp hV)
  have hC2 : CB (k + 1) v (cells + 1 + 0 + 0) (slots + 6 + 0 + 0) := hC.step (s70 hF hG) (by omega) (by omega)
  refine z_istore dL_law_426 (by decide) ?_
  refine z_aload_n dL_law_428 rfl ?_
  refine z_callVX (m_thrown hMv) mL_84 dL_law_429 h100v rfl rfl rfl ⟨by decide, by decide⟩ (Nat.le_of_ble_eq_true rfl) ⟨by show cells + 1 + 0 + 0 ≤ 601024; omega, by show slots + 6 + 0 + 0 ≤ 7293033; omega⟩ (fun _ _ h => h.elim) (fun r w hq => ?_)
  obtain ⟨rfl, rfl⟩ := hq
  refine z_iload dL_law_432 rfl ?_
  refine z_icmp_eq (tgt := 439) dL_law_434 (by decide) (fun _ => ?_) (fun h => absurd rfl h)
  refine z_iload dL_law_439 rfl ?_
  refine i_if_ne (tgt := 456) dL_law_441 (by decide) (c2r (l2_comp)) (fun h0 => ?_) (fun h0 => ?_)
  · refine z_goto (tgt := 1226) dL_law_456 (by decide) ?_
    exact K _ _ _ _ _ _ hI2 hC2
  · have hc0 := Int.ofNat.inj (show Int.ofNat _ = Int.ofNat 0 from h0)
    have e1 := hgu hc0
    have e2 := Value.int.inj (Option.some.inj (hv6 hc0))
    rw [hz hc0] at e1
    refine z_aload_n dL_law_444 rfl ?_
    refine i_iconst dL_law_445 rfl ?_
    refine z_lald dL_law_446 h130v 0 rfl (by decide) ?_
    refine z_iload dL_law_447 rfl ?_
    rw [e1, e2]
    refine z_i2lx dL_law_449 ?_
    refine z_lcmp dL_law_450 ?_
    refine z_if_eq (tgt := 456) dL_law_451 (by decide) (fun _ => ?_) (fun h => absurd (lc_self _) h)
    refine z_goto (tgt := 1226) dL_law_456 (by decide) ?_
    exact K _ _ _ _ _ _ hI2 hC2
theorem c_add {n k : Nat} {sc : Nat → Int} {σ : Wd} {a : AS} {o5 o6 : Option Value} {cells slots : Nat} (hI : LI n sc σ a) (hn : n ≤ 2048) (hk : 4 * k + 4 ≤ n) (hs : ∀ j, i32 (sc j)) (hC : CB k σ cells slots) (K : KN n sc k) : TL 459 (LL k o5 o6) [] σ cells slots := by
  obtain ⟨hD, ⟨t, hM⟩, hV, ⟨g, h130⟩, h140⟩ := hI
  have hb9 := hC.lim (by omega)
  obtain ⟨f0, h0⟩ := hD.o
  obtain ⟨f100, h100⟩ := hM.o
  refine z_aload_n dL_law_459 rfl ?_
  refine z_aload_n dL_law_460 rfl ?_
  refine z_iload dL_law_461 rfl ?_
  refine i_iconst dL_law_463 rfl ?_
  refine i_iadd dL_law_464 ?_
  refine i_xald dL_law_465 (by first | exact h140 | rfl) (4 * k + 1) (by omega) (by omega) (by omega) ?_
  refine z_aload_n dL_law_466 rfl ?_
  refine z_iload dL_law_467 rfl ?_
  refine i_iconst dL_law_469 rfl ?_
  refine i_iadd dL_law_470 ?_
  refine i_xald dL_law_471 (by first | exact h140 | rfl) (4 * k + 2) (by omega) (by omega) (by omega) ?_
  refine z_aload_n dL_law_472 rfl ?_
  refine z_callSW (w_add hD hV h130 (sc (4 * k + 1)) (sc (4 * k + 2)) (hs _) (hs _)) mL_102 dL_law_473 rfl rfl ⟨by decide, by decide⟩ (Nat.le_of_ble_eq_true rfl) ⟨by show cells + 1 ≤ 601024; omega, by show slots + 6 ≤ 7293033; omega⟩ (fun _ _ h => h.elim) (fun r u hq => ?_)
  obtain ⟨rfl, hDu, ⟨gu, h130u, hgu⟩, hF⟩ := hq
  have hMu := hM.w hF
  have h140u := (hF.1 140 (by decide) (by decide)).trans h140
  obtain ⟨f1, h100u⟩ := hMu.o
  refine z_istore dL_law_476 (by decide) ?_
  refine z_aload_n dL_law_478 rfl ?_
  refine z_aload_n dL_law_479 rfl ?_
  refine z_iload dL_law_480 rfl ?_
  refine i_iconst dL_law_482 rfl ?_
  refine i_iadd dL_law_483 ?_
  refine i_xald dL_law_484 (by first | exact h140u | rfl) (4 * k + 1) (by omega) (by omega) (by omega) ?_
  refine z_aload_n dL_law_485 rfl ?_
  refine z_iload dL_law_486 rfl ?_
  refine i_iconst dL_law_488 rfl ?_
  refine i_iadd dL_law_489 ?_
  refine i_xald dL_law_490 (by first | exact h140u | rfl) (4 * k + 2) (by omega) (by omega) (by omega) ?_
  refine z_callVX (m_add hMu hV (sc (4 * k + 1)) (sc (4 * k + 2)) (hs _) (hs _)) mL_104 dL_law_491 h100u rfl rfl rfl ⟨by decide, by decide⟩ (Nat.le_of_ble_eq_true rfl) ⟨by show cells + 1 + 0 ≤ 601024; omega, by show slots + 6 + 0 ≤ 7293033; omega⟩ (fun _ _ h => h.elim) (fun r v hq => ?_)
  obtain ⟨⟨z6, rfl⟩, hv6, hMv, hG⟩ := hq
  obtain ⟨f2, h100v⟩ := hMv.o
  have h130v := (hG 130 (Or.inr (by decide))).trans h130u
  have hI2 := LI.step h140 hDu hF ⟨gu, h130u⟩ hMv hG (vl_add hV _ _)
  have hC2 : CB (k + 1) v (cells + 1 + 0 + 0) (slots + 6 + 0 + 0) := hC.step (s70 hF hG) (by omega) (by omega)
  refine z_istore dL_law_494 (by decide) ?_
  refine z_aload_n dL_law_496 rfl ?_
  refine z_callVX (m_thrown hMv) mL_84 dL_law_497 h100v rfl rfl rfl ⟨by decide, by decide⟩ (Nat.le_of_ble_eq_true rfl) ⟨by show cells + 1 + 0 + 0 ≤ 601024; omega, by show slots + 6 + 0 + 0 ≤ 7293033; omega⟩ (fun _ _ h => h.elim) (fun r w hq => ?_)
  obtain ⟨rfl, rfl⟩ := hq
  refine z_iload dL_law_500 rfl ?_
  refine z_icmp_eq (tgt := 507) dL_law_502 (by decide) (fun _ => ?_) (fun h => absurd rfl h)
  refine z_iload dL_law_507 rfl ?_
  refine i_if_ne (tgt := 524) dL_law_509 (by decide) (c2r (l2_add _ _)) (fun h0 => ?_) (fun h0 => ?_)
  · refine z_goto (tgt := 1226) dL_law_524 (by decide) ?_
    exact K _ _ _ _ _ _ hI2 hC2
  · have hc0 := Int.ofNat.inj (show Int.ofNat _ = Int.ofNat 0 from h0)
    have e1 := hgu hc0
    have e2 := Value.int.inj (Option.some.inj (hv6 hc0))
    refine z_aload_n dL_law_512 rfl ?_
    refine i_iconst dL_law_513 rfl ?_
    refine z_lald dL_law_514 h130v 0 rfl (by decide) ?_
    refine z_iload dL_law_515 rfl ?_
    rw [e1, e2]
    refine z_i2lx dL_law_517 ?_
    refine z_lcmp dL_law_518 ?_
    refine z_if_eq (tgt := 524) dL_law_519 (by decide) (fun _ => ?_) (fun h => absurd (lc_self _) h)
    refine z_goto (tgt := 1226) dL_law_524 (by decide) ?_
    exact K _ _ _ _ _ _ hI2 hC2
theorem c_meet {n k : Nat} {sc : Nat → Int} {σ : Wd} {a : AS} {o5 o6 : Option Value} {cells slots : Nat} (hI : LI n sc σ a) (hn : n ≤ 2048) (hk : 4 * k + 4 ≤ n) (hs : ∀ j, i32 (sc j)) (hC : CB k σ cells slots) (K : KN n sc k) : TL 540 (LL k o5 o6) [] σ cells slots := by
  obtain ⟨hD, ⟨t, hM⟩, hV, ⟨g, h130⟩, h140⟩ := hI
  have hb9 := hC.lim (by omega)
  obtain ⟨f0, h0⟩ := hD.o
  obtain ⟨f100, h100⟩ := hM.o
  refine z_aload_n dL_law_540 rfl ?_
  refine z_aload_n dL_law_541 rfl ?_
  refine z_iload dL_law_542 rfl ?_
  refine i_iconst dL_law_544 rfl ?_
  refine i_iadd dL_law_545 ?_
  refine i_xald dL_law_546 (by first | exact h140 | rfl) (4 * k + 1) (by omega) (by omega) (by omega) ?_
  refine z_aload_n dL_law_547 rfl ?_
  refine z_iload dL_law_548 rfl ?_
  refine i_iconst dL_law_550 rfl ?_
  refine i_iadd dL_law_551 ?_
  refine i_xald dL_law_552 (by first | exact h140 | rfl) (4 * k + 2) (by omega) (by omega) (by omega) ?_
  refine z_aload_n dL_law_553 rfl ?_
  refine z_callSW (w_meet hD hV h130 (sc (4 * k + 1)) (sc (4 * k + 2)) (hs _) (hs _)) mL_109 dL_law_554 rfl rfl ⟨by decide, by decide⟩ (Nat.le_of_ble_eq_true rfl) ⟨by show cells + 1 ≤ 601024; omega, by show slots + 6 ≤ 7293033; omega⟩ (fun _ _ h => h.elim) (fun r u hq => ?_)
  obtain ⟨rfl, hDu, ⟨gu, h130u, hgu⟩, hF⟩ := hq
  have hMu := hM.w hF
  have h140u := (hF.1 140 (by decide) (by decide)).trans h140
  obtain ⟨f1, h100u⟩ := hMu.o
  refine z_istore dL_law_557 (by decide) ?_
  refine z_aload_n dL_law_559 rfl ?_
  refine z_aload_n dL_law_560 rfl ?_
  refine z_iload dL_law_561 rfl ?_
  refine i_iconst dL_law_563 rfl ?_
  refine i_iadd dL_law_564 ?_
  refine i_xald dL_law_565 (by first | exact h140u | rfl) (4 * k + 1) (by omega) (by omega) (by omega) ?_
  refine z_aload_n dL_law_566 rfl ?_
  refine z_iload dL_law_567 rfl ?_
  refine i_iconst dL_law_569 rfl ?_
  refine i_iadd dL_law_570 ?_
  refine i_xald dL_law_571 (by first | exact h140u | rfl) (4 * k + 2) (by omega) (by omega) (by omega) ?_
  refine z_callVX (m_meet hMu hV (sc (4 * k + 1)) (sc (4 * k + 2)) (hs _) (hs _)) mL_111 dL_law_572 h100u rfl rfl rfl ⟨by decide, by decide⟩ (Nat.le_of_ble_eq_true rfl) ⟨by show cells + 1 + 0 ≤ 601024; omega, by show slots + 6 + 0 ≤ 7293033; omega⟩ (fun _ _ h => h.elim) (fun r v hq => ?_)
  obtain ⟨⟨z6, rfl⟩, hv6, hMv, hG⟩ := hq
  obtain ⟨f2, h100v⟩ := hMv.o
  have h130v := (hG 130 (Or.inr (by decide))).trans h130u
  have hI2 := LI.step h140 hDu hF ⟨gu, h130u⟩ hMv hG (vl_meet hV _ _)
  have hC2 : CB (k + 1) v (cells + 1 + 0 + 0) (slots + 6 + 0 + 0) := hC.step (s70 hF hG) (by omega) (by omega)
  refine z_istore dL_law_575 (by decide) ?_
  refine z_aload_n dL_law_577 rfl ?_
  refine z_callVX (m_thrown hMv) mL_84 dL_law_578 h100v rfl rfl rfl ⟨by decide, by decide⟩ (Nat.le_of_ble_eq_true rfl) ⟨by show cells + 1 + 0 + 0 ≤ 601024; omega, by show slots + 6 + 0 + 0 ≤ 7293033; omega⟩ (fun _ _ h => h.elim) (fun r w hq => ?_)
  obtain ⟨rfl, rfl⟩ := hq
  refine z_iload dL_law_581 rfl ?_
  refine z_icmp_eq (tgt := 588) dL_law_583 (by decide) (fun _ => ?_) (fun h => absurd rfl h)
  refine z_iload dL_law_588 rfl ?_
  refine i_if_ne (tgt := 612) dL_law_590 (by decide) (c2r (l2_meet _ _)) (fun h0 => ?_) (fun h0 => ?_)
  · refine z_goto (tgt := 1226) dL_law_612 (by decide) ?_
    exact K _ _ _ _ _ _ hI2 hC2
  · have hc0 := Int.ofNat.inj (show Int.ofNat _ = Int.ofNat 0 from h0)
    have e1 := hgu hc0
    have e2 := Value.int.inj (Option.some.inj (hv6 hc0))
    refine z_aload_n dL_law_593 rfl ?_
    refine i_iconst dL_law_594 rfl ?_
    refine z_lald dL_law_595 h130v 0 rfl (by decide) ?_
    refine z_iload dL_law_596 rfl ?_
    rw [e1, e2]
    refine i_ifb_eq (tgt := 605) dL_law_598 (by decide) (fun hb => ?_) (fun hb => ?_)
    · refine z_lconst (v := lN 0) dL_law_605 rfl ?_
      rw [hb]
      refine z_lcmp dL_law_606 ?_
      refine z_if_eq (tgt := 612) dL_law_607 (by decide) (fun _ => ?_) (fun h => absurd lc_0 h)
      refine z_goto (tgt := 1226) dL_law_612 (by decide) ?_
      exact K _ _ _ _ _ _ hI2 hC2
    · refine z_lconst (v := lN 1) dL_law_601 rfl ?_
      refine z_goto (tgt := 606) dL_law_602 (by decide) ?_
      rw [hb]
      refine z_lcmp dL_law_606 ?_
      refine z_if_eq (tgt := 612) dL_law_607 (by decide) (fun _ => ?_) (fun h => absurd lc_1 h)
      refine z_goto (tgt := 1226) dL_law_612 (by decide) ?_
      exact K _ _ _ _ _ _ hI2 hC2
theorem c_sweep {n k : Nat} {sc : Nat → Int} {σ : Wd} {a : AS} {o5 o6 : Option Value} {cells slots : Nat} (hI : LI n sc σ a) (hn : n ≤ 2048) (hk : 4 * k + 4 ≤ n) (hs : ∀ j, i32 (sc j)) (hC : CB k σ cells slots) (K : KN n sc k) : TL 615 (LL k o5 o6) [] σ cells slots := by
  obtain ⟨hD, ⟨t, hM⟩, hV, ⟨g, h130⟩, h140⟩ := hI
  have hb9 := hC.lim (by omega)
  obtain ⟨f0, h0⟩ := hD.o
  obtain ⟨f100, h100⟩ := hM.o
  refine z_aload_n dL_law_615 rfl ?_
  refine z_aload_n dL_law_616 rfl ?_
  refine z_iload dL_law_617 rfl ?_
  refine i_iconst dL_law_619 rfl ?_
  refine i_iadd dL_law_620 ?_
  refine i_xald dL_law_621 (by first | exact h140 | rfl) (4 * k + 1) (by omega) (by omega) (by omega) ?_
  refine z_aload_n dL_law_622 rfl ?_
  refine z_callSW (w_sweep hD hV h130 (sc (4 * k + 1)) (hs _)) mL_112 dL_law_623 rfl rfl ⟨by decide, by decide⟩ (Nat.le_of_ble_eq_true rfl) ⟨by show cells + 1 ≤ 601024; omega, by show slots + 6 ≤ 7293033; omega⟩ (fun _ _ h => h.elim) (fun r u hq => ?_)
  obtain ⟨rfl, hDu, ⟨gu, h130u, hgu⟩, hF⟩ := hq
  have hMu := hM.w hF
  have h140u := (hF.1 140 (by decide) (by decide)).trans h140
  obtain ⟨f1, h100u⟩ := hMu.o
  refine z_istore dL_law_626 (by decide) ?_
  refine z_aload_n dL_law_628 rfl ?_
  refine z_aload_n dL_law_629 rfl ?_
  refine z_iload dL_law_630 rfl ?_
  refine i_iconst dL_law_632 rfl ?_
  refine i_iadd dL_law_633 ?_
  refine i_xald dL_law_634 (by first | exact h140u | rfl) (4 * k + 1) (by omega) (by omega) (by omega) ?_
  refine z_callVX (m_sweep hMu hV (sc (4 * k + 1)) (hs _)) mL_114 dL_law_635 h100u rfl rfl rfl ⟨by decide, by decide⟩ (Nat.le_of_ble_eq_true rfl) ⟨by show cells + 1 + 0 ≤ 601024; omega, by show slots + 6 + 0 ≤ 7293033; omega⟩ (fun _ _ h => h.elim) (fun r v hq => ?_)
  obtain ⟨⟨z6, rfl⟩, hv6, hMv, hG⟩ := hq
  obtain ⟨f2, h100v⟩ := hMv.o
  have h130v := (hG 130 (Or.inr (by decide))).trans h130u
  have hI2 := LI.step h140 hDu hF ⟨gu, h130u⟩ hMv hG (vl_sweep hV _)
  have hC2 : CB (k + 1) v (cells + 1 + 0 + 0) (slots + 6 + 0 + 0) := hC.step (s70 hF hG) (by omega) (by omega)
  refine z_istore dL_law_638 (by decide) ?_
  refine z_aload_n dL_law_640 rfl ?_
  refine z_callVX (m_thrown hMv) mL_84 dL_law_641 h100v rfl rfl rfl ⟨by decide, by decide⟩ (Nat.le_of_ble_eq_true rfl) ⟨by show cells + 1 + 0 + 0 ≤ 601024; omega, by show slots + 6 + 0 + 0 ≤ 7293033; omega⟩ (fun _ _ h => h.elim) (fun r w hq => ?_)
  obtain ⟨rfl, rfl⟩ := hq
  refine z_iload dL_law_644 rfl ?_
  refine z_icmp_eq (tgt := 651) dL_law_646 (by decide) (fun _ => ?_) (fun h => absurd rfl h)
  refine z_iload dL_law_651 rfl ?_
  refine i_if_ne (tgt := 668) dL_law_653 (by decide) (c2r (l2_sweep _)) (fun h0 => ?_) (fun h0 => ?_)
  · refine z_goto (tgt := 1226) dL_law_668 (by decide) ?_
    exact K _ _ _ _ _ _ hI2 hC2
  · have hc0 := Int.ofNat.inj (show Int.ofNat _ = Int.ofNat 0 from h0)
    have e1 := hgu hc0
    have e2 := Value.int.inj (Option.some.inj (hv6 hc0))
    refine z_aload_n dL_law_656 rfl ?_
    refine i_iconst dL_law_657 rfl ?_
    refine z_lald dL_law_658 h130v 0 rfl (by decide) ?_
    refine z_iload dL_law_659 rfl ?_
    rw [e1, e2]
    refine z_i2lx dL_law_661 ?_
    refine z_lcmp dL_law_662 ?_
    refine z_if_eq (tgt := 668) dL_law_663 (by decide) (fun _ => ?_) (fun h => absurd (lc_self _) h)
    refine z_goto (tgt := 1226) dL_law_668 (by decide) ?_
    exact K _ _ _ _ _ _ hI2 hC2

