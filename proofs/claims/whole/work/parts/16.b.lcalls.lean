/-! The law: its calls, one by one -/
set_option maxRecDepth 100000 in
set_option maxHeartbeats 4000000 in
theorem lw_feed {Γ : Cx} {L kc kn k : Nat} {xs : Nat → Int32} {I : MI} {J : MJ} {P : MP} (h : Vc RL cL_law 9 (some .boolean) 1000 Γ) (hx : Lx L xs Γ) (hkc : kc + 1 ≤ 601024) (hkn : kn + 6 ≤ 7293033) (hL : L ≤ 3072) (hk : k + 6 ≤ L) (hR : REL I J P) (K : ∀ I' J' P', REL I' J' P' → VG Γ (kc + 1) (kn + 6) 1447 [some (.ref 500), some (.ref 0), some (.ref 80), some (.ref 19), some (.int (nI k)), none, none, none, none] [] I' J' P' (LZ Γ)) : VG Γ kc kn 152 [some (.ref 500), some (.ref 0), some (.ref 80), some (.ref 19), some (.int (nI k)), none, none, none, none] [] I J P (LZ Γ) := by
  refine g_aload_1 h dL_law_152 ?_
  refine g_aload_0 h dL_law_153 ?_
  refine g_iload_4 h dL_law_154 ?_
  refine g_iconst h dL_law_156 (v := nI 1) rfl ?_
  refine g_iadd h dL_law_157 ?_
  refine g_xld h hx (k + 1) dL_law_158 (nI_add k 1) (by omega) (by omega) ?_
  refine g_aload_0 h dL_law_159 ?_
  refine g_iload_4 h dL_law_160 ?_
  refine g_iconst h dL_law_162 (v := nI 2) rfl ?_
  refine g_iadd h dL_law_163 ?_
  refine g_xld h hx (k + 2) dL_law_164 (nI_add k 2) (by omega) (by omega) ?_
  refine g_aload_0 h dL_law_165 ?_
  refine g_iload_4 h dL_law_166 ?_
  refine g_iconst h dL_law_168 (v := nI 3) rfl ?_
  refine g_iadd h dL_law_169 ?_
  refine g_xld h hx (k + 3) dL_law_170 (nI_add k 3) (by omega) (by omega) ?_
  refine g_aload_0 h dL_law_171 ?_
  refine g_iload_4 h dL_law_172 ?_
  refine g_iconst h dL_law_174 (v := nI 4) rfl ?_
  refine g_iadd h dL_law_175 ?_
  refine g_xld h hx (k + 4) dL_law_176 (nI_add k 4) (by omega) (by omega) ?_
  refine g_aload_0 h dL_law_177 ?_
  refine g_iload_4 h dL_law_178 ?_
  refine g_iconst h dL_law_180 (v := nI 5) rfl ?_
  refine g_iadd h dL_law_181 ?_
  refine g_xld h hx (k + 5) dL_law_182 (nI_add k 5) (by omega) (by omega) ?_
  refine g_aload_3 h dL_law_183 ?_
  refine g_help (As := [.ref 0, .int (xs (k + 1)), .int (xs (k + 2)), .int (xs (k + 3)), .int (xs (k + 4)), .int (xs (k + 5)), .ref 19]) h (lx_xl hx) (lx_rok hx hkc hkn) mh_feed dL_law_184 ml_L_76 (Nat.le_of_ble_eq_true rfl) rfl (Nat.le_of_ble_eq_true rfl) (sph_qi (ok_feed hR) (fun r5 I1 J1 P1 hq => ?_))
  show VG Γ (kc + 1) (kn + 6) 187 [some (.ref 500), some (.ref 0), some (.ref 80), some (.ref 19), some (.int (nI k)), none, none, none, none] [.int r5] I1 J1 P1 (LZ Γ)
  refine g_istore_5 h dL_law_187 (by decide) rfl ?_
  refine g_aload_2 h dL_law_189 ?_
  refine g_aload_0 h dL_law_190 ?_
  refine g_iload_4 h dL_law_191 ?_
  refine g_iconst h dL_law_193 (v := nI 1) rfl ?_
  refine g_iadd h dL_law_194 ?_
  refine g_xld h hx (k + 1) dL_law_195 (nI_add k 1) (by omega) (by omega) ?_
  refine g_aload_0 h dL_law_196 ?_
  refine g_iload_4 h dL_law_197 ?_
  refine g_iconst h dL_law_199 (v := nI 2) rfl ?_
  refine g_iadd h dL_law_200 ?_
  refine g_xld h hx (k + 2) dL_law_201 (nI_add k 2) (by omega) (by omega) ?_
  refine g_aload_0 h dL_law_202 ?_
  refine g_iload_4 h dL_law_203 ?_
  refine g_iconst h dL_law_205 (v := nI 3) rfl ?_
  refine g_iadd h dL_law_206 ?_
  refine g_xld h hx (k + 3) dL_law_207 (nI_add k 3) (by omega) (by omega) ?_
  refine g_aload_0 h dL_law_208 ?_
  refine g_iload_4 h dL_law_209 ?_
  refine g_iconst h dL_law_211 (v := nI 4) rfl ?_
  refine g_iadd h dL_law_212 ?_
  refine g_xld h hx (k + 4) dL_law_213 (nI_add k 4) (by omega) (by omega) ?_
  refine g_aload_0 h dL_law_214 ?_
  refine g_iload_4 h dL_law_215 ?_
  refine g_iconst h dL_law_217 (v := nI 5) rfl ?_
  refine g_iadd h dL_law_218 ?_
  refine g_xld h hx (k + 5) dL_law_219 (nI_add k 5) (by omega) (by omega) ?_
  refine g_cVi5 h (lx_rok hx hkc hkn) mi_X12_feed dL_law_220 ml_L_81 rfl rfl rfl (Nat.le_of_ble_eq_true rfl) (Nat.le_of_ble_eq_true rfl) (sp_qi hq (fun r6 I2 J2 P2 hf => ?_))
  refine g_istore_6 h dL_law_223 (by decide) rfl ?_
  refine g_aload_2 h dL_law_225 ?_
  refine g_cVi0 h (lx_rok hx hkc hkn) mi_X12_thrown dL_law_226 ml_L_82 rfl rfl rfl (Nat.le_of_ble_eq_true rfl) (Nat.le_of_ble_eq_true rfl) (sp_X12_thrown ?_)
  refine g_iload_5 h dL_law_229 ?_
  refine g_icmp_eq h 236 dL_law_231 rfl (fun _ => ?_) (fun c => absurd hf.1 c)
  refine g_iload_5 h dL_law_236 ?_
  refine g_if_ne h 253 dL_law_238 rfl (fun c0 => ?_) (fun c0 => ?_)
  · refine g_goto h 1447 dL_law_253 rfl ?_
    exact vg_none (K I2 J2 P2 hf.2.2)
  · skip
    refine g_aload_3 h dL_law_241 ?_
    refine g_iconst h dL_law_242 (v := nI 0) rfl ?_
    refine g_lald h 0 dL_law_243 rfl rfl (by decide) ?_
    refine g_iload_6 h dL_law_244 ?_
    refine g_i2l h dL_law_246 ?_
    refine g_lcmp h dL_law_247 ?_
    rw [hf.2.1 c0, lcmp_self]
    refine g_if_eq h 253 dL_law_248 rfl (fun _ => ?_) (fun c => absurd rfl c)
    refine g_goto h 1447 dL_law_253 rfl ?_
    exact vg_none (K I2 J2 P2 hf.2.2)
set_option maxRecDepth 100000 in
set_option maxHeartbeats 4000000 in
theorem lw_trim {Γ : Cx} {L kc kn k : Nat} {xs : Nat → Int32} {I : MI} {J : MJ} {P : MP} (h : Vc RL cL_law 9 (some .boolean) 1000 Γ) (hx : Lx L xs Γ) (hkc : kc + 1 ≤ 601024) (hkn : kn + 6 ≤ 7293033) (hL : L ≤ 3072) (hk : k + 6 ≤ L) (hR : REL I J P) (K : ∀ I' J' P', REL I' J' P' → VG Γ (kc + 1) (kn + 6) 1447 [some (.ref 500), some (.ref 0), some (.ref 80), some (.ref 19), some (.int (nI k)), none, none, none, none] [] I' J' P' (LZ Γ)) : VG Γ kc kn 256 [some (.ref 500), some (.ref 0), some (.ref 80), some (.ref 19), some (.int (nI k)), none, none, none, none] [] I J P (LZ Γ) := by
  refine g_aload_1 h dL_law_256 ?_
  refine g_aload_0 h dL_law_257 ?_
  refine g_iload_4 h dL_law_258 ?_
  refine g_iconst h dL_law_260 (v := nI 1) rfl ?_
  refine g_iadd h dL_law_261 ?_
  refine g_xld h hx (k + 1) dL_law_262 (nI_add k 1) (by omega) (by omega) ?_
  refine g_aload_3 h dL_law_263 ?_
  refine g_help (As := [.ref 0, .int (xs (k + 1)), .ref 19]) h (lx_xl hx) (lx_rok hx hkc hkn) mh_trim dL_law_264 ml_L_86 (Nat.le_of_ble_eq_true rfl) rfl (Nat.le_of_ble_eq_true rfl) (sph_qi (ok_trim hR) (fun r5 I1 J1 P1 hq => ?_))
  show VG Γ (kc + 1) (kn + 6) 267 [some (.ref 500), some (.ref 0), some (.ref 80), some (.ref 19), some (.int (nI k)), none, none, none, none] [.int r5] I1 J1 P1 (LZ Γ)
  refine g_istore_5 h dL_law_267 (by decide) rfl ?_
  refine g_aload_2 h dL_law_269 ?_
  refine g_aload_0 h dL_law_270 ?_
  refine g_iload_4 h dL_law_271 ?_
  refine g_iconst h dL_law_273 (v := nI 1) rfl ?_
  refine g_iadd h dL_law_274 ?_
  refine g_xld h hx (k + 1) dL_law_275 (nI_add k 1) (by omega) (by omega) ?_
  refine g_cVi1 h (lx_rok hx hkc hkn) mi_X12_trim dL_law_276 ml_L_89 rfl rfl rfl (Nat.le_of_ble_eq_true rfl) (Nat.le_of_ble_eq_true rfl) (sp_qi hq (fun r6 I2 J2 P2 hf => ?_))
  refine g_istore_6 h dL_law_279 (by decide) rfl ?_
  refine g_aload_2 h dL_law_281 ?_
  refine g_cVi0 h (lx_rok hx hkc hkn) mi_X12_thrown dL_law_282 ml_L_82 rfl rfl rfl (Nat.le_of_ble_eq_true rfl) (Nat.le_of_ble_eq_true rfl) (sp_X12_thrown ?_)
  refine g_iload_5 h dL_law_285 ?_
  refine g_icmp_eq h 292 dL_law_287 rfl (fun _ => ?_) (fun c => absurd hf.1 c)
  refine g_iload_5 h dL_law_292 ?_
  refine g_if_ne h 309 dL_law_294 rfl (fun c0 => ?_) (fun c0 => ?_)
  · refine g_goto h 1447 dL_law_309 rfl ?_
    exact vg_none (K I2 J2 P2 hf.2.2)
  · skip
    refine g_aload_3 h dL_law_297 ?_
    refine g_iconst h dL_law_298 (v := nI 0) rfl ?_
    refine g_lald h 0 dL_law_299 rfl rfl (by decide) ?_
    refine g_iload_6 h dL_law_300 ?_
    refine g_i2l h dL_law_302 ?_
    refine g_lcmp h dL_law_303 ?_
    rw [hf.2.1 c0, lcmp_self]
    refine g_if_eq h 309 dL_law_304 rfl (fun _ => ?_) (fun c => absurd rfl c)
    refine g_goto h 1447 dL_law_309 rfl ?_
    exact vg_none (K I2 J2 P2 hf.2.2)
set_option maxRecDepth 100000 in
set_option maxHeartbeats 4000000 in
theorem lw_teach {Γ : Cx} {L kc kn k : Nat} {xs : Nat → Int32} {I : MI} {J : MJ} {P : MP} (h : Vc RL cL_law 9 (some .boolean) 1000 Γ) (hx : Lx L xs Γ) (hkc : kc ≤ 601024) (hkn : kn ≤ 7293033) (hL : L ≤ 3072) (hk : k + 6 ≤ L) (hR : REL I J P) (K : ∀ I' J' P', REL I' J' P' → VG Γ kc kn 1447 [some (.ref 500), some (.ref 0), some (.ref 80), some (.ref 19), some (.int (nI k)), none, none, none, none] [] I' J' P' (LZ Γ)) (K2 : ∀ I' J' P', REL I' J' P' → VG (cxR Γ) kc kn 1447 [some (.ref 500), some (.ref 0), some (.ref 80), some (.ref 19), some (.int (nI k)), none, none, none, none] [] I' J' P' (LZ Γ)) : VG Γ kc kn 312 [some (.ref 500), some (.ref 0), some (.ref 80), some (.ref 19), some (.int (nI k)), none, none, none, none] [] I J P (LZ Γ) := by
  refine g_aload_1 h dL_law_312 ?_
  refine g_cVi0 h (lx_rok hx hkc hkn) mi_X10_teach dL_law_313 ml_L_90 rfl rfl rfl (Nat.le_of_ble_eq_true rfl) (Nat.le_of_ble_eq_true rfl) (sp_qi (ok_teach hR) (fun r I1 J1 P1 hq => ?_))
  refine g_aload_2 h dL_law_316 ?_
  refine g_cVi0 h (lx_rok hx hkc hkn) mi_X12_teach dL_law_317 ml_L_93 rfl rfl rfl (Nat.le_of_ble_eq_true rfl) (Nat.le_of_ble_eq_true rfl) (sp_qi hq (fun r6 I2 J2 P2 hf => ?_))
  refine g_icmp_eq h 1447 dL_law_320 rfl (fun _ => ?_) (fun c => absurd hf.1 c)
  rcases hf.2 with q | q
  · exact K I2 J2 P2 q
  · exact vg_ren (fun _ => rfl) (K2 _ _ _ q)
set_option maxRecDepth 100000 in
set_option maxHeartbeats 4000000 in
theorem lw_errorAt {Γ : Cx} {L kc kn k : Nat} {xs : Nat → Int32} {I : MI} {J : MJ} {P : MP} (h : Vc RL cL_law 9 (some .boolean) 1000 Γ) (hx : Lx L xs Γ) (hkc : kc ≤ 601024) (hkn : kn ≤ 7293033) (hL : L ≤ 3072) (hk : k + 6 ≤ L) (hR : REL I J P) (K : ∀ I' J' P', REL I' J' P' → VG Γ kc kn 1447 [some (.ref 500), some (.ref 0), some (.ref 80), some (.ref 19), some (.int (nI k)), none, none, none, none] [] I' J' P' (LZ Γ)) : VG Γ kc kn 325 [some (.ref 500), some (.ref 0), some (.ref 80), some (.ref 19), some (.int (nI k)), none, none, none, none] [] I J P (LZ Γ) := by
  refine g_aload_1 h dL_law_325 ?_
  refine g_cVi0 h (lx_rok hx hkc hkn) mi_X10_errorAt dL_law_326 ml_L_94 rfl rfl rfl (Nat.le_of_ble_eq_true rfl) (Nat.le_of_ble_eq_true rfl) (sp_qi (ok_errorAt hR) (fun r I1 J1 P1 hq => ?_))
  refine g_aload_2 h dL_law_329 ?_
  refine g_cVi0 h (lx_rok hx hkc hkn) mi_X12_errorAt dL_law_330 ml_L_97 rfl rfl rfl (Nat.le_of_ble_eq_true rfl) (Nat.le_of_ble_eq_true rfl) (sp_qi hq (fun r6 I2 J2 P2 hf => ?_))
  refine g_icmp_eq h 1447 dL_law_333 rfl (fun _ => ?_) (fun c => absurd hf.1 c)
  exact vg_none (K I2 J2 P2 hf.2)
set_option maxRecDepth 100000 in
set_option maxHeartbeats 4000000 in
theorem lw_count {Γ : Cx} {L kc kn k : Nat} {xs : Nat → Int32} {I : MI} {J : MJ} {P : MP} (h : Vc RL cL_law 9 (some .boolean) 1000 Γ) (hx : Lx L xs Γ) (hkc : kc + 1 ≤ 601024) (hkn : kn + 6 ≤ 7293033) (hL : L ≤ 3072) (hk : k + 6 ≤ L) (hR : REL I J P) (K : ∀ I' J' P', REL I' J' P' → VG Γ (kc + 1) (kn + 6) 1447 [some (.ref 500), some (.ref 0), some (.ref 80), some (.ref 19), some (.int (nI k)), none, none, none, none] [] I' J' P' (LZ Γ)) : VG Γ kc kn 338 [some (.ref 500), some (.ref 0), some (.ref 80), some (.ref 19), some (.int (nI k)), none, none, none, none] [] I J P (LZ Γ) := by
  refine g_aload_1 h dL_law_338 ?_
  refine g_aload_0 h dL_law_339 ?_
  refine g_iload_4 h dL_law_340 ?_
  refine g_iconst h dL_law_342 (v := nI 1) rfl ?_
  refine g_iadd h dL_law_343 ?_
  refine g_xld h hx (k + 1) dL_law_344 (nI_add k 1) (by omega) (by omega) ?_
  refine g_aload_3 h dL_law_345 ?_
  refine g_help (As := [.ref 0, .int (xs (k + 1)), .ref 19]) h (lx_xl hx) (lx_rok hx hkc hkn) mh_count dL_law_346 ml_L_98 (Nat.le_of_ble_eq_true rfl) rfl (Nat.le_of_ble_eq_true rfl) (sph_qi (ok_count hR) (fun r5 I1 J1 P1 hq => ?_))
  show VG Γ (kc + 1) (kn + 6) 349 [some (.ref 500), some (.ref 0), some (.ref 80), some (.ref 19), some (.int (nI k)), none, none, none, none] [.int r5] I1 J1 P1 (LZ Γ)
  refine g_istore_5 h dL_law_349 (by decide) rfl ?_
  refine g_aload_2 h dL_law_351 ?_
  refine g_aload_0 h dL_law_352 ?_
  refine g_iload_4 h dL_law_353 ?_
  refine g_iconst h dL_law_355 (v := nI 1) rfl ?_
  refine g_iadd h dL_law_356 ?_
  refine g_xld h hx (k + 1) dL_law_357 (nI_add k 1) (by omega) (by omega) ?_
  refine g_cVi1 h (lx_rok hx hkc hkn) mi_X12_count dL_law_358 ml_L_100 rfl rfl rfl (Nat.le_of_ble_eq_true rfl) (Nat.le_of_ble_eq_true rfl) (sp_qi hq (fun r6 I2 J2 P2 hf => ?_))
  refine g_istore_6 h dL_law_361 (by decide) rfl ?_
  refine g_aload_2 h dL_law_363 ?_
  refine g_cVi0 h (lx_rok hx hkc hkn) mi_X12_thrown dL_law_364 ml_L_82 rfl rfl rfl (Nat.le_of_ble_eq_true rfl) (Nat.le_of_ble_eq_true rfl) (sp_X12_thrown ?_)
  refine g_iload_5 h dL_law_367 ?_
  refine g_icmp_eq h 374 dL_law_369 rfl (fun _ => ?_) (fun c => absurd hf.1 c)
  refine g_iload_5 h dL_law_374 ?_
  refine g_if_ne h 391 dL_law_376 rfl (fun c0 => ?_) (fun c0 => ?_)
  · refine g_goto h 1447 dL_law_391 rfl ?_
    exact vg_none (K I2 J2 P2 hf.2.2)
  · skip
    refine g_aload_3 h dL_law_379 ?_
    refine g_iconst h dL_law_380 (v := nI 0) rfl ?_
    refine g_lald h 0 dL_law_381 rfl rfl (by decide) ?_
    refine g_iload_6 h dL_law_382 ?_
    refine g_i2l h dL_law_384 ?_
    refine g_lcmp h dL_law_385 ?_
    rw [hf.2.1 c0, lcmp_self]
    refine g_if_eq h 391 dL_law_386 rfl (fun _ => ?_) (fun c => absurd rfl c)
    refine g_goto h 1447 dL_law_391 rfl ?_
    exact vg_none (K I2 J2 P2 hf.2.2)
set_option maxRecDepth 100000 in
set_option maxHeartbeats 4000000 in
theorem lw_colour {Γ : Cx} {L kc kn k : Nat} {xs : Nat → Int32} {I : MI} {J : MJ} {P : MP} (h : Vc RL cL_law 9 (some .boolean) 1000 Γ) (hx : Lx L xs Γ) (hkc : kc + 1 ≤ 601024) (hkn : kn + 6 ≤ 7293033) (hL : L ≤ 3072) (hk : k + 6 ≤ L) (hR : REL I J P) (K : ∀ I' J' P', REL I' J' P' → VG Γ (kc + 1) (kn + 6) 1447 [some (.ref 500), some (.ref 0), some (.ref 80), some (.ref 19), some (.int (nI k)), none, none, none, none] [] I' J' P' (LZ Γ)) : VG Γ kc kn 394 [some (.ref 500), some (.ref 0), some (.ref 80), some (.ref 19), some (.int (nI k)), none, none, none, none] [] I J P (LZ Γ) := by
  refine g_aload_1 h dL_law_394 ?_
  refine g_aload_0 h dL_law_395 ?_
  refine g_iload_4 h dL_law_396 ?_
  refine g_iconst h dL_law_398 (v := nI 1) rfl ?_
  refine g_iadd h dL_law_399 ?_
  refine g_xld h hx (k + 1) dL_law_400 (nI_add k 1) (by omega) (by omega) ?_
  refine g_aload_0 h dL_law_401 ?_
  refine g_iload_4 h dL_law_402 ?_
  refine g_iconst h dL_law_404 (v := nI 2) rfl ?_
  refine g_iadd h dL_law_405 ?_
  refine g_xld h hx (k + 2) dL_law_406 (nI_add k 2) (by omega) (by omega) ?_
  refine g_aload_3 h dL_law_407 ?_
  refine g_help (As := [.ref 0, .int (xs (k + 1)), .int (xs (k + 2)), .ref 19]) h (lx_xl hx) (lx_rok hx hkc hkn) mh_colour dL_law_408 ml_L_101 (Nat.le_of_ble_eq_true rfl) rfl (Nat.le_of_ble_eq_true rfl) (sph_qi (ok_colour hR) (fun r5 I1 J1 P1 hq => ?_))
  show VG Γ (kc + 1) (kn + 6) 411 [some (.ref 500), some (.ref 0), some (.ref 80), some (.ref 19), some (.int (nI k)), none, none, none, none] [.int r5] I1 J1 P1 (LZ Γ)
  refine g_istore_5 h dL_law_411 (by decide) rfl ?_
  refine g_aload_2 h dL_law_413 ?_
  refine g_aload_0 h dL_law_414 ?_
  refine g_iload_4 h dL_law_415 ?_
  refine g_iconst h dL_law_417 (v := nI 1) rfl ?_
  refine g_iadd h dL_law_418 ?_
  refine g_xld h hx (k + 1) dL_law_419 (nI_add k 1) (by omega) (by omega) ?_
  refine g_aload_0 h dL_law_420 ?_
  refine g_iload_4 h dL_law_421 ?_
  refine g_iconst h dL_law_423 (v := nI 2) rfl ?_
  refine g_iadd h dL_law_424 ?_
  refine g_xld h hx (k + 2) dL_law_425 (nI_add k 2) (by omega) (by omega) ?_
  refine g_cVi2 h (lx_rok hx hkc hkn) mi_X12_colour dL_law_426 ml_L_104 rfl rfl rfl (Nat.le_of_ble_eq_true rfl) (Nat.le_of_ble_eq_true rfl) (sp_qi hq (fun r6 I2 J2 P2 hf => ?_))
  refine g_istore_6 h dL_law_429 (by decide) rfl ?_
  refine g_aload_2 h dL_law_431 ?_
  refine g_cVi0 h (lx_rok hx hkc hkn) mi_X12_thrown dL_law_432 ml_L_82 rfl rfl rfl (Nat.le_of_ble_eq_true rfl) (Nat.le_of_ble_eq_true rfl) (sp_X12_thrown ?_)
  refine g_iload_5 h dL_law_435 ?_
  refine g_icmp_eq h 442 dL_law_437 rfl (fun _ => ?_) (fun c => absurd hf.1 c)
  refine g_iload_5 h dL_law_442 ?_
  refine g_if_ne h 459 dL_law_444 rfl (fun c0 => ?_) (fun c0 => ?_)
  · refine g_goto h 1447 dL_law_459 rfl ?_
    exact vg_none (K I2 J2 P2 hf.2.2)
  · skip
    refine g_aload_3 h dL_law_447 ?_
    refine g_iconst h dL_law_448 (v := nI 0) rfl ?_
    refine g_lald h 0 dL_law_449 rfl rfl (by decide) ?_
    refine g_iload_6 h dL_law_450 ?_
    refine g_i2l h dL_law_452 ?_
    refine g_lcmp h dL_law_453 ?_
    rw [hf.2.1 c0, lcmp_self]
    refine g_if_eq h 459 dL_law_454 rfl (fun _ => ?_) (fun c => absurd rfl c)
    refine g_goto h 1447 dL_law_459 rfl ?_
    exact vg_none (K I2 J2 P2 hf.2.2)
set_option maxRecDepth 100000 in
set_option maxHeartbeats 4000000 in
theorem lw_cord {Γ : Cx} {L kc kn k : Nat} {xs : Nat → Int32} {I : MI} {J : MJ} {P : MP} (h : Vc RL cL_law 9 (some .boolean) 1000 Γ) (hx : Lx L xs Γ) (hkc : kc + 1 ≤ 601024) (hkn : kn + 6 ≤ 7293033) (hL : L ≤ 3072) (hk : k + 6 ≤ L) (hR : REL I J P) (K : ∀ I' J' P', REL I' J' P' → VG Γ (kc + 1) (kn + 6) 1447 [some (.ref 500), some (.ref 0), some (.ref 80), some (.ref 19), some (.int (nI k)), none, none, none, none] [] I' J' P' (LZ Γ)) : VG Γ kc kn 462 [some (.ref 500), some (.ref 0), some (.ref 80), some (.ref 19), some (.int (nI k)), none, none, none, none] [] I J P (LZ Γ) := by
  refine g_aload_1 h dL_law_462 ?_
  refine g_aload_0 h dL_law_463 ?_
  refine g_iload_4 h dL_law_464 ?_
  refine g_iconst h dL_law_466 (v := nI 1) rfl ?_
  refine g_iadd h dL_law_467 ?_
  refine g_xld h hx (k + 1) dL_law_468 (nI_add k 1) (by omega) (by omega) ?_
  refine g_aload_0 h dL_law_469 ?_
  refine g_iload_4 h dL_law_470 ?_
  refine g_iconst h dL_law_472 (v := nI 2) rfl ?_
  refine g_iadd h dL_law_473 ?_
  refine g_xld h hx (k + 2) dL_law_474 (nI_add k 2) (by omega) (by omega) ?_
  refine g_aload_3 h dL_law_475 ?_
  refine g_help (As := [.ref 0, .int (xs (k + 1)), .int (xs (k + 2)), .ref 19]) h (lx_xl hx) (lx_rok hx hkc hkn) mh_cord dL_law_476 ml_L_105 (Nat.le_of_ble_eq_true rfl) rfl (Nat.le_of_ble_eq_true rfl) (sph_qi (ok_cord hR) (fun r5 I1 J1 P1 hq => ?_))
  show VG Γ (kc + 1) (kn + 6) 479 [some (.ref 500), some (.ref 0), some (.ref 80), some (.ref 19), some (.int (nI k)), none, none, none, none] [.int r5] I1 J1 P1 (LZ Γ)
  refine g_istore_5 h dL_law_479 (by decide) rfl ?_
  refine g_aload_2 h dL_law_481 ?_
  refine g_aload_0 h dL_law_482 ?_
  refine g_iload_4 h dL_law_483 ?_
  refine g_iconst h dL_law_485 (v := nI 1) rfl ?_
  refine g_iadd h dL_law_486 ?_
  refine g_xld h hx (k + 1) dL_law_487 (nI_add k 1) (by omega) (by omega) ?_
  refine g_aload_0 h dL_law_488 ?_
  refine g_iload_4 h dL_law_489 ?_
  refine g_iconst h dL_law_491 (v := nI 2) rfl ?_
  refine g_iadd h dL_law_492 ?_
  refine g_xld h hx (k + 2) dL_law_493 (nI_add k 2) (by omega) (by omega) ?_
  refine g_cVi2 h (lx_rok hx hkc hkn) mi_X12_cord dL_law_494 ml_L_107 rfl rfl rfl (Nat.le_of_ble_eq_true rfl) (Nat.le_of_ble_eq_true rfl) (sp_qi hq (fun r6 I2 J2 P2 hf => ?_))
  refine g_istore_6 h dL_law_497 (by decide) rfl ?_
  refine g_aload_2 h dL_law_499 ?_
  refine g_cVi0 h (lx_rok hx hkc hkn) mi_X12_thrown dL_law_500 ml_L_82 rfl rfl rfl (Nat.le_of_ble_eq_true rfl) (Nat.le_of_ble_eq_true rfl) (sp_X12_thrown ?_)
  refine g_iload_5 h dL_law_503 ?_
  refine g_icmp_eq h 510 dL_law_505 rfl (fun _ => ?_) (fun c => absurd hf.1 c)
  refine g_iload_5 h dL_law_510 ?_
  refine g_if_ne h 527 dL_law_512 rfl (fun c0 => ?_) (fun c0 => ?_)
  · refine g_goto h 1447 dL_law_527 rfl ?_
    exact vg_none (K I2 J2 P2 hf.2.2)
  · skip
    refine g_aload_3 h dL_law_515 ?_
    refine g_iconst h dL_law_516 (v := nI 0) rfl ?_
    refine g_lald h 0 dL_law_517 rfl rfl (by decide) ?_
    refine g_iload_6 h dL_law_518 ?_
    refine g_i2l h dL_law_520 ?_
    refine g_lcmp h dL_law_521 ?_
    rw [hf.2.1 c0, lcmp_self]
    refine g_if_eq h 527 dL_law_522 rfl (fun _ => ?_) (fun c => absurd rfl c)
    refine g_goto h 1447 dL_law_527 rfl ?_
    exact vg_none (K I2 J2 P2 hf.2.2)
set_option maxRecDepth 100000 in
set_option maxHeartbeats 4000000 in
theorem lw_digit {Γ : Cx} {L kc kn k : Nat} {xs : Nat → Int32} {I : MI} {J : MJ} {P : MP} (h : Vc RL cL_law 9 (some .boolean) 1000 Γ) (hx : Lx L xs Γ) (hkc : kc + 1 ≤ 601024) (hkn : kn + 6 ≤ 7293033) (hL : L ≤ 3072) (hk : k + 6 ≤ L) (hR : REL I J P) (K : ∀ I' J' P', REL I' J' P' → VG Γ (kc + 1) (kn + 6) 1447 [some (.ref 500), some (.ref 0), some (.ref 80), some (.ref 19), some (.int (nI k)), none, none, none, none] [] I' J' P' (LZ Γ)) : VG Γ kc kn 530 [some (.ref 500), some (.ref 0), some (.ref 80), some (.ref 19), some (.int (nI k)), none, none, none, none] [] I J P (LZ Γ) := by
  refine g_aload_1 h dL_law_530 ?_
  refine g_aload_0 h dL_law_531 ?_
  refine g_iload_4 h dL_law_532 ?_
  refine g_iconst h dL_law_534 (v := nI 1) rfl ?_
  refine g_iadd h dL_law_535 ?_
  refine g_xld h hx (k + 1) dL_law_536 (nI_add k 1) (by omega) (by omega) ?_
  refine g_aload_0 h dL_law_537 ?_
  refine g_iload_4 h dL_law_538 ?_
  refine g_iconst h dL_law_540 (v := nI 2) rfl ?_
  refine g_iadd h dL_law_541 ?_
  refine g_xld h hx (k + 2) dL_law_542 (nI_add k 2) (by omega) (by omega) ?_
  refine g_aload_3 h dL_law_543 ?_
  refine g_help (As := [.ref 0, .int (xs (k + 1)), .int (xs (k + 2)), .ref 19]) h (lx_xl hx) (lx_rok hx hkc hkn) mh_digit dL_law_544 ml_L_108 (Nat.le_of_ble_eq_true rfl) rfl (Nat.le_of_ble_eq_true rfl) (sph_qi (ok_digit hR) (fun r5 I1 J1 P1 hq => ?_))
  show VG Γ (kc + 1) (kn + 6) 547 [some (.ref 500), some (.ref 0), some (.ref 80), some (.ref 19), some (.int (nI k)), none, none, none, none] [.int r5] I1 J1 P1 (LZ Γ)
  refine g_istore_5 h dL_law_547 (by decide) rfl ?_
  refine g_aload_2 h dL_law_549 ?_
  refine g_aload_0 h dL_law_550 ?_
  refine g_iload_4 h dL_law_551 ?_
  refine g_iconst h dL_law_553 (v := nI 1) rfl ?_
  refine g_iadd h dL_law_554 ?_
  refine g_xld h hx (k + 1) dL_law_555 (nI_add k 1) (by omega) (by omega) ?_
  refine g_aload_0 h dL_law_556 ?_
  refine g_iload_4 h dL_law_557 ?_
  refine g_iconst h dL_law_559 (v := nI 2) rfl ?_
  refine g_iadd h dL_law_560 ?_
  refine g_xld h hx (k + 2) dL_law_561 (nI_add k 2) (by omega) (by omega) ?_
  refine g_cVi2 h (lx_rok hx hkc hkn) mi_X12_digit dL_law_562 ml_L_110 rfl rfl rfl (Nat.le_of_ble_eq_true rfl) (Nat.le_of_ble_eq_true rfl) (sp_qi hq (fun r6 I2 J2 P2 hf => ?_))
  refine g_istore_6 h dL_law_565 (by decide) rfl ?_
  refine g_aload_2 h dL_law_567 ?_
  refine g_cVi0 h (lx_rok hx hkc hkn) mi_X12_thrown dL_law_568 ml_L_82 rfl rfl rfl (Nat.le_of_ble_eq_true rfl) (Nat.le_of_ble_eq_true rfl) (sp_X12_thrown ?_)
  refine g_iload_5 h dL_law_571 ?_
  refine g_icmp_eq h 578 dL_law_573 rfl (fun _ => ?_) (fun c => absurd hf.1 c)
  refine g_iload_5 h dL_law_578 ?_
  refine g_if_ne h 595 dL_law_580 rfl (fun c0 => ?_) (fun c0 => ?_)
  · refine g_goto h 1447 dL_law_595 rfl ?_
    exact vg_none (K I2 J2 P2 hf.2.2)
  · skip
    refine g_aload_3 h dL_law_583 ?_
    refine g_iconst h dL_law_584 (v := nI 0) rfl ?_
    refine g_lald h 0 dL_law_585 rfl rfl (by decide) ?_
    refine g_iload_6 h dL_law_586 ?_
    refine g_i2l h dL_law_588 ?_
    refine g_lcmp h dL_law_589 ?_
    rw [hf.2.1 c0, lcmp_self]
    refine g_if_eq h 595 dL_law_590 rfl (fun _ => ?_) (fun c => absurd rfl c)
    refine g_goto h 1447 dL_law_595 rfl ?_
    exact vg_none (K I2 J2 P2 hf.2.2)
set_option maxRecDepth 100000 in
set_option maxHeartbeats 4000000 in
theorem lw_top {Γ : Cx} {L kc kn k : Nat} {xs : Nat → Int32} {I : MI} {J : MJ} {P : MP} (h : Vc RL cL_law 9 (some .boolean) 1000 Γ) (hx : Lx L xs Γ) (hkc : kc + 1 ≤ 601024) (hkn : kn + 6 ≤ 7293033) (hL : L ≤ 3072) (hk : k + 6 ≤ L) (hR : REL I J P) (K : ∀ I' J' P', REL I' J' P' → VG Γ (kc + 1) (kn + 6) 1447 [some (.ref 500), some (.ref 0), some (.ref 80), some (.ref 19), some (.int (nI k)), none, none, none, none] [] I' J' P' (LZ Γ)) : VG Γ kc kn 598 [some (.ref 500), some (.ref 0), some (.ref 80), some (.ref 19), some (.int (nI k)), none, none, none, none] [] I J P (LZ Γ) := by
  refine g_aload_1 h dL_law_598 ?_
  refine g_aload_0 h dL_law_599 ?_
  refine g_iload_4 h dL_law_600 ?_
  refine g_iconst h dL_law_602 (v := nI 1) rfl ?_
  refine g_iadd h dL_law_603 ?_
  refine g_xld h hx (k + 1) dL_law_604 (nI_add k 1) (by omega) (by omega) ?_
  refine g_aload_0 h dL_law_605 ?_
  refine g_iload_4 h dL_law_606 ?_
  refine g_iconst h dL_law_608 (v := nI 2) rfl ?_
  refine g_iadd h dL_law_609 ?_
  refine g_xld h hx (k + 2) dL_law_610 (nI_add k 2) (by omega) (by omega) ?_
  refine g_aload_3 h dL_law_611 ?_
  refine g_help (As := [.ref 0, .int (xs (k + 1)), .int (xs (k + 2)), .ref 19]) h (lx_xl hx) (lx_rok hx hkc hkn) mh_top dL_law_612 ml_L_111 (Nat.le_of_ble_eq_true rfl) rfl (Nat.le_of_ble_eq_true rfl) (sph_qi (ok_top hR) (fun r5 I1 J1 P1 hq => ?_))
  show VG Γ (kc + 1) (kn + 6) 615 [some (.ref 500), some (.ref 0), some (.ref 80), some (.ref 19), some (.int (nI k)), none, none, none, none] [.int r5] I1 J1 P1 (LZ Γ)
  refine g_istore_5 h dL_law_615 (by decide) rfl ?_
  refine g_aload_2 h dL_law_617 ?_
  refine g_aload_0 h dL_law_618 ?_
  refine g_iload_4 h dL_law_619 ?_
  refine g_iconst h dL_law_621 (v := nI 1) rfl ?_
  refine g_iadd h dL_law_622 ?_
  refine g_xld h hx (k + 1) dL_law_623 (nI_add k 1) (by omega) (by omega) ?_
  refine g_aload_0 h dL_law_624 ?_
  refine g_iload_4 h dL_law_625 ?_
  refine g_iconst h dL_law_627 (v := nI 2) rfl ?_
  refine g_iadd h dL_law_628 ?_
  refine g_xld h hx (k + 2) dL_law_629 (nI_add k 2) (by omega) (by omega) ?_
  refine g_cVi2 h (lx_rok hx hkc hkn) mi_X12_top dL_law_630 ml_L_113 rfl rfl rfl (Nat.le_of_ble_eq_true rfl) (Nat.le_of_ble_eq_true rfl) (sp_qi hq (fun r6 I2 J2 P2 hf => ?_))
  refine g_istore_6 h dL_law_633 (by decide) rfl ?_
  refine g_aload_2 h dL_law_635 ?_
  refine g_cVi0 h (lx_rok hx hkc hkn) mi_X12_thrown dL_law_636 ml_L_82 rfl rfl rfl (Nat.le_of_ble_eq_true rfl) (Nat.le_of_ble_eq_true rfl) (sp_X12_thrown ?_)
  refine g_iload_5 h dL_law_639 ?_
  refine g_icmp_eq h 646 dL_law_641 rfl (fun _ => ?_) (fun c => absurd hf.1 c)
  refine g_iload_5 h dL_law_646 ?_
  refine g_if_ne h 663 dL_law_648 rfl (fun c0 => ?_) (fun c0 => ?_)
  · refine g_goto h 1447 dL_law_663 rfl ?_
    exact vg_none (K I2 J2 P2 hf.2.2)
  · skip
    refine g_aload_3 h dL_law_651 ?_
    refine g_iconst h dL_law_652 (v := nI 0) rfl ?_
    refine g_lald h 0 dL_law_653 rfl rfl (by decide) ?_
    refine g_iload_6 h dL_law_654 ?_
    refine g_i2l h dL_law_656 ?_
    refine g_lcmp h dL_law_657 ?_
    rw [hf.2.1 c0, lcmp_self]
    refine g_if_eq h 663 dL_law_658 rfl (fun _ => ?_) (fun c => absurd rfl c)
    refine g_goto h 1447 dL_law_663 rfl ?_
    exact vg_none (K I2 J2 P2 hf.2.2)
set_option maxRecDepth 100000 in
set_option maxHeartbeats 4000000 in
theorem lw_keeper {Γ : Cx} {L kc kn k : Nat} {xs : Nat → Int32} {I : MI} {J : MJ} {P : MP} (h : Vc RL cL_law 9 (some .boolean) 1000 Γ) (hx : Lx L xs Γ) (hkc : kc + 1 ≤ 601024) (hkn : kn + 6 ≤ 7293033) (hL : L ≤ 3072) (hk : k + 6 ≤ L) (hR : REL I J P) (K : ∀ I' J' P', REL I' J' P' → VG Γ (kc + 1) (kn + 6) 1447 [some (.ref 500), some (.ref 0), some (.ref 80), some (.ref 19), some (.int (nI k)), none, none, none, none] [] I' J' P' (LZ Γ)) : VG Γ kc kn 666 [some (.ref 500), some (.ref 0), some (.ref 80), some (.ref 19), some (.int (nI k)), none, none, none, none] [] I J P (LZ Γ) := by
  refine g_aload_1 h dL_law_666 ?_
  refine g_aload_0 h dL_law_667 ?_
  refine g_iload_4 h dL_law_668 ?_
  refine g_iconst h dL_law_670 (v := nI 1) rfl ?_
  refine g_iadd h dL_law_671 ?_
  refine g_xld h hx (k + 1) dL_law_672 (nI_add k 1) (by omega) (by omega) ?_
  refine g_aload_0 h dL_law_673 ?_
  refine g_iload_4 h dL_law_674 ?_
  refine g_iconst h dL_law_676 (v := nI 2) rfl ?_
  refine g_iadd h dL_law_677 ?_
  refine g_xld h hx (k + 2) dL_law_678 (nI_add k 2) (by omega) (by omega) ?_
  refine g_aload_3 h dL_law_679 ?_
  refine g_help (As := [.ref 0, .int (xs (k + 1)), .int (xs (k + 2)), .ref 19]) h (lx_xl hx) (lx_rok hx hkc hkn) mh_keeper dL_law_680 ml_L_114 (Nat.le_of_ble_eq_true rfl) rfl (Nat.le_of_ble_eq_true rfl) (sph_qi (ok_keeper hR) (fun r5 I1 J1 P1 hq => ?_))
  show VG Γ (kc + 1) (kn + 6) 683 [some (.ref 500), some (.ref 0), some (.ref 80), some (.ref 19), some (.int (nI k)), none, none, none, none] [.int r5] I1 J1 P1 (LZ Γ)
  refine g_istore_5 h dL_law_683 (by decide) rfl ?_
  refine g_aload_2 h dL_law_685 ?_
  refine g_aload_0 h dL_law_686 ?_
  refine g_iload_4 h dL_law_687 ?_
  refine g_iconst h dL_law_689 (v := nI 1) rfl ?_
  refine g_iadd h dL_law_690 ?_
  refine g_xld h hx (k + 1) dL_law_691 (nI_add k 1) (by omega) (by omega) ?_
  refine g_aload_0 h dL_law_692 ?_
  refine g_iload_4 h dL_law_693 ?_
  refine g_iconst h dL_law_695 (v := nI 2) rfl ?_
  refine g_iadd h dL_law_696 ?_
  refine g_xld h hx (k + 2) dL_law_697 (nI_add k 2) (by omega) (by omega) ?_
  refine g_cVi2 h (lx_rok hx hkc hkn) mi_X12_keeper dL_law_698 ml_L_116 rfl rfl rfl (Nat.le_of_ble_eq_true rfl) (Nat.le_of_ble_eq_true rfl) (sp_qi hq (fun r6 I2 J2 P2 hf => ?_))
  refine g_istore_6 h dL_law_701 (by decide) rfl ?_
  refine g_aload_2 h dL_law_703 ?_
  refine g_cVi0 h (lx_rok hx hkc hkn) mi_X12_thrown dL_law_704 ml_L_82 rfl rfl rfl (Nat.le_of_ble_eq_true rfl) (Nat.le_of_ble_eq_true rfl) (sp_X12_thrown ?_)
  refine g_iload_5 h dL_law_707 ?_
  refine g_icmp_eq h 714 dL_law_709 rfl (fun _ => ?_) (fun c => absurd hf.1 c)
  refine g_iload_5 h dL_law_714 ?_
  refine g_if_ne h 731 dL_law_716 rfl (fun c0 => ?_) (fun c0 => ?_)
  · refine g_goto h 1447 dL_law_731 rfl ?_
    exact vg_none (K I2 J2 P2 hf.2.2)
  · skip
    refine g_aload_3 h dL_law_719 ?_
    refine g_iconst h dL_law_720 (v := nI 0) rfl ?_
    refine g_lald h 0 dL_law_721 rfl rfl (by decide) ?_
    refine g_iload_6 h dL_law_722 ?_
    refine g_i2l h dL_law_724 ?_
    refine g_lcmp h dL_law_725 ?_
    rw [hf.2.1 c0, lcmp_self]
    refine g_if_eq h 731 dL_law_726 rfl (fun _ => ?_) (fun c => absurd rfl c)
    refine g_goto h 1447 dL_law_731 rfl ?_
    exact vg_none (K I2 J2 P2 hf.2.2)
set_option maxRecDepth 100000 in
set_option maxHeartbeats 4000000 in
theorem lw_apart {Γ : Cx} {L kc kn k : Nat} {xs : Nat → Int32} {I : MI} {J : MJ} {P : MP} (h : Vc RL cL_law 9 (some .boolean) 1000 Γ) (hx : Lx L xs Γ) (hkc : kc + 1 ≤ 601024) (hkn : kn + 6 ≤ 7293033) (hL : L ≤ 3072) (hk : k + 6 ≤ L) (hR : REL I J P) (K : ∀ I' J' P', REL I' J' P' → VG Γ (kc + 1) (kn + 6) 1447 [some (.ref 500), some (.ref 0), some (.ref 80), some (.ref 19), some (.int (nI k)), none, none, none, none] [] I' J' P' (LZ Γ)) : VG Γ kc kn 734 [some (.ref 500), some (.ref 0), some (.ref 80), some (.ref 19), some (.int (nI k)), none, none, none, none] [] I J P (LZ Γ) := by
  refine g_aload_1 h dL_law_734 ?_
  refine g_aload_0 h dL_law_735 ?_
  refine g_iload_4 h dL_law_736 ?_
  refine g_iconst h dL_law_738 (v := nI 1) rfl ?_
  refine g_iadd h dL_law_739 ?_
  refine g_xld h hx (k + 1) dL_law_740 (nI_add k 1) (by omega) (by omega) ?_
  refine g_aload_0 h dL_law_741 ?_
  refine g_iload_4 h dL_law_742 ?_
  refine g_iconst h dL_law_744 (v := nI 2) rfl ?_
  refine g_iadd h dL_law_745 ?_
  refine g_xld h hx (k + 2) dL_law_746 (nI_add k 2) (by omega) (by omega) ?_
  refine g_aload_3 h dL_law_747 ?_
  refine g_help (As := [.ref 0, .int (xs (k + 1)), .int (xs (k + 2)), .ref 19]) h (lx_xl hx) (lx_rok hx hkc hkn) mh_apart dL_law_748 ml_L_117 (Nat.le_of_ble_eq_true rfl) rfl (Nat.le_of_ble_eq_true rfl) (sph_qi (ok_apart hR) (fun r5 I1 J1 P1 hq => ?_))
  show VG Γ (kc + 1) (kn + 6) 751 [some (.ref 500), some (.ref 0), some (.ref 80), some (.ref 19), some (.int (nI k)), none, none, none, none] [.int r5] I1 J1 P1 (LZ Γ)
  refine g_istore_5 h dL_law_751 (by decide) rfl ?_
  refine g_aload_2 h dL_law_753 ?_
  refine g_aload_0 h dL_law_754 ?_
  refine g_iload_4 h dL_law_755 ?_
  refine g_iconst h dL_law_757 (v := nI 1) rfl ?_
  refine g_iadd h dL_law_758 ?_
  refine g_xld h hx (k + 1) dL_law_759 (nI_add k 1) (by omega) (by omega) ?_
  refine g_aload_0 h dL_law_760 ?_
  refine g_iload_4 h dL_law_761 ?_
  refine g_iconst h dL_law_763 (v := nI 2) rfl ?_
  refine g_iadd h dL_law_764 ?_
  refine g_xld h hx (k + 2) dL_law_765 (nI_add k 2) (by omega) (by omega) ?_
  refine g_cVi2 h (lx_rok hx hkc hkn) mi_X12_apart dL_law_766 ml_L_119 rfl rfl rfl (Nat.le_of_ble_eq_true rfl) (Nat.le_of_ble_eq_true rfl) (sp_qi hq (fun r6 I2 J2 P2 hf => ?_))
  refine g_istore_6 h dL_law_769 (by decide) rfl ?_
  refine g_aload_2 h dL_law_771 ?_
  refine g_cVi0 h (lx_rok hx hkc hkn) mi_X12_thrown dL_law_772 ml_L_82 rfl rfl rfl (Nat.le_of_ble_eq_true rfl) (Nat.le_of_ble_eq_true rfl) (sp_X12_thrown ?_)
  refine g_iload_5 h dL_law_775 ?_
  refine g_icmp_eq h 782 dL_law_777 rfl (fun _ => ?_) (fun c => absurd hf.1 c)
  refine g_iload_5 h dL_law_782 ?_
  refine g_if_ne h 799 dL_law_784 rfl (fun c0 => ?_) (fun c0 => ?_)
  · refine g_goto h 1447 dL_law_799 rfl ?_
    exact vg_none (K I2 J2 P2 hf.2.2)
  · skip
    refine g_aload_3 h dL_law_787 ?_
    refine g_iconst h dL_law_788 (v := nI 0) rfl ?_
    refine g_lald h 0 dL_law_789 rfl rfl (by decide) ?_
    refine g_iload_6 h dL_law_790 ?_
    refine g_i2l h dL_law_792 ?_
    refine g_lcmp h dL_law_793 ?_
    rw [hf.2.1 c0, lcmp_self]
    refine g_if_eq h 799 dL_law_794 rfl (fun _ => ?_) (fun c => absurd rfl c)
    refine g_goto h 1447 dL_law_799 rfl ?_
    exact vg_none (K I2 J2 P2 hf.2.2)
set_option maxRecDepth 100000 in
set_option maxHeartbeats 4000000 in
theorem lw_order {Γ : Cx} {L kc kn k : Nat} {xs : Nat → Int32} {I : MI} {J : MJ} {P : MP} (h : Vc RL cL_law 9 (some .boolean) 1000 Γ) (hx : Lx L xs Γ) (hkc : kc + 1 ≤ 601024) (hkn : kn + 6 ≤ 7293033) (hL : L ≤ 3072) (hk : k + 6 ≤ L) (hR : REL I J P) (K : ∀ I' J' P', REL I' J' P' → VG Γ (kc + 1) (kn + 6) 1447 [some (.ref 500), some (.ref 0), some (.ref 80), some (.ref 19), some (.int (nI k)), none, none, none, none] [] I' J' P' (LZ Γ)) : VG Γ kc kn 802 [some (.ref 500), some (.ref 0), some (.ref 80), some (.ref 19), some (.int (nI k)), none, none, none, none] [] I J P (LZ Γ) := by
  refine g_aload_1 h dL_law_802 ?_
  refine g_aload_0 h dL_law_803 ?_
  refine g_iload_4 h dL_law_804 ?_
  refine g_iconst h dL_law_806 (v := nI 1) rfl ?_
  refine g_iadd h dL_law_807 ?_
  refine g_xld h hx (k + 1) dL_law_808 (nI_add k 1) (by omega) (by omega) ?_
  refine g_aload_3 h dL_law_809 ?_
  refine g_help (As := [.ref 0, .int (xs (k + 1)), .ref 19]) h (lx_xl hx) (lx_rok hx hkc hkn) mh_order dL_law_810 ml_L_120 (Nat.le_of_ble_eq_true rfl) rfl (Nat.le_of_ble_eq_true rfl) (sph_qi (ok_order hR) (fun r5 I1 J1 P1 hq => ?_))
  show VG Γ (kc + 1) (kn + 6) 813 [some (.ref 500), some (.ref 0), some (.ref 80), some (.ref 19), some (.int (nI k)), none, none, none, none] [.int r5] I1 J1 P1 (LZ Γ)
  refine g_istore_5 h dL_law_813 (by decide) rfl ?_
  refine g_aload_2 h dL_law_815 ?_
  refine g_aload_0 h dL_law_816 ?_
  refine g_iload_4 h dL_law_817 ?_
  refine g_iconst h dL_law_819 (v := nI 1) rfl ?_
  refine g_iadd h dL_law_820 ?_
  refine g_xld h hx (k + 1) dL_law_821 (nI_add k 1) (by omega) (by omega) ?_
  refine g_cVi1 h (lx_rok hx hkc hkn) mi_X12_order dL_law_822 ml_L_122 rfl rfl rfl (Nat.le_of_ble_eq_true rfl) (Nat.le_of_ble_eq_true rfl) (sp_qi hq (fun r6 I2 J2 P2 hf => ?_))
  refine g_istore_6 h dL_law_825 (by decide) rfl ?_
  refine g_aload_2 h dL_law_827 ?_
  refine g_cVi0 h (lx_rok hx hkc hkn) mi_X12_thrown dL_law_828 ml_L_82 rfl rfl rfl (Nat.le_of_ble_eq_true rfl) (Nat.le_of_ble_eq_true rfl) (sp_X12_thrown ?_)
  refine g_iload_5 h dL_law_831 ?_
  refine g_icmp_eq h 838 dL_law_833 rfl (fun _ => ?_) (fun c => absurd hf.1 c)
  refine g_iload_5 h dL_law_838 ?_
  refine g_if_ne h 855 dL_law_840 rfl (fun c0 => ?_) (fun c0 => ?_)
  · refine g_goto h 1447 dL_law_855 rfl ?_
    exact vg_none (K I2 J2 P2 hf.2.2)
  · skip
    refine g_aload_3 h dL_law_843 ?_
    refine g_iconst h dL_law_844 (v := nI 0) rfl ?_
    refine g_lald h 0 dL_law_845 rfl rfl (by decide) ?_
    refine g_iload_6 h dL_law_846 ?_
    refine g_i2l h dL_law_848 ?_
    refine g_lcmp h dL_law_849 ?_
    rw [hf.2.1 c0, lcmp_self]
    refine g_if_eq h 855 dL_law_850 rfl (fun _ => ?_) (fun c => absurd rfl c)
    refine g_goto h 1447 dL_law_855 rfl ?_
    exact vg_none (K I2 J2 P2 hf.2.2)
set_option maxRecDepth 100000 in
set_option maxHeartbeats 4000000 in
theorem lw_find {Γ : Cx} {L kc kn k : Nat} {xs : Nat → Int32} {I : MI} {J : MJ} {P : MP} (h : Vc RL cL_law 9 (some .boolean) 1000 Γ) (hx : Lx L xs Γ) (hkc : kc ≤ 601024) (hkn : kn ≤ 7293033) (hL : L ≤ 3072) (hk : k + 6 ≤ L) (hR : REL I J P) (K : ∀ I' J' P', REL I' J' P' → VG Γ kc kn 1447 [some (.ref 500), some (.ref 0), some (.ref 80), some (.ref 19), some (.int (nI k)), none, none, none, none] [] I' J' P' (LZ Γ)) : VG Γ kc kn 858 [some (.ref 500), some (.ref 0), some (.ref 80), some (.ref 19), some (.int (nI k)), none, none, none, none] [] I J P (LZ Γ) := by
  refine g_aload_1 h dL_law_858 ?_
  refine g_aload_0 h dL_law_859 ?_
  refine g_iload_4 h dL_law_860 ?_
  refine g_iconst h dL_law_862 (v := nI 1) rfl ?_
  refine g_iadd h dL_law_863 ?_
  refine g_xld h hx (k + 1) dL_law_864 (nI_add k 1) (by omega) (by omega) ?_
  refine g_cVi1 h (lx_rok hx hkc hkn) mi_X10_find dL_law_865 ml_L_123 rfl rfl rfl (Nat.le_of_ble_eq_true rfl) (Nat.le_of_ble_eq_true rfl) (sp_qi (ok_find hR) (fun r I1 J1 P1 hq => ?_))
  refine g_aload_2 h dL_law_868 ?_
  refine g_aload_0 h dL_law_869 ?_
  refine g_iload_4 h dL_law_870 ?_
  refine g_iconst h dL_law_872 (v := nI 1) rfl ?_
  refine g_iadd h dL_law_873 ?_
  refine g_xld h hx (k + 1) dL_law_874 (nI_add k 1) (by omega) (by omega) ?_
  refine g_cVi1 h (lx_rok hx hkc hkn) mi_X12_find_ dL_law_875 ml_L_126 rfl rfl rfl (Nat.le_of_ble_eq_true rfl) (Nat.le_of_ble_eq_true rfl) (sp_qi hq (fun r6 I2 J2 P2 hf => ?_))
  refine g_icmp_eq h 1447 dL_law_878 rfl (fun _ => ?_) (fun c => absurd hf.1 c)
  exact vg_none (K I2 J2 P2 hf.2)
set_option maxRecDepth 100000 in
set_option maxHeartbeats 4000000 in
theorem lw_disorder {Γ : Cx} {L kc kn k : Nat} {xs : Nat → Int32} {I : MI} {J : MJ} {P : MP} (h : Vc RL cL_law 9 (some .boolean) 1000 Γ) (hx : Lx L xs Γ) (hkc : kc ≤ 601024) (hkn : kn ≤ 7293033) (hL : L ≤ 3072) (hk : k + 6 ≤ L) (hR : REL I J P) (K : ∀ I' J' P', REL I' J' P' → VG Γ kc kn 1447 [some (.ref 500), some (.ref 0), some (.ref 80), some (.ref 19), some (.int (nI k)), none, none, none, none] [] I' J' P' (LZ Γ)) : VG Γ kc kn 883 [some (.ref 500), some (.ref 0), some (.ref 80), some (.ref 19), some (.int (nI k)), none, none, none, none] [] I J P (LZ Γ) := by
  refine g_aload_1 h dL_law_883 ?_
  refine g_cVi0 h (lx_rok hx hkc hkn) mi_X10_disorder dL_law_884 ml_L_127 rfl rfl rfl (Nat.le_of_ble_eq_true rfl) (Nat.le_of_ble_eq_true rfl) (sp_qi (ok_disorder hR) (fun r I1 J1 P1 hq => ?_))
  refine g_aload_2 h dL_law_887 ?_
  refine g_cVi0 h (lx_rok hx hkc hkn) mi_X12_disorder dL_law_888 ml_L_130 rfl rfl rfl (Nat.le_of_ble_eq_true rfl) (Nat.le_of_ble_eq_true rfl) (sp_qi hq (fun r6 I2 J2 P2 hf => ?_))
  refine g_icmp_eq h 1447 dL_law_891 rfl (fun _ => ?_) (fun c => absurd hf.1 c)
  exact vg_none (K I2 J2 P2 hf.2)
set_option maxRecDepth 100000 in
set_option maxHeartbeats 4000000 in
theorem lw_set {Γ : Cx} {L kc kn k : Nat} {xs : Nat → Int32} {I : MI} {J : MJ} {P : MP} (h : Vc RL cL_law 9 (some .boolean) 1000 Γ) (hx : Lx L xs Γ) (hkc : kc + 1 ≤ 601024) (hkn : kn + 6 ≤ 7293033) (hL : L ≤ 3072) (hk : k + 6 ≤ L) (hR : REL I J P) (K : ∀ I' J' P', REL I' J' P' → VG Γ (kc + 1) (kn + 6) 1447 [some (.ref 500), some (.ref 0), some (.ref 80), some (.ref 19), some (.int (nI k)), none, none, none, none] [] I' J' P' (LZ Γ)) : VG Γ kc kn 896 [some (.ref 500), some (.ref 0), some (.ref 80), some (.ref 19), some (.int (nI k)), none, none, none, none] [] I J P (LZ Γ) := by
  refine g_aload_1 h dL_law_896 ?_
  refine g_aload_0 h dL_law_897 ?_
  refine g_iload_4 h dL_law_898 ?_
  refine g_iconst h dL_law_900 (v := nI 1) rfl ?_
  refine g_iadd h dL_law_901 ?_
  refine g_xld h hx (k + 1) dL_law_902 (nI_add k 1) (by omega) (by omega) ?_
  refine g_aload_0 h dL_law_903 ?_
  refine g_iload_4 h dL_law_904 ?_
  refine g_iconst h dL_law_906 (v := nI 2) rfl ?_
  refine g_iadd h dL_law_907 ?_
  refine g_xld h hx (k + 2) dL_law_908 (nI_add k 2) (by omega) (by omega) ?_
  refine g_aload_3 h dL_law_909 ?_
  refine g_help (As := [.ref 0, .int (xs (k + 1)), .int (xs (k + 2)), .ref 19]) h (lx_xl hx) (lx_rok hx hkc hkn) mh_set dL_law_910 ml_L_131 (Nat.le_of_ble_eq_true rfl) rfl (Nat.le_of_ble_eq_true rfl) (sph_qi (ok_set hR) (fun r5 I1 J1 P1 hq => ?_))
  show VG Γ (kc + 1) (kn + 6) 913 [some (.ref 500), some (.ref 0), some (.ref 80), some (.ref 19), some (.int (nI k)), none, none, none, none] [.int r5] I1 J1 P1 (LZ Γ)
  refine g_istore_5 h dL_law_913 (by decide) rfl ?_
  refine g_aload_2 h dL_law_915 ?_
  refine g_aload_0 h dL_law_916 ?_
  refine g_iload_4 h dL_law_917 ?_
  refine g_iconst h dL_law_919 (v := nI 1) rfl ?_
  refine g_iadd h dL_law_920 ?_
  refine g_xld h hx (k + 1) dL_law_921 (nI_add k 1) (by omega) (by omega) ?_
  refine g_aload_0 h dL_law_922 ?_
  refine g_iload_4 h dL_law_923 ?_
  refine g_iconst h dL_law_925 (v := nI 2) rfl ?_
  refine g_iadd h dL_law_926 ?_
  refine g_xld h hx (k + 2) dL_law_927 (nI_add k 2) (by omega) (by omega) ?_
  refine g_cVi2 h (lx_rok hx hkc hkn) mi_X12_set dL_law_928 ml_L_133 rfl rfl rfl (Nat.le_of_ble_eq_true rfl) (Nat.le_of_ble_eq_true rfl) (sp_qi hq (fun r6 I2 J2 P2 hf => ?_))
  refine g_istore_6 h dL_law_931 (by decide) rfl ?_
  refine g_aload_2 h dL_law_933 ?_
  refine g_cVi0 h (lx_rok hx hkc hkn) mi_X12_thrown dL_law_934 ml_L_82 rfl rfl rfl (Nat.le_of_ble_eq_true rfl) (Nat.le_of_ble_eq_true rfl) (sp_X12_thrown ?_)
  refine g_iload_5 h dL_law_937 ?_
  refine g_icmp_eq h 944 dL_law_939 rfl (fun _ => ?_) (fun c => absurd hf.1 c)
  refine g_iload_5 h dL_law_944 ?_
  refine g_if_ne h 961 dL_law_946 rfl (fun c0 => ?_) (fun c0 => ?_)
  · refine g_goto h 1447 dL_law_961 rfl ?_
    exact vg_none (K I2 J2 P2 hf.2.2)
  · skip
    refine g_aload_3 h dL_law_949 ?_
    refine g_iconst h dL_law_950 (v := nI 0) rfl ?_
    refine g_lald h 0 dL_law_951 rfl rfl (by decide) ?_
    refine g_iload_6 h dL_law_952 ?_
    refine g_i2l h dL_law_954 ?_
    refine g_lcmp h dL_law_955 ?_
    rw [hf.2.1 c0, lcmp_self]
    refine g_if_eq h 961 dL_law_956 rfl (fun _ => ?_) (fun c => absurd rfl c)
    refine g_goto h 1447 dL_law_961 rfl ?_
    exact vg_none (K I2 J2 P2 hf.2.2)
set_option maxRecDepth 100000 in
set_option maxHeartbeats 4000000 in
theorem lw_rest {Γ : Cx} {L kc kn k : Nat} {xs : Nat → Int32} {I : MI} {J : MJ} {P : MP} (h : Vc RL cL_law 9 (some .boolean) 1000 Γ) (hx : Lx L xs Γ) (hkc : kc + 1 ≤ 601024) (hkn : kn + 6 ≤ 7293033) (hL : L ≤ 3072) (hk : k + 6 ≤ L) (hR : REL I J P) (K : ∀ I' J' P', REL I' J' P' → VG Γ (kc + 1) (kn + 6) 1447 [some (.ref 500), some (.ref 0), some (.ref 80), some (.ref 19), some (.int (nI k)), none, none, none, none] [] I' J' P' (LZ Γ)) : VG Γ kc kn 964 [some (.ref 500), some (.ref 0), some (.ref 80), some (.ref 19), some (.int (nI k)), none, none, none, none] [] I J P (LZ Γ) := by
  refine g_aload_1 h dL_law_964 ?_
  refine g_aload_0 h dL_law_965 ?_
  refine g_iload_4 h dL_law_966 ?_
  refine g_iconst h dL_law_968 (v := nI 1) rfl ?_
  refine g_iadd h dL_law_969 ?_
  refine g_xld h hx (k + 1) dL_law_970 (nI_add k 1) (by omega) (by omega) ?_
  refine g_aload_3 h dL_law_971 ?_
  refine g_help (As := [.ref 0, .int (xs (k + 1)), .ref 19]) h (lx_xl hx) (lx_rok hx hkc hkn) mh_rest dL_law_972 ml_L_134 (Nat.le_of_ble_eq_true rfl) rfl (Nat.le_of_ble_eq_true rfl) (sph_qi (ok_rest hR) (fun r5 I1 J1 P1 hq => ?_))
  show VG Γ (kc + 1) (kn + 6) 975 [some (.ref 500), some (.ref 0), some (.ref 80), some (.ref 19), some (.int (nI k)), none, none, none, none] [.int r5] I1 J1 P1 (LZ Γ)
  refine g_istore_5 h dL_law_975 (by decide) rfl ?_
  refine g_aload_2 h dL_law_977 ?_
  refine g_aload_0 h dL_law_978 ?_
  refine g_iload_4 h dL_law_979 ?_
  refine g_iconst h dL_law_981 (v := nI 1) rfl ?_
  refine g_iadd h dL_law_982 ?_
  refine g_xld h hx (k + 1) dL_law_983 (nI_add k 1) (by omega) (by omega) ?_
  refine g_cVi1 h (lx_rok hx hkc hkn) mi_X12_rest dL_law_984 ml_L_136 rfl rfl rfl (Nat.le_of_ble_eq_true rfl) (Nat.le_of_ble_eq_true rfl) (sp_qi hq (fun r6 I2 J2 P2 hf => ?_))
  refine g_istore_6 h dL_law_987 (by decide) rfl ?_
  refine g_aload_2 h dL_law_989 ?_
  refine g_cVi0 h (lx_rok hx hkc hkn) mi_X12_thrown dL_law_990 ml_L_82 rfl rfl rfl (Nat.le_of_ble_eq_true rfl) (Nat.le_of_ble_eq_true rfl) (sp_X12_thrown ?_)
  refine g_iload_5 h dL_law_993 ?_
  refine g_icmp_eq h 1000 dL_law_995 rfl (fun _ => ?_) (fun c => absurd hf.1 c)
  refine g_iload_5 h dL_law_1000 ?_
  refine g_if_ne h 1017 dL_law_1002 rfl (fun c0 => ?_) (fun c0 => ?_)
  · refine g_goto h 1447 dL_law_1017 rfl ?_
    exact vg_none (K I2 J2 P2 hf.2.2)
  · skip
    refine g_aload_3 h dL_law_1005 ?_
    refine g_iconst h dL_law_1006 (v := nI 0) rfl ?_
    refine g_lald h 0 dL_law_1007 rfl rfl (by decide) ?_
    refine g_iload_6 h dL_law_1008 ?_
    refine g_i2l h dL_law_1010 ?_
    refine g_lcmp h dL_law_1011 ?_
    rw [hf.2.1 c0, lcmp_self]
    refine g_if_eq h 1017 dL_law_1012 rfl (fun _ => ?_) (fun c => absurd rfl c)
    refine g_goto h 1447 dL_law_1017 rfl ?_
    exact vg_none (K I2 J2 P2 hf.2.2)
set_option maxRecDepth 100000 in
set_option maxHeartbeats 4000000 in
theorem lw_dye {Γ : Cx} {L kc kn k : Nat} {xs : Nat → Int32} {I : MI} {J : MJ} {P : MP} (h : Vc RL cL_law 9 (some .boolean) 1000 Γ) (hx : Lx L xs Γ) (hkc : kc + 1 ≤ 601024) (hkn : kn + 6 ≤ 7293033) (hL : L ≤ 3072) (hk : k + 6 ≤ L) (hR : REL I J P) (K : ∀ I' J' P', REL I' J' P' → VG Γ (kc + 1) (kn + 6) 1447 [some (.ref 500), some (.ref 0), some (.ref 80), some (.ref 19), some (.int (nI k)), none, none, none, none] [] I' J' P' (LZ Γ)) : VG Γ kc kn 1020 [some (.ref 500), some (.ref 0), some (.ref 80), some (.ref 19), some (.int (nI k)), none, none, none, none] [] I J P (LZ Γ) := by
  refine g_aload_1 h dL_law_1020 ?_
  refine g_aload_0 h dL_law_1021 ?_
  refine g_iload_4 h dL_law_1022 ?_
  refine g_iconst h dL_law_1024 (v := nI 1) rfl ?_
  refine g_iadd h dL_law_1025 ?_
  refine g_xld h hx (k + 1) dL_law_1026 (nI_add k 1) (by omega) (by omega) ?_
  refine g_aload_0 h dL_law_1027 ?_
  refine g_iload_4 h dL_law_1028 ?_
  refine g_iconst h dL_law_1030 (v := nI 2) rfl ?_
  refine g_iadd h dL_law_1031 ?_
  refine g_xld h hx (k + 2) dL_law_1032 (nI_add k 2) (by omega) (by omega) ?_
  refine g_aload_3 h dL_law_1033 ?_
  refine g_help (As := [.ref 0, .int (xs (k + 1)), .int (xs (k + 2)), .ref 19]) h (lx_xl hx) (lx_rok hx hkc hkn) mh_dye dL_law_1034 ml_L_137 (Nat.le_of_ble_eq_true rfl) rfl (Nat.le_of_ble_eq_true rfl) (sph_qi (ok_dye hR) (fun r5 I1 J1 P1 hq => ?_))
  show VG Γ (kc + 1) (kn + 6) 1037 [some (.ref 500), some (.ref 0), some (.ref 80), some (.ref 19), some (.int (nI k)), none, none, none, none] [.int r5] I1 J1 P1 (LZ Γ)
  refine g_istore_5 h dL_law_1037 (by decide) rfl ?_
  refine g_aload_2 h dL_law_1039 ?_
  refine g_aload_0 h dL_law_1040 ?_
  refine g_iload_4 h dL_law_1041 ?_
  refine g_iconst h dL_law_1043 (v := nI 1) rfl ?_
  refine g_iadd h dL_law_1044 ?_
  refine g_xld h hx (k + 1) dL_law_1045 (nI_add k 1) (by omega) (by omega) ?_
  refine g_aload_0 h dL_law_1046 ?_
  refine g_iload_4 h dL_law_1047 ?_
  refine g_iconst h dL_law_1049 (v := nI 2) rfl ?_
  refine g_iadd h dL_law_1050 ?_
  refine g_xld h hx (k + 2) dL_law_1051 (nI_add k 2) (by omega) (by omega) ?_
  refine g_cVi2 h (lx_rok hx hkc hkn) mi_X12_dye dL_law_1052 ml_L_139 rfl rfl rfl (Nat.le_of_ble_eq_true rfl) (Nat.le_of_ble_eq_true rfl) (sp_qi hq (fun r6 I2 J2 P2 hf => ?_))
  refine g_istore_6 h dL_law_1055 (by decide) rfl ?_
  refine g_aload_2 h dL_law_1057 ?_
  refine g_cVi0 h (lx_rok hx hkc hkn) mi_X12_thrown dL_law_1058 ml_L_82 rfl rfl rfl (Nat.le_of_ble_eq_true rfl) (Nat.le_of_ble_eq_true rfl) (sp_X12_thrown ?_)
  refine g_iload_5 h dL_law_1061 ?_
  refine g_icmp_eq h 1068 dL_law_1063 rfl (fun _ => ?_) (fun c => absurd hf.1 c)
  refine g_iload_5 h dL_law_1068 ?_
  refine g_if_ne h 1085 dL_law_1070 rfl (fun c0 => ?_) (fun c0 => ?_)
  · refine g_goto h 1447 dL_law_1085 rfl ?_
    exact vg_none (K I2 J2 P2 hf.2.2)
  · skip
    refine g_aload_3 h dL_law_1073 ?_
    refine g_iconst h dL_law_1074 (v := nI 0) rfl ?_
    refine g_lald h 0 dL_law_1075 rfl rfl (by decide) ?_
    refine g_iload_6 h dL_law_1076 ?_
    refine g_i2l h dL_law_1078 ?_
    refine g_lcmp h dL_law_1079 ?_
    rw [hf.2.1 c0, lcmp_self]
    refine g_if_eq h 1085 dL_law_1080 rfl (fun _ => ?_) (fun c => absurd rfl c)
    refine g_goto h 1447 dL_law_1085 rfl ?_
    exact vg_none (K I2 J2 P2 hf.2.2)
set_option maxRecDepth 100000 in
set_option maxHeartbeats 4000000 in
theorem lw_hang {Γ : Cx} {L kc kn k : Nat} {xs : Nat → Int32} {I : MI} {J : MJ} {P : MP} (h : Vc RL cL_law 9 (some .boolean) 1000 Γ) (hx : Lx L xs Γ) (hkc : kc + 1 ≤ 601024) (hkn : kn + 6 ≤ 7293033) (hL : L ≤ 3072) (hk : k + 6 ≤ L) (hR : REL I J P) (K : ∀ I' J' P', REL I' J' P' → VG Γ (kc + 1) (kn + 6) 1447 [some (.ref 500), some (.ref 0), some (.ref 80), some (.ref 19), some (.int (nI k)), none, none, none, none] [] I' J' P' (LZ Γ)) : VG Γ kc kn 1088 [some (.ref 500), some (.ref 0), some (.ref 80), some (.ref 19), some (.int (nI k)), none, none, none, none] [] I J P (LZ Γ) := by
  refine g_aload_1 h dL_law_1088 ?_
  refine g_aload_0 h dL_law_1089 ?_
  refine g_iload_4 h dL_law_1090 ?_
  refine g_iconst h dL_law_1092 (v := nI 1) rfl ?_
  refine g_iadd h dL_law_1093 ?_
  refine g_xld h hx (k + 1) dL_law_1094 (nI_add k 1) (by omega) (by omega) ?_
  refine g_aload_0 h dL_law_1095 ?_
  refine g_iload_4 h dL_law_1096 ?_
  refine g_iconst h dL_law_1098 (v := nI 2) rfl ?_
  refine g_iadd h dL_law_1099 ?_
  refine g_xld h hx (k + 2) dL_law_1100 (nI_add k 2) (by omega) (by omega) ?_
  refine g_aload_3 h dL_law_1101 ?_
  refine g_help (As := [.ref 0, .int (xs (k + 1)), .int (xs (k + 2)), .ref 19]) h (lx_xl hx) (lx_rok hx hkc hkn) mh_hang dL_law_1102 ml_L_140 (Nat.le_of_ble_eq_true rfl) rfl (Nat.le_of_ble_eq_true rfl) (sph_qi (ok_hang hR) (fun r5 I1 J1 P1 hq => ?_))
  show VG Γ (kc + 1) (kn + 6) 1105 [some (.ref 500), some (.ref 0), some (.ref 80), some (.ref 19), some (.int (nI k)), none, none, none, none] [.int r5] I1 J1 P1 (LZ Γ)
  refine g_istore_5 h dL_law_1105 (by decide) rfl ?_
  refine g_aload_2 h dL_law_1107 ?_
  refine g_aload_0 h dL_law_1108 ?_
  refine g_iload_4 h dL_law_1109 ?_
  refine g_iconst h dL_law_1111 (v := nI 1) rfl ?_
  refine g_iadd h dL_law_1112 ?_
  refine g_xld h hx (k + 1) dL_law_1113 (nI_add k 1) (by omega) (by omega) ?_
  refine g_aload_0 h dL_law_1114 ?_
  refine g_iload_4 h dL_law_1115 ?_
  refine g_iconst h dL_law_1117 (v := nI 2) rfl ?_
  refine g_iadd h dL_law_1118 ?_
  refine g_xld h hx (k + 2) dL_law_1119 (nI_add k 2) (by omega) (by omega) ?_
  refine g_cVi2 h (lx_rok hx hkc hkn) mi_X12_hang dL_law_1120 ml_L_142 rfl rfl rfl (Nat.le_of_ble_eq_true rfl) (Nat.le_of_ble_eq_true rfl) (sp_qi hq (fun r6 I2 J2 P2 hf => ?_))
  refine g_istore_6 h dL_law_1123 (by decide) rfl ?_
  refine g_aload_2 h dL_law_1125 ?_
  refine g_cVi0 h (lx_rok hx hkc hkn) mi_X12_thrown dL_law_1126 ml_L_82 rfl rfl rfl (Nat.le_of_ble_eq_true rfl) (Nat.le_of_ble_eq_true rfl) (sp_X12_thrown ?_)
  refine g_iload_5 h dL_law_1129 ?_
  refine g_icmp_eq h 1136 dL_law_1131 rfl (fun _ => ?_) (fun c => absurd hf.1 c)
  refine g_iload_5 h dL_law_1136 ?_
  refine g_if_ne h 1153 dL_law_1138 rfl (fun c0 => ?_) (fun c0 => ?_)
  · refine g_goto h 1447 dL_law_1153 rfl ?_
    exact vg_none (K I2 J2 P2 hf.2.2)
  · skip
    refine g_aload_3 h dL_law_1141 ?_
    refine g_iconst h dL_law_1142 (v := nI 0) rfl ?_
    refine g_lald h 0 dL_law_1143 rfl rfl (by decide) ?_
    refine g_iload_6 h dL_law_1144 ?_
    refine g_i2l h dL_law_1146 ?_
    refine g_lcmp h dL_law_1147 ?_
    rw [hf.2.1 c0, lcmp_self]
    refine g_if_eq h 1153 dL_law_1148 rfl (fun _ => ?_) (fun c => absurd rfl c)
    refine g_goto h 1447 dL_law_1153 rfl ?_
    exact vg_none (K I2 J2 P2 hf.2.2)
set_option maxRecDepth 100000 in
set_option maxHeartbeats 4000000 in
theorem lw_pass {Γ : Cx} {L kc kn k : Nat} {xs : Nat → Int32} {I : MI} {J : MJ} {P : MP} (h : Vc RL cL_law 9 (some .boolean) 1000 Γ) (hx : Lx L xs Γ) (hkc : kc + 1 ≤ 601024) (hkn : kn + 6 ≤ 7293033) (hL : L ≤ 3072) (hk : k + 6 ≤ L) (hR : REL I J P) (K : ∀ I' J' P', REL I' J' P' → VG Γ (kc + 1) (kn + 6) 1447 [some (.ref 500), some (.ref 0), some (.ref 80), some (.ref 19), some (.int (nI k)), none, none, none, none] [] I' J' P' (LZ Γ)) : VG Γ kc kn 1156 [some (.ref 500), some (.ref 0), some (.ref 80), some (.ref 19), some (.int (nI k)), none, none, none, none] [] I J P (LZ Γ) := by
  refine g_aload_1 h dL_law_1156 ?_
  refine g_aload_0 h dL_law_1157 ?_
  refine g_iload_4 h dL_law_1158 ?_
  refine g_iconst h dL_law_1160 (v := nI 1) rfl ?_
  refine g_iadd h dL_law_1161 ?_
  refine g_xld h hx (k + 1) dL_law_1162 (nI_add k 1) (by omega) (by omega) ?_
  refine g_aload_3 h dL_law_1163 ?_
  refine g_help (As := [.ref 0, .int (xs (k + 1)), .ref 19]) h (lx_xl hx) (lx_rok hx hkc hkn) mh_pass dL_law_1164 ml_L_143 (Nat.le_of_ble_eq_true rfl) rfl (Nat.le_of_ble_eq_true rfl) (sph_qi (ok_pass hR) (fun r5 I1 J1 P1 hq => ?_))
  show VG Γ (kc + 1) (kn + 6) 1167 [some (.ref 500), some (.ref 0), some (.ref 80), some (.ref 19), some (.int (nI k)), none, none, none, none] [.int r5] I1 J1 P1 (LZ Γ)
  refine g_istore_5 h dL_law_1167 (by decide) rfl ?_
  refine g_aload_2 h dL_law_1169 ?_
  refine g_aload_0 h dL_law_1170 ?_
  refine g_iload_4 h dL_law_1171 ?_
  refine g_iconst h dL_law_1173 (v := nI 1) rfl ?_
  refine g_iadd h dL_law_1174 ?_
  refine g_xld h hx (k + 1) dL_law_1175 (nI_add k 1) (by omega) (by omega) ?_
  refine g_cVi1 h (lx_rok hx hkc hkn) mi_X12_pass_ dL_law_1176 ml_L_145 rfl rfl rfl (Nat.le_of_ble_eq_true rfl) (Nat.le_of_ble_eq_true rfl) (sp_qi hq (fun r6 I2 J2 P2 hf => ?_))
  refine g_istore_6 h dL_law_1179 (by decide) rfl ?_
  refine g_aload_2 h dL_law_1181 ?_
  refine g_cVi0 h (lx_rok hx hkc hkn) mi_X12_thrown dL_law_1182 ml_L_82 rfl rfl rfl (Nat.le_of_ble_eq_true rfl) (Nat.le_of_ble_eq_true rfl) (sp_X12_thrown ?_)
  refine g_iload_5 h dL_law_1185 ?_
  refine g_icmp_eq h 1192 dL_law_1187 rfl (fun _ => ?_) (fun c => absurd hf.1 c)
  refine g_iload_5 h dL_law_1192 ?_
  refine g_if_ne h 1209 dL_law_1194 rfl (fun c0 => ?_) (fun c0 => ?_)
  · refine g_goto h 1447 dL_law_1209 rfl ?_
    exact vg_none (K I2 J2 P2 hf.2.2)
  · skip
    refine g_aload_3 h dL_law_1197 ?_
    refine g_iconst h dL_law_1198 (v := nI 0) rfl ?_
    refine g_lald h 0 dL_law_1199 rfl rfl (by decide) ?_
    refine g_iload_6 h dL_law_1200 ?_
    refine g_i2l h dL_law_1202 ?_
    refine g_lcmp h dL_law_1203 ?_
    rw [hf.2.1 c0, lcmp_self]
    refine g_if_eq h 1209 dL_law_1204 rfl (fun _ => ?_) (fun c => absurd rfl c)
    refine g_goto h 1447 dL_law_1209 rfl ?_
    exact vg_none (K I2 J2 P2 hf.2.2)
set_option maxRecDepth 100000 in
set_option maxHeartbeats 4000000 in
theorem lw_until {Γ : Cx} {L kc kn k : Nat} {xs : Nat → Int32} {I : MI} {J : MJ} {P : MP} (h : Vc RL cL_law 9 (some .boolean) 1000 Γ) (hx : Lx L xs Γ) (hkc : kc + 1 ≤ 601024) (hkn : kn + 6 ≤ 7293033) (hL : L ≤ 3072) (hk : k + 6 ≤ L) (hR : REL I J P) (K : ∀ I' J' P', REL I' J' P' → VG Γ (kc + 1) (kn + 6) 1447 [some (.ref 500), some (.ref 0), some (.ref 80), some (.ref 19), some (.int (nI k)), none, none, none, none] [] I' J' P' (LZ Γ)) : VG Γ kc kn 1212 [some (.ref 500), some (.ref 0), some (.ref 80), some (.ref 19), some (.int (nI k)), none, none, none, none] [] I J P (LZ Γ) := by
  refine g_aload_1 h dL_law_1212 ?_
  refine g_aload_0 h dL_law_1213 ?_
  refine g_iload_4 h dL_law_1214 ?_
  refine g_iconst h dL_law_1216 (v := nI 1) rfl ?_
  refine g_iadd h dL_law_1217 ?_
  refine g_xld h hx (k + 1) dL_law_1218 (nI_add k 1) (by omega) (by omega) ?_
  refine g_aload_3 h dL_law_1219 ?_
  refine g_help (As := [.ref 0, .int (xs (k + 1)), .ref 19]) h (lx_xl hx) (lx_rok hx hkc hkn) mh_until dL_law_1220 ml_L_146 (Nat.le_of_ble_eq_true rfl) rfl (Nat.le_of_ble_eq_true rfl) (sph_qi (ok_until hR) (fun r5 I1 J1 P1 hq => ?_))
  show VG Γ (kc + 1) (kn + 6) 1223 [some (.ref 500), some (.ref 0), some (.ref 80), some (.ref 19), some (.int (nI k)), none, none, none, none] [.int r5] I1 J1 P1 (LZ Γ)
  refine g_istore_5 h dL_law_1223 (by decide) rfl ?_
  refine g_aload_2 h dL_law_1225 ?_
  refine g_aload_0 h dL_law_1226 ?_
  refine g_iload_4 h dL_law_1227 ?_
  refine g_iconst h dL_law_1229 (v := nI 1) rfl ?_
  refine g_iadd h dL_law_1230 ?_
  refine g_xld h hx (k + 1) dL_law_1231 (nI_add k 1) (by omega) (by omega) ?_
  refine g_cVi1 h (lx_rok hx hkc hkn) mi_X12_until dL_law_1232 ml_L_148 rfl rfl rfl (Nat.le_of_ble_eq_true rfl) (Nat.le_of_ble_eq_true rfl) (sp_qi hq (fun r6 I2 J2 P2 hf => ?_))
  refine g_istore_6 h dL_law_1235 (by decide) rfl ?_
  refine g_aload_2 h dL_law_1237 ?_
  refine g_cVi0 h (lx_rok hx hkc hkn) mi_X12_thrown dL_law_1238 ml_L_82 rfl rfl rfl (Nat.le_of_ble_eq_true rfl) (Nat.le_of_ble_eq_true rfl) (sp_X12_thrown ?_)
  refine g_iload_5 h dL_law_1241 ?_
  refine g_icmp_eq h 1248 dL_law_1243 rfl (fun _ => ?_) (fun c => absurd hf.1 c)
  refine g_iload_5 h dL_law_1248 ?_
  refine g_if_ne h 1265 dL_law_1250 rfl (fun c0 => ?_) (fun c0 => ?_)
  · refine g_goto h 1447 dL_law_1265 rfl ?_
    exact vg_none (K I2 J2 P2 hf.2.2)
  · skip
    refine g_aload_3 h dL_law_1253 ?_
    refine g_iconst h dL_law_1254 (v := nI 0) rfl ?_
    refine g_lald h 0 dL_law_1255 rfl rfl (by decide) ?_
    refine g_iload_6 h dL_law_1256 ?_
    refine g_i2l h dL_law_1258 ?_
    refine g_lcmp h dL_law_1259 ?_
    rw [hf.2.1 c0, lcmp_self]
    refine g_if_eq h 1265 dL_law_1260 rfl (fun _ => ?_) (fun c => absurd rfl c)
    refine g_goto h 1447 dL_law_1265 rfl ?_
    exact vg_none (K I2 J2 P2 hf.2.2)
set_option maxRecDepth 100000 in
set_option maxHeartbeats 4000000 in
theorem lw_foresee {Γ : Cx} {L kc kn k : Nat} {xs : Nat → Int32} {I : MI} {J : MJ} {P : MP} (h : Vc RL cL_law 9 (some .boolean) 1000 Γ) (hx : Lx L xs Γ) (hkc : kc + 1 ≤ 601024) (hkn : kn + 6 ≤ 7293033) (hL : L ≤ 3072) (hk : k + 6 ≤ L) (hR : REL I J P) (K : ∀ I' J' P', REL I' J' P' → VG Γ (kc + 1) (kn + 6) 1447 [some (.ref 500), some (.ref 0), some (.ref 80), some (.ref 19), some (.int (nI k)), none, none, none, none] [] I' J' P' (LZ Γ)) : VG Γ kc kn 1268 [some (.ref 500), some (.ref 0), some (.ref 80), some (.ref 19), some (.int (nI k)), none, none, none, none] [] I J P (LZ Γ) := by
  refine g_aload_1 h dL_law_1268 ?_
  refine g_aload_0 h dL_law_1269 ?_
  refine g_iload_4 h dL_law_1270 ?_
  refine g_iconst h dL_law_1272 (v := nI 1) rfl ?_
  refine g_iadd h dL_law_1273 ?_
  refine g_xld h hx (k + 1) dL_law_1274 (nI_add k 1) (by omega) (by omega) ?_
  refine g_aload_0 h dL_law_1275 ?_
  refine g_iload_4 h dL_law_1276 ?_
  refine g_iconst h dL_law_1278 (v := nI 2) rfl ?_
  refine g_iadd h dL_law_1279 ?_
  refine g_xld h hx (k + 2) dL_law_1280 (nI_add k 2) (by omega) (by omega) ?_
  refine g_aload_3 h dL_law_1281 ?_
  refine g_help (As := [.ref 0, .int (xs (k + 1)), .int (xs (k + 2)), .ref 19]) h (lx_xl hx) (lx_rok hx hkc hkn) mh_foresee dL_law_1282 ml_L_149 (Nat.le_of_ble_eq_true rfl) rfl (Nat.le_of_ble_eq_true rfl) (sph_qi (ok_foresee hR) (fun r5 I1 J1 P1 hq => ?_))
  show VG Γ (kc + 1) (kn + 6) 1285 [some (.ref 500), some (.ref 0), some (.ref 80), some (.ref 19), some (.int (nI k)), none, none, none, none] [.int r5] I1 J1 P1 (LZ Γ)
  refine g_istore_5 h dL_law_1285 (by decide) rfl ?_
  refine g_aload_2 h dL_law_1287 ?_
  refine g_aload_0 h dL_law_1288 ?_
  refine g_iload_4 h dL_law_1289 ?_
  refine g_iconst h dL_law_1291 (v := nI 1) rfl ?_
  refine g_iadd h dL_law_1292 ?_
  refine g_xld h hx (k + 1) dL_law_1293 (nI_add k 1) (by omega) (by omega) ?_
  refine g_aload_0 h dL_law_1294 ?_
  refine g_iload_4 h dL_law_1295 ?_
  refine g_iconst h dL_law_1297 (v := nI 2) rfl ?_
  refine g_iadd h dL_law_1298 ?_
  refine g_xld h hx (k + 2) dL_law_1299 (nI_add k 2) (by omega) (by omega) ?_
  refine g_cVi2 h (lx_rok hx hkc hkn) mi_X12_foresee dL_law_1300 ml_L_151 rfl rfl rfl (Nat.le_of_ble_eq_true rfl) (Nat.le_of_ble_eq_true rfl) (sp_qi hq (fun r6 I2 J2 P2 hf => ?_))
  refine g_istore_6 h dL_law_1303 (by decide) rfl ?_
  refine g_aload_2 h dL_law_1305 ?_
  refine g_cVi0 h (lx_rok hx hkc hkn) mi_X12_thrown dL_law_1306 ml_L_82 rfl rfl rfl (Nat.le_of_ble_eq_true rfl) (Nat.le_of_ble_eq_true rfl) (sp_X12_thrown ?_)
  refine g_iload_5 h dL_law_1309 ?_
  refine g_icmp_eq h 1316 dL_law_1311 rfl (fun _ => ?_) (fun c => absurd hf.1 c)
  refine g_iload_5 h dL_law_1316 ?_
  refine g_if_ne h 1333 dL_law_1318 rfl (fun c0 => ?_) (fun c0 => ?_)
  · refine g_goto h 1447 dL_law_1333 rfl ?_
    exact vg_none (K I2 J2 P2 hf.2.2)
  · skip
    refine g_aload_3 h dL_law_1321 ?_
    refine g_iconst h dL_law_1322 (v := nI 0) rfl ?_
    refine g_lald h 0 dL_law_1323 rfl rfl (by decide) ?_
    refine g_iload_6 h dL_law_1324 ?_
    refine g_i2l h dL_law_1326 ?_
    refine g_lcmp h dL_law_1327 ?_
    rw [hf.2.1 c0, lcmp_self]
    refine g_if_eq h 1333 dL_law_1328 rfl (fun _ => ?_) (fun c => absurd rfl c)
    refine g_goto h 1447 dL_law_1333 rfl ?_
    exact vg_none (K I2 J2 P2 hf.2.2)
set_option maxRecDepth 100000 in
set_option maxHeartbeats 4000000 in
theorem lw_advise {Γ : Cx} {L kc kn k : Nat} {xs : Nat → Int32} {I : MI} {J : MJ} {P : MP} (h : Vc RL cL_law 9 (some .boolean) 1000 Γ) (hx : Lx L xs Γ) (hkc : kc + 1 ≤ 601024) (hkn : kn + 6 ≤ 7293033) (hL : L ≤ 3072) (hk : k + 6 ≤ L) (hR : REL I J P) (K : ∀ I' J' P', REL I' J' P' → VG Γ (kc + 1) (kn + 6) 1447 [some (.ref 500), some (.ref 0), some (.ref 80), some (.ref 19), some (.int (nI k)), none, none, none, none] [] I' J' P' (LZ Γ)) : VG Γ kc kn 1336 [some (.ref 500), some (.ref 0), some (.ref 80), some (.ref 19), some (.int (nI k)), none, none, none, none] [] I J P (LZ Γ) := by
  refine g_aload_1 h dL_law_1336 ?_
  refine g_aload_0 h dL_law_1337 ?_
  refine g_iload_4 h dL_law_1338 ?_
  refine g_iconst h dL_law_1340 (v := nI 1) rfl ?_
  refine g_iadd h dL_law_1341 ?_
  refine g_xld h hx (k + 1) dL_law_1342 (nI_add k 1) (by omega) (by omega) ?_
  refine g_aload_3 h dL_law_1343 ?_
  refine g_help (As := [.ref 0, .int (xs (k + 1)), .ref 19]) h (lx_xl hx) (lx_rok hx hkc hkn) mh_advise dL_law_1344 ml_L_152 (Nat.le_of_ble_eq_true rfl) rfl (Nat.le_of_ble_eq_true rfl) (sph_qi (ok_advise hR) (fun r5 I1 J1 P1 hq => ?_))
  show VG Γ (kc + 1) (kn + 6) 1347 [some (.ref 500), some (.ref 0), some (.ref 80), some (.ref 19), some (.int (nI k)), none, none, none, none] [.int r5] I1 J1 P1 (LZ Γ)
  refine g_istore_5 h dL_law_1347 (by decide) rfl ?_
  refine g_aload_2 h dL_law_1349 ?_
  refine g_aload_0 h dL_law_1350 ?_
  refine g_iload_4 h dL_law_1351 ?_
  refine g_iconst h dL_law_1353 (v := nI 1) rfl ?_
  refine g_iadd h dL_law_1354 ?_
  refine g_xld h hx (k + 1) dL_law_1355 (nI_add k 1) (by omega) (by omega) ?_
  refine g_cVi1 h (lx_rok hx hkc hkn) mi_X12_advise dL_law_1356 ml_L_154 rfl rfl rfl (Nat.le_of_ble_eq_true rfl) (Nat.le_of_ble_eq_true rfl) (sp_qi hq (fun r6 I2 J2 P2 hf => ?_))
  refine g_istore_6 h dL_law_1359 (by decide) rfl ?_
  refine g_aload_2 h dL_law_1361 ?_
  refine g_cVi0 h (lx_rok hx hkc hkn) mi_X12_thrown dL_law_1362 ml_L_82 rfl rfl rfl (Nat.le_of_ble_eq_true rfl) (Nat.le_of_ble_eq_true rfl) (sp_X12_thrown ?_)
  refine g_iload_5 h dL_law_1365 ?_
  refine g_icmp_eq h 1372 dL_law_1367 rfl (fun _ => ?_) (fun c => absurd hf.1 c)
  refine g_iload_5 h dL_law_1372 ?_
  refine g_if_ne h 1389 dL_law_1374 rfl (fun c0 => ?_) (fun c0 => ?_)
  · refine g_goto h 1447 dL_law_1389 rfl ?_
    exact vg_none (K I2 J2 P2 hf.2.2)
  · skip
    refine g_aload_3 h dL_law_1377 ?_
    refine g_iconst h dL_law_1378 (v := nI 0) rfl ?_
    refine g_lald h 0 dL_law_1379 rfl rfl (by decide) ?_
    refine g_iload_6 h dL_law_1380 ?_
    refine g_i2l h dL_law_1382 ?_
    refine g_lcmp h dL_law_1383 ?_
    rw [hf.2.1 c0, lcmp_self]
    refine g_if_eq h 1389 dL_law_1384 rfl (fun _ => ?_) (fun c => absurd rfl c)
    refine g_goto h 1447 dL_law_1389 rfl ?_
    exact vg_none (K I2 J2 P2 hf.2.2)
set_option maxRecDepth 100000 in
set_option maxHeartbeats 4000000 in
theorem lw_mean {Γ : Cx} {L kc kn k : Nat} {xs : Nat → Int32} {I : MI} {J : MJ} {P : MP} (h : Vc RL cL_law 9 (some .boolean) 1000 Γ) (hx : Lx L xs Γ) (hkc : kc ≤ 601024) (hkn : kn ≤ 7293033) (hL : L ≤ 3072) (hk : k + 6 ≤ L) (hR : REL I J P) (K : ∀ I' J' P', REL I' J' P' → VG Γ kc kn 1447 [some (.ref 500), some (.ref 0), some (.ref 80), some (.ref 19), some (.int (nI k)), none, none, none, none] [] I' J' P' (LZ Γ)) : VG Γ kc kn 1392 [some (.ref 500), some (.ref 0), some (.ref 80), some (.ref 19), some (.int (nI k)), none, none, none, none] [] I J P (LZ Γ) := by
  refine g_aload_1 h dL_law_1392 ?_
  refine g_cVd0 h (lx_rok hx hkc hkn) mi_X10_mean dL_law_1393 ml_L_155 rfl rfl rfl (Nat.le_of_ble_eq_true rfl) (Nat.le_of_ble_eq_true rfl) (sp_qd (ok_mean hR) (fun r I1 J1 P1 hq => ?_))
  refine g_dstore h 5 dL_law_1396 (by decide) rfl ?_
  show VG Γ kc kn 1398 [some (.ref 500), some (.ref 0), some (.ref 80), some (.ref 19), some (.int (nI k)), some (.double r), none, none, none] [] I1 J1 P1 (LZ Γ)
  refine g_aload_2 h dL_law_1398 ?_
  refine g_cVd0 h (lx_rok hx hkc hkn) mi_X12_mean dL_law_1399 ml_L_159 rfl rfl rfl (Nat.le_of_ble_eq_true rfl) (Nat.le_of_ble_eq_true rfl) (sp_qd hq (fun r6 I2 J2 P2 hf => ?_))
  refine g_dstore h 7 dL_law_1402 (by decide) rfl ?_
  show VG Γ kc kn 1404 [some (.ref 500), some (.ref 0), some (.ref 80), some (.ref 19), some (.int (nI k)), some (.double r), none, some (.double r6), none] [] I2 J2 P2 (LZ Γ)
  refine g_dload h 5 dL_law_1404 rfl ?_
  refine g_dload h 7 dL_law_1406 rfl ?_
  refine g_dcmp h dL_law_1408 ?_
  rw [← hf.1.1, hf.1.2]
  refine g_if_eq h 1430 dL_law_1409 rfl (fun _ => ?_) (fun c => absurd rfl c)
  refine g_goto h 1447 dL_law_1430 rfl ?_
  exact vg_none (K I2 J2 P2 hf.2)
set_option maxRecDepth 100000 in
set_option maxHeartbeats 4000000 in
theorem lw_digest {Γ : Cx} {L kc kn k : Nat} {xs : Nat → Int32} {I : MI} {J : MJ} {P : MP} (h : Vc RL cL_law 9 (some .boolean) 1000 Γ) (hx : Lx L xs Γ) (hkc : kc ≤ 601024) (hkn : kn ≤ 7293033) (hL : L ≤ 3072) (hk : k + 6 ≤ L) (hR : REL I J P) (K : ∀ I' J' P', REL I' J' P' → VG Γ kc kn 1447 [some (.ref 500), some (.ref 0), some (.ref 80), some (.ref 19), some (.int (nI k)), none, none, none, none] [] I' J' P' (LZ Γ)) : VG Γ kc kn 1433 [some (.ref 500), some (.ref 0), some (.ref 80), some (.ref 19), some (.int (nI k)), none, none, none, none] [] I J P (LZ Γ) := by
  refine g_aload_1 h dL_law_1433 ?_
  refine g_cVl0 h (lx_rok hx hkc hkn) mi_X10_digest dL_law_1434 ml_L_160 rfl rfl rfl (Nat.le_of_ble_eq_true rfl) (Nat.le_of_ble_eq_true rfl) (sp_ql (ok_digest hR) (fun r I1 J1 P1 hq => ?_))
  refine g_aload_2 h dL_law_1437 ?_
  refine g_cVl0 h (lx_rok hx hkc hkn) mi_X12_digest dL_law_1438 ml_L_164 rfl rfl rfl (Nat.le_of_ble_eq_true rfl) (Nat.le_of_ble_eq_true rfl) (sp_ql hq (fun r6 I2 J2 P2 hf => ?_))
  refine g_lcmp h dL_law_1441 ?_
  rw [← hf.1, lcmp_self]
  refine g_if_eq h 1447 dL_law_1442 rfl (fun _ => ?_) (fun c => absurd rfl c)
  exact vg_none (K I2 J2 P2 hf.2)
