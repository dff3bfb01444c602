/-! The law's list: its later parts -/
section LBK
variable {d kc kn : Nat} {Γ : Cz} {base : va_W} {Φ : State → Prop} {ad : Nat → Nat} {tx : TXo} {cy : Nat → ClassId} {b N0 y0 : Nat} {l0 : List Nat} {g0 : Nat → Int32} {z : Nat × va_E} {x3 x4 x5 : Option Value}
set_option maxHeartbeats 1000000 in
theorem ll_A (hv : VM ad tx cy Γ) (h : Vk RL cL_list 6 (d + 11) Γ) (hR : Rk Γ (kc + 20) (kn + 70924)) (hlt : LT l0 g0) (hl0 : l0.length ≤ N0) (hN0' : N0 + 240 ≤ 2100) (k : ∀ (b' y : Nat) (g : Nat → Int32), LT (l0 ++ (kS 10 ++ (kS 44 ++ (kS 11 ++ (kS 39 ++ (kS 12 ++ (kS 43 ++ (kS 13 ++ (kS 45 ++ (kS 11 ++ (kS 40 ++ (kS 12 ++ (kS 41 ++ (kS 12 ++ (kS 42 ++ (kS 4)))))))))))))))) g → (l0 ++ (kS 10 ++ (kS 44 ++ (kS 11 ++ (kS 39 ++ (kS 12 ++ (kS 43 ++ (kS 13 ++ (kS 45 ++ (kS 11 ++ (kS 40 ++ (kS 12 ++ (kS 41 ++ (kS 12 ++ (kS 42 ++ (kS 4)))))))))))))))).length ≤ N0 + 240 → CW Γ (kc + 20) (kn + 70924) 315 [some (.ref (ad 500)), some (.ref (ad 401)), some (.ref b'), x3, x4, x5] [] (wT cy b' y (l0 ++ (kS 10 ++ (kS 44 ++ (kS 11 ++ (kS 39 ++ (kS 12 ++ (kS 43 ++ (kS 13 ++ (kS 45 ++ (kS 11 ++ (kS 40 ++ (kS 12 ++ (kS 41 ++ (kS 12 ++ (kS 42 ++ (kS 4)))))))))))))))) g ++ [z]) Φ) : CW Γ kc kn 214 [some (.ref (ad 500)), some (.ref (ad 401)), some (.ref b), x3, x4, x5] [] (wT cy b y0 l0 g0 ++ [z]) Φ := by
  have hN0 : N0 ≤ 2100 := by omega
  refine kl_new hv h (rk_le hR (by omega) (by omega)) dL_list_214 dL_list_217 dL_list_218 (Nat.le_of_ble_eq_true rfl) (fun a v => ?_)
  refine kw_alod h 2 dL_list_221 rfl rfl ?_
  refine kl_aO hv h (rk_le hR (by omega) (by omega)) (own_w h hv.1 hlt) hl0 hN0 dL_list_222 (Nat.le_of_ble_eq_true rfl) (fun v m g hS hN => ?_)
  refine kw_ldcL hv.2.1 h (i := 10) (by decide) dL_list_225 ?_
  refine kl_aR hv h (rk_le hR (by omega) (by omega)) 10 (by decide) rfl (by decide) dL_list_227 hS hN (by omega) (Nat.le_of_ble_eq_true rfl) (fun v m g hS hN => ?_)
  refine kw_alod h 1 dL_list_230 rfl rfl ?_
  refine kw_bp h dL_list_231 (v := nI 8) rfl ?_
  refine kw_nAt hv.2.1 h 8 dL_list_233 rfl (by decide) ?_
  refine kl_aR hv h (rk_le hR (by omega) (by omega)) 44 (by decide) rfl (by decide) dL_list_234 hS hN (by omega) (Nat.le_of_ble_eq_true rfl) (fun v m g hS hN => ?_)
  refine kw_ldcL hv.2.1 h (i := 11) (by decide) dL_list_237 ?_
  refine kl_aR hv h (rk_le hR (by omega) (by omega)) 11 (by decide) rfl (by decide) dL_list_239 hS hN (by omega) (Nat.le_of_ble_eq_true rfl) (fun v m g hS hN => ?_)
  refine kw_alod h 1 dL_list_242 rfl rfl ?_
  refine kw_ic h dL_list_243 (v := nI 3) rfl ?_
  refine kw_nAt hv.2.1 h 3 dL_list_244 rfl (by decide) ?_
  refine kl_aR hv h (rk_le hR (by omega) (by omega)) 39 (by decide) rfl (by decide) dL_list_245 hS hN (by omega) (Nat.le_of_ble_eq_true rfl) (fun v m g hS hN => ?_)
  refine kw_ldcL hv.2.1 h (i := 12) (by decide) dL_list_248 ?_
  refine kl_aR hv h (rk_le hR (by omega) (by omega)) 12 (by decide) rfl (by decide) dL_list_250 hS hN (by omega) (Nat.le_of_ble_eq_true rfl) (fun v m g hS hN => ?_)
  refine kw_alod h 1 dL_list_253 rfl rfl ?_
  refine kw_bp h dL_list_254 (v := nI 7) rfl ?_
  refine kw_nAt hv.2.1 h 7 dL_list_256 rfl (by decide) ?_
  refine kl_aR hv h (rk_le hR (by omega) (by omega)) 43 (by decide) rfl (by decide) dL_list_257 hS hN (by omega) (Nat.le_of_ble_eq_true rfl) (fun v m g hS hN => ?_)
  refine kw_ldcL hv.2.1 h (i := 13) (by decide) dL_list_260 ?_
  refine kl_aR hv h (rk_le hR (by omega) (by omega)) 13 (by decide) rfl (by decide) dL_list_262 hS hN (by omega) (Nat.le_of_ble_eq_true rfl) (fun v m g hS hN => ?_)
  refine kw_alod h 1 dL_list_265 rfl rfl ?_
  refine kw_bp h dL_list_266 (v := nI 9) rfl ?_
  refine kw_nAt hv.2.1 h 9 dL_list_268 rfl (by decide) ?_
  refine kl_aR hv h (rk_le hR (by omega) (by omega)) 45 (by decide) rfl (by decide) dL_list_269 hS hN (by omega) (Nat.le_of_ble_eq_true rfl) (fun v m g hS hN => ?_)
  refine kw_ldcL hv.2.1 h (i := 11) (by decide) dL_list_272 ?_
  refine kl_aR hv h (rk_le hR (by omega) (by omega)) 11 (by decide) rfl (by decide) dL_list_274 hS hN (by omega) (Nat.le_of_ble_eq_true rfl) (fun v m g hS hN => ?_)
  refine kw_alod h 1 dL_list_277 rfl rfl ?_
  refine kw_ic h dL_list_278 (v := nI 4) rfl ?_
  refine kw_nAt hv.2.1 h 4 dL_list_279 rfl (by decide) ?_
  refine kl_aR hv h (rk_le hR (by omega) (by omega)) 40 (by decide) rfl (by decide) dL_list_280 hS hN (by omega) (Nat.le_of_ble_eq_true rfl) (fun v m g hS hN => ?_)
  refine kw_ldcL hv.2.1 h (i := 12) (by decide) dL_list_283 ?_
  refine kl_aR hv h (rk_le hR (by omega) (by omega)) 12 (by decide) rfl (by decide) dL_list_285 hS hN (by omega) (Nat.le_of_ble_eq_true rfl) (fun v m g hS hN => ?_)
  refine kw_alod h 1 dL_list_288 rfl rfl ?_
  refine kw_ic h dL_list_289 (v := nI 5) rfl ?_
  refine kw_nAt hv.2.1 h 5 dL_list_290 rfl (by decide) ?_
  refine kl_aR hv h (rk_le hR (by omega) (by omega)) 41 (by decide) rfl (by decide) dL_list_291 hS hN (by omega) (Nat.le_of_ble_eq_true rfl) (fun v m g hS hN => ?_)
  refine kw_ldcL hv.2.1 h (i := 12) (by decide) dL_list_294 ?_
  refine kl_aR hv h (rk_le hR (by omega) (by omega)) 12 (by decide) rfl (by decide) dL_list_296 hS hN (by omega) (Nat.le_of_ble_eq_true rfl) (fun v m g hS hN => ?_)
  refine kw_alod h 1 dL_list_299 rfl rfl ?_
  refine kw_bp h dL_list_300 (v := nI 6) rfl ?_
  refine kw_nAt hv.2.1 h 6 dL_list_302 rfl (by decide) ?_
  refine kl_aR hv h (rk_le hR (by omega) (by omega)) 42 (by decide) rfl (by decide) dL_list_303 hS hN (by omega) (Nat.le_of_ble_eq_true rfl) (fun v m g hS hN => ?_)
  refine kw_ldcL hv.2.1 h (i := 4) (by decide) dL_list_306 ?_
  refine kl_aR hv h (rk_le hR (by omega) (by omega)) 4 (by decide) rfl (by decide) dL_list_308 hS hN (by omega) (Nat.le_of_ble_eq_true rfl) (fun v m g hS hN => ?_)
  refine kl_str (wr := [z]) hv h (rk_le hR (by omega) (by omega)) [2] rfl rfl dL_list_311 hS (by omega) (Nat.le_of_ble_eq_true rfl) (fun b' y g' hg => ?_)
  have e : (((((((((((((((l0 ++ kS 10) ++ kS 44) ++ kS 11) ++ kS 39) ++ kS 12) ++ kS 43) ++ kS 13) ++ kS 45) ++ kS 11) ++ kS 40) ++ kS 12) ++ kS 41) ++ kS 12) ++ kS 42) ++ kS 4) = l0 ++ (kS 10 ++ (kS 44 ++ (kS 11 ++ (kS 39 ++ (kS 12 ++ (kS 43 ++ (kS 13 ++ (kS 45 ++ (kS 11 ++ (kS 40 ++ (kS 12 ++ (kS 41 ++ (kS 12 ++ (kS 42 ++ (kS 4))))))))))))))) := by simp only [List.append_assoc]
  rw [e] at hg hN ⊢
  refine kw_asto h 2 dL_list_314 rfl (by decide) rfl ?_
  refine k_drop [1, 2, 0] (ws' := wT cy b' y _ g' ++ [z]) rfl rfl ?_
  refine k_pad (kc' := kc + 20) (kn' := kn + 70924) (by omega) (by omega) ?_
  exact k  b' y g' hg (by omega)
set_option maxHeartbeats 1000000 in
theorem ll_B (hv : VM ad tx cy Γ) (h : Vk RL cL_list 6 (d + 11) Γ) (hR : Rk Γ (kc + 94) (kn + 133124)) (hlt : LT l0 g0) (hl0 : l0.length ≤ N0) (hN0' : N0 + 144 ≤ 2100) (k : ∀ (u345 u373 : Nat) (hu345 : (1 ≤ u345 ∧ u345 ≤ 9)) (hu373 : (1 ≤ u373 ∧ u373 ≤ 9)) (b' y : Nat) (g : Nat → Int32), LT (l0 ++ (kS 14 ++ (kS 46 ++ (kS 15 ++ (dgl 3 u345 ++ (kS 16 ++ (kS 47 ++ (kS 15 ++ (dgl 3 u373 ++ (kS 4)))))))))) g → (l0 ++ (kS 14 ++ (kS 46 ++ (kS 15 ++ (dgl 3 u345 ++ (kS 16 ++ (kS 47 ++ (kS 15 ++ (dgl 3 u373 ++ (kS 4)))))))))).length ≤ N0 + 144 → CW Γ (kc + 94) (kn + 133124) 391 [some (.ref (ad 500)), some (.ref (ad 401)), some (.ref b'), x3, x4, x5] [] (wT cy b' y (l0 ++ (kS 14 ++ (kS 46 ++ (kS 15 ++ (dgl 3 u345 ++ (kS 16 ++ (kS 47 ++ (kS 15 ++ (dgl 3 u373 ++ (kS 4)))))))))) g ++ [z]) Φ) : CW Γ kc kn 315 [some (.ref (ad 500)), some (.ref (ad 401)), some (.ref b), x3, x4, x5] [] (wT cy b y0 l0 g0 ++ [z]) Φ := by
  have hN0 : N0 ≤ 2100 := by omega
  refine kl_new hv h (rk_le hR (by omega) (by omega)) dL_list_315 dL_list_318 dL_list_319 (Nat.le_of_ble_eq_true rfl) (fun a v => ?_)
  refine kw_alod h 2 dL_list_322 rfl rfl ?_
  refine kl_aO hv h (rk_le hR (by omega) (by omega)) (own_w h hv.1 hlt) hl0 hN0 dL_list_323 (Nat.le_of_ble_eq_true rfl) (fun v m g hS hN => ?_)
  refine kw_ldcL hv.2.1 h (i := 14) (by decide) dL_list_326 ?_
  refine kl_aR hv h (rk_le hR (by omega) (by omega)) 14 (by decide) rfl (by decide) dL_list_328 hS hN (by omega) (Nat.le_of_ble_eq_true rfl) (fun v m g hS hN => ?_)
  refine kw_alod h 1 dL_list_331 rfl rfl ?_
  refine kw_bp h dL_list_332 (v := nI 10) rfl ?_
  refine kw_nAt hv.2.1 h 10 dL_list_334 rfl (by decide) ?_
  refine kl_aR hv h (rk_le hR (by omega) (by omega)) 46 (by decide) rfl (by decide) dL_list_335 hS hN (by omega) (Nat.le_of_ble_eq_true rfl) (fun v m g hS hN => ?_)
  refine kw_ldcL hv.2.1 h (i := 15) (by decide) dL_list_338 ?_
  refine kl_aR hv h (rk_le hR (by omega) (by omega)) 15 (by decide) rfl (by decide) dL_list_340 hS hN (by omega) (Nat.le_of_ble_eq_true rfl) (fun v m g hS hN => ?_)
  refine kw_alod h 0 dL_list_343 rfl rfl ?_
  refine kw_ic h dL_list_344 (v := nI 0) rfl ?_
  refine km_leafS (As := [.ref (ad 500), .int (nI 0)]) hv h (rk_le hR (by omega) (by omega)) none mi_L_care (by decide) dL_list_345 ml_L_109 (Nat.le_of_ble_eq_true rfl) rfl (Nat.le_of_ble_eq_true rfl) ts_none (kt_care (by decide)) (fun r q => ?_)
  obtain ⟨u345, hu345, rfl⟩ := q
  rw [rs_cons]
  refine kl_num hv h (rk_le hR (by omega) (by omega)) dL_list_348 (by omega) (Nat.le_of_ble_eq_true rfl) (fun bu345 yu345 gu345 zu345 => ?_)
  refine kl_aT hv h (rk_le hR (by omega) (by omega)) zu345 dL_list_351 hS hN (by omega) (Nat.le_of_ble_eq_true rfl) (fun v m g hS hN => ?_)
  refine kw_ldcL hv.2.1 h (i := 16) (by decide) dL_list_354 ?_
  refine kl_aR hv h (rk_le hR (by omega) (by omega)) 16 (by decide) rfl (by decide) dL_list_356 hS hN (by omega) (Nat.le_of_ble_eq_true rfl) (fun v m g hS hN => ?_)
  refine kw_alod h 1 dL_list_359 rfl rfl ?_
  refine kw_bp h dL_list_360 (v := nI 11) rfl ?_
  refine kw_nAt hv.2.1 h 11 dL_list_362 rfl (by decide) ?_
  refine kl_aR hv h (rk_le hR (by omega) (by omega)) 47 (by decide) rfl (by decide) dL_list_363 hS hN (by omega) (Nat.le_of_ble_eq_true rfl) (fun v m g hS hN => ?_)
  refine kw_ldcL hv.2.1 h (i := 15) (by decide) dL_list_366 ?_
  refine kl_aR hv h (rk_le hR (by omega) (by omega)) 15 (by decide) rfl (by decide) dL_list_368 hS hN (by omega) (Nat.le_of_ble_eq_true rfl) (fun v m g hS hN => ?_)
  refine kw_alod h 0 dL_list_371 rfl rfl ?_
  refine kw_ic h dL_list_372 (v := nI 1) rfl ?_
  refine km_leafS (As := [.ref (ad 500), .int (nI 1)]) hv h (rk_le hR (by omega) (by omega)) none mi_L_care (by decide) dL_list_373 ml_L_109 (Nat.le_of_ble_eq_true rfl) rfl (Nat.le_of_ble_eq_true rfl) ts_none (kt_care (by decide)) (fun r q => ?_)
  obtain ⟨u373, hu373, rfl⟩ := q
  rw [rs_cons]
  refine kl_num hv h (rk_le hR (by omega) (by omega)) dL_list_376 (by omega) (Nat.le_of_ble_eq_true rfl) (fun bu373 yu373 gu373 zu373 => ?_)
  refine kl_aT hv h (rk_le hR (by omega) (by omega)) zu373 dL_list_379 hS hN (by omega) (Nat.le_of_ble_eq_true rfl) (fun v m g hS hN => ?_)
  refine kw_ldcL hv.2.1 h (i := 4) (by decide) dL_list_382 ?_
  refine kl_aR hv h (rk_le hR (by omega) (by omega)) 4 (by decide) rfl (by decide) dL_list_384 hS hN (by omega) (Nat.le_of_ble_eq_true rfl) (fun v m g hS hN => ?_)
  refine kl_str (wr := [z]) hv h (rk_le hR (by omega) (by omega)) [2] rfl rfl dL_list_387 hS (by omega) (Nat.le_of_ble_eq_true rfl) (fun b' y g' hg => ?_)
  have e : (((((((((l0 ++ kS 14) ++ kS 46) ++ kS 15) ++ dgl 3 u345) ++ kS 16) ++ kS 47) ++ kS 15) ++ dgl 3 u373) ++ kS 4) = l0 ++ (kS 14 ++ (kS 46 ++ (kS 15 ++ (dgl 3 u345 ++ (kS 16 ++ (kS 47 ++ (kS 15 ++ (dgl 3 u373 ++ (kS 4))))))))) := by simp only [List.append_assoc]
  rw [e] at hg hN ⊢
  refine kw_asto h 2 dL_list_390 rfl (by decide) rfl ?_
  refine k_drop [1, 2, 0] (ws' := wT cy b' y _ g' ++ [z]) rfl rfl ?_
  refine k_pad (kc' := kc + 94) (kn' := kn + 133124) (by omega) (by omega) ?_
  exact k u345  u373 hu345 hu373 b' y g' hg (by omega)
set_option maxHeartbeats 1000000 in
theorem ll_C (hv : VM ad tx cy Γ) (h : Vk RL cL_list 6 (d + 11) Γ) (hR : Rk Γ (kc + 56) (kn + 97724)) (hlt : LT l0 g0) (hl0 : l0.length ≤ N0) (hN0' : N0 + 176 ≤ 2100) (k : ∀ (u442 : Nat) (hu442 : u442 < 3000) (b' y : Nat) (g : Nat → Int32), LT (l0 ++ (kS 17 ++ (kS 40 ++ (kS 18 ++ (kS 46 ++ (kS 19 ++ (kS 40 ++ (kS 20 ++ (dgl 3 u442 ++ (kS 21 ++ (kS 43 ++ (kS 4)))))))))))) g → (l0 ++ (kS 17 ++ (kS 40 ++ (kS 18 ++ (kS 46 ++ (kS 19 ++ (kS 40 ++ (kS 20 ++ (dgl 3 u442 ++ (kS 21 ++ (kS 43 ++ (kS 4)))))))))))).length ≤ N0 + 176 → CW Γ (kc + 56) (kn + 97724) 472 [some (.ref (ad 500)), some (.ref (ad 401)), some (.ref b'), x3, x4, x5] [] (wT cy b' y (l0 ++ (kS 17 ++ (kS 40 ++ (kS 18 ++ (kS 46 ++ (kS 19 ++ (kS 40 ++ (kS 20 ++ (dgl 3 u442 ++ (kS 21 ++ (kS 43 ++ (kS 4)))))))))))) g ++ [z]) Φ) : CW Γ kc kn 391 [some (.ref (ad 500)), some (.ref (ad 401)), some (.ref b), x3, x4, x5] [] (wT cy b y0 l0 g0 ++ [z]) Φ := by
  have hN0 : N0 ≤ 2100 := by omega
  refine kl_new hv h (rk_le hR (by omega) (by omega)) dL_list_391 dL_list_394 dL_list_395 (Nat.le_of_ble_eq_true rfl) (fun a v => ?_)
  refine kw_alod h 2 dL_list_398 rfl rfl ?_
  refine kl_aO hv h (rk_le hR (by omega) (by omega)) (own_w h hv.1 hlt) hl0 hN0 dL_list_399 (Nat.le_of_ble_eq_true rfl) (fun v m g hS hN => ?_)
  refine kw_ldcL hv.2.1 h (i := 17) (by decide) dL_list_402 ?_
  refine kl_aR hv h (rk_le hR (by omega) (by omega)) 17 (by decide) rfl (by decide) dL_list_404 hS hN (by omega) (Nat.le_of_ble_eq_true rfl) (fun v m g hS hN => ?_)
  refine kw_alod h 1 dL_list_407 rfl rfl ?_
  refine kw_ic h dL_list_408 (v := nI 4) rfl ?_
  refine kw_nAt hv.2.1 h 4 dL_list_409 rfl (by decide) ?_
  refine kl_aR hv h (rk_le hR (by omega) (by omega)) 40 (by decide) rfl (by decide) dL_list_410 hS hN (by omega) (Nat.le_of_ble_eq_true rfl) (fun v m g hS hN => ?_)
  refine kw_ldcL hv.2.1 h (i := 18) (by decide) dL_list_413 ?_
  refine kl_aR hv h (rk_le hR (by omega) (by omega)) 18 (by decide) rfl (by decide) dL_list_415 hS hN (by omega) (Nat.le_of_ble_eq_true rfl) (fun v m g hS hN => ?_)
  refine kw_alod h 1 dL_list_418 rfl rfl ?_
  refine kw_bp h dL_list_419 (v := nI 10) rfl ?_
  refine kw_nAt hv.2.1 h 10 dL_list_421 rfl (by decide) ?_
  refine kl_aR hv h (rk_le hR (by omega) (by omega)) 46 (by decide) rfl (by decide) dL_list_422 hS hN (by omega) (Nat.le_of_ble_eq_true rfl) (fun v m g hS hN => ?_)
  refine kw_ldcL hv.2.1 h (i := 19) (by decide) dL_list_425 ?_
  refine kl_aR hv h (rk_le hR (by omega) (by omega)) 19 (by decide) rfl (by decide) dL_list_427 hS hN (by omega) (Nat.le_of_ble_eq_true rfl) (fun v m g hS hN => ?_)
  refine kw_alod h 1 dL_list_430 rfl rfl ?_
  refine kw_ic h dL_list_431 (v := nI 4) rfl ?_
  refine kw_nAt hv.2.1 h 4 dL_list_432 rfl (by decide) ?_
  refine kl_aR hv h (rk_le hR (by omega) (by omega)) 40 (by decide) rfl (by decide) dL_list_433 hS hN (by omega) (Nat.le_of_ble_eq_true rfl) (fun v m g hS hN => ?_)
  refine kw_ldcL hv.2.1 h (i := 20) (by decide) dL_list_436 ?_
  refine kl_aR hv h (rk_le hR (by omega) (by omega)) 20 (by decide) rfl (by decide) dL_list_438 hS hN (by omega) (Nat.le_of_ble_eq_true rfl) (fun v m g hS hN => ?_)
  refine kw_alod h 0 dL_list_441 rfl rfl ?_
  refine km_leafS (As := [.ref (ad 500)]) hv h (rk_le hR (by omega) (by omega)) none mi_L_adds (by decide) dL_list_442 ml_L_122 (Nat.le_of_ble_eq_true rfl) rfl (Nat.le_of_ble_eq_true rfl) ts_none kt_adds (fun r q => ?_)
  obtain ⟨u442, hu442, rfl⟩ := q
  rw [rs_cons]
  refine kl_num hv h (rk_le hR (by omega) (by omega)) dL_list_445 (by omega) (Nat.le_of_ble_eq_true rfl) (fun bu442 yu442 gu442 zu442 => ?_)
  refine kl_aT hv h (rk_le hR (by omega) (by omega)) zu442 dL_list_448 hS hN (by omega) (Nat.le_of_ble_eq_true rfl) (fun v m g hS hN => ?_)
  refine kw_ldcL hv.2.1 h (i := 21) (by decide) dL_list_451 ?_
  refine kl_aR hv h (rk_le hR (by omega) (by omega)) 21 (by decide) rfl (by decide) dL_list_453 hS hN (by omega) (Nat.le_of_ble_eq_true rfl) (fun v m g hS hN => ?_)
  refine kw_alod h 1 dL_list_456 rfl rfl ?_
  refine kw_bp h dL_list_457 (v := nI 7) rfl ?_
  refine kw_nAt hv.2.1 h 7 dL_list_459 rfl (by decide) ?_
  refine kl_aR hv h (rk_le hR (by omega) (by omega)) 43 (by decide) rfl (by decide) dL_list_460 hS hN (by omega) (Nat.le_of_ble_eq_true rfl) (fun v m g hS hN => ?_)
  refine kw_ldcL hv.2.1 h (i := 4) (by decide) dL_list_463 ?_
  refine kl_aR hv h (rk_le hR (by omega) (by omega)) 4 (by decide) rfl (by decide) dL_list_465 hS hN (by omega) (Nat.le_of_ble_eq_true rfl) (fun v m g hS hN => ?_)
  refine kl_str (wr := [z]) hv h (rk_le hR (by omega) (by omega)) [2] rfl rfl dL_list_468 hS (by omega) (Nat.le_of_ble_eq_true rfl) (fun b' y g' hg => ?_)
  have e : (((((((((((l0 ++ kS 17) ++ kS 40) ++ kS 18) ++ kS 46) ++ kS 19) ++ kS 40) ++ kS 20) ++ dgl 3 u442) ++ kS 21) ++ kS 43) ++ kS 4) = l0 ++ (kS 17 ++ (kS 40 ++ (kS 18 ++ (kS 46 ++ (kS 19 ++ (kS 40 ++ (kS 20 ++ (dgl 3 u442 ++ (kS 21 ++ (kS 43 ++ (kS 4))))))))))) := by simp only [List.append_assoc]
  rw [e] at hg hN ⊢
  refine kw_asto h 2 dL_list_471 rfl (by decide) rfl ?_
  refine k_drop [1, 2, 0] (ws' := wT cy b' y _ g' ++ [z]) rfl rfl ?_
  refine k_pad (kc' := kc + 56) (kn' := kn + 97724) (by omega) (by omega) ?_
  exact k u442 hu442 b' y g' hg (by omega)
set_option maxHeartbeats 1000000 in
theorem ll_D (hv : VM ad tx cy Γ) (h : Vk RL cL_list 6 (d + 11) Γ) (hR : Rk Γ (kc + 14) (kn + 45124)) (hlt : LT l0 g0) (hl0 : l0.length ≤ N0) (hN0' : N0 + 144 ≤ 2100) (k : ∀ (b' y : Nat) (g : Nat → Int32), LT (l0 ++ (kS 22 ++ (kS 44 ++ (kS 18 ++ (kS 46 ++ (kS 23 ++ (kS 44 ++ (kS 24 ++ (kS 47 ++ (kS 25)))))))))) g → (l0 ++ (kS 22 ++ (kS 44 ++ (kS 18 ++ (kS 46 ++ (kS 23 ++ (kS 44 ++ (kS 24 ++ (kS 47 ++ (kS 25)))))))))).length ≤ N0 + 144 → CW Γ (kc + 14) (kn + 45124) 540 [some (.ref (ad 500)), some (.ref (ad 401)), some (.ref b'), x3, x4, x5] [] (wT cy b' y (l0 ++ (kS 22 ++ (kS 44 ++ (kS 18 ++ (kS 46 ++ (kS 23 ++ (kS 44 ++ (kS 24 ++ (kS 47 ++ (kS 25)))))))))) g ++ [z]) Φ) : CW Γ kc kn 472 [some (.ref (ad 500)), some (.ref (ad 401)), some (.ref b), x3, x4, x5] [] (wT cy b y0 l0 g0 ++ [z]) Φ := by
  have hN0 : N0 ≤ 2100 := by omega
  refine kl_new hv h (rk_le hR (by omega) (by omega)) dL_list_472 dL_list_475 dL_list_476 (Nat.le_of_ble_eq_true rfl) (fun a v => ?_)
  refine kw_alod h 2 dL_list_479 rfl rfl ?_
  refine kl_aO hv h (rk_le hR (by omega) (by omega)) (own_w h hv.1 hlt) hl0 hN0 dL_list_480 (Nat.le_of_ble_eq_true rfl) (fun v m g hS hN => ?_)
  refine kw_ldcL hv.2.1 h (i := 22) (by decide) dL_list_483 ?_
  refine kl_aR hv h (rk_le hR (by omega) (by omega)) 22 (by decide) rfl (by decide) dL_list_485 hS hN (by omega) (Nat.le_of_ble_eq_true rfl) (fun v m g hS hN => ?_)
  refine kw_alod h 1 dL_list_488 rfl rfl ?_
  refine kw_bp h dL_list_489 (v := nI 8) rfl ?_
  refine kw_nAt hv.2.1 h 8 dL_list_491 rfl (by decide) ?_
  refine kl_aR hv h (rk_le hR (by omega) (by omega)) 44 (by decide) rfl (by decide) dL_list_492 hS hN (by omega) (Nat.le_of_ble_eq_true rfl) (fun v m g hS hN => ?_)
  refine kw_ldcL hv.2.1 h (i := 18) (by decide) dL_list_495 ?_
  refine kl_aR hv h (rk_le hR (by omega) (by omega)) 18 (by decide) rfl (by decide) dL_list_497 hS hN (by omega) (Nat.le_of_ble_eq_true rfl) (fun v m g hS hN => ?_)
  refine kw_alod h 1 dL_list_500 rfl rfl ?_
  refine kw_bp h dL_list_501 (v := nI 10) rfl ?_
  refine kw_nAt hv.2.1 h 10 dL_list_503 rfl (by decide) ?_
  refine kl_aR hv h (rk_le hR (by omega) (by omega)) 46 (by decide) rfl (by decide) dL_list_504 hS hN (by omega) (Nat.le_of_ble_eq_true rfl) (fun v m g hS hN => ?_)
  refine kw_ldcL hv.2.1 h (i := 23) (by decide) dL_list_507 ?_
  refine kl_aR hv h (rk_le hR (by omega) (by omega)) 23 (by decide) rfl (by decide) dL_list_509 hS hN (by omega) (Nat.le_of_ble_eq_true rfl) (fun v m g hS hN => ?_)
  refine kw_alod h 1 dL_list_512 rfl rfl ?_
  refine kw_bp h dL_list_513 (v := nI 8) rfl ?_
  refine kw_nAt hv.2.1 h 8 dL_list_515 rfl (by decide) ?_
  refine kl_aR hv h (rk_le hR (by omega) (by omega)) 44 (by decide) rfl (by decide) dL_list_516 hS hN (by omega) (Nat.le_of_ble_eq_true rfl) (fun v m g hS hN => ?_)
  refine kw_ldcL hv.2.1 h (i := 24) (by decide) dL_list_519 ?_
  refine kl_aR hv h (rk_le hR (by omega) (by omega)) 24 (by decide) rfl (by decide) dL_list_521 hS hN (by omega) (Nat.le_of_ble_eq_true rfl) (fun v m g hS hN => ?_)
  refine kw_alod h 1 dL_list_524 rfl rfl ?_
  refine kw_bp h dL_list_525 (v := nI 11) rfl ?_
  refine kw_nAt hv.2.1 h 11 dL_list_527 rfl (by decide) ?_
  refine kl_aR hv h (rk_le hR (by omega) (by omega)) 47 (by decide) rfl (by decide) dL_list_528 hS hN (by omega) (Nat.le_of_ble_eq_true rfl) (fun v m g hS hN => ?_)
  refine kw_ldcL hv.2.1 h (i := 25) (by decide) dL_list_531 ?_
  refine kl_aR hv h (rk_le hR (by omega) (by omega)) 25 (by decide) rfl (by decide) dL_list_533 hS hN (by omega) (Nat.le_of_ble_eq_true rfl) (fun v m g hS hN => ?_)
  refine kl_str (wr := [z]) hv h (rk_le hR (by omega) (by omega)) [2] rfl rfl dL_list_536 hS (by omega) (Nat.le_of_ble_eq_true rfl) (fun b' y g' hg => ?_)
  have e : (((((((((l0 ++ kS 22) ++ kS 44) ++ kS 18) ++ kS 46) ++ kS 23) ++ kS 44) ++ kS 24) ++ kS 47) ++ kS 25) = l0 ++ (kS 22 ++ (kS 44 ++ (kS 18 ++ (kS 46 ++ (kS 23 ++ (kS 44 ++ (kS 24 ++ (kS 47 ++ (kS 25))))))))) := by simp only [List.append_assoc]
  rw [e] at hg hN ⊢
  refine kw_asto h 2 dL_list_539 rfl (by decide) rfl ?_
  refine k_drop [1, 2, 0] (ws' := wT cy b' y _ g' ++ [z]) rfl rfl ?_
  refine k_pad (kc' := kc + 14) (kn' := kn + 45124) (by omega) (by omega) ?_
  exact k  b' y g' hg (by omega)
set_option maxHeartbeats 1000000 in
theorem ll_E (hv : VM ad tx cy Γ) (h : Vk RL cL_list 6 (d + 11) Γ) (hR : Rk Γ (kc + 98) (kn + 150324)) (hlt : LT l0 g0) (hl0 : l0.length ≤ N0) (hN0' : N0 + 208 ≤ 2100) (k : ∀ (u592 u607 : Nat) (hu592 : u592 < 20) (hu607 : u607 < 20) (b' y : Nat) (g : Nat → Int32), LT (l0 ++ (kS 17 ++ (kS 42 ++ (kS 18 ++ (kS 47 ++ (kS 26 ++ (kS 41 ++ (kS 27 ++ (dgl 3 u592 ++ (kS 30 ++ (dgl 3 u607 ++ (kS 31 ++ (kS 42 ++ (kS 32)))))))))))))) g → (l0 ++ (kS 17 ++ (kS 42 ++ (kS 18 ++ (kS 47 ++ (kS 26 ++ (kS 41 ++ (kS 27 ++ (dgl 3 u592 ++ (kS 30 ++ (dgl 3 u607 ++ (kS 31 ++ (kS 42 ++ (kS 32)))))))))))))).length ≤ N0 + 208 → CW Γ (kc + 98) (kn + 150324) 637 [some (.ref (ad 500)), some (.ref (ad 401)), some (.ref b'), x3, x4, x5] [] (wT cy b' y (l0 ++ (kS 17 ++ (kS 42 ++ (kS 18 ++ (kS 47 ++ (kS 26 ++ (kS 41 ++ (kS 27 ++ (dgl 3 u592 ++ (kS 30 ++ (dgl 3 u607 ++ (kS 31 ++ (kS 42 ++ (kS 32)))))))))))))) g ++ [z]) Φ) : CW Γ kc kn 540 [some (.ref (ad 500)), some (.ref (ad 401)), some (.ref b), x3, x4, x5] [] (wT cy b y0 l0 g0 ++ [z]) Φ := by
  have hN0 : N0 ≤ 2100 := by omega
  refine kl_new hv h (rk_le hR (by omega) (by omega)) dL_list_540 dL_list_543 dL_list_544 (Nat.le_of_ble_eq_true rfl) (fun a v => ?_)
  refine kw_alod h 2 dL_list_547 rfl rfl ?_
  refine kl_aO hv h (rk_le hR (by omega) (by omega)) (own_w h hv.1 hlt) hl0 hN0 dL_list_548 (Nat.le_of_ble_eq_true rfl) (fun v m g hS hN => ?_)
  refine kw_ldcL hv.2.1 h (i := 17) (by decide) dL_list_551 ?_
  refine kl_aR hv h (rk_le hR (by omega) (by omega)) 17 (by decide) rfl (by decide) dL_list_553 hS hN (by omega) (Nat.le_of_ble_eq_true rfl) (fun v m g hS hN => ?_)
  refine kw_alod h 1 dL_list_556 rfl rfl ?_
  refine kw_bp h dL_list_557 (v := nI 6) rfl ?_
  refine kw_nAt hv.2.1 h 6 dL_list_559 rfl (by decide) ?_
  refine kl_aR hv h (rk_le hR (by omega) (by omega)) 42 (by decide) rfl (by decide) dL_list_560 hS hN (by omega) (Nat.le_of_ble_eq_true rfl) (fun v m g hS hN => ?_)
  refine kw_ldcL hv.2.1 h (i := 18) (by decide) dL_list_563 ?_
  refine kl_aR hv h (rk_le hR (by omega) (by omega)) 18 (by decide) rfl (by decide) dL_list_565 hS hN (by omega) (Nat.le_of_ble_eq_true rfl) (fun v m g hS hN => ?_)
  refine kw_alod h 1 dL_list_568 rfl rfl ?_
  refine kw_bp h dL_list_569 (v := nI 11) rfl ?_
  refine kw_nAt hv.2.1 h 11 dL_list_571 rfl (by decide) ?_
  refine kl_aR hv h (rk_le hR (by omega) (by omega)) 47 (by decide) rfl (by decide) dL_list_572 hS hN (by omega) (Nat.le_of_ble_eq_true rfl) (fun v m g hS hN => ?_)
  refine kw_ldcL hv.2.1 h (i := 26) (by decide) dL_list_575 ?_
  refine kl_aR hv h (rk_le hR (by omega) (by omega)) 26 (by decide) rfl (by decide) dL_list_577 hS hN (by omega) (Nat.le_of_ble_eq_true rfl) (fun v m g hS hN => ?_)
  refine kw_alod h 1 dL_list_580 rfl rfl ?_
  refine kw_ic h dL_list_581 (v := nI 5) rfl ?_
  refine kw_nAt hv.2.1 h 5 dL_list_582 rfl (by decide) ?_
  refine kl_aR hv h (rk_le hR (by omega) (by omega)) 41 (by decide) rfl (by decide) dL_list_583 hS hN (by omega) (Nat.le_of_ble_eq_true rfl) (fun v m g hS hN => ?_)
  refine kw_ldcL hv.2.1 h (i := 27) (by decide) dL_list_586 ?_
  refine kl_aR hv h (rk_le hR (by omega) (by omega)) 27 (by decide) rfl (by decide) dL_list_588 hS hN (by omega) (Nat.le_of_ble_eq_true rfl) (fun v m g hS hN => ?_)
  refine kw_alod h 0 dL_list_591 rfl rfl ?_
  refine km_leafS (As := [.ref (ad 500)]) hv h (rk_le hR (by omega) (by omega)) none mi_L_part (by decide) dL_list_592 ml_L_140 (Nat.le_of_ble_eq_true rfl) rfl (Nat.le_of_ble_eq_true rfl) ts_none kt_part (fun r q => ?_)
  obtain ⟨u592, hu592, rfl⟩ := q
  rw [rs_cons]
  refine kl_num hv h (rk_le hR (by omega) (by omega)) dL_list_595 (by omega) (Nat.le_of_ble_eq_true rfl) (fun bu592 yu592 gu592 zu592 => ?_)
  refine kl_aT hv h (rk_le hR (by omega) (by omega)) zu592 dL_list_598 hS hN (by omega) (Nat.le_of_ble_eq_true rfl) (fun v m g hS hN => ?_)
  refine kw_ldcL hv.2.1 h (i := 30) (by decide) dL_list_601 ?_
  refine kl_aR hv h (rk_le hR (by omega) (by omega)) 30 (by decide) rfl (by decide) dL_list_603 hS hN (by omega) (Nat.le_of_ble_eq_true rfl) (fun v m g hS hN => ?_)
  refine kw_alod h 0 dL_list_606 rfl rfl ?_
  refine km_leafS (As := [.ref (ad 500)]) hv h (rk_le hR (by omega) (by omega)) none mi_L_since (by decide) dL_list_607 ml_L_145 (Nat.le_of_ble_eq_true rfl) rfl (Nat.le_of_ble_eq_true rfl) ts_none kt_since (fun r q => ?_)
  obtain ⟨u607, hu607, rfl⟩ := q
  rw [rs_cons]
  refine kl_num hv h (rk_le hR (by omega) (by omega)) dL_list_610 (by omega) (Nat.le_of_ble_eq_true rfl) (fun bu607 yu607 gu607 zu607 => ?_)
  refine kl_aT hv h (rk_le hR (by omega) (by omega)) zu607 dL_list_613 hS hN (by omega) (Nat.le_of_ble_eq_true rfl) (fun v m g hS hN => ?_)
  refine kw_ldcL hv.2.1 h (i := 31) (by decide) dL_list_616 ?_
  refine kl_aR hv h (rk_le hR (by omega) (by omega)) 31 (by decide) rfl (by decide) dL_list_618 hS hN (by omega) (Nat.le_of_ble_eq_true rfl) (fun v m g hS hN => ?_)
  refine kw_alod h 1 dL_list_621 rfl rfl ?_
  refine kw_bp h dL_list_622 (v := nI 6) rfl ?_
  refine kw_nAt hv.2.1 h 6 dL_list_624 rfl (by decide) ?_
  refine kl_aR hv h (rk_le hR (by omega) (by omega)) 42 (by decide) rfl (by decide) dL_list_625 hS hN (by omega) (Nat.le_of_ble_eq_true rfl) (fun v m g hS hN => ?_)
  refine kw_ldcL hv.2.1 h (i := 32) (by decide) dL_list_628 ?_
  refine kl_aR hv h (rk_le hR (by omega) (by omega)) 32 (by decide) rfl (by decide) dL_list_630 hS hN (by omega) (Nat.le_of_ble_eq_true rfl) (fun v m g hS hN => ?_)
  refine kl_str (wr := [z]) hv h (rk_le hR (by omega) (by omega)) [2] rfl rfl dL_list_633 hS (by omega) (Nat.le_of_ble_eq_true rfl) (fun b' y g' hg => ?_)
  have e : (((((((((((((l0 ++ kS 17) ++ kS 42) ++ kS 18) ++ kS 47) ++ kS 26) ++ kS 41) ++ kS 27) ++ dgl 3 u592) ++ kS 30) ++ dgl 3 u607) ++ kS 31) ++ kS 42) ++ kS 32) = l0 ++ (kS 17 ++ (kS 42 ++ (kS 18 ++ (kS 47 ++ (kS 26 ++ (kS 41 ++ (kS 27 ++ (dgl 3 u592 ++ (kS 30 ++ (dgl 3 u607 ++ (kS 31 ++ (kS 42 ++ (kS 32))))))))))))) := by simp only [List.append_assoc]
  rw [e] at hg hN ⊢
  refine kw_asto h 2 dL_list_636 rfl (by decide) rfl ?_
  refine k_drop [1, 2, 0] (ws' := wT cy b' y _ g' ++ [z]) rfl rfl ?_
  refine k_pad (kc' := kc + 98) (kn' := kn + 150324) (by omega) (by omega) ?_
  exact k u592  u607 hu592 hu607 b' y g' hg (by omega)
set_option maxHeartbeats 1000000 in
theorem ll_F (hv : VM ad tx cy Γ) (h : Vk RL cL_list 6 (d + 11) Γ) (hR : Rk Γ (kc + 94) (kn + 133124)) (hlt : LT l0 g0) (hl0 : l0.length ≤ N0) (hN0' : N0 + 144 ≤ 2100) (k : ∀ (u678 u693 : Nat) (hu678 : u678 < 20) (hu693 : u693 < 20) (b' y : Nat) (g : Nat → Int32), LT (l0 ++ (kS 22 ++ (kS 45 ++ (kS 18 ++ (kS 47 ++ (kS 33 ++ (dgl 3 u678 ++ (kS 34 ++ (dgl 3 u693 ++ (kS 35)))))))))) g → (l0 ++ (kS 22 ++ (kS 45 ++ (kS 18 ++ (kS 47 ++ (kS 33 ++ (dgl 3 u678 ++ (kS 34 ++ (dgl 3 u693 ++ (kS 35)))))))))).length ≤ N0 + 144 → CW Γ (kc + 94) (kn + 133124) 710 [some (.ref (ad 500)), some (.ref (ad 401)), some (.ref b), x3, x4, x5] [.ref b'] (wT cy b' y (l0 ++ (kS 22 ++ (kS 45 ++ (kS 18 ++ (kS 47 ++ (kS 33 ++ (dgl 3 u678 ++ (kS 34 ++ (dgl 3 u693 ++ (kS 35)))))))))) g ++ [z]) Φ) : CW Γ kc kn 637 [some (.ref (ad 500)), some (.ref (ad 401)), some (.ref b), x3, x4, x5] [] (wT cy b y0 l0 g0 ++ [z]) Φ := by
  have hN0 : N0 ≤ 2100 := by omega
  refine kl_new hv h (rk_le hR (by omega) (by omega)) dL_list_637 dL_list_640 dL_list_641 (Nat.le_of_ble_eq_true rfl) (fun a v => ?_)
  refine kw_alod h 2 dL_list_644 rfl rfl ?_
  refine kl_aO hv h (rk_le hR (by omega) (by omega)) (own_w h hv.1 hlt) hl0 hN0 dL_list_645 (Nat.le_of_ble_eq_true rfl) (fun v m g hS hN => ?_)
  refine kw_ldcL hv.2.1 h (i := 22) (by decide) dL_list_648 ?_
  refine kl_aR hv h (rk_le hR (by omega) (by omega)) 22 (by decide) rfl (by decide) dL_list_650 hS hN (by omega) (Nat.le_of_ble_eq_true rfl) (fun v m g hS hN => ?_)
  refine kw_alod h 1 dL_list_653 rfl rfl ?_
  refine kw_bp h dL_list_654 (v := nI 9) rfl ?_
  refine kw_nAt hv.2.1 h 9 dL_list_656 rfl (by decide) ?_
  refine kl_aR hv h (rk_le hR (by omega) (by omega)) 45 (by decide) rfl (by decide) dL_list_657 hS hN (by omega) (Nat.le_of_ble_eq_true rfl) (fun v m g hS hN => ?_)
  refine kw_ldcL hv.2.1 h (i := 18) (by decide) dL_list_660 ?_
  refine kl_aR hv h (rk_le hR (by omega) (by omega)) 18 (by decide) rfl (by decide) dL_list_662 hS hN (by omega) (Nat.le_of_ble_eq_true rfl) (fun v m g hS hN => ?_)
  refine kw_alod h 1 dL_list_665 rfl rfl ?_
  refine kw_bp h dL_list_666 (v := nI 11) rfl ?_
  refine kw_nAt hv.2.1 h 11 dL_list_668 rfl (by decide) ?_
  refine kl_aR hv h (rk_le hR (by omega) (by omega)) 47 (by decide) rfl (by decide) dL_list_669 hS hN (by omega) (Nat.le_of_ble_eq_true rfl) (fun v m g hS hN => ?_)
  refine kw_ldcL hv.2.1 h (i := 33) (by decide) dL_list_672 ?_
  refine kl_aR hv h (rk_le hR (by omega) (by omega)) 33 (by decide) rfl (by decide) dL_list_674 hS hN (by omega) (Nat.le_of_ble_eq_true rfl) (fun v m g hS hN => ?_)
  refine kw_alod h 0 dL_list_677 rfl rfl ?_
  refine km_leafS (As := [.ref (ad 500)]) hv h (rk_le hR (by omega) (by omega)) none mi_L_each (by decide) dL_list_678 ml_L_154 (Nat.le_of_ble_eq_true rfl) rfl (Nat.le_of_ble_eq_true rfl) ts_none kt_each (fun r q => ?_)
  obtain ⟨u678, hu678, rfl⟩ := q
  rw [rs_cons]
  refine kl_num hv h (rk_le hR (by omega) (by omega)) dL_list_681 (by omega) (Nat.le_of_ble_eq_true rfl) (fun bu678 yu678 gu678 zu678 => ?_)
  refine kl_aT hv h (rk_le hR (by omega) (by omega)) zu678 dL_list_684 hS hN (by omega) (Nat.le_of_ble_eq_true rfl) (fun v m g hS hN => ?_)
  refine kw_ldcL hv.2.1 h (i := 34) (by decide) dL_list_687 ?_
  refine kl_aR hv h (rk_le hR (by omega) (by omega)) 34 (by decide) rfl (by decide) dL_list_689 hS hN (by omega) (Nat.le_of_ble_eq_true rfl) (fun v m g hS hN => ?_)
  refine kw_alod h 0 dL_list_692 rfl rfl ?_
  refine km_leafS (As := [.ref (ad 500)]) hv h (rk_le hR (by omega) (by omega)) none mi_L_each (by decide) dL_list_693 ml_L_154 (Nat.le_of_ble_eq_true rfl) rfl (Nat.le_of_ble_eq_true rfl) ts_none kt_each (fun r q => ?_)
  obtain ⟨u693, hu693, rfl⟩ := q
  rw [rs_cons]
  refine kl_num hv h (rk_le hR (by omega) (by omega)) dL_list_696 (by omega) (Nat.le_of_ble_eq_true rfl) (fun bu693 yu693 gu693 zu693 => ?_)
  refine kl_aT hv h (rk_le hR (by omega) (by omega)) zu693 dL_list_699 hS hN (by omega) (Nat.le_of_ble_eq_true rfl) (fun v m g hS hN => ?_)
  refine kw_ldcL hv.2.1 h (i := 35) (by decide) dL_list_702 ?_
  refine kl_aR hv h (rk_le hR (by omega) (by omega)) 35 (by decide) rfl (by decide) dL_list_704 hS hN (by omega) (Nat.le_of_ble_eq_true rfl) (fun v m g hS hN => ?_)
  refine kl_str (wr := [z]) hv h (rk_le hR (by omega) (by omega)) [2] rfl rfl dL_list_707 hS (by omega) (Nat.le_of_ble_eq_true rfl) (fun b' y g' hg => ?_)
  have e : (((((((((l0 ++ kS 22) ++ kS 45) ++ kS 18) ++ kS 47) ++ kS 33) ++ dgl 3 u678) ++ kS 34) ++ dgl 3 u693) ++ kS 35) = l0 ++ (kS 22 ++ (kS 45 ++ (kS 18 ++ (kS 47 ++ (kS 33 ++ (dgl 3 u678 ++ (kS 34 ++ (dgl 3 u693 ++ (kS 35))))))))) := by simp only [List.append_assoc]
  rw [e] at hg hN ⊢
  refine k_drop [1, 2, 0] (ws' := wT cy b' y _ g' ++ [z]) rfl rfl ?_
  refine k_pad (kc' := kc + 94) (kn' := kn + 133124) (by omega) (by omega) ?_
  exact k u678  u693 hu678 hu693 b' y g' hg (by omega)
end LBK
