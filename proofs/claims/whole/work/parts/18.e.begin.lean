/-! The start: the law's beginning -/
theorem rk1 {Γ : Cz} (h : Rk Γ 601024 7293033) {a b : Nat} (ha : a ≤ 601024) (hb : b ≤ 7293033) : Rk Γ a b := rk_le h ha hb
theorem nw_L_73 : NWk RL 73 10 22 [.int 0, .null, .int 0, .int 0, .null, .null, .null, .null, .null, .null, .null, .null, .null, .null, .int 0, .int 0, .int 0, .int 0, .int 0, .null, .null, .null] := ⟨_, _, tyX12, rfl, inW_X12, tyX12_ok, bw_in (tb_5 (List.mem_of_getElem? (i := 201) rfl)) rfl, bw_in (tb_5 (List.mem_of_getElem? (i := 188) rfl)) rfl, ini_X12, fun j hj => by rcases (show j = 0 ∨ j = 1 ∨ j = 2 ∨ j = 3 ∨ j = 4 ∨ j = 5 ∨ j = 6 ∨ j = 7 ∨ j = 8 ∨ j = 9 ∨ j = 10 ∨ j = 11 ∨ j = 12 ∨ j = 13 ∨ j = 14 ∨ j = 15 ∨ j = 16 ∨ j = 17 ∨ j = 18 ∨ j = 19 ∨ j = 20 ∨ j = 21 by omega) with rfl | rfl | rfl | rfl | rfl | rfl | rfl | rfl | rfl | rfl | rfl | rfl | rfl | rfl | rfl | rfl | rfl | rfl | rfl | rfl | rfl | rfl <;> rfl⟩
set_option maxRecDepth 100000 in
set_option maxHeartbeats 4000000 in
theorem law_go {p : Program} {l : Launch} {e : Env} {s : State} {m : MethodId} {below : List Frame} {meth : Method} {c : Code} {dC : Nat → ClassId} {dI : Nat → Nat → Nat} {cy : Nat → ClassId} {ad0 : Nat → Nat} {L x0 m0 o0 : Nat} {xs : Nat → Int32} {w1 w2 : va_W} (hL : L ≤ 3072) (hx : p.tables.exec = Jvm.exec) (hb : c.code = cL_law) (hml : c.maxLocals = 9) (hr : meth.sig.returnType = some .boolean) (hown : s.vm.findClass RL = some m.cls) (hts : ∀ w ∈ bigW, w.before #[Value.ref (ad0 500)] s = true) (hlk : meth.locks = false) (hK : va_K (dC, dI) vwCl (tysO cy) s) (hRO : RO ad0 (fun q => s.heap.size ≤ q) s s.heap) (hst : l.stackTraces = false) (hNX : NX s) (hX : va_X (ad0 500) L xs s s.heap) (hbl : ad0 500 < s.heap.size) (hw1 : wX10 cy x0 w1) (hw2 : wX12 cy m0 w2) : CW (p, l, e, room_1, s, m, #[Value.ref (ad0 500)], below, meth, c, dC, dI, cy, fun q => s.heap.size ≤ q) 115 13386 23 [some (.ref (ad0 500)), some (.ref x0), some (.ref m0), some (.ref o0), some (.int (nI 0)), none, none, none, none] [] (([] ++ w1) ++ w2 ++ [(o0, .inl (cy 3, 1, .inr (.inl (fun _ => 0))))]) (lw_Z below #[Value.ref (ad0 500)] s) := by
  obtain ⟨q1, q2, q3, q4, q5, q6, q7, r8, q9, q10, q11, q12, q13, q14, q15, q16, q17, q18, q19, q20, q21, q22, q23, q24, r25, q26, q27, q28, q29, q30, q31, q32, q33, q34, q35, q36, q37, q38, q39, q40, q41, w42, q43, q44, q45, q46, q47, q48, q49, q50, q51, q52, q53, q54, q55, q56, q57, q58, q59, q60, q61, q62, q63, q64, q65, q66, q67, q68, q69, hw, rfl⟩ := hw1
  obtain ⟨p1, p2, p3, p4, p5, p6, p7, p8, p9, p10, p11, p12, p13, p14, p15, p16, p17, p18, p19, p20, p21, p22, p23, p24, p25, p26, p27, p28, p29, p30, p31, p32, p33, p34, rfl⟩ := hw2
  intro H locs ls hP hD hS hl
  obtain ⟨ad, had⟩ : ∃ ad : Nat → Nat, ad = fun i => if i < 115 then ([x0, q35, q36, q37, q38, q39, q40, q41, q43, q44, q45, q46, q47, q48, q49, q50, q51, q68, q69, o0, q52, q53, q54, q55, q56, q57, q58, q59, q60, q61, q62, q63, q64, q65, q66, q67, q1, q2, q3, q4, q5, q6, q7, r8 0, r8 1, r8 2, r8 3, r8 4, r8 5, q9, q10, q11, q12, q13, q14, q15, q16, q17, q18, q19, q20, q21, q22, q23, q24, r25 0, r25 1, r25 2, r25 3, r25 4, r25 5, q26, q27, q28, q29, q30, q31, q32, q33, q34, m0, p1, p2, p3, p4, p5, p28, p29, p30, p31, p32, p33, p34, p6, p7, p8, p9, p10, p11, p12, p13, p14, p15, p16, p17, p18, p19, p20, p21, p22, p23, p24, p25, p26, p27] : List Nat).getD i 0 else ad0 i := ⟨_, rfl⟩
  have h1 : ∀ i, i < 115 → ad i = ([x0, q35, q36, q37, q38, q39, q40, q41, q43, q44, q45, q46, q47, q48, q49, q50, q51, q68, q69, o0, q52, q53, q54, q55, q56, q57, q58, q59, q60, q61, q62, q63, q64, q65, q66, q67, q1, q2, q3, q4, q5, q6, q7, r8 0, r8 1, r8 2, r8 3, r8 4, r8 5, q9, q10, q11, q12, q13, q14, q15, q16, q17, q18, q19, q20, q21, q22, q23, q24, r25 0, r25 1, r25 2, r25 3, r25 4, r25 5, q26, q27, q28, q29, q30, q31, q32, q33, q34, m0, p1, p2, p3, p4, p5, p28, p29, p30, p31, p32, p33, p34, p6, p7, p8, p9, p10, p11, p12, p13, p14, p15, p16, p17, p18, p19, p20, p21, p22, p23, p24, p25, p26, p27] : List Nat).getD i 0 := fun i hi => by rw [had]; exact if_pos hi
  have h2 : ∀ i, 115 ≤ i → ad i = ad0 i := fun i hi => by rw [had]; exact if_neg (by omega)
  have hP1 : va_P (dC, dI) vwCl (wsM ad cy w42 r8 r25) H := by rw [had]; exact hP
  have hD1 : va_D (fun q => s.heap.size ≤ q) (wsM ad cy w42 r8 r25) := by rw [had]; exact hD
  obtain ⟨k1, k2⟩ := wsM_D hD1
  have hP2 := wsM_P hP1 (fun j hj => by
    rw [h1 (43 + j) (by omega)]
    rcases (show j = 0 ∨ j = 1 ∨ j = 2 ∨ j = 3 ∨ j = 4 ∨ j = 5 by omega) with rfl | rfl | rfl | rfl | rfl | rfl <;> rfl) (fun j hj => by
    rw [h1 (65 + j) (by omega)]
    rcases (show j = 0 ∨ j = 1 ∨ j = 2 ∨ j = 3 ∨ j = 4 ∨ j = 5 by omega) with rfl | rfl | rfl | rfl | rfl | rfl <;> rfl)
  have e5 : ad 500 = ad0 500 := h2 500 (by decide)
  have hRO2 : RO ad (fun q => s.heap.size ≤ q) s s.heap := ro_ext h2 hRO
  have ex0 : ad 0 = x0 := h1 0 (by decide)
  have em0 : ad 80 = m0 := h1 80 (by decide)
  have eo0 : ad 19 = o0 := h1 19 (by decide)
  have go := lw_loop (xs := xs) hL 512 0 115 13386 (p, l, e, room_1, s, m, #[Value.ref (ad0 500)], below, meth, c, ad, dC, dI, cy, fun q => s.heap.size ≤ q) I00 (J00 w42) P00 ⟨hx, hb, hml, hr, hown, hts, hlk, hK, fun q hq => hq, k1, k2, (Nat.le_of_ble_eq_true rfl), (Nat.le_of_ble_eq_true rfl), hRO2⟩ ⟨hst, hNX, by rw [e5]; exact hX, by rw [e5]; exact hbl, by rw [e5]; exact Nat.not_le.mpr hbl, rfl, by rw [e5], fun q hq => hq⟩ (by omega) (by decide) (Nat.le_of_ble_eq_true rfl) (Nat.le_of_ble_eq_true rfl) (REL_0 (fun i hi => hw i hi))
  refine go H locs ls hP2 hS ?_
  show lv_has ls c.maxLocals [(0, .ref (ad 500)), (1, .ref (ad 0)), (2, .ref (ad 80)), (3, .ref (ad 19)), (4, .int (nI 0))]
  rw [e5, ex0, em0, eo0]
  exact hl
set_option maxRecDepth 100000 in
set_option maxHeartbeats 4000000 in
theorem whole_start {p : Program} {e : Env} {s : State} {m : MethodId} {below : List Frame} {meth : Method} {c : Code} (l : Launch) (hflags : l.flags = flags0) {b L : Nat} {xs : Nat → Int32} (hL : L ≤ 3072) (C0 : lw_At p s m meth c b L xs) : W p l e room_1 s m #[Value.ref b] below meth c s.heap [] 0 0 (lw_Z below #[Value.ref b] s) (entryFrame m ([Value.ref b] : List Value).toArray 9) := by
  obtain ⟨hx, hb, hr, hml, hown, hts, hX, hbl, hlocks, hgv⟩ := id C0
  have hn := fam_before hgv
  obtain ⟨dC, dI, cy, hK⟩ := kn_start hts
  obtain ⟨ad0, rfl, hRO⟩ := ro_start b hts hn
  have hst : l.stackTraces = false := by
    unfold Launch.stackTraces
    rw [hflags]
    decide
  have hts2 := bw_of hts
  have h : Vk RL cL_law 9 1000 (p, l, e, room_1, s, m, #[Value.ref (ad0 500)], below, meth, c, dC, dI, cy, fun q => s.heap.size ≤ q) := ⟨hx, hb, hml, hown, hts2, hlocks, hK, fun q hq => hq, (Nat.le_of_ble_eq_true rfl), (Nat.le_of_ble_eq_true rfl)⟩
  have hv : Vn (p, l, e, room_1, s, m, #[Value.ref (ad0 500)], below, meth, c, dC, dI, cy, fun q => s.heap.size ≤ q) := ⟨mn_start hts, ad0, hRO⟩
  have hR : Rk (p, l, e, room_1, s, m, #[Value.ref (ad0 500)], below, meth, c, dC, dI, cy, fun q => s.heap.size ≤ q) 601024 7293033 := ⟨Nat.le_refl _, Nat.le_refl _⟩
  have main : CW (p, l, e, room_1, s, m, #[Value.ref (ad0 500)], below, meth, c, dC, dI, cy, fun q => s.heap.size ≤ q) 0 0 0 [some (.ref (ad0 500)), none, none, none, none, none, none, none, none] [] [] (lw_Z below #[Value.ref (ad0 500)] s) := by
    refine k_new h (rk1 hR (Nat.le_of_ble_eq_true rfl) (Nat.le_of_ble_eq_true rfl)) nw_L_8 dL_law_0 (fun x0 => ?_)
    refine k_dup h dL_law_3 rfl ?_
    refine k_calln (d := 999) (As := []) hv h (rk1 hR (Nat.le_of_ble_eq_true rfl) (Nat.le_of_ble_eq_true rfl)) mk_X10 dL_law_4 (Or.inl ml_L_72) rfl (Nat.le_of_ble_eq_true rfl) (Nat.le_of_ble_eq_true rfl) (ks_mono (by decide) ks_X10) (fun w1 hw1 => ?_)
    refine kw_asto h 1 dL_law_7 rfl (by decide) rfl ?_
    refine k_new h (rk1 hR (Nat.le_of_ble_eq_true rfl) (Nat.le_of_ble_eq_true rfl)) nw_L_73 dL_law_8 (fun m0 => ?_)
    refine k_dup h dL_law_11 rfl ?_
    refine k_calln (d := 999) (As := []) hv h (rk1 hR (Nat.le_of_ble_eq_true rfl) (Nat.le_of_ble_eq_true rfl)) mk_X12 dL_law_12 (Or.inl ml_L_75) rfl (Nat.le_of_ble_eq_true rfl) (Nat.le_of_ble_eq_true rfl) (ks_mono (by decide) ks_X12) (fun w2 hw2 => ?_)
    refine kw_asto h 2 dL_law_15 rfl (by decide) rfl ?_
    refine kw_ic h (v := nI 1) dL_law_16 rfl ?_
    refine k_na h (cy0 := cy) rfl (at_ := .long) (ty := .long) (N := 1) (a0 := (1, .inr (.inl (fun _ => 0)))) 3 (rk1 hR (Nat.le_of_ble_eq_true rfl) (Nat.le_of_ble_eq_true rfl)) ac_long rfl (fun _ => rfl) (fun _ q => by cases q) (fun _ => rfl) (by decide) (by decide) (by decide) dL_law_17 (fun o0 => ?_)
    refine kw_asto h 3 dL_law_19 rfl (by decide) rfl ?_
    refine kw_ic h (v := nI 0) dL_law_20 rfl ?_
    refine kw_istow h 4 dL_law_21 (by decide) rfl ?_
    exact law_go hL hx hb hml hr hown hts2 hlocks hK hRO hst (nx_start hts hn) hX hbl hw1 hw2
  rw [lg_entry_eq]
  have hl := lv_entry ([.ref (ad0 500)]) (n := 9) (Nat.le_of_ble_eq_true rfl)
  refine main s.heap [] _ (fun k q h => by simp at h) ⟨fun i j p q h => by simp at h, fun k q h => by simp at h⟩ va_S.rf ?_
  rw [hml]
  exact hl
