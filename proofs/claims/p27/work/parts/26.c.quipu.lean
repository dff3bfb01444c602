/-! The law's quipu -/
theorem vkd_le {own : String} {cc : ByteArray} {nL d d' : Nat} {Γ : Cz} (h : Vk own cc nL d Γ) (hd : d' ≤ d) : Vk own cc nL d' Γ := by
  obtain ⟨p, l, e, R, s, m, args, below, meth, c, dC, dI, cy, A⟩ := Γ
  obtain ⟨hx, hb, hml, hown, hts, hlk, hK, hA, hf, hlo⟩ := h
  exact ⟨hx, hb, hml, hown, hts, hlk, hK, hA, by omega, by omega⟩
theorem nw_L_26 : NWk RL 26 8 10 [.null, .null, .null, .null, .null, .null, .null, .null, .null, .int 0] := ⟨_, _, tyX10, rfl, inW_X10, tyX10_ok, bw_in (tb_2 (List.mem_of_getElem? (i := 168) rfl)) rfl, bw_in (tb_2 (List.mem_of_getElem? (i := 127) rfl)) rfl, ini_X10, fun j hj => by rcases (show j = 0 ∨ j = 1 ∨ j = 2 ∨ j = 3 ∨ j = 4 ∨ j = 5 ∨ j = 6 ∨ j = 7 ∨ j = 8 ∨ j = 9 by omega) with rfl | rfl | rfl | rfl | rfl | rfl | rfl | rfl | rfl | rfl <;> rfl⟩
theorem fw_L_162 : Cond.fieldLink RL 162 "QuipuKeepersLaw" "NAMES" "[Ljava/lang/String;" ∈ bigW := bw_in (tb_4 (List.mem_of_getElem? (i := 72) rfl)) rfl
theorem I00_36 {fD : Nat → Int32} {k j : Nat} (h : 36 ≤ k) : I00 fD k j = nI 0 := by
  unfold I00
  rw [if_neg (by omega), if_neg (by omega), if_neg (by omega), if_neg (by omega)]
theorem td_00 {fD : Nat → Int32} : tdOK (dv (I00 fD)) := by
  have e : ∀ k j, dv (I00 fD) k j = nI 0 := fun k j => I00_36 (by omega)
  have z : ∀ k j, ix (dv (I00 fD) k j) = 0 := fun k j => by rw [e]; exact ixz
  refine ⟨⟨?_, ?_⟩, ⟨?_, ?_⟩, ⟨?_, ?_⟩, ⟨?_, ?_⟩, ⟨?_, ?_⟩, fun a ha => ?_, ⟨?_, ?_⟩, fun a ha => ?_, fun a ha => ?_⟩
  · rw [nC, z, e]
  · rw [nC, z]; omega
  · rw [nN, z, e]
  · rw [nN, z]; omega
  · rw [nT, z, e]
  · rw [nT, z]; omega
  · rw [nK, z, e]
  · rw [nK, z]; omega
  · rw [nO, z, e]
  · rw [nO, z]; omega
  · rw [nT, z] at ha; omega
  · rw [nZ, z, e]
  · rw [nZ, z]; omega
  · rw [nZ, z] at ha; omega
  · rw [nO, z] at ha; omega
theorem up2_b {P : MP} {a k v : Nat} (h : ∀ x j w, P x j = some w → w < 80) (hv : v < 80) : ∀ x j w, up2 P a k (some v) x j = some w → w < 80 := by
  intro x j w e
  unfold up2 at e
  split at e
  · split at e
    · cases e; exact hv
    · exact h x j w e
  · exact h x j w e
theorem P00_b : ∀ x j w, P00 x j = some w → w < 80 := by
  intro x j w e
  unfold P00 at e
  split at e
  · cases e; decide
  · split at e
    · cases e; decide
    · split at e
      · cases e; decide
      · split at e
        · cases e; decide
        · cases e
def PT : MP := up2 (up2 (up2 (up2 P00 8 2 (some 77)) 0 0 (some 58)) 0 1 (some 36)) 20 0 (some 58)
theorem PT_b : ∀ x j w, PT x j = some w → w < 80 := up2_b (up2_b (up2_b (up2_b P00_b (by decide)) (by decide)) (by decide)) (by decide)
/-- what the teaching of the law's list leaves -/
theorem LW_q {v : Nat → Nat} (h1 : ∀ i, v i < 10000) (h2 : ∀ i, i < 3 → v i ≤ 99) (h3 : ∀ i, i = 8 ∨ i = 9 → 1 ≤ v i ∧ v i ≤ 9) {T : Nat → Nat} {L : Nat} (ha : AtT T L 0 (flP (qP v))) {ca : Nat → Int32} {I I1 : MI} {J1 : MJ} (hc : clK T L ca I I1 J1) : LW (ren I1) (renP PT) 0 0 := by
  obtain ⟨q1, q2, q3, q4, q5, q6⟩ := q_teach h1 h2 h3 ha (ca := ca)
  obtain ⟨t1, t2, t3, t4, t5, t6⟩ := teach_cls q1 hc q6 (D := dv (ren I1)) (S := sv 20 (ren I1)) (fun k hk => by
    show I1 (pi (36 + k)) = I1 (58 + k)
    rw [show pi (36 + k) = 58 + k by unfold pi; rw [if_pos (by omega)]; omega]) (fun k hk => by
    show (if k < 8 then ren I1 (20 + k) else fun _ => 0) = I1 (20 + k)
    rw [if_pos hk]
    show I1 (pi (20 + k)) = I1 (20 + k)
    rw [show pi (20 + k) = 20 + k by unfold pi; rw [if_neg (by omega), if_neg (by omega)]])
  exact ⟨rfl, rfl, t1, ⟨t3.trans q2, t4.trans q3, t5.trans q4, t6.trans q5⟩, t2⟩
/-! how long the text is -/
theorem lnq_0 (v0 : Nat) : (flP (Q0 v0)).length ≤ 21 := by
  have h0 := dgl_len 3 v0
  simp [flP, fl1, Q0]
  omega
theorem lnq_1 (v1 : Nat) : (flP (Q1 v1)).length ≤ 22 := by
  have h1 := dgl_len 3 v1
  simp [flP, fl1, Q1]
  omega
theorem lnq_2 (v2 : Nat) : (flP (Q2 v2)).length ≤ 23 := by
  have h2 := dgl_len 3 v2
  simp [flP, fl1, Q2]
  omega
theorem lnq_3 (v3 : Nat) : (flP (Q3 v3)).length ≤ 36 := by
  have h3 := dgl_len 3 v3
  simp [flP, fl1, Q3]
  omega
theorem lnq_4 (v4 : Nat) : (flP (Q4 v4)).length ≤ 34 := by
  have h4 := dgl_len 3 v4
  simp [flP, fl1, Q4]
  omega
theorem lnq_5 (v5 : Nat) : (flP (Q5 v5)).length ≤ 35 := by
  have h5 := dgl_len 3 v5
  simp [flP, fl1, Q5]
  omega
theorem lnq_6 (v6 : Nat) : (flP (Q6 v6)).length ≤ 34 := by
  have h6 := dgl_len 3 v6
  simp [flP, fl1, Q6]
  omega
theorem lnq_7 (v7 : Nat) : (flP (Q7 v7)).length ≤ 36 := by
  have h7 := dgl_len 3 v7
  simp [flP, fl1, Q7]
  omega
theorem lnq_8 : (flP (Q8)).length ≤ 15 := by
  simp [flP, fl1, Q8]
theorem lnq_9 : (flP (Q9)).length ≤ 17 := by
  simp [flP, fl1, Q9]
theorem lnq_10 (v8 : Nat) : (flP (Q10 v8)).length ≤ 21 := by
  have h8 := dgl_len 3 v8
  simp [flP, fl1, Q10]
  omega
theorem lnq_11 (v9 : Nat) : (flP (Q11 v9)).length ≤ 21 := by
  have h9 := dgl_len 3 v9
  simp [flP, fl1, Q11]
  omega
theorem lnq_12 (v10 : Nat) : (flP (Q12 v10)).length ≤ 41 := by
  have h10 := dgl_len 3 v10
  simp [flP, fl1, Q12]
  omega
theorem lnq_13 : (flP (Q13)).length ≤ 45 := by
  simp [flP, fl1, Q13]
theorem lnq_14 (v11 : Nat) (v12 : Nat) : (flP (Q14 v11 v12)).length ≤ 67 := by
  have h11 := dgl_len 3 v11
  have h12 := dgl_len 3 v12
  simp [flP, fl1, Q14]
  omega
theorem lnq_15 (v13 : Nat) (v14 : Nat) : (flP (Q15 v13 v14)).length ≤ 48 := by
  have h13 := dgl_len 3 v13
  have h14 := dgl_len 3 v14
  simp [flP, fl1, Q15]
  omega
theorem lnq_all (v : Nat → Nat) : (flP (qP v)).length ≤ 516 := by
  unfold qP
  simp only [flP_app, List.length_append]
  have h0 := lnq_0 (v 0)
  have h1 := lnq_1 (v 1)
  have h2 := lnq_2 (v 2)
  have h3 := lnq_3 (v 3)
  have h4 := lnq_4 (v 4)
  have h5 := lnq_5 (v 5)
  have h6 := lnq_6 (v 6)
  have h7 := lnq_7 (v 7)
  have h8 := lnq_8
  have h9 := lnq_9
  have h10 := lnq_10 (v 8)
  have h11 := lnq_11 (v 9)
  have h12 := lnq_12 (v 10)
  have h13 := lnq_13
  have h14 := lnq_14 (v 11) (v 12)
  have h15 := lnq_15 (v 13) (v 14)
  omega
theorem wsO_Di {A : Nat → Prop} {ad : Nat → Nat} {cy : Nat → ClassId} {I : MI} {J : MJ} {P : MP} (h : va_D A (wsO ad cy I J P)) : (∀ i j, i < 80 → j < 80 → ad i = ad j → i = j) ∧ ∀ i, i < 80 → A (ad i) :=
  ⟨fun i j hi hj e => h.1 i j _ _ (wsO_at hi) (wsO_at hj) e, fun i hi => h.2 i _ (wsO_at hi)⟩
def isQ : List Nat := List.range 79 ++ [81]
theorem isQ_nd : va_nd isQ = true := by decide +kernel
def isW : List Nat := (List.range 80).map (fun i => 2 + i)
theorem isW_nd : va_nd isW = true := by decide +kernel
theorem isW_C {x y : Nat × va_E} {ad : Nat → Nat} {cy : Nat → ClassId} {I : MI} {J : MJ} {P : MP} : isW.map (fun i => ([x, y] ++ wsO ad cy I J P)[i]?) = (wsO ad cy I J P).map some := by
  rw [← map_range_all (wsO ad cy I J P)]
  unfold isW
  rw [List.map_map, show (wsO ad cy I J P).length = 80 by simp [wsO]]
  refine List.map_congr_left (fun i hi => ?_)
  show ([x, y] ++ wsO ad cy I J P)[2 + i]? = _
  rw [List.getElem?_append_right (by simp)]
  simp
set_option maxRecDepth 100000 in
set_option maxHeartbeats 8000000 in
theorem kt_quipu {ad0 : Nat → Nat} {tx : TXo} {cy : Nat → ClassId} {d : Nat} : KM cy ad0 tx yL_quipu cL_quipu 2 (some (.object "QuipuKeepers")) (d + 25) 1100 1410000 [.ref (ad0 500)] [] (fun r w => ∃ (ad : Nat → Nat) (I : MI) (J : MJ) (P : MP), r = some (.ref (ad 0)) ∧ w = wsO ad cy I J P ∧ (∀ i, 80 ≤ i → ad i = ad0 i) ∧ LW I P 0 0 ∧ ∀ k j v, P k j = some v → v < 80) := by
  intro Γ hv h hr _ hR
  show CW Γ 0 0 0 [some (.ref (ad0 500)), none] [] [] _
  refine k_new h (rk_le hR (by omega) (by omega)) nw_L_26 dL_quipu_0 (fun x0 => ?_)
  refine kw_dup h dL_quipu_3 rfl ?_
  refine k_calln (As := []) (d := 6) hv.2.2.1 (vkd_le h (by omega)) (rk_le hR (by omega) (by omega)) mk_X10 dL_quipu_4 (Or.inl ml_L_161) rfl (Nat.le_of_ble_eq_true rfl) (Nat.le_of_ble_eq_true rfl) ks_X10 (fun w1 hw1 => ?_)
  rw [hv.1] at hw1
  refine kw_asto h 1 dL_quipu_7 rfl (by decide) rfl ?_
  refine kw_alod h 1 dL_quipu_8 rfl rfl ?_
  refine kw_alod h 0 dL_quipu_9 rfl rfl ?_
  refine kw_gsN hv.2.1 h fw_L_162 dL_quipu_10 ?_
  refine km_callS (As := [.ref (ad0 500), .ref (ad0 401)]) (c0 := 1000) (n0 := 1400000) (wc := []) (wr := w1) hv h [] (List.range w1.length) none (rk_le hR (by omega) (by omega)) mi_L_list (by decide) dL_quipu_13 ml_L_166 (Nat.le_of_ble_eq_true rfl) rfl (Nat.le_of_ble_eq_true rfl) rfl rfl (map_range_all w1) (nd_range _) (fun _ _ q => (List.not_mem_nil q).elim) ts_none kt_list (fun r w2 z => ?_)
  obtain ⟨v, b, y, qd, g, fD, ⟨v1, v2, v3⟩, rfl, rfl, hlt, -⟩ := z
  have hlen := lnq_all v
  obtain ⟨q1, q2, q3, q4, q5, q6, q7, r8, q9, q10, q11, q12, q13, q14, q15, q16, q17, q18, q19, q20, q21, q22, q23, q24, r25, q26, q27, q28, q29, q30, q31, q32, q33, q34, q35, q36, q37, q38, q39, q40, q41, w42, q43, q44, q45, q46, q47, q48, q49, q50, q51, q52, q53, q54, q55, q56, q57, q58, q59, q60, q61, q62, q63, q64, q65, q66, q67, q68, q69, hw, rfl⟩ := hw1
  generalize hl : flP (qP v) = tl at hlt hlen
  show CW Γ _ _ 16 _ (.ref b :: .ref x0 :: []) _ _
  obtain ⟨ad, had⟩ : ∃ ad : Nat → Nat, ad = fun i => if i < 80 then ([x0, q35, q36, q37, q38, q39, q40, q41, q43, q44, q45, q46, q47, q48, q49, q50, q51, q68, q69, qd, q52, q53, q54, q55, q56, q57, q58, q59, q60, q61, q62, q63, q64, q65, q66, q67, q1, q2, q3, q4, q5, q6, q7, r8 0, r8 1, r8 2, r8 3, r8 4, r8 5, q9, q10, q11, q12, q13, q14, q15, q16, q17, q18, q19, q20, q21, q22, q23, q24, r25 0, r25 1, r25 2, r25 3, r25 4, r25 5, q26, q27, q28, q29, q30, q31, q32, q33, q34] : List Nat).getD i 0 else if i < 600 then ad0 i else if i = 600 then b else if i = 601 then y else if i = 602 then tl.length else if i = 603 then 1 else if 10000 ≤ i then tl.getD (i - 10000) 0 else ad0 i := ⟨_, rfl⟩
  have h1 : ∀ i, i < 80 → ad i = ([x0, q35, q36, q37, q38, q39, q40, q41, q43, q44, q45, q46, q47, q48, q49, q50, q51, q68, q69, qd, q52, q53, q54, q55, q56, q57, q58, q59, q60, q61, q62, q63, q64, q65, q66, q67, q1, q2, q3, q4, q5, q6, q7, r8 0, r8 1, r8 2, r8 3, r8 4, r8 5, q9, q10, q11, q12, q13, q14, q15, q16, q17, q18, q19, q20, q21, q22, q23, q24, r25 0, r25 1, r25 2, r25 3, r25 4, r25 5, q26, q27, q28, q29, q30, q31, q32, q33, q34] : List Nat).getD i 0 := fun i hi => by rw [had]; exact if_pos hi
  have a600 : ad 600 = b := by rw [had]; rfl
  have a601 : ad 601 = y := by rw [had]; rfl
  have a602 : ad 602 = tl.length := by rw [had]; rfl
  have a603 : ad 603 = 1 := by rw [had]; rfl
  have atx : txN ad = fun j => tl.getD j 0 := by
    funext j
    show ad (10000 + j) = _
    rw [had]
    show (if 10000 + j < 80 then _ else if 10000 + j < 600 then _ else if 10000 + j = 600 then _ else if 10000 + j = 601 then _ else if 10000 + j = 602 then _ else if 10000 + j = 603 then _ else if 10000 ≤ 10000 + j then tl.getD (10000 + j - 10000) 0 else _) = _
    rw [if_neg (by omega), if_neg (by omega), if_neg (by omega), if_neg (by omega), if_neg (by omega), if_neg (by omega), if_pos (by omega), Nat.add_sub_cancel_left]
  have e1 : ∀ i, 80 ≤ i → i < 600 → ad i = ad0 i := fun i i1 i2 => by rw [had]; show (if i < 80 then _ else if i < 600 then _ else _) = _; rw [if_neg (by omega), if_pos i2]
  have e2 : ∀ i, 5000 ≤ i → i < 10000 → ad i = ad0 i := fun i i1 i2 => by
    rw [had]
    show (if i < 80 then _ else if i < 600 then _ else if i = 600 then _ else if i = 601 then _ else if i = 602 then _ else if i = 603 then _ else if 10000 ≤ i then _ else ad0 i) = _
    rw [if_neg (by omega), if_neg (by omega), if_neg (by omega), if_neg (by omega), if_neg (by omega), if_neg (by omega), if_neg (by omega)]
  have x0e : ad 0 = x0 := h1 0 (by decide)
  have r1 : ∀ j, j < 6 → r8 j = ad (43 + j) := fun j hj => by
    rw [h1 (43 + j) (by omega)]
    rcases (show j = 0 ∨ j = 1 ∨ j = 2 ∨ j = 3 ∨ j = 4 ∨ j = 5 by omega) with rfl | rfl | rfl | rfl | rfl | rfl <;> rfl
  have r2 : ∀ j, j < 6 → r25 j = ad (65 + j) := fun j hj => by
    rw [h1 (65 + j) (by omega)]
    rcases (show j = 0 ∨ j = 1 ∨ j = 2 ∨ j = 3 ∨ j = 4 ∨ j = 5 by omega) with rfl | rfl | rfl | rfl | rfl | rfl <;> rfl
  refine km_callSP (As := [.ref 0, .ref 600]) (ad := ad) (wm := wsM ad cy w42 fD r8 r25) (wr := wT cy b y tl g) (I := I00 fD) (J := J00 w42) (P := P00) (Q := fun r I' J' P' => r = none ∧ tpO (txL ad) (ad 602) I' ∧ J' = J00 w42 ∧ P' = P00) hv h (rk_le hR (by omega) (by omega)) isQ [79, 80] (some (b, y, tl)) mi_L_say dL_quipu_16 ml_L_170 (Nat.le_of_ble_eq_true rfl) (by rw [← x0e, ← a600]; rfl) (Nat.le_of_ble_eq_true rfl) ?_ ?_ isQ_nd rfl rfl (by decide +kernel) (fun D cl H => wsM_P r1 r2) (fun A => wsM_D) e1 e2 (Or.inr ⟨b, y, tl, rfl, a600, a601, a602, atx⟩) ?_ (fun r I' J' P' z => ?_)
  · refine ts_w (b := b) (y := y) (u := .int 0) (v := .int 0) (l := tl) (g := g) h hv.1 isQ (by rw [had]; rfl) 79 80 rfl rfl hlt (by decide +kernel) (by decide +kernel)
  · rw [had]; rfl
  · intro Γ2 e2' h2
    refine fnl_mono (fun r I1 J1 P1 hq => ?_) (sa_say (d := d + 15) (Q := fun I' J' P' => tpO (txL ad) (ad 602) I' ∧ J' = J00 w42 ∧ P' = P00) a603 (by rw [a602]; omega) rfl td_00 rfl (fun _ I' hT _ => ⟨hT, rfl, rfl⟩) Γ2 e2' h2)
    obtain ⟨rfl, hq⟩ := hq
    exact ⟨rfl, hq⟩
  obtain ⟨rfl, hT, rfl, rfl⟩ := z
  show CW Γ _ _ 19 [some (.ref (ad0 500)), some (.ref x0)] [] (wT cy b y tl g ++ wsO ad cy I' (J00 w42) P00) _
  refine kw_alod h 1 dL_quipu_19 rfl rfl ?_
  have hAt : AtT (txL ad) (ad 602) 0 (flP (qP v)) := by
    rw [hl, a602]
    refine ⟨by omega, fun j hj => ?_⟩
    rw [Nat.zero_add]
    show (if j < ad 602 then txN ad j else 32) = _
    rw [if_pos (by rw [a602]; exact hj), atx]
  refine km_callVP (As := []) (b := 0) (ad := ad) (wm := wsO ad cy I' (J00 w42) P00) (wr := []) (I := I') (J := J00 w42) (P := P00) (Q := fun r I2 J2 P2 => r = some (.int (nI 0)) ∧ (∃ ca, clK (txL ad) (ad 602) ca I' I2 J2) ∧ P2 = PT) hv h (rk_le hR (by omega) (by omega)) isW [] (some (b, y, tl)) mi_X10_teach dL_quipu_20 ml_L_174 rfl rfl rfl (by decide) (Nat.le_of_ble_eq_true rfl) (by rw [x0e]; rfl) (Nat.le_of_ble_eq_true rfl) ?_ isW_C isW_nd rfl rfl (fun _ q => (List.not_mem_nil q).elim) (fun D cl H hP => hP) (fun A => wsO_Di) e1 e2 (Or.inr ⟨b, y, tl, rfl, a600, a601, a602, atx⟩) ?_ (fun r I2 J2 P2 z => ?_)
  · refine ts_w (b := b) (y := y) (u := .int 0) (v := .int 0) (l := tl) (g := g) h hv.1 isW isW_C 0 1 rfl rfl hlt (by decide +kernel) (by decide +kernel)
  · intro Γ2 _ h2
    refine fnl_mono (fun r I1 J1 P1 hq => ?_) (sp_X10_teach (d := d) (Q := fun x I2 J2 P2 => x = nI 0 ∧ (∃ ca, clK (txL ad) (ad 602) ca I' I2 J2) ∧ P2 = PT) hT (fun i hi => hw i hi) rfl rfl (fun ca _ I2 J2 hc _ => ⟨rfl, ⟨ca, hc⟩, rfl⟩) (fun ca e t hn => by
      rw [(q_teach v1 v2 v3 hAt).1] at hn
      cases hn) Γ2 h2)
    obtain ⟨x, rfl, rfl, hq⟩ := hq
    exact ⟨rfl, hq⟩
  obtain ⟨rfl, ⟨ca, hc⟩, rfl⟩ := z
  show CW Γ _ _ 23 [some (.ref (ad0 500)), some (.ref x0)] [.int (nI 0)] (wsO ad cy I2 J2 PT) _
  refine kw_pop h dL_quipu_23 rfl ?_
  refine kw_alod h 1 dL_quipu_24 rfl rfl ?_
  obtain ⟨ad', had'⟩ : ∃ ad' : Nat → Nat, ad' = fun i => if i < 80 then ad (pi i) else ad0 i := ⟨_, rfl⟩
  have h3 : ∀ i, i < 80 → ad' i = ad (pi i) := fun i hi => by rw [had']; exact if_pos hi
  refine k_conv (ws' := wsO ad' cy (ren I2) (ren J2) (renP PT)) (fun D cl H hP => wso_ren h3 PT_b hP) (fun A hD => wso_renD h3 hD) ?_
  refine k_pad (kc' := 1100) (kn' := 1410000) (by omega) (by omega) ?_
  refine km_aret h hr (Or.inl ⟨_, rfl⟩) dL_quipu_25 ⟨ad', ren I2, ren J2, renP PT, ?_, rfl, fun i hi => by rw [had']; exact if_neg (by omega), LW_q v1 v2 v3 hAt hc, fun k j w e => ?_⟩
  · rw [h3 0 (by decide), show pi 0 = 0 from rfl, x0e]
  · unfold renP at e
    cases hp : PT (pi k) j with
    | none => rw [hp] at e; cases e
    | some x =>
      rw [hp] at e
      cases e
      exact pi_lt (PT_b _ _ _ hp)
