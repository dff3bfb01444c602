/-! The reference's parser: one -/
theorem srt3 : ∀ k, k < 47 → (srt k = 3 ↔ k = 29) := by decide +kernel
theorem rE.mv {K wd : Nat → Nat} {V mm : Nat → Int32} {M : Nat} {I I' : MI} {c p z : Nat} {x x' : Option (Nat × Nat)} (h : rE K wd V M mm I c p z x) (hf : ∀ a j, ¬ (a = 80 ∧ j = 14) → ¬ (a = 80 ∧ (j = 17 ∨ j = 18)) → I' a j = I a j) (ha : alR (p + 1) I') (he : erS I' x') (hx : ∀ y, x' = some y → y.2 < p + 1) (hp : p < M) : rE K wd V M mm I' c (p + 1) z x' ∧ FRm z I I' := by
  have f : FRm z I I' := fun a j a1 a2 a3 => hf a j (fun q => a1 (by omega)) (fun q => a1 (by omega))
  obtain ⟨h1, h2, h3, h4, h5, h6, h7, h8⟩ := h
  exact ⟨⟨h1.kp f.kp, ha, hp, ⟨(hf 80 15 (by omega) (by omega)).trans h4.1, h4.2⟩, he, hx, ⟨(hf 104 12 (by omega) (by omega)).trans h7.1, by omega⟩, h8.fr f⟩, f⟩
theorem rB.up {M p z e k : Nat} {I I' : MI} {v : Int32} (h : rB M I p z e I') (hk : k = 14 ∨ k = 15) : rB M I p z e (up2 I' 80 k v) := by
  obtain ⟨h1, h2, h3, h4, y, y1, y2, y3⟩ := h
  exact ⟨h1.tr (FRm.at (by omega) (by omega)) y2, by rw [up2_n (by omega)]; exact h2, h3, h4, y, by rw [up2_o (by decide)]; exact y1, y2, y3⟩
theorem rB.wk {M p p1 z e : Nat} {I I1 I' : MI} (h : rB M I1 p1 z e I') (f : FRm z I I1) (hp : p ≤ p1) : rB M I p z e I' := by
  obtain ⟨h1, h2, h3, h4, y, y1, y2, y3⟩ := h
  exact ⟨f.tr h1 (Nat.le_refl _), h2, by omega, h4, y, y1, y2, by omega⟩
theorem rB.new {M p z z3 e : Nat} {I I3 : MI} (f : FRm z I I3) (h : I3 104 12 = nI z3) (h1 : z ≤ z3) (h2 : z3 + p ≤ z + e + 1) (h3 : p ≤ e) (h4 : e ≤ M) : rB M I p z e (up2 I3 80 16 (nI e)) := ⟨f.tr (FRm.at (by decide) (by decide)) h1, up2_s, h3, h4, z3, by rw [up2_o (by decide)]; exact h, h1, h2⟩
theorem rB.nd {M p p1 z e zz : Nat} {I I1 I' : MI} {a b d : Int32} (h : rB M I p1 z e I1) (hp : p + 1 ≤ p1) (hz : I1 104 12 = nI zz) (h4 : zz < 401) (hM : z ≤ M ∧ M ≤ 400) (w : nwF zz a b d I1 I') : rB M I p z e I' := by
  obtain ⟨h1, h2, h3, h4, y, y1, y2, y3⟩ := h
  obtain ⟨w1, w2, w3, w4, w5, w6⟩ := w
  obtain rfl : zz = y := eqN (hz.symm.trans y1) (by omega) (by omega)
  exact ⟨h1.tr w1 y2, by rw [w6]; exact h2, by omega, h4, _, w5, by omega, by omega⟩
set_option maxRecDepth 100000 in
set_option maxHeartbeats 4000000 in
theorem sp_knownCord {K wd : Nat → Nat} {V mm : Nat → Int32} {M : Nat} {d c t z : Nat} {x : Option (Nat × Nat)} {I : MI} {J : MJ} {P : MP} (hP : P 80 9 = some 104) (hE : rE K wd V M mm I c (t + 1) z x) (hc : (fun k => 17 ≤ k ∧ k ≤ 19) (K t)) {Q : Int32 → MI → MJ → MP → Prop} (hQ1 : K (t + 1) = 28 → ∀ I', FRm z I I' → rE K wd V M mm I' c (t + 2) z (x.or (fbd K mm 1 (t + 1))) → (¬ mm (t + 1) = -1 → ∃ j, j < nN (nv I') ∧ mm (t + 1) = nI j) → Q (mm (t + 1)) I' J P) (hQ0 : ¬ K (t + 1) = 28 → Q (nI 0) (up2 I 80 16 (nI (t + 1))) J P) : Sp yX12_knownCord cX12_knownCord 1 (some .int) (d + 3) [.ref 80] I J P (Qi Q) := by
  intro Γ h
  show VG Γ 0 0 0 [some (.ref 80)] [] _ _ _ _
  obtain ⟨N, l1, r1, r2, r3⟩ := hE.2.2.2.2.2.2.2.2.1
  have q1 := r3 t hc
  have hx := hE.2.2.2.2.2.1
  have hM := hE.M4
  refine g_aload_0 h dX12_knownCord_0 ?_
  refine g_aload_0 h dX12_knownCord_1 ?_
  refine g_getC h fl_X12_97 dX12_knownCord_2 rfl rfl ?_
  refine g_aload_0 h dX12_knownCord_5 ?_
  refine g_getP h fl_X12_91 dX12_knownCord_6 rfl rfl (by assumption) ?_
  refine g_getI h fl_X12_161 dX12_knownCord_9 rfl rfl ?_
  rw [r1]
  refine g_cVi2 h rok0 mi_X12_known dX12_knownCord_12 ml_X12_157 rfl rfl rfl (Nat.le_of_ble_eq_true rfl) (Nat.le_of_ble_eq_true rfl) (sp_known rfl (by decide) (by omega) (by decide) hE.1 hE.2.1 hE.2.2.1 hE.2.2.2.2.1 r2 (fun q I2 f2 a2 e2 => ?_) (fun q => ?_))
  · refine g_iret h dX12_knownCord_15 ?_
    have hpM : t + 1 < M := K_lt hM.2.1 hM.2.2.1 q (by decide)
    have eo : (if lkW wd (I 87) N (t + 1) = -1 then tl x 3 (t + 1) else x) = x.or (fbd K mm 1 (t + 1)) := by
      rw [fbd_1, q1]
      by_cases z : lkW wd (I 87) N (t + 1) = -1
      · rw [if_pos z, if_pos ⟨q, z⟩, tl_or hx]
      · rw [if_neg z, if_neg (fun y => z y.2)]
        cases x <;> rfl
    rw [eo] at e2
    obtain ⟨s1, s2⟩ := hE.mv f2 a2 e2 (fun y hy => by
      cases x with
      | none =>
        have := fbd_lt 1 (t + 1) y hy
        omega
      | some w =>
        have := hx w rfl
        cases hy
        omega) hpM
    refine q_i q1.symm (hQ1 q I2 s2 s1 (fun hm => ?_))
    rcases lkW_m1 (wd := wd) (nm := I 87) (N := N) (t := t + 1) (by omega) with z | ⟨j, j1, j2⟩
    · exact absurd (q1.trans z) hm
    · exact ⟨j, by show j < ix (I2 104 1); rw [f2 104 1 (by omega) (by omega), r1, ix_n (by omega)]; exact j1, q1.trans j2⟩
  · refine g_iret h dX12_knownCord_15 ?_
    exact hQ0 q
set_option maxRecDepth 100000 in
set_option maxHeartbeats 4000000 in
theorem sp_knownTop {K wd : Nat → Nat} {V mm : Nat → Int32} {M : Nat} {d c t z : Nat} {x : Option (Nat × Nat)} {I : MI} {J : MJ} {P : MP} (hP : P 80 9 = some 104) (hE : rE K wd V M mm I c (t + 1) z x) (hc : (fun k => k = 20 ∨ k = 22) (K t)) {Q : Int32 → MI → MJ → MP → Prop} (hQ1 : K (t + 1) = 28 → ∀ I', FRm z I I' → rE K wd V M mm I' c (t + 2) z (x.or (fbd K mm 1 (t + 1))) → (¬ mm (t + 1) = -1 → ∃ j, j < nT (nv I') ∧ mm (t + 1) = nI j) → Q (mm (t + 1)) I' J P) (hQ0 : ¬ K (t + 1) = 28 → Q (nI 0) (up2 I 80 16 (nI (t + 1))) J P) : Sp yX12_knownTop cX12_knownTop 1 (some .int) (d + 3) [.ref 80] I J P (Qi Q) := by
  intro Γ h
  show VG Γ 0 0 0 [some (.ref 80)] [] _ _ _ _
  obtain ⟨N, l1, r1, r2, r3⟩ := hE.2.2.2.2.2.2.2.2.2.1
  have q1 := r3 t hc
  have hx := hE.2.2.2.2.2.1
  have hM := hE.M4
  refine g_aload_0 h dX12_knownTop_0 ?_
  refine g_aload_0 h dX12_knownTop_1 ?_
  refine g_getC h fl_X12_100 dX12_knownTop_2 rfl rfl ?_
  refine g_aload_0 h dX12_knownTop_5 ?_
  refine g_getP h fl_X12_91 dX12_knownTop_6 rfl rfl (by assumption) ?_
  refine g_getI h fl_X12_164 dX12_knownTop_9 rfl rfl ?_
  rw [r1]
  refine g_cVi2 h rok0 mi_X12_known dX12_knownTop_12 ml_X12_157 rfl rfl rfl (Nat.le_of_ble_eq_true rfl) (Nat.le_of_ble_eq_true rfl) (sp_known rfl (by decide) (by omega) (by decide) hE.1 hE.2.1 hE.2.2.1 hE.2.2.2.2.1 r2 (fun q I2 f2 a2 e2 => ?_) (fun q => ?_))
  · refine g_iret h dX12_knownTop_15 ?_
    have hpM : t + 1 < M := K_lt hM.2.1 hM.2.2.1 q (by decide)
    have eo : (if lkW wd (I 88) N (t + 1) = -1 then tl x 3 (t + 1) else x) = x.or (fbd K mm 1 (t + 1)) := by
      rw [fbd_1, q1]
      by_cases z : lkW wd (I 88) N (t + 1) = -1
      · rw [if_pos z, if_pos ⟨q, z⟩, tl_or hx]
      · rw [if_neg z, if_neg (fun y => z y.2)]
        cases x <;> rfl
    rw [eo] at e2
    obtain ⟨s1, s2⟩ := hE.mv f2 a2 e2 (fun y hy => by
      cases x with
      | none =>
        have := fbd_lt 1 (t + 1) y hy
        omega
      | some w =>
        have := hx w rfl
        cases hy
        omega) hpM
    refine q_i q1.symm (hQ1 q I2 s2 s1 (fun hm => ?_))
    rcases lkW_m1 (wd := wd) (nm := I 88) (N := N) (t := t + 1) (by omega) with z | ⟨j, j1, j2⟩
    · exact absurd (q1.trans z) hm
    · exact ⟨j, by show j < ix (I2 104 2); rw [f2 104 2 (by omega) (by omega), r1, ix_n (by omega)]; exact j1, q1.trans j2⟩
  · refine g_iret h dX12_knownTop_15 ?_
    exact hQ0 q
set_option maxRecDepth 100000 in
set_option maxHeartbeats 4000000 in
theorem sp_knownKeeper {K wd : Nat → Nat} {V mm : Nat → Int32} {M : Nat} {d c t z : Nat} {x : Option (Nat × Nat)} {I : MI} {J : MJ} {P : MP} (hP : P 80 9 = some 104) (hE : rE K wd V M mm I c (t + 1) z x) (hc : (fun k => k = 21) (K t)) {Q : Int32 → MI → MJ → MP → Prop} (hQ1 : K (t + 1) = 28 → ∀ I', FRm z I I' → rE K wd V M mm I' c (t + 2) z (x.or (fbd K mm 1 (t + 1))) → (¬ mm (t + 1) = -1 → ∃ j, j < nK (nv I') ∧ mm (t + 1) = nI j) → Q (mm (t + 1)) I' J P) (hQ0 : ¬ K (t + 1) = 28 → Q (nI 0) (up2 I 80 16 (nI (t + 1))) J P) : Sp yX12_knownKeeper cX12_knownKeeper 1 (some .int) (d + 3) [.ref 80] I J P (Qi Q) := by
  intro Γ h
  show VG Γ 0 0 0 [some (.ref 80)] [] _ _ _ _
  obtain ⟨N, l1, r1, r2, r3⟩ := hE.2.2.2.2.2.2.2.2.2.2
  have q1 := r3 t hc
  have hx := hE.2.2.2.2.2.1
  have hM := hE.M4
  refine g_aload_0 h dX12_knownKeeper_0 ?_
  refine g_aload_0 h dX12_knownKeeper_1 ?_
  refine g_getC h fl_X12_103 dX12_knownKeeper_2 rfl rfl ?_
  refine g_aload_0 h dX12_knownKeeper_5 ?_
  refine g_getP h fl_X12_91 dX12_knownKeeper_6 rfl rfl (by assumption) ?_
  refine g_getI h fl_X12_167 dX12_knownKeeper_9 rfl rfl ?_
  rw [r1]
  refine g_cVi2 h rok0 mi_X12_known dX12_knownKeeper_12 ml_X12_157 rfl rfl rfl (Nat.le_of_ble_eq_true rfl) (Nat.le_of_ble_eq_true rfl) (sp_known rfl (by decide) (by omega) (by decide) hE.1 hE.2.1 hE.2.2.1 hE.2.2.2.2.1 r2 (fun q I2 f2 a2 e2 => ?_) (fun q => ?_))
  · refine g_iret h dX12_knownKeeper_15 ?_
    have hpM : t + 1 < M := K_lt hM.2.1 hM.2.2.1 q (by decide)
    have eo : (if lkW wd (I 89) N (t + 1) = -1 then tl x 3 (t + 1) else x) = x.or (fbd K mm 1 (t + 1)) := by
      rw [fbd_1, q1]
      by_cases z : lkW wd (I 89) N (t + 1) = -1
      · rw [if_pos z, if_pos ⟨q, z⟩, tl_or hx]
      · rw [if_neg z, if_neg (fun y => z y.2)]
        cases x <;> rfl
    rw [eo] at e2
    obtain ⟨s1, s2⟩ := hE.mv f2 a2 e2 (fun y hy => by
      cases x with
      | none =>
        have := fbd_lt 1 (t + 1) y hy
        omega
      | some w =>
        have := hx w rfl
        cases hy
        omega) hpM
    refine q_i q1.symm (hQ1 q I2 s2 s1 (fun hm => ?_))
    rcases lkW_m1 (wd := wd) (nm := I 89) (N := N) (t := t + 1) (by omega) with z | ⟨j, j1, j2⟩
    · exact absurd (q1.trans z) hm
    · exact ⟨j, by show j < ix (I2 104 3); rw [f2 104 3 (by omega) (by omega), r1, ix_n (by omega)]; exact j1, q1.trans j2⟩
  · refine g_iret h dX12_knownKeeper_15 ?_
    exact hQ0 q
set_option maxRecDepth 100000 in
set_option maxHeartbeats 4000000 in
theorem sp_innerS {K wd : Nat → Nat} {V mm : Nat → Int32} {M : Nat} {D c : Nat} {gs : Nat → PRs} (hG : cE K wd V M mm yX12_sum cX12_sum 3 (D + 8) c true gs) {p z : Nat} {x : Option (Nat × Nat)} {I : MI} {J : MJ} {P : MP} (hP : P 80 9 = some 104) (hE : rE K wd V M mm I (c + 1) p z x) (hK : K p = 30) {Q : Int32 → MI → MJ → MP → Prop} (hS : ∀ I' v z', (cloP K 31 (gs (p + 1))).1 = true → rgE K wd V M mm I (c + 1) p z x (cloP K 31 (gs (p + 1))).2.1 z' I' → (fbd K mm ((cloP K 31 (gs (p + 1))).2.1 - p) p = none → nd true I' z' v (cloP K 31 (gs (p + 1))).2.2) → Q v I' J P) (hF : ∀ I' v, (cloP K 31 (gs (p + 1))).1 = false → rB M I p z (cloP K 31 (gs (p + 1))).2.1 I' → Q v I' J P) : Sp yX12_inner cX12_inner 2 (some .int) (D + 9) [.ref 80] I J P (Qi Q) := by
  intro Γ h
  show VG Γ 0 0 0 [some (.ref 80), none] [] _ _ _ _
  obtain ⟨M4, K45, hp, hzp, c8⟩ := hE.M4
  have hpM := K_lt K45 hp hK (by decide)
  have hE1 := hE.dp (c' := c) (v := nI (8 - (c + 1) + 1)) (by rw [show 8 - (c + 1) + 1 = 8 - c by omega]) (by omega)
  have fz : FRm z I (up2 (up2 I 80 15 (nI (8 - (c + 1) + 1))) 80 14 (nI (p + 1))) := (FRm.at (by decide) (by decide)).tr (FRm.at (by decide) (by decide)) (Nat.le_refl z)
  refine g_aload_0 h dX12_inner_0 ?_
  refine g_cVv0 h rok0 mi_X12_deeper dX12_inner_1 ml_X12_194 rfl rfl rfl (Nat.le_of_ble_eq_true rfl) (Nat.le_of_ble_eq_true rfl) (sp_deeper (e := 8 - (c + 1)) (by omega) hE.2.2.2.1.1 ?_)
  refine g_aload_0 h dX12_inner_4 ?_
  refine g_dup h dX12_inner_5 rfl ?_
  refine g_getI h fl_X12_118 dX12_inner_6 rfl rfl ?_
  refine g_iconst h dX12_inner_9 (v := nI 1) rfl ?_
  refine g_iadd h dX12_inner_10 ?_
  refine g_putI h fp_X12_118 dX12_inner_11 rfl rfl ?_
  rw [show up2 I 80 15 (nI (8 - (c + 1) + 1)) 80 14 + nI 1 = nI (p + 1) by rw [hE1.2.1.1]; exact nI_1 p]
  refine g_aload_0 h dX12_inner_14 ?_
  refine g_cVi0 h rok0 mi_X12_sum dX12_inner_15 ml_X12_203 rfl rfl rfl (Nat.le_of_ble_eq_true rfl) (Nat.le_of_ble_eq_true rfl) (hG (p + 1) z _ _ J P hP (hE1.at hpM) (fun I2 v2 z2 e2 q2 n2 => ?_) (fun I2 v2 e2 b2 => ?_))
  · obtain ⟨t1, t2, t3, t4, t5⟩ := id q2
    have t6 := t2.M4
    refine g_istore_1 h dX12_inner_18 (by decide) rfl ?_
    refine g_aload_0 h dX12_inner_19 ?_
    refine g_iconst h dX12_inner_20 (v := nI 4) rfl ?_
    refine g_bipush h dX12_inner_21 (v := nI 41) rfl ?_
    refine g_cVv2 h rok0 mi_X12_take dX12_inner_23 ml_X12_206 rfl rfl rfl (Nat.le_of_ble_eq_true rfl) (Nat.le_of_ble_eq_true rfl) (sgC_take (k := 31) rfl (by decide) t2.1 t2.2.1 t2.2.2.1 (fun k2 => ?_) (fun k2 => ?_))
    · refine g_aload_0 h dX12_inner_26 ?_
      refine g_dup h dX12_inner_27 rfl ?_
      refine g_getI h fl_X12_138 dX12_inner_28 rfl rfl ?_
      refine g_iconst h dX12_inner_31 (v := nI 1) rfl ?_
      refine g_isub h dX12_inner_32 ?_
      refine g_putI h fp_X12_138 dX12_inner_33 rfl rfl ?_
      refine g_iload_1 h dX12_inner_36 ?_
      refine g_iret h dX12_inner_37 ?_
      have p2M := K_lt K45 t6.2.2.1 k2 (by decide)
      have hv : (cloP K 31 (gs (p + 1))) = (true, (gs (p + 1)).2.1 + 1, (gs (p + 1)).2.2) := by rw [cloP, if_pos e2, if_pos k2]
      have t7 := (t2.at p2M).dp (c' := c + 1) (v := up2 I2 80 14 (nI ((gs (p + 1)).2.1 + 1)) 80 15 - nI 1) (by rw [up2_n (by decide), t2.2.2.2.1.1, show 8 - c = 8 - (c + 1) + 1 by omega]; exact nI_sub1 _) c8
      have eF : fbd K mm ((gs (p + 1)).2.1 + 1 - p) p = fbd K mm ((gs (p + 1)).2.1 - (p + 1)) (p + 1) := by
        rw [fbd_0 (by omega) (by omega), fbd_2 (show p + 1 ≤ (gs (p + 1)).2.1 by omega) (show (gs (p + 1)).2.1 ≤ (gs (p + 1)).2.1 + 1 by omega), fbd_0 (show (gs (p + 1)).2.1 < (gs (p + 1)).2.1 + 1 by omega) (by omega), Nat.sub_self, fbd, Option.or_none]
      refine hS _ _ z2 (by rw [hv]) (by rw [hv]; exact ⟨((fz.tr t1 (Nat.le_refl _)).tr (FRm.at (by decide) (by decide)) t3).tr (FRm.at (by decide) (by decide)) t3, by rw [eF]; exact t7, t3, by show z2 + p ≤ z + ((gs (p + 1)).2.1 + 1); omega, by show p < (gs (p + 1)).2.1 + 1; omega⟩) (by
        rw [hv]
        intro hb
        rw [eF] at hb
        exact ((n2 hb).mv (FRm.at (by decide) (by decide)) (Nat.le_refl _)).mv (FRm.at (by decide) (by decide)) (Nat.le_refl _))
    · refine g_aload_0 h dX12_inner_26 ?_
      refine g_dup h dX12_inner_27 rfl ?_
      refine g_getI h fl_X12_138 dX12_inner_28 rfl rfl ?_
      refine g_iconst h dX12_inner_31 (v := nI 1) rfl ?_
      refine g_isub h dX12_inner_32 ?_
      refine g_putI h fp_X12_138 dX12_inner_33 rfl rfl ?_
      refine g_iload_1 h dX12_inner_36 ?_
      refine g_iret h dX12_inner_37 ?_
      have hv : (cloP K 31 (gs (p + 1))) = (false, (gs (p + 1)).2.1, zE) := by rw [cloP, if_pos e2, if_neg k2]
      exact hF _ _ (by rw [hv]) (by rw [hv]; exact (rB.new (fz.tr t1 (Nat.le_refl _)) t2.cnt t3 (by omega) (by omega) t6.2.2.1).up (Or.inr rfl))
  · have t6 := b2.2.2.2.1
    refine g_istore_1 h dX12_inner_18 (by decide) rfl ?_
    refine g_aload_0 h dX12_inner_19 ?_
    refine g_iconst h dX12_inner_20 (v := nI 4) rfl ?_
    refine g_bipush h dX12_inner_21 (v := nI 41) rfl ?_
    refine g_cVv2 h rok0 mi_X12_take dX12_inner_23 ml_X12_206 rfl rfl rfl (Nat.le_of_ble_eq_true rfl) (Nat.le_of_ble_eq_true rfl) (sp_take_dd (f := (gs (p + 1)).2.1) (by omega) b2.2.1 ?_)
    refine g_aload_0 h dX12_inner_26 ?_
    refine g_dup h dX12_inner_27 rfl ?_
    refine g_getI h fl_X12_138 dX12_inner_28 rfl rfl ?_
    refine g_iconst h dX12_inner_31 (v := nI 1) rfl ?_
    refine g_isub h dX12_inner_32 ?_
    refine g_putI h fp_X12_138 dX12_inner_33 rfl rfl ?_
    refine g_iload_1 h dX12_inner_36 ?_
    refine g_iret h dX12_inner_37 ?_
    have hv : (cloP K 31 (gs (p + 1))) = (false, (gs (p + 1)).2.1, zE) := by rw [cloP, if_neg (by rw [e2]; decide)]
    exact hF _ _ (by rw [hv]) (by rw [hv]; exact (b2.wk fz (by omega)).up (Or.inr rfl))
set_option maxRecDepth 100000 in
set_option maxHeartbeats 4000000 in
theorem sp_inner0 {K wd : Nat → Nat} {V mm : Nat → Int32} {M : Nat} {D : Nat} {p z : Nat} {x : Option (Nat × Nat)} {I : MI} {J : MJ} {P : MP} (hE : rE K wd V M mm I 0 p z x) (hK : K p = 30) {Q : Int32 → MI → MJ → MP → Prop} (hF : ∀ I' v, rB M I p z p I' → Q v I' J P) : Sp yX12_inner cX12_inner 2 (some .int) (D + 9) [.ref 80] I J P (Qi Q) := by
  intro Γ h
  show VG Γ 0 0 0 [some (.ref 80), none] [] _ _ _ _
  obtain ⟨M4, K45, hp, hzp, c8⟩ := hE.M4
  have b0 : rB M I p z p (up2 I 80 16 (nI p)) := rB.new FRm.rf hE.cnt (Nat.le_refl _) (by omega) (Nat.le_refl _) hp
  have b1 := b0.up (k := 15) (v := nI 9) (Or.inr rfl)
  have b2 := b1.up (k := 14) (v := up2 (up2 I 80 16 (nI p)) 80 15 (nI 9) 80 14 + nI 1) (Or.inl rfl)
  refine g_aload_0 h dX12_inner_0 ?_
  refine g_cVv0 h rok0 mi_X12_deeper dX12_inner_1 ml_X12_194 rfl rfl rfl (Nat.le_of_ble_eq_true rfl) (Nat.le_of_ble_eq_true rfl) (sp_deeper8 hE.2.1 hE.2.2.2.1.1 ?_)
  refine g_aload_0 h dX12_inner_4 ?_
  refine g_dup h dX12_inner_5 rfl ?_
  refine g_getI h fl_X12_118 dX12_inner_6 rfl rfl ?_
  refine g_iconst h dX12_inner_9 (v := nI 1) rfl ?_
  refine g_iadd h dX12_inner_10 ?_
  refine g_putI h fp_X12_118 dX12_inner_11 rfl rfl ?_
  refine g_aload_0 h dX12_inner_14 ?_
  refine g_cVi0 h rok0 mi_X12_sum dX12_inner_15 ml_X12_203 rfl rfl rfl (Nat.le_of_ble_eq_true rfl) (Nat.le_of_ble_eq_true rfl) (sp_sum_dd (f := p) (by omega) b2.2.1 ?_)
  refine g_istore_1 h dX12_inner_18 (by decide) rfl ?_
  refine g_aload_0 h dX12_inner_19 ?_
  refine g_iconst h dX12_inner_20 (v := nI 4) rfl ?_
  refine g_bipush h dX12_inner_21 (v := nI 41) rfl ?_
  refine g_cVv2 h rok0 mi_X12_take dX12_inner_23 ml_X12_206 rfl rfl rfl (Nat.le_of_ble_eq_true rfl) (Nat.le_of_ble_eq_true rfl) (sp_take_dd (f := p) (by omega) b2.2.1 ?_)
  refine g_aload_0 h dX12_inner_26 ?_
  refine g_dup h dX12_inner_27 rfl ?_
  refine g_getI h fl_X12_138 dX12_inner_28 rfl rfl ?_
  refine g_iconst h dX12_inner_31 (v := nI 1) rfl ?_
  refine g_isub h dX12_inner_32 ?_
  refine g_putI h fp_X12_138 dX12_inner_33 rfl rfl ?_
  refine g_iload_1 h dX12_inner_36 ?_
  refine g_iret h dX12_inner_37 ?_
  exact hF _ _ (b2.up (Or.inr rfl))
