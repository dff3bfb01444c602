/-! The reference's parser: readOrder -/
set_option maxRecDepth 100000 in
set_option maxHeartbeats 4000000 in
theorem sp_readOrder11 {K wd : Nat → Nat} {V ca : Nat → Int32} {M : Nat} {T : MI} {D p z : Nat} {x : Option (Nat × Nat)} {I : MI} {J : MJ} {P : MP} (hV : vR K V M) (hP : P 80 9 = some 104) (hR : rL K wd V M T I p z x) (hK : K p = 11) {Q : MI → MJ → MP → Prop} (hQ1 : ∀ I' q z', pL K p = sqK K [34] q rtL → K (p + 1) = 28 → p < q → q ≤ M → rL K wd V M (lsT K V wd ca T p) I' q z' (x.or (lerr K V wd T p)) → FRl I I' → FRo T z I I' → z ≤ z' → (x.or (lerr K V wd T p) = none → nd true I' z' (I' 111 (5 * nO T + 3)) (pS K V (mT K wd T) 8 (p + 5)).2.2 ∧ (K (pS K V (mT K wd T) 8 (p + 5)).2.1 = 15 → nd false I' z' (I' 111 (5 * nO T + 4)) (pT K V (mT K wd T) 8 ((pS K V (mT K wd T) 8 (p + 5)).2.1 + 1)).2.2) ∧ (¬ K (pS K V (mT K wd T) 8 (p + 5)).2.1 = 15 → (I' 111 (5 * nO T + 4)) = -1)) → Q I' J P) (hQ0 : ∀ I' e, pL K p = (false, e) → rD M e I I' → Q I' J P) : Sp yX12_readOrder cX12_readOrder 7 none (D + 4 * 8 + 16) [.ref 80, .int (nI 11)] I J P (Qv Q) := by
  intro Γ h
  show VG Γ 0 0 0 [some (.ref 80), some (.int (nI 11)), none, none, none, none, none] [] _ _ _ _
  have hR0 := hR
  obtain ⟨hE, hb, hnm⟩ := hR
  obtain ⟨M4, K45, hp, hzp, c8⟩ := hE.M4
  have hpM := K_lt2 K45 hp (by omega)
  have hx := hE.2.2.2.2.2.1
  have hcN : nO T ≤ 20 := hb.1.2.2.2.2.2
  have h0 : I 104 4 = nI (nO T) := hb.1.1 4 (by decide)
  have hpl : pL K p = sqK K [28, 12, 28, 13] (p + 1) (tieL K) := by rw [pL, if_neg (by omega), if_neg (by omega), if_neg (by omega), if_neg (by omega), if_pos hK, sqK, if_pos hK]
  have go : ∀ (I2 : MI) (y : Option (Nat × Nat)), rL K wd V M T I2 (p + 1) z y → y = x.or (er [(decide (nO T = 20), 4, p)] none) → FRm z I I2 → VG Γ 0 0 31 [some (.ref 80), some (.int (nI 11)), none, none, none, none, none] [] I2 J P (Fnl Γ (Qv Q)) := by
    intro I2 y r2 ey f2
    have c2 : I2 104 4 = nI (nO T) := r2.2.1.1.1 4 (by decide)
    refine al_order11 (D := D) hP r2 hK h (fun I9 q z' v2 v3 v4 v5 s1 k1 l1 e2 e3 r9 f9 zz cl => ?_) (fun I9 e v2 v3 v4 v5 s1 b9 c9 => ?_)
    · have c9 : I9 104 4 = nI (nO T) := r9.2.1.1.1 4 (by decide)
      have hq := r9.1.M4.2.2.1
      have hs : pL K p = sqK K [34] q rtL := hpl.trans s1
      have hle : lerr K V wd T p = er [(decide (nO T = 20), 4, p)] (fbd K (mT K wd T) (q - (p + 1)) (p + 1)) := by
        rw [lerr, if_neg (show ¬ K p = 0 by omega), if_neg (show ¬ K p = 2 by omega), if_neg (show ¬ K p = 7 by omega), if_neg (show ¬ K p = 9 by omega), hs, sqK]
        by_cases k34 : K q = 34
        · rw [if_pos k34]
          show er _ (fbd K (mT K wd T) (q + 1 - (p + 1)) (p + 1)) = _
          rw [fbd_m (by omega) (by omega)]
        · rw [if_neg k34]
      have eE : y.or (fbd K (mT K wd T) (q - (p + 1)) (p + 1)) = x.or (lerr K V wd T p) := by
        rw [hle, ey]
        simp only [er_or, er_nil, Option.or_none, Option.or_assoc]
      rw [eE] at r9
      have hN : x.or (lerr K V wd T p) = none → nO T < 20 ∧ fbd K (mT K wd T) (q - (p + 1)) (p + 1) = none := by
        intro hz
        obtain ⟨_, hz⟩ := Option.or_eq_none_iff.mp hz
        rw [hle, er_or] at hz
        obtain ⟨h1, h2⟩ := Option.or_eq_none_iff.mp hz
        refine ⟨?_, h2⟩
        by_cases e20 : nO T = 20
        · rw [if_pos (decide_eq_true e20)] at h1
          cases h1
        · omega
      refine tl_readOrder hP hcN c9 (fun e20 => ?_) (fun n20 => ?_) h
      · have hT : lsT K V wd ca T p = T := by rw [lsT, if_neg (show ¬ K p = 0 by omega), if_neg (show ¬ K p = 2 by omega), if_neg (show ¬ K p = 7 by omega), if_neg (show ¬ K p = 9 by omega), if_pos e20]
        exact hQ1 I9 q z' hs k1 (by omega) hq (by rw [hT]; exact r9) (f2.tr f9 (Nat.le_refl _)).l (f2.tr f9 (Nat.le_refl _)).o zz (fun hz => absurd (hN hz).1 (by omega))
      · have hT : lsT K V wd ca T p = ctT (setRow (setRow (setRow (setRow T 7 (upd (upd (upd (T 7) (5 * nO T) (nI 11)) (5 * nO T + 1) v2) (5 * nO T + 2) v3)) 8 (upd (T 8) (nO T) (ca (q1L K p)))) 9 (upd (T 9) (nO T) (ca ((pL K p).2 - 1)))) 10 (upd (T 10) (nO T) (nI p))) 4 (nO T + 1) := by
          rw [lsT, if_neg (show ¬ K p = 0 by omega), if_neg (show ¬ K p = 2 by omega), if_neg (show ¬ K p = 7 by omega), if_neg (show ¬ K p = 9 by omega), if_neg (by omega), hK, e2, e3]
        have w : ∀ a, a ≠ 104 → a ≠ 111 → (up2 (up2 (up2 (up2 (up2 (up2 I9 111 (5 * nO T) (nI 11)) 111 (5 * nO T + 1) v2) 111 (5 * nO T + 2) v3) 111 (5 * nO T + 3) v4) 111 (5 * nO T + 4) v5) 104 4 (nI (nO T + 1))) a = I9 a := fun a a1 a2 => by rw [up2_o (by omega), up2_o (by omega), up2_o (by omega), up2_o (by omega), up2_o (by omega), up2_o (by omega)]
        have w4 : ∀ j, j ≠ 4 → (up2 (up2 (up2 (up2 (up2 (up2 I9 111 (5 * nO T) (nI 11)) 111 (5 * nO T + 1) v2) 111 (5 * nO T + 2) v3) 111 (5 * nO T + 3) v4) 111 (5 * nO T + 4) v5) 104 4 (nI (nO T + 1))) 104 j = I9 104 j := fun j hj => by rw [up2_n hj, up2_o (by decide), up2_o (by decide), up2_o (by decide), up2_o (by decide), up2_o (by decide)]
        have w5 : ∀ j, j < 5 * nO T → (up2 (up2 (up2 (up2 (up2 (up2 I9 111 (5 * nO T) (nI 11)) 111 (5 * nO T + 1) v2) 111 (5 * nO T + 2) v3) 111 (5 * nO T + 3) v4) 111 (5 * nO T + 4) v5) 104 4 (nI (nO T + 1))) 111 j = I9 111 j := fun j hj => by rw [up2_o (by decide), up2_n (by omega), up2_n (by omega), up2_n (by omega), up2_n (by omega), up2_n (by omega)]
        have fo := (f2.tr f9 (Nat.le_refl _)).o (T := T)
        have nv1 : nvR z' (nv I9) (nv (up2 (up2 (up2 (up2 (up2 (up2 I9 111 (5 * nO T) (nI 11)) 111 (5 * nO T + 1) v2) 111 (5 * nO T + 2) v3) 111 (5 * nO T + 3) v4) 111 (5 * nO T + 4) v5) 104 4 (nI (nO T + 1)))) := ⟨fun n _ => ⟨congrFun (w 112 (by decide) (by decide)) n, congrFun (w 113 (by decide) (by decide)) n, congrFun (w 114 (by decide) (by decide)) n⟩, Nat.le_of_eq (by show ix (I9 104 1) = ix ((up2 (up2 (up2 (up2 (up2 (up2 I9 111 (5 * nO T) (nI 11)) 111 (5 * nO T + 1) v2) 111 (5 * nO T + 2) v3) 111 (5 * nO T + 3) v4) 111 (5 * nO T + 4) v5) 104 4 (nI (nO T + 1))) 104 1); rw [w4 1 (by decide)]), Nat.le_of_eq (by show ix (I9 104 2) = ix ((up2 (up2 (up2 (up2 (up2 (up2 I9 111 (5 * nO T) (nI 11)) 111 (5 * nO T + 1) v2) 111 (5 * nO T + 2) v3) 111 (5 * nO T + 3) v4) 111 (5 * nO T + 4) v5) 104 4 (nI (nO T + 1))) 104 2); rw [w4 2 (by decide)]), Nat.le_of_eq (by show ix (I9 104 3) = ix ((up2 (up2 (up2 (up2 (up2 (up2 I9 111 (5 * nO T) (nI 11)) 111 (5 * nO T + 1) v2) 111 (5 * nO T + 2) v3) 111 (5 * nO T + 3) v4) 111 (5 * nO T + 4) v5) 104 4 (nI (nO T + 1))) 104 3); rw [w4 3 (by decide)])⟩
        have r10 := r9.set (T' := lsT K V wd ca T p) (I' := (up2 (up2 (up2 (up2 (up2 (up2 I9 111 (5 * nO T) (nI 11)) 111 (5 * nO T + 1) v2) 111 (5 * nO T + 2) v3) 111 (5 * nO T + 3) v4) 111 (5 * nO T + 4) v5) 104 4 (nI (nO T + 1)))) hV (fun a a1 a2 => w a (by omega) (by omega)) (w4 12 (by decide)) (by rw [hT]; exact bkw_O r9.2.1 n20) (lsT_nm hnm ⟨hb.1.2.1, hb.1.2.2.1, hb.1.2.2.2.1, hb.1.2.2.2.2.1⟩ M4 (by omega) (by omega) k1)
        refine hQ1 _ q z' hs k1 (by omega) hq r10 (((((((f2.tr f9 (Nat.le_refl _)).l.tr (FRl.up (by omega))).tr (FRl.up (by omega))).tr (FRl.up (by omega))).tr (FRl.up (by omega))).tr (FRl.up (by omega))).tr (FRl.up (by omega))) ⟨fun j hj => (w5 j hj).trans (fo.1 j hj), fo.2.tr nv1 zz⟩ zz (fun hz => ?_)
        have e3' : (up2 (up2 (up2 (up2 (up2 (up2 I9 111 (5 * nO T) (nI 11)) 111 (5 * nO T + 1) v2) 111 (5 * nO T + 2) v3) 111 (5 * nO T + 3) v4) 111 (5 * nO T + 4) v5) 104 4 (nI (nO T + 1))) 111 (5 * nO T + 3) = v4 := by rw [up2_o (by decide), up2_n (by omega), up2_s]
        have e4' : (up2 (up2 (up2 (up2 (up2 (up2 I9 111 (5 * nO T) (nI 11)) 111 (5 * nO T + 1) v2) 111 (5 * nO T + 2) v3) 111 (5 * nO T + 3) v4) 111 (5 * nO T + 4) v5) 104 4 (nI (nO T + 1))) 111 (5 * nO T + 4) = v5 := by rw [up2_o (by decide), up2_s]
        rw [e3', e4']
        obtain ⟨a1, a2, a3⟩ := cl (hN hz).2
        exact ⟨a1.mn nv1 (Nat.le_refl _), fun k => (a2 k).mn nv1 (Nat.le_refl _), a3⟩
    · refine tl_readOrder hP hcN (c9.trans c2) (fun _ => hQ0 _ e (hpl.trans s1) (b9.l f2.l)) (fun _ => hQ0 _ e (hpl.trans s1) ?_) h
      exact (((((((b9.l f2.l).up (by omega)).up (by omega)).up (by omega)).up (by omega)).up (by omega)).up (by omega))
  refine g_aload_0 h dX12_readOrder_0 ?_
  refine g_getP h fl_X12_91 dX12_readOrder_1 rfl rfl (by assumption) ?_
  refine g_getI h fl_X12_266 dX12_readOrder_4 rfl rfl ?_
  rw [h0]
  refine g_bipush h dX12_readOrder_7 (v := nI 20) rfl ?_
  refine g_icmp_ne h 21 dX12_readOrder_9 rfl (fun c9 => ?_) (fun c9 => ?_)
  · refine g_aload_0 h dX12_readOrder_21 ?_
    refine g_dup h dX12_readOrder_22 rfl ?_
    refine g_getI h fl_X12_118 dX12_readOrder_23 rfl rfl ?_
    refine g_iconst h dX12_readOrder_26 (v := nI 1) rfl ?_
    refine g_iadd h dX12_readOrder_27 ?_
    refine g_putI h fp_X12_118 dX12_readOrder_28 rfl rfl ?_
    have n20 : ¬ nO T = 20 := fun q => c9 (by rw [q])
    rw [show I 80 14 + nI 1 = nI (p + 1) by rw [hE.2.1.1]; exact nI_1 p]
    have f1 : FRm z I (up2 I 80 14 (nI (p + 1))) := FRm.at (by decide) (by decide)
    exact go _ _ (hR0.fr (hE.at hpM) f1) (by rw [er_or, if_neg (by simp [n20]), er_nil, Option.none_or, Option.or_none]) f1
  · refine g_aload_0 h dX12_readOrder_12 ?_
    refine g_iconst h dX12_readOrder_13 (v := nI 4) rfl ?_
    refine g_aload_0 h dX12_readOrder_14 ?_
    refine g_getI h fl_X12_118 dX12_readOrder_15 rfl rfl ?_
    rw [hE.2.1.1]
    refine g_cVv2 h rok0 mi_X12_tell dX12_readOrder_18 ml_X12_151 rfl rfl rfl (Nat.le_of_ble_eq_true rfl) (Nat.le_of_ble_eq_true rfl) (sp_tell (by decide) (by omega) hE.2.2.2.2.1 (fun I2 f2 e2 => ?_))
    · refine g_aload_0 h dX12_readOrder_21 ?_
      refine g_dup h dX12_readOrder_22 rfl ?_
      refine g_getI h fl_X12_118 dX12_readOrder_23 rfl rfl ?_
      refine g_iconst h dX12_readOrder_26 (v := nI 1) rfl ?_
      refine g_iadd h dX12_readOrder_27 ?_
      refine g_putI h fp_X12_118 dX12_readOrder_28 rfl rfl ?_
      have e20 : nO T = 20 := eqN (by first | exact c9 | exact Classical.not_not.mp c9) (by omega) (by decide)
      rw [tl_or hx] at e2
      rw [show I2 80 14 + nI 1 = nI (p + 1) by rw [f2 80 14 (by omega), hE.2.1.1]; exact nI_1 p]
      obtain ⟨s1, s2⟩ := hE.mv (I' := up2 I2 80 14 (nI (p + 1))) (fun a j a1 a2 => by
        rw [← f2 a j a2]
        by_cases e : a = 80
        · subst e; exact up2_n (fun q => a1 ⟨rfl, q⟩)
        · exact congrFun (up2_o e) j) ⟨up2_s, by rw [up2_n (by decide), f2 80 16 (by omega)]; exact hE.2.1.2⟩ (e2.at (by decide) (by decide)) (or_lt hx (q := p + 1) (fun w hw => by rw [← Option.some.inj hw]; exact Nat.lt_succ_self p) (by omega)) hpM
      exact go _ _ (hR0.fr s1 s2) (by rw [er_or, if_pos (decide_eq_true e20)]; rfl) s2
set_option maxRecDepth 100000 in
set_option maxHeartbeats 4000000 in
theorem sp_readOrder14 {K wd : Nat → Nat} {V ca : Nat → Int32} {M : Nat} {T : MI} {D p z : Nat} {x : Option (Nat × Nat)} {I : MI} {J : MJ} {P : MP} (hV : vR K V M) (hP : P 80 9 = some 104) (hR : rL K wd V M T I p z x) (hK : K p = 14) {Q : MI → MJ → MP → Prop} (hQ1 : ∀ I' q z', pL K p = sqK K [34] q rtL → K (p + 1) = 28 → p < q → q ≤ M → rL K wd V M (lsT K V wd ca T p) I' q z' (x.or (lerr K V wd T p)) → FRl I I' → FRo T z I I' → z ≤ z' → (x.or (lerr K V wd T p) = none → (I' 111 (5 * nO T + 3)) = -1 ∧ (K (p + 4) = 15 → nd false I' z' (I' 111 (5 * nO T + 4)) (pT K V (mT K wd T) 8 (p + 5)).2.2) ∧ (¬ K (p + 4) = 15 → (I' 111 (5 * nO T + 4)) = -1)) → Q I' J P) (hQ0 : ∀ I' e, pL K p = (false, e) → rD M e I I' → Q I' J P) : Sp yX12_readOrder cX12_readOrder 7 none (D + 4 * 8 + 16) [.ref 80, .int (nI 14)] I J P (Qv Q) := by
  intro Γ h
  show VG Γ 0 0 0 [some (.ref 80), some (.int (nI 14)), none, none, none, none, none] [] _ _ _ _
  have hR0 := hR
  obtain ⟨hE, hb, hnm⟩ := hR
  obtain ⟨M4, K45, hp, hzp, c8⟩ := hE.M4
  have hpM := K_lt2 K45 hp (by omega)
  have hx := hE.2.2.2.2.2.1
  have hcN : nO T ≤ 20 := hb.1.2.2.2.2.2
  have h0 : I 104 4 = nI (nO T) := hb.1.1 4 (by decide)
  have hpl : pL K p = sqK K [28, 12, 28] (p + 1) (whnL K) := by rw [pL, if_neg (by omega), if_neg (by omega), if_neg (by omega), if_neg (by omega), if_neg (by omega), if_pos hK, sqK, if_pos hK]
  have go : ∀ (I2 : MI) (y : Option (Nat × Nat)), rL K wd V M T I2 (p + 1) z y → y = x.or (er [(decide (nO T = 20), 4, p)] none) → FRm z I I2 → VG Γ 0 0 31 [some (.ref 80), some (.int (nI 14)), none, none, none, none, none] [] I2 J P (Fnl Γ (Qv Q)) := by
    intro I2 y r2 ey f2
    have c2 : I2 104 4 = nI (nO T) := r2.2.1.1.1 4 (by decide)
    refine al_order14 (D := D) hP r2 hK h (fun I9 q z' v2 v3 v4 v5 s1 k1 l1 e2 e3 r9 f9 zz cl => ?_) (fun I9 e v2 v3 v4 v5 s1 b9 c9 => ?_)
    · have c9 : I9 104 4 = nI (nO T) := r9.2.1.1.1 4 (by decide)
      have hq := r9.1.M4.2.2.1
      have hs : pL K p = sqK K [34] q rtL := hpl.trans s1
      have hle : lerr K V wd T p = er [(decide (nO T = 20), 4, p)] (fbd K (mT K wd T) (q - (p + 1)) (p + 1)) := by
        rw [lerr, if_neg (show ¬ K p = 0 by omega), if_neg (show ¬ K p = 2 by omega), if_neg (show ¬ K p = 7 by omega), if_neg (show ¬ K p = 9 by omega), hs, sqK]
        by_cases k34 : K q = 34
        · rw [if_pos k34]
          show er _ (fbd K (mT K wd T) (q + 1 - (p + 1)) (p + 1)) = _
          rw [fbd_m (by omega) (by omega)]
        · rw [if_neg k34]
      have eE : y.or (fbd K (mT K wd T) (q - (p + 1)) (p + 1)) = x.or (lerr K V wd T p) := by
        rw [hle, ey]
        simp only [er_or, er_nil, Option.or_none, Option.or_assoc]
      rw [eE] at r9
      have hN : x.or (lerr K V wd T p) = none → nO T < 20 ∧ fbd K (mT K wd T) (q - (p + 1)) (p + 1) = none := by
        intro hz
        obtain ⟨_, hz⟩ := Option.or_eq_none_iff.mp hz
        rw [hle, er_or] at hz
        obtain ⟨h1, h2⟩ := Option.or_eq_none_iff.mp hz
        refine ⟨?_, h2⟩
        by_cases e20 : nO T = 20
        · rw [if_pos (decide_eq_true e20)] at h1
          cases h1
        · omega
      refine tl_readOrder hP hcN c9 (fun e20 => ?_) (fun n20 => ?_) h
      · have hT : lsT K V wd ca T p = T := by rw [lsT, if_neg (show ¬ K p = 0 by omega), if_neg (show ¬ K p = 2 by omega), if_neg (show ¬ K p = 7 by omega), if_neg (show ¬ K p = 9 by omega), if_pos e20]
        exact hQ1 I9 q z' hs k1 (by omega) hq (by rw [hT]; exact r9) (f2.tr f9 (Nat.le_refl _)).l (f2.tr f9 (Nat.le_refl _)).o zz (fun hz => absurd (hN hz).1 (by omega))
      · have hT : lsT K V wd ca T p = ctT (setRow (setRow (setRow (setRow T 7 (upd (upd (upd (T 7) (5 * nO T) (nI 14)) (5 * nO T + 1) v2) (5 * nO T + 2) v3)) 8 (upd (T 8) (nO T) (ca (q1L K p)))) 9 (upd (T 9) (nO T) (ca ((pL K p).2 - 1)))) 10 (upd (T 10) (nO T) (nI p))) 4 (nO T + 1) := by
          rw [lsT, if_neg (show ¬ K p = 0 by omega), if_neg (show ¬ K p = 2 by omega), if_neg (show ¬ K p = 7 by omega), if_neg (show ¬ K p = 9 by omega), if_neg (by omega), hK, e2, e3]
        have w : ∀ a, a ≠ 104 → a ≠ 111 → (up2 (up2 (up2 (up2 (up2 (up2 I9 111 (5 * nO T) (nI 14)) 111 (5 * nO T + 1) v2) 111 (5 * nO T + 2) v3) 111 (5 * nO T + 3) v4) 111 (5 * nO T + 4) v5) 104 4 (nI (nO T + 1))) a = I9 a := fun a a1 a2 => by rw [up2_o (by omega), up2_o (by omega), up2_o (by omega), up2_o (by omega), up2_o (by omega), up2_o (by omega)]
        have w4 : ∀ j, j ≠ 4 → (up2 (up2 (up2 (up2 (up2 (up2 I9 111 (5 * nO T) (nI 14)) 111 (5 * nO T + 1) v2) 111 (5 * nO T + 2) v3) 111 (5 * nO T + 3) v4) 111 (5 * nO T + 4) v5) 104 4 (nI (nO T + 1))) 104 j = I9 104 j := fun j hj => by rw [up2_n hj, up2_o (by decide), up2_o (by decide), up2_o (by decide), up2_o (by decide), up2_o (by decide)]
        have w5 : ∀ j, j < 5 * nO T → (up2 (up2 (up2 (up2 (up2 (up2 I9 111 (5 * nO T) (nI 14)) 111 (5 * nO T + 1) v2) 111 (5 * nO T + 2) v3) 111 (5 * nO T + 3) v4) 111 (5 * nO T + 4) v5) 104 4 (nI (nO T + 1))) 111 j = I9 111 j := fun j hj => by rw [up2_o (by decide), up2_n (by omega), up2_n (by omega), up2_n (by omega), up2_n (by omega), up2_n (by omega)]
        have fo := (f2.tr f9 (Nat.le_refl _)).o (T := T)
        have nv1 : nvR z' (nv I9) (nv (up2 (up2 (up2 (up2 (up2 (up2 I9 111 (5 * nO T) (nI 14)) 111 (5 * nO T + 1) v2) 111 (5 * nO T + 2) v3) 111 (5 * nO T + 3) v4) 111 (5 * nO T + 4) v5) 104 4 (nI (nO T + 1)))) := ⟨fun n _ => ⟨congrFun (w 112 (by decide) (by decide)) n, congrFun (w 113 (by decide) (by decide)) n, congrFun (w 114 (by decide) (by decide)) n⟩, Nat.le_of_eq (by show ix (I9 104 1) = ix ((up2 (up2 (up2 (up2 (up2 (up2 I9 111 (5 * nO T) (nI 14)) 111 (5 * nO T + 1) v2) 111 (5 * nO T + 2) v3) 111 (5 * nO T + 3) v4) 111 (5 * nO T + 4) v5) 104 4 (nI (nO T + 1))) 104 1); rw [w4 1 (by decide)]), Nat.le_of_eq (by show ix (I9 104 2) = ix ((up2 (up2 (up2 (up2 (up2 (up2 I9 111 (5 * nO T) (nI 14)) 111 (5 * nO T + 1) v2) 111 (5 * nO T + 2) v3) 111 (5 * nO T + 3) v4) 111 (5 * nO T + 4) v5) 104 4 (nI (nO T + 1))) 104 2); rw [w4 2 (by decide)]), Nat.le_of_eq (by show ix (I9 104 3) = ix ((up2 (up2 (up2 (up2 (up2 (up2 I9 111 (5 * nO T) (nI 14)) 111 (5 * nO T + 1) v2) 111 (5 * nO T + 2) v3) 111 (5 * nO T + 3) v4) 111 (5 * nO T + 4) v5) 104 4 (nI (nO T + 1))) 104 3); rw [w4 3 (by decide)])⟩
        have r10 := r9.set (T' := lsT K V wd ca T p) (I' := (up2 (up2 (up2 (up2 (up2 (up2 I9 111 (5 * nO T) (nI 14)) 111 (5 * nO T + 1) v2) 111 (5 * nO T + 2) v3) 111 (5 * nO T + 3) v4) 111 (5 * nO T + 4) v5) 104 4 (nI (nO T + 1)))) hV (fun a a1 a2 => w a (by omega) (by omega)) (w4 12 (by decide)) (by rw [hT]; exact bkw_O r9.2.1 n20) (lsT_nm hnm ⟨hb.1.2.1, hb.1.2.2.1, hb.1.2.2.2.1, hb.1.2.2.2.2.1⟩ M4 (by omega) (by omega) k1)
        refine hQ1 _ q z' hs k1 (by omega) hq r10 (((((((f2.tr f9 (Nat.le_refl _)).l.tr (FRl.up (by omega))).tr (FRl.up (by omega))).tr (FRl.up (by omega))).tr (FRl.up (by omega))).tr (FRl.up (by omega))).tr (FRl.up (by omega))) ⟨fun j hj => (w5 j hj).trans (fo.1 j hj), fo.2.tr nv1 zz⟩ zz (fun hz => ?_)
        have e3' : (up2 (up2 (up2 (up2 (up2 (up2 I9 111 (5 * nO T) (nI 14)) 111 (5 * nO T + 1) v2) 111 (5 * nO T + 2) v3) 111 (5 * nO T + 3) v4) 111 (5 * nO T + 4) v5) 104 4 (nI (nO T + 1))) 111 (5 * nO T + 3) = v4 := by rw [up2_o (by decide), up2_n (by omega), up2_s]
        have e4' : (up2 (up2 (up2 (up2 (up2 (up2 I9 111 (5 * nO T) (nI 14)) 111 (5 * nO T + 1) v2) 111 (5 * nO T + 2) v3) 111 (5 * nO T + 3) v4) 111 (5 * nO T + 4) v5) 104 4 (nI (nO T + 1))) 111 (5 * nO T + 4) = v5 := by rw [up2_o (by decide), up2_s]
        rw [e3', e4']
        obtain ⟨a2, a3⟩ := cl.2 (hN hz).2
        exact ⟨cl.1, fun k => (a2 k).mn nv1 (Nat.le_refl _), a3⟩
    · refine tl_readOrder hP hcN (c9.trans c2) (fun _ => hQ0 _ e (hpl.trans s1) (b9.l f2.l)) (fun _ => hQ0 _ e (hpl.trans s1) ?_) h
      exact (((((((b9.l f2.l).up (by omega)).up (by omega)).up (by omega)).up (by omega)).up (by omega)).up (by omega))
  refine g_aload_0 h dX12_readOrder_0 ?_
  refine g_getP h fl_X12_91 dX12_readOrder_1 rfl rfl (by assumption) ?_
  refine g_getI h fl_X12_266 dX12_readOrder_4 rfl rfl ?_
  rw [h0]
  refine g_bipush h dX12_readOrder_7 (v := nI 20) rfl ?_
  refine g_icmp_ne h 21 dX12_readOrder_9 rfl (fun c9 => ?_) (fun c9 => ?_)
  · refine g_aload_0 h dX12_readOrder_21 ?_
    refine g_dup h dX12_readOrder_22 rfl ?_
    refine g_getI h fl_X12_118 dX12_readOrder_23 rfl rfl ?_
    refine g_iconst h dX12_readOrder_26 (v := nI 1) rfl ?_
    refine g_iadd h dX12_readOrder_27 ?_
    refine g_putI h fp_X12_118 dX12_readOrder_28 rfl rfl ?_
    have n20 : ¬ nO T = 20 := fun q => c9 (by rw [q])
    rw [show I 80 14 + nI 1 = nI (p + 1) by rw [hE.2.1.1]; exact nI_1 p]
    have f1 : FRm z I (up2 I 80 14 (nI (p + 1))) := FRm.at (by decide) (by decide)
    exact go _ _ (hR0.fr (hE.at hpM) f1) (by rw [er_or, if_neg (by simp [n20]), er_nil, Option.none_or, Option.or_none]) f1
  · refine g_aload_0 h dX12_readOrder_12 ?_
    refine g_iconst h dX12_readOrder_13 (v := nI 4) rfl ?_
    refine g_aload_0 h dX12_readOrder_14 ?_
    refine g_getI h fl_X12_118 dX12_readOrder_15 rfl rfl ?_
    rw [hE.2.1.1]
    refine g_cVv2 h rok0 mi_X12_tell dX12_readOrder_18 ml_X12_151 rfl rfl rfl (Nat.le_of_ble_eq_true rfl) (Nat.le_of_ble_eq_true rfl) (sp_tell (by decide) (by omega) hE.2.2.2.2.1 (fun I2 f2 e2 => ?_))
    · refine g_aload_0 h dX12_readOrder_21 ?_
      refine g_dup h dX12_readOrder_22 rfl ?_
      refine g_getI h fl_X12_118 dX12_readOrder_23 rfl rfl ?_
      refine g_iconst h dX12_readOrder_26 (v := nI 1) rfl ?_
      refine g_iadd h dX12_readOrder_27 ?_
      refine g_putI h fp_X12_118 dX12_readOrder_28 rfl rfl ?_
      have e20 : nO T = 20 := eqN (by first | exact c9 | exact Classical.not_not.mp c9) (by omega) (by decide)
      rw [tl_or hx] at e2
      rw [show I2 80 14 + nI 1 = nI (p + 1) by rw [f2 80 14 (by omega), hE.2.1.1]; exact nI_1 p]
      obtain ⟨s1, s2⟩ := hE.mv (I' := up2 I2 80 14 (nI (p + 1))) (fun a j a1 a2 => by
        rw [← f2 a j a2]
        by_cases e : a = 80
        · subst e; exact up2_n (fun q => a1 ⟨rfl, q⟩)
        · exact congrFun (up2_o e) j) ⟨up2_s, by rw [up2_n (by decide), f2 80 16 (by omega)]; exact hE.2.1.2⟩ (e2.at (by decide) (by decide)) (or_lt hx (q := p + 1) (fun w hw => by rw [← Option.some.inj hw]; exact Nat.lt_succ_self p) (by omega)) hpM
      exact go _ _ (hR0.fr s1 s2) (by rw [er_or, if_pos (decide_eq_true e20)]; rfl) s2
