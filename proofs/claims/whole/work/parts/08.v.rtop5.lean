/-! The reference's parser: readTop -/
theorem nms_end {K : Nat → Nat} {M : Nat} (hM : 45 ≤ K M) : ∀ f p, p ≤ M → M < p + f → ¬ K (nms K f p) = 28 := by
  intro f
  induction f with
  | zero => intro p h1 h2; omega
  | succ f ih =>
    intro p h1 h2
    rw [nms]
    by_cases q : K p = 28
    · rw [if_pos q]
      have := K_lt hM h1 q (by decide)
      exact ih (p + 1) (by omega) (by omega)
    · rw [if_neg q]; exact q
theorem nms_ge {K : Nat → Nat} : ∀ f p, p ≤ nms K f p := by
  intro f
  induction f with
  | zero => exact fun p => Nat.le_refl _
  | succ f ih =>
    intro p
    rw [nms]
    by_cases q : K p = 28
    · rw [if_pos q]
      have := ih (p + 1)
      omega
    · rw [if_neg q]; exact Nat.le_refl _
set_option maxRecDepth 100000 in
set_option maxHeartbeats 4000000 in
theorem sp_readTop {K wd : Nat → Nat} {V ca : Nat → Int32} {M : Nat} {T : MI} {d p z : Nat} {x : Option (Nat × Nat)} {I : MI} {J : MJ} {P : MP} (hV : vR K V M) (hP : P 80 9 = some 104) (hR : rL K wd V M T I p z x) (hK : K p = 7) {Q : MI → MJ → MP → Prop} (hQ1 : ∀ I' q, pL K p = sqK K [34] q rtL → K (p + 1) = 28 → p < q → q ≤ M → rL K wd V M (lsT K V wd ca T p) I' q z (x.or (lerr K V wd T p)) → FRl I I' → FRo T z I I' → Q I' J P) (hQ0 : ∀ I' e, pL K p = (false, e) → rD M e I I' → Q I' J P) : Sp yX12_readTop cX12_readTop 5 none (d + 5) [.ref 80] I J P (Qv Q) := by
  intro Γ h
  show VG Γ 0 0 0 [some (.ref 80), none, none, none, none] [] _ _ _ _
  have hR0 := hR
  obtain ⟨hE, hb, hnm⟩ := hR
  obtain ⟨M4, K45, hp, hzp, c8⟩ := hE.M4
  have hpM := K_lt2 K45 hp (by omega)
  have hE1 := hE.at hpM
  have hcN : nT T ≤ 6 := hb.1.2.2.2.1
  have h0 : up2 I 80 14 (nI (p + 1)) 104 2 = nI (nT T) := by rw [up2_o (by decide)]; exact hb.1.1 2 (by decide)
  have e9 : up2 I 80 14 (nI (p + 1)) 88 = I 88 := up2_o (by decide)
  have elk : lkW wd (up2 I 80 14 (nI (p + 1)) 88) (nT T) (p + 1) = lkT wd T 2 (p + 1) := by rw [e9]; exact lkW_ext (fun k hk => hb.2.1 2 (by decide) k hk)
  have f1 : FRm z I (up2 I 80 14 (nI (p + 1))) := FRm.at (by decide) (by decide)
  have hpl : pL K p = sqK K [28, 8, 28, 28] (p + 1) (fun q => sqK K [34] (nms K 400 q) rtL) := by rw [pL, if_neg (by omega), if_neg (by omega), if_pos hK, sqK, if_pos hK]
  obtain ⟨g, hg⟩ : ∃ g, nms K 400 (p + 5) = p + 5 + g := ⟨nms K 400 (p + 5) - (p + 5), by have := nms_ge (K := K) 400 (p + 5); omega⟩
  have dead : ∀ (e : Nat) (I5 : MI) (v1 : Int32), rD M e I I5 → e < 401 → I5 104 2 = nI (nT T) → pL K p = (false, e) → VG Γ 0 0 35 [some (.ref 80), some (.int v1), none, none, none] [] I5 J P (Fnl Γ (Qv Q)) := fun e I5 v1 b5 e4 c5 s5 => dd_readTop hP hcN c5 (f := e) (by omega) b5.2.1 (hQ0 _ _ s5 b5) (fun v4 => hQ0 _ _ s5 (((b5.up (by omega)).up (by omega)).up (by omega))) h
  refine g_aload_0 h dX12_readTop_0 ?_
  refine g_dup h dX12_readTop_1 rfl ?_
  refine g_getI h fl_X12_118 dX12_readTop_2 rfl rfl ?_
  refine g_iconst h dX12_readTop_5 (v := nI 1) rfl ?_
  refine g_iadd h dX12_readTop_6 ?_
  refine g_putI h fp_X12_118 dX12_readTop_7 rfl rfl ?_
  rw [show I 80 14 + nI 1 = nI (p + 1) by rw [hE.2.1.1]; exact nI_1 p]
  refine g_aload_0 h dX12_readTop_10 ?_
  refine g_aload_0 h dX12_readTop_11 ?_
  refine g_getC h fl_X12_100 dX12_readTop_12 rfl rfl ?_
  refine g_aload_0 h dX12_readTop_15 ?_
  refine g_getP h fl_X12_91 dX12_readTop_16 rfl rfl (by assumption) ?_
  refine g_getI h fl_X12_164 dX12_readTop_19 rfl rfl ?_
  rw [h0]
  refine g_bipush h dX12_readTop_22 (v := nI 6) rfl ?_
  refine g_cVi3 h rok0 mi_X12_fresh dX12_readTop_24 ml_X12_233 rfl rfl rfl (Nat.le_of_ble_eq_true rfl) (Nat.le_of_ble_eq_true rfl) (sp_fresh rfl (by decide) (by omega) (by decide) (by decide) hE1 (by intro k hk; rw [e9, hb.2.1 2 (by decide) k hk]; exact hnm 2 (by decide) k hk) (fun q1 I2 f2 e2 => ?_) (fun q1 => ?_))
  · have g2 := f1.tr f2 (Nat.le_refl _)
    have m2 := e2.M4.2.2.1
    rw [elk] at e2
    refine g_istore_1 h dX12_readTop_27 (by decide) rfl ?_
    refine g_aload_0 h dX12_readTop_28 ?_
    refine g_iconst h dX12_readTop_29 (v := nI 2) rfl ?_
    refine g_bipush h dX12_readTop_30 (v := nI 8) rfl ?_
    refine g_cVv2 h rok0 mi_X12_take dX12_readTop_32 ml_X12_206 rfl rfl rfl (Nat.le_of_ble_eq_true rfl) (Nat.le_of_ble_eq_true rfl) (sp_take2 (k := 8) (by decide) e2.1 e2.2.1 e2.2.2.1 (fun q2 => ?_) (fun q2 => ?_))
    · have p2M := K_lt K45 m2 q2 (by decide)
      have e3 := e2.at p2M
      have g3 := g2.tr (FRm.at (k := 14) (v := nI (p + 1 + 1 + 1)) (by decide) (by decide)) (Nat.le_refl _)
      have r3 : rL K wd V M T _ (p + 3) z _ := hR0.fr e3 g3
      have hle : p + 3 ≤ M := e3.M4.2.2.1
      refine al_readTop (g := g) hV hP r3 (fun e6 => ?_) (fun k3 k4 => ?_) (fun t t1 t2 => nms_run 400 (p + 5) t t1 (by omega)) (fun n6 k3 k4 I' r' g' a' m' => ?_) (fun e6 k3 k4 I' r' g' => ?_) (fun I' e' he' b' => ?_) h
      · rw [er_or, er_or, if_pos (decide_eq_true e6)]
        cases x with
        | none => cases (if (!decide (lkT wd T 2 (p + 1) = -1)) = true then some (2, p + 1) else none : Option (Nat × Nat)) <;> exact fun q => by cases q
        | some w => exact fun q => by cases q
      · have a1 := K_lt K45 (p := p + 3) (by omega) k3 (by decide)
        have a2 := K_lt K45 (p := p + 4) (by omega) k4 (by decide)
        rw [← hg]
        exact nms_end K45 400 (p + 5) (by omega) (by omega)
      · have hT : lsT K V wd ca T p = ctT (setRow (setRow T 5 (upd (toF (lkT wd T 1) (9 * nT T + 1) (g + 2) (p + 3) (T 5) 0).1 (9 * nT T) (nI (toF (lkT wd T 1) (9 * nT T + 1) (g + 2) (p + 3) (T 5) 0).2))) 13 (upd (T 13) (nT T) (nI (p + 1)))) 2 (nT T + 1) := by
          rw [lsT, if_neg (show ¬ K p = 0 by omega), if_neg (show ¬ K p = 2 by omega), if_pos hK, if_neg (by omega), toT, hg, show p + 5 + g - (p + 3) = g + 2 by omega]
        have eE : (x.or (er [(!decide (lkT wd T 2 (p + 1) = -1), 2, p + 1), (decide (nT T = 6), 4, p + 1)] none)).or (toE (lkT wd T 1) (9 * nT T + 1) (g + 2) (p + 3) (T 5) 0) = x.or (lerr K V wd T p) := by
          rw [lerr, if_neg (show ¬ K p = 0 by omega), if_neg (show ¬ K p = 2 by omega), if_pos hK, hg, show p + 5 + g - (p + 3) = g + 2 by omega]
          simp only [er_or, er_nil, Option.or_none, Option.or_assoc]
        rw [eE] at r'
        have hl := r'.1.M4.2.2.1
        refine hQ1 _ (p + 5 + g) (by rw [hpl]; simp only [sqK, if_pos q1, if_pos q2, if_pos (show K (p + 1 + 1 + 1) = 28 from k3), if_pos (show K (p + 1 + 1 + 1 + 1) = 28 from k4)]; rw [show p + 1 + 1 + 1 + 1 + 1 = p + 5 from rfl, hg]) q1 (by omega) hl (r'.set hV (fun a a1 a2 => by rw [up2_o (by omega), up2_o (by omega), up2_o (by omega)]) (by rw [up2_n (by decide), up2_o (by decide), up2_o (by decide)]) (by rw [hT]; exact bkw_T r'.2.1 n6 m' (fun k hk => toF_lo _ _ _ _ _ hk) a') (lsT_nm hnm ⟨hb.1.2.1, hb.1.2.2.1, hb.1.2.2.2.1, hb.1.2.2.2.2.1⟩ M4 (by omega) (by omega) q1)) (((((g3.l.tr (g'.l (Or.inr rfl))).tr (FRl.up (by omega))).tr (FRl.up (by omega))).tr (FRl.up (by omega)))) ?_
        have w2 : ∀ a, 110 ≤ a → up2 (up2 (up2 I' 109 (9 * nT T) (nI (toF (lkT wd T 1) (9 * nT T + 1) (g + 2) (p + 3) (T 5) 0).2)) 88 (nT T) (nI (p + 1))) 104 2 (nI (nT T + 1)) a = I' a := fun a ha => by rw [up2_o (by omega), up2_o (by omega), up2_o (by omega)]
        have w4 : ∀ j, j ≠ 2 → up2 (up2 (up2 I' 109 (9 * nT T) (nI (toF (lkT wd T 1) (9 * nT T + 1) (g + 2) (p + 3) (T 5) 0).2)) 88 (nT T) (nI (p + 1))) 104 2 (nI (nT T + 1)) 104 j = I' 104 j := fun j hj => by rw [up2_n hj, up2_o (by decide), up2_o (by decide)]
        have c4 : I' 104 2 = nI (nT T) := r'.2.1.1.1 2 (by decide)
        have g4 : ∀ a j, ¬ (a = 80 ∧ 14 ≤ j ∧ j ≤ 18) → ¬ (a = 104 ∧ j = 12) → ¬ (112 ≤ a ∧ a ≤ 114 ∧ z ≤ j) → a ≠ 109 → I' a j = I a j := fun a j b1 b2 b3 b4 => (g' a j b1 b2 b3 b4).trans (g3 a j b1 b2 b3)
        refine ⟨fun j _ => (congrFun (w2 111 (by decide)) j).trans (g4 111 j (by omega) (by omega) (by omega) (by decide)), fun n hn => ⟨(congrFun (w2 112 (by decide)) n).trans (g4 112 n (by omega) (by omega) (by omega) (by decide)), (congrFun (w2 113 (by decide)) n).trans (g4 113 n (by omega) (by omega) (by omega) (by decide)), (congrFun (w2 114 (by decide)) n).trans (g4 114 n (by omega) (by omega) (by omega) (by decide))⟩, ?_, ?_, ?_⟩
        · show ix (I 104 1) ≤ ix (up2 _ 104 2 _ 104 1)
          rw [w4 1 (by decide), g4 104 1 (by omega) (by omega) (by omega) (by decide)]; exact Nat.le_refl _
        · show ix (I 104 2) ≤ ix (up2 _ 104 2 _ 104 2)
          rw [up2_s, show I 104 2 = nI (nT T) from hb.1.1 2 (by decide), ix_n (by omega), ix_n (by omega)]; exact Nat.le_succ _
        · show ix (I 104 3) ≤ ix (up2 _ 104 2 _ 104 3)
          rw [w4 3 (by decide), g4 104 3 (by omega) (by omega) (by omega) (by decide)]; exact Nat.le_refl _
      · have hT : lsT K V wd ca T p = T := by rw [lsT, if_neg (show ¬ K p = 0 by omega), if_neg (show ¬ K p = 2 by omega), if_pos hK, if_pos e6]
        have eE : x.or (er [(!decide (lkT wd T 2 (p + 1) = -1), 2, p + 1), (decide (nT T = 6), 4, p + 1)] none) = x.or (lerr K V wd T p) := by
          rw [lerr, if_neg (show ¬ K p = 0 by omega), if_neg (show ¬ K p = 2 by omega), if_pos hK, er_or, er_or, er_or, er_or, if_pos (decide_eq_true e6)]
          rfl
        rw [eE] at r'
        have hl := r'.1.M4.2.2.1
        have g4 : ∀ a j, ¬ (a = 80 ∧ 14 ≤ j ∧ j ≤ 18) → ¬ (a = 104 ∧ j = 12) → ¬ (112 ≤ a ∧ a ≤ 114 ∧ z ≤ j) → a ≠ 90 → I' a j = I a j := fun a j b1 b2 b3 b4 => (g' a j b1 b2 b3 b4).trans (g3 a j b1 b2 b3)
        have g5 : FRm z (setRow I 90 (I' 90)) I' := fun a j b1 b2 b3 => by
          by_cases e : a = 90
          · subst e; simp [setRow]
          · rw [g4 a j b1 b2 b3 e]; simp [setRow, e]
        exact hQ1 _ (p + 5 + g) (by rw [hpl]; simp only [sqK, if_pos q1, if_pos q2, if_pos (show K (p + 1 + 1 + 1) = 28 from k3), if_pos (show K (p + 1 + 1 + 1 + 1) = 28 from k4)]; rw [show p + 1 + 1 + 1 + 1 + 1 = p + 5 from rfl, hg]) q1 (by omega) hl (by rw [hT]; exact r') (g3.l.tr (g'.l (Or.inl rfl))) (show FRo T z I I' from g5.o)
      · refine hQ0 I' e' ?_ (b'.l g3.l)
        rw [hpl]
        rcases he' with ⟨k3, rfl⟩ | ⟨k3, k4, rfl⟩
        · simp only [sqK, if_pos q1, if_pos q2, if_neg (show ¬ K (p + 1 + 1 + 1) = 28 from k3)]
        · simp only [sqK, if_pos q1, if_pos q2, if_pos (show K (p + 1 + 1 + 1) = 28 from k3), if_neg (show ¬ K (p + 1 + 1 + 1 + 1) = 28 from k4)]
    · exact dead (p + 2) _ _ (rD.new g2.l m2) (by omega) (by rw [up2_o (by decide)]; exact (g2 104 2 (by omega) (by omega) (by omega)).trans (hb.1.1 2 (by decide))) (by rw [hpl]; simp only [sqK, if_pos q1, if_neg q2])
  · refine g_istore_1 h dX12_readTop_27 (by decide) rfl ?_
    refine g_aload_0 h dX12_readTop_28 ?_
    refine g_iconst h dX12_readTop_29 (v := nI 2) rfl ?_
    refine g_bipush h dX12_readTop_30 (v := nI 8) rfl ?_
    refine g_cVv2 h rok0 mi_X12_take dX12_readTop_32 ml_X12_206 rfl rfl rfl (Nat.le_of_ble_eq_true rfl) (Nat.le_of_ble_eq_true rfl) (sp_take_dd (f := p + 1) (by omega) up2_s ?_)
    exact dead (p + 1) _ _ (rD.new f1.l hpM) (by omega) (by rw [up2_o (by decide)]; exact h0) (by rw [hpl]; simp only [sqK, if_neg q1])
