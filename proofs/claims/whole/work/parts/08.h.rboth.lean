/-! The reference's parser: both, one -/
theorem rB.lf {M p p1 z z1 e : Nat} {I I1 I' : MI} (h : rB M I1 p1 z1 e I') (f : FRm z I I1) (hz : z ≤ z1) (hb : z1 + p ≤ z + p1) (hp : p ≤ p1) : rB M I p z e I' := by
  obtain ⟨h1, h2, h3, h4, y, y1, y2, y3⟩ := h
  exact ⟨f.tr h1 hz, h2, by omega, h4, y, y1, by omega, by omega⟩
theorem fbd_k1 {K : Nat → Nat} {mm : Nat → Int32} {p : Nat} (h : ¬ K p = 28) : fbd K mm (p + 1 - p) p = none := by rw [show p + 1 - p = 1 by omega, fbd_1, if_neg (fun q => h q.1)]
theorem fbd_k2 {K : Nat → Nat} {mm : Nat → Int32} {p : Nat} (h : ¬ K p = 28) : fbd K mm (p + 2 - p) p = fbd K mm 1 (p + 1) := by rw [fbd_0 (by omega) h, show p + 2 - (p + 1) = 1 by omega]
theorem fbd_m {K : Nat → Nat} {mm : Nat → Int32} {a b : Nat} (h : a < b) (h1 : ¬ K b = 28) : fbd K mm (b + 1 - a) a = fbd K mm (b - a) a := by
  rw [fbd_2 (show a ≤ b by omega) (show b ≤ b + 1 by omega), fbd_0 (show b < b + 1 by omega) h1, Nat.sub_self, fbd, Option.or_none]
set_option maxRecDepth 100000 in
set_option maxHeartbeats 4000000 in
theorem sp_bothS {K wd : Nat → Nat} {V mm : Nat → Int32} {M : Nat} {D c : Nat} {gs : Nat → PRs} (hG : cE K wd V M mm yX12_sum cX12_sum 3 (D + 8) c true gs) {p z : Nat} {x : Option (Nat × Nat)} {I : MI} {J : MJ} {P : MP} (hP : P 80 9 = some 104) (hE : rE K wd V M mm I (c + 1) p z x) (hK : K p = 26 ∨ K p = 27) (hK1 : K (p + 1) = 30) {Q : Int32 → MI → MJ → MP → Prop} (hS : ∀ I' v z', (cloP K 35 (gs (p + 2))).1 = true → (cloP K 31 (gs (cloP K 35 (gs (p + 2))).2.1)).1 = true → rgE K wd V M mm I (c + 1) p z x (cloP K 31 (gs (cloP K 35 (gs (p + 2))).2.1)).2.1 z' I' → (fbd K mm ((cloP K 31 (gs (cloP K 35 (gs (p + 2))).2.1)).2.1 - p) p = none → nd true I' z' v (joE (K p) (cloP K 35 (gs (p + 2))).2.2 (cloP K 31 (gs (cloP K 35 (gs (p + 2))).2.1)).2.2)) → Q v I' J P) (hF1 : ∀ I' v, (cloP K 35 (gs (p + 2))).1 = false → rB M I p z (cloP K 35 (gs (p + 2))).2.1 I' → Q v I' J P) (hF2 : ∀ I' v, (cloP K 35 (gs (p + 2))).1 = true → (cloP K 31 (gs (cloP K 35 (gs (p + 2))).2.1)).1 = false → rB M I p z (cloP K 31 (gs (cloP K 35 (gs (p + 2))).2.1)).2.1 I' → Q v I' J P) : Sp yX12_both cX12_both 4 (some .int) (D + 9) [.ref 80, .int (nI (K p))] I J P (Qi Q) := by
  intro Γ h
  show VG Γ 0 0 0 [some (.ref 80), some (.int (nI (K p))), none, none] [] _ _ _ _
  obtain ⟨M4, K45, hp, hzp, c8⟩ := hE.M4
  have hpM := K_lt2 K45 hp (by omega)
  have hpM1 := K_lt K45 hpM hK1 (by decide)
  have hE1 := hE.at hpM
  have hE2 := hE1.dp (c' := c) (v := nI (8 - (c + 1) + 1)) (by rw [show 8 - (c + 1) + 1 = 8 - c by omega]) (by omega)
  have hE3 := hE2.at hpM1
  have fz : FRm z I (up2 (up2 (up2 I 80 14 (nI (p + 1))) 80 15 (nI (8 - (c + 1) + 1))) 80 14 (nI (p + 1 + 1))) := ((FRm.at (by decide) (by decide)).tr (FRm.at (by decide) (by decide)) (Nat.le_refl z)).tr (FRm.at (by decide) (by decide)) (Nat.le_refl z)
  refine g_aload_0 h dX12_both_0 ?_
  refine g_dup h dX12_both_1 rfl ?_
  refine g_getI h fl_X12_118 dX12_both_2 rfl rfl ?_
  refine g_iconst h dX12_both_5 (v := nI 1) rfl ?_
  refine g_iadd h dX12_both_6 ?_
  refine g_putI h fp_X12_118 dX12_both_7 rfl rfl ?_
  rw [show I 80 14 + nI 1 = nI (p + 1) by rw [hE.2.1.1]; exact nI_1 p]
  refine g_aload_0 h dX12_both_10 ?_
  refine g_iconst h dX12_both_11 (v := nI 4) rfl ?_
  refine g_bipush h dX12_both_12 (v := nI 40) rfl ?_
  refine g_cVi2 h rok0 mi_X12_is dX12_both_14 ml_X12_125 rfl rfl rfl (Nat.le_of_ble_eq_true rfl) (Nat.le_of_ble_eq_true rfl) (sgC_is (k := 30) rfl (by decide) hE1.1 hE1.2.1 hE1.2.2.1 (fun _ => ?_) (fun q => absurd hK1 q))
  refine g_if_ne h 26 dX12_both_17 rfl (fun _ => ?_) (fun c => absurd c (by decide))
  refine g_aload_0 h dX12_both_26 ?_
  refine g_cVv0 h rok0 mi_X12_deeper dX12_both_27 ml_X12_194 rfl rfl rfl (Nat.le_of_ble_eq_true rfl) (Nat.le_of_ble_eq_true rfl) (sp_deeper (e := 8 - (c + 1)) (by omega) hE1.2.2.2.1.1 ?_)
  refine g_aload_0 h dX12_both_30 ?_
  refine g_dup h dX12_both_31 rfl ?_
  refine g_getI h fl_X12_118 dX12_both_32 rfl rfl ?_
  refine g_iconst h dX12_both_35 (v := nI 1) rfl ?_
  refine g_iadd h dX12_both_36 ?_
  refine g_putI h fp_X12_118 dX12_both_37 rfl rfl ?_
  rw [show up2 (up2 I 80 14 (nI (p + 1))) 80 15 (nI (8 - (c + 1) + 1)) 80 14 + nI 1 = nI (p + 1 + 1) by rw [hE2.2.1.1]; exact nI_1 (p + 1)]
  refine g_aload_0 h dX12_both_40 ?_
  refine g_cVi0 h rok0 mi_X12_sum dX12_both_41 ml_X12_203 rfl rfl rfl (Nat.le_of_ble_eq_true rfl) (Nat.le_of_ble_eq_true rfl) (hG (p + 2) z _ _ J P hP hE3 (fun I4 v4 z4 e2 q4 n4 => ?_) (fun I4 v4 e2 b4 => ?_))
  · obtain ⟨t1, t2, t3, t4, t5⟩ := id q4
    have t6 := t2.M4
    have g1 := fz.tr t1 (Nat.le_refl _)
    refine g_istore_2 h dX12_both_44 (by decide) rfl ?_
    refine g_aload_0 h dX12_both_45 ?_
    refine g_iconst h dX12_both_46 (v := nI 4) rfl ?_
    refine g_bipush h dX12_both_47 (v := nI 44) rfl ?_
    refine g_cVv2 h rok0 mi_X12_take dX12_both_49 ml_X12_206 rfl rfl rfl (Nat.le_of_ble_eq_true rfl) (Nat.le_of_ble_eq_true rfl) (sgC_take (k := 35) rfl (by decide) t2.1 t2.2.1 t2.2.2.1 (fun k2 => ?_) (fun k2 => ?_))
    · have p3M := K_lt K45 t6.2.2.1 k2 (by decide)
      have hv1 : (cloP K 35 (gs (p + 2))) = (true, (gs (p + 2)).2.1 + 1, (gs (p + 2)).2.2) := by rw [cloP, if_pos e2, if_pos k2]
      have hE5 := t2.at p3M
      have g2 := g1.tr (FRm.at (k := 14) (v := nI ((gs (p + 2)).2.1 + 1)) (by decide) (by decide)) t3
      refine g_aload_0 h dX12_both_52 ?_
      refine g_cVi0 h rok0 mi_X12_sum dX12_both_53 ml_X12_203 rfl rfl rfl (Nat.le_of_ble_eq_true rfl) (Nat.le_of_ble_eq_true rfl) (hG ((gs (p + 2)).2.1 + 1) z4 _ _ J P hP hE5 (fun I6 v6 z6 e6 q6 n6 => ?_) (fun I6 v6 e6 b6 => ?_))
      · obtain ⟨u1, u2, u3, u4, u5⟩ := id q6
        have u6 := u2.M4
        have g3 := g2.tr u1 (by omega)
        refine g_istore_3 h dX12_both_56 (by decide) rfl ?_
        refine g_aload_0 h dX12_both_57 ?_
        refine g_iconst h dX12_both_58 (v := nI 4) rfl ?_
        refine g_bipush h dX12_both_59 (v := nI 41) rfl ?_
        refine g_cVv2 h rok0 mi_X12_take dX12_both_61 ml_X12_206 rfl rfl rfl (Nat.le_of_ble_eq_true rfl) (Nat.le_of_ble_eq_true rfl) (sgC_take (k := 31) rfl (by decide) u2.1 u2.2.1 u2.2.2.1 (fun k6 => ?_) (fun k6 => ?_))
        · have p5M := K_lt K45 u6.2.2.1 k6 (by decide)
          have hE7 := (u2.at p5M).dp (c' := c + 1) (v := up2 I6 80 14 (nI ((gs ((gs (p + 2)).2.1 + 1)).2.1 + 1)) 80 15 - nI 1) (by rw [up2_n (by decide), u2.2.2.2.1.1, show 8 - c = 8 - (c + 1) + 1 by omega]; exact nI_sub1 _) c8
          have g4 := (g3.tr (FRm.at (k := 14) (v := nI ((gs ((gs (p + 2)).2.1 + 1)).2.1 + 1)) (by decide) (by decide)) (show z ≤ z6 by omega)).tr (FRm.at (k := 15) (v := up2 I6 80 14 (nI ((gs ((gs (p + 2)).2.1 + 1)).2.1 + 1)) 80 15 - nI 1) (by decide) (by decide)) (show z ≤ z6 by omega)
          refine g_aload_0 h dX12_both_64 ?_
          refine g_dup h dX12_both_65 rfl ?_
          refine g_getI h fl_X12_138 dX12_both_66 rfl rfl ?_
          refine g_iconst h dX12_both_69 (v := nI 1) rfl ?_
          refine g_isub h dX12_both_70 ?_
          refine g_putI h fp_X12_138 dX12_both_71 rfl rfl ?_
          refine g_aload_0 h dX12_both_74 ?_
          refine g_getP h fl_X12_91 dX12_both_75 rfl rfl (by assumption) ?_
          refine g_iload_1 h dX12_both_78 ?_
          refine g_iload_2 h dX12_both_79 ?_
          refine g_iload_3 h dX12_both_80 ?_
          refine g_cVi3 h rok0 mi_X11_node dX12_both_81 ml_X12_173 rfl rfl rfl (Nat.le_of_ble_eq_true rfl) (Nat.le_of_ble_eq_true rfl) (sp_nodeW (z := z6) (by omega) hE7.cnt (fun I9 w9 => ?_))
          refine g_iret h dX12_both_84 ?_
          have hv2 : (cloP K 31 (gs (cloP K 35 (gs (p + 2))).2.1)) = (true, (gs ((gs (p + 2)).2.1 + 1)).2.1 + 1, (gs ((gs (p + 2)).2.1 + 1)).2.2) := by rw [hv1, cloP, if_pos e6, if_pos k6]
          have hE9 := hE7.nw (by omega) w9
          have eF : fbd K mm ((gs ((gs (p + 2)).2.1 + 1)).2.1 + 1 - p) p = (fbd K mm ((gs (p + 2)).2.1 - (p + 2)) (p + 2)).or (fbd K mm ((gs ((gs (p + 2)).2.1 + 1)).2.1 - ((gs (p + 2)).2.1 + 1)) ((gs (p + 2)).2.1 + 1)) := by
            rw [fbd_m (by omega) (by omega), fbd_0 (by omega) (by omega), fbd_0 (show p + 1 < (gs ((gs (p + 2)).2.1 + 1)).2.1 by omega) (by omega), fbd_2 (show p + 1 + 1 ≤ (gs (p + 2)).2.1 by omega) (show (gs (p + 2)).2.1 ≤ (gs ((gs (p + 2)).2.1 + 1)).2.1 by omega), fbd_0 (show (gs (p + 2)).2.1 < (gs ((gs (p + 2)).2.1 + 1)).2.1 by omega) (by omega)]
          refine hS _ _ (z6 + 1) (by rw [hv1]) (by rw [hv2]) (by rw [hv2]; exact ⟨g4.tr w9.1 (by omega), by rw [eF, ← Option.or_assoc]; exact hE9, by omega, by show z6 + 1 + p ≤ z + ((gs ((gs (p + 2)).2.1 + 1)).2.1 + 1); omega, by show p < (gs ((gs (p + 2)).2.1 + 1)).2.1 + 1; omega⟩) (by
            rw [hv2, hv1]
            intro hb
            rw [eF] at hb
            obtain ⟨h1, h2⟩ := Option.or_eq_none_iff.mp hb
            have f6 : FRm z6 I6 I9 := ((FRm.at (by decide) (by decide)).tr (FRm.at (by decide) (by decide)) (Nat.le_refl _)).tr w9.1 (Nat.le_refl _)
            have f4 : FRm z4 I4 I9 := ((FRm.at (by decide) (by decide)).tr u1 (Nat.le_refl _)).tr f6 u3
            exact nd_bin (k := K p) (by rcases hK with q | q <;> rw [q] <;> simp [arK]) ((n4 h1).mv f4 (Nat.le_refl _)) ((n6 h2).mv f6 (Nat.le_refl _)) u3 (Nat.le_refl _) (by omega) w9.2.1 w9.2.2.1 w9.2.2.2.1)
        · have b : rB M I (p + 1) z (gs ((gs (p + 2)).2.1 + 1)).2.1 _ := rB.new g3 u2.cnt (by omega) (by omega) (by omega) u6.2.2.1
          obtain ⟨y, y3, y4⟩ := b.cnt (by omega) M4 (by omega) (by omega)
          have t9 := b.2.2.2.1
          refine g_aload_0 h dX12_both_64 ?_
          refine g_dup h dX12_both_65 rfl ?_
          refine g_getI h fl_X12_138 dX12_both_66 rfl rfl ?_
          refine g_iconst h dX12_both_69 (v := nI 1) rfl ?_
          refine g_isub h dX12_both_70 ?_
          refine g_putI h fp_X12_138 dX12_both_71 rfl rfl ?_
          refine g_aload_0 h dX12_both_74 ?_
          refine g_getP h fl_X12_91 dX12_both_75 rfl rfl (by assumption) ?_
          refine g_iload_1 h dX12_both_78 ?_
          refine g_iload_2 h dX12_both_79 ?_
          refine g_iload_3 h dX12_both_80 ?_
          refine g_cVi3 h rok0 mi_X11_node dX12_both_81 ml_X12_173 rfl rfl rfl (Nat.le_of_ble_eq_true rfl) (Nat.le_of_ble_eq_true rfl) (sp_nodeW (z := y) y4 (by rw [up2_o (by decide)]; exact y3) (fun I9 w9 => ?_))
          refine g_iret h dX12_both_84 ?_
          have hv2 : (cloP K 31 (gs (cloP K 35 (gs (p + 2))).2.1)) = (false, (gs ((gs (p + 2)).2.1 + 1)).2.1, zE) := by rw [hv1, cloP, if_pos e6, if_neg k6]
          have bb := (b.up (Or.inr rfl)).nd (p := p) (Nat.le_refl _) (by rw [up2_o (by decide)]; exact y3) y4 (by omega) w9
          exact hF2 _ _ (by rw [hv1]) (by rw [hv2]) (by rw [hv2]; exact bb)
      · have b : rB M I (p + 1) z (gs ((gs (p + 2)).2.1 + 1)).2.1 _ := b6.lf g2 t3 (by omega) (by omega)
        obtain ⟨y, y3, y4⟩ := b.cnt (by omega) M4 (by omega) (by omega)
        have t9 := b.2.2.2.1
        refine g_istore_3 h dX12_both_56 (by decide) rfl ?_
        refine g_aload_0 h dX12_both_57 ?_
        refine g_iconst h dX12_both_58 (v := nI 4) rfl ?_
        refine g_bipush h dX12_both_59 (v := nI 41) rfl ?_
        refine g_cVv2 h rok0 mi_X12_take dX12_both_61 ml_X12_206 rfl rfl rfl (Nat.le_of_ble_eq_true rfl) (Nat.le_of_ble_eq_true rfl) (sp_take_dd (f := (gs ((gs (p + 2)).2.1 + 1)).2.1) (by omega) b.2.1 ?_)
        refine g_aload_0 h dX12_both_64 ?_
        refine g_dup h dX12_both_65 rfl ?_
        refine g_getI h fl_X12_138 dX12_both_66 rfl rfl ?_
        refine g_iconst h dX12_both_69 (v := nI 1) rfl ?_
        refine g_isub h dX12_both_70 ?_
        refine g_putI h fp_X12_138 dX12_both_71 rfl rfl ?_
        refine g_aload_0 h dX12_both_74 ?_
        refine g_getP h fl_X12_91 dX12_both_75 rfl rfl (by assumption) ?_
        refine g_iload_1 h dX12_both_78 ?_
        refine g_iload_2 h dX12_both_79 ?_
        refine g_iload_3 h dX12_both_80 ?_
        refine g_cVi3 h rok0 mi_X11_node dX12_both_81 ml_X12_173 rfl rfl rfl (Nat.le_of_ble_eq_true rfl) (Nat.le_of_ble_eq_true rfl) (sp_nodeW (z := y) y4 (by rw [up2_o (by decide)]; exact y3) (fun I9 w9 => ?_))
        refine g_iret h dX12_both_84 ?_
        have hv2 : (cloP K 31 (gs (cloP K 35 (gs (p + 2))).2.1)) = (false, (gs ((gs (p + 2)).2.1 + 1)).2.1, zE) := by rw [hv1, cloP, if_neg (by rw [e6]; decide)]
        have bb := (b.up (Or.inr rfl)).nd (p := p) (Nat.le_refl _) (by rw [up2_o (by decide)]; exact y3) y4 (by omega) w9
        exact hF2 _ _ (by rw [hv1]) (by rw [hv2]) (by rw [hv2]; exact bb)
    · have b : rB M I (p + 1) z (gs (p + 2)).2.1 _ := rB.new g1 t2.cnt t3 (by omega) (by omega) t6.2.2.1
      obtain ⟨y, y3, y4⟩ := b.cnt (by omega) M4 (by omega) (by omega)
      have t9 := b.2.2.2.1
      refine g_aload_0 h dX12_both_52 ?_
      refine g_cVi0 h rok0 mi_X12_sum dX12_both_53 ml_X12_203 rfl rfl rfl (Nat.le_of_ble_eq_true rfl) (Nat.le_of_ble_eq_true rfl) (sp_sum_dd (f := (gs (p + 2)).2.1) (by omega) b.2.1 ?_)
      refine g_istore_3 h dX12_both_56 (by decide) rfl ?_
      refine g_aload_0 h dX12_both_57 ?_
      refine g_iconst h dX12_both_58 (v := nI 4) rfl ?_
      refine g_bipush h dX12_both_59 (v := nI 41) rfl ?_
      refine g_cVv2 h rok0 mi_X12_take dX12_both_61 ml_X12_206 rfl rfl rfl (Nat.le_of_ble_eq_true rfl) (Nat.le_of_ble_eq_true rfl) (sp_take_dd (f := (gs (p + 2)).2.1) (by omega) b.2.1 ?_)
      refine g_aload_0 h dX12_both_64 ?_
      refine g_dup h dX12_both_65 rfl ?_
      refine g_getI h fl_X12_138 dX12_both_66 rfl rfl ?_
      refine g_iconst h dX12_both_69 (v := nI 1) rfl ?_
      refine g_isub h dX12_both_70 ?_
      refine g_putI h fp_X12_138 dX12_both_71 rfl rfl ?_
      refine g_aload_0 h dX12_both_74 ?_
      refine g_getP h fl_X12_91 dX12_both_75 rfl rfl (by assumption) ?_
      refine g_iload_1 h dX12_both_78 ?_
      refine g_iload_2 h dX12_both_79 ?_
      refine g_iload_3 h dX12_both_80 ?_
      refine g_cVi3 h rok0 mi_X11_node dX12_both_81 ml_X12_173 rfl rfl rfl (Nat.le_of_ble_eq_true rfl) (Nat.le_of_ble_eq_true rfl) (sp_nodeW (z := y) y4 (by rw [up2_o (by decide)]; exact y3) (fun I9 w9 => ?_))
      refine g_iret h dX12_both_84 ?_
      have hv1 : (cloP K 35 (gs (p + 2))) = (false, (gs (p + 2)).2.1, zE) := by rw [cloP, if_pos e2, if_neg k2]
      have bb := (b.up (Or.inr rfl)).nd (p := p) (Nat.le_refl _) (by rw [up2_o (by decide)]; exact y3) y4 (by omega) w9
      exact hF1 _ _ (by rw [hv1]) (by rw [hv1]; exact bb)
  · have b : rB M I (p + 1) z (gs (p + 2)).2.1 _ := b4.wk fz (by omega)
    obtain ⟨y, y3, y4⟩ := b.cnt (by omega) M4 (by omega) (by omega)
    have t9 := b.2.2.2.1
    refine g_istore_2 h dX12_both_44 (by decide) rfl ?_
    refine g_aload_0 h dX12_both_45 ?_
    refine g_iconst h dX12_both_46 (v := nI 4) rfl ?_
    refine g_bipush h dX12_both_47 (v := nI 44) rfl ?_
    refine g_cVv2 h rok0 mi_X12_take dX12_both_49 ml_X12_206 rfl rfl rfl (Nat.le_of_ble_eq_true rfl) (Nat.le_of_ble_eq_true rfl) (sp_take_dd (f := (gs (p + 2)).2.1) (by omega) b.2.1 ?_)
    refine g_aload_0 h dX12_both_52 ?_
    refine g_cVi0 h rok0 mi_X12_sum dX12_both_53 ml_X12_203 rfl rfl rfl (Nat.le_of_ble_eq_true rfl) (Nat.le_of_ble_eq_true rfl) (sp_sum_dd (f := (gs (p + 2)).2.1) (by omega) b.2.1 ?_)
    refine g_istore_3 h dX12_both_56 (by decide) rfl ?_
    refine g_aload_0 h dX12_both_57 ?_
    refine g_iconst h dX12_both_58 (v := nI 4) rfl ?_
    refine g_bipush h dX12_both_59 (v := nI 41) rfl ?_
    refine g_cVv2 h rok0 mi_X12_take dX12_both_61 ml_X12_206 rfl rfl rfl (Nat.le_of_ble_eq_true rfl) (Nat.le_of_ble_eq_true rfl) (sp_take_dd (f := (gs (p + 2)).2.1) (by omega) b.2.1 ?_)
    refine g_aload_0 h dX12_both_64 ?_
    refine g_dup h dX12_both_65 rfl ?_
    refine g_getI h fl_X12_138 dX12_both_66 rfl rfl ?_
    refine g_iconst h dX12_both_69 (v := nI 1) rfl ?_
    refine g_isub h dX12_both_70 ?_
    refine g_putI h fp_X12_138 dX12_both_71 rfl rfl ?_
    refine g_aload_0 h dX12_both_74 ?_
    refine g_getP h fl_X12_91 dX12_both_75 rfl rfl (by assumption) ?_
    refine g_iload_1 h dX12_both_78 ?_
    refine g_iload_2 h dX12_both_79 ?_
    refine g_iload_3 h dX12_both_80 ?_
    refine g_cVi3 h rok0 mi_X11_node dX12_both_81 ml_X12_173 rfl rfl rfl (Nat.le_of_ble_eq_true rfl) (Nat.le_of_ble_eq_true rfl) (sp_nodeW (z := y) y4 (by rw [up2_o (by decide)]; exact y3) (fun I9 w9 => ?_))
    refine g_iret h dX12_both_84 ?_
    have hv1 : (cloP K 35 (gs (p + 2))) = (false, (gs (p + 2)).2.1, zE) := by rw [cloP, if_neg (by rw [e2]; decide)]
    have bb := (b.up (Or.inr rfl)).nd (p := p) (Nat.le_refl _) (by rw [up2_o (by decide)]; exact y3) y4 (by omega) w9
    exact hF1 _ _ (by rw [hv1]) (by rw [hv1]; exact bb)
set_option maxRecDepth 100000 in
set_option maxHeartbeats 4000000 in
theorem sp_both0 {K wd : Nat → Nat} {V mm : Nat → Int32} {M : Nat} {D : Nat} {p z : Nat} {x : Option (Nat × Nat)} {I : MI} {J : MJ} {P : MP} (hP : P 80 9 = some 104) (hE : rE K wd V M mm I 0 p z x) {w : Int32} (hK : K p = 26 ∨ K p = 27) (hK1 : K (p + 1) = 30) {Q : Int32 → MI → MJ → MP → Prop} (hF : ∀ I' v, rB M I p z (p + 1) I' → Q v I' J P) : Sp yX12_both cX12_both 4 (some .int) (D + 9) [.ref 80, .int w] I J P (Qi Q) := by
  intro Γ h
  show VG Γ 0 0 0 [some (.ref 80), some (.int w), none, none] [] _ _ _ _
  obtain ⟨M4, K45, hp, hzp, c8⟩ := hE.M4
  have hpM := K_lt2 K45 hp (by omega)
  have hpM1 := K_lt K45 hpM hK1 (by decide)
  have hE1 := hE.at hpM
  have b0 : rB M I (p + 1) z (p + 1) (up2 (up2 I 80 14 (nI (p + 1))) 80 16 (nI (p + 1))) := rB.new (FRm.at (by decide) (by decide)) hE1.cnt (Nat.le_refl _) (by omega) (Nat.le_refl _) hpM
  have b1 := b0.up (k := 15) (v := nI 9) (Or.inr rfl)
  have b := b1.up (k := 14) (v := up2 (up2 (up2 I 80 14 (nI (p + 1))) 80 16 (nI (p + 1))) 80 15 (nI 9) 80 14 + nI 1) (Or.inl rfl)
  obtain ⟨y, y3, y4⟩ := b.cnt (by omega) M4 (by omega) (by omega)
  refine g_aload_0 h dX12_both_0 ?_
  refine g_dup h dX12_both_1 rfl ?_
  refine g_getI h fl_X12_118 dX12_both_2 rfl rfl ?_
  refine g_iconst h dX12_both_5 (v := nI 1) rfl ?_
  refine g_iadd h dX12_both_6 ?_
  refine g_putI h fp_X12_118 dX12_both_7 rfl rfl ?_
  rw [show I 80 14 + nI 1 = nI (p + 1) by rw [hE.2.1.1]; exact nI_1 p]
  refine g_aload_0 h dX12_both_10 ?_
  refine g_iconst h dX12_both_11 (v := nI 4) rfl ?_
  refine g_bipush h dX12_both_12 (v := nI 40) rfl ?_
  refine g_cVi2 h rok0 mi_X12_is dX12_both_14 ml_X12_125 rfl rfl rfl (Nat.le_of_ble_eq_true rfl) (Nat.le_of_ble_eq_true rfl) (sgC_is (k := 30) rfl (by decide) hE1.1 hE1.2.1 hE1.2.2.1 (fun _ => ?_) (fun q => absurd hK1 q))
  refine g_if_ne h 26 dX12_both_17 rfl (fun _ => ?_) (fun c => absurd c (by decide))
  refine g_aload_0 h dX12_both_26 ?_
  refine g_cVv0 h rok0 mi_X12_deeper dX12_both_27 ml_X12_194 rfl rfl rfl (Nat.le_of_ble_eq_true rfl) (Nat.le_of_ble_eq_true rfl) (sp_deeper8 hE1.2.1 hE1.2.2.2.1.1 ?_)
  refine g_aload_0 h dX12_both_30 ?_
  refine g_dup h dX12_both_31 rfl ?_
  refine g_getI h fl_X12_118 dX12_both_32 rfl rfl ?_
  refine g_iconst h dX12_both_35 (v := nI 1) rfl ?_
  refine g_iadd h dX12_both_36 ?_
  refine g_putI h fp_X12_118 dX12_both_37 rfl rfl ?_
  refine g_aload_0 h dX12_both_40 ?_
  refine g_cVi0 h rok0 mi_X12_sum dX12_both_41 ml_X12_203 rfl rfl rfl (Nat.le_of_ble_eq_true rfl) (Nat.le_of_ble_eq_true rfl) (sp_sum_dd (f := p + 1) (by omega) b.2.1 ?_)
  refine g_istore_2 h dX12_both_44 (by decide) rfl ?_
  refine g_aload_0 h dX12_both_45 ?_
  refine g_iconst h dX12_both_46 (v := nI 4) rfl ?_
  refine g_bipush h dX12_both_47 (v := nI 44) rfl ?_
  refine g_cVv2 h rok0 mi_X12_take dX12_both_49 ml_X12_206 rfl rfl rfl (Nat.le_of_ble_eq_true rfl) (Nat.le_of_ble_eq_true rfl) (sp_take_dd (f := p + 1) (by omega) b.2.1 ?_)
  refine g_aload_0 h dX12_both_52 ?_
  refine g_cVi0 h rok0 mi_X12_sum dX12_both_53 ml_X12_203 rfl rfl rfl (Nat.le_of_ble_eq_true rfl) (Nat.le_of_ble_eq_true rfl) (sp_sum_dd (f := p + 1) (by omega) b.2.1 ?_)
  refine g_istore_3 h dX12_both_56 (by decide) rfl ?_
  refine g_aload_0 h dX12_both_57 ?_
  refine g_iconst h dX12_both_58 (v := nI 4) rfl ?_
  refine g_bipush h dX12_both_59 (v := nI 41) rfl ?_
  refine g_cVv2 h rok0 mi_X12_take dX12_both_61 ml_X12_206 rfl rfl rfl (Nat.le_of_ble_eq_true rfl) (Nat.le_of_ble_eq_true rfl) (sp_take_dd (f := p + 1) (by omega) b.2.1 ?_)
  refine g_aload_0 h dX12_both_64 ?_
  refine g_dup h dX12_both_65 rfl ?_
  refine g_getI h fl_X12_138 dX12_both_66 rfl rfl ?_
  refine g_iconst h dX12_both_69 (v := nI 1) rfl ?_
  refine g_isub h dX12_both_70 ?_
  refine g_putI h fp_X12_138 dX12_both_71 rfl rfl ?_
  refine g_aload_0 h dX12_both_74 ?_
  refine g_getP h fl_X12_91 dX12_both_75 rfl rfl (by assumption) ?_
  refine g_iload_1 h dX12_both_78 ?_
  refine g_iload_2 h dX12_both_79 ?_
  refine g_iload_3 h dX12_both_80 ?_
  refine g_cVi3 h rok0 mi_X11_node dX12_both_81 ml_X12_173 rfl rfl rfl (Nat.le_of_ble_eq_true rfl) (Nat.le_of_ble_eq_true rfl) (sp_nodeW (z := y) y4 (by rw [up2_o (by decide)]; exact y3) (fun I9 w9 => ?_))
  refine g_iret h dX12_both_84 ?_
  exact hF _ _ ((b.up (Or.inr rfl)).nd (p := p) (Nat.le_refl _) (by rw [up2_o (by decide)]; exact y3) y4 (by omega) w9)
set_option maxRecDepth 100000 in
set_option maxHeartbeats 4000000 in
theorem sp_bothN {K wd : Nat → Nat} {V mm : Nat → Int32} {M : Nat} {D c : Nat} {p z : Nat} {x : Option (Nat × Nat)} {I : MI} {J : MJ} {P : MP} (hE : rE K wd V M mm I c p z x) {w : Int32} (hK : K p = 26 ∨ K p = 27) (hK1 : ¬ K (p + 1) = 30) {Q : Int32 → MI → MJ → MP → Prop} (hF : ∀ I' v, rB M I p z (p + 1) I' → Q v I' J P) : Sp yX12_both cX12_both 4 (some .int) (D + 9) [.ref 80, .int w] I J P (Qi Q) := by
  intro Γ h
  show VG Γ 0 0 0 [some (.ref 80), some (.int w), none, none] [] _ _ _ _
  obtain ⟨M4, K45, hp, hzp, c8⟩ := hE.M4
  have hpM := K_lt2 K45 hp (by omega)
  have hE1 := hE.at hpM
  refine g_aload_0 h dX12_both_0 ?_
  refine g_dup h dX12_both_1 rfl ?_
  refine g_getI h fl_X12_118 dX12_both_2 rfl rfl ?_
  refine g_iconst h dX12_both_5 (v := nI 1) rfl ?_
  refine g_iadd h dX12_both_6 ?_
  refine g_putI h fp_X12_118 dX12_both_7 rfl rfl ?_
  rw [show I 80 14 + nI 1 = nI (p + 1) by rw [hE.2.1.1]; exact nI_1 p]
  refine g_aload_0 h dX12_both_10 ?_
  refine g_iconst h dX12_both_11 (v := nI 4) rfl ?_
  refine g_bipush h dX12_both_12 (v := nI 40) rfl ?_
  refine g_cVi2 h rok0 mi_X12_is dX12_both_14 ml_X12_125 rfl rfl rfl (Nat.le_of_ble_eq_true rfl) (Nat.le_of_ble_eq_true rfl) (sgC_is (k := 30) rfl (by decide) hE1.1 hE1.2.1 hE1.2.2.1 (fun q => absurd q hK1) (fun _ => ?_))
  refine g_if_ne h 26 dX12_both_17 rfl (fun c => absurd c (by decide)) (fun _ => ?_)
  refine g_aload_0 h dX12_both_20 ?_
  refine g_cVv0 h rok0 mi_X12_fail dX12_both_21 ml_X12_129 rfl rfl rfl (Nat.le_of_ble_eq_true rfl) (Nat.le_of_ble_eq_true rfl) (sp_fail_al hE1.2.1 ?_)
  refine g_iconst h dX12_both_24 (v := nI 0) rfl ?_
  refine g_iret h dX12_both_25 ?_
  exact hF _ _ (rB.new (FRm.at (by decide) (by decide)) hE1.cnt (Nat.le_refl _) (by omega) (by omega) hpM)
