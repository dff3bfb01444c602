/-! The reference's parser: readOrder, what stands behind its word -/
theorem fbd_k {K wd : Nat → Nat} {T : MI} {t e i : Nat} (h : t < e) (h1 : K t = 28) (hi : tbI (K (t - 1)) = i) : fbd K (mT K wd T) (e - t) t = (if lkT wd T i t = -1 then some (3, t) else none).or (fbd K (mT K wd T) (e - (t + 1)) (t + 1)) := by
  rw [fbd_s h, mT, hi]
  by_cases q : lkT wd T i t = -1
  · rw [if_pos ⟨h1, q⟩, if_pos q]; rfl
  · rw [if_neg (fun w => q w.2), if_neg q]; rfl
set_option maxRecDepth 100000 in
set_option maxHeartbeats 4000000 in
theorem al_order11 {Γ : Cx} {K wd : Nat → Nat} {V : Nat → Int32} {M : Nat} {T : MI} {D p z : Nat} {y : Option (Nat × Nat)} {I : MI} {J : MJ} {P : MP} (hP : P 80 9 = some 104) (hR : rL K wd V M T I (p + 1) z y) (hK : K p = 11) {Q : MI → MJ → MP → Prop} (h : Vc RX12 cX12_readOrder 7 none (D + 4 * 8 + 16) Γ) (κ1 : ∀ I' q z' v2 v3 v4 v5, sqK K [28, 12, 28, 13] (p + 1) (tieL K) = sqK K [34] q rtL → K (p + 1) = 28 → p + 1 < q → v2 = (mT K wd T) (p + 1) → v3 = (mT K wd T) (p + 3) → rL K wd V M T I' q z' (y.or (fbd K (mT K wd T) (q - (p + 1)) (p + 1))) → FRm z I I' → z ≤ z' → (fbd K (mT K wd T) (q - (p + 1)) (p + 1) = none → nd true I' z' v4 (pS K V (mT K wd T) 8 (p + 5)).2.2 ∧ (K (pS K V (mT K wd T) 8 (p + 5)).2.1 = 15 → nd false I' z' v5 (pT K V (mT K wd T) 8 ((pS K V (mT K wd T) 8 (p + 5)).2.1 + 1)).2.2) ∧ (¬ K (pS K V (mT K wd T) 8 (p + 5)).2.1 = 15 → v5 = -1)) → VG Γ 0 0 112 [some (.ref 80), some (.int (nI 11)), some (.int v2), some (.int v3), some (.int v4), some (.int v5), none] [] I' J P (Fnl Γ (Qv Q))) (κ0 : ∀ I' e v2 v3 v4 v5, sqK K [28, 12, 28, 13] (p + 1) (tieL K) = (false, e) → rD M e I I' → I' 104 4 = I 104 4 → VG Γ 0 0 112 [some (.ref 80), some (.int (nI 11)), some (.int v2), some (.int v3), some (.int v4), some (.int v5), none] [] I' J P (Fnl Γ (Qv Q))) : VG Γ 0 0 31 [some (.ref 80), some (.int (nI 11)), none, none, none, none, none] [] I J P (Fnl Γ (Qv Q)) := by
  have hM := hR.1.M4
  have ti1 : tbI (K (p + 1 - 1)) = 1 := by rw [Nat.add_sub_cancel, hK]; rfl
  refine g_iload_1 h dX12_readOrder_31 ?_
  refine g_bipush h dX12_readOrder_32 (v := nI 11) rfl ?_
  refine g_icmp_ne h 44 dX12_readOrder_34 rfl (fun c => absurd c (by decide)) (fun _ => ?_)
  refine g_aload_0 h dX12_readOrder_37 ?_
  refine g_cVi0 h rok0 mi_X12_knownCord dX12_readOrder_38 ml_X12_185 rfl rfl rfl (Nat.le_of_ble_eq_true rfl) (Nat.le_of_ble_eq_true rfl) (sp_knCord hP hR (fun k1 I2 f2 r2 => ?_) (fun k1 => ?_))
  · have m2 := r2.1.M4.2.2.1
    refine g_goto h 48 dX12_readOrder_41 rfl ?_
    refine g_istore_2 h dX12_readOrder_48 (by decide) rfl ?_
    refine g_aload_0 h dX12_readOrder_49 ?_
    refine g_iconst h dX12_readOrder_50 (v := nI 2) rfl ?_
    refine g_bipush h dX12_readOrder_51 (v := nI 12) rfl ?_
    refine g_cVv2 h rok0 mi_X12_take dX12_readOrder_53 ml_X12_206 rfl rfl rfl (Nat.le_of_ble_eq_true rfl) (Nat.le_of_ble_eq_true rfl) (sp_take2 (k := 12) (by decide) r2.1.1 r2.1.2.1 r2.1.2.2.1 (fun k2 => ?_) (fun k2 => ?_))
    · have p2M := K_lt hM.2.1 m2 k2 (by decide)
      have f3 := f2.tr (FRm.at (k := 14) (v := nI (p + 1 + 1 + 1)) (by decide) (by decide)) (Nat.le_refl _)
      have r3 := r2.fr (r2.1.at p2M) (FRm.at (by decide) (by decide))
      have m3 := r3.1.M4.2.2.1
      refine g_aload_0 h dX12_readOrder_56 ?_
      refine g_cVi0 h rok0 mi_X12_knownKeeper dX12_readOrder_57 ml_X12_191 rfl rfl rfl (Nat.le_of_ble_eq_true rfl) (Nat.le_of_ble_eq_true rfl) (sp_knKeeper hP r3 (fun k3 I4 f4 r4 => ?_) (fun k3 => ?_))
      · have f4 := f3.tr f4 (Nat.le_refl _)
        have m4 := r4.1.M4.2.2.1
        refine g_istore_3 h dX12_readOrder_60 (by decide) rfl ?_
        refine g_iconst h dX12_readOrder_61 (v := (-1)) rfl ?_
        refine g_istore_4 h dX12_readOrder_62 (by decide) rfl ?_
        refine g_iload_1 h dX12_readOrder_64 ?_
        refine g_bipush h dX12_readOrder_65 (v := nI 11) rfl ?_
        refine g_icmp_ne h 83 dX12_readOrder_67 rfl (fun c => absurd c (by decide)) (fun _ => ?_)
        refine g_aload_0 h dX12_readOrder_70 ?_
        refine g_iconst h dX12_readOrder_71 (v := nI 2) rfl ?_
        refine g_bipush h dX12_readOrder_72 (v := nI 13) rfl ?_
        refine g_cVv2 h rok0 mi_X12_take dX12_readOrder_74 ml_X12_206 rfl rfl rfl (Nat.le_of_ble_eq_true rfl) (Nat.le_of_ble_eq_true rfl) (sp_take2 (k := 13) (by decide) r4.1.1 r4.1.2.1 r4.1.2.2.1 (fun k4 => ?_) (fun k4 => ?_))
        · have p4M := K_lt hM.2.1 m4 k4 (by decide)
          have f5 := f4.tr (FRm.at (k := 14) (v := nI (p + 1 + 1 + 1 + 1 + 1)) (by decide) (by decide)) (Nat.le_refl _)
          have r5 := r4.fr (r4.1.at p4M) (FRm.at (by decide) (by decide))
          refine g_aload_0 h dX12_readOrder_77 ?_
          refine g_cVi0 h rok0 mi_X12_sum dX12_readOrder_78 ml_X12_203 rfl rfl rfl (Nat.le_of_ble_eq_true rfl) (Nat.le_of_ble_eq_true rfl) (cE_sumV 8 (D + 3) (p + 5) z _ _ J P hP r5.1 (fun I5 v5 z5 e5 q5 n5 => ?_) (fun I5 v5 e5 b5 => ?_))
          · refine g_istore_4 h dX12_readOrder_81 (by decide) rfl ?_
            have ev := pS_eqv (K := K) (V := v0) (m := v0) (V' := V) (m' := mT K wd T) 8 (p + 5)
            have r6 : rL K wd V M T I5 (pS K V (mT K wd T) 8 (p + 5)).2.1 z5 _ := r5.fr q5.2.1 q5.1
            have gg := f5.tr q5.1 (Nat.le_refl _)
            have l5 := q5.2.2.2.2
            have y5 := q5.2.2.1
            refine wh_order (T := T) (q := (pS K V (mT K wd T) 8 (p + 5)).2.1) hP r6 h (fun I9 q9 z9 v9 w9 l9 r9 g9 y9 n9 o9 => ?_) (fun I9 e9 v9 w9 b9 c9 => ?_)
            · have hsq : sqK K [28, 12, 28, 13] (p + 1) (tieL K) = sqK K [34] q9 rtL := by
                simp only [sqK, if_pos k1, if_pos k2, if_pos (show K (p + 1 + 1 + 1) = 28 from k3), if_pos (show K (p + 1 + 1 + 1 + 1) = 13 from k4)]
                rw [tieL, show p + 1 + 1 + 1 + 1 + 1 = p + 5 from rfl, ev.1, ev.2, if_pos e5, w9]
                rfl
              have eF : fbd K (mT K wd T) (q9 - (p + 1)) (p + 1) = (if lkT wd T 1 (p + 1) = -1 then some (3, p + 1) else none).or ((if lkT wd T 3 (p + 3) = -1 then some (3, p + 3) else none).or ((fbd K (mT K wd T) ((pS K V (mT K wd T) 8 (p + 5)).2.1 - (p + 5)) (p + 5)).or (fbd K (mT K wd T) (q9 - (pS K V (mT K wd T) 8 (p + 5)).2.1) (pS K V (mT K wd T) 8 (p + 5)).2.1))) := by
                rw [fbd_k (i := 1) (by omega) k1 ti1, fbd_0 (t := p + 1 + 1) (by omega) (by omega), fbd_k (t := p + 1 + 1 + 1) (i := 3) (by omega) k3 (by rw [show p + 1 + 1 + 1 - 1 = p + 2 by omega, show K (p + 2) = 12 from k2]; rfl), fbd_0 (t := p + 1 + 1 + 1 + 1) (by omega) (by omega), fbd_2 (a := p + 5) (b := (pS K V (mT K wd T) 8 (p + 5)).2.1) (c := q9) (by omega) l9]
              refine κ1 I9 q9 z9 _ _ _ _ hsq k1 (by omega) (by rw [mT, ti1]) (by rw [mT, show p + 3 - 1 = p + 2 by omega, show K (p + 2) = 12 from k2]; rfl) ?_ (gg.tr g9 y5) (Nat.le_trans y5 y9) (fun hb => ?_)
              · rw [eF]
                simp only [← Option.or_assoc]
                exact r9
              · rw [eF] at hb
                obtain ⟨_, hb⟩ := Option.or_eq_none_iff.mp hb
                obtain ⟨_, hb⟩ := Option.or_eq_none_iff.mp hb
                obtain ⟨h1, h2⟩ := Option.or_eq_none_iff.mp hb
                exact ⟨(n5 h1).mv g9 y9, n9 h2, o9⟩
            · refine κ0 I9 e9 _ _ _ _ ?_ (b9.l gg.l) (c9.trans (gg 104 4 (by omega) (by omega) (by omega)))
              simp only [sqK, if_pos k1, if_pos k2, if_pos (show K (p + 1 + 1 + 1) = 28 from k3), if_pos (show K (p + 1 + 1 + 1 + 1) = 13 from k4)]
              rw [tieL, show p + 1 + 1 + 1 + 1 + 1 = p + 5 from rfl, ev.1, ev.2, if_pos e5, w9]
          · have f6 := f5.tr b5.1 (Nat.le_refl _)
            have b9 : rD M (pS K V (mT K wd T) 8 (p + 5)).2.1 I I5 := ⟨f6.l, b5.2.1, b5.2.2.2.1⟩
            have m9 := b9.2.2
            refine g_istore_4 h dX12_readOrder_81 (by decide) rfl ?_
            refine g_iconst h dX12_readOrder_83 (v := (-1)) rfl ?_
            refine g_istore_5 h dX12_readOrder_84 (by decide) rfl ?_
            refine g_aload_0 h dX12_readOrder_86 ?_
            refine g_iconst h dX12_readOrder_87 (v := nI 2) rfl ?_
            refine g_bipush h dX12_readOrder_88 (v := nI 15) rfl ?_
            refine g_cVi2 h rok0 mi_X12_is dX12_readOrder_90 ml_X12_125 rfl rfl rfl (Nat.le_of_ble_eq_true rfl) (Nat.le_of_ble_eq_true rfl) (sp_is_dd (f := (pS K V (mT K wd T) 8 (p + 5)).2.1) (by omega) b9.2.1 ?_)
            refine g_if_eq h 112 dX12_readOrder_93 rfl (fun _ => ?_) (fun c => absurd c (by decide))
            have ev := pS_eqv (K := K) (V := v0) (m := v0) (V' := V) (m' := mT K wd T) 8 (p + 5)
            refine κ0 _ _ _ _ _ _ ?_ b9 (f6 104 4 (by omega) (by omega) (by omega))
            simp only [sqK, if_pos k1, if_pos k2, if_pos (show K (p + 1 + 1 + 1) = 28 from k3), if_pos (show K (p + 1 + 1 + 1 + 1) = 13 from k4)]
            rw [tieL, show p + 1 + 1 + 1 + 1 + 1 = p + 5 from rfl, ev.1, ev.2, if_neg (by rw [e5]; decide)]
        · have b9 : rD M (p + 4) I (up2 _ 80 16 (nI (p + 4))) := rD.new (f4).l (by omega)
          refine g_aload_0 h dX12_readOrder_77 ?_
          refine g_cVi0 h rok0 mi_X12_sum dX12_readOrder_78 ml_X12_203 rfl rfl rfl (Nat.le_of_ble_eq_true rfl) (Nat.le_of_ble_eq_true rfl) (sp_sum_dd (f := p + 4) (by omega) b9.2.1 ?_)
          refine g_istore_4 h dX12_readOrder_81 (by decide) rfl ?_
          refine g_iconst h dX12_readOrder_83 (v := (-1)) rfl ?_
          refine g_istore_5 h dX12_readOrder_84 (by decide) rfl ?_
          refine g_aload_0 h dX12_readOrder_86 ?_
          refine g_iconst h dX12_readOrder_87 (v := nI 2) rfl ?_
          refine g_bipush h dX12_readOrder_88 (v := nI 15) rfl ?_
          refine g_cVi2 h rok0 mi_X12_is dX12_readOrder_90 ml_X12_125 rfl rfl rfl (Nat.le_of_ble_eq_true rfl) (Nat.le_of_ble_eq_true rfl) (sp_is_dd (f := p + 4) (by omega) b9.2.1 ?_)
          refine g_if_eq h 112 dX12_readOrder_93 rfl (fun _ => ?_) (fun c => absurd c (by decide))
          exact κ0 _ (p + 4) _ _ _ _ (by simp only [sqK, if_pos k1, if_pos k2, if_pos (show K (p + 1 + 1 + 1) = 28 from k3), if_neg (show ¬ K (p + 1 + 1 + 1 + 1) = 13 from k4)]) b9 ((congrFun (up2_o (by decide)) 4).trans ((f4) 104 4 (by omega) (by omega) (by omega)))
      · have b9 : rD M (p + 3) I (up2 _ 80 16 (nI (p + 3))) := rD.new (f3).l (by omega)
        refine g_istore_3 h dX12_readOrder_60 (by decide) rfl ?_
        refine g_iconst h dX12_readOrder_61 (v := (-1)) rfl ?_
        refine g_istore_4 h dX12_readOrder_62 (by decide) rfl ?_
        refine g_iload_1 h dX12_readOrder_64 ?_
        refine g_bipush h dX12_readOrder_65 (v := nI 11) rfl ?_
        refine g_icmp_ne h 83 dX12_readOrder_67 rfl (fun c => absurd c (by decide)) (fun _ => ?_)
        refine g_aload_0 h dX12_readOrder_70 ?_
        refine g_iconst h dX12_readOrder_71 (v := nI 2) rfl ?_
        refine g_bipush h dX12_readOrder_72 (v := nI 13) rfl ?_
        refine g_cVv2 h rok0 mi_X12_take dX12_readOrder_74 ml_X12_206 rfl rfl rfl (Nat.le_of_ble_eq_true rfl) (Nat.le_of_ble_eq_true rfl) (sp_take_dd (f := p + 3) (by omega) b9.2.1 ?_)
        refine g_aload_0 h dX12_readOrder_77 ?_
        refine g_cVi0 h rok0 mi_X12_sum dX12_readOrder_78 ml_X12_203 rfl rfl rfl (Nat.le_of_ble_eq_true rfl) (Nat.le_of_ble_eq_true rfl) (sp_sum_dd (f := p + 3) (by omega) b9.2.1 ?_)
        refine g_istore_4 h dX12_readOrder_81 (by decide) rfl ?_
        refine g_iconst h dX12_readOrder_83 (v := (-1)) rfl ?_
        refine g_istore_5 h dX12_readOrder_84 (by decide) rfl ?_
        refine g_aload_0 h dX12_readOrder_86 ?_
        refine g_iconst h dX12_readOrder_87 (v := nI 2) rfl ?_
        refine g_bipush h dX12_readOrder_88 (v := nI 15) rfl ?_
        refine g_cVi2 h rok0 mi_X12_is dX12_readOrder_90 ml_X12_125 rfl rfl rfl (Nat.le_of_ble_eq_true rfl) (Nat.le_of_ble_eq_true rfl) (sp_is_dd (f := p + 3) (by omega) b9.2.1 ?_)
        refine g_if_eq h 112 dX12_readOrder_93 rfl (fun _ => ?_) (fun c => absurd c (by decide))
        exact κ0 _ (p + 3) _ _ _ _ (by simp only [sqK, if_pos k1, if_pos k2, if_neg (show ¬ K (p + 1 + 1 + 1) = 28 from k3)]) b9 ((congrFun (up2_o (by decide)) 4).trans ((f3) 104 4 (by omega) (by omega) (by omega)))
    · have b9 : rD M (p + 2) I (up2 _ 80 16 (nI (p + 2))) := rD.new (f2).l (by omega)
      refine g_aload_0 h dX12_readOrder_56 ?_
      refine g_cVi0 h rok0 mi_X12_knownKeeper dX12_readOrder_57 ml_X12_191 rfl rfl rfl (Nat.le_of_ble_eq_true rfl) (Nat.le_of_ble_eq_true rfl) (sp_knKeeper_dd hP (f := p + 2) (by omega) b9.2.1 ?_)
      refine g_istore_3 h dX12_readOrder_60 (by decide) rfl ?_
      refine g_iconst h dX12_readOrder_61 (v := (-1)) rfl ?_
      refine g_istore_4 h dX12_readOrder_62 (by decide) rfl ?_
      refine g_iload_1 h dX12_readOrder_64 ?_
      refine g_bipush h dX12_readOrder_65 (v := nI 11) rfl ?_
      refine g_icmp_ne h 83 dX12_readOrder_67 rfl (fun c => absurd c (by decide)) (fun _ => ?_)
      refine g_aload_0 h dX12_readOrder_70 ?_
      refine g_iconst h dX12_readOrder_71 (v := nI 2) rfl ?_
      refine g_bipush h dX12_readOrder_72 (v := nI 13) rfl ?_
      refine g_cVv2 h rok0 mi_X12_take dX12_readOrder_74 ml_X12_206 rfl rfl rfl (Nat.le_of_ble_eq_true rfl) (Nat.le_of_ble_eq_true rfl) (sp_take_dd (f := p + 2) (by omega) b9.2.1 ?_)
      refine g_aload_0 h dX12_readOrder_77 ?_
      refine g_cVi0 h rok0 mi_X12_sum dX12_readOrder_78 ml_X12_203 rfl rfl rfl (Nat.le_of_ble_eq_true rfl) (Nat.le_of_ble_eq_true rfl) (sp_sum_dd (f := p + 2) (by omega) b9.2.1 ?_)
      refine g_istore_4 h dX12_readOrder_81 (by decide) rfl ?_
      refine g_iconst h dX12_readOrder_83 (v := (-1)) rfl ?_
      refine g_istore_5 h dX12_readOrder_84 (by decide) rfl ?_
      refine g_aload_0 h dX12_readOrder_86 ?_
      refine g_iconst h dX12_readOrder_87 (v := nI 2) rfl ?_
      refine g_bipush h dX12_readOrder_88 (v := nI 15) rfl ?_
      refine g_cVi2 h rok0 mi_X12_is dX12_readOrder_90 ml_X12_125 rfl rfl rfl (Nat.le_of_ble_eq_true rfl) (Nat.le_of_ble_eq_true rfl) (sp_is_dd (f := p + 2) (by omega) b9.2.1 ?_)
      refine g_if_eq h 112 dX12_readOrder_93 rfl (fun _ => ?_) (fun c => absurd c (by decide))
      exact κ0 _ (p + 2) _ _ _ _ (by simp only [sqK, if_pos k1, if_neg k2]) b9 ((congrFun (up2_o (by decide)) 4).trans ((f2) 104 4 (by omega) (by omega) (by omega)))
  · have b9 : rD M (p + 1) I (up2 _ 80 16 (nI (p + 1))) := rD.new (FRm.rf (z := z)).l (by omega)
    refine g_goto h 48 dX12_readOrder_41 rfl ?_
    refine g_istore_2 h dX12_readOrder_48 (by decide) rfl ?_
    refine g_aload_0 h dX12_readOrder_49 ?_
    refine g_iconst h dX12_readOrder_50 (v := nI 2) rfl ?_
    refine g_bipush h dX12_readOrder_51 (v := nI 12) rfl ?_
    refine g_cVv2 h rok0 mi_X12_take dX12_readOrder_53 ml_X12_206 rfl rfl rfl (Nat.le_of_ble_eq_true rfl) (Nat.le_of_ble_eq_true rfl) (sp_take_dd (f := p + 1) (by omega) b9.2.1 ?_)
    refine g_aload_0 h dX12_readOrder_56 ?_
    refine g_cVi0 h rok0 mi_X12_knownKeeper dX12_readOrder_57 ml_X12_191 rfl rfl rfl (Nat.le_of_ble_eq_true rfl) (Nat.le_of_ble_eq_true rfl) (sp_knKeeper_dd hP (f := p + 1) (by omega) b9.2.1 ?_)
    refine g_istore_3 h dX12_readOrder_60 (by decide) rfl ?_
    refine g_iconst h dX12_readOrder_61 (v := (-1)) rfl ?_
    refine g_istore_4 h dX12_readOrder_62 (by decide) rfl ?_
    refine g_iload_1 h dX12_readOrder_64 ?_
    refine g_bipush h dX12_readOrder_65 (v := nI 11) rfl ?_
    refine g_icmp_ne h 83 dX12_readOrder_67 rfl (fun c => absurd c (by decide)) (fun _ => ?_)
    refine g_aload_0 h dX12_readOrder_70 ?_
    refine g_iconst h dX12_readOrder_71 (v := nI 2) rfl ?_
    refine g_bipush h dX12_readOrder_72 (v := nI 13) rfl ?_
    refine g_cVv2 h rok0 mi_X12_take dX12_readOrder_74 ml_X12_206 rfl rfl rfl (Nat.le_of_ble_eq_true rfl) (Nat.le_of_ble_eq_true rfl) (sp_take_dd (f := p + 1) (by omega) b9.2.1 ?_)
    refine g_aload_0 h dX12_readOrder_77 ?_
    refine g_cVi0 h rok0 mi_X12_sum dX12_readOrder_78 ml_X12_203 rfl rfl rfl (Nat.le_of_ble_eq_true rfl) (Nat.le_of_ble_eq_true rfl) (sp_sum_dd (f := p + 1) (by omega) b9.2.1 ?_)
    refine g_istore_4 h dX12_readOrder_81 (by decide) rfl ?_
    refine g_iconst h dX12_readOrder_83 (v := (-1)) rfl ?_
    refine g_istore_5 h dX12_readOrder_84 (by decide) rfl ?_
    refine g_aload_0 h dX12_readOrder_86 ?_
    refine g_iconst h dX12_readOrder_87 (v := nI 2) rfl ?_
    refine g_bipush h dX12_readOrder_88 (v := nI 15) rfl ?_
    refine g_cVi2 h rok0 mi_X12_is dX12_readOrder_90 ml_X12_125 rfl rfl rfl (Nat.le_of_ble_eq_true rfl) (Nat.le_of_ble_eq_true rfl) (sp_is_dd (f := p + 1) (by omega) b9.2.1 ?_)
    refine g_if_eq h 112 dX12_readOrder_93 rfl (fun _ => ?_) (fun c => absurd c (by decide))
    exact κ0 _ (p + 1) _ _ _ _ (by simp only [sqK, if_neg k1]) b9 ((congrFun (up2_o (by decide)) 4).trans ((FRm.rf (z := z)) 104 4 (by omega) (by omega) (by omega)))
set_option maxRecDepth 100000 in
set_option maxHeartbeats 4000000 in
theorem al_order14 {Γ : Cx} {K wd : Nat → Nat} {V : Nat → Int32} {M : Nat} {T : MI} {D p z : Nat} {y : Option (Nat × Nat)} {I : MI} {J : MJ} {P : MP} (hP : P 80 9 = some 104) (hR : rL K wd V M T I (p + 1) z y) (hK : K p = 14) {Q : MI → MJ → MP → Prop} (h : Vc RX12 cX12_readOrder 7 none (D + 4 * 8 + 16) Γ) (κ1 : ∀ I' q z' v2 v3 v4 v5, sqK K [28, 12, 28] (p + 1) (whnL K) = sqK K [34] q rtL → K (p + 1) = 28 → p + 1 < q → v2 = (mT K wd T) (p + 1) → v3 = (mT K wd T) (p + 3) → rL K wd V M T I' q z' (y.or (fbd K (mT K wd T) (q - (p + 1)) (p + 1))) → FRm z I I' → z ≤ z' → (v4 = -1 ∧ (fbd K (mT K wd T) (q - (p + 1)) (p + 1) = none → (K (p + 4) = 15 → nd false I' z' v5 (pT K V (mT K wd T) 8 (p + 5)).2.2) ∧ (¬ K (p + 4) = 15 → v5 = -1))) → VG Γ 0 0 112 [some (.ref 80), some (.int (nI 14)), some (.int v2), some (.int v3), some (.int v4), some (.int v5), none] [] I' J P (Fnl Γ (Qv Q))) (κ0 : ∀ I' e v2 v3 v4 v5, sqK K [28, 12, 28] (p + 1) (whnL K) = (false, e) → rD M e I I' → I' 104 4 = I 104 4 → VG Γ 0 0 112 [some (.ref 80), some (.int (nI 14)), some (.int v2), some (.int v3), some (.int v4), some (.int v5), none] [] I' J P (Fnl Γ (Qv Q))) : VG Γ 0 0 31 [some (.ref 80), some (.int (nI 14)), none, none, none, none, none] [] I J P (Fnl Γ (Qv Q)) := by
  have hM := hR.1.M4
  have ti1 : tbI (K (p + 1 - 1)) = 2 := by rw [Nat.add_sub_cancel, hK]; rfl
  refine g_iload_1 h dX12_readOrder_31 ?_
  refine g_bipush h dX12_readOrder_32 (v := nI 11) rfl ?_
  refine g_icmp_ne h 44 dX12_readOrder_34 rfl (fun _ => ?_) (fun c => absurd c (by decide))
  refine g_aload_0 h dX12_readOrder_44 ?_
  refine g_cVi0 h rok0 mi_X12_knownTop dX12_readOrder_45 ml_X12_188 rfl rfl rfl (Nat.le_of_ble_eq_true rfl) (Nat.le_of_ble_eq_true rfl) (sp_knTop hP hR (fun k1 I2 f2 r2 => ?_) (fun k1 => ?_))
  · have m2 := r2.1.M4.2.2.1
    refine g_istore_2 h dX12_readOrder_48 (by decide) rfl ?_
    refine g_aload_0 h dX12_readOrder_49 ?_
    refine g_iconst h dX12_readOrder_50 (v := nI 2) rfl ?_
    refine g_bipush h dX12_readOrder_51 (v := nI 12) rfl ?_
    refine g_cVv2 h rok0 mi_X12_take dX12_readOrder_53 ml_X12_206 rfl rfl rfl (Nat.le_of_ble_eq_true rfl) (Nat.le_of_ble_eq_true rfl) (sp_take2 (k := 12) (by decide) r2.1.1 r2.1.2.1 r2.1.2.2.1 (fun k2 => ?_) (fun k2 => ?_))
    · have p2M := K_lt hM.2.1 m2 k2 (by decide)
      have f3 := f2.tr (FRm.at (k := 14) (v := nI (p + 1 + 1 + 1)) (by decide) (by decide)) (Nat.le_refl _)
      have r3 := r2.fr (r2.1.at p2M) (FRm.at (by decide) (by decide))
      have m3 := r3.1.M4.2.2.1
      refine g_aload_0 h dX12_readOrder_56 ?_
      refine g_cVi0 h rok0 mi_X12_knownKeeper dX12_readOrder_57 ml_X12_191 rfl rfl rfl (Nat.le_of_ble_eq_true rfl) (Nat.le_of_ble_eq_true rfl) (sp_knKeeper hP r3 (fun k3 I4 f4 r4 => ?_) (fun k3 => ?_))
      · have f4 := f3.tr f4 (Nat.le_refl _)
        have m4 := r4.1.M4.2.2.1
        refine g_istore_3 h dX12_readOrder_60 (by decide) rfl ?_
        refine g_iconst h dX12_readOrder_61 (v := (-1)) rfl ?_
        refine g_istore_4 h dX12_readOrder_62 (by decide) rfl ?_
        refine g_iload_1 h dX12_readOrder_64 ?_
        refine g_bipush h dX12_readOrder_65 (v := nI 11) rfl ?_
        refine g_icmp_ne h 83 dX12_readOrder_67 rfl (fun _ => ?_) (fun c => absurd c (by decide))
        refine wh_order (T := T) (q := p + 4) hP r4 h (fun I9 q9 z9 v9 w9 l9 r9 g9 y9 n9 o9 => ?_) (fun I9 e9 v9 w9 b9 c9 => ?_)
        · have hsq : sqK K [28, 12, 28] (p + 1) (whnL K) = sqK K [34] q9 rtL := by
            simp only [sqK, if_pos k1, if_pos k2, if_pos (show K (p + 1 + 1 + 1) = 28 from k3)]
            rw [show p + 1 + 1 + 1 + 1 = p + 4 from rfl, w9]
            rfl
          have eF : fbd K (mT K wd T) (q9 - (p + 1)) (p + 1) = (if lkT wd T 2 (p + 1) = -1 then some (3, p + 1) else none).or ((if lkT wd T 3 (p + 3) = -1 then some (3, p + 3) else none).or (fbd K (mT K wd T) (q9 - (p + 4)) (p + 4))) := by
            rw [fbd_k (i := 2) (by omega) k1 ti1, fbd_0 (t := p + 1 + 1) (by omega) (by omega), fbd_k (t := p + 1 + 1 + 1) (i := 3) (by omega) k3 (by rw [show p + 1 + 1 + 1 - 1 = p + 2 by omega, show K (p + 2) = 12 from k2]; rfl)]
          refine κ1 I9 q9 z9 _ _ _ _ hsq k1 (by omega) (by rw [mT, ti1]) (by rw [mT, show p + 3 - 1 = p + 2 by omega, show K (p + 2) = 12 from k2]; rfl) ?_ (f4.tr g9 (Nat.le_refl _)) y9 ⟨rfl, fun hb => ?_⟩
          · rw [eF]
            simp only [← Option.or_assoc]
            exact r9
          · rw [eF] at hb
            obtain ⟨_, hb⟩ := Option.or_eq_none_iff.mp hb
            obtain ⟨_, hb⟩ := Option.or_eq_none_iff.mp hb
            exact ⟨n9 hb, o9⟩
        · refine κ0 I9 e9 _ _ _ _ ?_ (b9.l f4.l) (c9.trans (f4 104 4 (by omega) (by omega) (by omega)))
          simp only [sqK, if_pos k1, if_pos k2, if_pos (show K (p + 1 + 1 + 1) = 28 from k3)]
          rw [show p + 1 + 1 + 1 + 1 = p + 4 from rfl, w9]
      · have b9 : rD M (p + 3) I (up2 _ 80 16 (nI (p + 3))) := rD.new (f3).l (by omega)
        refine g_istore_3 h dX12_readOrder_60 (by decide) rfl ?_
        refine g_iconst h dX12_readOrder_61 (v := (-1)) rfl ?_
        refine g_istore_4 h dX12_readOrder_62 (by decide) rfl ?_
        refine g_iload_1 h dX12_readOrder_64 ?_
        refine g_bipush h dX12_readOrder_65 (v := nI 11) rfl ?_
        refine g_icmp_ne h 83 dX12_readOrder_67 rfl (fun _ => ?_) (fun c => absurd c (by decide))
        refine g_iconst h dX12_readOrder_83 (v := (-1)) rfl ?_
        refine g_istore_5 h dX12_readOrder_84 (by decide) rfl ?_
        refine g_aload_0 h dX12_readOrder_86 ?_
        refine g_iconst h dX12_readOrder_87 (v := nI 2) rfl ?_
        refine g_bipush h dX12_readOrder_88 (v := nI 15) rfl ?_
        refine g_cVi2 h rok0 mi_X12_is dX12_readOrder_90 ml_X12_125 rfl rfl rfl (Nat.le_of_ble_eq_true rfl) (Nat.le_of_ble_eq_true rfl) (sp_is_dd (f := p + 3) (by omega) b9.2.1 ?_)
        refine g_if_eq h 112 dX12_readOrder_93 rfl (fun _ => ?_) (fun c => absurd c (by decide))
        exact κ0 _ (p + 3) _ _ _ _ (by simp only [sqK, if_pos k1, if_pos k2, if_neg (show ¬ K (p + 1 + 1 + 1) = 28 from k3)]) b9 ((congrFun (up2_o (by decide)) 4).trans ((f3) 104 4 (by omega) (by omega) (by omega)))
    · have b9 : rD M (p + 2) I (up2 _ 80 16 (nI (p + 2))) := rD.new (f2).l (by omega)
      refine g_aload_0 h dX12_readOrder_56 ?_
      refine g_cVi0 h rok0 mi_X12_knownKeeper dX12_readOrder_57 ml_X12_191 rfl rfl rfl (Nat.le_of_ble_eq_true rfl) (Nat.le_of_ble_eq_true rfl) (sp_knKeeper_dd hP (f := p + 2) (by omega) b9.2.1 ?_)
      refine g_istore_3 h dX12_readOrder_60 (by decide) rfl ?_
      refine g_iconst h dX12_readOrder_61 (v := (-1)) rfl ?_
      refine g_istore_4 h dX12_readOrder_62 (by decide) rfl ?_
      refine g_iload_1 h dX12_readOrder_64 ?_
      refine g_bipush h dX12_readOrder_65 (v := nI 11) rfl ?_
      refine g_icmp_ne h 83 dX12_readOrder_67 rfl (fun _ => ?_) (fun c => absurd c (by decide))
      refine g_iconst h dX12_readOrder_83 (v := (-1)) rfl ?_
      refine g_istore_5 h dX12_readOrder_84 (by decide) rfl ?_
      refine g_aload_0 h dX12_readOrder_86 ?_
      refine g_iconst h dX12_readOrder_87 (v := nI 2) rfl ?_
      refine g_bipush h dX12_readOrder_88 (v := nI 15) rfl ?_
      refine g_cVi2 h rok0 mi_X12_is dX12_readOrder_90 ml_X12_125 rfl rfl rfl (Nat.le_of_ble_eq_true rfl) (Nat.le_of_ble_eq_true rfl) (sp_is_dd (f := p + 2) (by omega) b9.2.1 ?_)
      refine g_if_eq h 112 dX12_readOrder_93 rfl (fun _ => ?_) (fun c => absurd c (by decide))
      exact κ0 _ (p + 2) _ _ _ _ (by simp only [sqK, if_pos k1, if_neg k2]) b9 ((congrFun (up2_o (by decide)) 4).trans ((f2) 104 4 (by omega) (by omega) (by omega)))
  · have b9 : rD M (p + 1) I (up2 _ 80 16 (nI (p + 1))) := rD.new (FRm.rf (z := z)).l (by omega)
    refine g_istore_2 h dX12_readOrder_48 (by decide) rfl ?_
    refine g_aload_0 h dX12_readOrder_49 ?_
    refine g_iconst h dX12_readOrder_50 (v := nI 2) rfl ?_
    refine g_bipush h dX12_readOrder_51 (v := nI 12) rfl ?_
    refine g_cVv2 h rok0 mi_X12_take dX12_readOrder_53 ml_X12_206 rfl rfl rfl (Nat.le_of_ble_eq_true rfl) (Nat.le_of_ble_eq_true rfl) (sp_take_dd (f := p + 1) (by omega) b9.2.1 ?_)
    refine g_aload_0 h dX12_readOrder_56 ?_
    refine g_cVi0 h rok0 mi_X12_knownKeeper dX12_readOrder_57 ml_X12_191 rfl rfl rfl (Nat.le_of_ble_eq_true rfl) (Nat.le_of_ble_eq_true rfl) (sp_knKeeper_dd hP (f := p + 1) (by omega) b9.2.1 ?_)
    refine g_istore_3 h dX12_readOrder_60 (by decide) rfl ?_
    refine g_iconst h dX12_readOrder_61 (v := (-1)) rfl ?_
    refine g_istore_4 h dX12_readOrder_62 (by decide) rfl ?_
    refine g_iload_1 h dX12_readOrder_64 ?_
    refine g_bipush h dX12_readOrder_65 (v := nI 11) rfl ?_
    refine g_icmp_ne h 83 dX12_readOrder_67 rfl (fun _ => ?_) (fun c => absurd c (by decide))
    refine g_iconst h dX12_readOrder_83 (v := (-1)) rfl ?_
    refine g_istore_5 h dX12_readOrder_84 (by decide) rfl ?_
    refine g_aload_0 h dX12_readOrder_86 ?_
    refine g_iconst h dX12_readOrder_87 (v := nI 2) rfl ?_
    refine g_bipush h dX12_readOrder_88 (v := nI 15) rfl ?_
    refine g_cVi2 h rok0 mi_X12_is dX12_readOrder_90 ml_X12_125 rfl rfl rfl (Nat.le_of_ble_eq_true rfl) (Nat.le_of_ble_eq_true rfl) (sp_is_dd (f := p + 1) (by omega) b9.2.1 ?_)
    refine g_if_eq h 112 dX12_readOrder_93 rfl (fun _ => ?_) (fun c => absurd c (by decide))
    exact κ0 _ (p + 1) _ _ _ _ (by simp only [sqK, if_neg k1]) b9 ((congrFun (up2_o (by decide)) 4).trans ((FRm.rf (z := z)) 104 4 (by omega) (by omega) (by omega)))
