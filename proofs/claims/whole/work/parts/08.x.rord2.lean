/-! The reference's parser: readOrder, its test -/
set_option maxRecDepth 100000 in
set_option maxHeartbeats 4000000 in
theorem wh_order {Γ : Cx} {K wd : Nat → Nat} {V : Nat → Int32} {M : Nat} {T : MI} {D q z : Nat} {v1 v2 v3 v4 : Int32} {x5 : Option Value} {y : Option (Nat × Nat)} {I : MI} {J : MJ} {P : MP} (hP : P 80 9 = some 104) (hR : rL K wd V M T I q z y) {Q : MI → MJ → MP → Prop} (h : Vc RX12 cX12_readOrder 7 none (D + 4 * 8 + 16) Γ) (κ1 : ∀ I' q' z' v5, whnL K q = sqK K [34] q' rtL → q ≤ q' → rL K wd V M T I' q' z' (y.or (fbd K (mT K wd T) (q' - q) q)) → FRm z I I' → z ≤ z' → (fbd K (mT K wd T) (q' - q) q = none → K q = 15 → nd false I' z' v5 (pT K V (mT K wd T) 8 (q + 1)).2.2) → (¬ K q = 15 → v5 = -1) → VG Γ 0 0 112 [some (.ref 80), some (.int v1), some (.int v2), some (.int v3), some (.int v4), some (.int v5), none] [] I' J P (Fnl Γ (Qv Q))) (κ0 : ∀ I' e v5, whnL K q = (false, e) → rD M e I I' → I' 104 4 = I 104 4 → VG Γ 0 0 112 [some (.ref 80), some (.int v1), some (.int v2), some (.int v3), some (.int v4), some (.int v5), none] [] I' J P (Fnl Γ (Qv Q))) : VG Γ 0 0 83 [some (.ref 80), some (.int v1), some (.int v2), some (.int v3), some (.int v4), x5, none] [] I J P (Fnl Γ (Qv Q)) := by
  have hM := hR.1.M4
  refine g_iconst h dX12_readOrder_83 (v := (-1)) rfl ?_
  refine g_istore_5 h dX12_readOrder_84 (by decide) rfl ?_
  refine g_aload_0 h dX12_readOrder_86 ?_
  refine g_iconst h dX12_readOrder_87 (v := nI 2) rfl ?_
  refine g_bipush h dX12_readOrder_88 (v := nI 15) rfl ?_
  refine g_cVi2 h rok0 mi_X12_is dX12_readOrder_90 ml_X12_125 rfl rfl rfl (Nat.le_of_ble_eq_true rfl) (Nat.le_of_ble_eq_true rfl) (sp_is2 (k := 15) (by decide) hR.1.1 hR.1.2.1 hR.1.2.2.1 (fun k1 => ?_) (fun k1 => ?_))
  · refine g_if_eq h 112 dX12_readOrder_93 rfl (fun c => absurd c (by decide)) (fun _ => ?_)
    refine g_aload_0 h dX12_readOrder_96 ?_
    refine g_dup h dX12_readOrder_97 rfl ?_
    refine g_getI h fl_X12_118 dX12_readOrder_98 rfl rfl ?_
    refine g_iconst h dX12_readOrder_101 (v := nI 1) rfl ?_
    refine g_iadd h dX12_readOrder_102 ?_
    refine g_putI h fp_X12_118 dX12_readOrder_103 rfl rfl ?_
    rw [show I 80 14 + nI 1 = nI (q + 1) by rw [hR.1.2.1.1]; exact nI_1 q]
    have hqM := K_lt hM.2.1 hM.2.2.1 k1 (by decide)
    have f1 : FRm z I (up2 I 80 14 (nI (q + 1))) := FRm.at (by decide) (by decide)
    have hv := pT_eqv (K := K) (V := v0) (m := v0) (V' := V) (m' := mT K wd T) 8 (q + 1)
    refine g_aload_0 h dX12_readOrder_106 ?_
    refine g_cVi0 h rok0 mi_X12_test dX12_readOrder_107 ml_X12_215 rfl rfl rfl (Nat.le_of_ble_eq_true rfl) (Nat.le_of_ble_eq_true rfl) (cE_testV 8 D (q + 1) z _ _ J P hP (hR.1.at hqM) (fun I2 v2 z2 e2 q2 n2 => ?_) (fun I2 v2 e2 b2 => ?_))
    · refine g_istore_5 h dX12_readOrder_110 (by decide) rfl ?_
      obtain ⟨t1, t2, t3, t4, t5⟩ := q2
      have eF : fbd K (mT K wd T) ((pT K V (mT K wd T) 8 (q + 1)).2.1 - q) q = fbd K (mT K wd T) ((pT K V (mT K wd T) 8 (q + 1)).2.1 - (q + 1)) (q + 1) := fbd_0 (by omega) (by omega)
      refine κ1 I2 (pT K V (mT K wd T) 8 (q + 1)).2.1 z2 v2 ?_ (by omega) ?_ (f1.tr t1 (Nat.le_refl _)) t3 (fun hb _ => ?_) (fun w => absurd k1 w)
      · rw [whnL, if_pos k1, hv.1, hv.2, if_pos e2]
      · rw [eF]; exact hR.fr t2 (f1.tr t1 (Nat.le_refl _))
      · rw [eF] at hb; exact n2 hb
    · refine g_istore_5 h dX12_readOrder_110 (by decide) rfl ?_
      refine κ0 I2 (pT K V (mT K wd T) 8 (q + 1)).2.1 v2 ?_ ⟨(f1.tr b2.1 (Nat.le_refl _)).l, b2.2.1, b2.2.2.2.1⟩ ((f1.tr b2.1 (Nat.le_refl _)) 104 4 (by omega) (by omega) (by omega))
      rw [whnL, if_pos k1, hv.1, hv.2, if_neg (by rw [e2]; decide)]
  · refine g_if_eq h 112 dX12_readOrder_93 rfl (fun _ => ?_) (fun c => absurd c (by decide))
    refine κ1 I q z (-1) ?_ (Nat.le_refl _) ?_ FRm.rf (Nat.le_refl _) (fun _ w => absurd w k1) (fun _ => rfl)
    · rw [whnL, if_neg k1]
    · rw [Nat.sub_self, fbd, Option.or_none]; exact hR
