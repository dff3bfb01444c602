/-! The reference's parser: readTop, alive behind its word -/
theorem FRt.l {z a : Nat} {I I' : MI} (h : FRt z a I I') (ha : a = 90 ∨ a = 109) : FRl I I' := fun b j b1 b2 b3 => h b j b1 (by omega) (by omega) (by omega)
set_option maxRecDepth 100000 in
set_option maxHeartbeats 4000000 in
theorem al_readTop {Γ : Cx} {K wd : Nat → Nat} {V : Nat → Int32} {M : Nat} {T : MI} {d p z g : Nat} {v1 : Int32} {y : Option (Nat × Nat)} {I : MI} {J : MJ} {P : MP} (hV : vR K V M) (hP : P 80 9 = some 104) (hR : rL K wd V M T I (p + 3) z y) (hy6 : nT T = 6 → ¬ y = none) (he : K (p + 3) = 28 → K (p + 4) = 28 → ¬ K (p + 5 + g) = 28) (hrun : ∀ t, p + 5 ≤ t → t < p + 5 + g → K t = 28) {Q : MI → MJ → MP → Prop} (hQA : nT T < 6 → K (p + 3) = 28 → K (p + 4) = 28 → ∀ I', rL K wd V M T I' (p + 5 + g) z (y.or (toE (lkT wd T 1) (9 * nT T + 1) (g + 2) (p + 3) (T 5) 0)) → FRt z 109 I I' → (∀ n, n < (toF (lkT wd T 1) (9 * nT T + 1) (g + 2) (p + 3) (T 5) 0).2 → I' 109 (9 * nT T + 1 + n) = (toF (lkT wd T 1) (9 * nT T + 1) (g + 2) (p + 3) (T 5) 0).1 (9 * nT T + 1 + n)) → (toF (lkT wd T 1) (9 * nT T + 1) (g + 2) (p + 3) (T 5) 0).2 ≤ 8 → Q (up2 (up2 (up2 I' 109 (9 * nT T) (nI (toF (lkT wd T 1) (9 * nT T + 1) (g + 2) (p + 3) (T 5) 0).2)) 88 (nT T) v1) 104 2 (nI (nT T + 1))) J P) (hQB : nT T = 6 → K (p + 3) = 28 → K (p + 4) = 28 → ∀ I', rL K wd V M T I' (p + 5 + g) z y → FRt z 90 I I' → Q I' J P) (hQ0 : ∀ I' e, (¬ K (p + 3) = 28 ∧ e = p + 3 ∨ K (p + 3) = 28 ∧ ¬ K (p + 4) = 28 ∧ e = p + 4) → rD M e I I' → Q I' J P) (h : Vc RX12 cX12_readTop 5 none (d + 5) Γ) : VG Γ 0 0 35 [some (.ref 80), some (.int v1), none, none, none] [] I J P (Fnl Γ (Qv Q)) := by
  have h0 : I 104 2 = nI (nT T) := hR.2.1.1.1 2 (by decide)
  have hcN : nT T ≤ 6 := hR.2.1.1.2.2.2.1
  have hM := hR.1.M4
  by_cases n6 : nT T < 6
  · refine g_aload_0 h dX12_readTop_35 ?_
    refine g_getP h fl_X12_91 dX12_readTop_36 rfl rfl (by assumption) ?_
    refine g_getI h fl_X12_164 dX12_readTop_39 rfl rfl ?_
    refine g_bipush h dX12_readTop_42 (v := nI 6) rfl ?_
    rw [h0]
    refine g_icmp_ge h 51 dX12_readTop_44 rfl (fun c => absurd c (by rw [Int32.not_le]; exact nI_lt n6 (by decide))) (fun _ => ?_)
    refine g_iconst h dX12_readTop_47 (v := nI 1) rfl ?_
    refine g_goto h 52 dX12_readTop_48 rfl ?_
    refine g_istore_2 h dX12_readTop_52 (by decide) rfl ?_
    refine g_iload_2 h dX12_readTop_53 ?_
    refine g_if_eq h 70 dX12_readTop_54 rfl (fun c => absurd c (by decide)) (fun _ => ?_)
    refine g_bipush h dX12_readTop_57 (v := nI 9) rfl ?_
    refine g_aload_0 h dX12_readTop_59 ?_
    refine g_getP h fl_X12_91 dX12_readTop_60 rfl rfl (by assumption) ?_
    refine g_getI h fl_X12_164 dX12_readTop_63 rfl rfl ?_
    refine g_imul h dX12_readTop_66 ?_
    rw [h0, show (nI 9 * nI (nT T) : Int32) = nI (9 * nT T) from pk_mul 9 (nT T)]
    refine g_goto h 71 dX12_readTop_67 rfl ?_
    refine g_istore_3 h dX12_readTop_71 (by decide) rfl ?_
    refine g_aload_0 h dX12_readTop_72 ?_
    refine g_iload_3 h dX12_readTop_73 ?_
    refine g_iconst h dX12_readTop_74 (v := nI 0) rfl ?_
    refine g_cVi2 h rok0 mi_X12_readOver dX12_readTop_75 ml_X12_257 rfl rfl rfl (Nat.le_of_ble_eq_true rfl) (Nat.le_of_ble_eq_true rfl) (sp_ovA (f := g + 1) (many := 0) (row := T 5) hV n6 (by omega) hP hR rfl rfl (fun n hn => absurd hn (by omega)) (fun k3 I2 row2 many2 y2 g2 m2 r2 f2 F2 a2 => ?_) (fun k3 => ?_))
    · refine g_istore_4 h dX12_readTop_78 (by decide) rfl ?_
      refine g_aload_0 h dX12_readTop_80 ?_
      refine g_iload_3 h dX12_readTop_81 ?_
      refine g_iload_4 h dX12_readTop_82 ?_
      refine g_cVi2 h rok0 mi_X12_readOver dX12_readTop_84 ml_X12_257 rfl rfl rfl (Nat.le_of_ble_eq_true rfl) (Nat.le_of_ble_eq_true rfl) (sp_ovA (f := g) hV n6 m2 hP r2 f2 F2 a2 (fun k4 I3 row3 many3 y3 g3 m3 r3 f3 F3 a3 => ?_) (fun k4 => ?_))
      · refine g_istore_4 h dX12_readTop_87 (by decide) rfl ?_
        exact lp_topA (fin := (y.or (toE (lkT wd T 1) (9 * nT T + 1) (g + 2) (p + 3) (T 5) 0))) (FF := (toF (lkT wd T 1) (9 * nT T + 1) (g + 2) (p + 3) (T 5) 0)) (e := p + 5 + g) (I0 := I) hV n6 (he k3 k4) hP h (fun I' r' g' a' m' => tl_readTopA hP n6 (r'.2.1.1.1 2 (by decide)) (hQA n6 k3 k4 I' r' g' a' m') h) g (p + 3 + 1 + 1) many3 row3 y3 I3 (by omega) (fun t t1 t2 => hrun t (by omega) t2) m3 r3 f3 F3 a3 (g2.tr g3)
      · have b9 : rD M (p + 4) I (up2 _ 80 16 (nI (p + 4))) := rD.new (g2.l (Or.inr rfl)) (by have := r2.1.M4; omega)
        refine g_istore_4 h dX12_readTop_87 (by decide) rfl ?_
        refine g_aload_0 h dX12_readTop_89 ?_
        refine g_cVi0 h rok0 mi_X12_isOk dX12_readTop_90 ml_X12_121 rfl rfl rfl (Nat.le_of_ble_eq_true rfl) (Nat.le_of_ble_eq_true rfl) (sp_isOk_dd (f := p + 4) (by omega) b9.2.1 ?_)
        refine g_if_eq h 121 dX12_readTop_93 rfl (fun _ => ?_) (fun c => absurd c (by decide))
        exact tl_readTopA hP n6 (by rw [up2_o (by decide)]; exact r2.2.1.1.1 2 (by decide)) (hQ0 _ (p + 4) (Or.inr ⟨k3, k4, rfl⟩) (((b9.up (by omega)).up (by omega)).up (by omega))) h
    · have b9 : rD M (p + 3) I (up2 _ 80 16 (nI (p + 3))) := rD.new FRl.rf (by have := hR.1.M4; omega)
      refine g_istore_4 h dX12_readTop_78 (by decide) rfl ?_
      refine g_aload_0 h dX12_readTop_80 ?_
      refine g_iload_3 h dX12_readTop_81 ?_
      refine g_iload_4 h dX12_readTop_82 ?_
      refine g_cVi2 h rok0 mi_X12_readOver dX12_readTop_84 ml_X12_257 rfl rfl rfl (Nat.le_of_ble_eq_true rfl) (Nat.le_of_ble_eq_true rfl) (sp_readOver_dd hP (f := p + 3) (by omega) b9.2.1 ?_)
      refine g_istore_4 h dX12_readTop_87 (by decide) rfl ?_
      refine g_aload_0 h dX12_readTop_89 ?_
      refine g_cVi0 h rok0 mi_X12_isOk dX12_readTop_90 ml_X12_121 rfl rfl rfl (Nat.le_of_ble_eq_true rfl) (Nat.le_of_ble_eq_true rfl) (sp_isOk_dd (f := p + 3) (by omega) b9.2.1 ?_)
      refine g_if_eq h 121 dX12_readTop_93 rfl (fun _ => ?_) (fun c => absurd c (by decide))
      exact tl_readTopA hP n6 (by rw [up2_o (by decide)]; exact hR.2.1.1.1 2 (by decide)) (hQ0 _ (p + 3) (Or.inl ⟨k3, rfl⟩) (((b9.up (by omega)).up (by omega)).up (by omega))) h
  · have e6 : nT T = 6 := by omega
    refine g_aload_0 h dX12_readTop_35 ?_
    refine g_getP h fl_X12_91 dX12_readTop_36 rfl rfl (by assumption) ?_
    refine g_getI h fl_X12_164 dX12_readTop_39 rfl rfl ?_
    refine g_bipush h dX12_readTop_42 (v := nI 6) rfl ?_
    rw [h0]
    refine g_icmp_ge h 51 dX12_readTop_44 rfl (fun _ => ?_) (fun c => absurd (ltN (Int32.not_le.mp c) (by omega) (by decide)) n6)
    refine g_iconst h dX12_readTop_51 (v := nI 0) rfl ?_
    refine g_istore_2 h dX12_readTop_52 (by decide) rfl ?_
    refine g_iload_2 h dX12_readTop_53 ?_
    refine g_if_eq h 70 dX12_readTop_54 rfl (fun _ => ?_) (fun c => absurd c (by decide))
    refine g_iconst h dX12_readTop_70 (v := (-1)) rfl ?_
    refine g_istore_3 h dX12_readTop_71 (by decide) rfl ?_
    refine g_aload_0 h dX12_readTop_72 ?_
    refine g_iload_3 h dX12_readTop_73 ?_
    refine g_iconst h dX12_readTop_74 (v := nI 0) rfl ?_
    refine g_cVi2 h rok0 mi_X12_readOver dX12_readTop_75 ml_X12_257 rfl rfl rfl (Nat.le_of_ble_eq_true rfl) (Nat.le_of_ble_eq_true rfl) (sp_ovB (many := 0) hV (by omega) (hy6 e6) hP hR (fun k3 I2 many2 g2 m2 r2 => ?_) (fun k3 => ?_))
    · refine g_istore_4 h dX12_readTop_78 (by decide) rfl ?_
      refine g_aload_0 h dX12_readTop_80 ?_
      refine g_iload_3 h dX12_readTop_81 ?_
      refine g_iload_4 h dX12_readTop_82 ?_
      refine g_cVi2 h rok0 mi_X12_readOver dX12_readTop_84 ml_X12_257 rfl rfl rfl (Nat.le_of_ble_eq_true rfl) (Nat.le_of_ble_eq_true rfl) (sp_ovB hV m2 (hy6 e6) hP r2 (fun k4 I3 many3 g3 m3 r3 => ?_) (fun k4 => ?_))
      · refine g_istore_4 h dX12_readTop_87 (by decide) rfl ?_
        exact lp_topB (y := y) (e := p + 5 + g) (I0 := I) hV (hy6 e6) (he k3 k4) hP h (fun I' many' m' r' g' => tl_readTopB (hQB e6 k3 k4 I' r' g') h) g (p + 3 + 1 + 1) many3 I3 (by omega) (fun t t1 t2 => hrun t (by omega) t2) m3 r3 (g2.tr g3)
      · have b9 : rD M (p + 4) I (up2 _ 80 16 (nI (p + 4))) := rD.new (g2.l (Or.inl rfl)) (by have := r2.1.M4; omega)
        refine g_istore_4 h dX12_readTop_87 (by decide) rfl ?_
        refine g_aload_0 h dX12_readTop_89 ?_
        refine g_cVi0 h rok0 mi_X12_isOk dX12_readTop_90 ml_X12_121 rfl rfl rfl (Nat.le_of_ble_eq_true rfl) (Nat.le_of_ble_eq_true rfl) (sp_isOk_dd (f := p + 4) (by omega) b9.2.1 ?_)
        refine g_if_eq h 121 dX12_readTop_93 rfl (fun _ => ?_) (fun c => absurd c (by decide))
        exact tl_readTopB (hQ0 _ (p + 4) (Or.inr ⟨k3, k4, rfl⟩) b9) h
    · have b9 : rD M (p + 3) I (up2 _ 80 16 (nI (p + 3))) := rD.new FRl.rf (by have := hR.1.M4; omega)
      refine g_istore_4 h dX12_readTop_78 (by decide) rfl ?_
      refine g_aload_0 h dX12_readTop_80 ?_
      refine g_iload_3 h dX12_readTop_81 ?_
      refine g_iload_4 h dX12_readTop_82 ?_
      refine g_cVi2 h rok0 mi_X12_readOver dX12_readTop_84 ml_X12_257 rfl rfl rfl (Nat.le_of_ble_eq_true rfl) (Nat.le_of_ble_eq_true rfl) (sp_readOver_dd hP (f := p + 3) (by omega) b9.2.1 ?_)
      refine g_istore_4 h dX12_readTop_87 (by decide) rfl ?_
      refine g_aload_0 h dX12_readTop_89 ?_
      refine g_cVi0 h rok0 mi_X12_isOk dX12_readTop_90 ml_X12_121 rfl rfl rfl (Nat.le_of_ble_eq_true rfl) (Nat.le_of_ble_eq_true rfl) (sp_isOk_dd (f := p + 3) (by omega) b9.2.1 ?_)
      refine g_if_eq h 121 dX12_readTop_93 rfl (fun _ => ?_) (fun c => absurd c (by decide))
      exact tl_readTopB (hQ0 _ (p + 3) (Or.inl ⟨k3, rfl⟩) b9) h
