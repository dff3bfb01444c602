/-! The reference's parser: readOver, both rows -/
set_option maxRecDepth 100000 in
set_option maxHeartbeats 4000000 in
theorem sp_readOverA {K wd : Nat → Nat} {V : Nat → Int32} {M : Nat} {T : MI} {d p z many : Nat} {n : Nat} (hn : n < 6) (hm : many ≤ 8) {x : Option (Nat × Nat)} {I : MI} {J : MJ} {P : MP} (hP : P 80 9 = some 104) (hR : rL K wd V M T I p z x) {Q : Int32 → MI → MJ → MP → Prop} (hQ8 : K p = 28 → many = 8 → ∀ I', FRm z I I' → rL K wd V M T I' (p + 1) z (x.or (if (lkT wd T 1 p) = -1 then some (3, p) else if many = 8 then some (4, p) else if dupB (I 109) ((9 * n) + 1) many (lkT wd T 1 p) = true then some (5, p) else none)) → Q (nI 8) I' J P) (hQ7 : K p = 28 → many < 8 → ∀ I', FRm z I I' → rL K wd V M T I' (p + 1) z (x.or (if (lkT wd T 1 p) = -1 then some (3, p) else if many = 8 then some (4, p) else if dupB (I 109) ((9 * n) + 1) many (lkT wd T 1 p) = true then some (5, p) else none)) → Q (nI (many + 1)) (up2 I' 109 ((9 * n) + many + 1) (lkT wd T 1 p)) J P) (hQ0 : ¬ K p = 28 → Q (nI many) (up2 I 80 16 (nI p)) J P) : Sp yX12_readOver cX12_readOver 8 (some .int) (d + 4) [.ref 80, .int (nI (9 * n)), .int (nI many)] I J P (Qi Q) := by
  intro Γ h
  show VG Γ 0 0 0 [some (.ref 80), some (.int (nI (9 * n))), some (.int (nI many)), none, none, none, none, none] [] _ _ _ _
  have hat : I 80 14 = nI p := hR.1.2.1.1
  have hM := hR.1.M4
  have hx := hR.1.2.2.2.2.2.1
  have hs : shp 109 = .inr (0, _) := rfl
  refine g_aload_0 h dX12_readOver_0 ?_
  refine g_getI h fl_X12_118 dX12_readOver_1 rfl rfl ?_
  rw [hat]
  refine g_istore_3 h dX12_readOver_4 (by decide) rfl ?_
  refine g_aload_0 h dX12_readOver_5 ?_
  refine g_cVi0 h rok0 mi_X12_knownCord dX12_readOver_6 ml_X12_185 rfl rfl rfl (Nat.le_of_ble_eq_true rfl) (Nat.le_of_ble_eq_true rfl) (sp_knCord hP hR (fun q I2 f2 r2 => ?_) (fun q => ?_))
  · refine g_istore_4 h dX12_readOver_9 (by decide) rfl ?_
    refine g_aload_0 h dX12_readOver_11 ?_
    refine g_cVi0 h rok0 mi_X12_isOk dX12_readOver_12 ml_X12_121 rfl rfl rfl (Nat.le_of_ble_eq_true rfl) (Nat.le_of_ble_eq_true rfl) (sp_isOk_al r2.1.2.1 ?_)
    refine g_if_ne h 20 dX12_readOver_15 rfl (fun _ => ?_) (fun c => absurd c (by decide))
    refine g_iload_1 h dX12_readOver_20 ?_
    refine g_iconst h dX12_readOver_21 (v := (-1)) rfl ?_
    refine g_icmp_ne h 32 dX12_readOver_22 rfl (fun _ => ?_) (fun c => absurd c (m1_nI (by omega)))
    refine g_aload_0 h dX12_readOver_32 ?_
    refine g_getP h fl_X12_91 dX12_readOver_33 rfl rfl (by assumption) ?_
    refine g_getC h fl_X12_260 dX12_readOver_36 rfl rfl ?_
    refine g_astore_5 h dX12_readOver_39 (by decide) rfl ?_
    refine g_iload_1 h dX12_readOver_41 ?_
    refine g_iconst h dX12_readOver_42 (v := (-1)) rfl ?_
    refine g_icmp_ne h 50 dX12_readOver_43 rfl (fun _ => ?_) (fun c => absurd c (m1_nI (by omega)))
    refine g_iload_1 h dX12_readOver_50 ?_
    refine g_istore_6 h dX12_readOver_51 (by decide) rfl ?_
    refine g_iconst h dX12_readOver_53 (v := nI 1) rfl ?_
    refine g_istore_7 h dX12_readOver_54 (by decide) rfl ?_
    have eR : I2 109 = I 109 := funext fun j => f2 109 j (by omega) (by omega) (by omega)
    by_cases o : (lkT wd T 1 p) = -1
    · refine lp_ovN hm o h ?_ many 1 (by omega) (Nat.le_refl _)
      exact ex_over (tot := dupB (I 109) ((9 * n) + 1) many (lkT wd T 1 p)) hs (by omega) (by decide) hm hx r2 (by rw [if_pos o, if_pos o]) (fun m8 I' f' r' => hQ8 q m8 I' (f2.tr f' (Nat.le_refl _)) r') (fun m7 r' => hQ7 q m7 I2 f2 r') h
    · rw [if_neg o] at r2
      refine lp_ovR (tot := dupB (I 109) ((9 * n) + 1) many (lkT wd T 1 p)) (I0 := I2) hs (by decide) (by omega) (by decide) hm (by omega) hx o h (fun I3 t3 e3 => ?_) many 1 false I2 (by omega) (Nat.le_refl _) tlF.rf r2.1.2.2.2.2.1 (by rw [Bool.false_or, dupB, eR])
      obtain ⟨s1, s2⟩ := r2.1.tell t3 e3 (or_lt hx (q := p + 1) (fun w hw => by
        by_cases r : dupB (I 109) ((9 * n) + 1) many (lkT wd T 1 p) = true
        · rw [if_pos r] at hw
          rw [← Option.some.inj hw]; exact Nat.lt_succ_self p
        · rw [if_neg r] at hw
          cases hw) (by omega))
      have f3 := f2.tr s2 (Nat.le_refl _)
      exact ex_over (tot := dupB (I 109) ((9 * n) + 1) many (lkT wd T 1 p)) hs (by omega) (by decide) hm hx (r2.fr s1 s2) (by rw [if_neg o]) (fun m8 I' f' r' => hQ8 q m8 I' (f3.tr f' (Nat.le_refl _)) r') (fun m7 r' => hQ7 q m7 I3 f3 r') h
  · refine g_istore_4 h dX12_readOver_9 (by decide) rfl ?_
    refine g_aload_0 h dX12_readOver_11 ?_
    refine g_cVi0 h rok0 mi_X12_isOk dX12_readOver_12 ml_X12_121 rfl rfl rfl (Nat.le_of_ble_eq_true rfl) (Nat.le_of_ble_eq_true rfl) (sp_isOk_dd (f := p) (by omega) up2_s ?_)
    refine g_if_ne h 20 dX12_readOver_15 rfl (fun c => absurd c (by decide)) (fun _ => ?_)
    refine g_iload_2 h dX12_readOver_18 ?_
    refine g_iret h dX12_readOver_19 ?_
    exact hQ0 q
set_option maxRecDepth 100000 in
set_option maxHeartbeats 4000000 in
theorem sp_readOverB {K wd : Nat → Nat} {V : Nat → Int32} {M : Nat} {T : MI} {d p z many : Nat}  (hm : many ≤ 8) {x : Option (Nat × Nat)} {I : MI} {J : MJ} {P : MP} (hP : P 80 9 = some 104) (hR : rL K wd V M T I p z x) {Q : Int32 → MI → MJ → MP → Prop} (hQ8 : K p = 28 → many = 8 → ∀ I', FRm z I I' → rL K wd V M T I' (p + 1) z (x.or (if (lkT wd T 1 p) = -1 then some (3, p) else if many = 8 then some (4, p) else if dupB (I 90) (0 + 1) many (lkT wd T 1 p) = true then some (5, p) else none)) → Q (nI 8) I' J P) (hQ7 : K p = 28 → many < 8 → ∀ I', FRm z I I' → rL K wd V M T I' (p + 1) z (x.or (if (lkT wd T 1 p) = -1 then some (3, p) else if many = 8 then some (4, p) else if dupB (I 90) (0 + 1) many (lkT wd T 1 p) = true then some (5, p) else none)) → Q (nI (many + 1)) (up2 I' 90 (0 + many + 1) (lkT wd T 1 p)) J P) (hQ0 : ¬ K p = 28 → Q (nI many) (up2 I 80 16 (nI p)) J P) : Sp yX12_readOver cX12_readOver 8 (some .int) (d + 4) [.ref 80, .int (-1), .int (nI many)] I J P (Qi Q) := by
  intro Γ h
  show VG Γ 0 0 0 [some (.ref 80), some (.int (-1)), some (.int (nI many)), none, none, none, none, none] [] _ _ _ _
  have hat : I 80 14 = nI p := hR.1.2.1.1
  have hM := hR.1.M4
  have hx := hR.1.2.2.2.2.2.1
  have hs : shp 90 = .inr (0, _) := rfl
  refine g_aload_0 h dX12_readOver_0 ?_
  refine g_getI h fl_X12_118 dX12_readOver_1 rfl rfl ?_
  rw [hat]
  refine g_istore_3 h dX12_readOver_4 (by decide) rfl ?_
  refine g_aload_0 h dX12_readOver_5 ?_
  refine g_cVi0 h rok0 mi_X12_knownCord dX12_readOver_6 ml_X12_185 rfl rfl rfl (Nat.le_of_ble_eq_true rfl) (Nat.le_of_ble_eq_true rfl) (sp_knCord hP hR (fun q I2 f2 r2 => ?_) (fun q => ?_))
  · refine g_istore_4 h dX12_readOver_9 (by decide) rfl ?_
    refine g_aload_0 h dX12_readOver_11 ?_
    refine g_cVi0 h rok0 mi_X12_isOk dX12_readOver_12 ml_X12_121 rfl rfl rfl (Nat.le_of_ble_eq_true rfl) (Nat.le_of_ble_eq_true rfl) (sp_isOk_al r2.1.2.1 ?_)
    refine g_if_ne h 20 dX12_readOver_15 rfl (fun _ => ?_) (fun c => absurd c (by decide))
    refine g_iload_1 h dX12_readOver_20 ?_
    refine g_iconst h dX12_readOver_21 (v := (-1)) rfl ?_
    refine g_icmp_ne h 32 dX12_readOver_22 rfl (fun c => absurd rfl c) (fun _ => ?_)
    refine g_aload_0 h dX12_readOver_25 ?_
    refine g_getC h fl_X12_106 dX12_readOver_26 rfl rfl ?_
    refine g_goto h 39 dX12_readOver_29 rfl ?_
    refine g_astore_5 h dX12_readOver_39 (by decide) rfl ?_
    refine g_iload_1 h dX12_readOver_41 ?_
    refine g_iconst h dX12_readOver_42 (v := (-1)) rfl ?_
    refine g_icmp_ne h 50 dX12_readOver_43 rfl (fun c => absurd rfl c) (fun _ => ?_)
    refine g_iconst h dX12_readOver_46 (v := nI 0) rfl ?_
    refine g_goto h 51 dX12_readOver_47 rfl ?_
    refine g_istore_6 h dX12_readOver_51 (by decide) rfl ?_
    refine g_iconst h dX12_readOver_53 (v := nI 1) rfl ?_
    refine g_istore_7 h dX12_readOver_54 (by decide) rfl ?_
    have eR : I2 90 = I 90 := funext fun j => f2 90 j (by omega) (by omega) (by omega)
    by_cases o : (lkT wd T 1 p) = -1
    · refine lp_ovN hm o h ?_ many 1 (by omega) (Nat.le_refl _)
      exact ex_over (tot := dupB (I 90) (0 + 1) many (lkT wd T 1 p)) hs (by omega) (by decide) hm hx r2 (by rw [if_pos o, if_pos o]) (fun m8 I' f' r' => hQ8 q m8 I' (f2.tr f' (Nat.le_refl _)) r') (fun m7 r' => hQ7 q m7 I2 f2 r') h
    · rw [if_neg o] at r2
      refine lp_ovR (tot := dupB (I 90) (0 + 1) many (lkT wd T 1 p)) (I0 := I2) hs (by decide) (by omega) (by decide) hm (by omega) hx o h (fun I3 t3 e3 => ?_) many 1 false I2 (by omega) (Nat.le_refl _) tlF.rf r2.1.2.2.2.2.1 (by rw [Bool.false_or, dupB, eR])
      obtain ⟨s1, s2⟩ := r2.1.tell t3 e3 (or_lt hx (q := p + 1) (fun w hw => by
        by_cases r : dupB (I 90) (0 + 1) many (lkT wd T 1 p) = true
        · rw [if_pos r] at hw
          rw [← Option.some.inj hw]; exact Nat.lt_succ_self p
        · rw [if_neg r] at hw
          cases hw) (by omega))
      have f3 := f2.tr s2 (Nat.le_refl _)
      exact ex_over (tot := dupB (I 90) (0 + 1) many (lkT wd T 1 p)) hs (by omega) (by decide) hm hx (r2.fr s1 s2) (by rw [if_neg o]) (fun m8 I' f' r' => hQ8 q m8 I' (f3.tr f' (Nat.le_refl _)) r') (fun m7 r' => hQ7 q m7 I3 f3 r') h
  · refine g_istore_4 h dX12_readOver_9 (by decide) rfl ?_
    refine g_aload_0 h dX12_readOver_11 ?_
    refine g_cVi0 h rok0 mi_X12_isOk dX12_readOver_12 ml_X12_121 rfl rfl rfl (Nat.le_of_ble_eq_true rfl) (Nat.le_of_ble_eq_true rfl) (sp_isOk_dd (f := p) (by omega) up2_s ?_)
    refine g_if_ne h 20 dX12_readOver_15 rfl (fun c => absurd c (by decide)) (fun _ => ?_)
    refine g_iload_2 h dX12_readOver_18 ?_
    refine g_iret h dX12_readOver_19 ?_
    exact hQ0 q
set_option maxRecDepth 100000 in
set_option maxHeartbeats 4000000 in
theorem sp_readOver_dd {d : Nat} {vb v : Int32} {I : MI} {J : MJ} {P : MP} (hP : P 80 9 = some 104) {f : Nat} (hf4 : f < 2 ^ 31) (hf : I 80 16 = nI f) {Q : Int32 → MI → MJ → MP → Prop} (hQ : Q v I J P) : Sp yX12_readOver cX12_readOver 8 (some .int) (d + 4) [.ref 80, .int vb, .int v] I J P (Qi Q) := by
  intro Γ h
  show VG Γ 0 0 0 [some (.ref 80), some (.int vb), some (.int v), none, none, none, none, none] [] _ _ _ _
  refine g_aload_0 h dX12_readOver_0 ?_
  refine g_getI h fl_X12_118 dX12_readOver_1 rfl rfl ?_
  refine g_istore_3 h dX12_readOver_4 (by decide) rfl ?_
  refine g_aload_0 h dX12_readOver_5 ?_
  refine g_cVi0 h rok0 mi_X12_knownCord dX12_readOver_6 ml_X12_185 rfl rfl rfl (Nat.le_of_ble_eq_true rfl) (Nat.le_of_ble_eq_true rfl) (sp_knCord_dd hP hf4 hf ?_)
  refine g_istore_4 h dX12_readOver_9 (by decide) rfl ?_
  refine g_aload_0 h dX12_readOver_11 ?_
  refine g_cVi0 h rok0 mi_X12_isOk dX12_readOver_12 ml_X12_121 rfl rfl rfl (Nat.le_of_ble_eq_true rfl) (Nat.le_of_ble_eq_true rfl) (sp_isOk_dd hf4 hf ?_)
  refine g_if_ne h 20 dX12_readOver_15 rfl (fun c => absurd c (by decide)) (fun _ => ?_)
  refine g_iload_2 h dX12_readOver_18 ?_
  refine g_iret h dX12_readOver_19 ?_
  exact hQ
