/-! The reference's parser: one, sums -/
set_option maxRecDepth 100000 in
set_option maxHeartbeats 4000000 in
theorem one_29 {K wd : Nat → Nat} {V mm : Nat → Int32} {M : Nat} {c D : Nat} {b : Bool} {g : Nat → PRs} {p z : Nat} {x : Option (Nat × Nat)} {I : MI} {J : MJ} {P : MP} (hP : P 80 9 = some 104) (hE : rE K wd V M mm I c p z x) (k1 : K p = 29) {Q : Int32 → MI → MJ → MP → Prop} (hS : ∀ I' v z', (vS K V mm b g p).1 = true → rgE K wd V M mm I c p z x (vS K V mm b g p).2.1 z' I' → (fbd K mm ((vS K V mm b g p).2.1 - p) p = none → nd true I' z' v (vS K V mm b g p).2.2) → Q v I' J P) (hF : ∀ I' v, (vS K V mm b g p).1 = false → rB M I p z (vS K V mm b g p).2.1 I' → Q v I' J P) : Sp yX12_one cX12_one 2 (some .int) (D + 10) [.ref 80] I J P (Qi Q) := by
  intro Γ h
  show VG Γ 0 0 0 [some (.ref 80), none] [] _ _ _ _
  obtain ⟨M4, K45, hp, hzp, c8⟩ := hE.M4
  obtain ⟨k47, k82, k83a, k83b, k83c⟩ := hE.1.2.2.1 p hp
  have s3 := srt3 _ k47
  have hsl := srt_lt (K p)
  have hpM := K_lt K45 hp k1 (by decide)
  refine g_aload_0 h dX12_one_0 ?_
  refine g_cVi0 h rok0 mi_X12_isOk dX12_one_1 ml_X12_121 rfl rfl rfl (Nat.le_of_ble_eq_true rfl) (Nat.le_of_ble_eq_true rfl) (sp_isOk_al hE.2.1 ?_)
  refine g_if_ne h 9 dX12_one_4 rfl (fun _ => ?_) (fun c => absurd c (by decide))
  refine g_aload_0 h dX12_one_9 ?_
  refine g_getC h fl_X12_36 dX12_one_10 rfl rfl ?_
  refine g_aload_0 h dX12_one_13 ?_
  refine g_getI h fl_X12_118 dX12_one_14 rfl rfl ?_
  refine g_iald h p dX12_one_17 rfl hE.2.1.1 (by omega) ?_
  rw [show I 82 p = nI 3 by rw [k82, k1]; rfl]
  refine g_iconst h dX12_one_18 (v := nI 3) rfl ?_
  refine g_icmp_ne h 40 dX12_one_19 rfl (fun c => absurd c (by decide)) (fun _ => ?_)
  refine g_aload_0 h dX12_one_22 ?_
  refine g_getP h fl_X12_91 dX12_one_23 rfl rfl (by assumption) ?_
  refine g_bipush h dX12_one_26 (v := nI 35) rfl ?_
  refine g_aload_0 h dX12_one_28 ?_
  refine g_iconst h dX12_one_29 (v := nI 0) rfl ?_
  refine g_ldcI h dX12_one_30 lc_X12_180 ?_
  refine g_cVi2 h rok0 mi_X12_number dX12_one_32 ml_X12_181 rfl rfl rfl (Nat.le_of_ble_eq_true rfl) (Nat.le_of_ble_eq_true rfl) (sp_number hE.1 hE.2.1 hE.2.2.1 hE.2.2.2.2.1 (fun _ I2 f2 a2 e2 => ?_) (fun q => absurd k1 q))
  · have hi : inB (V p) (nI 0) 999999 = true := hE.2.2.2.2.2.2.2.1 p hp k1
    rw [if_pos hi] at e2
    obtain ⟨s1, s2⟩ := hE.mv f2 a2 e2 (fun y hy => by have := hE.2.2.2.2.2.1 y hy; omega) hpM
    refine g_iconst h dX12_one_35 (v := nI 0) rfl ?_
    refine g_cVi3 h rok0 mi_X11_node dX12_one_36 ml_X12_173 rfl rfl rfl (Nat.le_of_ble_eq_true rfl) (Nat.le_of_ble_eq_true rfl) (sp_nodeW (z := z) (by omega) s1.cnt (fun I3 w3 => ?_))
    refine g_iret h dX12_one_39 ?_
    have hv : (vS K V mm b g p) = (true, p + 1, fun _ => V p) := by rw [vS, if_pos k1]
    refine hS _ _ (z + 1) (by rw [hv]) (by rw [hv]; exact ⟨s2.tr w3.1 (Nat.le_refl _), by rw [fbd_k1 (by omega), Option.or_none]; exact s1.nw (by omega) w3, by omega, by show z + 1 + p ≤ z + (p + 1); omega, by show p < p + 1; omega⟩) (by
      rw [hv]
      intro _
      exact nd_num (by omega) w3.2.1 w3.2.2.1)
set_option maxRecDepth 100000 in
set_option maxHeartbeats 4000000 in
theorem one_16 {K wd : Nat → Nat} {V mm : Nat → Int32} {M : Nat} {c D : Nat} {b : Bool} {g : Nat → PRs} {p z : Nat} {x : Option (Nat × Nat)} {I : MI} {J : MJ} {P : MP} (hP : P 80 9 = some 104) (hE : rE K wd V M mm I c p z x) (k1 : K p = 16) {Q : Int32 → MI → MJ → MP → Prop} (hS : ∀ I' v z', (vS K V mm b g p).1 = true → rgE K wd V M mm I c p z x (vS K V mm b g p).2.1 z' I' → (fbd K mm ((vS K V mm b g p).2.1 - p) p = none → nd true I' z' v (vS K V mm b g p).2.2) → Q v I' J P) (hF : ∀ I' v, (vS K V mm b g p).1 = false → rB M I p z (vS K V mm b g p).2.1 I' → Q v I' J P) : Sp yX12_one cX12_one 2 (some .int) (D + 10) [.ref 80] I J P (Qi Q) := by
  intro Γ h
  show VG Γ 0 0 0 [some (.ref 80), none] [] _ _ _ _
  obtain ⟨M4, K45, hp, hzp, c8⟩ := hE.M4
  obtain ⟨k47, k82, k83a, k83b, k83c⟩ := hE.1.2.2.1 p hp
  have s3 := srt3 _ k47
  have hsl := srt_lt (K p)
  have hpM := K_lt2 K45 hp (by omega)
  have hE1 := hE.at hpM
  refine g_aload_0 h dX12_one_0 ?_
  refine g_cVi0 h rok0 mi_X12_isOk dX12_one_1 ml_X12_121 rfl rfl rfl (Nat.le_of_ble_eq_true rfl) (Nat.le_of_ble_eq_true rfl) (sp_isOk_al hE.2.1 ?_)
  refine g_if_ne h 9 dX12_one_4 rfl (fun _ => ?_) (fun c => absurd c (by decide))
  refine g_aload_0 h dX12_one_9 ?_
  refine g_getC h fl_X12_36 dX12_one_10 rfl rfl ?_
  refine g_aload_0 h dX12_one_13 ?_
  refine g_getI h fl_X12_118 dX12_one_14 rfl rfl ?_
  refine g_iald h p dX12_one_17 rfl hE.2.1.1 (by omega) ?_
  rw [k82]
  refine g_iconst h dX12_one_18 (v := nI 3) rfl ?_
  refine g_icmp_ne h 40 dX12_one_19 rfl (fun _ => ?_) (fun c => absurd (s3.mp (eqN (by first | exact c | exact Classical.not_not.mp c) (by omega) (by decide))) (by omega))
  refine g_aload_0 h dX12_one_40 ?_
  refine g_iconst h dX12_one_41 (v := nI 2) rfl ?_
  refine g_bipush h dX12_one_42 (v := nI 16) rfl ?_
  refine g_cVi2 h rok0 mi_X12_is dX12_one_44 ml_X12_125 rfl rfl rfl (Nat.le_of_ble_eq_true rfl) (Nat.le_of_ble_eq_true rfl) (sp_is2 (k := 16) (by decide) hE.1 hE.2.1 hE.2.2.1 (fun _ => ?_) (fun q => absurd (show K p = 16 by omega) q))
  refine g_if_eq h 72 dX12_one_47 rfl (fun c => absurd c (by decide)) (fun _ => ?_)
  refine g_aload_0 h dX12_one_50 ?_
  refine g_dup h dX12_one_51 rfl ?_
  refine g_getI h fl_X12_118 dX12_one_52 rfl rfl ?_
  refine g_iconst h dX12_one_55 (v := nI 1) rfl ?_
  refine g_iadd h dX12_one_56 ?_
  refine g_putI h fp_X12_118 dX12_one_57 rfl rfl ?_
  rw [show I 80 14 + nI 1 = nI (p + 1) by rw [hE.2.1.1]; exact nI_1 p]
  refine g_aload_0 h dX12_one_60 ?_
  refine g_getP h fl_X12_91 dX12_one_61 rfl rfl (by assumption) ?_
  refine g_bipush h dX12_one_64 (v := nI 16) rfl ?_
  refine g_iconst h dX12_one_66 (v := nI 0) rfl ?_
  refine g_iconst h dX12_one_67 (v := nI 0) rfl ?_
  refine g_cVi3 h rok0 mi_X11_node dX12_one_68 ml_X12_173 rfl rfl rfl (Nat.le_of_ble_eq_true rfl) (Nat.le_of_ble_eq_true rfl) (sp_nodeW (z := z) (by omega) hE1.cnt (fun I3 w3 => ?_))
  refine g_iret h dX12_one_71 ?_
  have hv : (vS K V mm b g p) = (true, p + 1, fun e => e 16 (nI 0)) := by rw [vS, if_neg (by omega), if_pos k1]
  refine hS _ _ (z + 1) (by rw [hv]) (by rw [hv]; exact ⟨(FRm.at (by decide) (by decide)).tr w3.1 (Nat.le_refl _), by rw [fbd_k1 (by omega), Option.or_none]; exact hE1.nw (by omega) w3, by omega, by show z + 1 + p ≤ z + (p + 1); omega, by show p < p + 1; omega⟩) (by
    rw [hv]
    intro _
    exact nd_mon (by omega) w3.2.1)
set_option maxRecDepth 100000 in
set_option maxHeartbeats 4000000 in
theorem one_17 {K wd : Nat → Nat} {V mm : Nat → Int32} {M : Nat} {c D : Nat} {b : Bool} {g : Nat → PRs} {p z : Nat} {x : Option (Nat × Nat)} {I : MI} {J : MJ} {P : MP} (hP : P 80 9 = some 104) (hE : rE K wd V M mm I c p z x) (k1 : K p = 17) {Q : Int32 → MI → MJ → MP → Prop} (hS : ∀ I' v z', (vS K V mm b g p).1 = true → rgE K wd V M mm I c p z x (vS K V mm b g p).2.1 z' I' → (fbd K mm ((vS K V mm b g p).2.1 - p) p = none → nd true I' z' v (vS K V mm b g p).2.2) → Q v I' J P) (hF : ∀ I' v, (vS K V mm b g p).1 = false → rB M I p z (vS K V mm b g p).2.1 I' → Q v I' J P) : Sp yX12_one cX12_one 2 (some .int) (D + 10) [.ref 80] I J P (Qi Q) := by
  intro Γ h
  show VG Γ 0 0 0 [some (.ref 80), none] [] _ _ _ _
  obtain ⟨M4, K45, hp, hzp, c8⟩ := hE.M4
  obtain ⟨k47, k82, k83a, k83b, k83c⟩ := hE.1.2.2.1 p hp
  have s3 := srt3 _ k47
  have hsl := srt_lt (K p)
  have hpM := K_lt2 K45 hp (by omega)
  have hE1 := hE.at hpM
  refine g_aload_0 h dX12_one_0 ?_
  refine g_cVi0 h rok0 mi_X12_isOk dX12_one_1 ml_X12_121 rfl rfl rfl (Nat.le_of_ble_eq_true rfl) (Nat.le_of_ble_eq_true rfl) (sp_isOk_al hE.2.1 ?_)
  refine g_if_ne h 9 dX12_one_4 rfl (fun _ => ?_) (fun c => absurd c (by decide))
  refine g_aload_0 h dX12_one_9 ?_
  refine g_getC h fl_X12_36 dX12_one_10 rfl rfl ?_
  refine g_aload_0 h dX12_one_13 ?_
  refine g_getI h fl_X12_118 dX12_one_14 rfl rfl ?_
  refine g_iald h p dX12_one_17 rfl hE.2.1.1 (by omega) ?_
  rw [k82]
  refine g_iconst h dX12_one_18 (v := nI 3) rfl ?_
  refine g_icmp_ne h 40 dX12_one_19 rfl (fun _ => ?_) (fun c => absurd (s3.mp (eqN (by first | exact c | exact Classical.not_not.mp c) (by omega) (by decide))) (by omega))
  refine g_aload_0 h dX12_one_40 ?_
  refine g_iconst h dX12_one_41 (v := nI 2) rfl ?_
  refine g_bipush h dX12_one_42 (v := nI 16) rfl ?_
  refine g_cVi2 h rok0 mi_X12_is dX12_one_44 ml_X12_125 rfl rfl rfl (Nat.le_of_ble_eq_true rfl) (Nat.le_of_ble_eq_true rfl) (sp_is2 (k := 16) (by decide) hE.1 hE.2.1 hE.2.2.1 (fun q => absurd q (by omega)) (fun _ => ?_))
  refine g_if_eq h 72 dX12_one_47 rfl (fun _ => ?_) (fun c => absurd c (by decide))
  refine g_aload_0 h dX12_one_72 ?_
  refine g_iconst h dX12_one_73 (v := nI 2) rfl ?_
  refine g_bipush h dX12_one_74 (v := nI 17) rfl ?_
  refine g_cVi2 h rok0 mi_X12_is dX12_one_76 ml_X12_125 rfl rfl rfl (Nat.le_of_ble_eq_true rfl) (Nat.le_of_ble_eq_true rfl) (sp_is2 (k := 17) (by decide) hE.1 hE.2.1 hE.2.2.1 (fun _ => ?_) (fun q => absurd (show K p = 17 by omega) q))
  refine g_if_ne h 102 dX12_one_79 rfl (fun _ => ?_) (fun c => absurd c (by decide))
  refine g_aload_0 h dX12_one_102 ?_
  refine g_getC h fl_X12_42 dX12_one_103 rfl rfl ?_
  refine g_aload_0 h dX12_one_106 ?_
  refine g_getI h fl_X12_118 dX12_one_107 rfl rfl ?_
  refine g_iald h p dX12_one_110 rfl hE.2.1.1 (by omega) ?_
  rw [show I 83 p = nI 17 by rw [k83a (by omega), k1]]
  refine g_istore_1 h dX12_one_111 (by decide) rfl ?_
  refine g_aload_0 h dX12_one_112 ?_
  refine g_dup h dX12_one_113 rfl ?_
  refine g_getI h fl_X12_118 dX12_one_114 rfl rfl ?_
  refine g_iconst h dX12_one_117 (v := nI 1) rfl ?_
  refine g_iadd h dX12_one_118 ?_
  refine g_putI h fp_X12_118 dX12_one_119 rfl rfl ?_
  rw [show I 80 14 + nI 1 = nI (p + 1) by rw [hE.2.1.1]; exact nI_1 p]
  refine g_aload_0 h dX12_one_122 ?_
  refine g_getP h fl_X12_91 dX12_one_123 rfl rfl (by assumption) ?_
  refine g_iload_1 h dX12_one_126 ?_
  refine g_aload_0 h dX12_one_127 ?_
  refine g_cVi0 h rok0 mi_X12_knownCord dX12_one_128 ml_X12_185 rfl rfl rfl (Nat.le_of_ble_eq_true rfl) (Nat.le_of_ble_eq_true rfl) (sp_knownCord hP hE1 (by simp [k1]) (fun k2 I2 f2 e2 m2 => ?_) (fun k2 => ?_))
  · refine g_iconst h dX12_one_131 (v := nI 0) rfl ?_
    refine g_cVi3 h rok0 mi_X11_node dX12_one_132 ml_X12_173 rfl rfl rfl (Nat.le_of_ble_eq_true rfl) (Nat.le_of_ble_eq_true rfl) (sp_nodeW (z := z) (by omega) e2.cnt (fun I3 w3 => ?_))
    refine g_iret h dX12_one_135 ?_
    have hv : (vS K V mm b g p) = (true, p + 2, fun e => e (K p) (mm (p + 1))) := by rw [vS, if_neg (by omega), if_neg (by omega), if_pos (by omega), if_pos k2]
    have hp2 := e2.M4
    refine hS _ _ (z + 1) (by rw [hv]) (by rw [hv]; exact ⟨((FRm.at (by decide) (by decide)).tr f2 (Nat.le_refl _)).tr w3.1 (Nat.le_refl _), by rw [fbd_k2 (by omega)]; exact e2.nw (by omega) w3, by omega, by show z + 1 + p ≤ z + (p + 2); omega, by show p < p + 2; omega⟩) (by
      rw [hv]
      intro hb
      rw [fbd_k2 (by omega), fbd_1] at hb
      obtain ⟨j, j1, j2⟩ := m2 (fun q => by rw [if_pos ⟨k2, q⟩] at hb; cases hb)
      rw [k1, j2]
      exact nd_nam (k := 17) (by omega) (by decide) (by decide) w3.2.1 (w3.2.2.1.trans j2) (by
        obtain ⟨-, n1, n2, n3⟩ := w3.1.nvs
        simp only [show (17 ≤ 19) = True by decide, if_true, if_false, show (1 = 1) = True by decide]
        omega))
  · have hv : (vS K V mm b g p) = (false, p + 1, zE) := by rw [vS, if_neg (by omega), if_neg (by omega), if_pos (by omega), if_neg k2]
    have b0 : rB M I (p + 1) z (p + 1) (up2 (up2 I 80 14 (nI (p + 1))) 80 16 (nI (p + 1))) := rB.new (FRm.at (by decide) (by decide)) hE1.cnt (Nat.le_refl _) (by omega) (Nat.le_refl _) hpM
    obtain ⟨y, y3, y4⟩ := b0.cnt (by omega) M4 (by omega) (by omega)
    refine g_iconst h dX12_one_131 (v := nI 0) rfl ?_
    refine g_cVi3 h rok0 mi_X11_node dX12_one_132 ml_X12_173 rfl rfl rfl (Nat.le_of_ble_eq_true rfl) (Nat.le_of_ble_eq_true rfl) (sp_nodeW (z := y) y4 y3 (fun I9 w9 => ?_))
    refine g_iret h dX12_one_135 ?_
    exact hF _ _ (by rw [hv]) (by rw [hv]; exact b0.nd (p := p) (Nat.le_refl _) y3 y4 (by omega) w9)
set_option maxRecDepth 100000 in
set_option maxHeartbeats 4000000 in
theorem one_18 {K wd : Nat → Nat} {V mm : Nat → Int32} {M : Nat} {c D : Nat} {b : Bool} {g : Nat → PRs} {p z : Nat} {x : Option (Nat × Nat)} {I : MI} {J : MJ} {P : MP} (hP : P 80 9 = some 104) (hE : rE K wd V M mm I c p z x) (k1 : K p = 18) {Q : Int32 → MI → MJ → MP → Prop} (hS : ∀ I' v z', (vS K V mm b g p).1 = true → rgE K wd V M mm I c p z x (vS K V mm b g p).2.1 z' I' → (fbd K mm ((vS K V mm b g p).2.1 - p) p = none → nd true I' z' v (vS K V mm b g p).2.2) → Q v I' J P) (hF : ∀ I' v, (vS K V mm b g p).1 = false → rB M I p z (vS K V mm b g p).2.1 I' → Q v I' J P) : Sp yX12_one cX12_one 2 (some .int) (D + 10) [.ref 80] I J P (Qi Q) := by
  intro Γ h
  show VG Γ 0 0 0 [some (.ref 80), none] [] _ _ _ _
  obtain ⟨M4, K45, hp, hzp, c8⟩ := hE.M4
  obtain ⟨k47, k82, k83a, k83b, k83c⟩ := hE.1.2.2.1 p hp
  have s3 := srt3 _ k47
  have hsl := srt_lt (K p)
  have hpM := K_lt2 K45 hp (by omega)
  have hE1 := hE.at hpM
  refine g_aload_0 h dX12_one_0 ?_
  refine g_cVi0 h rok0 mi_X12_isOk dX12_one_1 ml_X12_121 rfl rfl rfl (Nat.le_of_ble_eq_true rfl) (Nat.le_of_ble_eq_true rfl) (sp_isOk_al hE.2.1 ?_)
  refine g_if_ne h 9 dX12_one_4 rfl (fun _ => ?_) (fun c => absurd c (by decide))
  refine g_aload_0 h dX12_one_9 ?_
  refine g_getC h fl_X12_36 dX12_one_10 rfl rfl ?_
  refine g_aload_0 h dX12_one_13 ?_
  refine g_getI h fl_X12_118 dX12_one_14 rfl rfl ?_
  refine g_iald h p dX12_one_17 rfl hE.2.1.1 (by omega) ?_
  rw [k82]
  refine g_iconst h dX12_one_18 (v := nI 3) rfl ?_
  refine g_icmp_ne h 40 dX12_one_19 rfl (fun _ => ?_) (fun c => absurd (s3.mp (eqN (by first | exact c | exact Classical.not_not.mp c) (by omega) (by decide))) (by omega))
  refine g_aload_0 h dX12_one_40 ?_
  refine g_iconst h dX12_one_41 (v := nI 2) rfl ?_
  refine g_bipush h dX12_one_42 (v := nI 16) rfl ?_
  refine g_cVi2 h rok0 mi_X12_is dX12_one_44 ml_X12_125 rfl rfl rfl (Nat.le_of_ble_eq_true rfl) (Nat.le_of_ble_eq_true rfl) (sp_is2 (k := 16) (by decide) hE.1 hE.2.1 hE.2.2.1 (fun q => absurd q (by omega)) (fun _ => ?_))
  refine g_if_eq h 72 dX12_one_47 rfl (fun _ => ?_) (fun c => absurd c (by decide))
  refine g_aload_0 h dX12_one_72 ?_
  refine g_iconst h dX12_one_73 (v := nI 2) rfl ?_
  refine g_bipush h dX12_one_74 (v := nI 17) rfl ?_
  refine g_cVi2 h rok0 mi_X12_is dX12_one_76 ml_X12_125 rfl rfl rfl (Nat.le_of_ble_eq_true rfl) (Nat.le_of_ble_eq_true rfl) (sp_is2 (k := 17) (by decide) hE.1 hE.2.1 hE.2.2.1 (fun q => absurd q (by omega)) (fun _ => ?_))
  refine g_if_ne h 102 dX12_one_79 rfl (fun c => absurd c (by decide)) (fun _ => ?_)
  refine g_aload_0 h dX12_one_82 ?_
  refine g_iconst h dX12_one_83 (v := nI 2) rfl ?_
  refine g_bipush h dX12_one_84 (v := nI 18) rfl ?_
  refine g_cVi2 h rok0 mi_X12_is dX12_one_86 ml_X12_125 rfl rfl rfl (Nat.le_of_ble_eq_true rfl) (Nat.le_of_ble_eq_true rfl) (sp_is2 (k := 18) (by decide) hE.1 hE.2.1 hE.2.2.1 (fun _ => ?_) (fun q => absurd (show K p = 18 by omega) q))
  refine g_if_ne h 102 dX12_one_89 rfl (fun _ => ?_) (fun c => absurd c (by decide))
  refine g_aload_0 h dX12_one_102 ?_
  refine g_getC h fl_X12_42 dX12_one_103 rfl rfl ?_
  refine g_aload_0 h dX12_one_106 ?_
  refine g_getI h fl_X12_118 dX12_one_107 rfl rfl ?_
  refine g_iald h p dX12_one_110 rfl hE.2.1.1 (by omega) ?_
  rw [show I 83 p = nI 18 by rw [k83a (by omega), k1]]
  refine g_istore_1 h dX12_one_111 (by decide) rfl ?_
  refine g_aload_0 h dX12_one_112 ?_
  refine g_dup h dX12_one_113 rfl ?_
  refine g_getI h fl_X12_118 dX12_one_114 rfl rfl ?_
  refine g_iconst h dX12_one_117 (v := nI 1) rfl ?_
  refine g_iadd h dX12_one_118 ?_
  refine g_putI h fp_X12_118 dX12_one_119 rfl rfl ?_
  rw [show I 80 14 + nI 1 = nI (p + 1) by rw [hE.2.1.1]; exact nI_1 p]
  refine g_aload_0 h dX12_one_122 ?_
  refine g_getP h fl_X12_91 dX12_one_123 rfl rfl (by assumption) ?_
  refine g_iload_1 h dX12_one_126 ?_
  refine g_aload_0 h dX12_one_127 ?_
  refine g_cVi0 h rok0 mi_X12_knownCord dX12_one_128 ml_X12_185 rfl rfl rfl (Nat.le_of_ble_eq_true rfl) (Nat.le_of_ble_eq_true rfl) (sp_knownCord hP hE1 (by simp [k1]) (fun k2 I2 f2 e2 m2 => ?_) (fun k2 => ?_))
  · refine g_iconst h dX12_one_131 (v := nI 0) rfl ?_
    refine g_cVi3 h rok0 mi_X11_node dX12_one_132 ml_X12_173 rfl rfl rfl (Nat.le_of_ble_eq_true rfl) (Nat.le_of_ble_eq_true rfl) (sp_nodeW (z := z) (by omega) e2.cnt (fun I3 w3 => ?_))
    refine g_iret h dX12_one_135 ?_
    have hv : (vS K V mm b g p) = (true, p + 2, fun e => e (K p) (mm (p + 1))) := by rw [vS, if_neg (by omega), if_neg (by omega), if_pos (by omega), if_pos k2]
    have hp2 := e2.M4
    refine hS _ _ (z + 1) (by rw [hv]) (by rw [hv]; exact ⟨((FRm.at (by decide) (by decide)).tr f2 (Nat.le_refl _)).tr w3.1 (Nat.le_refl _), by rw [fbd_k2 (by omega)]; exact e2.nw (by omega) w3, by omega, by show z + 1 + p ≤ z + (p + 2); omega, by show p < p + 2; omega⟩) (by
      rw [hv]
      intro hb
      rw [fbd_k2 (by omega), fbd_1] at hb
      obtain ⟨j, j1, j2⟩ := m2 (fun q => by rw [if_pos ⟨k2, q⟩] at hb; cases hb)
      rw [k1, j2]
      exact nd_nam (k := 18) (by omega) (by decide) (by decide) w3.2.1 (w3.2.2.1.trans j2) (by
        obtain ⟨-, n1, n2, n3⟩ := w3.1.nvs
        simp only [show (18 ≤ 19) = True by decide, if_true, if_false, show (1 = 1) = True by decide]
        omega))
  · have hv : (vS K V mm b g p) = (false, p + 1, zE) := by rw [vS, if_neg (by omega), if_neg (by omega), if_pos (by omega), if_neg k2]
    have b0 : rB M I (p + 1) z (p + 1) (up2 (up2 I 80 14 (nI (p + 1))) 80 16 (nI (p + 1))) := rB.new (FRm.at (by decide) (by decide)) hE1.cnt (Nat.le_refl _) (by omega) (Nat.le_refl _) hpM
    obtain ⟨y, y3, y4⟩ := b0.cnt (by omega) M4 (by omega) (by omega)
    refine g_iconst h dX12_one_131 (v := nI 0) rfl ?_
    refine g_cVi3 h rok0 mi_X11_node dX12_one_132 ml_X12_173 rfl rfl rfl (Nat.le_of_ble_eq_true rfl) (Nat.le_of_ble_eq_true rfl) (sp_nodeW (z := y) y4 y3 (fun I9 w9 => ?_))
    refine g_iret h dX12_one_135 ?_
    exact hF _ _ (by rw [hv]) (by rw [hv]; exact b0.nd (p := p) (Nat.le_refl _) y3 y4 (by omega) w9)
set_option maxRecDepth 100000 in
set_option maxHeartbeats 4000000 in
theorem one_19 {K wd : Nat → Nat} {V mm : Nat → Int32} {M : Nat} {c D : Nat} {b : Bool} {g : Nat → PRs} {p z : Nat} {x : Option (Nat × Nat)} {I : MI} {J : MJ} {P : MP} (hP : P 80 9 = some 104) (hE : rE K wd V M mm I c p z x) (k1 : K p = 19) {Q : Int32 → MI → MJ → MP → Prop} (hS : ∀ I' v z', (vS K V mm b g p).1 = true → rgE K wd V M mm I c p z x (vS K V mm b g p).2.1 z' I' → (fbd K mm ((vS K V mm b g p).2.1 - p) p = none → nd true I' z' v (vS K V mm b g p).2.2) → Q v I' J P) (hF : ∀ I' v, (vS K V mm b g p).1 = false → rB M I p z (vS K V mm b g p).2.1 I' → Q v I' J P) : Sp yX12_one cX12_one 2 (some .int) (D + 10) [.ref 80] I J P (Qi Q) := by
  intro Γ h
  show VG Γ 0 0 0 [some (.ref 80), none] [] _ _ _ _
  obtain ⟨M4, K45, hp, hzp, c8⟩ := hE.M4
  obtain ⟨k47, k82, k83a, k83b, k83c⟩ := hE.1.2.2.1 p hp
  have s3 := srt3 _ k47
  have hsl := srt_lt (K p)
  have hpM := K_lt2 K45 hp (by omega)
  have hE1 := hE.at hpM
  refine g_aload_0 h dX12_one_0 ?_
  refine g_cVi0 h rok0 mi_X12_isOk dX12_one_1 ml_X12_121 rfl rfl rfl (Nat.le_of_ble_eq_true rfl) (Nat.le_of_ble_eq_true rfl) (sp_isOk_al hE.2.1 ?_)
  refine g_if_ne h 9 dX12_one_4 rfl (fun _ => ?_) (fun c => absurd c (by decide))
  refine g_aload_0 h dX12_one_9 ?_
  refine g_getC h fl_X12_36 dX12_one_10 rfl rfl ?_
  refine g_aload_0 h dX12_one_13 ?_
  refine g_getI h fl_X12_118 dX12_one_14 rfl rfl ?_
  refine g_iald h p dX12_one_17 rfl hE.2.1.1 (by omega) ?_
  rw [k82]
  refine g_iconst h dX12_one_18 (v := nI 3) rfl ?_
  refine g_icmp_ne h 40 dX12_one_19 rfl (fun _ => ?_) (fun c => absurd (s3.mp (eqN (by first | exact c | exact Classical.not_not.mp c) (by omega) (by decide))) (by omega))
  refine g_aload_0 h dX12_one_40 ?_
  refine g_iconst h dX12_one_41 (v := nI 2) rfl ?_
  refine g_bipush h dX12_one_42 (v := nI 16) rfl ?_
  refine g_cVi2 h rok0 mi_X12_is dX12_one_44 ml_X12_125 rfl rfl rfl (Nat.le_of_ble_eq_true rfl) (Nat.le_of_ble_eq_true rfl) (sp_is2 (k := 16) (by decide) hE.1 hE.2.1 hE.2.2.1 (fun q => absurd q (by omega)) (fun _ => ?_))
  refine g_if_eq h 72 dX12_one_47 rfl (fun _ => ?_) (fun c => absurd c (by decide))
  refine g_aload_0 h dX12_one_72 ?_
  refine g_iconst h dX12_one_73 (v := nI 2) rfl ?_
  refine g_bipush h dX12_one_74 (v := nI 17) rfl ?_
  refine g_cVi2 h rok0 mi_X12_is dX12_one_76 ml_X12_125 rfl rfl rfl (Nat.le_of_ble_eq_true rfl) (Nat.le_of_ble_eq_true rfl) (sp_is2 (k := 17) (by decide) hE.1 hE.2.1 hE.2.2.1 (fun q => absurd q (by omega)) (fun _ => ?_))
  refine g_if_ne h 102 dX12_one_79 rfl (fun c => absurd c (by decide)) (fun _ => ?_)
  refine g_aload_0 h dX12_one_82 ?_
  refine g_iconst h dX12_one_83 (v := nI 2) rfl ?_
  refine g_bipush h dX12_one_84 (v := nI 18) rfl ?_
  refine g_cVi2 h rok0 mi_X12_is dX12_one_86 ml_X12_125 rfl rfl rfl (Nat.le_of_ble_eq_true rfl) (Nat.le_of_ble_eq_true rfl) (sp_is2 (k := 18) (by decide) hE.1 hE.2.1 hE.2.2.1 (fun q => absurd q (by omega)) (fun _ => ?_))
  refine g_if_ne h 102 dX12_one_89 rfl (fun c => absurd c (by decide)) (fun _ => ?_)
  refine g_aload_0 h dX12_one_92 ?_
  refine g_iconst h dX12_one_93 (v := nI 2) rfl ?_
  refine g_bipush h dX12_one_94 (v := nI 19) rfl ?_
  refine g_cVi2 h rok0 mi_X12_is dX12_one_96 ml_X12_125 rfl rfl rfl (Nat.le_of_ble_eq_true rfl) (Nat.le_of_ble_eq_true rfl) (sp_is2 (k := 19) (by decide) hE.1 hE.2.1 hE.2.2.1 (fun _ => ?_) (fun q => absurd (show K p = 19 by omega) q))
  refine g_if_eq h 136 dX12_one_99 rfl (fun c => absurd c (by decide)) (fun _ => ?_)
  refine g_aload_0 h dX12_one_102 ?_
  refine g_getC h fl_X12_42 dX12_one_103 rfl rfl ?_
  refine g_aload_0 h dX12_one_106 ?_
  refine g_getI h fl_X12_118 dX12_one_107 rfl rfl ?_
  refine g_iald h p dX12_one_110 rfl hE.2.1.1 (by omega) ?_
  rw [show I 83 p = nI 19 by rw [k83a (by omega), k1]]
  refine g_istore_1 h dX12_one_111 (by decide) rfl ?_
  refine g_aload_0 h dX12_one_112 ?_
  refine g_dup h dX12_one_113 rfl ?_
  refine g_getI h fl_X12_118 dX12_one_114 rfl rfl ?_
  refine g_iconst h dX12_one_117 (v := nI 1) rfl ?_
  refine g_iadd h dX12_one_118 ?_
  refine g_putI h fp_X12_118 dX12_one_119 rfl rfl ?_
  rw [show I 80 14 + nI 1 = nI (p + 1) by rw [hE.2.1.1]; exact nI_1 p]
  refine g_aload_0 h dX12_one_122 ?_
  refine g_getP h fl_X12_91 dX12_one_123 rfl rfl (by assumption) ?_
  refine g_iload_1 h dX12_one_126 ?_
  refine g_aload_0 h dX12_one_127 ?_
  refine g_cVi0 h rok0 mi_X12_knownCord dX12_one_128 ml_X12_185 rfl rfl rfl (Nat.le_of_ble_eq_true rfl) (Nat.le_of_ble_eq_true rfl) (sp_knownCord hP hE1 (by simp [k1]) (fun k2 I2 f2 e2 m2 => ?_) (fun k2 => ?_))
  · refine g_iconst h dX12_one_131 (v := nI 0) rfl ?_
    refine g_cVi3 h rok0 mi_X11_node dX12_one_132 ml_X12_173 rfl rfl rfl (Nat.le_of_ble_eq_true rfl) (Nat.le_of_ble_eq_true rfl) (sp_nodeW (z := z) (by omega) e2.cnt (fun I3 w3 => ?_))
    refine g_iret h dX12_one_135 ?_
    have hv : (vS K V mm b g p) = (true, p + 2, fun e => e (K p) (mm (p + 1))) := by rw [vS, if_neg (by omega), if_neg (by omega), if_pos (by omega), if_pos k2]
    have hp2 := e2.M4
    refine hS _ _ (z + 1) (by rw [hv]) (by rw [hv]; exact ⟨((FRm.at (by decide) (by decide)).tr f2 (Nat.le_refl _)).tr w3.1 (Nat.le_refl _), by rw [fbd_k2 (by omega)]; exact e2.nw (by omega) w3, by omega, by show z + 1 + p ≤ z + (p + 2); omega, by show p < p + 2; omega⟩) (by
      rw [hv]
      intro hb
      rw [fbd_k2 (by omega), fbd_1] at hb
      obtain ⟨j, j1, j2⟩ := m2 (fun q => by rw [if_pos ⟨k2, q⟩] at hb; cases hb)
      rw [k1, j2]
      exact nd_nam (k := 19) (by omega) (by decide) (by decide) w3.2.1 (w3.2.2.1.trans j2) (by
        obtain ⟨-, n1, n2, n3⟩ := w3.1.nvs
        simp only [show (19 ≤ 19) = True by decide, if_true, if_false, show (1 = 1) = True by decide]
        omega))
  · have hv : (vS K V mm b g p) = (false, p + 1, zE) := by rw [vS, if_neg (by omega), if_neg (by omega), if_pos (by omega), if_neg k2]
    have b0 : rB M I (p + 1) z (p + 1) (up2 (up2 I 80 14 (nI (p + 1))) 80 16 (nI (p + 1))) := rB.new (FRm.at (by decide) (by decide)) hE1.cnt (Nat.le_refl _) (by omega) (Nat.le_refl _) hpM
    obtain ⟨y, y3, y4⟩ := b0.cnt (by omega) M4 (by omega) (by omega)
    refine g_iconst h dX12_one_131 (v := nI 0) rfl ?_
    refine g_cVi3 h rok0 mi_X11_node dX12_one_132 ml_X12_173 rfl rfl rfl (Nat.le_of_ble_eq_true rfl) (Nat.le_of_ble_eq_true rfl) (sp_nodeW (z := y) y4 y3 (fun I9 w9 => ?_))
    refine g_iret h dX12_one_135 ?_
    exact hF _ _ (by rw [hv]) (by rw [hv]; exact b0.nd (p := p) (Nat.le_refl _) y3 y4 (by omega) w9)
set_option maxRecDepth 100000 in
set_option maxHeartbeats 4000000 in
theorem one_20 {K wd : Nat → Nat} {V mm : Nat → Int32} {M : Nat} {c D : Nat} {b : Bool} {g : Nat → PRs} {p z : Nat} {x : Option (Nat × Nat)} {I : MI} {J : MJ} {P : MP} (hP : P 80 9 = some 104) (hE : rE K wd V M mm I c p z x) (k1 : K p = 20) {Q : Int32 → MI → MJ → MP → Prop} (hS : ∀ I' v z', (vS K V mm b g p).1 = true → rgE K wd V M mm I c p z x (vS K V mm b g p).2.1 z' I' → (fbd K mm ((vS K V mm b g p).2.1 - p) p = none → nd true I' z' v (vS K V mm b g p).2.2) → Q v I' J P) (hF : ∀ I' v, (vS K V mm b g p).1 = false → rB M I p z (vS K V mm b g p).2.1 I' → Q v I' J P) : Sp yX12_one cX12_one 2 (some .int) (D + 10) [.ref 80] I J P (Qi Q) := by
  intro Γ h
  show VG Γ 0 0 0 [some (.ref 80), none] [] _ _ _ _
  obtain ⟨M4, K45, hp, hzp, c8⟩ := hE.M4
  obtain ⟨k47, k82, k83a, k83b, k83c⟩ := hE.1.2.2.1 p hp
  have s3 := srt3 _ k47
  have hsl := srt_lt (K p)
  have hpM := K_lt2 K45 hp (by omega)
  have hE1 := hE.at hpM
  refine g_aload_0 h dX12_one_0 ?_
  refine g_cVi0 h rok0 mi_X12_isOk dX12_one_1 ml_X12_121 rfl rfl rfl (Nat.le_of_ble_eq_true rfl) (Nat.le_of_ble_eq_true rfl) (sp_isOk_al hE.2.1 ?_)
  refine g_if_ne h 9 dX12_one_4 rfl (fun _ => ?_) (fun c => absurd c (by decide))
  refine g_aload_0 h dX12_one_9 ?_
  refine g_getC h fl_X12_36 dX12_one_10 rfl rfl ?_
  refine g_aload_0 h dX12_one_13 ?_
  refine g_getI h fl_X12_118 dX12_one_14 rfl rfl ?_
  refine g_iald h p dX12_one_17 rfl hE.2.1.1 (by omega) ?_
  rw [k82]
  refine g_iconst h dX12_one_18 (v := nI 3) rfl ?_
  refine g_icmp_ne h 40 dX12_one_19 rfl (fun _ => ?_) (fun c => absurd (s3.mp (eqN (by first | exact c | exact Classical.not_not.mp c) (by omega) (by decide))) (by omega))
  refine g_aload_0 h dX12_one_40 ?_
  refine g_iconst h dX12_one_41 (v := nI 2) rfl ?_
  refine g_bipush h dX12_one_42 (v := nI 16) rfl ?_
  refine g_cVi2 h rok0 mi_X12_is dX12_one_44 ml_X12_125 rfl rfl rfl (Nat.le_of_ble_eq_true rfl) (Nat.le_of_ble_eq_true rfl) (sp_is2 (k := 16) (by decide) hE.1 hE.2.1 hE.2.2.1 (fun q => absurd q (by omega)) (fun _ => ?_))
  refine g_if_eq h 72 dX12_one_47 rfl (fun _ => ?_) (fun c => absurd c (by decide))
  refine g_aload_0 h dX12_one_72 ?_
  refine g_iconst h dX12_one_73 (v := nI 2) rfl ?_
  refine g_bipush h dX12_one_74 (v := nI 17) rfl ?_
  refine g_cVi2 h rok0 mi_X12_is dX12_one_76 ml_X12_125 rfl rfl rfl (Nat.le_of_ble_eq_true rfl) (Nat.le_of_ble_eq_true rfl) (sp_is2 (k := 17) (by decide) hE.1 hE.2.1 hE.2.2.1 (fun q => absurd q (by omega)) (fun _ => ?_))
  refine g_if_ne h 102 dX12_one_79 rfl (fun c => absurd c (by decide)) (fun _ => ?_)
  refine g_aload_0 h dX12_one_82 ?_
  refine g_iconst h dX12_one_83 (v := nI 2) rfl ?_
  refine g_bipush h dX12_one_84 (v := nI 18) rfl ?_
  refine g_cVi2 h rok0 mi_X12_is dX12_one_86 ml_X12_125 rfl rfl rfl (Nat.le_of_ble_eq_true rfl) (Nat.le_of_ble_eq_true rfl) (sp_is2 (k := 18) (by decide) hE.1 hE.2.1 hE.2.2.1 (fun q => absurd q (by omega)) (fun _ => ?_))
  refine g_if_ne h 102 dX12_one_89 rfl (fun c => absurd c (by decide)) (fun _ => ?_)
  refine g_aload_0 h dX12_one_92 ?_
  refine g_iconst h dX12_one_93 (v := nI 2) rfl ?_
  refine g_bipush h dX12_one_94 (v := nI 19) rfl ?_
  refine g_cVi2 h rok0 mi_X12_is dX12_one_96 ml_X12_125 rfl rfl rfl (Nat.le_of_ble_eq_true rfl) (Nat.le_of_ble_eq_true rfl) (sp_is2 (k := 19) (by decide) hE.1 hE.2.1 hE.2.2.1 (fun q => absurd q (by omega)) (fun _ => ?_))
  refine g_if_eq h 136 dX12_one_99 rfl (fun _ => ?_) (fun c => absurd c (by decide))
  refine g_aload_0 h dX12_one_136 ?_
  refine g_iconst h dX12_one_137 (v := nI 2) rfl ?_
  refine g_bipush h dX12_one_138 (v := nI 20) rfl ?_
  refine g_cVi2 h rok0 mi_X12_is dX12_one_140 ml_X12_125 rfl rfl rfl (Nat.le_of_ble_eq_true rfl) (Nat.le_of_ble_eq_true rfl) (sp_is2 (k := 20) (by decide) hE.1 hE.2.1 hE.2.2.1 (fun _ => ?_) (fun q => absurd (show K p = 20 by omega) q))
  refine g_if_eq h 171 dX12_one_143 rfl (fun c => absurd c (by decide)) (fun _ => ?_)
  refine g_aload_0 h dX12_one_146 ?_
  refine g_dup h dX12_one_147 rfl ?_
  refine g_getI h fl_X12_118 dX12_one_148 rfl rfl ?_
  refine g_iconst h dX12_one_151 (v := nI 1) rfl ?_
  refine g_iadd h dX12_one_152 ?_
  refine g_putI h fp_X12_118 dX12_one_153 rfl rfl ?_
  rw [show I 80 14 + nI 1 = nI (p + 1) by rw [hE.2.1.1]; exact nI_1 p]
  refine g_aload_0 h dX12_one_156 ?_
  refine g_getP h fl_X12_91 dX12_one_157 rfl rfl (by assumption) ?_
  refine g_bipush h dX12_one_160 (v := nI 20) rfl ?_
  refine g_aload_0 h dX12_one_162 ?_
  refine g_cVi0 h rok0 mi_X12_knownTop dX12_one_163 ml_X12_188 rfl rfl rfl (Nat.le_of_ble_eq_true rfl) (Nat.le_of_ble_eq_true rfl) (sp_knownTop hP hE1 (by simp [k1]) (fun k2 I2 f2 e2 m2 => ?_) (fun k2 => ?_))
  · refine g_iconst h dX12_one_166 (v := nI 0) rfl ?_
    refine g_cVi3 h rok0 mi_X11_node dX12_one_167 ml_X12_173 rfl rfl rfl (Nat.le_of_ble_eq_true rfl) (Nat.le_of_ble_eq_true rfl) (sp_nodeW (z := z) (by omega) e2.cnt (fun I3 w3 => ?_))
    refine g_iret h dX12_one_170 ?_
    have hv : (vS K V mm b g p) = (true, p + 2, fun e => e (K p) (mm (p + 1))) := by rw [vS, if_neg (by omega), if_neg (by omega), if_pos (by omega), if_pos k2]
    have hp2 := e2.M4
    refine hS _ _ (z + 1) (by rw [hv]) (by rw [hv]; exact ⟨((FRm.at (by decide) (by decide)).tr f2 (Nat.le_refl _)).tr w3.1 (Nat.le_refl _), by rw [fbd_k2 (by omega)]; exact e2.nw (by omega) w3, by omega, by show z + 1 + p ≤ z + (p + 2); omega, by show p < p + 2; omega⟩) (by
      rw [hv]
      intro hb
      rw [fbd_k2 (by omega), fbd_1] at hb
      obtain ⟨j, j1, j2⟩ := m2 (fun q => by rw [if_pos ⟨k2, q⟩] at hb; cases hb)
      rw [k1, j2]
      exact nd_nam (k := 20) (by omega) (by decide) (by decide) w3.2.1 (w3.2.2.1.trans j2) (by
        obtain ⟨-, n1, n2, n3⟩ := w3.1.nvs
        simp only [show (20 ≤ 19) = False by decide, if_true, if_false, show (20 = 20) = True by decide]
        omega))
  · have hv : (vS K V mm b g p) = (false, p + 1, zE) := by rw [vS, if_neg (by omega), if_neg (by omega), if_pos (by omega), if_neg k2]
    have b0 : rB M I (p + 1) z (p + 1) (up2 (up2 I 80 14 (nI (p + 1))) 80 16 (nI (p + 1))) := rB.new (FRm.at (by decide) (by decide)) hE1.cnt (Nat.le_refl _) (by omega) (Nat.le_refl _) hpM
    obtain ⟨y, y3, y4⟩ := b0.cnt (by omega) M4 (by omega) (by omega)
    refine g_iconst h dX12_one_166 (v := nI 0) rfl ?_
    refine g_cVi3 h rok0 mi_X11_node dX12_one_167 ml_X12_173 rfl rfl rfl (Nat.le_of_ble_eq_true rfl) (Nat.le_of_ble_eq_true rfl) (sp_nodeW (z := y) y4 y3 (fun I9 w9 => ?_))
    refine g_iret h dX12_one_170 ?_
    exact hF _ _ (by rw [hv]) (by rw [hv]; exact b0.nd (p := p) (Nat.le_refl _) y3 y4 (by omega) w9)
set_option maxRecDepth 100000 in
set_option maxHeartbeats 4000000 in
theorem one_21 {K wd : Nat → Nat} {V mm : Nat → Int32} {M : Nat} {c D : Nat} {b : Bool} {g : Nat → PRs} {p z : Nat} {x : Option (Nat × Nat)} {I : MI} {J : MJ} {P : MP} (hP : P 80 9 = some 104) (hE : rE K wd V M mm I c p z x) (k1 : K p = 21) {Q : Int32 → MI → MJ → MP → Prop} (hS : ∀ I' v z', (vS K V mm b g p).1 = true → rgE K wd V M mm I c p z x (vS K V mm b g p).2.1 z' I' → (fbd K mm ((vS K V mm b g p).2.1 - p) p = none → nd true I' z' v (vS K V mm b g p).2.2) → Q v I' J P) (hF : ∀ I' v, (vS K V mm b g p).1 = false → rB M I p z (vS K V mm b g p).2.1 I' → Q v I' J P) : Sp yX12_one cX12_one 2 (some .int) (D + 10) [.ref 80] I J P (Qi Q) := by
  intro Γ h
  show VG Γ 0 0 0 [some (.ref 80), none] [] _ _ _ _
  obtain ⟨M4, K45, hp, hzp, c8⟩ := hE.M4
  obtain ⟨k47, k82, k83a, k83b, k83c⟩ := hE.1.2.2.1 p hp
  have s3 := srt3 _ k47
  have hsl := srt_lt (K p)
  have hpM := K_lt2 K45 hp (by omega)
  have hE1 := hE.at hpM
  refine g_aload_0 h dX12_one_0 ?_
  refine g_cVi0 h rok0 mi_X12_isOk dX12_one_1 ml_X12_121 rfl rfl rfl (Nat.le_of_ble_eq_true rfl) (Nat.le_of_ble_eq_true rfl) (sp_isOk_al hE.2.1 ?_)
  refine g_if_ne h 9 dX12_one_4 rfl (fun _ => ?_) (fun c => absurd c (by decide))
  refine g_aload_0 h dX12_one_9 ?_
  refine g_getC h fl_X12_36 dX12_one_10 rfl rfl ?_
  refine g_aload_0 h dX12_one_13 ?_
  refine g_getI h fl_X12_118 dX12_one_14 rfl rfl ?_
  refine g_iald h p dX12_one_17 rfl hE.2.1.1 (by omega) ?_
  rw [k82]
  refine g_iconst h dX12_one_18 (v := nI 3) rfl ?_
  refine g_icmp_ne h 40 dX12_one_19 rfl (fun _ => ?_) (fun c => absurd (s3.mp (eqN (by first | exact c | exact Classical.not_not.mp c) (by omega) (by decide))) (by omega))
  refine g_aload_0 h dX12_one_40 ?_
  refine g_iconst h dX12_one_41 (v := nI 2) rfl ?_
  refine g_bipush h dX12_one_42 (v := nI 16) rfl ?_
  refine g_cVi2 h rok0 mi_X12_is dX12_one_44 ml_X12_125 rfl rfl rfl (Nat.le_of_ble_eq_true rfl) (Nat.le_of_ble_eq_true rfl) (sp_is2 (k := 16) (by decide) hE.1 hE.2.1 hE.2.2.1 (fun q => absurd q (by omega)) (fun _ => ?_))
  refine g_if_eq h 72 dX12_one_47 rfl (fun _ => ?_) (fun c => absurd c (by decide))
  refine g_aload_0 h dX12_one_72 ?_
  refine g_iconst h dX12_one_73 (v := nI 2) rfl ?_
  refine g_bipush h dX12_one_74 (v := nI 17) rfl ?_
  refine g_cVi2 h rok0 mi_X12_is dX12_one_76 ml_X12_125 rfl rfl rfl (Nat.le_of_ble_eq_true rfl) (Nat.le_of_ble_eq_true rfl) (sp_is2 (k := 17) (by decide) hE.1 hE.2.1 hE.2.2.1 (fun q => absurd q (by omega)) (fun _ => ?_))
  refine g_if_ne h 102 dX12_one_79 rfl (fun c => absurd c (by decide)) (fun _ => ?_)
  refine g_aload_0 h dX12_one_82 ?_
  refine g_iconst h dX12_one_83 (v := nI 2) rfl ?_
  refine g_bipush h dX12_one_84 (v := nI 18) rfl ?_
  refine g_cVi2 h rok0 mi_X12_is dX12_one_86 ml_X12_125 rfl rfl rfl (Nat.le_of_ble_eq_true rfl) (Nat.le_of_ble_eq_true rfl) (sp_is2 (k := 18) (by decide) hE.1 hE.2.1 hE.2.2.1 (fun q => absurd q (by omega)) (fun _ => ?_))
  refine g_if_ne h 102 dX12_one_89 rfl (fun c => absurd c (by decide)) (fun _ => ?_)
  refine g_aload_0 h dX12_one_92 ?_
  refine g_iconst h dX12_one_93 (v := nI 2) rfl ?_
  refine g_bipush h dX12_one_94 (v := nI 19) rfl ?_
  refine g_cVi2 h rok0 mi_X12_is dX12_one_96 ml_X12_125 rfl rfl rfl (Nat.le_of_ble_eq_true rfl) (Nat.le_of_ble_eq_true rfl) (sp_is2 (k := 19) (by decide) hE.1 hE.2.1 hE.2.2.1 (fun q => absurd q (by omega)) (fun _ => ?_))
  refine g_if_eq h 136 dX12_one_99 rfl (fun _ => ?_) (fun c => absurd c (by decide))
  refine g_aload_0 h dX12_one_136 ?_
  refine g_iconst h dX12_one_137 (v := nI 2) rfl ?_
  refine g_bipush h dX12_one_138 (v := nI 20) rfl ?_
  refine g_cVi2 h rok0 mi_X12_is dX12_one_140 ml_X12_125 rfl rfl rfl (Nat.le_of_ble_eq_true rfl) (Nat.le_of_ble_eq_true rfl) (sp_is2 (k := 20) (by decide) hE.1 hE.2.1 hE.2.2.1 (fun q => absurd q (by omega)) (fun _ => ?_))
  refine g_if_eq h 171 dX12_one_143 rfl (fun _ => ?_) (fun c => absurd c (by decide))
  refine g_aload_0 h dX12_one_171 ?_
  refine g_iconst h dX12_one_172 (v := nI 2) rfl ?_
  refine g_bipush h dX12_one_173 (v := nI 21) rfl ?_
  refine g_cVi2 h rok0 mi_X12_is dX12_one_175 ml_X12_125 rfl rfl rfl (Nat.le_of_ble_eq_true rfl) (Nat.le_of_ble_eq_true rfl) (sp_is2 (k := 21) (by decide) hE.1 hE.2.1 hE.2.2.1 (fun _ => ?_) (fun q => absurd (show K p = 21 by omega) q))
  refine g_if_eq h 206 dX12_one_178 rfl (fun c => absurd c (by decide)) (fun _ => ?_)
  refine g_aload_0 h dX12_one_181 ?_
  refine g_dup h dX12_one_182 rfl ?_
  refine g_getI h fl_X12_118 dX12_one_183 rfl rfl ?_
  refine g_iconst h dX12_one_186 (v := nI 1) rfl ?_
  refine g_iadd h dX12_one_187 ?_
  refine g_putI h fp_X12_118 dX12_one_188 rfl rfl ?_
  rw [show I 80 14 + nI 1 = nI (p + 1) by rw [hE.2.1.1]; exact nI_1 p]
  refine g_aload_0 h dX12_one_191 ?_
  refine g_getP h fl_X12_91 dX12_one_192 rfl rfl (by assumption) ?_
  refine g_bipush h dX12_one_195 (v := nI 21) rfl ?_
  refine g_aload_0 h dX12_one_197 ?_
  refine g_cVi0 h rok0 mi_X12_knownKeeper dX12_one_198 ml_X12_191 rfl rfl rfl (Nat.le_of_ble_eq_true rfl) (Nat.le_of_ble_eq_true rfl) (sp_knownKeeper hP hE1 (by simp [k1]) (fun k2 I2 f2 e2 m2 => ?_) (fun k2 => ?_))
  · refine g_iconst h dX12_one_201 (v := nI 0) rfl ?_
    refine g_cVi3 h rok0 mi_X11_node dX12_one_202 ml_X12_173 rfl rfl rfl (Nat.le_of_ble_eq_true rfl) (Nat.le_of_ble_eq_true rfl) (sp_nodeW (z := z) (by omega) e2.cnt (fun I3 w3 => ?_))
    refine g_iret h dX12_one_205 ?_
    have hv : (vS K V mm b g p) = (true, p + 2, fun e => e (K p) (mm (p + 1))) := by rw [vS, if_neg (by omega), if_neg (by omega), if_pos (by omega), if_pos k2]
    have hp2 := e2.M4
    refine hS _ _ (z + 1) (by rw [hv]) (by rw [hv]; exact ⟨((FRm.at (by decide) (by decide)).tr f2 (Nat.le_refl _)).tr w3.1 (Nat.le_refl _), by rw [fbd_k2 (by omega)]; exact e2.nw (by omega) w3, by omega, by show z + 1 + p ≤ z + (p + 2); omega, by show p < p + 2; omega⟩) (by
      rw [hv]
      intro hb
      rw [fbd_k2 (by omega), fbd_1] at hb
      obtain ⟨j, j1, j2⟩ := m2 (fun q => by rw [if_pos ⟨k2, q⟩] at hb; cases hb)
      rw [k1, j2]
      exact nd_nam (k := 21) (by omega) (by decide) (by decide) w3.2.1 (w3.2.2.1.trans j2) (by
        obtain ⟨-, n1, n2, n3⟩ := w3.1.nvs
        simp only [show (21 ≤ 19) = False by decide, if_true, if_false, show (21 = 20) = False by decide]
        omega))
  · have hv : (vS K V mm b g p) = (false, p + 1, zE) := by rw [vS, if_neg (by omega), if_neg (by omega), if_pos (by omega), if_neg k2]
    have b0 : rB M I (p + 1) z (p + 1) (up2 (up2 I 80 14 (nI (p + 1))) 80 16 (nI (p + 1))) := rB.new (FRm.at (by decide) (by decide)) hE1.cnt (Nat.le_refl _) (by omega) (Nat.le_refl _) hpM
    obtain ⟨y, y3, y4⟩ := b0.cnt (by omega) M4 (by omega) (by omega)
    refine g_iconst h dX12_one_201 (v := nI 0) rfl ?_
    refine g_cVi3 h rok0 mi_X11_node dX12_one_202 ml_X12_173 rfl rfl rfl (Nat.le_of_ble_eq_true rfl) (Nat.le_of_ble_eq_true rfl) (sp_nodeW (z := y) y4 y3 (fun I9 w9 => ?_))
    refine g_iret h dX12_one_205 ?_
    exact hF _ _ (by rw [hv]) (by rw [hv]; exact b0.nd (p := p) (Nat.le_refl _) y3 y4 (by omega) w9)
set_option maxRecDepth 100000 in
set_option maxHeartbeats 4000000 in
theorem one_37 {K wd : Nat → Nat} {V mm : Nat → Int32} {M : Nat} {c D : Nat} {b : Bool} {g : Nat → PRs} {p z : Nat} {x : Option (Nat × Nat)} {I : MI} {J : MJ} {P : MP} (hP : P 80 9 = some 104) (hE : rE K wd V M mm I (c + 1) p z x) (k1 : K p = 37) (hb : b = true) (hG : cE K wd V M mm yX12_one cX12_one 2 (D + 9) c true g) {Q : Int32 → MI → MJ → MP → Prop} (hS : ∀ I' v z', (vS K V mm b g p).1 = true → rgE K wd V M mm I (c + 1) p z x (vS K V mm b g p).2.1 z' I' → (fbd K mm ((vS K V mm b g p).2.1 - p) p = none → nd true I' z' v (vS K V mm b g p).2.2) → Q v I' J P) (hF : ∀ I' v, (vS K V mm b g p).1 = false → rB M I p z (vS K V mm b g p).2.1 I' → Q v I' J P) : Sp yX12_one cX12_one 2 (some .int) (D + 10) [.ref 80] I J P (Qi Q) := by
  intro Γ h
  show VG Γ 0 0 0 [some (.ref 80), none] [] _ _ _ _
  obtain ⟨M4, K45, hp, hzp, c8⟩ := hE.M4
  obtain ⟨k47, k82, k83a, k83b, k83c⟩ := hE.1.2.2.1 p hp
  have s3 := srt3 _ k47
  have hsl := srt_lt (K p)
  have hpM := K_lt2 K45 hp (by omega)
  have hE1 := hE.dp (c' := c) (v := nI (8 - (c + 1) + 1)) (by rw [show 8 - (c + 1) + 1 = 8 - c by omega]) (by omega)
  have fz : FRm z I (up2 (up2 I 80 15 (nI (8 - (c + 1) + 1))) 80 14 (nI (p + 1))) := (FRm.at (by decide) (by decide)).tr (FRm.at (by decide) (by decide)) (Nat.le_refl z)
  refine g_aload_0 h dX12_one_0 ?_
  refine g_cVi0 h rok0 mi_X12_isOk dX12_one_1 ml_X12_121 rfl rfl rfl (Nat.le_of_ble_eq_true rfl) (Nat.le_of_ble_eq_true rfl) (sp_isOk_al hE.2.1 ?_)
  refine g_if_ne h 9 dX12_one_4 rfl (fun _ => ?_) (fun c => absurd c (by decide))
  refine g_aload_0 h dX12_one_9 ?_
  refine g_getC h fl_X12_36 dX12_one_10 rfl rfl ?_
  refine g_aload_0 h dX12_one_13 ?_
  refine g_getI h fl_X12_118 dX12_one_14 rfl rfl ?_
  refine g_iald h p dX12_one_17 rfl hE.2.1.1 (by omega) ?_
  rw [k82]
  refine g_iconst h dX12_one_18 (v := nI 3) rfl ?_
  refine g_icmp_ne h 40 dX12_one_19 rfl (fun _ => ?_) (fun c => absurd (s3.mp (eqN (by first | exact c | exact Classical.not_not.mp c) (by omega) (by decide))) (by omega))
  refine g_aload_0 h dX12_one_40 ?_
  refine g_iconst h dX12_one_41 (v := nI 2) rfl ?_
  refine g_bipush h dX12_one_42 (v := nI 16) rfl ?_
  refine g_cVi2 h rok0 mi_X12_is dX12_one_44 ml_X12_125 rfl rfl rfl (Nat.le_of_ble_eq_true rfl) (Nat.le_of_ble_eq_true rfl) (sp_is2 (k := 16) (by decide) hE.1 hE.2.1 hE.2.2.1 (fun q => absurd q (by omega)) (fun _ => ?_))
  refine g_if_eq h 72 dX12_one_47 rfl (fun _ => ?_) (fun c => absurd c (by decide))
  refine g_aload_0 h dX12_one_72 ?_
  refine g_iconst h dX12_one_73 (v := nI 2) rfl ?_
  refine g_bipush h dX12_one_74 (v := nI 17) rfl ?_
  refine g_cVi2 h rok0 mi_X12_is dX12_one_76 ml_X12_125 rfl rfl rfl (Nat.le_of_ble_eq_true rfl) (Nat.le_of_ble_eq_true rfl) (sp_is2 (k := 17) (by decide) hE.1 hE.2.1 hE.2.2.1 (fun q => absurd q (by omega)) (fun _ => ?_))
  refine g_if_ne h 102 dX12_one_79 rfl (fun c => absurd c (by decide)) (fun _ => ?_)
  refine g_aload_0 h dX12_one_82 ?_
  refine g_iconst h dX12_one_83 (v := nI 2) rfl ?_
  refine g_bipush h dX12_one_84 (v := nI 18) rfl ?_
  refine g_cVi2 h rok0 mi_X12_is dX12_one_86 ml_X12_125 rfl rfl rfl (Nat.le_of_ble_eq_true rfl) (Nat.le_of_ble_eq_true rfl) (sp_is2 (k := 18) (by decide) hE.1 hE.2.1 hE.2.2.1 (fun q => absurd q (by omega)) (fun _ => ?_))
  refine g_if_ne h 102 dX12_one_89 rfl (fun c => absurd c (by decide)) (fun _ => ?_)
  refine g_aload_0 h dX12_one_92 ?_
  refine g_iconst h dX12_one_93 (v := nI 2) rfl ?_
  refine g_bipush h dX12_one_94 (v := nI 19) rfl ?_
  refine g_cVi2 h rok0 mi_X12_is dX12_one_96 ml_X12_125 rfl rfl rfl (Nat.le_of_ble_eq_true rfl) (Nat.le_of_ble_eq_true rfl) (sp_is2 (k := 19) (by decide) hE.1 hE.2.1 hE.2.2.1 (fun q => absurd q (by omega)) (fun _ => ?_))
  refine g_if_eq h 136 dX12_one_99 rfl (fun _ => ?_) (fun c => absurd c (by decide))
  refine g_aload_0 h dX12_one_136 ?_
  refine g_iconst h dX12_one_137 (v := nI 2) rfl ?_
  refine g_bipush h dX12_one_138 (v := nI 20) rfl ?_
  refine g_cVi2 h rok0 mi_X12_is dX12_one_140 ml_X12_125 rfl rfl rfl (Nat.le_of_ble_eq_true rfl) (Nat.le_of_ble_eq_true rfl) (sp_is2 (k := 20) (by decide) hE.1 hE.2.1 hE.2.2.1 (fun q => absurd q (by omega)) (fun _ => ?_))
  refine g_if_eq h 171 dX12_one_143 rfl (fun _ => ?_) (fun c => absurd c (by decide))
  refine g_aload_0 h dX12_one_171 ?_
  refine g_iconst h dX12_one_172 (v := nI 2) rfl ?_
  refine g_bipush h dX12_one_173 (v := nI 21) rfl ?_
  refine g_cVi2 h rok0 mi_X12_is dX12_one_175 ml_X12_125 rfl rfl rfl (Nat.le_of_ble_eq_true rfl) (Nat.le_of_ble_eq_true rfl) (sp_is2 (k := 21) (by decide) hE.1 hE.2.1 hE.2.2.1 (fun q => absurd q (by omega)) (fun _ => ?_))
  refine g_if_eq h 206 dX12_one_178 rfl (fun _ => ?_) (fun c => absurd c (by decide))
  refine g_aload_0 h dX12_one_206 ?_
  refine g_iconst h dX12_one_207 (v := nI 4) rfl ?_
  refine g_bipush h dX12_one_208 (v := nI 45) rfl ?_
  refine g_cVi2 h rok0 mi_X12_is dX12_one_210 ml_X12_125 rfl rfl rfl (Nat.le_of_ble_eq_true rfl) (Nat.le_of_ble_eq_true rfl) (sgC_is (k := 37) rfl (by decide) hE.1 hE.2.1 hE.2.2.1 (fun _ => ?_) (fun q => absurd (show K p = 37 by omega) q))
  refine g_if_eq h 257 dX12_one_213 rfl (fun c => absurd c (by decide)) (fun _ => ?_)
  refine g_aload_0 h dX12_one_216 ?_
  refine g_cVv0 h rok0 mi_X12_deeper dX12_one_217 ml_X12_194 rfl rfl rfl (Nat.le_of_ble_eq_true rfl) (Nat.le_of_ble_eq_true rfl) (sp_deeper (e := 8 - (c + 1)) (by omega) hE.2.2.2.1.1 ?_)
  refine g_aload_0 h dX12_one_220 ?_
  refine g_dup h dX12_one_221 rfl ?_
  refine g_getI h fl_X12_118 dX12_one_222 rfl rfl ?_
  refine g_iconst h dX12_one_225 (v := nI 1) rfl ?_
  refine g_iadd h dX12_one_226 ?_
  refine g_putI h fp_X12_118 dX12_one_227 rfl rfl ?_
  rw [show up2 I 80 15 (nI (8 - (c + 1) + 1)) 80 14 + nI 1 = nI (p + 1) by rw [hE1.2.1.1]; exact nI_1 p]
  refine g_aload_0 h dX12_one_230 ?_
  refine g_getP h fl_X12_91 dX12_one_231 rfl rfl (by assumption) ?_
  refine g_bipush h dX12_one_234 (v := nI 110) rfl ?_
  refine g_aload_0 h dX12_one_236 ?_
  refine g_cVi0 h rok0 mi_X12_one dX12_one_237 ml_X12_177 rfl rfl rfl (Nat.le_of_ble_eq_true rfl) (Nat.le_of_ble_eq_true rfl) (hG (p + 1) z _ _ J P hP (hE1.at hpM) (fun I2 v2 z2 e2 q2 n2 => ?_) (fun I2 v2 e2 b2 => ?_))
  · obtain ⟨t1, t2, t3, t4, t5⟩ := id q2
    have t6 := t2.M4
    refine g_iconst h dX12_one_240 (v := nI 0) rfl ?_
    refine g_cVi3 h rok0 mi_X11_node dX12_one_241 ml_X12_173 rfl rfl rfl (Nat.le_of_ble_eq_true rfl) (Nat.le_of_ble_eq_true rfl) (sp_nodeW (z := z2) (by omega) t2.cnt (fun I3 w3 => ?_))
    refine g_istore_1 h dX12_one_244 (by decide) rfl ?_
    refine g_aload_0 h dX12_one_245 ?_
    refine g_dup h dX12_one_246 rfl ?_
    refine g_getI h fl_X12_138 dX12_one_247 rfl rfl ?_
    refine g_iconst h dX12_one_250 (v := nI 1) rfl ?_
    refine g_isub h dX12_one_251 ?_
    refine g_putI h fp_X12_138 dX12_one_252 rfl rfl ?_
    refine g_iload_1 h dX12_one_255 ?_
    refine g_iret h dX12_one_256 ?_
    have hv : (vS K V mm b g p) = (true, (g (p + 1)).2.1, fun e => -((g (p + 1)).2.2 e)) := by rw [vS, if_neg (by omega), if_neg (by omega), if_neg (by omega), if_pos k1, if_pos hb, e2]
    have t7 := (t2.nw (by omega) w3).dp (c' := c + 1) (v := I3 80 15 - nI 1) (by rw [show I3 80 15 = nI (8 - (c + 1) + 1) by rw [w3.2.2.2.2.2, t2.2.2.2.1.1, show 8 - c = 8 - (c + 1) + 1 by omega]]; exact nI_sub1 _) c8
    have eF : fbd K mm ((g (p + 1)).2.1 - p) p = fbd K mm ((g (p + 1)).2.1 - (p + 1)) (p + 1) := fbd_0 (by omega) (by omega)
    refine hS _ _ (z2 + 1) (by rw [hv]) (by rw [hv]; exact ⟨((fz.tr t1 (Nat.le_refl _)).tr w3.1 t3).tr (FRm.at (by decide) (by decide)) (show z ≤ z2 + 1 by omega), by rw [eF]; exact t7, by omega, by show z2 + 1 + p ≤ z + (g (p + 1)).2.1; omega, by show p < (g (p + 1)).2.1; omega⟩) (by
      rw [hv]
      intro hb
      rw [eF] at hb
      exact (nd_neg ((n2 hb).mv w3.1 (Nat.le_refl _)) (Nat.le_refl _) (by omega) w3.2.1 w3.2.2.1).mv (FRm.at (by decide) (by decide)) (Nat.le_refl _))
  · have t6 := b2.2.2.2.1
    obtain ⟨y, y3, y4⟩ := b2.cnt (by omega) M4 (by omega) (by omega)
    refine g_iconst h dX12_one_240 (v := nI 0) rfl ?_
    refine g_cVi3 h rok0 mi_X11_node dX12_one_241 ml_X12_173 rfl rfl rfl (Nat.le_of_ble_eq_true rfl) (Nat.le_of_ble_eq_true rfl) (sp_nodeW (z := y) y4 y3 (fun I9 w9 => ?_))
    refine g_istore_1 h dX12_one_244 (by decide) rfl ?_
    refine g_aload_0 h dX12_one_245 ?_
    refine g_dup h dX12_one_246 rfl ?_
    refine g_getI h fl_X12_138 dX12_one_247 rfl rfl ?_
    refine g_iconst h dX12_one_250 (v := nI 1) rfl ?_
    refine g_isub h dX12_one_251 ?_
    refine g_putI h fp_X12_138 dX12_one_252 rfl rfl ?_
    refine g_iload_1 h dX12_one_255 ?_
    refine g_iret h dX12_one_256 ?_
    have hv : (vS K V mm b g p) = (false, (g (p + 1)).2.1, fun e => -((g (p + 1)).2.2 e)) := by rw [vS, if_neg (by omega), if_neg (by omega), if_neg (by omega), if_pos k1, if_pos hb, e2]
    exact hF _ _ (by rw [hv]) (by rw [hv]; exact (((b2.wk fz (Nat.le_refl _)).nd (p := p) (Nat.le_refl _) y3 y4 (by omega) w9).up (Or.inr rfl)))
set_option maxRecDepth 100000 in
set_option maxHeartbeats 4000000 in
theorem one_37z {K wd : Nat → Nat} {V mm : Nat → Int32} {M : Nat} {D : Nat} {b : Bool} {g : Nat → PRs} {p z : Nat} {x : Option (Nat × Nat)} {I : MI} {J : MJ} {P : MP} (hP : P 80 9 = some 104) (hE : rE K wd V M mm I 0 p z x) (k1 : K p = 37) (hb : b = false) {Q : Int32 → MI → MJ → MP → Prop} (hS : ∀ I' v z', (vS K V mm b g p).1 = true → rgE K wd V M mm I 0 p z x (vS K V mm b g p).2.1 z' I' → (fbd K mm ((vS K V mm b g p).2.1 - p) p = none → nd true I' z' v (vS K V mm b g p).2.2) → Q v I' J P) (hF : ∀ I' v, (vS K V mm b g p).1 = false → rB M I p z (vS K V mm b g p).2.1 I' → Q v I' J P) : Sp yX12_one cX12_one 2 (some .int) (D + 10) [.ref 80] I J P (Qi Q) := by
  intro Γ h
  show VG Γ 0 0 0 [some (.ref 80), none] [] _ _ _ _
  obtain ⟨M4, K45, hp, hzp, c8⟩ := hE.M4
  obtain ⟨k47, k82, k83a, k83b, k83c⟩ := hE.1.2.2.1 p hp
  have s3 := srt3 _ k47
  have hsl := srt_lt (K p)
  have b0 : rB M I p z p (up2 I 80 16 (nI p)) := rB.new FRm.rf hE.cnt (Nat.le_refl _) (by omega) (Nat.le_refl _) hp
  have b1 := b0.up (k := 15) (v := nI 9) (Or.inr rfl)
  have b2 := b1.up (k := 14) (v := up2 (up2 I 80 16 (nI p)) 80 15 (nI 9) 80 14 + nI 1) (Or.inl rfl)
  have f2 : FRm z I (up2 (up2 (up2 I 80 16 (nI p)) 80 15 (nI 9)) 80 14 (up2 (up2 I 80 16 (nI p)) 80 15 (nI 9) 80 14 + nI 1)) := ((FRm.at (by decide) (by decide)).tr (FRm.at (by decide) (by decide)) (Nat.le_refl _)).tr (FRm.at (by decide) (by decide)) (Nat.le_refl _)
  have y3 : up2 (up2 (up2 I 80 16 (nI p)) 80 15 (nI 9)) 80 14 (up2 (up2 I 80 16 (nI p)) 80 15 (nI 9) 80 14 + nI 1) 104 12 = nI z := by rw [up2_o (by decide), up2_o (by decide), up2_o (by decide)]; exact hE.cnt
  refine g_aload_0 h dX12_one_0 ?_
  refine g_cVi0 h rok0 mi_X12_isOk dX12_one_1 ml_X12_121 rfl rfl rfl (Nat.le_of_ble_eq_true rfl) (Nat.le_of_ble_eq_true rfl) (sp_isOk_al hE.2.1 ?_)
  refine g_if_ne h 9 dX12_one_4 rfl (fun _ => ?_) (fun c => absurd c (by decide))
  refine g_aload_0 h dX12_one_9 ?_
  refine g_getC h fl_X12_36 dX12_one_10 rfl rfl ?_
  refine g_aload_0 h dX12_one_13 ?_
  refine g_getI h fl_X12_118 dX12_one_14 rfl rfl ?_
  refine g_iald h p dX12_one_17 rfl hE.2.1.1 (by omega) ?_
  rw [k82]
  refine g_iconst h dX12_one_18 (v := nI 3) rfl ?_
  refine g_icmp_ne h 40 dX12_one_19 rfl (fun _ => ?_) (fun c => absurd (s3.mp (eqN (by first | exact c | exact Classical.not_not.mp c) (by omega) (by decide))) (by omega))
  refine g_aload_0 h dX12_one_40 ?_
  refine g_iconst h dX12_one_41 (v := nI 2) rfl ?_
  refine g_bipush h dX12_one_42 (v := nI 16) rfl ?_
  refine g_cVi2 h rok0 mi_X12_is dX12_one_44 ml_X12_125 rfl rfl rfl (Nat.le_of_ble_eq_true rfl) (Nat.le_of_ble_eq_true rfl) (sp_is2 (k := 16) (by decide) hE.1 hE.2.1 hE.2.2.1 (fun q => absurd q (by omega)) (fun _ => ?_))
  refine g_if_eq h 72 dX12_one_47 rfl (fun _ => ?_) (fun c => absurd c (by decide))
  refine g_aload_0 h dX12_one_72 ?_
  refine g_iconst h dX12_one_73 (v := nI 2) rfl ?_
  refine g_bipush h dX12_one_74 (v := nI 17) rfl ?_
  refine g_cVi2 h rok0 mi_X12_is dX12_one_76 ml_X12_125 rfl rfl rfl (Nat.le_of_ble_eq_true rfl) (Nat.le_of_ble_eq_true rfl) (sp_is2 (k := 17) (by decide) hE.1 hE.2.1 hE.2.2.1 (fun q => absurd q (by omega)) (fun _ => ?_))
  refine g_if_ne h 102 dX12_one_79 rfl (fun c => absurd c (by decide)) (fun _ => ?_)
  refine g_aload_0 h dX12_one_82 ?_
  refine g_iconst h dX12_one_83 (v := nI 2) rfl ?_
  refine g_bipush h dX12_one_84 (v := nI 18) rfl ?_
  refine g_cVi2 h rok0 mi_X12_is dX12_one_86 ml_X12_125 rfl rfl rfl (Nat.le_of_ble_eq_true rfl) (Nat.le_of_ble_eq_true rfl) (sp_is2 (k := 18) (by decide) hE.1 hE.2.1 hE.2.2.1 (fun q => absurd q (by omega)) (fun _ => ?_))
  refine g_if_ne h 102 dX12_one_89 rfl (fun c => absurd c (by decide)) (fun _ => ?_)
  refine g_aload_0 h dX12_one_92 ?_
  refine g_iconst h dX12_one_93 (v := nI 2) rfl ?_
  refine g_bipush h dX12_one_94 (v := nI 19) rfl ?_
  refine g_cVi2 h rok0 mi_X12_is dX12_one_96 ml_X12_125 rfl rfl rfl (Nat.le_of_ble_eq_true rfl) (Nat.le_of_ble_eq_true rfl) (sp_is2 (k := 19) (by decide) hE.1 hE.2.1 hE.2.2.1 (fun q => absurd q (by omega)) (fun _ => ?_))
  refine g_if_eq h 136 dX12_one_99 rfl (fun _ => ?_) (fun c => absurd c (by decide))
  refine g_aload_0 h dX12_one_136 ?_
  refine g_iconst h dX12_one_137 (v := nI 2) rfl ?_
  refine g_bipush h dX12_one_138 (v := nI 20) rfl ?_
  refine g_cVi2 h rok0 mi_X12_is dX12_one_140 ml_X12_125 rfl rfl rfl (Nat.le_of_ble_eq_true rfl) (Nat.le_of_ble_eq_true rfl) (sp_is2 (k := 20) (by decide) hE.1 hE.2.1 hE.2.2.1 (fun q => absurd q (by omega)) (fun _ => ?_))
  refine g_if_eq h 171 dX12_one_143 rfl (fun _ => ?_) (fun c => absurd c (by decide))
  refine g_aload_0 h dX12_one_171 ?_
  refine g_iconst h dX12_one_172 (v := nI 2) rfl ?_
  refine g_bipush h dX12_one_173 (v := nI 21) rfl ?_
  refine g_cVi2 h rok0 mi_X12_is dX12_one_175 ml_X12_125 rfl rfl rfl (Nat.le_of_ble_eq_true rfl) (Nat.le_of_ble_eq_true rfl) (sp_is2 (k := 21) (by decide) hE.1 hE.2.1 hE.2.2.1 (fun q => absurd q (by omega)) (fun _ => ?_))
  refine g_if_eq h 206 dX12_one_178 rfl (fun _ => ?_) (fun c => absurd c (by decide))
  refine g_aload_0 h dX12_one_206 ?_
  refine g_iconst h dX12_one_207 (v := nI 4) rfl ?_
  refine g_bipush h dX12_one_208 (v := nI 45) rfl ?_
  refine g_cVi2 h rok0 mi_X12_is dX12_one_210 ml_X12_125 rfl rfl rfl (Nat.le_of_ble_eq_true rfl) (Nat.le_of_ble_eq_true rfl) (sgC_is (k := 37) rfl (by decide) hE.1 hE.2.1 hE.2.2.1 (fun _ => ?_) (fun q => absurd (show K p = 37 by omega) q))
  refine g_if_eq h 257 dX12_one_213 rfl (fun c => absurd c (by decide)) (fun _ => ?_)
  refine g_aload_0 h dX12_one_216 ?_
  refine g_cVv0 h rok0 mi_X12_deeper dX12_one_217 ml_X12_194 rfl rfl rfl (Nat.le_of_ble_eq_true rfl) (Nat.le_of_ble_eq_true rfl) (sp_deeper8 hE.2.1 hE.2.2.2.1.1 ?_)
  refine g_aload_0 h dX12_one_220 ?_
  refine g_dup h dX12_one_221 rfl ?_
  refine g_getI h fl_X12_118 dX12_one_222 rfl rfl ?_
  refine g_iconst h dX12_one_225 (v := nI 1) rfl ?_
  refine g_iadd h dX12_one_226 ?_
  refine g_putI h fp_X12_118 dX12_one_227 rfl rfl ?_
  refine g_aload_0 h dX12_one_230 ?_
  refine g_getP h fl_X12_91 dX12_one_231 rfl rfl (by assumption) ?_
  refine g_bipush h dX12_one_234 (v := nI 110) rfl ?_
  refine g_aload_0 h dX12_one_236 ?_
  refine g_cVi0 h rok0 mi_X12_one dX12_one_237 ml_X12_177 rfl rfl rfl (Nat.le_of_ble_eq_true rfl) (Nat.le_of_ble_eq_true rfl) (sp_one_dd (f := p) (by omega) b2.2.1 ?_)
  refine g_iconst h dX12_one_240 (v := nI 0) rfl ?_
  refine g_cVi3 h rok0 mi_X11_node dX12_one_241 ml_X12_173 rfl rfl rfl (Nat.le_of_ble_eq_true rfl) (Nat.le_of_ble_eq_true rfl) (sp_nodeW (z := z) (by omega) y3 (fun I9 w9 => ?_))
  refine g_istore_1 h dX12_one_244 (by decide) rfl ?_
  refine g_aload_0 h dX12_one_245 ?_
  refine g_dup h dX12_one_246 rfl ?_
  refine g_getI h fl_X12_138 dX12_one_247 rfl rfl ?_
  refine g_iconst h dX12_one_250 (v := nI 1) rfl ?_
  refine g_isub h dX12_one_251 ?_
  refine g_putI h fp_X12_138 dX12_one_252 rfl rfl ?_
  refine g_iload_1 h dX12_one_255 ?_
  refine g_iret h dX12_one_256 ?_
  have hv : (vS K V mm b g p) = (false, p, zE) := by rw [vS, if_neg (by omega), if_neg (by omega), if_neg (by omega), if_pos k1, hb, if_neg (by decide)]
  obtain ⟨w1, w2, w3, w4, w5, w6⟩ := w9
  have b9 : rB M I p z p I9 := ⟨f2.tr w1 (Nat.le_refl _), by rw [w6]; exact b2.2.1, Nat.le_refl _, hp, z + 1, w5, by omega, by omega⟩
  exact hF _ _ (by rw [hv]) (by rw [hv]; exact b9.up (Or.inr rfl))
set_option maxRecDepth 100000 in
set_option maxHeartbeats 4000000 in
theorem one_30 {K wd : Nat → Nat} {V mm : Nat → Int32} {M : Nat} {c D : Nat} {b : Bool} {g : Nat → PRs} {p z : Nat} {x : Option (Nat × Nat)} {I : MI} {J : MJ} {P : MP} (hP : P 80 9 = some 104) (hE : rE K wd V M mm I (c + 1) p z x) (k1 : K p = 30) (hb : b = true) (hG : cE K wd V M mm yX12_sum cX12_sum 3 (D + 8) c true (opS K 36 39 clS g)) {Q : Int32 → MI → MJ → MP → Prop} (hS : ∀ I' v z', (vS K V mm b g p).1 = true → rgE K wd V M mm I (c + 1) p z x (vS K V mm b g p).2.1 z' I' → (fbd K mm ((vS K V mm b g p).2.1 - p) p = none → nd true I' z' v (vS K V mm b g p).2.2) → Q v I' J P) (hF : ∀ I' v, (vS K V mm b g p).1 = false → rB M I p z (vS K V mm b g p).2.1 I' → Q v I' J P) : Sp yX12_one cX12_one 2 (some .int) (D + 10) [.ref 80] I J P (Qi Q) := by
  intro Γ h
  show VG Γ 0 0 0 [some (.ref 80), none] [] _ _ _ _
  obtain ⟨M4, K45, hp, hzp, c8⟩ := hE.M4
  obtain ⟨k47, k82, k83a, k83b, k83c⟩ := hE.1.2.2.1 p hp
  have s3 := srt3 _ k47
  have hsl := srt_lt (K p)
  have hv : (vS K V mm b g p) = cloP K 31 (opS K 36 39 clS g (p + 1)) := by rw [vS, if_neg (by omega), if_neg (by omega), if_neg (by omega), if_neg (by omega), if_pos k1, if_pos hb]
  refine g_aload_0 h dX12_one_0 ?_
  refine g_cVi0 h rok0 mi_X12_isOk dX12_one_1 ml_X12_121 rfl rfl rfl (Nat.le_of_ble_eq_true rfl) (Nat.le_of_ble_eq_true rfl) (sp_isOk_al hE.2.1 ?_)
  refine g_if_ne h 9 dX12_one_4 rfl (fun _ => ?_) (fun c => absurd c (by decide))
  refine g_aload_0 h dX12_one_9 ?_
  refine g_getC h fl_X12_36 dX12_one_10 rfl rfl ?_
  refine g_aload_0 h dX12_one_13 ?_
  refine g_getI h fl_X12_118 dX12_one_14 rfl rfl ?_
  refine g_iald h p dX12_one_17 rfl hE.2.1.1 (by omega) ?_
  rw [k82]
  refine g_iconst h dX12_one_18 (v := nI 3) rfl ?_
  refine g_icmp_ne h 40 dX12_one_19 rfl (fun _ => ?_) (fun c => absurd (s3.mp (eqN (by first | exact c | exact Classical.not_not.mp c) (by omega) (by decide))) (by omega))
  refine g_aload_0 h dX12_one_40 ?_
  refine g_iconst h dX12_one_41 (v := nI 2) rfl ?_
  refine g_bipush h dX12_one_42 (v := nI 16) rfl ?_
  refine g_cVi2 h rok0 mi_X12_is dX12_one_44 ml_X12_125 rfl rfl rfl (Nat.le_of_ble_eq_true rfl) (Nat.le_of_ble_eq_true rfl) (sp_is2 (k := 16) (by decide) hE.1 hE.2.1 hE.2.2.1 (fun q => absurd q (by omega)) (fun _ => ?_))
  refine g_if_eq h 72 dX12_one_47 rfl (fun _ => ?_) (fun c => absurd c (by decide))
  refine g_aload_0 h dX12_one_72 ?_
  refine g_iconst h dX12_one_73 (v := nI 2) rfl ?_
  refine g_bipush h dX12_one_74 (v := nI 17) rfl ?_
  refine g_cVi2 h rok0 mi_X12_is dX12_one_76 ml_X12_125 rfl rfl rfl (Nat.le_of_ble_eq_true rfl) (Nat.le_of_ble_eq_true rfl) (sp_is2 (k := 17) (by decide) hE.1 hE.2.1 hE.2.2.1 (fun q => absurd q (by omega)) (fun _ => ?_))
  refine g_if_ne h 102 dX12_one_79 rfl (fun c => absurd c (by decide)) (fun _ => ?_)
  refine g_aload_0 h dX12_one_82 ?_
  refine g_iconst h dX12_one_83 (v := nI 2) rfl ?_
  refine g_bipush h dX12_one_84 (v := nI 18) rfl ?_
  refine g_cVi2 h rok0 mi_X12_is dX12_one_86 ml_X12_125 rfl rfl rfl (Nat.le_of_ble_eq_true rfl) (Nat.le_of_ble_eq_true rfl) (sp_is2 (k := 18) (by decide) hE.1 hE.2.1 hE.2.2.1 (fun q => absurd q (by omega)) (fun _ => ?_))
  refine g_if_ne h 102 dX12_one_89 rfl (fun c => absurd c (by decide)) (fun _ => ?_)
  refine g_aload_0 h dX12_one_92 ?_
  refine g_iconst h dX12_one_93 (v := nI 2) rfl ?_
  refine g_bipush h dX12_one_94 (v := nI 19) rfl ?_
  refine g_cVi2 h rok0 mi_X12_is dX12_one_96 ml_X12_125 rfl rfl rfl (Nat.le_of_ble_eq_true rfl) (Nat.le_of_ble_eq_true rfl) (sp_is2 (k := 19) (by decide) hE.1 hE.2.1 hE.2.2.1 (fun q => absurd q (by omega)) (fun _ => ?_))
  refine g_if_eq h 136 dX12_one_99 rfl (fun _ => ?_) (fun c => absurd c (by decide))
  refine g_aload_0 h dX12_one_136 ?_
  refine g_iconst h dX12_one_137 (v := nI 2) rfl ?_
  refine g_bipush h dX12_one_138 (v := nI 20) rfl ?_
  refine g_cVi2 h rok0 mi_X12_is dX12_one_140 ml_X12_125 rfl rfl rfl (Nat.le_of_ble_eq_true rfl) (Nat.le_of_ble_eq_true rfl) (sp_is2 (k := 20) (by decide) hE.1 hE.2.1 hE.2.2.1 (fun q => absurd q (by omega)) (fun _ => ?_))
  refine g_if_eq h 171 dX12_one_143 rfl (fun _ => ?_) (fun c => absurd c (by decide))
  refine g_aload_0 h dX12_one_171 ?_
  refine g_iconst h dX12_one_172 (v := nI 2) rfl ?_
  refine g_bipush h dX12_one_173 (v := nI 21) rfl ?_
  refine g_cVi2 h rok0 mi_X12_is dX12_one_175 ml_X12_125 rfl rfl rfl (Nat.le_of_ble_eq_true rfl) (Nat.le_of_ble_eq_true rfl) (sp_is2 (k := 21) (by decide) hE.1 hE.2.1 hE.2.2.1 (fun q => absurd q (by omega)) (fun _ => ?_))
  refine g_if_eq h 206 dX12_one_178 rfl (fun _ => ?_) (fun c => absurd c (by decide))
  refine g_aload_0 h dX12_one_206 ?_
  refine g_iconst h dX12_one_207 (v := nI 4) rfl ?_
  refine g_bipush h dX12_one_208 (v := nI 45) rfl ?_
  refine g_cVi2 h rok0 mi_X12_is dX12_one_210 ml_X12_125 rfl rfl rfl (Nat.le_of_ble_eq_true rfl) (Nat.le_of_ble_eq_true rfl) (sgC_is (k := 37) rfl (by decide) hE.1 hE.2.1 hE.2.2.1 (fun q => absurd q (by omega)) (fun _ => ?_))
  refine g_if_eq h 257 dX12_one_213 rfl (fun _ => ?_) (fun c => absurd c (by decide))
  refine g_aload_0 h dX12_one_257 ?_
  refine g_iconst h dX12_one_258 (v := nI 4) rfl ?_
  refine g_bipush h dX12_one_259 (v := nI 40) rfl ?_
  refine g_cVi2 h rok0 mi_X12_is dX12_one_261 ml_X12_125 rfl rfl rfl (Nat.le_of_ble_eq_true rfl) (Nat.le_of_ble_eq_true rfl) (sgC_is (k := 30) rfl (by decide) hE.1 hE.2.1 hE.2.2.1 (fun _ => ?_) (fun q => absurd (show K p = 30 by omega) q))
  refine g_if_eq h 272 dX12_one_264 rfl (fun c => absurd c (by decide)) (fun _ => ?_)
  refine g_aload_0 h dX12_one_267 ?_
  refine g_cVi0 h rok0 mi_X12_inner dX12_one_268 ml_X12_197 rfl rfl rfl (Nat.le_of_ble_eq_true rfl) (Nat.le_of_ble_eq_true rfl) (sp_innerS hG hP hE k1 (fun I2 v2 z2 e2 q2 n2 => ?_) (fun I2 v2 e2 b2 => ?_))
  · refine g_iret h dX12_one_271 ?_
    exact hS I2 v2 z2 (by rw [hv]; exact e2) (by rw [hv]; exact q2) (by rw [hv]; exact n2)
  · refine g_iret h dX12_one_271 ?_
    exact hF I2 v2 (by rw [hv]; exact e2) (by rw [hv]; exact b2)
set_option maxRecDepth 100000 in
set_option maxHeartbeats 4000000 in
theorem one_30z {K wd : Nat → Nat} {V mm : Nat → Int32} {M : Nat} {D : Nat} {b : Bool} {g : Nat → PRs} {p z : Nat} {x : Option (Nat × Nat)} {I : MI} {J : MJ} {P : MP} (hP : P 80 9 = some 104) (hE : rE K wd V M mm I 0 p z x) (k1 : K p = 30) (hb : b = false) {Q : Int32 → MI → MJ → MP → Prop} (hS : ∀ I' v z', (vS K V mm b g p).1 = true → rgE K wd V M mm I 0 p z x (vS K V mm b g p).2.1 z' I' → (fbd K mm ((vS K V mm b g p).2.1 - p) p = none → nd true I' z' v (vS K V mm b g p).2.2) → Q v I' J P) (hF : ∀ I' v, (vS K V mm b g p).1 = false → rB M I p z (vS K V mm b g p).2.1 I' → Q v I' J P) : Sp yX12_one cX12_one 2 (some .int) (D + 10) [.ref 80] I J P (Qi Q) := by
  intro Γ h
  show VG Γ 0 0 0 [some (.ref 80), none] [] _ _ _ _
  obtain ⟨M4, K45, hp, hzp, c8⟩ := hE.M4
  obtain ⟨k47, k82, k83a, k83b, k83c⟩ := hE.1.2.2.1 p hp
  have s3 := srt3 _ k47
  have hsl := srt_lt (K p)
  have hv : (vS K V mm b g p) = (false, p, zE) := by rw [vS, if_neg (by omega), if_neg (by omega), if_neg (by omega), if_neg (by omega), if_pos k1, hb, if_neg (by decide)]
  refine g_aload_0 h dX12_one_0 ?_
  refine g_cVi0 h rok0 mi_X12_isOk dX12_one_1 ml_X12_121 rfl rfl rfl (Nat.le_of_ble_eq_true rfl) (Nat.le_of_ble_eq_true rfl) (sp_isOk_al hE.2.1 ?_)
  refine g_if_ne h 9 dX12_one_4 rfl (fun _ => ?_) (fun c => absurd c (by decide))
  refine g_aload_0 h dX12_one_9 ?_
  refine g_getC h fl_X12_36 dX12_one_10 rfl rfl ?_
  refine g_aload_0 h dX12_one_13 ?_
  refine g_getI h fl_X12_118 dX12_one_14 rfl rfl ?_
  refine g_iald h p dX12_one_17 rfl hE.2.1.1 (by omega) ?_
  rw [k82]
  refine g_iconst h dX12_one_18 (v := nI 3) rfl ?_
  refine g_icmp_ne h 40 dX12_one_19 rfl (fun _ => ?_) (fun c => absurd (s3.mp (eqN (by first | exact c | exact Classical.not_not.mp c) (by omega) (by decide))) (by omega))
  refine g_aload_0 h dX12_one_40 ?_
  refine g_iconst h dX12_one_41 (v := nI 2) rfl ?_
  refine g_bipush h dX12_one_42 (v := nI 16) rfl ?_
  refine g_cVi2 h rok0 mi_X12_is dX12_one_44 ml_X12_125 rfl rfl rfl (Nat.le_of_ble_eq_true rfl) (Nat.le_of_ble_eq_true rfl) (sp_is2 (k := 16) (by decide) hE.1 hE.2.1 hE.2.2.1 (fun q => absurd q (by omega)) (fun _ => ?_))
  refine g_if_eq h 72 dX12_one_47 rfl (fun _ => ?_) (fun c => absurd c (by decide))
  refine g_aload_0 h dX12_one_72 ?_
  refine g_iconst h dX12_one_73 (v := nI 2) rfl ?_
  refine g_bipush h dX12_one_74 (v := nI 17) rfl ?_
  refine g_cVi2 h rok0 mi_X12_is dX12_one_76 ml_X12_125 rfl rfl rfl (Nat.le_of_ble_eq_true rfl) (Nat.le_of_ble_eq_true rfl) (sp_is2 (k := 17) (by decide) hE.1 hE.2.1 hE.2.2.1 (fun q => absurd q (by omega)) (fun _ => ?_))
  refine g_if_ne h 102 dX12_one_79 rfl (fun c => absurd c (by decide)) (fun _ => ?_)
  refine g_aload_0 h dX12_one_82 ?_
  refine g_iconst h dX12_one_83 (v := nI 2) rfl ?_
  refine g_bipush h dX12_one_84 (v := nI 18) rfl ?_
  refine g_cVi2 h rok0 mi_X12_is dX12_one_86 ml_X12_125 rfl rfl rfl (Nat.le_of_ble_eq_true rfl) (Nat.le_of_ble_eq_true rfl) (sp_is2 (k := 18) (by decide) hE.1 hE.2.1 hE.2.2.1 (fun q => absurd q (by omega)) (fun _ => ?_))
  refine g_if_ne h 102 dX12_one_89 rfl (fun c => absurd c (by decide)) (fun _ => ?_)
  refine g_aload_0 h dX12_one_92 ?_
  refine g_iconst h dX12_one_93 (v := nI 2) rfl ?_
  refine g_bipush h dX12_one_94 (v := nI 19) rfl ?_
  refine g_cVi2 h rok0 mi_X12_is dX12_one_96 ml_X12_125 rfl rfl rfl (Nat.le_of_ble_eq_true rfl) (Nat.le_of_ble_eq_true rfl) (sp_is2 (k := 19) (by decide) hE.1 hE.2.1 hE.2.2.1 (fun q => absurd q (by omega)) (fun _ => ?_))
  refine g_if_eq h 136 dX12_one_99 rfl (fun _ => ?_) (fun c => absurd c (by decide))
  refine g_aload_0 h dX12_one_136 ?_
  refine g_iconst h dX12_one_137 (v := nI 2) rfl ?_
  refine g_bipush h dX12_one_138 (v := nI 20) rfl ?_
  refine g_cVi2 h rok0 mi_X12_is dX12_one_140 ml_X12_125 rfl rfl rfl (Nat.le_of_ble_eq_true rfl) (Nat.le_of_ble_eq_true rfl) (sp_is2 (k := 20) (by decide) hE.1 hE.2.1 hE.2.2.1 (fun q => absurd q (by omega)) (fun _ => ?_))
  refine g_if_eq h 171 dX12_one_143 rfl (fun _ => ?_) (fun c => absurd c (by decide))
  refine g_aload_0 h dX12_one_171 ?_
  refine g_iconst h dX12_one_172 (v := nI 2) rfl ?_
  refine g_bipush h dX12_one_173 (v := nI 21) rfl ?_
  refine g_cVi2 h rok0 mi_X12_is dX12_one_175 ml_X12_125 rfl rfl rfl (Nat.le_of_ble_eq_true rfl) (Nat.le_of_ble_eq_true rfl) (sp_is2 (k := 21) (by decide) hE.1 hE.2.1 hE.2.2.1 (fun q => absurd q (by omega)) (fun _ => ?_))
  refine g_if_eq h 206 dX12_one_178 rfl (fun _ => ?_) (fun c => absurd c (by decide))
  refine g_aload_0 h dX12_one_206 ?_
  refine g_iconst h dX12_one_207 (v := nI 4) rfl ?_
  refine g_bipush h dX12_one_208 (v := nI 45) rfl ?_
  refine g_cVi2 h rok0 mi_X12_is dX12_one_210 ml_X12_125 rfl rfl rfl (Nat.le_of_ble_eq_true rfl) (Nat.le_of_ble_eq_true rfl) (sgC_is (k := 37) rfl (by decide) hE.1 hE.2.1 hE.2.2.1 (fun q => absurd q (by omega)) (fun _ => ?_))
  refine g_if_eq h 257 dX12_one_213 rfl (fun _ => ?_) (fun c => absurd c (by decide))
  refine g_aload_0 h dX12_one_257 ?_
  refine g_iconst h dX12_one_258 (v := nI 4) rfl ?_
  refine g_bipush h dX12_one_259 (v := nI 40) rfl ?_
  refine g_cVi2 h rok0 mi_X12_is dX12_one_261 ml_X12_125 rfl rfl rfl (Nat.le_of_ble_eq_true rfl) (Nat.le_of_ble_eq_true rfl) (sgC_is (k := 30) rfl (by decide) hE.1 hE.2.1 hE.2.2.1 (fun _ => ?_) (fun q => absurd (show K p = 30 by omega) q))
  refine g_if_eq h 272 dX12_one_264 rfl (fun c => absurd c (by decide)) (fun _ => ?_)
  refine g_aload_0 h dX12_one_267 ?_
  refine g_cVi0 h rok0 mi_X12_inner dX12_one_268 ml_X12_197 rfl rfl rfl (Nat.le_of_ble_eq_true rfl) (Nat.le_of_ble_eq_true rfl) (sp_inner0 hE k1 (fun I2 v2 b2 => ?_))
  · refine g_iret h dX12_one_271 ?_
    exact hF I2 v2 (by rw [hv]) (by rw [hv]; exact b2)
set_option maxRecDepth 100000 in
set_option maxHeartbeats 4000000 in
theorem one_26 {K wd : Nat → Nat} {V mm : Nat → Int32} {M : Nat} {c D : Nat} {b : Bool} {g : Nat → PRs} {p z : Nat} {x : Option (Nat × Nat)} {I : MI} {J : MJ} {P : MP} (hP : P 80 9 = some 104) (hE : rE K wd V M mm I (c + 1) p z x) (k1 : K p = 26) (hb : b = true) (k2 : K (p + 1) = 30) (hG : cE K wd V M mm yX12_sum cX12_sum 3 (D + 8) c true (opS K 36 39 clS g)) {Q : Int32 → MI → MJ → MP → Prop} (hS : ∀ I' v z', (vS K V mm b g p).1 = true → rgE K wd V M mm I (c + 1) p z x (vS K V mm b g p).2.1 z' I' → (fbd K mm ((vS K V mm b g p).2.1 - p) p = none → nd true I' z' v (vS K V mm b g p).2.2) → Q v I' J P) (hF : ∀ I' v, (vS K V mm b g p).1 = false → rB M I p z (vS K V mm b g p).2.1 I' → Q v I' J P) : Sp yX12_one cX12_one 2 (some .int) (D + 10) [.ref 80] I J P (Qi Q) := by
  intro Γ h
  show VG Γ 0 0 0 [some (.ref 80), none] [] _ _ _ _
  obtain ⟨M4, K45, hp, hzp, c8⟩ := hE.M4
  obtain ⟨k47, k82, k83a, k83b, k83c⟩ := hE.1.2.2.1 p hp
  have s3 := srt3 _ k47
  have hsl := srt_lt (K p)
  have hv : (vS K V mm b g p) = if (cloP K 35 (opS K 36 39 clS g (p + 2))).1 then ((cloP K 31 (opS K 36 39 clS g (cloP K 35 (opS K 36 39 clS g (p + 2))).2.1)).1, (cloP K 31 (opS K 36 39 clS g (cloP K 35 (opS K 36 39 clS g (p + 2))).2.1)).2.1, joE (K p) (cloP K 35 (opS K 36 39 clS g (p + 2))).2.2 (cloP K 31 (opS K 36 39 clS g (cloP K 35 (opS K 36 39 clS g (p + 2))).2.1)).2.2) else (false, (cloP K 35 (opS K 36 39 clS g (p + 2))).2.1, zE) := by rw [vS, if_neg (by omega), if_neg (by omega), if_neg (by omega), if_neg (by omega), if_neg (by omega), if_pos (by omega), if_pos ⟨hb, k2⟩]
  refine g_aload_0 h dX12_one_0 ?_
  refine g_cVi0 h rok0 mi_X12_isOk dX12_one_1 ml_X12_121 rfl rfl rfl (Nat.le_of_ble_eq_true rfl) (Nat.le_of_ble_eq_true rfl) (sp_isOk_al hE.2.1 ?_)
  refine g_if_ne h 9 dX12_one_4 rfl (fun _ => ?_) (fun c => absurd c (by decide))
  refine g_aload_0 h dX12_one_9 ?_
  refine g_getC h fl_X12_36 dX12_one_10 rfl rfl ?_
  refine g_aload_0 h dX12_one_13 ?_
  refine g_getI h fl_X12_118 dX12_one_14 rfl rfl ?_
  refine g_iald h p dX12_one_17 rfl hE.2.1.1 (by omega) ?_
  rw [k82]
  refine g_iconst h dX12_one_18 (v := nI 3) rfl ?_
  refine g_icmp_ne h 40 dX12_one_19 rfl (fun _ => ?_) (fun c => absurd (s3.mp (eqN (by first | exact c | exact Classical.not_not.mp c) (by omega) (by decide))) (by omega))
  refine g_aload_0 h dX12_one_40 ?_
  refine g_iconst h dX12_one_41 (v := nI 2) rfl ?_
  refine g_bipush h dX12_one_42 (v := nI 16) rfl ?_
  refine g_cVi2 h rok0 mi_X12_is dX12_one_44 ml_X12_125 rfl rfl rfl (Nat.le_of_ble_eq_true rfl) (Nat.le_of_ble_eq_true rfl) (sp_is2 (k := 16) (by decide) hE.1 hE.2.1 hE.2.2.1 (fun q => absurd q (by omega)) (fun _ => ?_))
  refine g_if_eq h 72 dX12_one_47 rfl (fun _ => ?_) (fun c => absurd c (by decide))
  refine g_aload_0 h dX12_one_72 ?_
  refine g_iconst h dX12_one_73 (v := nI 2) rfl ?_
  refine g_bipush h dX12_one_74 (v := nI 17) rfl ?_
  refine g_cVi2 h rok0 mi_X12_is dX12_one_76 ml_X12_125 rfl rfl rfl (Nat.le_of_ble_eq_true rfl) (Nat.le_of_ble_eq_true rfl) (sp_is2 (k := 17) (by decide) hE.1 hE.2.1 hE.2.2.1 (fun q => absurd q (by omega)) (fun _ => ?_))
  refine g_if_ne h 102 dX12_one_79 rfl (fun c => absurd c (by decide)) (fun _ => ?_)
  refine g_aload_0 h dX12_one_82 ?_
  refine g_iconst h dX12_one_83 (v := nI 2) rfl ?_
  refine g_bipush h dX12_one_84 (v := nI 18) rfl ?_
  refine g_cVi2 h rok0 mi_X12_is dX12_one_86 ml_X12_125 rfl rfl rfl (Nat.le_of_ble_eq_true rfl) (Nat.le_of_ble_eq_true rfl) (sp_is2 (k := 18) (by decide) hE.1 hE.2.1 hE.2.2.1 (fun q => absurd q (by omega)) (fun _ => ?_))
  refine g_if_ne h 102 dX12_one_89 rfl (fun c => absurd c (by decide)) (fun _ => ?_)
  refine g_aload_0 h dX12_one_92 ?_
  refine g_iconst h dX12_one_93 (v := nI 2) rfl ?_
  refine g_bipush h dX12_one_94 (v := nI 19) rfl ?_
  refine g_cVi2 h rok0 mi_X12_is dX12_one_96 ml_X12_125 rfl rfl rfl (Nat.le_of_ble_eq_true rfl) (Nat.le_of_ble_eq_true rfl) (sp_is2 (k := 19) (by decide) hE.1 hE.2.1 hE.2.2.1 (fun q => absurd q (by omega)) (fun _ => ?_))
  refine g_if_eq h 136 dX12_one_99 rfl (fun _ => ?_) (fun c => absurd c (by decide))
  refine g_aload_0 h dX12_one_136 ?_
  refine g_iconst h dX12_one_137 (v := nI 2) rfl ?_
  refine g_bipush h dX12_one_138 (v := nI 20) rfl ?_
  refine g_cVi2 h rok0 mi_X12_is dX12_one_140 ml_X12_125 rfl rfl rfl (Nat.le_of_ble_eq_true rfl) (Nat.le_of_ble_eq_true rfl) (sp_is2 (k := 20) (by decide) hE.1 hE.2.1 hE.2.2.1 (fun q => absurd q (by omega)) (fun _ => ?_))
  refine g_if_eq h 171 dX12_one_143 rfl (fun _ => ?_) (fun c => absurd c (by decide))
  refine g_aload_0 h dX12_one_171 ?_
  refine g_iconst h dX12_one_172 (v := nI 2) rfl ?_
  refine g_bipush h dX12_one_173 (v := nI 21) rfl ?_
  refine g_cVi2 h rok0 mi_X12_is dX12_one_175 ml_X12_125 rfl rfl rfl (Nat.le_of_ble_eq_true rfl) (Nat.le_of_ble_eq_true rfl) (sp_is2 (k := 21) (by decide) hE.1 hE.2.1 hE.2.2.1 (fun q => absurd q (by omega)) (fun _ => ?_))
  refine g_if_eq h 206 dX12_one_178 rfl (fun _ => ?_) (fun c => absurd c (by decide))
  refine g_aload_0 h dX12_one_206 ?_
  refine g_iconst h dX12_one_207 (v := nI 4) rfl ?_
  refine g_bipush h dX12_one_208 (v := nI 45) rfl ?_
  refine g_cVi2 h rok0 mi_X12_is dX12_one_210 ml_X12_125 rfl rfl rfl (Nat.le_of_ble_eq_true rfl) (Nat.le_of_ble_eq_true rfl) (sgC_is (k := 37) rfl (by decide) hE.1 hE.2.1 hE.2.2.1 (fun q => absurd q (by omega)) (fun _ => ?_))
  refine g_if_eq h 257 dX12_one_213 rfl (fun _ => ?_) (fun c => absurd c (by decide))
  refine g_aload_0 h dX12_one_257 ?_
  refine g_iconst h dX12_one_258 (v := nI 4) rfl ?_
  refine g_bipush h dX12_one_259 (v := nI 40) rfl ?_
  refine g_cVi2 h rok0 mi_X12_is dX12_one_261 ml_X12_125 rfl rfl rfl (Nat.le_of_ble_eq_true rfl) (Nat.le_of_ble_eq_true rfl) (sgC_is (k := 30) rfl (by decide) hE.1 hE.2.1 hE.2.2.1 (fun q => absurd q (by omega)) (fun _ => ?_))
  refine g_if_eq h 272 dX12_one_264 rfl (fun _ => ?_) (fun c => absurd c (by decide))
  refine g_aload_0 h dX12_one_272 ?_
  refine g_iconst h dX12_one_273 (v := nI 2) rfl ?_
  refine g_bipush h dX12_one_274 (v := nI 26) rfl ?_
  refine g_cVi2 h rok0 mi_X12_is dX12_one_276 ml_X12_125 rfl rfl rfl (Nat.le_of_ble_eq_true rfl) (Nat.le_of_ble_eq_true rfl) (sp_is2 (k := 26) (by decide) hE.1 hE.2.1 hE.2.2.1 (fun _ => ?_) (fun q => absurd (show K p = 26 by omega) q))
  refine g_if_ne h 292 dX12_one_279 rfl (fun _ => ?_) (fun c => absurd c (by decide))
  refine g_aload_0 h dX12_one_292 ?_
  refine g_aload_0 h dX12_one_293 ?_
  refine g_getC h fl_X12_42 dX12_one_294 rfl rfl ?_
  refine g_aload_0 h dX12_one_297 ?_
  refine g_getI h fl_X12_118 dX12_one_298 rfl rfl ?_
  refine g_iald h p dX12_one_301 rfl hE.2.1.1 (by omega) ?_
  rw [k83a (by omega)]
  refine g_cVi1 h rok0 mi_X12_both dX12_one_302 ml_X12_200 rfl rfl rfl (Nat.le_of_ble_eq_true rfl) (Nat.le_of_ble_eq_true rfl) (sp_bothS hG hP hE (by omega) k2 (fun I2 v2 z2 e2 e3 q2 n2 => ?_) (fun I2 v2 e2 b2 => ?_) (fun I2 v2 e2 e3 b2 => ?_))
  · refine g_iret h dX12_one_305 ?_
    have hv2 : (vS K V mm b g p) = ((cloP K 31 (opS K 36 39 clS g (cloP K 35 (opS K 36 39 clS g (p + 2))).2.1)).1, (cloP K 31 (opS K 36 39 clS g (cloP K 35 (opS K 36 39 clS g (p + 2))).2.1)).2.1, joE (K p) (cloP K 35 (opS K 36 39 clS g (p + 2))).2.2 (cloP K 31 (opS K 36 39 clS g (cloP K 35 (opS K 36 39 clS g (p + 2))).2.1)).2.2) := hv.trans (if_pos e2)
    exact hS I2 v2 z2 (by rw [hv2]; exact e3) (by rw [hv2]; exact q2) (by rw [hv2]; exact n2)
  · refine g_iret h dX12_one_305 ?_
    have hv2 : (vS K V mm b g p) = (false, (cloP K 35 (opS K 36 39 clS g (p + 2))).2.1, zE) := hv.trans (if_neg (by rw [e2]; decide))
    exact hF I2 v2 (by rw [hv2]) (by rw [hv2]; exact b2)
  · refine g_iret h dX12_one_305 ?_
    have hv2 : (vS K V mm b g p) = ((cloP K 31 (opS K 36 39 clS g (cloP K 35 (opS K 36 39 clS g (p + 2))).2.1)).1, (cloP K 31 (opS K 36 39 clS g (cloP K 35 (opS K 36 39 clS g (p + 2))).2.1)).2.1, joE (K p) (cloP K 35 (opS K 36 39 clS g (p + 2))).2.2 (cloP K 31 (opS K 36 39 clS g (cloP K 35 (opS K 36 39 clS g (p + 2))).2.1)).2.2) := hv.trans (if_pos e2)
    exact hF I2 v2 (by rw [hv2]; exact e3) (by rw [hv2]; exact b2)
set_option maxRecDepth 100000 in
set_option maxHeartbeats 4000000 in
theorem one_26z {K wd : Nat → Nat} {V mm : Nat → Int32} {M : Nat} {D : Nat} {b : Bool} {g : Nat → PRs} {p z : Nat} {x : Option (Nat × Nat)} {I : MI} {J : MJ} {P : MP} (hP : P 80 9 = some 104) (hE : rE K wd V M mm I 0 p z x) (k1 : K p = 26) (hb : b = false) (k2 : K (p + 1) = 30) {Q : Int32 → MI → MJ → MP → Prop} (hS : ∀ I' v z', (vS K V mm b g p).1 = true → rgE K wd V M mm I 0 p z x (vS K V mm b g p).2.1 z' I' → (fbd K mm ((vS K V mm b g p).2.1 - p) p = none → nd true I' z' v (vS K V mm b g p).2.2) → Q v I' J P) (hF : ∀ I' v, (vS K V mm b g p).1 = false → rB M I p z (vS K V mm b g p).2.1 I' → Q v I' J P) : Sp yX12_one cX12_one 2 (some .int) (D + 10) [.ref 80] I J P (Qi Q) := by
  intro Γ h
  show VG Γ 0 0 0 [some (.ref 80), none] [] _ _ _ _
  obtain ⟨M4, K45, hp, hzp, c8⟩ := hE.M4
  obtain ⟨k47, k82, k83a, k83b, k83c⟩ := hE.1.2.2.1 p hp
  have s3 := srt3 _ k47
  have hsl := srt_lt (K p)
  have hv : (vS K V mm b g p) = (false, p + 1, zE) := by rw [vS, if_neg (by omega), if_neg (by omega), if_neg (by omega), if_neg (by omega), if_neg (by omega), if_pos (by omega), if_neg (fun q => absurd (hb.symm.trans q.1) (by decide))]
  refine g_aload_0 h dX12_one_0 ?_
  refine g_cVi0 h rok0 mi_X12_isOk dX12_one_1 ml_X12_121 rfl rfl rfl (Nat.le_of_ble_eq_true rfl) (Nat.le_of_ble_eq_true rfl) (sp_isOk_al hE.2.1 ?_)
  refine g_if_ne h 9 dX12_one_4 rfl (fun _ => ?_) (fun c => absurd c (by decide))
  refine g_aload_0 h dX12_one_9 ?_
  refine g_getC h fl_X12_36 dX12_one_10 rfl rfl ?_
  refine g_aload_0 h dX12_one_13 ?_
  refine g_getI h fl_X12_118 dX12_one_14 rfl rfl ?_
  refine g_iald h p dX12_one_17 rfl hE.2.1.1 (by omega) ?_
  rw [k82]
  refine g_iconst h dX12_one_18 (v := nI 3) rfl ?_
  refine g_icmp_ne h 40 dX12_one_19 rfl (fun _ => ?_) (fun c => absurd (s3.mp (eqN (by first | exact c | exact Classical.not_not.mp c) (by omega) (by decide))) (by omega))
  refine g_aload_0 h dX12_one_40 ?_
  refine g_iconst h dX12_one_41 (v := nI 2) rfl ?_
  refine g_bipush h dX12_one_42 (v := nI 16) rfl ?_
  refine g_cVi2 h rok0 mi_X12_is dX12_one_44 ml_X12_125 rfl rfl rfl (Nat.le_of_ble_eq_true rfl) (Nat.le_of_ble_eq_true rfl) (sp_is2 (k := 16) (by decide) hE.1 hE.2.1 hE.2.2.1 (fun q => absurd q (by omega)) (fun _ => ?_))
  refine g_if_eq h 72 dX12_one_47 rfl (fun _ => ?_) (fun c => absurd c (by decide))
  refine g_aload_0 h dX12_one_72 ?_
  refine g_iconst h dX12_one_73 (v := nI 2) rfl ?_
  refine g_bipush h dX12_one_74 (v := nI 17) rfl ?_
  refine g_cVi2 h rok0 mi_X12_is dX12_one_76 ml_X12_125 rfl rfl rfl (Nat.le_of_ble_eq_true rfl) (Nat.le_of_ble_eq_true rfl) (sp_is2 (k := 17) (by decide) hE.1 hE.2.1 hE.2.2.1 (fun q => absurd q (by omega)) (fun _ => ?_))
  refine g_if_ne h 102 dX12_one_79 rfl (fun c => absurd c (by decide)) (fun _ => ?_)
  refine g_aload_0 h dX12_one_82 ?_
  refine g_iconst h dX12_one_83 (v := nI 2) rfl ?_
  refine g_bipush h dX12_one_84 (v := nI 18) rfl ?_
  refine g_cVi2 h rok0 mi_X12_is dX12_one_86 ml_X12_125 rfl rfl rfl (Nat.le_of_ble_eq_true rfl) (Nat.le_of_ble_eq_true rfl) (sp_is2 (k := 18) (by decide) hE.1 hE.2.1 hE.2.2.1 (fun q => absurd q (by omega)) (fun _ => ?_))
  refine g_if_ne h 102 dX12_one_89 rfl (fun c => absurd c (by decide)) (fun _ => ?_)
  refine g_aload_0 h dX12_one_92 ?_
  refine g_iconst h dX12_one_93 (v := nI 2) rfl ?_
  refine g_bipush h dX12_one_94 (v := nI 19) rfl ?_
  refine g_cVi2 h rok0 mi_X12_is dX12_one_96 ml_X12_125 rfl rfl rfl (Nat.le_of_ble_eq_true rfl) (Nat.le_of_ble_eq_true rfl) (sp_is2 (k := 19) (by decide) hE.1 hE.2.1 hE.2.2.1 (fun q => absurd q (by omega)) (fun _ => ?_))
  refine g_if_eq h 136 dX12_one_99 rfl (fun _ => ?_) (fun c => absurd c (by decide))
  refine g_aload_0 h dX12_one_136 ?_
  refine g_iconst h dX12_one_137 (v := nI 2) rfl ?_
  refine g_bipush h dX12_one_138 (v := nI 20) rfl ?_
  refine g_cVi2 h rok0 mi_X12_is dX12_one_140 ml_X12_125 rfl rfl rfl (Nat.le_of_ble_eq_true rfl) (Nat.le_of_ble_eq_true rfl) (sp_is2 (k := 20) (by decide) hE.1 hE.2.1 hE.2.2.1 (fun q => absurd q (by omega)) (fun _ => ?_))
  refine g_if_eq h 171 dX12_one_143 rfl (fun _ => ?_) (fun c => absurd c (by decide))
  refine g_aload_0 h dX12_one_171 ?_
  refine g_iconst h dX12_one_172 (v := nI 2) rfl ?_
  refine g_bipush h dX12_one_173 (v := nI 21) rfl ?_
  refine g_cVi2 h rok0 mi_X12_is dX12_one_175 ml_X12_125 rfl rfl rfl (Nat.le_of_ble_eq_true rfl) (Nat.le_of_ble_eq_true rfl) (sp_is2 (k := 21) (by decide) hE.1 hE.2.1 hE.2.2.1 (fun q => absurd q (by omega)) (fun _ => ?_))
  refine g_if_eq h 206 dX12_one_178 rfl (fun _ => ?_) (fun c => absurd c (by decide))
  refine g_aload_0 h dX12_one_206 ?_
  refine g_iconst h dX12_one_207 (v := nI 4) rfl ?_
  refine g_bipush h dX12_one_208 (v := nI 45) rfl ?_
  refine g_cVi2 h rok0 mi_X12_is dX12_one_210 ml_X12_125 rfl rfl rfl (Nat.le_of_ble_eq_true rfl) (Nat.le_of_ble_eq_true rfl) (sgC_is (k := 37) rfl (by decide) hE.1 hE.2.1 hE.2.2.1 (fun q => absurd q (by omega)) (fun _ => ?_))
  refine g_if_eq h 257 dX12_one_213 rfl (fun _ => ?_) (fun c => absurd c (by decide))
  refine g_aload_0 h dX12_one_257 ?_
  refine g_iconst h dX12_one_258 (v := nI 4) rfl ?_
  refine g_bipush h dX12_one_259 (v := nI 40) rfl ?_
  refine g_cVi2 h rok0 mi_X12_is dX12_one_261 ml_X12_125 rfl rfl rfl (Nat.le_of_ble_eq_true rfl) (Nat.le_of_ble_eq_true rfl) (sgC_is (k := 30) rfl (by decide) hE.1 hE.2.1 hE.2.2.1 (fun q => absurd q (by omega)) (fun _ => ?_))
  refine g_if_eq h 272 dX12_one_264 rfl (fun _ => ?_) (fun c => absurd c (by decide))
  refine g_aload_0 h dX12_one_272 ?_
  refine g_iconst h dX12_one_273 (v := nI 2) rfl ?_
  refine g_bipush h dX12_one_274 (v := nI 26) rfl ?_
  refine g_cVi2 h rok0 mi_X12_is dX12_one_276 ml_X12_125 rfl rfl rfl (Nat.le_of_ble_eq_true rfl) (Nat.le_of_ble_eq_true rfl) (sp_is2 (k := 26) (by decide) hE.1 hE.2.1 hE.2.2.1 (fun _ => ?_) (fun q => absurd (show K p = 26 by omega) q))
  refine g_if_ne h 292 dX12_one_279 rfl (fun _ => ?_) (fun c => absurd c (by decide))
  refine g_aload_0 h dX12_one_292 ?_
  refine g_aload_0 h dX12_one_293 ?_
  refine g_getC h fl_X12_42 dX12_one_294 rfl rfl ?_
  refine g_aload_0 h dX12_one_297 ?_
  refine g_getI h fl_X12_118 dX12_one_298 rfl rfl ?_
  refine g_iald h p dX12_one_301 rfl hE.2.1.1 (by omega) ?_
  rw [k83a (by omega)]
  refine g_cVi1 h rok0 mi_X12_both dX12_one_302 ml_X12_200 rfl rfl rfl (Nat.le_of_ble_eq_true rfl) (Nat.le_of_ble_eq_true rfl) (sp_both0 hP hE (by omega) k2 (fun I2 v2 b2 => ?_))
  · refine g_iret h dX12_one_305 ?_
    exact hF I2 v2 (by rw [hv]) (by rw [hv]; exact b2)
set_option maxRecDepth 100000 in
set_option maxHeartbeats 4000000 in
theorem one_26n {K wd : Nat → Nat} {V mm : Nat → Int32} {M : Nat} {c D : Nat} {b : Bool} {g : Nat → PRs} {p z : Nat} {x : Option (Nat × Nat)} {I : MI} {J : MJ} {P : MP} (hP : P 80 9 = some 104) (hE : rE K wd V M mm I c p z x) (k1 : K p = 26) (k2 : ¬ K (p + 1) = 30) {Q : Int32 → MI → MJ → MP → Prop} (hS : ∀ I' v z', (vS K V mm b g p).1 = true → rgE K wd V M mm I c p z x (vS K V mm b g p).2.1 z' I' → (fbd K mm ((vS K V mm b g p).2.1 - p) p = none → nd true I' z' v (vS K V mm b g p).2.2) → Q v I' J P) (hF : ∀ I' v, (vS K V mm b g p).1 = false → rB M I p z (vS K V mm b g p).2.1 I' → Q v I' J P) : Sp yX12_one cX12_one 2 (some .int) (D + 10) [.ref 80] I J P (Qi Q) := by
  intro Γ h
  show VG Γ 0 0 0 [some (.ref 80), none] [] _ _ _ _
  obtain ⟨M4, K45, hp, hzp, c8⟩ := hE.M4
  obtain ⟨k47, k82, k83a, k83b, k83c⟩ := hE.1.2.2.1 p hp
  have s3 := srt3 _ k47
  have hsl := srt_lt (K p)
  have hv : (vS K V mm b g p) = (false, p + 1, zE) := by rw [vS, if_neg (by omega), if_neg (by omega), if_neg (by omega), if_neg (by omega), if_neg (by omega), if_pos (by omega), if_neg (fun q => k2 q.2)]
  refine g_aload_0 h dX12_one_0 ?_
  refine g_cVi0 h rok0 mi_X12_isOk dX12_one_1 ml_X12_121 rfl rfl rfl (Nat.le_of_ble_eq_true rfl) (Nat.le_of_ble_eq_true rfl) (sp_isOk_al hE.2.1 ?_)
  refine g_if_ne h 9 dX12_one_4 rfl (fun _ => ?_) (fun c => absurd c (by decide))
  refine g_aload_0 h dX12_one_9 ?_
  refine g_getC h fl_X12_36 dX12_one_10 rfl rfl ?_
  refine g_aload_0 h dX12_one_13 ?_
  refine g_getI h fl_X12_118 dX12_one_14 rfl rfl ?_
  refine g_iald h p dX12_one_17 rfl hE.2.1.1 (by omega) ?_
  rw [k82]
  refine g_iconst h dX12_one_18 (v := nI 3) rfl ?_
  refine g_icmp_ne h 40 dX12_one_19 rfl (fun _ => ?_) (fun c => absurd (s3.mp (eqN (by first | exact c | exact Classical.not_not.mp c) (by omega) (by decide))) (by omega))
  refine g_aload_0 h dX12_one_40 ?_
  refine g_iconst h dX12_one_41 (v := nI 2) rfl ?_
  refine g_bipush h dX12_one_42 (v := nI 16) rfl ?_
  refine g_cVi2 h rok0 mi_X12_is dX12_one_44 ml_X12_125 rfl rfl rfl (Nat.le_of_ble_eq_true rfl) (Nat.le_of_ble_eq_true rfl) (sp_is2 (k := 16) (by decide) hE.1 hE.2.1 hE.2.2.1 (fun q => absurd q (by omega)) (fun _ => ?_))
  refine g_if_eq h 72 dX12_one_47 rfl (fun _ => ?_) (fun c => absurd c (by decide))
  refine g_aload_0 h dX12_one_72 ?_
  refine g_iconst h dX12_one_73 (v := nI 2) rfl ?_
  refine g_bipush h dX12_one_74 (v := nI 17) rfl ?_
  refine g_cVi2 h rok0 mi_X12_is dX12_one_76 ml_X12_125 rfl rfl rfl (Nat.le_of_ble_eq_true rfl) (Nat.le_of_ble_eq_true rfl) (sp_is2 (k := 17) (by decide) hE.1 hE.2.1 hE.2.2.1 (fun q => absurd q (by omega)) (fun _ => ?_))
  refine g_if_ne h 102 dX12_one_79 rfl (fun c => absurd c (by decide)) (fun _ => ?_)
  refine g_aload_0 h dX12_one_82 ?_
  refine g_iconst h dX12_one_83 (v := nI 2) rfl ?_
  refine g_bipush h dX12_one_84 (v := nI 18) rfl ?_
  refine g_cVi2 h rok0 mi_X12_is dX12_one_86 ml_X12_125 rfl rfl rfl (Nat.le_of_ble_eq_true rfl) (Nat.le_of_ble_eq_true rfl) (sp_is2 (k := 18) (by decide) hE.1 hE.2.1 hE.2.2.1 (fun q => absurd q (by omega)) (fun _ => ?_))
  refine g_if_ne h 102 dX12_one_89 rfl (fun c => absurd c (by decide)) (fun _ => ?_)
  refine g_aload_0 h dX12_one_92 ?_
  refine g_iconst h dX12_one_93 (v := nI 2) rfl ?_
  refine g_bipush h dX12_one_94 (v := nI 19) rfl ?_
  refine g_cVi2 h rok0 mi_X12_is dX12_one_96 ml_X12_125 rfl rfl rfl (Nat.le_of_ble_eq_true rfl) (Nat.le_of_ble_eq_true rfl) (sp_is2 (k := 19) (by decide) hE.1 hE.2.1 hE.2.2.1 (fun q => absurd q (by omega)) (fun _ => ?_))
  refine g_if_eq h 136 dX12_one_99 rfl (fun _ => ?_) (fun c => absurd c (by decide))
  refine g_aload_0 h dX12_one_136 ?_
  refine g_iconst h dX12_one_137 (v := nI 2) rfl ?_
  refine g_bipush h dX12_one_138 (v := nI 20) rfl ?_
  refine g_cVi2 h rok0 mi_X12_is dX12_one_140 ml_X12_125 rfl rfl rfl (Nat.le_of_ble_eq_true rfl) (Nat.le_of_ble_eq_true rfl) (sp_is2 (k := 20) (by decide) hE.1 hE.2.1 hE.2.2.1 (fun q => absurd q (by omega)) (fun _ => ?_))
  refine g_if_eq h 171 dX12_one_143 rfl (fun _ => ?_) (fun c => absurd c (by decide))
  refine g_aload_0 h dX12_one_171 ?_
  refine g_iconst h dX12_one_172 (v := nI 2) rfl ?_
  refine g_bipush h dX12_one_173 (v := nI 21) rfl ?_
  refine g_cVi2 h rok0 mi_X12_is dX12_one_175 ml_X12_125 rfl rfl rfl (Nat.le_of_ble_eq_true rfl) (Nat.le_of_ble_eq_true rfl) (sp_is2 (k := 21) (by decide) hE.1 hE.2.1 hE.2.2.1 (fun q => absurd q (by omega)) (fun _ => ?_))
  refine g_if_eq h 206 dX12_one_178 rfl (fun _ => ?_) (fun c => absurd c (by decide))
  refine g_aload_0 h dX12_one_206 ?_
  refine g_iconst h dX12_one_207 (v := nI 4) rfl ?_
  refine g_bipush h dX12_one_208 (v := nI 45) rfl ?_
  refine g_cVi2 h rok0 mi_X12_is dX12_one_210 ml_X12_125 rfl rfl rfl (Nat.le_of_ble_eq_true rfl) (Nat.le_of_ble_eq_true rfl) (sgC_is (k := 37) rfl (by decide) hE.1 hE.2.1 hE.2.2.1 (fun q => absurd q (by omega)) (fun _ => ?_))
  refine g_if_eq h 257 dX12_one_213 rfl (fun _ => ?_) (fun c => absurd c (by decide))
  refine g_aload_0 h dX12_one_257 ?_
  refine g_iconst h dX12_one_258 (v := nI 4) rfl ?_
  refine g_bipush h dX12_one_259 (v := nI 40) rfl ?_
  refine g_cVi2 h rok0 mi_X12_is dX12_one_261 ml_X12_125 rfl rfl rfl (Nat.le_of_ble_eq_true rfl) (Nat.le_of_ble_eq_true rfl) (sgC_is (k := 30) rfl (by decide) hE.1 hE.2.1 hE.2.2.1 (fun q => absurd q (by omega)) (fun _ => ?_))
  refine g_if_eq h 272 dX12_one_264 rfl (fun _ => ?_) (fun c => absurd c (by decide))
  refine g_aload_0 h dX12_one_272 ?_
  refine g_iconst h dX12_one_273 (v := nI 2) rfl ?_
  refine g_bipush h dX12_one_274 (v := nI 26) rfl ?_
  refine g_cVi2 h rok0 mi_X12_is dX12_one_276 ml_X12_125 rfl rfl rfl (Nat.le_of_ble_eq_true rfl) (Nat.le_of_ble_eq_true rfl) (sp_is2 (k := 26) (by decide) hE.1 hE.2.1 hE.2.2.1 (fun _ => ?_) (fun q => absurd (show K p = 26 by omega) q))
  refine g_if_ne h 292 dX12_one_279 rfl (fun _ => ?_) (fun c => absurd c (by decide))
  refine g_aload_0 h dX12_one_292 ?_
  refine g_aload_0 h dX12_one_293 ?_
  refine g_getC h fl_X12_42 dX12_one_294 rfl rfl ?_
  refine g_aload_0 h dX12_one_297 ?_
  refine g_getI h fl_X12_118 dX12_one_298 rfl rfl ?_
  refine g_iald h p dX12_one_301 rfl hE.2.1.1 (by omega) ?_
  rw [k83a (by omega)]
  refine g_cVi1 h rok0 mi_X12_both dX12_one_302 ml_X12_200 rfl rfl rfl (Nat.le_of_ble_eq_true rfl) (Nat.le_of_ble_eq_true rfl) (sp_bothN hE (by omega) k2 (fun I2 v2 b2 => ?_))
  · refine g_iret h dX12_one_305 ?_
    exact hF I2 v2 (by rw [hv]) (by rw [hv]; exact b2)
set_option maxRecDepth 100000 in
set_option maxHeartbeats 4000000 in
theorem one_27 {K wd : Nat → Nat} {V mm : Nat → Int32} {M : Nat} {c D : Nat} {b : Bool} {g : Nat → PRs} {p z : Nat} {x : Option (Nat × Nat)} {I : MI} {J : MJ} {P : MP} (hP : P 80 9 = some 104) (hE : rE K wd V M mm I (c + 1) p z x) (k1 : K p = 27) (hb : b = true) (k2 : K (p + 1) = 30) (hG : cE K wd V M mm yX12_sum cX12_sum 3 (D + 8) c true (opS K 36 39 clS g)) {Q : Int32 → MI → MJ → MP → Prop} (hS : ∀ I' v z', (vS K V mm b g p).1 = true → rgE K wd V M mm I (c + 1) p z x (vS K V mm b g p).2.1 z' I' → (fbd K mm ((vS K V mm b g p).2.1 - p) p = none → nd true I' z' v (vS K V mm b g p).2.2) → Q v I' J P) (hF : ∀ I' v, (vS K V mm b g p).1 = false → rB M I p z (vS K V mm b g p).2.1 I' → Q v I' J P) : Sp yX12_one cX12_one 2 (some .int) (D + 10) [.ref 80] I J P (Qi Q) := by
  intro Γ h
  show VG Γ 0 0 0 [some (.ref 80), none] [] _ _ _ _
  obtain ⟨M4, K45, hp, hzp, c8⟩ := hE.M4
  obtain ⟨k47, k82, k83a, k83b, k83c⟩ := hE.1.2.2.1 p hp
  have s3 := srt3 _ k47
  have hsl := srt_lt (K p)
  have hv : (vS K V mm b g p) = if (cloP K 35 (opS K 36 39 clS g (p + 2))).1 then ((cloP K 31 (opS K 36 39 clS g (cloP K 35 (opS K 36 39 clS g (p + 2))).2.1)).1, (cloP K 31 (opS K 36 39 clS g (cloP K 35 (opS K 36 39 clS g (p + 2))).2.1)).2.1, joE (K p) (cloP K 35 (opS K 36 39 clS g (p + 2))).2.2 (cloP K 31 (opS K 36 39 clS g (cloP K 35 (opS K 36 39 clS g (p + 2))).2.1)).2.2) else (false, (cloP K 35 (opS K 36 39 clS g (p + 2))).2.1, zE) := by rw [vS, if_neg (by omega), if_neg (by omega), if_neg (by omega), if_neg (by omega), if_neg (by omega), if_pos (by omega), if_pos ⟨hb, k2⟩]
  refine g_aload_0 h dX12_one_0 ?_
  refine g_cVi0 h rok0 mi_X12_isOk dX12_one_1 ml_X12_121 rfl rfl rfl (Nat.le_of_ble_eq_true rfl) (Nat.le_of_ble_eq_true rfl) (sp_isOk_al hE.2.1 ?_)
  refine g_if_ne h 9 dX12_one_4 rfl (fun _ => ?_) (fun c => absurd c (by decide))
  refine g_aload_0 h dX12_one_9 ?_
  refine g_getC h fl_X12_36 dX12_one_10 rfl rfl ?_
  refine g_aload_0 h dX12_one_13 ?_
  refine g_getI h fl_X12_118 dX12_one_14 rfl rfl ?_
  refine g_iald h p dX12_one_17 rfl hE.2.1.1 (by omega) ?_
  rw [k82]
  refine g_iconst h dX12_one_18 (v := nI 3) rfl ?_
  refine g_icmp_ne h 40 dX12_one_19 rfl (fun _ => ?_) (fun c => absurd (s3.mp (eqN (by first | exact c | exact Classical.not_not.mp c) (by omega) (by decide))) (by omega))
  refine g_aload_0 h dX12_one_40 ?_
  refine g_iconst h dX12_one_41 (v := nI 2) rfl ?_
  refine g_bipush h dX12_one_42 (v := nI 16) rfl ?_
  refine g_cVi2 h rok0 mi_X12_is dX12_one_44 ml_X12_125 rfl rfl rfl (Nat.le_of_ble_eq_true rfl) (Nat.le_of_ble_eq_true rfl) (sp_is2 (k := 16) (by decide) hE.1 hE.2.1 hE.2.2.1 (fun q => absurd q (by omega)) (fun _ => ?_))
  refine g_if_eq h 72 dX12_one_47 rfl (fun _ => ?_) (fun c => absurd c (by decide))
  refine g_aload_0 h dX12_one_72 ?_
  refine g_iconst h dX12_one_73 (v := nI 2) rfl ?_
  refine g_bipush h dX12_one_74 (v := nI 17) rfl ?_
  refine g_cVi2 h rok0 mi_X12_is dX12_one_76 ml_X12_125 rfl rfl rfl (Nat.le_of_ble_eq_true rfl) (Nat.le_of_ble_eq_true rfl) (sp_is2 (k := 17) (by decide) hE.1 hE.2.1 hE.2.2.1 (fun q => absurd q (by omega)) (fun _ => ?_))
  refine g_if_ne h 102 dX12_one_79 rfl (fun c => absurd c (by decide)) (fun _ => ?_)
  refine g_aload_0 h dX12_one_82 ?_
  refine g_iconst h dX12_one_83 (v := nI 2) rfl ?_
  refine g_bipush h dX12_one_84 (v := nI 18) rfl ?_
  refine g_cVi2 h rok0 mi_X12_is dX12_one_86 ml_X12_125 rfl rfl rfl (Nat.le_of_ble_eq_true rfl) (Nat.le_of_ble_eq_true rfl) (sp_is2 (k := 18) (by decide) hE.1 hE.2.1 hE.2.2.1 (fun q => absurd q (by omega)) (fun _ => ?_))
  refine g_if_ne h 102 dX12_one_89 rfl (fun c => absurd c (by decide)) (fun _ => ?_)
  refine g_aload_0 h dX12_one_92 ?_
  refine g_iconst h dX12_one_93 (v := nI 2) rfl ?_
  refine g_bipush h dX12_one_94 (v := nI 19) rfl ?_
  refine g_cVi2 h rok0 mi_X12_is dX12_one_96 ml_X12_125 rfl rfl rfl (Nat.le_of_ble_eq_true rfl) (Nat.le_of_ble_eq_true rfl) (sp_is2 (k := 19) (by decide) hE.1 hE.2.1 hE.2.2.1 (fun q => absurd q (by omega)) (fun _ => ?_))
  refine g_if_eq h 136 dX12_one_99 rfl (fun _ => ?_) (fun c => absurd c (by decide))
  refine g_aload_0 h dX12_one_136 ?_
  refine g_iconst h dX12_one_137 (v := nI 2) rfl ?_
  refine g_bipush h dX12_one_138 (v := nI 20) rfl ?_
  refine g_cVi2 h rok0 mi_X12_is dX12_one_140 ml_X12_125 rfl rfl rfl (Nat.le_of_ble_eq_true rfl) (Nat.le_of_ble_eq_true rfl) (sp_is2 (k := 20) (by decide) hE.1 hE.2.1 hE.2.2.1 (fun q => absurd q (by omega)) (fun _ => ?_))
  refine g_if_eq h 171 dX12_one_143 rfl (fun _ => ?_) (fun c => absurd c (by decide))
  refine g_aload_0 h dX12_one_171 ?_
  refine g_iconst h dX12_one_172 (v := nI 2) rfl ?_
  refine g_bipush h dX12_one_173 (v := nI 21) rfl ?_
  refine g_cVi2 h rok0 mi_X12_is dX12_one_175 ml_X12_125 rfl rfl rfl (Nat.le_of_ble_eq_true rfl) (Nat.le_of_ble_eq_true rfl) (sp_is2 (k := 21) (by decide) hE.1 hE.2.1 hE.2.2.1 (fun q => absurd q (by omega)) (fun _ => ?_))
  refine g_if_eq h 206 dX12_one_178 rfl (fun _ => ?_) (fun c => absurd c (by decide))
  refine g_aload_0 h dX12_one_206 ?_
  refine g_iconst h dX12_one_207 (v := nI 4) rfl ?_
  refine g_bipush h dX12_one_208 (v := nI 45) rfl ?_
  refine g_cVi2 h rok0 mi_X12_is dX12_one_210 ml_X12_125 rfl rfl rfl (Nat.le_of_ble_eq_true rfl) (Nat.le_of_ble_eq_true rfl) (sgC_is (k := 37) rfl (by decide) hE.1 hE.2.1 hE.2.2.1 (fun q => absurd q (by omega)) (fun _ => ?_))
  refine g_if_eq h 257 dX12_one_213 rfl (fun _ => ?_) (fun c => absurd c (by decide))
  refine g_aload_0 h dX12_one_257 ?_
  refine g_iconst h dX12_one_258 (v := nI 4) rfl ?_
  refine g_bipush h dX12_one_259 (v := nI 40) rfl ?_
  refine g_cVi2 h rok0 mi_X12_is dX12_one_261 ml_X12_125 rfl rfl rfl (Nat.le_of_ble_eq_true rfl) (Nat.le_of_ble_eq_true rfl) (sgC_is (k := 30) rfl (by decide) hE.1 hE.2.1 hE.2.2.1 (fun q => absurd q (by omega)) (fun _ => ?_))
  refine g_if_eq h 272 dX12_one_264 rfl (fun _ => ?_) (fun c => absurd c (by decide))
  refine g_aload_0 h dX12_one_272 ?_
  refine g_iconst h dX12_one_273 (v := nI 2) rfl ?_
  refine g_bipush h dX12_one_274 (v := nI 26) rfl ?_
  refine g_cVi2 h rok0 mi_X12_is dX12_one_276 ml_X12_125 rfl rfl rfl (Nat.le_of_ble_eq_true rfl) (Nat.le_of_ble_eq_true rfl) (sp_is2 (k := 26) (by decide) hE.1 hE.2.1 hE.2.2.1 (fun q => absurd q (by omega)) (fun _ => ?_))
  refine g_if_ne h 292 dX12_one_279 rfl (fun c => absurd c (by decide)) (fun _ => ?_)
  refine g_aload_0 h dX12_one_282 ?_
  refine g_iconst h dX12_one_283 (v := nI 2) rfl ?_
  refine g_bipush h dX12_one_284 (v := nI 27) rfl ?_
  refine g_cVi2 h rok0 mi_X12_is dX12_one_286 ml_X12_125 rfl rfl rfl (Nat.le_of_ble_eq_true rfl) (Nat.le_of_ble_eq_true rfl) (sp_is2 (k := 27) (by decide) hE.1 hE.2.1 hE.2.2.1 (fun _ => ?_) (fun q => absurd (show K p = 27 by omega) q))
  refine g_if_eq h 306 dX12_one_289 rfl (fun c => absurd c (by decide)) (fun _ => ?_)
  refine g_aload_0 h dX12_one_292 ?_
  refine g_aload_0 h dX12_one_293 ?_
  refine g_getC h fl_X12_42 dX12_one_294 rfl rfl ?_
  refine g_aload_0 h dX12_one_297 ?_
  refine g_getI h fl_X12_118 dX12_one_298 rfl rfl ?_
  refine g_iald h p dX12_one_301 rfl hE.2.1.1 (by omega) ?_
  rw [k83a (by omega)]
  refine g_cVi1 h rok0 mi_X12_both dX12_one_302 ml_X12_200 rfl rfl rfl (Nat.le_of_ble_eq_true rfl) (Nat.le_of_ble_eq_true rfl) (sp_bothS hG hP hE (by omega) k2 (fun I2 v2 z2 e2 e3 q2 n2 => ?_) (fun I2 v2 e2 b2 => ?_) (fun I2 v2 e2 e3 b2 => ?_))
  · refine g_iret h dX12_one_305 ?_
    have hv2 : (vS K V mm b g p) = ((cloP K 31 (opS K 36 39 clS g (cloP K 35 (opS K 36 39 clS g (p + 2))).2.1)).1, (cloP K 31 (opS K 36 39 clS g (cloP K 35 (opS K 36 39 clS g (p + 2))).2.1)).2.1, joE (K p) (cloP K 35 (opS K 36 39 clS g (p + 2))).2.2 (cloP K 31 (opS K 36 39 clS g (cloP K 35 (opS K 36 39 clS g (p + 2))).2.1)).2.2) := hv.trans (if_pos e2)
    exact hS I2 v2 z2 (by rw [hv2]; exact e3) (by rw [hv2]; exact q2) (by rw [hv2]; exact n2)
  · refine g_iret h dX12_one_305 ?_
    have hv2 : (vS K V mm b g p) = (false, (cloP K 35 (opS K 36 39 clS g (p + 2))).2.1, zE) := hv.trans (if_neg (by rw [e2]; decide))
    exact hF I2 v2 (by rw [hv2]) (by rw [hv2]; exact b2)
  · refine g_iret h dX12_one_305 ?_
    have hv2 : (vS K V mm b g p) = ((cloP K 31 (opS K 36 39 clS g (cloP K 35 (opS K 36 39 clS g (p + 2))).2.1)).1, (cloP K 31 (opS K 36 39 clS g (cloP K 35 (opS K 36 39 clS g (p + 2))).2.1)).2.1, joE (K p) (cloP K 35 (opS K 36 39 clS g (p + 2))).2.2 (cloP K 31 (opS K 36 39 clS g (cloP K 35 (opS K 36 39 clS g (p + 2))).2.1)).2.2) := hv.trans (if_pos e2)
    exact hF I2 v2 (by rw [hv2]; exact e3) (by rw [hv2]; exact b2)
set_option maxRecDepth 100000 in
set_option maxHeartbeats 4000000 in
theorem one_27z {K wd : Nat → Nat} {V mm : Nat → Int32} {M : Nat} {D : Nat} {b : Bool} {g : Nat → PRs} {p z : Nat} {x : Option (Nat × Nat)} {I : MI} {J : MJ} {P : MP} (hP : P 80 9 = some 104) (hE : rE K wd V M mm I 0 p z x) (k1 : K p = 27) (hb : b = false) (k2 : K (p + 1) = 30) {Q : Int32 → MI → MJ → MP → Prop} (hS : ∀ I' v z', (vS K V mm b g p).1 = true → rgE K wd V M mm I 0 p z x (vS K V mm b g p).2.1 z' I' → (fbd K mm ((vS K V mm b g p).2.1 - p) p = none → nd true I' z' v (vS K V mm b g p).2.2) → Q v I' J P) (hF : ∀ I' v, (vS K V mm b g p).1 = false → rB M I p z (vS K V mm b g p).2.1 I' → Q v I' J P) : Sp yX12_one cX12_one 2 (some .int) (D + 10) [.ref 80] I J P (Qi Q) := by
  intro Γ h
  show VG Γ 0 0 0 [some (.ref 80), none] [] _ _ _ _
  obtain ⟨M4, K45, hp, hzp, c8⟩ := hE.M4
  obtain ⟨k47, k82, k83a, k83b, k83c⟩ := hE.1.2.2.1 p hp
  have s3 := srt3 _ k47
  have hsl := srt_lt (K p)
  have hv : (vS K V mm b g p) = (false, p + 1, zE) := by rw [vS, if_neg (by omega), if_neg (by omega), if_neg (by omega), if_neg (by omega), if_neg (by omega), if_pos (by omega), if_neg (fun q => absurd (hb.symm.trans q.1) (by decide))]
  refine g_aload_0 h dX12_one_0 ?_
  refine g_cVi0 h rok0 mi_X12_isOk dX12_one_1 ml_X12_121 rfl rfl rfl (Nat.le_of_ble_eq_true rfl) (Nat.le_of_ble_eq_true rfl) (sp_isOk_al hE.2.1 ?_)
  refine g_if_ne h 9 dX12_one_4 rfl (fun _ => ?_) (fun c => absurd c (by decide))
  refine g_aload_0 h dX12_one_9 ?_
  refine g_getC h fl_X12_36 dX12_one_10 rfl rfl ?_
  refine g_aload_0 h dX12_one_13 ?_
  refine g_getI h fl_X12_118 dX12_one_14 rfl rfl ?_
  refine g_iald h p dX12_one_17 rfl hE.2.1.1 (by omega) ?_
  rw [k82]
  refine g_iconst h dX12_one_18 (v := nI 3) rfl ?_
  refine g_icmp_ne h 40 dX12_one_19 rfl (fun _ => ?_) (fun c => absurd (s3.mp (eqN (by first | exact c | exact Classical.not_not.mp c) (by omega) (by decide))) (by omega))
  refine g_aload_0 h dX12_one_40 ?_
  refine g_iconst h dX12_one_41 (v := nI 2) rfl ?_
  refine g_bipush h dX12_one_42 (v := nI 16) rfl ?_
  refine g_cVi2 h rok0 mi_X12_is dX12_one_44 ml_X12_125 rfl rfl rfl (Nat.le_of_ble_eq_true rfl) (Nat.le_of_ble_eq_true rfl) (sp_is2 (k := 16) (by decide) hE.1 hE.2.1 hE.2.2.1 (fun q => absurd q (by omega)) (fun _ => ?_))
  refine g_if_eq h 72 dX12_one_47 rfl (fun _ => ?_) (fun c => absurd c (by decide))
  refine g_aload_0 h dX12_one_72 ?_
  refine g_iconst h dX12_one_73 (v := nI 2) rfl ?_
  refine g_bipush h dX12_one_74 (v := nI 17) rfl ?_
  refine g_cVi2 h rok0 mi_X12_is dX12_one_76 ml_X12_125 rfl rfl rfl (Nat.le_of_ble_eq_true rfl) (Nat.le_of_ble_eq_true rfl) (sp_is2 (k := 17) (by decide) hE.1 hE.2.1 hE.2.2.1 (fun q => absurd q (by omega)) (fun _ => ?_))
  refine g_if_ne h 102 dX12_one_79 rfl (fun c => absurd c (by decide)) (fun _ => ?_)
  refine g_aload_0 h dX12_one_82 ?_
  refine g_iconst h dX12_one_83 (v := nI 2) rfl ?_
  refine g_bipush h dX12_one_84 (v := nI 18) rfl ?_
  refine g_cVi2 h rok0 mi_X12_is dX12_one_86 ml_X12_125 rfl rfl rfl (Nat.le_of_ble_eq_true rfl) (Nat.le_of_ble_eq_true rfl) (sp_is2 (k := 18) (by decide) hE.1 hE.2.1 hE.2.2.1 (fun q => absurd q (by omega)) (fun _ => ?_))
  refine g_if_ne h 102 dX12_one_89 rfl (fun c => absurd c (by decide)) (fun _ => ?_)
  refine g_aload_0 h dX12_one_92 ?_
  refine g_iconst h dX12_one_93 (v := nI 2) rfl ?_
  refine g_bipush h dX12_one_94 (v := nI 19) rfl ?_
  refine g_cVi2 h rok0 mi_X12_is dX12_one_96 ml_X12_125 rfl rfl rfl (Nat.le_of_ble_eq_true rfl) (Nat.le_of_ble_eq_true rfl) (sp_is2 (k := 19) (by decide) hE.1 hE.2.1 hE.2.2.1 (fun q => absurd q (by omega)) (fun _ => ?_))
  refine g_if_eq h 136 dX12_one_99 rfl (fun _ => ?_) (fun c => absurd c (by decide))
  refine g_aload_0 h dX12_one_136 ?_
  refine g_iconst h dX12_one_137 (v := nI 2) rfl ?_
  refine g_bipush h dX12_one_138 (v := nI 20) rfl ?_
  refine g_cVi2 h rok0 mi_X12_is dX12_one_140 ml_X12_125 rfl rfl rfl (Nat.le_of_ble_eq_true rfl) (Nat.le_of_ble_eq_true rfl) (sp_is2 (k := 20) (by decide) hE.1 hE.2.1 hE.2.2.1 (fun q => absurd q (by omega)) (fun _ => ?_))
  refine g_if_eq h 171 dX12_one_143 rfl (fun _ => ?_) (fun c => absurd c (by decide))
  refine g_aload_0 h dX12_one_171 ?_
  refine g_iconst h dX12_one_172 (v := nI 2) rfl ?_
  refine g_bipush h dX12_one_173 (v := nI 21) rfl ?_
  refine g_cVi2 h rok0 mi_X12_is dX12_one_175 ml_X12_125 rfl rfl rfl (Nat.le_of_ble_eq_true rfl) (Nat.le_of_ble_eq_true rfl) (sp_is2 (k := 21) (by decide) hE.1 hE.2.1 hE.2.2.1 (fun q => absurd q (by omega)) (fun _ => ?_))
  refine g_if_eq h 206 dX12_one_178 rfl (fun _ => ?_) (fun c => absurd c (by decide))
  refine g_aload_0 h dX12_one_206 ?_
  refine g_iconst h dX12_one_207 (v := nI 4) rfl ?_
  refine g_bipush h dX12_one_208 (v := nI 45) rfl ?_
  refine g_cVi2 h rok0 mi_X12_is dX12_one_210 ml_X12_125 rfl rfl rfl (Nat.le_of_ble_eq_true rfl) (Nat.le_of_ble_eq_true rfl) (sgC_is (k := 37) rfl (by decide) hE.1 hE.2.1 hE.2.2.1 (fun q => absurd q (by omega)) (fun _ => ?_))
  refine g_if_eq h 257 dX12_one_213 rfl (fun _ => ?_) (fun c => absurd c (by decide))
  refine g_aload_0 h dX12_one_257 ?_
  refine g_iconst h dX12_one_258 (v := nI 4) rfl ?_
  refine g_bipush h dX12_one_259 (v := nI 40) rfl ?_
  refine g_cVi2 h rok0 mi_X12_is dX12_one_261 ml_X12_125 rfl rfl rfl (Nat.le_of_ble_eq_true rfl) (Nat.le_of_ble_eq_true rfl) (sgC_is (k := 30) rfl (by decide) hE.1 hE.2.1 hE.2.2.1 (fun q => absurd q (by omega)) (fun _ => ?_))
  refine g_if_eq h 272 dX12_one_264 rfl (fun _ => ?_) (fun c => absurd c (by decide))
  refine g_aload_0 h dX12_one_272 ?_
  refine g_iconst h dX12_one_273 (v := nI 2) rfl ?_
  refine g_bipush h dX12_one_274 (v := nI 26) rfl ?_
  refine g_cVi2 h rok0 mi_X12_is dX12_one_276 ml_X12_125 rfl rfl rfl (Nat.le_of_ble_eq_true rfl) (Nat.le_of_ble_eq_true rfl) (sp_is2 (k := 26) (by decide) hE.1 hE.2.1 hE.2.2.1 (fun q => absurd q (by omega)) (fun _ => ?_))
  refine g_if_ne h 292 dX12_one_279 rfl (fun c => absurd c (by decide)) (fun _ => ?_)
  refine g_aload_0 h dX12_one_282 ?_
  refine g_iconst h dX12_one_283 (v := nI 2) rfl ?_
  refine g_bipush h dX12_one_284 (v := nI 27) rfl ?_
  refine g_cVi2 h rok0 mi_X12_is dX12_one_286 ml_X12_125 rfl rfl rfl (Nat.le_of_ble_eq_true rfl) (Nat.le_of_ble_eq_true rfl) (sp_is2 (k := 27) (by decide) hE.1 hE.2.1 hE.2.2.1 (fun _ => ?_) (fun q => absurd (show K p = 27 by omega) q))
  refine g_if_eq h 306 dX12_one_289 rfl (fun c => absurd c (by decide)) (fun _ => ?_)
  refine g_aload_0 h dX12_one_292 ?_
  refine g_aload_0 h dX12_one_293 ?_
  refine g_getC h fl_X12_42 dX12_one_294 rfl rfl ?_
  refine g_aload_0 h dX12_one_297 ?_
  refine g_getI h fl_X12_118 dX12_one_298 rfl rfl ?_
  refine g_iald h p dX12_one_301 rfl hE.2.1.1 (by omega) ?_
  rw [k83a (by omega)]
  refine g_cVi1 h rok0 mi_X12_both dX12_one_302 ml_X12_200 rfl rfl rfl (Nat.le_of_ble_eq_true rfl) (Nat.le_of_ble_eq_true rfl) (sp_both0 hP hE (by omega) k2 (fun I2 v2 b2 => ?_))
  · refine g_iret h dX12_one_305 ?_
    exact hF I2 v2 (by rw [hv]) (by rw [hv]; exact b2)
set_option maxRecDepth 100000 in
set_option maxHeartbeats 4000000 in
theorem one_27n {K wd : Nat → Nat} {V mm : Nat → Int32} {M : Nat} {c D : Nat} {b : Bool} {g : Nat → PRs} {p z : Nat} {x : Option (Nat × Nat)} {I : MI} {J : MJ} {P : MP} (hP : P 80 9 = some 104) (hE : rE K wd V M mm I c p z x) (k1 : K p = 27) (k2 : ¬ K (p + 1) = 30) {Q : Int32 → MI → MJ → MP → Prop} (hS : ∀ I' v z', (vS K V mm b g p).1 = true → rgE K wd V M mm I c p z x (vS K V mm b g p).2.1 z' I' → (fbd K mm ((vS K V mm b g p).2.1 - p) p = none → nd true I' z' v (vS K V mm b g p).2.2) → Q v I' J P) (hF : ∀ I' v, (vS K V mm b g p).1 = false → rB M I p z (vS K V mm b g p).2.1 I' → Q v I' J P) : Sp yX12_one cX12_one 2 (some .int) (D + 10) [.ref 80] I J P (Qi Q) := by
  intro Γ h
  show VG Γ 0 0 0 [some (.ref 80), none] [] _ _ _ _
  obtain ⟨M4, K45, hp, hzp, c8⟩ := hE.M4
  obtain ⟨k47, k82, k83a, k83b, k83c⟩ := hE.1.2.2.1 p hp
  have s3 := srt3 _ k47
  have hsl := srt_lt (K p)
  have hv : (vS K V mm b g p) = (false, p + 1, zE) := by rw [vS, if_neg (by omega), if_neg (by omega), if_neg (by omega), if_neg (by omega), if_neg (by omega), if_pos (by omega), if_neg (fun q => k2 q.2)]
  refine g_aload_0 h dX12_one_0 ?_
  refine g_cVi0 h rok0 mi_X12_isOk dX12_one_1 ml_X12_121 rfl rfl rfl (Nat.le_of_ble_eq_true rfl) (Nat.le_of_ble_eq_true rfl) (sp_isOk_al hE.2.1 ?_)
  refine g_if_ne h 9 dX12_one_4 rfl (fun _ => ?_) (fun c => absurd c (by decide))
  refine g_aload_0 h dX12_one_9 ?_
  refine g_getC h fl_X12_36 dX12_one_10 rfl rfl ?_
  refine g_aload_0 h dX12_one_13 ?_
  refine g_getI h fl_X12_118 dX12_one_14 rfl rfl ?_
  refine g_iald h p dX12_one_17 rfl hE.2.1.1 (by omega) ?_
  rw [k82]
  refine g_iconst h dX12_one_18 (v := nI 3) rfl ?_
  refine g_icmp_ne h 40 dX12_one_19 rfl (fun _ => ?_) (fun c => absurd (s3.mp (eqN (by first | exact c | exact Classical.not_not.mp c) (by omega) (by decide))) (by omega))
  refine g_aload_0 h dX12_one_40 ?_
  refine g_iconst h dX12_one_41 (v := nI 2) rfl ?_
  refine g_bipush h dX12_one_42 (v := nI 16) rfl ?_
  refine g_cVi2 h rok0 mi_X12_is dX12_one_44 ml_X12_125 rfl rfl rfl (Nat.le_of_ble_eq_true rfl) (Nat.le_of_ble_eq_true rfl) (sp_is2 (k := 16) (by decide) hE.1 hE.2.1 hE.2.2.1 (fun q => absurd q (by omega)) (fun _ => ?_))
  refine g_if_eq h 72 dX12_one_47 rfl (fun _ => ?_) (fun c => absurd c (by decide))
  refine g_aload_0 h dX12_one_72 ?_
  refine g_iconst h dX12_one_73 (v := nI 2) rfl ?_
  refine g_bipush h dX12_one_74 (v := nI 17) rfl ?_
  refine g_cVi2 h rok0 mi_X12_is dX12_one_76 ml_X12_125 rfl rfl rfl (Nat.le_of_ble_eq_true rfl) (Nat.le_of_ble_eq_true rfl) (sp_is2 (k := 17) (by decide) hE.1 hE.2.1 hE.2.2.1 (fun q => absurd q (by omega)) (fun _ => ?_))
  refine g_if_ne h 102 dX12_one_79 rfl (fun c => absurd c (by decide)) (fun _ => ?_)
  refine g_aload_0 h dX12_one_82 ?_
  refine g_iconst h dX12_one_83 (v := nI 2) rfl ?_
  refine g_bipush h dX12_one_84 (v := nI 18) rfl ?_
  refine g_cVi2 h rok0 mi_X12_is dX12_one_86 ml_X12_125 rfl rfl rfl (Nat.le_of_ble_eq_true rfl) (Nat.le_of_ble_eq_true rfl) (sp_is2 (k := 18) (by decide) hE.1 hE.2.1 hE.2.2.1 (fun q => absurd q (by omega)) (fun _ => ?_))
  refine g_if_ne h 102 dX12_one_89 rfl (fun c => absurd c (by decide)) (fun _ => ?_)
  refine g_aload_0 h dX12_one_92 ?_
  refine g_iconst h dX12_one_93 (v := nI 2) rfl ?_
  refine g_bipush h dX12_one_94 (v := nI 19) rfl ?_
  refine g_cVi2 h rok0 mi_X12_is dX12_one_96 ml_X12_125 rfl rfl rfl (Nat.le_of_ble_eq_true rfl) (Nat.le_of_ble_eq_true rfl) (sp_is2 (k := 19) (by decide) hE.1 hE.2.1 hE.2.2.1 (fun q => absurd q (by omega)) (fun _ => ?_))
  refine g_if_eq h 136 dX12_one_99 rfl (fun _ => ?_) (fun c => absurd c (by decide))
  refine g_aload_0 h dX12_one_136 ?_
  refine g_iconst h dX12_one_137 (v := nI 2) rfl ?_
  refine g_bipush h dX12_one_138 (v := nI 20) rfl ?_
  refine g_cVi2 h rok0 mi_X12_is dX12_one_140 ml_X12_125 rfl rfl rfl (Nat.le_of_ble_eq_true rfl) (Nat.le_of_ble_eq_true rfl) (sp_is2 (k := 20) (by decide) hE.1 hE.2.1 hE.2.2.1 (fun q => absurd q (by omega)) (fun _ => ?_))
  refine g_if_eq h 171 dX12_one_143 rfl (fun _ => ?_) (fun c => absurd c (by decide))
  refine g_aload_0 h dX12_one_171 ?_
  refine g_iconst h dX12_one_172 (v := nI 2) rfl ?_
  refine g_bipush h dX12_one_173 (v := nI 21) rfl ?_
  refine g_cVi2 h rok0 mi_X12_is dX12_one_175 ml_X12_125 rfl rfl rfl (Nat.le_of_ble_eq_true rfl) (Nat.le_of_ble_eq_true rfl) (sp_is2 (k := 21) (by decide) hE.1 hE.2.1 hE.2.2.1 (fun q => absurd q (by omega)) (fun _ => ?_))
  refine g_if_eq h 206 dX12_one_178 rfl (fun _ => ?_) (fun c => absurd c (by decide))
  refine g_aload_0 h dX12_one_206 ?_
  refine g_iconst h dX12_one_207 (v := nI 4) rfl ?_
  refine g_bipush h dX12_one_208 (v := nI 45) rfl ?_
  refine g_cVi2 h rok0 mi_X12_is dX12_one_210 ml_X12_125 rfl rfl rfl (Nat.le_of_ble_eq_true rfl) (Nat.le_of_ble_eq_true rfl) (sgC_is (k := 37) rfl (by decide) hE.1 hE.2.1 hE.2.2.1 (fun q => absurd q (by omega)) (fun _ => ?_))
  refine g_if_eq h 257 dX12_one_213 rfl (fun _ => ?_) (fun c => absurd c (by decide))
  refine g_aload_0 h dX12_one_257 ?_
  refine g_iconst h dX12_one_258 (v := nI 4) rfl ?_
  refine g_bipush h dX12_one_259 (v := nI 40) rfl ?_
  refine g_cVi2 h rok0 mi_X12_is dX12_one_261 ml_X12_125 rfl rfl rfl (Nat.le_of_ble_eq_true rfl) (Nat.le_of_ble_eq_true rfl) (sgC_is (k := 30) rfl (by decide) hE.1 hE.2.1 hE.2.2.1 (fun q => absurd q (by omega)) (fun _ => ?_))
  refine g_if_eq h 272 dX12_one_264 rfl (fun _ => ?_) (fun c => absurd c (by decide))
  refine g_aload_0 h dX12_one_272 ?_
  refine g_iconst h dX12_one_273 (v := nI 2) rfl ?_
  refine g_bipush h dX12_one_274 (v := nI 26) rfl ?_
  refine g_cVi2 h rok0 mi_X12_is dX12_one_276 ml_X12_125 rfl rfl rfl (Nat.le_of_ble_eq_true rfl) (Nat.le_of_ble_eq_true rfl) (sp_is2 (k := 26) (by decide) hE.1 hE.2.1 hE.2.2.1 (fun q => absurd q (by omega)) (fun _ => ?_))
  refine g_if_ne h 292 dX12_one_279 rfl (fun c => absurd c (by decide)) (fun _ => ?_)
  refine g_aload_0 h dX12_one_282 ?_
  refine g_iconst h dX12_one_283 (v := nI 2) rfl ?_
  refine g_bipush h dX12_one_284 (v := nI 27) rfl ?_
  refine g_cVi2 h rok0 mi_X12_is dX12_one_286 ml_X12_125 rfl rfl rfl (Nat.le_of_ble_eq_true rfl) (Nat.le_of_ble_eq_true rfl) (sp_is2 (k := 27) (by decide) hE.1 hE.2.1 hE.2.2.1 (fun _ => ?_) (fun q => absurd (show K p = 27 by omega) q))
  refine g_if_eq h 306 dX12_one_289 rfl (fun c => absurd c (by decide)) (fun _ => ?_)
  refine g_aload_0 h dX12_one_292 ?_
  refine g_aload_0 h dX12_one_293 ?_
  refine g_getC h fl_X12_42 dX12_one_294 rfl rfl ?_
  refine g_aload_0 h dX12_one_297 ?_
  refine g_getI h fl_X12_118 dX12_one_298 rfl rfl ?_
  refine g_iald h p dX12_one_301 rfl hE.2.1.1 (by omega) ?_
  rw [k83a (by omega)]
  refine g_cVi1 h rok0 mi_X12_both dX12_one_302 ml_X12_200 rfl rfl rfl (Nat.le_of_ble_eq_true rfl) (Nat.le_of_ble_eq_true rfl) (sp_bothN hE (by omega) k2 (fun I2 v2 b2 => ?_))
  · refine g_iret h dX12_one_305 ?_
    exact hF I2 v2 (by rw [hv]) (by rw [hv]; exact b2)
set_option maxRecDepth 100000 in
set_option maxHeartbeats 4000000 in
theorem one_no {K wd : Nat → Nat} {V mm : Nat → Int32} {M : Nat} {c D : Nat} {b : Bool} {g : Nat → PRs} {p z : Nat} {x : Option (Nat × Nat)} {I : MI} {J : MJ} {P : MP} (hP : P 80 9 = some 104) (hE : rE K wd V M mm I c p z x) (k1 : ¬ K p = 29 ∧ ¬ K p = 37 ∧ ¬ K p = 30) (k2 : K p < 16 ∨ 21 < K p) (k3 : ¬ K p = 26 ∧ ¬ K p = 27) {Q : Int32 → MI → MJ → MP → Prop} (hS : ∀ I' v z', (vS K V mm b g p).1 = true → rgE K wd V M mm I c p z x (vS K V mm b g p).2.1 z' I' → (fbd K mm ((vS K V mm b g p).2.1 - p) p = none → nd true I' z' v (vS K V mm b g p).2.2) → Q v I' J P) (hF : ∀ I' v, (vS K V mm b g p).1 = false → rB M I p z (vS K V mm b g p).2.1 I' → Q v I' J P) : Sp yX12_one cX12_one 2 (some .int) (D + 10) [.ref 80] I J P (Qi Q) := by
  intro Γ h
  show VG Γ 0 0 0 [some (.ref 80), none] [] _ _ _ _
  obtain ⟨M4, K45, hp, hzp, c8⟩ := hE.M4
  obtain ⟨k47, k82, k83a, k83b, k83c⟩ := hE.1.2.2.1 p hp
  have s3 := srt3 _ k47
  have hsl := srt_lt (K p)
  refine g_aload_0 h dX12_one_0 ?_
  refine g_cVi0 h rok0 mi_X12_isOk dX12_one_1 ml_X12_121 rfl rfl rfl (Nat.le_of_ble_eq_true rfl) (Nat.le_of_ble_eq_true rfl) (sp_isOk_al hE.2.1 ?_)
  refine g_if_ne h 9 dX12_one_4 rfl (fun _ => ?_) (fun c => absurd c (by decide))
  refine g_aload_0 h dX12_one_9 ?_
  refine g_getC h fl_X12_36 dX12_one_10 rfl rfl ?_
  refine g_aload_0 h dX12_one_13 ?_
  refine g_getI h fl_X12_118 dX12_one_14 rfl rfl ?_
  refine g_iald h p dX12_one_17 rfl hE.2.1.1 (by omega) ?_
  rw [k82]
  refine g_iconst h dX12_one_18 (v := nI 3) rfl ?_
  refine g_icmp_ne h 40 dX12_one_19 rfl (fun _ => ?_) (fun c => absurd (s3.mp (eqN (by first | exact c | exact Classical.not_not.mp c) (by omega) (by decide))) (by omega))
  refine g_aload_0 h dX12_one_40 ?_
  refine g_iconst h dX12_one_41 (v := nI 2) rfl ?_
  refine g_bipush h dX12_one_42 (v := nI 16) rfl ?_
  refine g_cVi2 h rok0 mi_X12_is dX12_one_44 ml_X12_125 rfl rfl rfl (Nat.le_of_ble_eq_true rfl) (Nat.le_of_ble_eq_true rfl) (sp_is2 (k := 16) (by decide) hE.1 hE.2.1 hE.2.2.1 (fun q => absurd q (by omega)) (fun _ => ?_))
  refine g_if_eq h 72 dX12_one_47 rfl (fun _ => ?_) (fun c => absurd c (by decide))
  refine g_aload_0 h dX12_one_72 ?_
  refine g_iconst h dX12_one_73 (v := nI 2) rfl ?_
  refine g_bipush h dX12_one_74 (v := nI 17) rfl ?_
  refine g_cVi2 h rok0 mi_X12_is dX12_one_76 ml_X12_125 rfl rfl rfl (Nat.le_of_ble_eq_true rfl) (Nat.le_of_ble_eq_true rfl) (sp_is2 (k := 17) (by decide) hE.1 hE.2.1 hE.2.2.1 (fun q => absurd q (by omega)) (fun _ => ?_))
  refine g_if_ne h 102 dX12_one_79 rfl (fun c => absurd c (by decide)) (fun _ => ?_)
  refine g_aload_0 h dX12_one_82 ?_
  refine g_iconst h dX12_one_83 (v := nI 2) rfl ?_
  refine g_bipush h dX12_one_84 (v := nI 18) rfl ?_
  refine g_cVi2 h rok0 mi_X12_is dX12_one_86 ml_X12_125 rfl rfl rfl (Nat.le_of_ble_eq_true rfl) (Nat.le_of_ble_eq_true rfl) (sp_is2 (k := 18) (by decide) hE.1 hE.2.1 hE.2.2.1 (fun q => absurd q (by omega)) (fun _ => ?_))
  refine g_if_ne h 102 dX12_one_89 rfl (fun c => absurd c (by decide)) (fun _ => ?_)
  refine g_aload_0 h dX12_one_92 ?_
  refine g_iconst h dX12_one_93 (v := nI 2) rfl ?_
  refine g_bipush h dX12_one_94 (v := nI 19) rfl ?_
  refine g_cVi2 h rok0 mi_X12_is dX12_one_96 ml_X12_125 rfl rfl rfl (Nat.le_of_ble_eq_true rfl) (Nat.le_of_ble_eq_true rfl) (sp_is2 (k := 19) (by decide) hE.1 hE.2.1 hE.2.2.1 (fun q => absurd q (by omega)) (fun _ => ?_))
  refine g_if_eq h 136 dX12_one_99 rfl (fun _ => ?_) (fun c => absurd c (by decide))
  refine g_aload_0 h dX12_one_136 ?_
  refine g_iconst h dX12_one_137 (v := nI 2) rfl ?_
  refine g_bipush h dX12_one_138 (v := nI 20) rfl ?_
  refine g_cVi2 h rok0 mi_X12_is dX12_one_140 ml_X12_125 rfl rfl rfl (Nat.le_of_ble_eq_true rfl) (Nat.le_of_ble_eq_true rfl) (sp_is2 (k := 20) (by decide) hE.1 hE.2.1 hE.2.2.1 (fun q => absurd q (by omega)) (fun _ => ?_))
  refine g_if_eq h 171 dX12_one_143 rfl (fun _ => ?_) (fun c => absurd c (by decide))
  refine g_aload_0 h dX12_one_171 ?_
  refine g_iconst h dX12_one_172 (v := nI 2) rfl ?_
  refine g_bipush h dX12_one_173 (v := nI 21) rfl ?_
  refine g_cVi2 h rok0 mi_X12_is dX12_one_175 ml_X12_125 rfl rfl rfl (Nat.le_of_ble_eq_true rfl) (Nat.le_of_ble_eq_true rfl) (sp_is2 (k := 21) (by decide) hE.1 hE.2.1 hE.2.2.1 (fun q => absurd q (by omega)) (fun _ => ?_))
  refine g_if_eq h 206 dX12_one_178 rfl (fun _ => ?_) (fun c => absurd c (by decide))
  refine g_aload_0 h dX12_one_206 ?_
  refine g_iconst h dX12_one_207 (v := nI 4) rfl ?_
  refine g_bipush h dX12_one_208 (v := nI 45) rfl ?_
  refine g_cVi2 h rok0 mi_X12_is dX12_one_210 ml_X12_125 rfl rfl rfl (Nat.le_of_ble_eq_true rfl) (Nat.le_of_ble_eq_true rfl) (sgC_is (k := 37) rfl (by decide) hE.1 hE.2.1 hE.2.2.1 (fun q => absurd q (by omega)) (fun _ => ?_))
  refine g_if_eq h 257 dX12_one_213 rfl (fun _ => ?_) (fun c => absurd c (by decide))
  refine g_aload_0 h dX12_one_257 ?_
  refine g_iconst h dX12_one_258 (v := nI 4) rfl ?_
  refine g_bipush h dX12_one_259 (v := nI 40) rfl ?_
  refine g_cVi2 h rok0 mi_X12_is dX12_one_261 ml_X12_125 rfl rfl rfl (Nat.le_of_ble_eq_true rfl) (Nat.le_of_ble_eq_true rfl) (sgC_is (k := 30) rfl (by decide) hE.1 hE.2.1 hE.2.2.1 (fun q => absurd q (by omega)) (fun _ => ?_))
  refine g_if_eq h 272 dX12_one_264 rfl (fun _ => ?_) (fun c => absurd c (by decide))
  refine g_aload_0 h dX12_one_272 ?_
  refine g_iconst h dX12_one_273 (v := nI 2) rfl ?_
  refine g_bipush h dX12_one_274 (v := nI 26) rfl ?_
  refine g_cVi2 h rok0 mi_X12_is dX12_one_276 ml_X12_125 rfl rfl rfl (Nat.le_of_ble_eq_true rfl) (Nat.le_of_ble_eq_true rfl) (sp_is2 (k := 26) (by decide) hE.1 hE.2.1 hE.2.2.1 (fun q => absurd q (by omega)) (fun _ => ?_))
  refine g_if_ne h 292 dX12_one_279 rfl (fun c => absurd c (by decide)) (fun _ => ?_)
  refine g_aload_0 h dX12_one_282 ?_
  refine g_iconst h dX12_one_283 (v := nI 2) rfl ?_
  refine g_bipush h dX12_one_284 (v := nI 27) rfl ?_
  refine g_cVi2 h rok0 mi_X12_is dX12_one_286 ml_X12_125 rfl rfl rfl (Nat.le_of_ble_eq_true rfl) (Nat.le_of_ble_eq_true rfl) (sp_is2 (k := 27) (by decide) hE.1 hE.2.1 hE.2.2.1 (fun q => absurd q (by omega)) (fun _ => ?_))
  refine g_if_eq h 306 dX12_one_289 rfl (fun _ => ?_) (fun c => absurd c (by decide))
  refine g_aload_0 h dX12_one_306 ?_
  refine g_cVv0 h rok0 mi_X12_fail dX12_one_307 ml_X12_129 rfl rfl rfl (Nat.le_of_ble_eq_true rfl) (Nat.le_of_ble_eq_true rfl) (sp_fail_al hE.2.1 ?_)
  refine g_iconst h dX12_one_310 (v := nI 0) rfl ?_
  refine g_iret h dX12_one_311 ?_
  have hv : (vS K V mm b g p) = (false, p, zE) := by rw [vS, if_neg (by omega), if_neg (by omega), if_neg (by omega), if_neg (by omega), if_neg (by omega), if_neg (by omega)]
  have b9 : rB M I p z p (up2 I 80 16 (nI p)) := rB.new FRm.rf hE.cnt (Nat.le_refl _) (by omega) (Nat.le_refl _) hp
  exact hF _ _ (by rw [hv]) (by rw [hv]; exact b9)
theorem one_s {K wd : Nat → Nat} {V mm : Nat → Int32} {M : Nat} {D c : Nat} {g : Nat → PRs} (hG : cE K wd V M mm yX12_one cX12_one 2 (D + 6) c true g) (hG9 : cE K wd V M mm yX12_one cX12_one 2 (D + 9) c true g) : cE K wd V M mm yX12_one cX12_one 2 (D + 10) (c + 1) true (vS K V mm true g) := by
  have hG8 := cE_sum (cF_product hG)
  intro p z x I J P hP hE Q hS hF
  by_cases k29 : K p = 29
  · exact one_29 hP hE k29 hS hF
  by_cases k16 : K p = 16
  · exact one_16 hP hE k16 hS hF
  by_cases k17 : K p = 17
  · exact one_17 hP hE k17 hS hF
  by_cases k18 : K p = 18
  · exact one_18 hP hE k18 hS hF
  by_cases k19 : K p = 19
  · exact one_19 hP hE k19 hS hF
  by_cases k20 : K p = 20
  · exact one_20 hP hE k20 hS hF
  by_cases k21 : K p = 21
  · exact one_21 hP hE k21 hS hF
  by_cases k30 : K p = 30
  · exact one_30 hP hE k30 rfl hG8 hS hF
  by_cases k26 : K p = 26
  · by_cases k2 : K (p + 1) = 30
    · exact one_26 hP hE k26 rfl k2 hG8 hS hF
    · exact one_26n hP hE k26 k2 hS hF
  by_cases k27 : K p = 27
  · by_cases k2 : K (p + 1) = 30
    · exact one_27 hP hE k27 rfl k2 hG8 hS hF
    · exact one_27n hP hE k27 k2 hS hF
  by_cases k37 : K p = 37
  · exact one_37 hP hE k37 rfl hG9 hS hF
  · exact one_no hP hE ⟨k29, k37, k30⟩ (by omega) ⟨k26, k27⟩ hS hF
theorem one_0 {K wd : Nat → Nat} {V mm : Nat → Int32} {M : Nat} {D : Nat} {g : Nat → PRs} : cE K wd V M mm yX12_one cX12_one 2 (D + 10) 0 true (vS K V mm false g) := by
  intro p z x I J P hP hE Q hS hF
  by_cases k29 : K p = 29
  · exact one_29 hP hE k29 hS hF
  by_cases k16 : K p = 16
  · exact one_16 hP hE k16 hS hF
  by_cases k17 : K p = 17
  · exact one_17 hP hE k17 hS hF
  by_cases k18 : K p = 18
  · exact one_18 hP hE k18 hS hF
  by_cases k19 : K p = 19
  · exact one_19 hP hE k19 hS hF
  by_cases k20 : K p = 20
  · exact one_20 hP hE k20 hS hF
  by_cases k21 : K p = 21
  · exact one_21 hP hE k21 hS hF
  by_cases k30 : K p = 30
  · exact one_30z hP hE k30 rfl hS hF
  by_cases k26 : K p = 26
  · by_cases k2 : K (p + 1) = 30
    · exact one_26z hP hE k26 rfl k2 hS hF
    · exact one_26n hP hE k26 k2 hS hF
  by_cases k27 : K p = 27
  · by_cases k2 : K (p + 1) = 30
    · exact one_27z hP hE k27 rfl k2 hS hF
    · exact one_27n hP hE k27 k2 hS hF
  by_cases k37 : K p = 37
  · exact one_37z hP hE k37 rfl hS hF
  · exact one_no hP hE ⟨k29, k37, k30⟩ (by omega) ⟨k26, k27⟩ hS hF
theorem cE_one {K wd : Nat → Nat} {V mm : Nat → Int32} {M : Nat} : ∀ (c D : Nat), cE K wd V M mm yX12_one cX12_one 2 (D + 4 * c + 10) c true (pV K V mm c) := by
  intro c
  induction c with
  | zero => exact fun D => one_0
  | succ c ih =>
    intro D
    have h1 := ih D
    have h2 := ih (D + 3)
    rw [show D + 3 + 4 * c + 10 = D + 4 * c + 4 + 9 by omega] at h2
    exact one_s (D := D + 4 * c + 4) h1 h2
theorem cE_sumV {K wd : Nat → Nat} {V mm : Nat → Int32} {M : Nat} (c D : Nat) : cE K wd V M mm yX12_sum cX12_sum 3 (D + 4 * c + 12) c true (pS K V mm c) := cE_sum (cF_product (D := D + 4 * c + 4) (cE_one c D))
