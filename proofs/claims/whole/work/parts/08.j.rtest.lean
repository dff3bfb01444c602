/-! The reference's parser: tests -/
set_option maxRecDepth 100000 in
set_option maxHeartbeats 4000000 in
theorem sp_single_dd {d : Nat} {I : MI} {J : MJ} {P : MP} {f : Nat} (hf4 : f < 2 ^ 31) (hf : I 80 16 = nI f) {Q : Int32 → MI → MJ → MP → Prop} (hQ : Q (nI 0) I J P) : Sp yX12_single cX12_single 3 (some .int) (d + 5) [.ref 80] I J P (Qi Q) := by
  intro Γ h
  show VG Γ 0 0 0 [some (.ref 80), none, none] [] _ _ _ _
  refine g_aload_0 h dX12_single_0 ?_
  refine g_iconst h dX12_single_1 (v := nI 2) rfl ?_
  refine g_bipush h dX12_single_2 (v := nI 23) rfl ?_
  refine g_cVi2 h rok0 mi_X12_is dX12_single_4 ml_X12_125 rfl rfl rfl (Nat.le_of_ble_eq_true rfl) (Nat.le_of_ble_eq_true rfl) (sp_is_dd hf4 hf ?_)
  refine g_if_eq h 51 dX12_single_7 rfl (fun _ => ?_) (fun c => absurd c (by decide))
  refine g_aload_0 h dX12_single_51 ?_
  refine g_iconst h dX12_single_52 (v := nI 4) rfl ?_
  refine g_bipush h dX12_single_53 (v := nI 91) rfl ?_
  refine g_cVi2 h rok0 mi_X12_is dX12_single_55 ml_X12_125 rfl rfl rfl (Nat.le_of_ble_eq_true rfl) (Nat.le_of_ble_eq_true rfl) (sp_is_dd hf4 hf ?_)
  refine g_if_eq h 99 dX12_single_58 rfl (fun _ => ?_) (fun c => absurd c (by decide))
  refine g_aload_0 h dX12_single_99 ?_
  refine g_iconst h dX12_single_100 (v := nI 2) rfl ?_
  refine g_bipush h dX12_single_101 (v := nI 22) rfl ?_
  refine g_cVi2 h rok0 mi_X12_is dX12_single_103 ml_X12_125 rfl rfl rfl (Nat.le_of_ble_eq_true rfl) (Nat.le_of_ble_eq_true rfl) (sp_is_dd hf4 hf ?_)
  refine g_if_eq h 134 dX12_single_106 rfl (fun _ => ?_) (fun c => absurd c (by decide))
  refine g_aload_0 h dX12_single_134 ?_
  refine g_cVi0 h rok0 mi_X12_sum dX12_single_135 ml_X12_203 rfl rfl rfl (Nat.le_of_ble_eq_true rfl) (Nat.le_of_ble_eq_true rfl) (sp_sum_dd hf4 hf ?_)
  refine g_istore_1 h dX12_single_138 (by decide) rfl ?_
  refine g_aload_0 h dX12_single_139 ?_
  refine g_iconst h dX12_single_140 (v := nI 4) rfl ?_
  refine g_bipush h dX12_single_141 (v := nI 60) rfl ?_
  refine g_cVi2 h rok0 mi_X12_is dX12_single_143 ml_X12_125 rfl rfl rfl (Nat.le_of_ble_eq_true rfl) (Nat.le_of_ble_eq_true rfl) (sp_is_dd hf4 hf ?_)
  refine g_if_ne h 195 dX12_single_146 rfl (fun c => absurd c (by decide)) (fun _ => ?_)
  refine g_aload_0 h dX12_single_149 ?_
  refine g_iconst h dX12_single_150 (v := nI 4) rfl ?_
  refine g_bipush h dX12_single_151 (v := nI 62) rfl ?_
  refine g_cVi2 h rok0 mi_X12_is dX12_single_153 ml_X12_125 rfl rfl rfl (Nat.le_of_ble_eq_true rfl) (Nat.le_of_ble_eq_true rfl) (sp_is_dd hf4 hf ?_)
  refine g_if_ne h 195 dX12_single_156 rfl (fun c => absurd c (by decide)) (fun _ => ?_)
  refine g_aload_0 h dX12_single_159 ?_
  refine g_iconst h dX12_single_160 (v := nI 4) rfl ?_
  refine g_bipush h dX12_single_161 (v := nI 61) rfl ?_
  refine g_cVi2 h rok0 mi_X12_is dX12_single_163 ml_X12_125 rfl rfl rfl (Nat.le_of_ble_eq_true rfl) (Nat.le_of_ble_eq_true rfl) (sp_is_dd hf4 hf ?_)
  refine g_if_ne h 195 dX12_single_166 rfl (fun c => absurd c (by decide)) (fun _ => ?_)
  refine g_aload_0 h dX12_single_169 ?_
  refine g_iconst h dX12_single_170 (v := nI 4) rfl ?_
  refine g_bipush h dX12_single_171 (v := nI 108) rfl ?_
  refine g_cVi2 h rok0 mi_X12_is dX12_single_173 ml_X12_125 rfl rfl rfl (Nat.le_of_ble_eq_true rfl) (Nat.le_of_ble_eq_true rfl) (sp_is_dd hf4 hf ?_)
  refine g_if_ne h 195 dX12_single_176 rfl (fun c => absurd c (by decide)) (fun _ => ?_)
  refine g_aload_0 h dX12_single_179 ?_
  refine g_iconst h dX12_single_180 (v := nI 4) rfl ?_
  refine g_bipush h dX12_single_181 (v := nI 103) rfl ?_
  refine g_cVi2 h rok0 mi_X12_is dX12_single_183 ml_X12_125 rfl rfl rfl (Nat.le_of_ble_eq_true rfl) (Nat.le_of_ble_eq_true rfl) (sp_is_dd hf4 hf ?_)
  refine g_if_ne h 195 dX12_single_186 rfl (fun c => absurd c (by decide)) (fun _ => ?_)
  refine g_aload_0 h dX12_single_189 ?_
  refine g_cVv0 h rok0 mi_X12_fail dX12_single_190 ml_X12_129 rfl rfl rfl (Nat.le_of_ble_eq_true rfl) (Nat.le_of_ble_eq_true rfl) (sp_fail_dd hf4 hf ?_)
  refine g_iconst h dX12_single_193 (v := nI 0) rfl ?_
  refine g_iret h dX12_single_194 ?_
  exact hQ
set_option maxRecDepth 100000 in
set_option maxHeartbeats 4000000 in
theorem sp_pair_dd {d : Nat} {I : MI} {J : MJ} {P : MP} {f : Nat} (hf4 : f < 2 ^ 31) (hf : I 80 16 = nI f) {Q : Int32 → MI → MJ → MP → Prop} (hQ : Q (nI 0) I J P) : Sp yX12_pair cX12_pair 2 (some .int) (d + 6) [.ref 80] I J P (Qi Q) := by
  intro Γ h
  show VG Γ 0 0 0 [some (.ref 80), none] [] _ _ _ _
  refine g_aload_0 h dX12_pair_0 ?_
  refine g_cVi0 h rok0 mi_X12_single dX12_pair_1 ml_X12_212 rfl rfl rfl (Nat.le_of_ble_eq_true rfl) (Nat.le_of_ble_eq_true rfl) (sp_single_dd hf4 hf ?_)
  refine g_istore_1 h dX12_pair_4 (by decide) rfl ?_
  refine g_aload_0 h dX12_pair_5 ?_
  refine g_iconst h dX12_pair_6 (v := nI 2) rfl ?_
  refine g_bipush h dX12_pair_7 (v := nI 24) rfl ?_
  refine g_cVi2 h rok0 mi_X12_is dX12_pair_9 ml_X12_125 rfl rfl rfl (Nat.le_of_ble_eq_true rfl) (Nat.le_of_ble_eq_true rfl) (sp_is_dd hf4 hf ?_)
  refine g_if_eq h 43 dX12_pair_12 rfl (fun _ => ?_) (fun c => absurd c (by decide))
  refine g_iload_1 h dX12_pair_43 ?_
  refine g_iret h dX12_pair_44 ?_
  exact hQ
set_option maxRecDepth 100000 in
set_option maxHeartbeats 4000000 in
theorem sp_test_dd {d : Nat} {I : MI} {J : MJ} {P : MP} {f : Nat} (hf4 : f < 2 ^ 31) (hf : I 80 16 = nI f) {Q : Int32 → MI → MJ → MP → Prop} (hQ : Q (nI 0) I J P) : Sp yX12_test cX12_test 2 (some .int) (d + 7) [.ref 80] I J P (Qi Q) := by
  intro Γ h
  show VG Γ 0 0 0 [some (.ref 80), none] [] _ _ _ _
  refine g_aload_0 h dX12_test_0 ?_
  refine g_cVi0 h rok0 mi_X12_pair dX12_test_1 ml_X12_209 rfl rfl rfl (Nat.le_of_ble_eq_true rfl) (Nat.le_of_ble_eq_true rfl) (sp_pair_dd hf4 hf ?_)
  refine g_istore_1 h dX12_test_4 (by decide) rfl ?_
  refine g_aload_0 h dX12_test_5 ?_
  refine g_iconst h dX12_test_6 (v := nI 2) rfl ?_
  refine g_bipush h dX12_test_7 (v := nI 25) rfl ?_
  refine g_cVi2 h rok0 mi_X12_is dX12_test_9 ml_X12_125 rfl rfl rfl (Nat.le_of_ble_eq_true rfl) (Nat.le_of_ble_eq_true rfl) (sp_is_dd hf4 hf ?_)
  refine g_if_eq h 43 dX12_test_12 rfl (fun _ => ?_) (fun c => absurd c (by decide))
  refine g_iload_1 h dX12_test_43 ?_
  refine g_iret h dX12_test_44 ?_
  exact hQ
set_option maxRecDepth 100000 in
set_option maxHeartbeats 4000000 in
theorem lp_pair {Γ : Cx} {K wd : Nat → Nat} {V mm : Nat → Int32} {M : Nat} {c D : Nat} {g : Nat → PRs} {I0 : MI} {J : MJ} {P : MP} {p0 z0 f0 : Nat} {x0 : Option (Nat × Nat)} (hP : P 80 9 = some 104) (hz0 : z0 ≤ p0) (hG : cE K wd V M mm yX12_single cX12_single 3 (D + 10) c false g) {Q : Int32 → MI → MJ → MP → Prop} (hS : cFS K wd V M mm c false 24 25 clT g f0 p0 z0 x0 I0 (fun v I' => Q v I' J P)) (hF : cFF K M 24 25 clT g f0 p0 z0 I0 (fun v I' => Q v I' J P)) (h : Vc RX12 cX12_pair 2 (some .int) (D + 11) Γ) : ∀ (f p z : Nat) (I : MI) (v : Int32) (E : EX) , (∀ w A, pd K 24 25 clT g f0 p0 w A = opL K 24 25 clT g f p w A E) → M < p + f → rgE K wd V M mm I0 c p0 z0 x0 p z I → (fbd K mm (p - p0) p0 = none → nd false I z v E) → VG Γ 0 0 5 [some (.ref 80), some (.int v)] [] I J P (Fnl Γ (Qi Q)) := by
  intro f
  induction f with
  | zero =>
    intro p z I v E hR hf hr hn
    have := hr.2.1.M4
    omega
  | succ f ih =>
    intro p z I v E hR hf hr hn
    have hE := hr.2.1
    obtain ⟨M4, K45, hp, hzp, c8⟩ := hE.M4
    obtain ⟨-, -, u3, u4, u5⟩ := id hr
    by_cases k1 : K p = 24
    · have hpM := K_lt K45 hp k1 (by decide)
      refine g_aload_0 h dX12_pair_5 ?_
      refine g_iconst h dX12_pair_6 (v := nI 2) rfl ?_
      refine g_bipush h dX12_pair_7 (v := nI 24) rfl ?_
      refine g_cVi2 h rok0 mi_X12_is dX12_pair_9 ml_X12_125 rfl rfl rfl (Nat.le_of_ble_eq_true rfl) (Nat.le_of_ble_eq_true rfl) (sp_is2 (k := 24) (by decide) hE.1 hE.2.1 hE.2.2.1 (fun _ => ?_) (fun q => absurd (show K p = 24 by omega) q))
      refine g_if_eq h 43 dX12_pair_12 rfl (fun c => absurd c (by decide)) (fun _ => ?_)
      refine g_aload_0 h dX12_pair_15 ?_
      refine g_dup h dX12_pair_16 rfl ?_
      refine g_getI h fl_X12_118 dX12_pair_17 rfl rfl ?_
      refine g_iconst h dX12_pair_20 (v := nI 1) rfl ?_
      refine g_iadd h dX12_pair_21 ?_
      refine g_putI h fp_X12_118 dX12_pair_22 rfl rfl ?_
      rw [show I 80 14 + nI 1 = nI (p + 1) by rw [hE.2.1.1]; exact nI_1 p]
      refine g_aload_0 h dX12_pair_25 ?_
      refine g_getP h fl_X12_91 dX12_pair_26 rfl rfl (by assumption) ?_
      refine g_bipush h dX12_pair_29 (v := nI 24) rfl ?_
      refine g_iload_1 h dX12_pair_31 ?_
      refine g_aload_0 h dX12_pair_32 ?_
      refine g_cVi0 h rok0 mi_X12_single dX12_pair_33 ml_X12_212 rfl rfl rfl (Nat.le_of_ble_eq_true rfl) (Nat.le_of_ble_eq_true rfl) (hG (p + 1) z _ _ J P hP (hE.at hpM) (fun I2 v2 z2 e2 q2 n2 => ?_) (fun I2 v2 e2 b2 => ?_))
      · obtain ⟨-, -, t3, t4, t5⟩ := id q2
        have t6 := q2.2.1.M4
        refine g_cVi3 h rok0 mi_X11_node dX12_pair_36 ml_X12_173 rfl rfl rfl (Nat.le_of_ble_eq_true rfl) (Nat.le_of_ble_eq_true rfl) (sp_nodeW (z := z2) (by omega) q2.2.1.cnt (fun I3 w3 => ?_))
        refine g_istore_1 h dX12_pair_39 (by decide) rfl ?_
        refine g_goto h 5 dX12_pair_40 rfl ?_
        obtain ⟨s1, s2, s3, s4, s5⟩ := hr.st (by omega) q2 w3
        refine ih (g (p + 1)).2.1 (z2 + 1) I3 _ (joE (K p) E (g (p + 1)).2.2) (fun w A => ?_) (by omega) s1 (fun hb => ?_)
        · rw [hR, opL_cl (by omega) (by rw [k1]; rfl), if_pos e2]
        · rw [s2] at hb
          obtain ⟨h1, h2⟩ := Option.or_eq_none_iff.mp hb
          exact nd_jo (k := K p) (by omega) ((hn h1).mv s3 (show z ≤ z2 from t3)) ((n2 h2).mv s4 (Nat.le_refl _)) (Nat.le_refl _) (Nat.le_refl _) (by omega) (by rw [k1]; exact w3.2.1) w3.2.2.1 w3.2.2.2.1
      · obtain ⟨y2, y3, y4⟩ := b2.cnt (by omega) M4 (by omega) (by omega)
        have t6 := b2.2.2.2.1
        refine g_cVi3 h rok0 mi_X11_node dX12_pair_36 ml_X12_173 rfl rfl rfl (Nat.le_of_ble_eq_true rfl) (Nat.le_of_ble_eq_true rfl) (sp_nodeW (z := y2) y4 y3 (fun I3 w3 => ?_))
        refine g_istore_1 h dX12_pair_39 (by decide) rfl ?_
        refine g_goto h 5 dX12_pair_40 rfl ?_
        have bb := rB.st hr b2 y3 y4 w3
        refine g_aload_0 h dX12_pair_5 ?_
        refine g_iconst h dX12_pair_6 (v := nI 2) rfl ?_
        refine g_bipush h dX12_pair_7 (v := nI 24) rfl ?_
        refine g_cVi2 h rok0 mi_X12_is dX12_pair_9 ml_X12_125 rfl rfl rfl (Nat.le_of_ble_eq_true rfl) (Nat.le_of_ble_eq_true rfl) (sp_is_dd (f := (g (p + 1)).2.1) (by omega) bb.2.1 ?_)
        refine g_if_eq h 43 dX12_pair_12 rfl (fun _ => ?_) (fun c => absurd c (by decide))
        refine g_iload_1 h dX12_pair_43 ?_
        refine g_iret h dX12_pair_44 ?_
        refine hF _ _ _ (fun w A => ?_) bb
        rw [hR, opL_cl (by omega) (by rw [k1]; rfl), if_neg (by rw [e2]; decide)]
    refine g_aload_0 h dX12_pair_5 ?_
    refine g_iconst h dX12_pair_6 (v := nI 2) rfl ?_
    refine g_bipush h dX12_pair_7 (v := nI 24) rfl ?_
    refine g_cVi2 h rok0 mi_X12_is dX12_pair_9 ml_X12_125 rfl rfl rfl (Nat.le_of_ble_eq_true rfl) (Nat.le_of_ble_eq_true rfl) (sp_is2 (k := 24) (by decide) hE.1 hE.2.1 hE.2.2.1 (fun q => absurd q (by omega)) (fun _ => ?_))
    refine g_if_eq h 43 dX12_pair_12 rfl (fun _ => ?_) (fun c => absurd c (by decide))
    refine g_iload_1 h dX12_pair_43 ?_
    refine g_iret h dX12_pair_44 ?_
    exact hS _ _ _ _ _ _ hR (fun q => by have q3 := q.2.2; simp [clT] at q3; omega) hf hr hn
set_option maxRecDepth 100000 in
set_option maxHeartbeats 4000000 in
theorem cF_pair {K wd : Nat → Nat} {V mm : Nat → Int32} {M : Nat} {c D : Nat} {g : Nat → PRs} (hG : cE K wd V M mm yX12_single cX12_single 3 (D + 10) c false g) : cF K wd V M mm yX12_pair cX12_pair 2 (D + 11) c false 24 25 clT g := by
  intro p z x I J P hP hE f hf Q hS hF Γ h
  show VG Γ 0 0 0 [some (.ref 80), none] [] _ _ _ _
  refine g_aload_0 h dX12_pair_0 ?_
  refine g_cVi0 h rok0 mi_X12_single dX12_pair_1 ml_X12_212 rfl rfl rfl (Nat.le_of_ble_eq_true rfl) (Nat.le_of_ble_eq_true rfl) (hG p z x I J P hP hE (fun I2 v2 z2 e2 q2 n2 => ?_) (fun I2 v2 e2 b2 => ?_))
  · refine g_istore_1 h dX12_pair_4 (by decide) rfl ?_
    exact lp_pair hP hE.M4.2.2.2.1 hG hS hF h f _ z2 I2 v2 _ (fun w A => pd_t e2) (by have := q2.2.2.2.2; omega) q2 n2
  · refine g_istore_1 h dX12_pair_4 (by decide) rfl ?_
    refine g_aload_0 h dX12_pair_5 ?_
    refine g_iconst h dX12_pair_6 (v := nI 2) rfl ?_
    refine g_bipush h dX12_pair_7 (v := nI 24) rfl ?_
    refine g_cVi2 h rok0 mi_X12_is dX12_pair_9 ml_X12_125 rfl rfl rfl (Nat.le_of_ble_eq_true rfl) (Nat.le_of_ble_eq_true rfl) (sp_is_dd (f := (g p).2.1) (by have := hE.M4; have := b2.2.2.2.1; omega) b2.2.1 ?_)
    refine g_if_eq h 43 dX12_pair_12 rfl (fun _ => ?_) (fun c => absurd c (by decide))
    refine g_iload_1 h dX12_pair_43 ?_
    refine g_iret h dX12_pair_44 ?_
    exact hF _ _ _ (fun w A => pd_f e2) b2
set_option maxRecDepth 100000 in
set_option maxHeartbeats 4000000 in
theorem lp_test {Γ : Cx} {K wd : Nat → Nat} {V mm : Nat → Int32} {M : Nat} {c D : Nat} {g : Nat → PRs} {I0 : MI} {J : MJ} {P : MP} {p0 z0 : Nat} {x0 : Option (Nat × Nat)} (hP : P 80 9 = some 104) (hz0 : z0 ≤ p0) (hG : cF K wd V M mm yX12_pair cX12_pair 2 (D + 11) c false 24 25 clT g) {Q : Int32 → MI → MJ → MP → Prop} (hS : ∀ I' v z', (opS K 24 25 clT g p0).1 = true → rgE K wd V M mm I0 c p0 z0 x0 (opS K 24 25 clT g p0).2.1 z' I' → (fbd K mm ((opS K 24 25 clT g p0).2.1 - p0) p0 = none → nd false I' z' v (opS K 24 25 clT g p0).2.2) → Q v I' J P) (hF : ∀ I' v, (opS K 24 25 clT g p0).1 = false → rB M I0 p0 z0 (opS K 24 25 clT g p0).2.1 I' → Q v I' J P) (h : Vc RX12 cX12_test 2 (some .int) (D + 12) Γ) : ∀ (N f p z w : Nat) (I : MI) (v : Int32) (A E : EX) , (opS K 24 25 clT g p0) = opL K 24 25 clT g f p w A E → ¬ (24 ≤ K p ∧ K p ≤ 25 ∧ clT (K p) = true) → M < p + f → M < p + N → rgE K wd V M mm I0 c p0 z0 x0 p z I → (fbd K mm (p - p0) p0 = none → nd false I z v (wtE w A E)) → VG Γ 0 0 5 [some (.ref 80), some (.int v)] [] I J P (Fnl Γ (Qi Q)) := by
  intro N
  induction N with
  | zero =>
    intro f p z w I v A E hR hcl hf hN hr hn
    have := hr.2.1.M4
    omega
  | succ N ih =>
    intro f p z w I v A E hR hcl hf hN hr hn
    have hE := hr.2.1
    obtain ⟨M4, K45, hp, hzp, c8⟩ := hE.M4
    obtain ⟨-, -, u3, u4, u5⟩ := id hr
    obtain ⟨f, rfl⟩ : ∃ f', f = f' + 1 := ⟨f - 1, by omega⟩
    by_cases k1 : K p = 25
    · have hpM := K_lt K45 hp k1 (by decide)
      refine g_aload_0 h dX12_test_5 ?_
      refine g_iconst h dX12_test_6 (v := nI 2) rfl ?_
      refine g_bipush h dX12_test_7 (v := nI 25) rfl ?_
      refine g_cVi2 h rok0 mi_X12_is dX12_test_9 ml_X12_125 rfl rfl rfl (Nat.le_of_ble_eq_true rfl) (Nat.le_of_ble_eq_true rfl) (sp_is2 (k := 25) (by decide) hE.1 hE.2.1 hE.2.2.1 (fun _ => ?_) (fun q => absurd (show K p = 25 by omega) q))
      refine g_if_eq h 43 dX12_test_12 rfl (fun c => absurd c (by decide)) (fun _ => ?_)
      refine g_aload_0 h dX12_test_15 ?_
      refine g_dup h dX12_test_16 rfl ?_
      refine g_getI h fl_X12_118 dX12_test_17 rfl rfl ?_
      refine g_iconst h dX12_test_20 (v := nI 1) rfl ?_
      refine g_iadd h dX12_test_21 ?_
      refine g_putI h fp_X12_118 dX12_test_22 rfl rfl ?_
      rw [show I 80 14 + nI 1 = nI (p + 1) by rw [hE.2.1.1]; exact nI_1 p]
      refine g_aload_0 h dX12_test_25 ?_
      refine g_getP h fl_X12_91 dX12_test_26 rfl rfl (by assumption) ?_
      refine g_bipush h dX12_test_29 (v := nI 25) rfl ?_
      refine g_iload_1 h dX12_test_31 ?_
      refine g_aload_0 h dX12_test_32 ?_
      refine g_cVi0 h rok0 mi_X12_pair dX12_test_33 ml_X12_209 rfl rfl rfl (Nat.le_of_ble_eq_true rfl) (Nat.le_of_ble_eq_true rfl) (hG (p + 1) z _ _ J P hP (hE.at hpM) f (by omega) (fun I2 v2 z2 p2 f2 E2 e2 c2 f3 q2 n2 => ?_) (fun I2 v2 e e2 b2 => ?_))
      · obtain ⟨-, -, t3, t4, t5⟩ := id q2
        have t6 := q2.2.1.M4
        refine g_cVi3 h rok0 mi_X11_node dX12_test_36 ml_X12_173 rfl rfl rfl (Nat.le_of_ble_eq_true rfl) (Nat.le_of_ble_eq_true rfl) (sp_nodeW (z := z2) (by omega) q2.2.1.cnt (fun I3 w3 => ?_))
        refine g_istore_1 h dX12_test_39 (by decide) rfl ?_
        refine g_goto h 5 dX12_test_40 rfl ?_
        obtain ⟨s1, s2, s3, s4, s5⟩ := hr.st (by omega) q2 w3
        refine ih f2 p2 (z2 + 1) (K p) I3 _ (wtE w A E) E2 (by rw [hR, opL_op (by omega) (by rw [k1]; decide), e2]) c2 (by omega) (by omega) s1 (fun hb => ?_)
        rw [s2] at hb
        obtain ⟨h1, h2⟩ := Option.or_eq_none_iff.mp hb
        rw [show wtE (K p) (wtE w A E) E2 = joE (K p) (wtE w A E) E2 by rw [wtE, if_neg (by omega)]]
        exact nd_jo (k := K p) (by omega) ((hn h1).mv s3 (show z ≤ z2 from t3)) ((n2 h2).mv s4 (Nat.le_refl _)) (Nat.le_refl _) (Nat.le_refl _) (by omega) (by rw [k1]; exact w3.2.1) w3.2.2.1 w3.2.2.2.1
      · obtain ⟨y2, y3, y4⟩ := b2.cnt (by omega) M4 (by omega) (by omega)
        have t6 := b2.2.2.2.1
        refine g_cVi3 h rok0 mi_X11_node dX12_test_36 ml_X12_173 rfl rfl rfl (Nat.le_of_ble_eq_true rfl) (Nat.le_of_ble_eq_true rfl) (sp_nodeW (z := y2) y4 y3 (fun I3 w3 => ?_))
        refine g_istore_1 h dX12_test_39 (by decide) rfl ?_
        refine g_goto h 5 dX12_test_40 rfl ?_
        have bb := rB.st hr b2 y3 y4 w3
        refine g_aload_0 h dX12_test_5 ?_
        refine g_iconst h dX12_test_6 (v := nI 2) rfl ?_
        refine g_bipush h dX12_test_7 (v := nI 25) rfl ?_
        refine g_cVi2 h rok0 mi_X12_is dX12_test_9 ml_X12_125 rfl rfl rfl (Nat.le_of_ble_eq_true rfl) (Nat.le_of_ble_eq_true rfl) (sp_is_dd (f := e) (by omega) bb.2.1 ?_)
        refine g_if_eq h 43 dX12_test_12 rfl (fun _ => ?_) (fun c => absurd c (by decide))
        refine g_iload_1 h dX12_test_43 ?_
        refine g_iret h dX12_test_44 ?_
        have hR2 : (opS K 24 25 clT g p0) = (false, e, zE) := by rw [hR, opL_op (by omega) (by rw [k1]; decide), e2]
        exact hF _ _ (by rw [hR2]) (by rw [hR2]; exact bb)
    refine g_aload_0 h dX12_test_5 ?_
    refine g_iconst h dX12_test_6 (v := nI 2) rfl ?_
    refine g_bipush h dX12_test_7 (v := nI 25) rfl ?_
    refine g_cVi2 h rok0 mi_X12_is dX12_test_9 ml_X12_125 rfl rfl rfl (Nat.le_of_ble_eq_true rfl) (Nat.le_of_ble_eq_true rfl) (sp_is2 (k := 25) (by decide) hE.1 hE.2.1 hE.2.2.1 (fun q => absurd q (by omega)) (fun _ => ?_))
    refine g_if_eq h 43 dX12_test_12 rfl (fun _ => ?_) (fun c => absurd c (by decide))
    refine g_iload_1 h dX12_test_43 ?_
    refine g_iret h dX12_test_44 ?_
    have hR2 : (opS K 24 25 clT g p0) = (true, p, wtE w A E) := by rw [hR, opL_no (fun q => hcl ⟨q.1, q.2, decide_eq_true (show K p = 24 by omega)⟩)]
    exact hS _ _ _ (by rw [hR2]) (by rw [hR2]; exact hr) (by rw [hR2]; exact hn)
set_option maxRecDepth 100000 in
set_option maxHeartbeats 4000000 in
theorem cE_test {K wd : Nat → Nat} {V mm : Nat → Int32} {M : Nat} {c D : Nat} {g : Nat → PRs} (hG : cF K wd V M mm yX12_pair cX12_pair 2 (D + 11) c false 24 25 clT g) : cE K wd V M mm yX12_test cX12_test 2 (D + 12) c false (opS K 24 25 clT g) := by
  intro p z x I J P hP hE Q hS hF Γ h
  show VG Γ 0 0 0 [some (.ref 80), none] [] _ _ _ _
  refine g_aload_0 h dX12_test_0 ?_
  refine g_cVi0 h rok0 mi_X12_pair dX12_test_1 ml_X12_209 rfl rfl rfl (Nat.le_of_ble_eq_true rfl) (Nat.le_of_ble_eq_true rfl) (hG p z x I J P hP hE 401 (by have := hE.M4; omega) (fun I2 v2 z2 p2 f2 E2 e2 c2 f3 q2 n2 => ?_) (fun I2 v2 e e2 b2 => ?_))
  · refine g_istore_1 h dX12_test_4 (by decide) rfl ?_
    exact lp_test hP hE.M4.2.2.2.1 hG hS hF h f2 f2 p2 z2 48 I2 v2 zE E2 (opS_pd.trans (e2 48 zE)) c2 f3 f3 q2 (by rw [show wtE 48 zE E2 = E2 from if_pos rfl]; exact n2)
  · have hR2 := opS_pd.trans (e2 48 zE)
    refine g_istore_1 h dX12_test_4 (by decide) rfl ?_
    refine g_aload_0 h dX12_test_5 ?_
    refine g_iconst h dX12_test_6 (v := nI 2) rfl ?_
    refine g_bipush h dX12_test_7 (v := nI 25) rfl ?_
    refine g_cVi2 h rok0 mi_X12_is dX12_test_9 ml_X12_125 rfl rfl rfl (Nat.le_of_ble_eq_true rfl) (Nat.le_of_ble_eq_true rfl) (sp_is_dd (f := e) (by have := hE.M4; have := b2.2.2.2.1; omega) b2.2.1 ?_)
    refine g_if_eq h 43 dX12_test_12 rfl (fun _ => ?_) (fun c => absurd c (by decide))
    refine g_iload_1 h dX12_test_43 ?_
    refine g_iret h dX12_test_44 ?_
    exact hF _ _ (by rw [hR2]) (by rw [hR2]; exact b2)
set_option maxRecDepth 100000 in
set_option maxHeartbeats 4000000 in
theorem single_23 {K wd : Nat → Nat} {V mm : Nat → Int32} {M : Nat} {c D : Nat} {b : Bool} {gs gt sm : Nat → PRs} {p z : Nat} {x : Option (Nat × Nat)} {I : MI} {J : MJ} {P : MP} (hP : P 80 9 = some 104) (hE : rE K wd V M mm I (c + 1) p z x) (k1 : K p = 23) (hb : b = true) (hG : cE K wd V M mm yX12_single cX12_single 3 (D + 7) c false gs) {Q : Int32 → MI → MJ → MP → Prop} (hS : ∀ I' v z', (sS K mm b gs gt sm p).1 = true → rgE K wd V M mm I (c + 1) p z x (sS K mm b gs gt sm p).2.1 z' I' → (fbd K mm ((sS K mm b gs gt sm p).2.1 - p) p = none → nd false I' z' v (sS K mm b gs gt sm p).2.2) → Q v I' J P) (hF : ∀ I' v, (sS K mm b gs gt sm p).1 = false → rB M I p z (sS K mm b gs gt sm p).2.1 I' → Q v I' J P) : Sp yX12_single cX12_single 3 (some .int) (D + 8) [.ref 80] I J P (Qi Q) := by
  intro Γ h
  show VG Γ 0 0 0 [some (.ref 80), none, none] [] _ _ _ _
  obtain ⟨M4, K45, hp, hzp, c8⟩ := hE.M4
  have hpM := K_lt2 K45 hp (by omega)
  have hE1 := hE.dp (c' := c) (v := nI (8 - (c + 1) + 1)) (by rw [show 8 - (c + 1) + 1 = 8 - c by omega]) (by omega)
  have fz : FRm z I (up2 (up2 I 80 15 (nI (8 - (c + 1) + 1))) 80 14 (nI (p + 1))) := (FRm.at (by decide) (by decide)).tr (FRm.at (by decide) (by decide)) (Nat.le_refl z)
  refine g_aload_0 h dX12_single_0 ?_
  refine g_iconst h dX12_single_1 (v := nI 2) rfl ?_
  refine g_bipush h dX12_single_2 (v := nI 23) rfl ?_
  refine g_cVi2 h rok0 mi_X12_is dX12_single_4 ml_X12_125 rfl rfl rfl (Nat.le_of_ble_eq_true rfl) (Nat.le_of_ble_eq_true rfl) (sp_is2 (k := 23) (by decide) hE.1 hE.2.1 hE.2.2.1 (fun _ => ?_) (fun q => absurd (show K p = 23 by omega) q))
  refine g_if_eq h 51 dX12_single_7 rfl (fun c => absurd c (by decide)) (fun _ => ?_)
  refine g_aload_0 h dX12_single_10 ?_
  refine g_cVv0 h rok0 mi_X12_deeper dX12_single_11 ml_X12_194 rfl rfl rfl (Nat.le_of_ble_eq_true rfl) (Nat.le_of_ble_eq_true rfl) (sp_deeper (e := 8 - (c + 1)) (by omega) hE.2.2.2.1.1 ?_)
  refine g_aload_0 h dX12_single_14 ?_
  refine g_dup h dX12_single_15 rfl ?_
  refine g_getI h fl_X12_118 dX12_single_16 rfl rfl ?_
  refine g_iconst h dX12_single_19 (v := nI 1) rfl ?_
  refine g_iadd h dX12_single_20 ?_
  refine g_putI h fp_X12_118 dX12_single_21 rfl rfl ?_
  rw [show up2 I 80 15 (nI (8 - (c + 1) + 1)) 80 14 + nI 1 = nI (p + 1) by rw [hE1.2.1.1]; exact nI_1 p]
  refine g_aload_0 h dX12_single_24 ?_
  refine g_getP h fl_X12_91 dX12_single_25 rfl rfl (by assumption) ?_
  refine g_bipush h dX12_single_28 (v := nI 23) rfl ?_
  refine g_aload_0 h dX12_single_30 ?_
  refine g_cVi0 h rok0 mi_X12_single dX12_single_31 ml_X12_212 rfl rfl rfl (Nat.le_of_ble_eq_true rfl) (Nat.le_of_ble_eq_true rfl) (hG (p + 1) z _ _ J P hP (hE1.at hpM) (fun I2 v2 z2 e2 q2 n2 => ?_) (fun I2 v2 e2 b2 => ?_))
  · obtain ⟨t1, t2, t3, t4, t5⟩ := id q2
    have t6 := t2.M4
    refine g_iconst h dX12_single_34 (v := nI 0) rfl ?_
    refine g_cVi3 h rok0 mi_X11_node dX12_single_35 ml_X12_173 rfl rfl rfl (Nat.le_of_ble_eq_true rfl) (Nat.le_of_ble_eq_true rfl) (sp_nodeW (z := z2) (by omega) t2.cnt (fun I3 w3 => ?_))
    refine g_istore_1 h dX12_single_38 (by decide) rfl ?_
    refine g_aload_0 h dX12_single_39 ?_
    refine g_dup h dX12_single_40 rfl ?_
    refine g_getI h fl_X12_138 dX12_single_41 rfl rfl ?_
    refine g_iconst h dX12_single_44 (v := nI 1) rfl ?_
    refine g_isub h dX12_single_45 ?_
    refine g_putI h fp_X12_138 dX12_single_46 rfl rfl ?_
    refine g_iload_1 h dX12_single_49 ?_
    refine g_iret h dX12_single_50 ?_
    have hv : (sS K mm b gs gt sm p) = (true, (gs (p + 1)).2.1, fun e => nI 1 - (gs (p + 1)).2.2 e) := by rw [sS, if_pos k1, if_pos hb, e2]
    have t7 := (t2.nw (by omega) w3).dp (c' := c + 1) (v := I3 80 15 - nI 1) (by rw [show I3 80 15 = nI (8 - (c + 1) + 1) by rw [w3.2.2.2.2.2, t2.2.2.2.1.1, show 8 - c = 8 - (c + 1) + 1 by omega]]; exact nI_sub1 _) c8
    have eF : fbd K mm ((gs (p + 1)).2.1 - p) p = fbd K mm ((gs (p + 1)).2.1 - (p + 1)) (p + 1) := fbd_0 (by omega) (by omega)
    refine hS _ _ (z2 + 1) (by rw [hv]) (by rw [hv]; exact ⟨((fz.tr t1 (Nat.le_refl _)).tr w3.1 t3).tr (FRm.at (by decide) (by decide)) (show z ≤ z2 + 1 by omega), by rw [eF]; exact t7, by omega, by show z2 + 1 + p ≤ z + (gs (p + 1)).2.1; omega, by show p < (gs (p + 1)).2.1; omega⟩) (by
      rw [hv]
      intro hb
      rw [eF] at hb
      exact (nd_not ((n2 hb).mv w3.1 (Nat.le_refl _)) (Nat.le_refl _) (by omega) w3.2.1 w3.2.2.1).mv (FRm.at (by decide) (by decide)) (Nat.le_refl _))
  · have t6 := b2.2.2.2.1
    obtain ⟨y, y3, y4⟩ := b2.cnt (by omega) M4 (by omega) (by omega)
    refine g_iconst h dX12_single_34 (v := nI 0) rfl ?_
    refine g_cVi3 h rok0 mi_X11_node dX12_single_35 ml_X12_173 rfl rfl rfl (Nat.le_of_ble_eq_true rfl) (Nat.le_of_ble_eq_true rfl) (sp_nodeW (z := y) y4 y3 (fun I9 w9 => ?_))
    refine g_istore_1 h dX12_single_38 (by decide) rfl ?_
    refine g_aload_0 h dX12_single_39 ?_
    refine g_dup h dX12_single_40 rfl ?_
    refine g_getI h fl_X12_138 dX12_single_41 rfl rfl ?_
    refine g_iconst h dX12_single_44 (v := nI 1) rfl ?_
    refine g_isub h dX12_single_45 ?_
    refine g_putI h fp_X12_138 dX12_single_46 rfl rfl ?_
    refine g_iload_1 h dX12_single_49 ?_
    refine g_iret h dX12_single_50 ?_
    have hv : (sS K mm b gs gt sm p) = (false, (gs (p + 1)).2.1, fun e => nI 1 - (gs (p + 1)).2.2 e) := by rw [sS, if_pos k1, if_pos hb, e2]
    exact hF _ _ (by rw [hv]) (by rw [hv]; exact (((b2.wk fz (Nat.le_refl _)).nd (p := p) (Nat.le_refl _) y3 y4 (by omega) w9).up (Or.inr rfl)))
set_option maxRecDepth 100000 in
set_option maxHeartbeats 4000000 in
theorem single_23z {K wd : Nat → Nat} {V mm : Nat → Int32} {M : Nat} {D : Nat} {b : Bool} {gs gt sm : Nat → PRs} {p z : Nat} {x : Option (Nat × Nat)} {I : MI} {J : MJ} {P : MP} (hP : P 80 9 = some 104) (hE : rE K wd V M mm I 0 p z x) (k1 : K p = 23) (hb : b = false) {Q : Int32 → MI → MJ → MP → Prop} (hS : ∀ I' v z', (sS K mm b gs gt sm p).1 = true → rgE K wd V M mm I 0 p z x (sS K mm b gs gt sm p).2.1 z' I' → (fbd K mm ((sS K mm b gs gt sm p).2.1 - p) p = none → nd false I' z' v (sS K mm b gs gt sm p).2.2) → Q v I' J P) (hF : ∀ I' v, (sS K mm b gs gt sm p).1 = false → rB M I p z (sS K mm b gs gt sm p).2.1 I' → Q v I' J P) : Sp yX12_single cX12_single 3 (some .int) (D + 8) [.ref 80] I J P (Qi Q) := by
  intro Γ h
  show VG Γ 0 0 0 [some (.ref 80), none, none] [] _ _ _ _
  obtain ⟨M4, K45, hp, hzp, c8⟩ := hE.M4
  have b0 : rB M I p z p (up2 I 80 16 (nI p)) := rB.new FRm.rf hE.cnt (Nat.le_refl _) (by omega) (Nat.le_refl _) hp
  have b1 := b0.up (k := 15) (v := nI 9) (Or.inr rfl)
  have b2 := b1.up (k := 14) (v := up2 (up2 I 80 16 (nI p)) 80 15 (nI 9) 80 14 + nI 1) (Or.inl rfl)
  have f2 : FRm z I (up2 (up2 (up2 I 80 16 (nI p)) 80 15 (nI 9)) 80 14 (up2 (up2 I 80 16 (nI p)) 80 15 (nI 9) 80 14 + nI 1)) := ((FRm.at (by decide) (by decide)).tr (FRm.at (by decide) (by decide)) (Nat.le_refl _)).tr (FRm.at (by decide) (by decide)) (Nat.le_refl _)
  have y3 : up2 (up2 (up2 I 80 16 (nI p)) 80 15 (nI 9)) 80 14 (up2 (up2 I 80 16 (nI p)) 80 15 (nI 9) 80 14 + nI 1) 104 12 = nI z := by rw [up2_o (by decide), up2_o (by decide), up2_o (by decide)]; exact hE.cnt
  refine g_aload_0 h dX12_single_0 ?_
  refine g_iconst h dX12_single_1 (v := nI 2) rfl ?_
  refine g_bipush h dX12_single_2 (v := nI 23) rfl ?_
  refine g_cVi2 h rok0 mi_X12_is dX12_single_4 ml_X12_125 rfl rfl rfl (Nat.le_of_ble_eq_true rfl) (Nat.le_of_ble_eq_true rfl) (sp_is2 (k := 23) (by decide) hE.1 hE.2.1 hE.2.2.1 (fun _ => ?_) (fun q => absurd (show K p = 23 by omega) q))
  refine g_if_eq h 51 dX12_single_7 rfl (fun c => absurd c (by decide)) (fun _ => ?_)
  refine g_aload_0 h dX12_single_10 ?_
  refine g_cVv0 h rok0 mi_X12_deeper dX12_single_11 ml_X12_194 rfl rfl rfl (Nat.le_of_ble_eq_true rfl) (Nat.le_of_ble_eq_true rfl) (sp_deeper8 hE.2.1 hE.2.2.2.1.1 ?_)
  refine g_aload_0 h dX12_single_14 ?_
  refine g_dup h dX12_single_15 rfl ?_
  refine g_getI h fl_X12_118 dX12_single_16 rfl rfl ?_
  refine g_iconst h dX12_single_19 (v := nI 1) rfl ?_
  refine g_iadd h dX12_single_20 ?_
  refine g_putI h fp_X12_118 dX12_single_21 rfl rfl ?_
  refine g_aload_0 h dX12_single_24 ?_
  refine g_getP h fl_X12_91 dX12_single_25 rfl rfl (by assumption) ?_
  refine g_bipush h dX12_single_28 (v := nI 23) rfl ?_
  refine g_aload_0 h dX12_single_30 ?_
  refine g_cVi0 h rok0 mi_X12_single dX12_single_31 ml_X12_212 rfl rfl rfl (Nat.le_of_ble_eq_true rfl) (Nat.le_of_ble_eq_true rfl) (sp_single_dd (f := p) (by omega) b2.2.1 ?_)
  refine g_iconst h dX12_single_34 (v := nI 0) rfl ?_
  refine g_cVi3 h rok0 mi_X11_node dX12_single_35 ml_X12_173 rfl rfl rfl (Nat.le_of_ble_eq_true rfl) (Nat.le_of_ble_eq_true rfl) (sp_nodeW (z := z) (by omega) y3 (fun I9 w9 => ?_))
  refine g_istore_1 h dX12_single_38 (by decide) rfl ?_
  refine g_aload_0 h dX12_single_39 ?_
  refine g_dup h dX12_single_40 rfl ?_
  refine g_getI h fl_X12_138 dX12_single_41 rfl rfl ?_
  refine g_iconst h dX12_single_44 (v := nI 1) rfl ?_
  refine g_isub h dX12_single_45 ?_
  refine g_putI h fp_X12_138 dX12_single_46 rfl rfl ?_
  refine g_iload_1 h dX12_single_49 ?_
  refine g_iret h dX12_single_50 ?_
  have hv : (sS K mm b gs gt sm p) = (false, p, zE) := by rw [sS, if_pos k1, hb, if_neg (by decide)]
  obtain ⟨w1, w2, w3, w4, w5, w6⟩ := w9
  have b9 : rB M I p z p I9 := ⟨f2.tr w1 (Nat.le_refl _), by rw [w6]; exact b2.2.1, Nat.le_refl _, hp, z + 1, w5, by omega, by omega⟩
  exact hF _ _ (by rw [hv]) (by rw [hv]; exact b9.up (Or.inr rfl))
set_option maxRecDepth 100000 in
set_option maxHeartbeats 4000000 in
theorem single_32 {K wd : Nat → Nat} {V mm : Nat → Int32} {M : Nat} {c D : Nat} {b : Bool} {gs gt sm : Nat → PRs} {p z : Nat} {x : Option (Nat × Nat)} {I : MI} {J : MJ} {P : MP} (hP : P 80 9 = some 104) (hE : rE K wd V M mm I (c + 1) p z x) (k1 : K p = 32) (hb : b = true) (hG : cE K wd V M mm yX12_test cX12_test 2 (D + 7) c false gt) {Q : Int32 → MI → MJ → MP → Prop} (hS : ∀ I' v z', (sS K mm b gs gt sm p).1 = true → rgE K wd V M mm I (c + 1) p z x (sS K mm b gs gt sm p).2.1 z' I' → (fbd K mm ((sS K mm b gs gt sm p).2.1 - p) p = none → nd false I' z' v (sS K mm b gs gt sm p).2.2) → Q v I' J P) (hF : ∀ I' v, (sS K mm b gs gt sm p).1 = false → rB M I p z (sS K mm b gs gt sm p).2.1 I' → Q v I' J P) : Sp yX12_single cX12_single 3 (some .int) (D + 8) [.ref 80] I J P (Qi Q) := by
  intro Γ h
  show VG Γ 0 0 0 [some (.ref 80), none, none] [] _ _ _ _
  obtain ⟨M4, K45, hp, hzp, c8⟩ := hE.M4
  have hpM := K_lt2 K45 hp (by omega)
  have hE1 := hE.dp (c' := c) (v := nI (8 - (c + 1) + 1)) (by rw [show 8 - (c + 1) + 1 = 8 - c by omega]) (by omega)
  have fz : FRm z I (up2 (up2 I 80 15 (nI (8 - (c + 1) + 1))) 80 14 (nI (p + 1))) := (FRm.at (by decide) (by decide)).tr (FRm.at (by decide) (by decide)) (Nat.le_refl z)
  have hv0 : (sS K mm b gs gt sm p) = (cloP K 33 (gt (p + 1))) := by rw [sS, if_neg (by omega), if_pos k1, if_pos hb]
  refine g_aload_0 h dX12_single_0 ?_
  refine g_iconst h dX12_single_1 (v := nI 2) rfl ?_
  refine g_bipush h dX12_single_2 (v := nI 23) rfl ?_
  refine g_cVi2 h rok0 mi_X12_is dX12_single_4 ml_X12_125 rfl rfl rfl (Nat.le_of_ble_eq_true rfl) (Nat.le_of_ble_eq_true rfl) (sp_is2 (k := 23) (by decide) hE.1 hE.2.1 hE.2.2.1 (fun q => absurd q (by omega)) (fun _ => ?_))
  refine g_if_eq h 51 dX12_single_7 rfl (fun _ => ?_) (fun c => absurd c (by decide))
  refine g_aload_0 h dX12_single_51 ?_
  refine g_iconst h dX12_single_52 (v := nI 4) rfl ?_
  refine g_bipush h dX12_single_53 (v := nI 91) rfl ?_
  refine g_cVi2 h rok0 mi_X12_is dX12_single_55 ml_X12_125 rfl rfl rfl (Nat.le_of_ble_eq_true rfl) (Nat.le_of_ble_eq_true rfl) (sgC_is (k := 32) rfl (by decide) hE.1 hE.2.1 hE.2.2.1 (fun _ => ?_) (fun q => absurd (show K p = 32 by omega) q))
  refine g_if_eq h 99 dX12_single_58 rfl (fun c => absurd c (by decide)) (fun _ => ?_)
  refine g_aload_0 h dX12_single_61 ?_
  refine g_cVv0 h rok0 mi_X12_deeper dX12_single_62 ml_X12_194 rfl rfl rfl (Nat.le_of_ble_eq_true rfl) (Nat.le_of_ble_eq_true rfl) (sp_deeper (e := 8 - (c + 1)) (by omega) hE.2.2.2.1.1 ?_)
  refine g_aload_0 h dX12_single_65 ?_
  refine g_dup h dX12_single_66 rfl ?_
  refine g_getI h fl_X12_118 dX12_single_67 rfl rfl ?_
  refine g_iconst h dX12_single_70 (v := nI 1) rfl ?_
  refine g_iadd h dX12_single_71 ?_
  refine g_putI h fp_X12_118 dX12_single_72 rfl rfl ?_
  rw [show up2 I 80 15 (nI (8 - (c + 1) + 1)) 80 14 + nI 1 = nI (p + 1) by rw [hE1.2.1.1]; exact nI_1 p]
  refine g_aload_0 h dX12_single_75 ?_
  refine g_cVi0 h rok0 mi_X12_test dX12_single_76 ml_X12_215 rfl rfl rfl (Nat.le_of_ble_eq_true rfl) (Nat.le_of_ble_eq_true rfl) (hG (p + 1) z _ _ J P hP (hE1.at hpM) (fun I2 v2 z2 e2 q2 n2 => ?_) (fun I2 v2 e2 b2 => ?_))
  · obtain ⟨t1, t2, t3, t4, t5⟩ := id q2
    have t6 := t2.M4
    refine g_istore_1 h dX12_single_79 (by decide) rfl ?_
    refine g_aload_0 h dX12_single_80 ?_
    refine g_iconst h dX12_single_81 (v := nI 4) rfl ?_
    refine g_bipush h dX12_single_82 (v := nI 93) rfl ?_
    refine g_cVv2 h rok0 mi_X12_take dX12_single_84 ml_X12_206 rfl rfl rfl (Nat.le_of_ble_eq_true rfl) (Nat.le_of_ble_eq_true rfl) (sgC_take (k := 33) rfl (by decide) t2.1 t2.2.1 t2.2.2.1 (fun k2 => ?_) (fun k2 => ?_))
    · refine g_aload_0 h dX12_single_87 ?_
      refine g_dup h dX12_single_88 rfl ?_
      refine g_getI h fl_X12_138 dX12_single_89 rfl rfl ?_
      refine g_iconst h dX12_single_92 (v := nI 1) rfl ?_
      refine g_isub h dX12_single_93 ?_
      refine g_putI h fp_X12_138 dX12_single_94 rfl rfl ?_
      refine g_iload_1 h dX12_single_97 ?_
      refine g_iret h dX12_single_98 ?_
      have p2M := K_lt K45 t6.2.2.1 k2 (by decide)
      have hv : (sS K mm b gs gt sm p) = (true, (gt (p + 1)).2.1 + 1, (gt (p + 1)).2.2) := by rw [hv0, cloP, if_pos e2, if_pos k2]
      have t7 := (t2.at p2M).dp (c' := c + 1) (v := up2 I2 80 14 (nI ((gt (p + 1)).2.1 + 1)) 80 15 - nI 1) (by rw [up2_n (by decide), t2.2.2.2.1.1, show 8 - c = 8 - (c + 1) + 1 by omega]; exact nI_sub1 _) c8
      have eF : fbd K mm ((gt (p + 1)).2.1 + 1 - p) p = fbd K mm ((gt (p + 1)).2.1 - (p + 1)) (p + 1) := by
        rw [fbd_m (by omega) (by omega), fbd_0 (by omega) (by omega)]
      refine hS _ _ z2 (by rw [hv]) (by rw [hv]; exact ⟨((fz.tr t1 (Nat.le_refl _)).tr (FRm.at (by decide) (by decide)) t3).tr (FRm.at (by decide) (by decide)) t3, by rw [eF]; exact t7, t3, by show z2 + p ≤ z + ((gt (p + 1)).2.1 + 1); omega, by show p < (gt (p + 1)).2.1 + 1; omega⟩) (by
        rw [hv]
        intro hb
        rw [eF] at hb
        exact ((n2 hb).mv (FRm.at (by decide) (by decide)) (Nat.le_refl _)).mv (FRm.at (by decide) (by decide)) (Nat.le_refl _))
    · refine g_aload_0 h dX12_single_87 ?_
      refine g_dup h dX12_single_88 rfl ?_
      refine g_getI h fl_X12_138 dX12_single_89 rfl rfl ?_
      refine g_iconst h dX12_single_92 (v := nI 1) rfl ?_
      refine g_isub h dX12_single_93 ?_
      refine g_putI h fp_X12_138 dX12_single_94 rfl rfl ?_
      refine g_iload_1 h dX12_single_97 ?_
      refine g_iret h dX12_single_98 ?_
      have hv : (sS K mm b gs gt sm p) = (false, (gt (p + 1)).2.1, zE) := by rw [hv0, cloP, if_pos e2, if_neg k2]
      have b9 : rB M I p z (gt (p + 1)).2.1 _ := rB.new (fz.tr t1 (Nat.le_refl _)) t2.cnt t3 (by omega) (by omega) t6.2.2.1
      exact hF _ _ (by rw [hv]) (by rw [hv]; exact b9.up (Or.inr rfl))
  · have t6 := b2.2.2.2.1
    refine g_istore_1 h dX12_single_79 (by decide) rfl ?_
    refine g_aload_0 h dX12_single_80 ?_
    refine g_iconst h dX12_single_81 (v := nI 4) rfl ?_
    refine g_bipush h dX12_single_82 (v := nI 93) rfl ?_
    refine g_cVv2 h rok0 mi_X12_take dX12_single_84 ml_X12_206 rfl rfl rfl (Nat.le_of_ble_eq_true rfl) (Nat.le_of_ble_eq_true rfl) (sp_take_dd (f := (gt (p + 1)).2.1) (by omega) b2.2.1 ?_)
    refine g_aload_0 h dX12_single_87 ?_
    refine g_dup h dX12_single_88 rfl ?_
    refine g_getI h fl_X12_138 dX12_single_89 rfl rfl ?_
    refine g_iconst h dX12_single_92 (v := nI 1) rfl ?_
    refine g_isub h dX12_single_93 ?_
    refine g_putI h fp_X12_138 dX12_single_94 rfl rfl ?_
    refine g_iload_1 h dX12_single_97 ?_
    refine g_iret h dX12_single_98 ?_
    have hv : (sS K mm b gs gt sm p) = (false, (gt (p + 1)).2.1, zE) := by rw [hv0, cloP, if_neg (by rw [e2]; decide)]
    exact hF _ _ (by rw [hv]) (by rw [hv]; exact (b2.wk fz (by omega)).up (Or.inr rfl))
set_option maxRecDepth 100000 in
set_option maxHeartbeats 4000000 in
theorem single_32z {K wd : Nat → Nat} {V mm : Nat → Int32} {M : Nat} {D : Nat} {b : Bool} {gs gt sm : Nat → PRs} {p z : Nat} {x : Option (Nat × Nat)} {I : MI} {J : MJ} {P : MP} (hP : P 80 9 = some 104) (hE : rE K wd V M mm I 0 p z x) (k1 : K p = 32) (hb : b = false) {Q : Int32 → MI → MJ → MP → Prop} (hS : ∀ I' v z', (sS K mm b gs gt sm p).1 = true → rgE K wd V M mm I 0 p z x (sS K mm b gs gt sm p).2.1 z' I' → (fbd K mm ((sS K mm b gs gt sm p).2.1 - p) p = none → nd false I' z' v (sS K mm b gs gt sm p).2.2) → Q v I' J P) (hF : ∀ I' v, (sS K mm b gs gt sm p).1 = false → rB M I p z (sS K mm b gs gt sm p).2.1 I' → Q v I' J P) : Sp yX12_single cX12_single 3 (some .int) (D + 8) [.ref 80] I J P (Qi Q) := by
  intro Γ h
  show VG Γ 0 0 0 [some (.ref 80), none, none] [] _ _ _ _
  obtain ⟨M4, K45, hp, hzp, c8⟩ := hE.M4
  have b0 : rB M I p z p (up2 I 80 16 (nI p)) := rB.new FRm.rf hE.cnt (Nat.le_refl _) (by omega) (Nat.le_refl _) hp
  have b1 := b0.up (k := 15) (v := nI 9) (Or.inr rfl)
  have b2 := b1.up (k := 14) (v := up2 (up2 I 80 16 (nI p)) 80 15 (nI 9) 80 14 + nI 1) (Or.inl rfl)
  have f2 : FRm z I (up2 (up2 (up2 I 80 16 (nI p)) 80 15 (nI 9)) 80 14 (up2 (up2 I 80 16 (nI p)) 80 15 (nI 9) 80 14 + nI 1)) := ((FRm.at (by decide) (by decide)).tr (FRm.at (by decide) (by decide)) (Nat.le_refl _)).tr (FRm.at (by decide) (by decide)) (Nat.le_refl _)
  have y3 : up2 (up2 (up2 I 80 16 (nI p)) 80 15 (nI 9)) 80 14 (up2 (up2 I 80 16 (nI p)) 80 15 (nI 9) 80 14 + nI 1) 104 12 = nI z := by rw [up2_o (by decide), up2_o (by decide), up2_o (by decide)]; exact hE.cnt
  refine g_aload_0 h dX12_single_0 ?_
  refine g_iconst h dX12_single_1 (v := nI 2) rfl ?_
  refine g_bipush h dX12_single_2 (v := nI 23) rfl ?_
  refine g_cVi2 h rok0 mi_X12_is dX12_single_4 ml_X12_125 rfl rfl rfl (Nat.le_of_ble_eq_true rfl) (Nat.le_of_ble_eq_true rfl) (sp_is2 (k := 23) (by decide) hE.1 hE.2.1 hE.2.2.1 (fun q => absurd q (by omega)) (fun _ => ?_))
  refine g_if_eq h 51 dX12_single_7 rfl (fun _ => ?_) (fun c => absurd c (by decide))
  refine g_aload_0 h dX12_single_51 ?_
  refine g_iconst h dX12_single_52 (v := nI 4) rfl ?_
  refine g_bipush h dX12_single_53 (v := nI 91) rfl ?_
  refine g_cVi2 h rok0 mi_X12_is dX12_single_55 ml_X12_125 rfl rfl rfl (Nat.le_of_ble_eq_true rfl) (Nat.le_of_ble_eq_true rfl) (sgC_is (k := 32) rfl (by decide) hE.1 hE.2.1 hE.2.2.1 (fun _ => ?_) (fun q => absurd (show K p = 32 by omega) q))
  refine g_if_eq h 99 dX12_single_58 rfl (fun c => absurd c (by decide)) (fun _ => ?_)
  refine g_aload_0 h dX12_single_61 ?_
  refine g_cVv0 h rok0 mi_X12_deeper dX12_single_62 ml_X12_194 rfl rfl rfl (Nat.le_of_ble_eq_true rfl) (Nat.le_of_ble_eq_true rfl) (sp_deeper8 hE.2.1 hE.2.2.2.1.1 ?_)
  refine g_aload_0 h dX12_single_65 ?_
  refine g_dup h dX12_single_66 rfl ?_
  refine g_getI h fl_X12_118 dX12_single_67 rfl rfl ?_
  refine g_iconst h dX12_single_70 (v := nI 1) rfl ?_
  refine g_iadd h dX12_single_71 ?_
  refine g_putI h fp_X12_118 dX12_single_72 rfl rfl ?_
  refine g_aload_0 h dX12_single_75 ?_
  refine g_cVi0 h rok0 mi_X12_test dX12_single_76 ml_X12_215 rfl rfl rfl (Nat.le_of_ble_eq_true rfl) (Nat.le_of_ble_eq_true rfl) (sp_test_dd (f := p) (by omega) b2.2.1 ?_)
  refine g_istore_1 h dX12_single_79 (by decide) rfl ?_
  refine g_aload_0 h dX12_single_80 ?_
  refine g_iconst h dX12_single_81 (v := nI 4) rfl ?_
  refine g_bipush h dX12_single_82 (v := nI 93) rfl ?_
  refine g_cVv2 h rok0 mi_X12_take dX12_single_84 ml_X12_206 rfl rfl rfl (Nat.le_of_ble_eq_true rfl) (Nat.le_of_ble_eq_true rfl) (sp_take_dd (f := p) (by omega) b2.2.1 ?_)
  refine g_aload_0 h dX12_single_87 ?_
  refine g_dup h dX12_single_88 rfl ?_
  refine g_getI h fl_X12_138 dX12_single_89 rfl rfl ?_
  refine g_iconst h dX12_single_92 (v := nI 1) rfl ?_
  refine g_isub h dX12_single_93 ?_
  refine g_putI h fp_X12_138 dX12_single_94 rfl rfl ?_
  refine g_iload_1 h dX12_single_97 ?_
  refine g_iret h dX12_single_98 ?_
  have hv : (sS K mm b gs gt sm p) = (false, p, zE) := by rw [sS, if_neg (by omega), if_pos k1, hb, if_neg (by decide)]
  exact hF _ _ (by rw [hv]) (by rw [hv]; exact b2.up (Or.inr rfl))
set_option maxRecDepth 100000 in
set_option maxHeartbeats 4000000 in
theorem single_22 {K wd : Nat → Nat} {V mm : Nat → Int32} {M : Nat} {c D : Nat} {b : Bool} {gs gt sm : Nat → PRs} {p z : Nat} {x : Option (Nat × Nat)} {I : MI} {J : MJ} {P : MP} (hP : P 80 9 = some 104) (hE : rE K wd V M mm I c p z x) (k1 : K p = 22) {Q : Int32 → MI → MJ → MP → Prop} (hS : ∀ I' v z', (sS K mm b gs gt sm p).1 = true → rgE K wd V M mm I c p z x (sS K mm b gs gt sm p).2.1 z' I' → (fbd K mm ((sS K mm b gs gt sm p).2.1 - p) p = none → nd false I' z' v (sS K mm b gs gt sm p).2.2) → Q v I' J P) (hF : ∀ I' v, (sS K mm b gs gt sm p).1 = false → rB M I p z (sS K mm b gs gt sm p).2.1 I' → Q v I' J P) : Sp yX12_single cX12_single 3 (some .int) (D + 8) [.ref 80] I J P (Qi Q) := by
  intro Γ h
  show VG Γ 0 0 0 [some (.ref 80), none, none] [] _ _ _ _
  obtain ⟨M4, K45, hp, hzp, c8⟩ := hE.M4
  have hpM := K_lt2 K45 hp (by omega)
  have hE1 := hE.at hpM
  refine g_aload_0 h dX12_single_0 ?_
  refine g_iconst h dX12_single_1 (v := nI 2) rfl ?_
  refine g_bipush h dX12_single_2 (v := nI 23) rfl ?_
  refine g_cVi2 h rok0 mi_X12_is dX12_single_4 ml_X12_125 rfl rfl rfl (Nat.le_of_ble_eq_true rfl) (Nat.le_of_ble_eq_true rfl) (sp_is2 (k := 23) (by decide) hE.1 hE.2.1 hE.2.2.1 (fun q => absurd q (by omega)) (fun _ => ?_))
  refine g_if_eq h 51 dX12_single_7 rfl (fun _ => ?_) (fun c => absurd c (by decide))
  refine g_aload_0 h dX12_single_51 ?_
  refine g_iconst h dX12_single_52 (v := nI 4) rfl ?_
  refine g_bipush h dX12_single_53 (v := nI 91) rfl ?_
  refine g_cVi2 h rok0 mi_X12_is dX12_single_55 ml_X12_125 rfl rfl rfl (Nat.le_of_ble_eq_true rfl) (Nat.le_of_ble_eq_true rfl) (sgC_is (k := 32) rfl (by decide) hE.1 hE.2.1 hE.2.2.1 (fun q => absurd q (by omega)) (fun _ => ?_))
  refine g_if_eq h 99 dX12_single_58 rfl (fun _ => ?_) (fun c => absurd c (by decide))
  refine g_aload_0 h dX12_single_99 ?_
  refine g_iconst h dX12_single_100 (v := nI 2) rfl ?_
  refine g_bipush h dX12_single_101 (v := nI 22) rfl ?_
  refine g_cVi2 h rok0 mi_X12_is dX12_single_103 ml_X12_125 rfl rfl rfl (Nat.le_of_ble_eq_true rfl) (Nat.le_of_ble_eq_true rfl) (sp_is2 (k := 22) (by decide) hE.1 hE.2.1 hE.2.2.1 (fun _ => ?_) (fun q => absurd (show K p = 22 by omega) q))
  refine g_if_eq h 134 dX12_single_106 rfl (fun c => absurd c (by decide)) (fun _ => ?_)
  refine g_aload_0 h dX12_single_109 ?_
  refine g_dup h dX12_single_110 rfl ?_
  refine g_getI h fl_X12_118 dX12_single_111 rfl rfl ?_
  refine g_iconst h dX12_single_114 (v := nI 1) rfl ?_
  refine g_iadd h dX12_single_115 ?_
  refine g_putI h fp_X12_118 dX12_single_116 rfl rfl ?_
  rw [show I 80 14 + nI 1 = nI (p + 1) by rw [hE.2.1.1]; exact nI_1 p]
  refine g_aload_0 h dX12_single_119 ?_
  refine g_getP h fl_X12_91 dX12_single_120 rfl rfl (by assumption) ?_
  refine g_bipush h dX12_single_123 (v := nI 22) rfl ?_
  refine g_aload_0 h dX12_single_125 ?_
  refine g_cVi0 h rok0 mi_X12_knownTop dX12_single_126 ml_X12_188 rfl rfl rfl (Nat.le_of_ble_eq_true rfl) (Nat.le_of_ble_eq_true rfl) (sp_knownTop hP hE1 (by simp [k1]) (fun k2 I2 f2 e2 m2 => ?_) (fun k2 => ?_))
  · refine g_iconst h dX12_single_129 (v := nI 0) rfl ?_
    refine g_cVi3 h rok0 mi_X11_node dX12_single_130 ml_X12_173 rfl rfl rfl (Nat.le_of_ble_eq_true rfl) (Nat.le_of_ble_eq_true rfl) (sp_nodeW (z := z) (by omega) e2.cnt (fun I3 w3 => ?_))
    refine g_iret h dX12_single_133 ?_
    have hv : (sS K mm b gs gt sm p) = (true, p + 2, fun e => e 22 (mm (p + 1))) := by rw [sS, if_neg (by omega), if_neg (by omega), if_pos (by omega), if_pos k2]
    have hp2 := e2.M4
    refine hS _ _ (z + 1) (by rw [hv]) (by rw [hv]; exact ⟨((FRm.at (by decide) (by decide)).tr f2 (Nat.le_refl _)).tr w3.1 (Nat.le_refl _), by rw [fbd_k2 (by omega)]; exact e2.nw (by omega) w3, by omega, by show z + 1 + p ≤ z + (p + 2); omega, by show p < p + 2; omega⟩) (by
      rw [hv]
      intro hb
      rw [fbd_k2 (by omega), fbd_1] at hb
      obtain ⟨j, j1, j2⟩ := m2 (fun q => by rw [if_pos ⟨k2, q⟩] at hb; cases hb)
      rw [j2]
      obtain ⟨-, n1, n2, n3⟩ := w3.1.nvs
      exact nd_tru (by omega) w3.2.1 (w3.2.2.1.trans j2) (by omega))
  · have hv : (sS K mm b gs gt sm p) = (false, p + 1, zE) := by rw [sS, if_neg (by omega), if_neg (by omega), if_pos (by omega), if_neg k2]
    have b0 : rB M I (p + 1) z (p + 1) (up2 (up2 I 80 14 (nI (p + 1))) 80 16 (nI (p + 1))) := rB.new (FRm.at (by decide) (by decide)) hE1.cnt (Nat.le_refl _) (by omega) (Nat.le_refl _) hpM
    obtain ⟨y, y3, y4⟩ := b0.cnt (by omega) M4 (by omega) (by omega)
    refine g_iconst h dX12_single_129 (v := nI 0) rfl ?_
    refine g_cVi3 h rok0 mi_X11_node dX12_single_130 ml_X12_173 rfl rfl rfl (Nat.le_of_ble_eq_true rfl) (Nat.le_of_ble_eq_true rfl) (sp_nodeW (z := y) y4 y3 (fun I9 w9 => ?_))
    refine g_iret h dX12_single_133 ?_
    exact hF _ _ (by rw [hv]) (by rw [hv]; exact b0.nd (p := p) (Nat.le_refl _) y3 y4 (by omega) w9)
set_option maxRecDepth 100000 in
set_option maxHeartbeats 4000000 in
theorem single_s40 {K wd : Nat → Nat} {V mm : Nat → Int32} {M : Nat} {c D : Nat} {b : Bool} {gs gt sm : Nat → PRs} {p z : Nat} {x : Option (Nat × Nat)} {I : MI} {J : MJ} {P : MP} (hP : P 80 9 = some 104) (hE : rE K wd V M mm I c p z x) (k1 : ¬ K p = 23 ∧ ¬ K p = 32 ∧ ¬ K p = 22) (hG : cE K wd V M mm yX12_sum cX12_sum 3 (D + 7) c true sm) (k2 : (sm p).1 = true → K (sm p).2.1 = 40) {Q : Int32 → MI → MJ → MP → Prop} (hS : ∀ I' v z', (sS K mm b gs gt sm p).1 = true → rgE K wd V M mm I c p z x (sS K mm b gs gt sm p).2.1 z' I' → (fbd K mm ((sS K mm b gs gt sm p).2.1 - p) p = none → nd false I' z' v (sS K mm b gs gt sm p).2.2) → Q v I' J P) (hF : ∀ I' v, (sS K mm b gs gt sm p).1 = false → rB M I p z (sS K mm b gs gt sm p).2.1 I' → Q v I' J P) : Sp yX12_single cX12_single 3 (some .int) (D + 8) [.ref 80] I J P (Qi Q) := by
  intro Γ h
  show VG Γ 0 0 0 [some (.ref 80), none, none] [] _ _ _ _
  obtain ⟨M4, K45, hp, hzp, c8⟩ := hE.M4
  refine g_aload_0 h dX12_single_0 ?_
  refine g_iconst h dX12_single_1 (v := nI 2) rfl ?_
  refine g_bipush h dX12_single_2 (v := nI 23) rfl ?_
  refine g_cVi2 h rok0 mi_X12_is dX12_single_4 ml_X12_125 rfl rfl rfl (Nat.le_of_ble_eq_true rfl) (Nat.le_of_ble_eq_true rfl) (sp_is2 (k := 23) (by decide) hE.1 hE.2.1 hE.2.2.1 (fun q => absurd q (by omega)) (fun _ => ?_))
  refine g_if_eq h 51 dX12_single_7 rfl (fun _ => ?_) (fun c => absurd c (by decide))
  refine g_aload_0 h dX12_single_51 ?_
  refine g_iconst h dX12_single_52 (v := nI 4) rfl ?_
  refine g_bipush h dX12_single_53 (v := nI 91) rfl ?_
  refine g_cVi2 h rok0 mi_X12_is dX12_single_55 ml_X12_125 rfl rfl rfl (Nat.le_of_ble_eq_true rfl) (Nat.le_of_ble_eq_true rfl) (sgC_is (k := 32) rfl (by decide) hE.1 hE.2.1 hE.2.2.1 (fun q => absurd q (by omega)) (fun _ => ?_))
  refine g_if_eq h 99 dX12_single_58 rfl (fun _ => ?_) (fun c => absurd c (by decide))
  refine g_aload_0 h dX12_single_99 ?_
  refine g_iconst h dX12_single_100 (v := nI 2) rfl ?_
  refine g_bipush h dX12_single_101 (v := nI 22) rfl ?_
  refine g_cVi2 h rok0 mi_X12_is dX12_single_103 ml_X12_125 rfl rfl rfl (Nat.le_of_ble_eq_true rfl) (Nat.le_of_ble_eq_true rfl) (sp_is2 (k := 22) (by decide) hE.1 hE.2.1 hE.2.2.1 (fun q => absurd q (by omega)) (fun _ => ?_))
  refine g_if_eq h 134 dX12_single_106 rfl (fun _ => ?_) (fun c => absurd c (by decide))
  refine g_aload_0 h dX12_single_134 ?_
  refine g_cVi0 h rok0 mi_X12_sum dX12_single_135 ml_X12_203 rfl rfl rfl (Nat.le_of_ble_eq_true rfl) (Nat.le_of_ble_eq_true rfl) (hG p z _ _ J P hP hE (fun I2 v2 z2 e2 q2 n2 => ?_) (fun I2 v2 e2 b2 => ?_))
  · obtain ⟨t1, t2, t3, t4, t5⟩ := id q2
    have t6 := t2.M4
    have k2 := k2 e2
    refine g_istore_1 h dX12_single_138 (by decide) rfl ?_
    refine g_aload_0 h dX12_single_139 ?_
    refine g_iconst h dX12_single_140 (v := nI 4) rfl ?_
    refine g_bipush h dX12_single_141 (v := nI 60) rfl ?_
    refine g_cVi2 h rok0 mi_X12_is dX12_single_143 ml_X12_125 rfl rfl rfl (Nat.le_of_ble_eq_true rfl) (Nat.le_of_ble_eq_true rfl) (sgC_is (k := 40) rfl (by decide) t2.1 t2.2.1 t2.2.2.1 (fun _ => ?_) (fun q => absurd (show K (sm p).2.1 = 40 by omega) q))
    refine g_if_ne h 195 dX12_single_146 rfl (fun _ => ?_) (fun c => absurd c (by decide))
    refine g_aload_0 h dX12_single_195 ?_
    refine g_getC h fl_X12_42 dX12_single_196 rfl rfl ?_
    refine g_aload_0 h dX12_single_199 ?_
    refine g_getI h fl_X12_118 dX12_single_200 rfl rfl ?_
    refine g_iald h (sm p).2.1 dX12_single_203 rfl t2.2.1.1 (by omega) ?_
    rw [show I2 83 (sm p).2.1 = nI 60 by rw [t2.val (by omega), k2]; rfl]
    refine g_istore_2 h dX12_single_204 (by decide) rfl ?_
    refine g_aload_0 h dX12_single_205 ?_
    refine g_dup h dX12_single_206 rfl ?_
    refine g_getI h fl_X12_118 dX12_single_207 rfl rfl ?_
    refine g_iconst h dX12_single_210 (v := nI 1) rfl ?_
    refine g_iadd h dX12_single_211 ?_
    refine g_putI h fp_X12_118 dX12_single_212 rfl rfl ?_
    rw [show I2 80 14 + nI 1 = nI ((sm p).2.1 + 1) by rw [t2.2.1.1]; exact nI_1 (sm p).2.1]
    have p2M := K_lt2 K45 t6.2.2.1 (by omega)
    refine g_aload_0 h dX12_single_215 ?_
    refine g_getP h fl_X12_91 dX12_single_216 rfl rfl (by assumption) ?_
    refine g_iload_2 h dX12_single_219 ?_
    refine g_iload_1 h dX12_single_220 ?_
    refine g_aload_0 h dX12_single_221 ?_
    refine g_cVi0 h rok0 mi_X12_sum dX12_single_222 ml_X12_203 rfl rfl rfl (Nat.le_of_ble_eq_true rfl) (Nat.le_of_ble_eq_true rfl) (hG ((sm p).2.1 + 1) z2 _ _ J P hP (t2.at p2M) (fun I4 v4 z4 e4 q4 n4 => ?_) (fun I4 v4 e4 b4 => ?_))
    · obtain ⟨-, -, u3, u4, u5⟩ := id q4
      have u6 := q4.2.1.M4
      refine g_cVi3 h rok0 mi_X11_node dX12_single_225 ml_X12_173 rfl rfl rfl (Nat.le_of_ble_eq_true rfl) (Nat.le_of_ble_eq_true rfl) (sp_nodeW (z := z4) (by omega) q4.2.1.cnt (fun I5 w5 => ?_))
      refine g_iret h dX12_single_228 ?_
      have hv : (sS K mm b gs gt sm p) = (true, (sm ((sm p).2.1 + 1)).2.1, joE (K (sm p).2.1) (sm p).2.2 (sm ((sm p).2.1 + 1)).2.2) := by rw [sS, if_neg (by omega), if_neg (by omega), if_neg (by omega), if_pos e2, if_pos (by omega), e4]
      obtain ⟨s1, s2, s3, s4, s5⟩ := q2.st (by omega) q4 w5
      refine hS _ _ (z4 + 1) (by rw [hv]) (by rw [hv]; exact s1) (by
        rw [hv]
        intro hb
        rw [s2] at hb
        obtain ⟨h1, h2⟩ := Option.or_eq_none_iff.mp hb
        exact nd_cmp (k := K (sm p).2.1) (by rw [k2]; simp [tsK]) ((n2 h1).mv s3 u3) ((n4 h2).mv s4 (Nat.le_refl _)) (Nat.le_refl _) (Nat.le_refl _) (by omega) w5.2.1 w5.2.2.1 w5.2.2.2.1)
    · obtain ⟨y, y3, y4⟩ := b4.cnt (by omega) M4 (by omega) (by omega)
      refine g_cVi3 h rok0 mi_X11_node dX12_single_225 ml_X12_173 rfl rfl rfl (Nat.le_of_ble_eq_true rfl) (Nat.le_of_ble_eq_true rfl) (sp_nodeW (z := y) y4 y3 (fun I9 w9 => ?_))
      refine g_iret h dX12_single_228 ?_
      have hv : (sS K mm b gs gt sm p) = (false, (sm ((sm p).2.1 + 1)).2.1, joE (K (sm p).2.1) (sm p).2.2 (sm ((sm p).2.1 + 1)).2.2) := by rw [sS, if_neg (by omega), if_neg (by omega), if_neg (by omega), if_pos e2, if_pos (by omega), e4]
      exact hF _ _ (by rw [hv]) (by rw [hv]; exact rB.st q2 b4 y3 y4 w9)
  · have t6 := b2.2.2.2.1
    refine g_istore_1 h dX12_single_138 (by decide) rfl ?_
    refine g_aload_0 h dX12_single_139 ?_
    refine g_iconst h dX12_single_140 (v := nI 4) rfl ?_
    refine g_bipush h dX12_single_141 (v := nI 60) rfl ?_
    refine g_cVi2 h rok0 mi_X12_is dX12_single_143 ml_X12_125 rfl rfl rfl (Nat.le_of_ble_eq_true rfl) (Nat.le_of_ble_eq_true rfl) (sp_is_dd (f := (sm p).2.1) (by omega) b2.2.1 ?_)
    refine g_if_ne h 195 dX12_single_146 rfl (fun c => absurd c (by decide)) (fun _ => ?_)
    refine g_aload_0 h dX12_single_149 ?_
    refine g_iconst h dX12_single_150 (v := nI 4) rfl ?_
    refine g_bipush h dX12_single_151 (v := nI 62) rfl ?_
    refine g_cVi2 h rok0 mi_X12_is dX12_single_153 ml_X12_125 rfl rfl rfl (Nat.le_of_ble_eq_true rfl) (Nat.le_of_ble_eq_true rfl) (sp_is_dd (f := (sm p).2.1) (by omega) b2.2.1 ?_)
    refine g_if_ne h 195 dX12_single_156 rfl (fun c => absurd c (by decide)) (fun _ => ?_)
    refine g_aload_0 h dX12_single_159 ?_
    refine g_iconst h dX12_single_160 (v := nI 4) rfl ?_
    refine g_bipush h dX12_single_161 (v := nI 61) rfl ?_
    refine g_cVi2 h rok0 mi_X12_is dX12_single_163 ml_X12_125 rfl rfl rfl (Nat.le_of_ble_eq_true rfl) (Nat.le_of_ble_eq_true rfl) (sp_is_dd (f := (sm p).2.1) (by omega) b2.2.1 ?_)
    refine g_if_ne h 195 dX12_single_166 rfl (fun c => absurd c (by decide)) (fun _ => ?_)
    refine g_aload_0 h dX12_single_169 ?_
    refine g_iconst h dX12_single_170 (v := nI 4) rfl ?_
    refine g_bipush h dX12_single_171 (v := nI 108) rfl ?_
    refine g_cVi2 h rok0 mi_X12_is dX12_single_173 ml_X12_125 rfl rfl rfl (Nat.le_of_ble_eq_true rfl) (Nat.le_of_ble_eq_true rfl) (sp_is_dd (f := (sm p).2.1) (by omega) b2.2.1 ?_)
    refine g_if_ne h 195 dX12_single_176 rfl (fun c => absurd c (by decide)) (fun _ => ?_)
    refine g_aload_0 h dX12_single_179 ?_
    refine g_iconst h dX12_single_180 (v := nI 4) rfl ?_
    refine g_bipush h dX12_single_181 (v := nI 103) rfl ?_
    refine g_cVi2 h rok0 mi_X12_is dX12_single_183 ml_X12_125 rfl rfl rfl (Nat.le_of_ble_eq_true rfl) (Nat.le_of_ble_eq_true rfl) (sp_is_dd (f := (sm p).2.1) (by omega) b2.2.1 ?_)
    refine g_if_ne h 195 dX12_single_186 rfl (fun c => absurd c (by decide)) (fun _ => ?_)
    refine g_aload_0 h dX12_single_189 ?_
    refine g_cVv0 h rok0 mi_X12_fail dX12_single_190 ml_X12_129 rfl rfl rfl (Nat.le_of_ble_eq_true rfl) (Nat.le_of_ble_eq_true rfl) (sp_fail_dd (f := (sm p).2.1) (by omega) b2.2.1 ?_)
    refine g_iconst h dX12_single_193 (v := nI 0) rfl ?_
    refine g_iret h dX12_single_194 ?_
    have hv : (sS K mm b gs gt sm p) = (false, (sm p).2.1, zE) := by rw [sS, if_neg (by omega), if_neg (by omega), if_neg (by omega), if_neg (by rw [e2]; decide)]
    exact hF _ _ (by rw [hv]) (by rw [hv]; exact b2)
set_option maxRecDepth 100000 in
set_option maxHeartbeats 4000000 in
theorem single_s41 {K wd : Nat → Nat} {V mm : Nat → Int32} {M : Nat} {c D : Nat} {b : Bool} {gs gt sm : Nat → PRs} {p z : Nat} {x : Option (Nat × Nat)} {I : MI} {J : MJ} {P : MP} (hP : P 80 9 = some 104) (hE : rE K wd V M mm I c p z x) (k1 : ¬ K p = 23 ∧ ¬ K p = 32 ∧ ¬ K p = 22) (hG : cE K wd V M mm yX12_sum cX12_sum 3 (D + 7) c true sm) (k2 : (sm p).1 = true → K (sm p).2.1 = 41) {Q : Int32 → MI → MJ → MP → Prop} (hS : ∀ I' v z', (sS K mm b gs gt sm p).1 = true → rgE K wd V M mm I c p z x (sS K mm b gs gt sm p).2.1 z' I' → (fbd K mm ((sS K mm b gs gt sm p).2.1 - p) p = none → nd false I' z' v (sS K mm b gs gt sm p).2.2) → Q v I' J P) (hF : ∀ I' v, (sS K mm b gs gt sm p).1 = false → rB M I p z (sS K mm b gs gt sm p).2.1 I' → Q v I' J P) : Sp yX12_single cX12_single 3 (some .int) (D + 8) [.ref 80] I J P (Qi Q) := by
  intro Γ h
  show VG Γ 0 0 0 [some (.ref 80), none, none] [] _ _ _ _
  obtain ⟨M4, K45, hp, hzp, c8⟩ := hE.M4
  refine g_aload_0 h dX12_single_0 ?_
  refine g_iconst h dX12_single_1 (v := nI 2) rfl ?_
  refine g_bipush h dX12_single_2 (v := nI 23) rfl ?_
  refine g_cVi2 h rok0 mi_X12_is dX12_single_4 ml_X12_125 rfl rfl rfl (Nat.le_of_ble_eq_true rfl) (Nat.le_of_ble_eq_true rfl) (sp_is2 (k := 23) (by decide) hE.1 hE.2.1 hE.2.2.1 (fun q => absurd q (by omega)) (fun _ => ?_))
  refine g_if_eq h 51 dX12_single_7 rfl (fun _ => ?_) (fun c => absurd c (by decide))
  refine g_aload_0 h dX12_single_51 ?_
  refine g_iconst h dX12_single_52 (v := nI 4) rfl ?_
  refine g_bipush h dX12_single_53 (v := nI 91) rfl ?_
  refine g_cVi2 h rok0 mi_X12_is dX12_single_55 ml_X12_125 rfl rfl rfl (Nat.le_of_ble_eq_true rfl) (Nat.le_of_ble_eq_true rfl) (sgC_is (k := 32) rfl (by decide) hE.1 hE.2.1 hE.2.2.1 (fun q => absurd q (by omega)) (fun _ => ?_))
  refine g_if_eq h 99 dX12_single_58 rfl (fun _ => ?_) (fun c => absurd c (by decide))
  refine g_aload_0 h dX12_single_99 ?_
  refine g_iconst h dX12_single_100 (v := nI 2) rfl ?_
  refine g_bipush h dX12_single_101 (v := nI 22) rfl ?_
  refine g_cVi2 h rok0 mi_X12_is dX12_single_103 ml_X12_125 rfl rfl rfl (Nat.le_of_ble_eq_true rfl) (Nat.le_of_ble_eq_true rfl) (sp_is2 (k := 22) (by decide) hE.1 hE.2.1 hE.2.2.1 (fun q => absurd q (by omega)) (fun _ => ?_))
  refine g_if_eq h 134 dX12_single_106 rfl (fun _ => ?_) (fun c => absurd c (by decide))
  refine g_aload_0 h dX12_single_134 ?_
  refine g_cVi0 h rok0 mi_X12_sum dX12_single_135 ml_X12_203 rfl rfl rfl (Nat.le_of_ble_eq_true rfl) (Nat.le_of_ble_eq_true rfl) (hG p z _ _ J P hP hE (fun I2 v2 z2 e2 q2 n2 => ?_) (fun I2 v2 e2 b2 => ?_))
  · obtain ⟨t1, t2, t3, t4, t5⟩ := id q2
    have t6 := t2.M4
    have k2 := k2 e2
    refine g_istore_1 h dX12_single_138 (by decide) rfl ?_
    refine g_aload_0 h dX12_single_139 ?_
    refine g_iconst h dX12_single_140 (v := nI 4) rfl ?_
    refine g_bipush h dX12_single_141 (v := nI 60) rfl ?_
    refine g_cVi2 h rok0 mi_X12_is dX12_single_143 ml_X12_125 rfl rfl rfl (Nat.le_of_ble_eq_true rfl) (Nat.le_of_ble_eq_true rfl) (sgC_is (k := 40) rfl (by decide) t2.1 t2.2.1 t2.2.2.1 (fun q => absurd q (by omega)) (fun _ => ?_))
    refine g_if_ne h 195 dX12_single_146 rfl (fun c => absurd c (by decide)) (fun _ => ?_)
    refine g_aload_0 h dX12_single_149 ?_
    refine g_iconst h dX12_single_150 (v := nI 4) rfl ?_
    refine g_bipush h dX12_single_151 (v := nI 62) rfl ?_
    refine g_cVi2 h rok0 mi_X12_is dX12_single_153 ml_X12_125 rfl rfl rfl (Nat.le_of_ble_eq_true rfl) (Nat.le_of_ble_eq_true rfl) (sgC_is (k := 41) rfl (by decide) t2.1 t2.2.1 t2.2.2.1 (fun _ => ?_) (fun q => absurd (show K (sm p).2.1 = 41 by omega) q))
    refine g_if_ne h 195 dX12_single_156 rfl (fun _ => ?_) (fun c => absurd c (by decide))
    refine g_aload_0 h dX12_single_195 ?_
    refine g_getC h fl_X12_42 dX12_single_196 rfl rfl ?_
    refine g_aload_0 h dX12_single_199 ?_
    refine g_getI h fl_X12_118 dX12_single_200 rfl rfl ?_
    refine g_iald h (sm p).2.1 dX12_single_203 rfl t2.2.1.1 (by omega) ?_
    rw [show I2 83 (sm p).2.1 = nI 62 by rw [t2.val (by omega), k2]; rfl]
    refine g_istore_2 h dX12_single_204 (by decide) rfl ?_
    refine g_aload_0 h dX12_single_205 ?_
    refine g_dup h dX12_single_206 rfl ?_
    refine g_getI h fl_X12_118 dX12_single_207 rfl rfl ?_
    refine g_iconst h dX12_single_210 (v := nI 1) rfl ?_
    refine g_iadd h dX12_single_211 ?_
    refine g_putI h fp_X12_118 dX12_single_212 rfl rfl ?_
    rw [show I2 80 14 + nI 1 = nI ((sm p).2.1 + 1) by rw [t2.2.1.1]; exact nI_1 (sm p).2.1]
    have p2M := K_lt2 K45 t6.2.2.1 (by omega)
    refine g_aload_0 h dX12_single_215 ?_
    refine g_getP h fl_X12_91 dX12_single_216 rfl rfl (by assumption) ?_
    refine g_iload_2 h dX12_single_219 ?_
    refine g_iload_1 h dX12_single_220 ?_
    refine g_aload_0 h dX12_single_221 ?_
    refine g_cVi0 h rok0 mi_X12_sum dX12_single_222 ml_X12_203 rfl rfl rfl (Nat.le_of_ble_eq_true rfl) (Nat.le_of_ble_eq_true rfl) (hG ((sm p).2.1 + 1) z2 _ _ J P hP (t2.at p2M) (fun I4 v4 z4 e4 q4 n4 => ?_) (fun I4 v4 e4 b4 => ?_))
    · obtain ⟨-, -, u3, u4, u5⟩ := id q4
      have u6 := q4.2.1.M4
      refine g_cVi3 h rok0 mi_X11_node dX12_single_225 ml_X12_173 rfl rfl rfl (Nat.le_of_ble_eq_true rfl) (Nat.le_of_ble_eq_true rfl) (sp_nodeW (z := z4) (by omega) q4.2.1.cnt (fun I5 w5 => ?_))
      refine g_iret h dX12_single_228 ?_
      have hv : (sS K mm b gs gt sm p) = (true, (sm ((sm p).2.1 + 1)).2.1, joE (K (sm p).2.1) (sm p).2.2 (sm ((sm p).2.1 + 1)).2.2) := by rw [sS, if_neg (by omega), if_neg (by omega), if_neg (by omega), if_pos e2, if_pos (by omega), e4]
      obtain ⟨s1, s2, s3, s4, s5⟩ := q2.st (by omega) q4 w5
      refine hS _ _ (z4 + 1) (by rw [hv]) (by rw [hv]; exact s1) (by
        rw [hv]
        intro hb
        rw [s2] at hb
        obtain ⟨h1, h2⟩ := Option.or_eq_none_iff.mp hb
        exact nd_cmp (k := K (sm p).2.1) (by rw [k2]; simp [tsK]) ((n2 h1).mv s3 u3) ((n4 h2).mv s4 (Nat.le_refl _)) (Nat.le_refl _) (Nat.le_refl _) (by omega) w5.2.1 w5.2.2.1 w5.2.2.2.1)
    · obtain ⟨y, y3, y4⟩ := b4.cnt (by omega) M4 (by omega) (by omega)
      refine g_cVi3 h rok0 mi_X11_node dX12_single_225 ml_X12_173 rfl rfl rfl (Nat.le_of_ble_eq_true rfl) (Nat.le_of_ble_eq_true rfl) (sp_nodeW (z := y) y4 y3 (fun I9 w9 => ?_))
      refine g_iret h dX12_single_228 ?_
      have hv : (sS K mm b gs gt sm p) = (false, (sm ((sm p).2.1 + 1)).2.1, joE (K (sm p).2.1) (sm p).2.2 (sm ((sm p).2.1 + 1)).2.2) := by rw [sS, if_neg (by omega), if_neg (by omega), if_neg (by omega), if_pos e2, if_pos (by omega), e4]
      exact hF _ _ (by rw [hv]) (by rw [hv]; exact rB.st q2 b4 y3 y4 w9)
  · have t6 := b2.2.2.2.1
    refine g_istore_1 h dX12_single_138 (by decide) rfl ?_
    refine g_aload_0 h dX12_single_139 ?_
    refine g_iconst h dX12_single_140 (v := nI 4) rfl ?_
    refine g_bipush h dX12_single_141 (v := nI 60) rfl ?_
    refine g_cVi2 h rok0 mi_X12_is dX12_single_143 ml_X12_125 rfl rfl rfl (Nat.le_of_ble_eq_true rfl) (Nat.le_of_ble_eq_true rfl) (sp_is_dd (f := (sm p).2.1) (by omega) b2.2.1 ?_)
    refine g_if_ne h 195 dX12_single_146 rfl (fun c => absurd c (by decide)) (fun _ => ?_)
    refine g_aload_0 h dX12_single_149 ?_
    refine g_iconst h dX12_single_150 (v := nI 4) rfl ?_
    refine g_bipush h dX12_single_151 (v := nI 62) rfl ?_
    refine g_cVi2 h rok0 mi_X12_is dX12_single_153 ml_X12_125 rfl rfl rfl (Nat.le_of_ble_eq_true rfl) (Nat.le_of_ble_eq_true rfl) (sp_is_dd (f := (sm p).2.1) (by omega) b2.2.1 ?_)
    refine g_if_ne h 195 dX12_single_156 rfl (fun c => absurd c (by decide)) (fun _ => ?_)
    refine g_aload_0 h dX12_single_159 ?_
    refine g_iconst h dX12_single_160 (v := nI 4) rfl ?_
    refine g_bipush h dX12_single_161 (v := nI 61) rfl ?_
    refine g_cVi2 h rok0 mi_X12_is dX12_single_163 ml_X12_125 rfl rfl rfl (Nat.le_of_ble_eq_true rfl) (Nat.le_of_ble_eq_true rfl) (sp_is_dd (f := (sm p).2.1) (by omega) b2.2.1 ?_)
    refine g_if_ne h 195 dX12_single_166 rfl (fun c => absurd c (by decide)) (fun _ => ?_)
    refine g_aload_0 h dX12_single_169 ?_
    refine g_iconst h dX12_single_170 (v := nI 4) rfl ?_
    refine g_bipush h dX12_single_171 (v := nI 108) rfl ?_
    refine g_cVi2 h rok0 mi_X12_is dX12_single_173 ml_X12_125 rfl rfl rfl (Nat.le_of_ble_eq_true rfl) (Nat.le_of_ble_eq_true rfl) (sp_is_dd (f := (sm p).2.1) (by omega) b2.2.1 ?_)
    refine g_if_ne h 195 dX12_single_176 rfl (fun c => absurd c (by decide)) (fun _ => ?_)
    refine g_aload_0 h dX12_single_179 ?_
    refine g_iconst h dX12_single_180 (v := nI 4) rfl ?_
    refine g_bipush h dX12_single_181 (v := nI 103) rfl ?_
    refine g_cVi2 h rok0 mi_X12_is dX12_single_183 ml_X12_125 rfl rfl rfl (Nat.le_of_ble_eq_true rfl) (Nat.le_of_ble_eq_true rfl) (sp_is_dd (f := (sm p).2.1) (by omega) b2.2.1 ?_)
    refine g_if_ne h 195 dX12_single_186 rfl (fun c => absurd c (by decide)) (fun _ => ?_)
    refine g_aload_0 h dX12_single_189 ?_
    refine g_cVv0 h rok0 mi_X12_fail dX12_single_190 ml_X12_129 rfl rfl rfl (Nat.le_of_ble_eq_true rfl) (Nat.le_of_ble_eq_true rfl) (sp_fail_dd (f := (sm p).2.1) (by omega) b2.2.1 ?_)
    refine g_iconst h dX12_single_193 (v := nI 0) rfl ?_
    refine g_iret h dX12_single_194 ?_
    have hv : (sS K mm b gs gt sm p) = (false, (sm p).2.1, zE) := by rw [sS, if_neg (by omega), if_neg (by omega), if_neg (by omega), if_neg (by rw [e2]; decide)]
    exact hF _ _ (by rw [hv]) (by rw [hv]; exact b2)
set_option maxRecDepth 100000 in
set_option maxHeartbeats 4000000 in
theorem single_s42 {K wd : Nat → Nat} {V mm : Nat → Int32} {M : Nat} {c D : Nat} {b : Bool} {gs gt sm : Nat → PRs} {p z : Nat} {x : Option (Nat × Nat)} {I : MI} {J : MJ} {P : MP} (hP : P 80 9 = some 104) (hE : rE K wd V M mm I c p z x) (k1 : ¬ K p = 23 ∧ ¬ K p = 32 ∧ ¬ K p = 22) (hG : cE K wd V M mm yX12_sum cX12_sum 3 (D + 7) c true sm) (k2 : (sm p).1 = true → K (sm p).2.1 = 42) {Q : Int32 → MI → MJ → MP → Prop} (hS : ∀ I' v z', (sS K mm b gs gt sm p).1 = true → rgE K wd V M mm I c p z x (sS K mm b gs gt sm p).2.1 z' I' → (fbd K mm ((sS K mm b gs gt sm p).2.1 - p) p = none → nd false I' z' v (sS K mm b gs gt sm p).2.2) → Q v I' J P) (hF : ∀ I' v, (sS K mm b gs gt sm p).1 = false → rB M I p z (sS K mm b gs gt sm p).2.1 I' → Q v I' J P) : Sp yX12_single cX12_single 3 (some .int) (D + 8) [.ref 80] I J P (Qi Q) := by
  intro Γ h
  show VG Γ 0 0 0 [some (.ref 80), none, none] [] _ _ _ _
  obtain ⟨M4, K45, hp, hzp, c8⟩ := hE.M4
  refine g_aload_0 h dX12_single_0 ?_
  refine g_iconst h dX12_single_1 (v := nI 2) rfl ?_
  refine g_bipush h dX12_single_2 (v := nI 23) rfl ?_
  refine g_cVi2 h rok0 mi_X12_is dX12_single_4 ml_X12_125 rfl rfl rfl (Nat.le_of_ble_eq_true rfl) (Nat.le_of_ble_eq_true rfl) (sp_is2 (k := 23) (by decide) hE.1 hE.2.1 hE.2.2.1 (fun q => absurd q (by omega)) (fun _ => ?_))
  refine g_if_eq h 51 dX12_single_7 rfl (fun _ => ?_) (fun c => absurd c (by decide))
  refine g_aload_0 h dX12_single_51 ?_
  refine g_iconst h dX12_single_52 (v := nI 4) rfl ?_
  refine g_bipush h dX12_single_53 (v := nI 91) rfl ?_
  refine g_cVi2 h rok0 mi_X12_is dX12_single_55 ml_X12_125 rfl rfl rfl (Nat.le_of_ble_eq_true rfl) (Nat.le_of_ble_eq_true rfl) (sgC_is (k := 32) rfl (by decide) hE.1 hE.2.1 hE.2.2.1 (fun q => absurd q (by omega)) (fun _ => ?_))
  refine g_if_eq h 99 dX12_single_58 rfl (fun _ => ?_) (fun c => absurd c (by decide))
  refine g_aload_0 h dX12_single_99 ?_
  refine g_iconst h dX12_single_100 (v := nI 2) rfl ?_
  refine g_bipush h dX12_single_101 (v := nI 22) rfl ?_
  refine g_cVi2 h rok0 mi_X12_is dX12_single_103 ml_X12_125 rfl rfl rfl (Nat.le_of_ble_eq_true rfl) (Nat.le_of_ble_eq_true rfl) (sp_is2 (k := 22) (by decide) hE.1 hE.2.1 hE.2.2.1 (fun q => absurd q (by omega)) (fun _ => ?_))
  refine g_if_eq h 134 dX12_single_106 rfl (fun _ => ?_) (fun c => absurd c (by decide))
  refine g_aload_0 h dX12_single_134 ?_
  refine g_cVi0 h rok0 mi_X12_sum dX12_single_135 ml_X12_203 rfl rfl rfl (Nat.le_of_ble_eq_true rfl) (Nat.le_of_ble_eq_true rfl) (hG p z _ _ J P hP hE (fun I2 v2 z2 e2 q2 n2 => ?_) (fun I2 v2 e2 b2 => ?_))
  · obtain ⟨t1, t2, t3, t4, t5⟩ := id q2
    have t6 := t2.M4
    have k2 := k2 e2
    refine g_istore_1 h dX12_single_138 (by decide) rfl ?_
    refine g_aload_0 h dX12_single_139 ?_
    refine g_iconst h dX12_single_140 (v := nI 4) rfl ?_
    refine g_bipush h dX12_single_141 (v := nI 60) rfl ?_
    refine g_cVi2 h rok0 mi_X12_is dX12_single_143 ml_X12_125 rfl rfl rfl (Nat.le_of_ble_eq_true rfl) (Nat.le_of_ble_eq_true rfl) (sgC_is (k := 40) rfl (by decide) t2.1 t2.2.1 t2.2.2.1 (fun q => absurd q (by omega)) (fun _ => ?_))
    refine g_if_ne h 195 dX12_single_146 rfl (fun c => absurd c (by decide)) (fun _ => ?_)
    refine g_aload_0 h dX12_single_149 ?_
    refine g_iconst h dX12_single_150 (v := nI 4) rfl ?_
    refine g_bipush h dX12_single_151 (v := nI 62) rfl ?_
    refine g_cVi2 h rok0 mi_X12_is dX12_single_153 ml_X12_125 rfl rfl rfl (Nat.le_of_ble_eq_true rfl) (Nat.le_of_ble_eq_true rfl) (sgC_is (k := 41) rfl (by decide) t2.1 t2.2.1 t2.2.2.1 (fun q => absurd q (by omega)) (fun _ => ?_))
    refine g_if_ne h 195 dX12_single_156 rfl (fun c => absurd c (by decide)) (fun _ => ?_)
    refine g_aload_0 h dX12_single_159 ?_
    refine g_iconst h dX12_single_160 (v := nI 4) rfl ?_
    refine g_bipush h dX12_single_161 (v := nI 61) rfl ?_
    refine g_cVi2 h rok0 mi_X12_is dX12_single_163 ml_X12_125 rfl rfl rfl (Nat.le_of_ble_eq_true rfl) (Nat.le_of_ble_eq_true rfl) (sgC_is (k := 42) rfl (by decide) t2.1 t2.2.1 t2.2.2.1 (fun _ => ?_) (fun q => absurd (show K (sm p).2.1 = 42 by omega) q))
    refine g_if_ne h 195 dX12_single_166 rfl (fun _ => ?_) (fun c => absurd c (by decide))
    refine g_aload_0 h dX12_single_195 ?_
    refine g_getC h fl_X12_42 dX12_single_196 rfl rfl ?_
    refine g_aload_0 h dX12_single_199 ?_
    refine g_getI h fl_X12_118 dX12_single_200 rfl rfl ?_
    refine g_iald h (sm p).2.1 dX12_single_203 rfl t2.2.1.1 (by omega) ?_
    rw [show I2 83 (sm p).2.1 = nI 61 by rw [t2.val (by omega), k2]; rfl]
    refine g_istore_2 h dX12_single_204 (by decide) rfl ?_
    refine g_aload_0 h dX12_single_205 ?_
    refine g_dup h dX12_single_206 rfl ?_
    refine g_getI h fl_X12_118 dX12_single_207 rfl rfl ?_
    refine g_iconst h dX12_single_210 (v := nI 1) rfl ?_
    refine g_iadd h dX12_single_211 ?_
    refine g_putI h fp_X12_118 dX12_single_212 rfl rfl ?_
    rw [show I2 80 14 + nI 1 = nI ((sm p).2.1 + 1) by rw [t2.2.1.1]; exact nI_1 (sm p).2.1]
    have p2M := K_lt2 K45 t6.2.2.1 (by omega)
    refine g_aload_0 h dX12_single_215 ?_
    refine g_getP h fl_X12_91 dX12_single_216 rfl rfl (by assumption) ?_
    refine g_iload_2 h dX12_single_219 ?_
    refine g_iload_1 h dX12_single_220 ?_
    refine g_aload_0 h dX12_single_221 ?_
    refine g_cVi0 h rok0 mi_X12_sum dX12_single_222 ml_X12_203 rfl rfl rfl (Nat.le_of_ble_eq_true rfl) (Nat.le_of_ble_eq_true rfl) (hG ((sm p).2.1 + 1) z2 _ _ J P hP (t2.at p2M) (fun I4 v4 z4 e4 q4 n4 => ?_) (fun I4 v4 e4 b4 => ?_))
    · obtain ⟨-, -, u3, u4, u5⟩ := id q4
      have u6 := q4.2.1.M4
      refine g_cVi3 h rok0 mi_X11_node dX12_single_225 ml_X12_173 rfl rfl rfl (Nat.le_of_ble_eq_true rfl) (Nat.le_of_ble_eq_true rfl) (sp_nodeW (z := z4) (by omega) q4.2.1.cnt (fun I5 w5 => ?_))
      refine g_iret h dX12_single_228 ?_
      have hv : (sS K mm b gs gt sm p) = (true, (sm ((sm p).2.1 + 1)).2.1, joE (K (sm p).2.1) (sm p).2.2 (sm ((sm p).2.1 + 1)).2.2) := by rw [sS, if_neg (by omega), if_neg (by omega), if_neg (by omega), if_pos e2, if_pos (by omega), e4]
      obtain ⟨s1, s2, s3, s4, s5⟩ := q2.st (by omega) q4 w5
      refine hS _ _ (z4 + 1) (by rw [hv]) (by rw [hv]; exact s1) (by
        rw [hv]
        intro hb
        rw [s2] at hb
        obtain ⟨h1, h2⟩ := Option.or_eq_none_iff.mp hb
        exact nd_cmp (k := K (sm p).2.1) (by rw [k2]; simp [tsK]) ((n2 h1).mv s3 u3) ((n4 h2).mv s4 (Nat.le_refl _)) (Nat.le_refl _) (Nat.le_refl _) (by omega) w5.2.1 w5.2.2.1 w5.2.2.2.1)
    · obtain ⟨y, y3, y4⟩ := b4.cnt (by omega) M4 (by omega) (by omega)
      refine g_cVi3 h rok0 mi_X11_node dX12_single_225 ml_X12_173 rfl rfl rfl (Nat.le_of_ble_eq_true rfl) (Nat.le_of_ble_eq_true rfl) (sp_nodeW (z := y) y4 y3 (fun I9 w9 => ?_))
      refine g_iret h dX12_single_228 ?_
      have hv : (sS K mm b gs gt sm p) = (false, (sm ((sm p).2.1 + 1)).2.1, joE (K (sm p).2.1) (sm p).2.2 (sm ((sm p).2.1 + 1)).2.2) := by rw [sS, if_neg (by omega), if_neg (by omega), if_neg (by omega), if_pos e2, if_pos (by omega), e4]
      exact hF _ _ (by rw [hv]) (by rw [hv]; exact rB.st q2 b4 y3 y4 w9)
  · have t6 := b2.2.2.2.1
    refine g_istore_1 h dX12_single_138 (by decide) rfl ?_
    refine g_aload_0 h dX12_single_139 ?_
    refine g_iconst h dX12_single_140 (v := nI 4) rfl ?_
    refine g_bipush h dX12_single_141 (v := nI 60) rfl ?_
    refine g_cVi2 h rok0 mi_X12_is dX12_single_143 ml_X12_125 rfl rfl rfl (Nat.le_of_ble_eq_true rfl) (Nat.le_of_ble_eq_true rfl) (sp_is_dd (f := (sm p).2.1) (by omega) b2.2.1 ?_)
    refine g_if_ne h 195 dX12_single_146 rfl (fun c => absurd c (by decide)) (fun _ => ?_)
    refine g_aload_0 h dX12_single_149 ?_
    refine g_iconst h dX12_single_150 (v := nI 4) rfl ?_
    refine g_bipush h dX12_single_151 (v := nI 62) rfl ?_
    refine g_cVi2 h rok0 mi_X12_is dX12_single_153 ml_X12_125 rfl rfl rfl (Nat.le_of_ble_eq_true rfl) (Nat.le_of_ble_eq_true rfl) (sp_is_dd (f := (sm p).2.1) (by omega) b2.2.1 ?_)
    refine g_if_ne h 195 dX12_single_156 rfl (fun c => absurd c (by decide)) (fun _ => ?_)
    refine g_aload_0 h dX12_single_159 ?_
    refine g_iconst h dX12_single_160 (v := nI 4) rfl ?_
    refine g_bipush h dX12_single_161 (v := nI 61) rfl ?_
    refine g_cVi2 h rok0 mi_X12_is dX12_single_163 ml_X12_125 rfl rfl rfl (Nat.le_of_ble_eq_true rfl) (Nat.le_of_ble_eq_true rfl) (sp_is_dd (f := (sm p).2.1) (by omega) b2.2.1 ?_)
    refine g_if_ne h 195 dX12_single_166 rfl (fun c => absurd c (by decide)) (fun _ => ?_)
    refine g_aload_0 h dX12_single_169 ?_
    refine g_iconst h dX12_single_170 (v := nI 4) rfl ?_
    refine g_bipush h dX12_single_171 (v := nI 108) rfl ?_
    refine g_cVi2 h rok0 mi_X12_is dX12_single_173 ml_X12_125 rfl rfl rfl (Nat.le_of_ble_eq_true rfl) (Nat.le_of_ble_eq_true rfl) (sp_is_dd (f := (sm p).2.1) (by omega) b2.2.1 ?_)
    refine g_if_ne h 195 dX12_single_176 rfl (fun c => absurd c (by decide)) (fun _ => ?_)
    refine g_aload_0 h dX12_single_179 ?_
    refine g_iconst h dX12_single_180 (v := nI 4) rfl ?_
    refine g_bipush h dX12_single_181 (v := nI 103) rfl ?_
    refine g_cVi2 h rok0 mi_X12_is dX12_single_183 ml_X12_125 rfl rfl rfl (Nat.le_of_ble_eq_true rfl) (Nat.le_of_ble_eq_true rfl) (sp_is_dd (f := (sm p).2.1) (by omega) b2.2.1 ?_)
    refine g_if_ne h 195 dX12_single_186 rfl (fun c => absurd c (by decide)) (fun _ => ?_)
    refine g_aload_0 h dX12_single_189 ?_
    refine g_cVv0 h rok0 mi_X12_fail dX12_single_190 ml_X12_129 rfl rfl rfl (Nat.le_of_ble_eq_true rfl) (Nat.le_of_ble_eq_true rfl) (sp_fail_dd (f := (sm p).2.1) (by omega) b2.2.1 ?_)
    refine g_iconst h dX12_single_193 (v := nI 0) rfl ?_
    refine g_iret h dX12_single_194 ?_
    have hv : (sS K mm b gs gt sm p) = (false, (sm p).2.1, zE) := by rw [sS, if_neg (by omega), if_neg (by omega), if_neg (by omega), if_neg (by rw [e2]; decide)]
    exact hF _ _ (by rw [hv]) (by rw [hv]; exact b2)
set_option maxRecDepth 100000 in
set_option maxHeartbeats 4000000 in
theorem single_s43 {K wd : Nat → Nat} {V mm : Nat → Int32} {M : Nat} {c D : Nat} {b : Bool} {gs gt sm : Nat → PRs} {p z : Nat} {x : Option (Nat × Nat)} {I : MI} {J : MJ} {P : MP} (hP : P 80 9 = some 104) (hE : rE K wd V M mm I c p z x) (k1 : ¬ K p = 23 ∧ ¬ K p = 32 ∧ ¬ K p = 22) (hG : cE K wd V M mm yX12_sum cX12_sum 3 (D + 7) c true sm) (k2 : (sm p).1 = true → K (sm p).2.1 = 43) {Q : Int32 → MI → MJ → MP → Prop} (hS : ∀ I' v z', (sS K mm b gs gt sm p).1 = true → rgE K wd V M mm I c p z x (sS K mm b gs gt sm p).2.1 z' I' → (fbd K mm ((sS K mm b gs gt sm p).2.1 - p) p = none → nd false I' z' v (sS K mm b gs gt sm p).2.2) → Q v I' J P) (hF : ∀ I' v, (sS K mm b gs gt sm p).1 = false → rB M I p z (sS K mm b gs gt sm p).2.1 I' → Q v I' J P) : Sp yX12_single cX12_single 3 (some .int) (D + 8) [.ref 80] I J P (Qi Q) := by
  intro Γ h
  show VG Γ 0 0 0 [some (.ref 80), none, none] [] _ _ _ _
  obtain ⟨M4, K45, hp, hzp, c8⟩ := hE.M4
  refine g_aload_0 h dX12_single_0 ?_
  refine g_iconst h dX12_single_1 (v := nI 2) rfl ?_
  refine g_bipush h dX12_single_2 (v := nI 23) rfl ?_
  refine g_cVi2 h rok0 mi_X12_is dX12_single_4 ml_X12_125 rfl rfl rfl (Nat.le_of_ble_eq_true rfl) (Nat.le_of_ble_eq_true rfl) (sp_is2 (k := 23) (by decide) hE.1 hE.2.1 hE.2.2.1 (fun q => absurd q (by omega)) (fun _ => ?_))
  refine g_if_eq h 51 dX12_single_7 rfl (fun _ => ?_) (fun c => absurd c (by decide))
  refine g_aload_0 h dX12_single_51 ?_
  refine g_iconst h dX12_single_52 (v := nI 4) rfl ?_
  refine g_bipush h dX12_single_53 (v := nI 91) rfl ?_
  refine g_cVi2 h rok0 mi_X12_is dX12_single_55 ml_X12_125 rfl rfl rfl (Nat.le_of_ble_eq_true rfl) (Nat.le_of_ble_eq_true rfl) (sgC_is (k := 32) rfl (by decide) hE.1 hE.2.1 hE.2.2.1 (fun q => absurd q (by omega)) (fun _ => ?_))
  refine g_if_eq h 99 dX12_single_58 rfl (fun _ => ?_) (fun c => absurd c (by decide))
  refine g_aload_0 h dX12_single_99 ?_
  refine g_iconst h dX12_single_100 (v := nI 2) rfl ?_
  refine g_bipush h dX12_single_101 (v := nI 22) rfl ?_
  refine g_cVi2 h rok0 mi_X12_is dX12_single_103 ml_X12_125 rfl rfl rfl (Nat.le_of_ble_eq_true rfl) (Nat.le_of_ble_eq_true rfl) (sp_is2 (k := 22) (by decide) hE.1 hE.2.1 hE.2.2.1 (fun q => absurd q (by omega)) (fun _ => ?_))
  refine g_if_eq h 134 dX12_single_106 rfl (fun _ => ?_) (fun c => absurd c (by decide))
  refine g_aload_0 h dX12_single_134 ?_
  refine g_cVi0 h rok0 mi_X12_sum dX12_single_135 ml_X12_203 rfl rfl rfl (Nat.le_of_ble_eq_true rfl) (Nat.le_of_ble_eq_true rfl) (hG p z _ _ J P hP hE (fun I2 v2 z2 e2 q2 n2 => ?_) (fun I2 v2 e2 b2 => ?_))
  · obtain ⟨t1, t2, t3, t4, t5⟩ := id q2
    have t6 := t2.M4
    have k2 := k2 e2
    refine g_istore_1 h dX12_single_138 (by decide) rfl ?_
    refine g_aload_0 h dX12_single_139 ?_
    refine g_iconst h dX12_single_140 (v := nI 4) rfl ?_
    refine g_bipush h dX12_single_141 (v := nI 60) rfl ?_
    refine g_cVi2 h rok0 mi_X12_is dX12_single_143 ml_X12_125 rfl rfl rfl (Nat.le_of_ble_eq_true rfl) (Nat.le_of_ble_eq_true rfl) (sgC_is (k := 40) rfl (by decide) t2.1 t2.2.1 t2.2.2.1 (fun q => absurd q (by omega)) (fun _ => ?_))
    refine g_if_ne h 195 dX12_single_146 rfl (fun c => absurd c (by decide)) (fun _ => ?_)
    refine g_aload_0 h dX12_single_149 ?_
    refine g_iconst h dX12_single_150 (v := nI 4) rfl ?_
    refine g_bipush h dX12_single_151 (v := nI 62) rfl ?_
    refine g_cVi2 h rok0 mi_X12_is dX12_single_153 ml_X12_125 rfl rfl rfl (Nat.le_of_ble_eq_true rfl) (Nat.le_of_ble_eq_true rfl) (sgC_is (k := 41) rfl (by decide) t2.1 t2.2.1 t2.2.2.1 (fun q => absurd q (by omega)) (fun _ => ?_))
    refine g_if_ne h 195 dX12_single_156 rfl (fun c => absurd c (by decide)) (fun _ => ?_)
    refine g_aload_0 h dX12_single_159 ?_
    refine g_iconst h dX12_single_160 (v := nI 4) rfl ?_
    refine g_bipush h dX12_single_161 (v := nI 61) rfl ?_
    refine g_cVi2 h rok0 mi_X12_is dX12_single_163 ml_X12_125 rfl rfl rfl (Nat.le_of_ble_eq_true rfl) (Nat.le_of_ble_eq_true rfl) (sgC_is (k := 42) rfl (by decide) t2.1 t2.2.1 t2.2.2.1 (fun q => absurd q (by omega)) (fun _ => ?_))
    refine g_if_ne h 195 dX12_single_166 rfl (fun c => absurd c (by decide)) (fun _ => ?_)
    refine g_aload_0 h dX12_single_169 ?_
    refine g_iconst h dX12_single_170 (v := nI 4) rfl ?_
    refine g_bipush h dX12_single_171 (v := nI 108) rfl ?_
    refine g_cVi2 h rok0 mi_X12_is dX12_single_173 ml_X12_125 rfl rfl rfl (Nat.le_of_ble_eq_true rfl) (Nat.le_of_ble_eq_true rfl) (sgC_is (k := 43) rfl (by decide) t2.1 t2.2.1 t2.2.2.1 (fun _ => ?_) (fun q => absurd (show K (sm p).2.1 = 43 by omega) q))
    refine g_if_ne h 195 dX12_single_176 rfl (fun _ => ?_) (fun c => absurd c (by decide))
    refine g_aload_0 h dX12_single_195 ?_
    refine g_getC h fl_X12_42 dX12_single_196 rfl rfl ?_
    refine g_aload_0 h dX12_single_199 ?_
    refine g_getI h fl_X12_118 dX12_single_200 rfl rfl ?_
    refine g_iald h (sm p).2.1 dX12_single_203 rfl t2.2.1.1 (by omega) ?_
    rw [show I2 83 (sm p).2.1 = nI 108 by rw [t2.val (by omega), k2]; rfl]
    refine g_istore_2 h dX12_single_204 (by decide) rfl ?_
    refine g_aload_0 h dX12_single_205 ?_
    refine g_dup h dX12_single_206 rfl ?_
    refine g_getI h fl_X12_118 dX12_single_207 rfl rfl ?_
    refine g_iconst h dX12_single_210 (v := nI 1) rfl ?_
    refine g_iadd h dX12_single_211 ?_
    refine g_putI h fp_X12_118 dX12_single_212 rfl rfl ?_
    rw [show I2 80 14 + nI 1 = nI ((sm p).2.1 + 1) by rw [t2.2.1.1]; exact nI_1 (sm p).2.1]
    have p2M := K_lt2 K45 t6.2.2.1 (by omega)
    refine g_aload_0 h dX12_single_215 ?_
    refine g_getP h fl_X12_91 dX12_single_216 rfl rfl (by assumption) ?_
    refine g_iload_2 h dX12_single_219 ?_
    refine g_iload_1 h dX12_single_220 ?_
    refine g_aload_0 h dX12_single_221 ?_
    refine g_cVi0 h rok0 mi_X12_sum dX12_single_222 ml_X12_203 rfl rfl rfl (Nat.le_of_ble_eq_true rfl) (Nat.le_of_ble_eq_true rfl) (hG ((sm p).2.1 + 1) z2 _ _ J P hP (t2.at p2M) (fun I4 v4 z4 e4 q4 n4 => ?_) (fun I4 v4 e4 b4 => ?_))
    · obtain ⟨-, -, u3, u4, u5⟩ := id q4
      have u6 := q4.2.1.M4
      refine g_cVi3 h rok0 mi_X11_node dX12_single_225 ml_X12_173 rfl rfl rfl (Nat.le_of_ble_eq_true rfl) (Nat.le_of_ble_eq_true rfl) (sp_nodeW (z := z4) (by omega) q4.2.1.cnt (fun I5 w5 => ?_))
      refine g_iret h dX12_single_228 ?_
      have hv : (sS K mm b gs gt sm p) = (true, (sm ((sm p).2.1 + 1)).2.1, joE (K (sm p).2.1) (sm p).2.2 (sm ((sm p).2.1 + 1)).2.2) := by rw [sS, if_neg (by omega), if_neg (by omega), if_neg (by omega), if_pos e2, if_pos (by omega), e4]
      obtain ⟨s1, s2, s3, s4, s5⟩ := q2.st (by omega) q4 w5
      refine hS _ _ (z4 + 1) (by rw [hv]) (by rw [hv]; exact s1) (by
        rw [hv]
        intro hb
        rw [s2] at hb
        obtain ⟨h1, h2⟩ := Option.or_eq_none_iff.mp hb
        exact nd_cmp (k := K (sm p).2.1) (by rw [k2]; simp [tsK]) ((n2 h1).mv s3 u3) ((n4 h2).mv s4 (Nat.le_refl _)) (Nat.le_refl _) (Nat.le_refl _) (by omega) w5.2.1 w5.2.2.1 w5.2.2.2.1)
    · obtain ⟨y, y3, y4⟩ := b4.cnt (by omega) M4 (by omega) (by omega)
      refine g_cVi3 h rok0 mi_X11_node dX12_single_225 ml_X12_173 rfl rfl rfl (Nat.le_of_ble_eq_true rfl) (Nat.le_of_ble_eq_true rfl) (sp_nodeW (z := y) y4 y3 (fun I9 w9 => ?_))
      refine g_iret h dX12_single_228 ?_
      have hv : (sS K mm b gs gt sm p) = (false, (sm ((sm p).2.1 + 1)).2.1, joE (K (sm p).2.1) (sm p).2.2 (sm ((sm p).2.1 + 1)).2.2) := by rw [sS, if_neg (by omega), if_neg (by omega), if_neg (by omega), if_pos e2, if_pos (by omega), e4]
      exact hF _ _ (by rw [hv]) (by rw [hv]; exact rB.st q2 b4 y3 y4 w9)
  · have t6 := b2.2.2.2.1
    refine g_istore_1 h dX12_single_138 (by decide) rfl ?_
    refine g_aload_0 h dX12_single_139 ?_
    refine g_iconst h dX12_single_140 (v := nI 4) rfl ?_
    refine g_bipush h dX12_single_141 (v := nI 60) rfl ?_
    refine g_cVi2 h rok0 mi_X12_is dX12_single_143 ml_X12_125 rfl rfl rfl (Nat.le_of_ble_eq_true rfl) (Nat.le_of_ble_eq_true rfl) (sp_is_dd (f := (sm p).2.1) (by omega) b2.2.1 ?_)
    refine g_if_ne h 195 dX12_single_146 rfl (fun c => absurd c (by decide)) (fun _ => ?_)
    refine g_aload_0 h dX12_single_149 ?_
    refine g_iconst h dX12_single_150 (v := nI 4) rfl ?_
    refine g_bipush h dX12_single_151 (v := nI 62) rfl ?_
    refine g_cVi2 h rok0 mi_X12_is dX12_single_153 ml_X12_125 rfl rfl rfl (Nat.le_of_ble_eq_true rfl) (Nat.le_of_ble_eq_true rfl) (sp_is_dd (f := (sm p).2.1) (by omega) b2.2.1 ?_)
    refine g_if_ne h 195 dX12_single_156 rfl (fun c => absurd c (by decide)) (fun _ => ?_)
    refine g_aload_0 h dX12_single_159 ?_
    refine g_iconst h dX12_single_160 (v := nI 4) rfl ?_
    refine g_bipush h dX12_single_161 (v := nI 61) rfl ?_
    refine g_cVi2 h rok0 mi_X12_is dX12_single_163 ml_X12_125 rfl rfl rfl (Nat.le_of_ble_eq_true rfl) (Nat.le_of_ble_eq_true rfl) (sp_is_dd (f := (sm p).2.1) (by omega) b2.2.1 ?_)
    refine g_if_ne h 195 dX12_single_166 rfl (fun c => absurd c (by decide)) (fun _ => ?_)
    refine g_aload_0 h dX12_single_169 ?_
    refine g_iconst h dX12_single_170 (v := nI 4) rfl ?_
    refine g_bipush h dX12_single_171 (v := nI 108) rfl ?_
    refine g_cVi2 h rok0 mi_X12_is dX12_single_173 ml_X12_125 rfl rfl rfl (Nat.le_of_ble_eq_true rfl) (Nat.le_of_ble_eq_true rfl) (sp_is_dd (f := (sm p).2.1) (by omega) b2.2.1 ?_)
    refine g_if_ne h 195 dX12_single_176 rfl (fun c => absurd c (by decide)) (fun _ => ?_)
    refine g_aload_0 h dX12_single_179 ?_
    refine g_iconst h dX12_single_180 (v := nI 4) rfl ?_
    refine g_bipush h dX12_single_181 (v := nI 103) rfl ?_
    refine g_cVi2 h rok0 mi_X12_is dX12_single_183 ml_X12_125 rfl rfl rfl (Nat.le_of_ble_eq_true rfl) (Nat.le_of_ble_eq_true rfl) (sp_is_dd (f := (sm p).2.1) (by omega) b2.2.1 ?_)
    refine g_if_ne h 195 dX12_single_186 rfl (fun c => absurd c (by decide)) (fun _ => ?_)
    refine g_aload_0 h dX12_single_189 ?_
    refine g_cVv0 h rok0 mi_X12_fail dX12_single_190 ml_X12_129 rfl rfl rfl (Nat.le_of_ble_eq_true rfl) (Nat.le_of_ble_eq_true rfl) (sp_fail_dd (f := (sm p).2.1) (by omega) b2.2.1 ?_)
    refine g_iconst h dX12_single_193 (v := nI 0) rfl ?_
    refine g_iret h dX12_single_194 ?_
    have hv : (sS K mm b gs gt sm p) = (false, (sm p).2.1, zE) := by rw [sS, if_neg (by omega), if_neg (by omega), if_neg (by omega), if_neg (by rw [e2]; decide)]
    exact hF _ _ (by rw [hv]) (by rw [hv]; exact b2)
set_option maxRecDepth 100000 in
set_option maxHeartbeats 4000000 in
theorem single_s44 {K wd : Nat → Nat} {V mm : Nat → Int32} {M : Nat} {c D : Nat} {b : Bool} {gs gt sm : Nat → PRs} {p z : Nat} {x : Option (Nat × Nat)} {I : MI} {J : MJ} {P : MP} (hP : P 80 9 = some 104) (hE : rE K wd V M mm I c p z x) (k1 : ¬ K p = 23 ∧ ¬ K p = 32 ∧ ¬ K p = 22) (hG : cE K wd V M mm yX12_sum cX12_sum 3 (D + 7) c true sm) (k2 : (sm p).1 = true → K (sm p).2.1 = 44) {Q : Int32 → MI → MJ → MP → Prop} (hS : ∀ I' v z', (sS K mm b gs gt sm p).1 = true → rgE K wd V M mm I c p z x (sS K mm b gs gt sm p).2.1 z' I' → (fbd K mm ((sS K mm b gs gt sm p).2.1 - p) p = none → nd false I' z' v (sS K mm b gs gt sm p).2.2) → Q v I' J P) (hF : ∀ I' v, (sS K mm b gs gt sm p).1 = false → rB M I p z (sS K mm b gs gt sm p).2.1 I' → Q v I' J P) : Sp yX12_single cX12_single 3 (some .int) (D + 8) [.ref 80] I J P (Qi Q) := by
  intro Γ h
  show VG Γ 0 0 0 [some (.ref 80), none, none] [] _ _ _ _
  obtain ⟨M4, K45, hp, hzp, c8⟩ := hE.M4
  refine g_aload_0 h dX12_single_0 ?_
  refine g_iconst h dX12_single_1 (v := nI 2) rfl ?_
  refine g_bipush h dX12_single_2 (v := nI 23) rfl ?_
  refine g_cVi2 h rok0 mi_X12_is dX12_single_4 ml_X12_125 rfl rfl rfl (Nat.le_of_ble_eq_true rfl) (Nat.le_of_ble_eq_true rfl) (sp_is2 (k := 23) (by decide) hE.1 hE.2.1 hE.2.2.1 (fun q => absurd q (by omega)) (fun _ => ?_))
  refine g_if_eq h 51 dX12_single_7 rfl (fun _ => ?_) (fun c => absurd c (by decide))
  refine g_aload_0 h dX12_single_51 ?_
  refine g_iconst h dX12_single_52 (v := nI 4) rfl ?_
  refine g_bipush h dX12_single_53 (v := nI 91) rfl ?_
  refine g_cVi2 h rok0 mi_X12_is dX12_single_55 ml_X12_125 rfl rfl rfl (Nat.le_of_ble_eq_true rfl) (Nat.le_of_ble_eq_true rfl) (sgC_is (k := 32) rfl (by decide) hE.1 hE.2.1 hE.2.2.1 (fun q => absurd q (by omega)) (fun _ => ?_))
  refine g_if_eq h 99 dX12_single_58 rfl (fun _ => ?_) (fun c => absurd c (by decide))
  refine g_aload_0 h dX12_single_99 ?_
  refine g_iconst h dX12_single_100 (v := nI 2) rfl ?_
  refine g_bipush h dX12_single_101 (v := nI 22) rfl ?_
  refine g_cVi2 h rok0 mi_X12_is dX12_single_103 ml_X12_125 rfl rfl rfl (Nat.le_of_ble_eq_true rfl) (Nat.le_of_ble_eq_true rfl) (sp_is2 (k := 22) (by decide) hE.1 hE.2.1 hE.2.2.1 (fun q => absurd q (by omega)) (fun _ => ?_))
  refine g_if_eq h 134 dX12_single_106 rfl (fun _ => ?_) (fun c => absurd c (by decide))
  refine g_aload_0 h dX12_single_134 ?_
  refine g_cVi0 h rok0 mi_X12_sum dX12_single_135 ml_X12_203 rfl rfl rfl (Nat.le_of_ble_eq_true rfl) (Nat.le_of_ble_eq_true rfl) (hG p z _ _ J P hP hE (fun I2 v2 z2 e2 q2 n2 => ?_) (fun I2 v2 e2 b2 => ?_))
  · obtain ⟨t1, t2, t3, t4, t5⟩ := id q2
    have t6 := t2.M4
    have k2 := k2 e2
    refine g_istore_1 h dX12_single_138 (by decide) rfl ?_
    refine g_aload_0 h dX12_single_139 ?_
    refine g_iconst h dX12_single_140 (v := nI 4) rfl ?_
    refine g_bipush h dX12_single_141 (v := nI 60) rfl ?_
    refine g_cVi2 h rok0 mi_X12_is dX12_single_143 ml_X12_125 rfl rfl rfl (Nat.le_of_ble_eq_true rfl) (Nat.le_of_ble_eq_true rfl) (sgC_is (k := 40) rfl (by decide) t2.1 t2.2.1 t2.2.2.1 (fun q => absurd q (by omega)) (fun _ => ?_))
    refine g_if_ne h 195 dX12_single_146 rfl (fun c => absurd c (by decide)) (fun _ => ?_)
    refine g_aload_0 h dX12_single_149 ?_
    refine g_iconst h dX12_single_150 (v := nI 4) rfl ?_
    refine g_bipush h dX12_single_151 (v := nI 62) rfl ?_
    refine g_cVi2 h rok0 mi_X12_is dX12_single_153 ml_X12_125 rfl rfl rfl (Nat.le_of_ble_eq_true rfl) (Nat.le_of_ble_eq_true rfl) (sgC_is (k := 41) rfl (by decide) t2.1 t2.2.1 t2.2.2.1 (fun q => absurd q (by omega)) (fun _ => ?_))
    refine g_if_ne h 195 dX12_single_156 rfl (fun c => absurd c (by decide)) (fun _ => ?_)
    refine g_aload_0 h dX12_single_159 ?_
    refine g_iconst h dX12_single_160 (v := nI 4) rfl ?_
    refine g_bipush h dX12_single_161 (v := nI 61) rfl ?_
    refine g_cVi2 h rok0 mi_X12_is dX12_single_163 ml_X12_125 rfl rfl rfl (Nat.le_of_ble_eq_true rfl) (Nat.le_of_ble_eq_true rfl) (sgC_is (k := 42) rfl (by decide) t2.1 t2.2.1 t2.2.2.1 (fun q => absurd q (by omega)) (fun _ => ?_))
    refine g_if_ne h 195 dX12_single_166 rfl (fun c => absurd c (by decide)) (fun _ => ?_)
    refine g_aload_0 h dX12_single_169 ?_
    refine g_iconst h dX12_single_170 (v := nI 4) rfl ?_
    refine g_bipush h dX12_single_171 (v := nI 108) rfl ?_
    refine g_cVi2 h rok0 mi_X12_is dX12_single_173 ml_X12_125 rfl rfl rfl (Nat.le_of_ble_eq_true rfl) (Nat.le_of_ble_eq_true rfl) (sgC_is (k := 43) rfl (by decide) t2.1 t2.2.1 t2.2.2.1 (fun q => absurd q (by omega)) (fun _ => ?_))
    refine g_if_ne h 195 dX12_single_176 rfl (fun c => absurd c (by decide)) (fun _ => ?_)
    refine g_aload_0 h dX12_single_179 ?_
    refine g_iconst h dX12_single_180 (v := nI 4) rfl ?_
    refine g_bipush h dX12_single_181 (v := nI 103) rfl ?_
    refine g_cVi2 h rok0 mi_X12_is dX12_single_183 ml_X12_125 rfl rfl rfl (Nat.le_of_ble_eq_true rfl) (Nat.le_of_ble_eq_true rfl) (sgC_is (k := 44) rfl (by decide) t2.1 t2.2.1 t2.2.2.1 (fun _ => ?_) (fun q => absurd (show K (sm p).2.1 = 44 by omega) q))
    refine g_if_ne h 195 dX12_single_186 rfl (fun _ => ?_) (fun c => absurd c (by decide))
    refine g_aload_0 h dX12_single_195 ?_
    refine g_getC h fl_X12_42 dX12_single_196 rfl rfl ?_
    refine g_aload_0 h dX12_single_199 ?_
    refine g_getI h fl_X12_118 dX12_single_200 rfl rfl ?_
    refine g_iald h (sm p).2.1 dX12_single_203 rfl t2.2.1.1 (by omega) ?_
    rw [show I2 83 (sm p).2.1 = nI 103 by rw [t2.val (by omega), k2]; rfl]
    refine g_istore_2 h dX12_single_204 (by decide) rfl ?_
    refine g_aload_0 h dX12_single_205 ?_
    refine g_dup h dX12_single_206 rfl ?_
    refine g_getI h fl_X12_118 dX12_single_207 rfl rfl ?_
    refine g_iconst h dX12_single_210 (v := nI 1) rfl ?_
    refine g_iadd h dX12_single_211 ?_
    refine g_putI h fp_X12_118 dX12_single_212 rfl rfl ?_
    rw [show I2 80 14 + nI 1 = nI ((sm p).2.1 + 1) by rw [t2.2.1.1]; exact nI_1 (sm p).2.1]
    have p2M := K_lt2 K45 t6.2.2.1 (by omega)
    refine g_aload_0 h dX12_single_215 ?_
    refine g_getP h fl_X12_91 dX12_single_216 rfl rfl (by assumption) ?_
    refine g_iload_2 h dX12_single_219 ?_
    refine g_iload_1 h dX12_single_220 ?_
    refine g_aload_0 h dX12_single_221 ?_
    refine g_cVi0 h rok0 mi_X12_sum dX12_single_222 ml_X12_203 rfl rfl rfl (Nat.le_of_ble_eq_true rfl) (Nat.le_of_ble_eq_true rfl) (hG ((sm p).2.1 + 1) z2 _ _ J P hP (t2.at p2M) (fun I4 v4 z4 e4 q4 n4 => ?_) (fun I4 v4 e4 b4 => ?_))
    · obtain ⟨-, -, u3, u4, u5⟩ := id q4
      have u6 := q4.2.1.M4
      refine g_cVi3 h rok0 mi_X11_node dX12_single_225 ml_X12_173 rfl rfl rfl (Nat.le_of_ble_eq_true rfl) (Nat.le_of_ble_eq_true rfl) (sp_nodeW (z := z4) (by omega) q4.2.1.cnt (fun I5 w5 => ?_))
      refine g_iret h dX12_single_228 ?_
      have hv : (sS K mm b gs gt sm p) = (true, (sm ((sm p).2.1 + 1)).2.1, joE (K (sm p).2.1) (sm p).2.2 (sm ((sm p).2.1 + 1)).2.2) := by rw [sS, if_neg (by omega), if_neg (by omega), if_neg (by omega), if_pos e2, if_pos (by omega), e4]
      obtain ⟨s1, s2, s3, s4, s5⟩ := q2.st (by omega) q4 w5
      refine hS _ _ (z4 + 1) (by rw [hv]) (by rw [hv]; exact s1) (by
        rw [hv]
        intro hb
        rw [s2] at hb
        obtain ⟨h1, h2⟩ := Option.or_eq_none_iff.mp hb
        exact nd_cmp (k := K (sm p).2.1) (by rw [k2]; simp [tsK]) ((n2 h1).mv s3 u3) ((n4 h2).mv s4 (Nat.le_refl _)) (Nat.le_refl _) (Nat.le_refl _) (by omega) w5.2.1 w5.2.2.1 w5.2.2.2.1)
    · obtain ⟨y, y3, y4⟩ := b4.cnt (by omega) M4 (by omega) (by omega)
      refine g_cVi3 h rok0 mi_X11_node dX12_single_225 ml_X12_173 rfl rfl rfl (Nat.le_of_ble_eq_true rfl) (Nat.le_of_ble_eq_true rfl) (sp_nodeW (z := y) y4 y3 (fun I9 w9 => ?_))
      refine g_iret h dX12_single_228 ?_
      have hv : (sS K mm b gs gt sm p) = (false, (sm ((sm p).2.1 + 1)).2.1, joE (K (sm p).2.1) (sm p).2.2 (sm ((sm p).2.1 + 1)).2.2) := by rw [sS, if_neg (by omega), if_neg (by omega), if_neg (by omega), if_pos e2, if_pos (by omega), e4]
      exact hF _ _ (by rw [hv]) (by rw [hv]; exact rB.st q2 b4 y3 y4 w9)
  · have t6 := b2.2.2.2.1
    refine g_istore_1 h dX12_single_138 (by decide) rfl ?_
    refine g_aload_0 h dX12_single_139 ?_
    refine g_iconst h dX12_single_140 (v := nI 4) rfl ?_
    refine g_bipush h dX12_single_141 (v := nI 60) rfl ?_
    refine g_cVi2 h rok0 mi_X12_is dX12_single_143 ml_X12_125 rfl rfl rfl (Nat.le_of_ble_eq_true rfl) (Nat.le_of_ble_eq_true rfl) (sp_is_dd (f := (sm p).2.1) (by omega) b2.2.1 ?_)
    refine g_if_ne h 195 dX12_single_146 rfl (fun c => absurd c (by decide)) (fun _ => ?_)
    refine g_aload_0 h dX12_single_149 ?_
    refine g_iconst h dX12_single_150 (v := nI 4) rfl ?_
    refine g_bipush h dX12_single_151 (v := nI 62) rfl ?_
    refine g_cVi2 h rok0 mi_X12_is dX12_single_153 ml_X12_125 rfl rfl rfl (Nat.le_of_ble_eq_true rfl) (Nat.le_of_ble_eq_true rfl) (sp_is_dd (f := (sm p).2.1) (by omega) b2.2.1 ?_)
    refine g_if_ne h 195 dX12_single_156 rfl (fun c => absurd c (by decide)) (fun _ => ?_)
    refine g_aload_0 h dX12_single_159 ?_
    refine g_iconst h dX12_single_160 (v := nI 4) rfl ?_
    refine g_bipush h dX12_single_161 (v := nI 61) rfl ?_
    refine g_cVi2 h rok0 mi_X12_is dX12_single_163 ml_X12_125 rfl rfl rfl (Nat.le_of_ble_eq_true rfl) (Nat.le_of_ble_eq_true rfl) (sp_is_dd (f := (sm p).2.1) (by omega) b2.2.1 ?_)
    refine g_if_ne h 195 dX12_single_166 rfl (fun c => absurd c (by decide)) (fun _ => ?_)
    refine g_aload_0 h dX12_single_169 ?_
    refine g_iconst h dX12_single_170 (v := nI 4) rfl ?_
    refine g_bipush h dX12_single_171 (v := nI 108) rfl ?_
    refine g_cVi2 h rok0 mi_X12_is dX12_single_173 ml_X12_125 rfl rfl rfl (Nat.le_of_ble_eq_true rfl) (Nat.le_of_ble_eq_true rfl) (sp_is_dd (f := (sm p).2.1) (by omega) b2.2.1 ?_)
    refine g_if_ne h 195 dX12_single_176 rfl (fun c => absurd c (by decide)) (fun _ => ?_)
    refine g_aload_0 h dX12_single_179 ?_
    refine g_iconst h dX12_single_180 (v := nI 4) rfl ?_
    refine g_bipush h dX12_single_181 (v := nI 103) rfl ?_
    refine g_cVi2 h rok0 mi_X12_is dX12_single_183 ml_X12_125 rfl rfl rfl (Nat.le_of_ble_eq_true rfl) (Nat.le_of_ble_eq_true rfl) (sp_is_dd (f := (sm p).2.1) (by omega) b2.2.1 ?_)
    refine g_if_ne h 195 dX12_single_186 rfl (fun c => absurd c (by decide)) (fun _ => ?_)
    refine g_aload_0 h dX12_single_189 ?_
    refine g_cVv0 h rok0 mi_X12_fail dX12_single_190 ml_X12_129 rfl rfl rfl (Nat.le_of_ble_eq_true rfl) (Nat.le_of_ble_eq_true rfl) (sp_fail_dd (f := (sm p).2.1) (by omega) b2.2.1 ?_)
    refine g_iconst h dX12_single_193 (v := nI 0) rfl ?_
    refine g_iret h dX12_single_194 ?_
    have hv : (sS K mm b gs gt sm p) = (false, (sm p).2.1, zE) := by rw [sS, if_neg (by omega), if_neg (by omega), if_neg (by omega), if_neg (by rw [e2]; decide)]
    exact hF _ _ (by rw [hv]) (by rw [hv]; exact b2)
set_option maxRecDepth 100000 in
set_option maxHeartbeats 4000000 in
theorem single_s0 {K wd : Nat → Nat} {V mm : Nat → Int32} {M : Nat} {c D : Nat} {b : Bool} {gs gt sm : Nat → PRs} {p z : Nat} {x : Option (Nat × Nat)} {I : MI} {J : MJ} {P : MP} (hP : P 80 9 = some 104) (hE : rE K wd V M mm I c p z x) (k1 : ¬ K p = 23 ∧ ¬ K p = 32 ∧ ¬ K p = 22) (hG : cE K wd V M mm yX12_sum cX12_sum 3 (D + 7) c true sm) (k2 : ¬ (40 ≤ K (sm p).2.1 ∧ K (sm p).2.1 ≤ 44)) {Q : Int32 → MI → MJ → MP → Prop} (hS : ∀ I' v z', (sS K mm b gs gt sm p).1 = true → rgE K wd V M mm I c p z x (sS K mm b gs gt sm p).2.1 z' I' → (fbd K mm ((sS K mm b gs gt sm p).2.1 - p) p = none → nd false I' z' v (sS K mm b gs gt sm p).2.2) → Q v I' J P) (hF : ∀ I' v, (sS K mm b gs gt sm p).1 = false → rB M I p z (sS K mm b gs gt sm p).2.1 I' → Q v I' J P) : Sp yX12_single cX12_single 3 (some .int) (D + 8) [.ref 80] I J P (Qi Q) := by
  intro Γ h
  show VG Γ 0 0 0 [some (.ref 80), none, none] [] _ _ _ _
  obtain ⟨M4, K45, hp, hzp, c8⟩ := hE.M4
  refine g_aload_0 h dX12_single_0 ?_
  refine g_iconst h dX12_single_1 (v := nI 2) rfl ?_
  refine g_bipush h dX12_single_2 (v := nI 23) rfl ?_
  refine g_cVi2 h rok0 mi_X12_is dX12_single_4 ml_X12_125 rfl rfl rfl (Nat.le_of_ble_eq_true rfl) (Nat.le_of_ble_eq_true rfl) (sp_is2 (k := 23) (by decide) hE.1 hE.2.1 hE.2.2.1 (fun q => absurd q (by omega)) (fun _ => ?_))
  refine g_if_eq h 51 dX12_single_7 rfl (fun _ => ?_) (fun c => absurd c (by decide))
  refine g_aload_0 h dX12_single_51 ?_
  refine g_iconst h dX12_single_52 (v := nI 4) rfl ?_
  refine g_bipush h dX12_single_53 (v := nI 91) rfl ?_
  refine g_cVi2 h rok0 mi_X12_is dX12_single_55 ml_X12_125 rfl rfl rfl (Nat.le_of_ble_eq_true rfl) (Nat.le_of_ble_eq_true rfl) (sgC_is (k := 32) rfl (by decide) hE.1 hE.2.1 hE.2.2.1 (fun q => absurd q (by omega)) (fun _ => ?_))
  refine g_if_eq h 99 dX12_single_58 rfl (fun _ => ?_) (fun c => absurd c (by decide))
  refine g_aload_0 h dX12_single_99 ?_
  refine g_iconst h dX12_single_100 (v := nI 2) rfl ?_
  refine g_bipush h dX12_single_101 (v := nI 22) rfl ?_
  refine g_cVi2 h rok0 mi_X12_is dX12_single_103 ml_X12_125 rfl rfl rfl (Nat.le_of_ble_eq_true rfl) (Nat.le_of_ble_eq_true rfl) (sp_is2 (k := 22) (by decide) hE.1 hE.2.1 hE.2.2.1 (fun q => absurd q (by omega)) (fun _ => ?_))
  refine g_if_eq h 134 dX12_single_106 rfl (fun _ => ?_) (fun c => absurd c (by decide))
  refine g_aload_0 h dX12_single_134 ?_
  refine g_cVi0 h rok0 mi_X12_sum dX12_single_135 ml_X12_203 rfl rfl rfl (Nat.le_of_ble_eq_true rfl) (Nat.le_of_ble_eq_true rfl) (hG p z _ _ J P hP hE (fun I2 v2 z2 e2 q2 n2 => ?_) (fun I2 v2 e2 b2 => ?_))
  · obtain ⟨t1, t2, t3, t4, t5⟩ := id q2
    have t6 := t2.M4
    refine g_istore_1 h dX12_single_138 (by decide) rfl ?_
    refine g_aload_0 h dX12_single_139 ?_
    refine g_iconst h dX12_single_140 (v := nI 4) rfl ?_
    refine g_bipush h dX12_single_141 (v := nI 60) rfl ?_
    refine g_cVi2 h rok0 mi_X12_is dX12_single_143 ml_X12_125 rfl rfl rfl (Nat.le_of_ble_eq_true rfl) (Nat.le_of_ble_eq_true rfl) (sgC_is (k := 40) rfl (by decide) t2.1 t2.2.1 t2.2.2.1 (fun q => absurd q (by omega)) (fun _ => ?_))
    refine g_if_ne h 195 dX12_single_146 rfl (fun c => absurd c (by decide)) (fun _ => ?_)
    refine g_aload_0 h dX12_single_149 ?_
    refine g_iconst h dX12_single_150 (v := nI 4) rfl ?_
    refine g_bipush h dX12_single_151 (v := nI 62) rfl ?_
    refine g_cVi2 h rok0 mi_X12_is dX12_single_153 ml_X12_125 rfl rfl rfl (Nat.le_of_ble_eq_true rfl) (Nat.le_of_ble_eq_true rfl) (sgC_is (k := 41) rfl (by decide) t2.1 t2.2.1 t2.2.2.1 (fun q => absurd q (by omega)) (fun _ => ?_))
    refine g_if_ne h 195 dX12_single_156 rfl (fun c => absurd c (by decide)) (fun _ => ?_)
    refine g_aload_0 h dX12_single_159 ?_
    refine g_iconst h dX12_single_160 (v := nI 4) rfl ?_
    refine g_bipush h dX12_single_161 (v := nI 61) rfl ?_
    refine g_cVi2 h rok0 mi_X12_is dX12_single_163 ml_X12_125 rfl rfl rfl (Nat.le_of_ble_eq_true rfl) (Nat.le_of_ble_eq_true rfl) (sgC_is (k := 42) rfl (by decide) t2.1 t2.2.1 t2.2.2.1 (fun q => absurd q (by omega)) (fun _ => ?_))
    refine g_if_ne h 195 dX12_single_166 rfl (fun c => absurd c (by decide)) (fun _ => ?_)
    refine g_aload_0 h dX12_single_169 ?_
    refine g_iconst h dX12_single_170 (v := nI 4) rfl ?_
    refine g_bipush h dX12_single_171 (v := nI 108) rfl ?_
    refine g_cVi2 h rok0 mi_X12_is dX12_single_173 ml_X12_125 rfl rfl rfl (Nat.le_of_ble_eq_true rfl) (Nat.le_of_ble_eq_true rfl) (sgC_is (k := 43) rfl (by decide) t2.1 t2.2.1 t2.2.2.1 (fun q => absurd q (by omega)) (fun _ => ?_))
    refine g_if_ne h 195 dX12_single_176 rfl (fun c => absurd c (by decide)) (fun _ => ?_)
    refine g_aload_0 h dX12_single_179 ?_
    refine g_iconst h dX12_single_180 (v := nI 4) rfl ?_
    refine g_bipush h dX12_single_181 (v := nI 103) rfl ?_
    refine g_cVi2 h rok0 mi_X12_is dX12_single_183 ml_X12_125 rfl rfl rfl (Nat.le_of_ble_eq_true rfl) (Nat.le_of_ble_eq_true rfl) (sgC_is (k := 44) rfl (by decide) t2.1 t2.2.1 t2.2.2.1 (fun q => absurd q (by omega)) (fun _ => ?_))
    refine g_if_ne h 195 dX12_single_186 rfl (fun c => absurd c (by decide)) (fun _ => ?_)
    refine g_aload_0 h dX12_single_189 ?_
    refine g_cVv0 h rok0 mi_X12_fail dX12_single_190 ml_X12_129 rfl rfl rfl (Nat.le_of_ble_eq_true rfl) (Nat.le_of_ble_eq_true rfl) (sp_fail_al t2.2.1 ?_)
    refine g_iconst h dX12_single_193 (v := nI 0) rfl ?_
    refine g_iret h dX12_single_194 ?_
    have hv : (sS K mm b gs gt sm p) = (false, (sm p).2.1, zE) := by rw [sS, if_neg (by omega), if_neg (by omega), if_neg (by omega), if_pos e2, if_neg (by omega)]
    have b9 : rB M I p z (sm p).2.1 _ := rB.new t1 t2.cnt t3 (by omega) (by omega) t6.2.2.1
    exact hF _ _ (by rw [hv]) (by rw [hv]; exact b9)
  · have t6 := b2.2.2.2.1
    refine g_istore_1 h dX12_single_138 (by decide) rfl ?_
    refine g_aload_0 h dX12_single_139 ?_
    refine g_iconst h dX12_single_140 (v := nI 4) rfl ?_
    refine g_bipush h dX12_single_141 (v := nI 60) rfl ?_
    refine g_cVi2 h rok0 mi_X12_is dX12_single_143 ml_X12_125 rfl rfl rfl (Nat.le_of_ble_eq_true rfl) (Nat.le_of_ble_eq_true rfl) (sp_is_dd (f := (sm p).2.1) (by omega) b2.2.1 ?_)
    refine g_if_ne h 195 dX12_single_146 rfl (fun c => absurd c (by decide)) (fun _ => ?_)
    refine g_aload_0 h dX12_single_149 ?_
    refine g_iconst h dX12_single_150 (v := nI 4) rfl ?_
    refine g_bipush h dX12_single_151 (v := nI 62) rfl ?_
    refine g_cVi2 h rok0 mi_X12_is dX12_single_153 ml_X12_125 rfl rfl rfl (Nat.le_of_ble_eq_true rfl) (Nat.le_of_ble_eq_true rfl) (sp_is_dd (f := (sm p).2.1) (by omega) b2.2.1 ?_)
    refine g_if_ne h 195 dX12_single_156 rfl (fun c => absurd c (by decide)) (fun _ => ?_)
    refine g_aload_0 h dX12_single_159 ?_
    refine g_iconst h dX12_single_160 (v := nI 4) rfl ?_
    refine g_bipush h dX12_single_161 (v := nI 61) rfl ?_
    refine g_cVi2 h rok0 mi_X12_is dX12_single_163 ml_X12_125 rfl rfl rfl (Nat.le_of_ble_eq_true rfl) (Nat.le_of_ble_eq_true rfl) (sp_is_dd (f := (sm p).2.1) (by omega) b2.2.1 ?_)
    refine g_if_ne h 195 dX12_single_166 rfl (fun c => absurd c (by decide)) (fun _ => ?_)
    refine g_aload_0 h dX12_single_169 ?_
    refine g_iconst h dX12_single_170 (v := nI 4) rfl ?_
    refine g_bipush h dX12_single_171 (v := nI 108) rfl ?_
    refine g_cVi2 h rok0 mi_X12_is dX12_single_173 ml_X12_125 rfl rfl rfl (Nat.le_of_ble_eq_true rfl) (Nat.le_of_ble_eq_true rfl) (sp_is_dd (f := (sm p).2.1) (by omega) b2.2.1 ?_)
    refine g_if_ne h 195 dX12_single_176 rfl (fun c => absurd c (by decide)) (fun _ => ?_)
    refine g_aload_0 h dX12_single_179 ?_
    refine g_iconst h dX12_single_180 (v := nI 4) rfl ?_
    refine g_bipush h dX12_single_181 (v := nI 103) rfl ?_
    refine g_cVi2 h rok0 mi_X12_is dX12_single_183 ml_X12_125 rfl rfl rfl (Nat.le_of_ble_eq_true rfl) (Nat.le_of_ble_eq_true rfl) (sp_is_dd (f := (sm p).2.1) (by omega) b2.2.1 ?_)
    refine g_if_ne h 195 dX12_single_186 rfl (fun c => absurd c (by decide)) (fun _ => ?_)
    refine g_aload_0 h dX12_single_189 ?_
    refine g_cVv0 h rok0 mi_X12_fail dX12_single_190 ml_X12_129 rfl rfl rfl (Nat.le_of_ble_eq_true rfl) (Nat.le_of_ble_eq_true rfl) (sp_fail_dd (f := (sm p).2.1) (by omega) b2.2.1 ?_)
    refine g_iconst h dX12_single_193 (v := nI 0) rfl ?_
    refine g_iret h dX12_single_194 ?_
    have hv : (sS K mm b gs gt sm p) = (false, (sm p).2.1, zE) := by rw [sS, if_neg (by omega), if_neg (by omega), if_neg (by omega), if_neg (by rw [e2]; decide)]
    exact hF _ _ (by rw [hv]) (by rw [hv]; exact b2)
theorem single_S {K wd : Nat → Nat} {V mm : Nat → Int32} {M : Nat} {D c : Nat} {gs gt sm : Nat → PRs} (hG : cE K wd V M mm yX12_single cX12_single 3 (D + 7) c false gs) (hT : cE K wd V M mm yX12_test cX12_test 2 (D + 7) c false gt) (hM : cE K wd V M mm yX12_sum cX12_sum 3 (D + 7) (c + 1) true sm) : cE K wd V M mm yX12_single cX12_single 3 (D + 8) (c + 1) false (sS K mm true gs gt sm) := by
  intro p z x I J P hP hE Q hS hF
  by_cases k23 : K p = 23
  · exact single_23 hP hE k23 rfl hG hS hF
  by_cases k32 : K p = 32
  · exact single_32 hP hE k32 rfl hT hS hF
  by_cases k22 : K p = 22
  · exact single_22 hP hE k22 hS hF
  by_cases k0 : 40 ≤ K (sm p).2.1 ∧ K (sm p).2.1 ≤ 44
  · rcases (show K (sm p).2.1 = 40 ∨ K (sm p).2.1 = 41 ∨ K (sm p).2.1 = 42 ∨ K (sm p).2.1 = 43 ∨ K (sm p).2.1 = 44 by omega) with q | q | q | q | q
    · exact single_s40 hP hE ⟨k23, k32, k22⟩ hM (fun _ => q) hS hF
    · exact single_s41 hP hE ⟨k23, k32, k22⟩ hM (fun _ => q) hS hF
    · exact single_s42 hP hE ⟨k23, k32, k22⟩ hM (fun _ => q) hS hF
    · exact single_s43 hP hE ⟨k23, k32, k22⟩ hM (fun _ => q) hS hF
    · exact single_s44 hP hE ⟨k23, k32, k22⟩ hM (fun _ => q) hS hF
  · exact single_s0 hP hE ⟨k23, k32, k22⟩ hM k0 hS hF
theorem single_Z {K wd : Nat → Nat} {V mm : Nat → Int32} {M : Nat} {D : Nat} {gs gt sm : Nat → PRs} (hM : cE K wd V M mm yX12_sum cX12_sum 3 (D + 7) 0 true sm) : cE K wd V M mm yX12_single cX12_single 3 (D + 8) 0 false (sS K mm false gs gt sm) := by
  intro p z x I J P hP hE Q hS hF
  by_cases k23 : K p = 23
  · exact single_23z hP hE k23 rfl hS hF
  by_cases k32 : K p = 32
  · exact single_32z hP hE k32 rfl hS hF
  by_cases k22 : K p = 22
  · exact single_22 hP hE k22 hS hF
  by_cases k0 : 40 ≤ K (sm p).2.1 ∧ K (sm p).2.1 ≤ 44
  · rcases (show K (sm p).2.1 = 40 ∨ K (sm p).2.1 = 41 ∨ K (sm p).2.1 = 42 ∨ K (sm p).2.1 = 43 ∨ K (sm p).2.1 = 44 by omega) with q | q | q | q | q
    · exact single_s40 hP hE ⟨k23, k32, k22⟩ hM (fun _ => q) hS hF
    · exact single_s41 hP hE ⟨k23, k32, k22⟩ hM (fun _ => q) hS hF
    · exact single_s42 hP hE ⟨k23, k32, k22⟩ hM (fun _ => q) hS hF
    · exact single_s43 hP hE ⟨k23, k32, k22⟩ hM (fun _ => q) hS hF
    · exact single_s44 hP hE ⟨k23, k32, k22⟩ hM (fun _ => q) hS hF
  · exact single_s0 hP hE ⟨k23, k32, k22⟩ hM k0 hS hF
theorem cE_single {K wd : Nat → Nat} {V mm : Nat → Int32} {M : Nat} : ∀ (c D : Nat), cE K wd V M mm yX12_single cX12_single 3 (D + 4 * c + 13) c false (p1 K V mm c) := by
  intro c
  induction c with
  | zero => exact fun D => single_Z (D := D + 5) (cE_sumV 0 D)
  | succ c ih =>
    intro D
    have h1 := ih (D + 3)
    have h2 := ih (D + 1)
    rw [show D + 3 + 4 * c + 13 = D + 4 * c + 9 + 7 by omega] at h1
    rw [show D + 1 + 4 * c + 13 = D + 4 * c + 4 + 10 by omega] at h2
    exact single_S (D := D + 4 * c + 9) h1 (cE_test (cF_pair h2)) (cE_sumV (c + 1) D)
theorem cE_testV {K wd : Nat → Nat} {V mm : Nat → Int32} {M : Nat} (c D : Nat) : cE K wd V M mm yX12_test cX12_test 2 (D + 4 * c + 15) c false (pT K V mm c) := cE_test (cF_pair (D := D + 4 * c + 3) (cE_single c D))
