/-! The reference's parser: small methods. alive: failed (80 16) is -1; dead: it is a token -/
def rsO (K : Nat → Nat) (V : Nat → Int32) (wd : Nat → Nat) (M : Nat) (I : MI) : Prop := M ≤ 400 ∧ 45 ≤ K M ∧ (∀ t, t ≤ M → K t < 47 ∧ I 82 t = nI (srt (K t)) ∧ (K t < 28 → I 83 t = nI (K t)) ∧ (K t = 29 → I 83 t = V t) ∧ (30 ≤ K t → K t ≤ 44 → I 83 t = nI (sgC (K t)))) ∧ ∃ T L bb ll, wnO T L K wd bb ll M I
def kpF (I I' : MI) : Prop := I' 80 2 = I 80 2 ∧ ∀ a, 81 ≤ a → a ≤ 85 → I' a = I a
theorem rsO.kp {K : Nat → Nat} {V : Nat → Int32} {wd : Nat → Nat} {M : Nat} {I I' : MI} (h : rsO K V wd M I) (k : kpF I I') : rsO K V wd M I' := by
  obtain ⟨h1, h2, h3, T, L, bb, ll, hT, h5⟩ := h
  obtain ⟨k1, k2⟩ := k
  refine ⟨h1, h2, fun t ht => ?_, T, L, bb, ll, ?_, fun t ht hk => ?_⟩
  · rw [k2 82 (by decide) (by decide), k2 83 (by decide) (by decide)]
    exact h3 t ht
  · unfold rtO
    rw [k1, k2 81 (by decide) (by decide)]
    exact hT
  · rw [k2 84 (by decide) (by decide), k2 85 (by decide) (by decide)]
    exact h5 t ht hk
def alR (p : Nat) (I : MI) : Prop := I 80 14 = nI p ∧ I 80 16 = -1
def erS (I : MI) : Option (Nat × Nat) → Prop
  | none => I 80 17 = nI 0
  | some x => (0 < x.1 ∧ x.1 < 10 ∧ x.2 < 401) ∧ I 80 17 = nI x.1 ∧ I 80 18 = nI x.2
def tl : Option (Nat × Nat) → Nat → Nat → Option (Nat × Nat)
  | none, n, k => some (n, k)
  | some x, n, k => if x.2 = k ∧ n < x.1 then some (n, k) else some x
theorem srt2 : ∀ k, k < 47 → (srt k = 2 ↔ k < 28) ∧ (srt k = 4 ↔ 30 ≤ k ∧ k ≤ 44) ∧ (srt k = 1 ↔ k = 28) ∧ (srt k = 3 ↔ k = 29) := by decide +kernel
theorem sgC_inj : ∀ a, a < 45 → ∀ b, b < 45 → 30 ≤ a → 30 ≤ b → sgC a = sgC b → a = b := by decide +kernel
theorem sgC_lt : ∀ a, a < 47 → sgC a < 128 := by decide +kernel
theorem m1_nI {f : Nat} (h : f < 2 ^ 31) : ¬ nI f = -1 := fun e => nI_pos h (by rw [e]; decide)
set_option maxRecDepth 100000 in
set_option maxHeartbeats 4000000 in
theorem sp_fail_al {d p : Nat} {I : MI} {J : MJ} {P : MP} (ha : alR p I) {Q : MI → MJ → MP → Prop} (hQ : Q (up2 I 80 16 (nI p)) J P) : Sp yX12_fail cX12_fail 1 none (d) [.ref 80] I J P (Qv Q) := by
  intro Γ h
  show VG Γ 0 0 0 [some (.ref 80)] [] _ _ _ _
  refine g_aload_0 h dX12_fail_0 ?_
  refine g_getI h fl_X12_115 dX12_fail_1 rfl rfl ?_
  refine g_iconst h dX12_fail_4 (v := (-1)) rfl ?_
  refine g_icmp_ne h 16 dX12_fail_5 rfl (fun c => absurd ha.2 c) (fun _ => ?_)
  refine g_aload_0 h dX12_fail_8 ?_
  refine g_aload_0 h dX12_fail_9 ?_
  refine g_getI h fl_X12_118 dX12_fail_10 rfl rfl ?_
  rw [ha.1]
  refine g_putI h fp_X12_115 dX12_fail_13 rfl rfl ?_
  refine g_vret h dX12_fail_16 ?_
  exact hQ
set_option maxRecDepth 100000 in
set_option maxHeartbeats 4000000 in
theorem sp_fail_dd {d : Nat} {I : MI} {J : MJ} {P : MP} {f : Nat} (hf4 : f < 2 ^ 31) (hf : I 80 16 = nI f) {Q : MI → MJ → MP → Prop} (hQ : Q I J P) : Sp yX12_fail cX12_fail 1 none (d) [.ref 80] I J P (Qv Q) := by
  intro Γ h
  show VG Γ 0 0 0 [some (.ref 80)] [] _ _ _ _
  refine g_aload_0 h dX12_fail_0 ?_
  refine g_getI h fl_X12_115 dX12_fail_1 rfl rfl ?_
  refine g_iconst h dX12_fail_4 (v := (-1)) rfl ?_
  refine g_icmp_ne h 16 dX12_fail_5 rfl (fun _ => ?_) (fun c => absurd (by rw [hf] at c; exact c) (m1_nI hf4))
  refine g_vret h dX12_fail_16 ?_
  exact hQ
set_option maxRecDepth 100000 in
set_option maxHeartbeats 4000000 in
theorem sp_isOk_al {d p : Nat} {I : MI} {J : MJ} {P : MP} (ha : alR p I) {Q : Int32 → MI → MJ → MP → Prop} (hQ : Q (nI 1) I J P) : Sp yX12_isOk cX12_isOk 1 (some .boolean) (d) [.ref 80] I J P (Qi Q) := by
  intro Γ h
  show VG Γ 0 0 0 [some (.ref 80)] [] _ _ _ _
  refine g_aload_0 h dX12_isOk_0 ?_
  refine g_getI h fl_X12_115 dX12_isOk_1 rfl rfl ?_
  refine g_iconst h dX12_isOk_4 (v := (-1)) rfl ?_
  refine g_icmp_ne h 12 dX12_isOk_5 rfl (fun c => absurd ha.2 c) (fun _ => ?_)
  refine g_iconst h dX12_isOk_8 (v := nI 1) rfl ?_
  refine g_goto h 13 dX12_isOk_9 rfl ?_
  refine g_zret h dX12_isOk_13 (by first | rfl | exact nar_b2i _) ?_
  exact hQ
set_option maxRecDepth 100000 in
set_option maxHeartbeats 4000000 in
theorem sp_isOk_dd {d : Nat} {I : MI} {J : MJ} {P : MP} {f : Nat} (hf4 : f < 2 ^ 31) (hf : I 80 16 = nI f) {Q : Int32 → MI → MJ → MP → Prop} (hQ : Q (nI 0) I J P) : Sp yX12_isOk cX12_isOk 1 (some .boolean) (d) [.ref 80] I J P (Qi Q) := by
  intro Γ h
  show VG Γ 0 0 0 [some (.ref 80)] [] _ _ _ _
  refine g_aload_0 h dX12_isOk_0 ?_
  refine g_getI h fl_X12_115 dX12_isOk_1 rfl rfl ?_
  refine g_iconst h dX12_isOk_4 (v := (-1)) rfl ?_
  refine g_icmp_ne h 12 dX12_isOk_5 rfl (fun _ => ?_) (fun c => absurd (by rw [hf] at c; exact c) (m1_nI hf4))
  refine g_iconst h dX12_isOk_12 (v := nI 0) rfl ?_
  refine g_zret h dX12_isOk_13 (by first | rfl | exact nar_b2i _) ?_
  exact hQ
set_option maxRecDepth 100000 in
set_option maxHeartbeats 4000000 in
theorem sp_is2 {K wd : Nat → Nat} {V : Nat → Int32} {M : Nat} {d p k : Nat} (hkk : k < 28) {I : MI} {J : MJ} {P : MP} (hS : rsO K V wd M I) (ha : alR p I) (hp : p ≤ M) {Q : Int32 → MI → MJ → MP → Prop} (hQ1 : K p = k → Q (nI 1) I J P) (hQ0 : ¬ K p = k → Q (nI 0) I J P) : Sp yX12_is cX12_is 3 (some .boolean) (d + 1) [.ref 80, .int (nI 2), .int (nI k)] I J P (Qi Q) := by
  intro Γ h
  show VG Γ 0 0 0 [some (.ref 80), some (.int (nI 2)), some (.int (nI k))] [] _ _ _ _
  obtain ⟨hM4, hM, hk, -⟩ := id hS
  obtain ⟨k47, k82, k83a, k83b, k83c⟩ := hk p hp
  obtain ⟨s2, s4, s1, s3⟩ := srt2 _ k47
  have hsl := srt_lt (K p)
  refine g_aload_0 h dX12_is_0 ?_
  refine g_cVi0 h rok0 mi_X12_isOk dX12_is_1 ml_X12_121 rfl rfl rfl (Nat.le_of_ble_eq_true rfl) (Nat.le_of_ble_eq_true rfl) (sp_isOk_al ha ?_)
  refine g_if_eq h 37 dX12_is_4 rfl (fun c => absurd c (by decide)) (fun _ => ?_)
  refine g_aload_0 h dX12_is_7 ?_
  refine g_getC h fl_X12_36 dX12_is_8 rfl rfl ?_
  refine g_aload_0 h dX12_is_11 ?_
  refine g_getI h fl_X12_118 dX12_is_12 rfl rfl ?_
  refine g_iald h p dX12_is_15 rfl ha.1 (by omega) ?_
  rw [k82]
  refine g_iload_1 h dX12_is_16 ?_
  refine g_icmp_ne h 37 dX12_is_17 rfl (fun c17 => ?_) (fun c17 => ?_)
  · refine g_iconst h dX12_is_37 (v := nI 0) rfl ?_
    refine g_zret h dX12_is_38 (by first | rfl | exact nar_b2i _) ?_
    first
      | (have q2 : K p = k := eqN (by first | exact c30 | exact Classical.not_not.mp c30) (by omega) (by omega)
         exact hQ1 q2)
      | (have q2 : ¬ K p = k := fun q => c30 (by rw [q])
         exact hQ0 q2)
      | (have q2 : ¬ K p = k := fun q => c17 (by rw [s2.mpr (by omega)])
         exact hQ0 q2)
  · have q1 : K p < 28 := s2.mp (eqN (by first | exact c17 | exact Classical.not_not.mp c17) (by omega) (by decide))
    refine g_aload_0 h dX12_is_20 ?_
    refine g_getC h fl_X12_42 dX12_is_21 rfl rfl ?_
    refine g_aload_0 h dX12_is_24 ?_
    refine g_getI h fl_X12_118 dX12_is_25 rfl rfl ?_
    refine g_iald h p dX12_is_28 rfl ha.1 (by omega) ?_
    rw [k83a q1]
    refine g_iload_2 h dX12_is_29 ?_
    refine g_icmp_ne h 37 dX12_is_30 rfl (fun c30 => ?_) (fun c30 => ?_)
    · refine g_iconst h dX12_is_37 (v := nI 0) rfl ?_
      refine g_zret h dX12_is_38 (by first | rfl | exact nar_b2i _) ?_
      first
        | (have q2 : K p = k := eqN (by first | exact c30 | exact Classical.not_not.mp c30) (by omega) (by omega)
           exact hQ1 q2)
        | (have q2 : ¬ K p = k := fun q => c30 (by rw [q])
           exact hQ0 q2)
        | (have q2 : ¬ K p = k := fun q => c17 (by rw [s2.mpr (by omega)])
           exact hQ0 q2)
    · refine g_iconst h dX12_is_33 (v := nI 1) rfl ?_
      refine g_goto h 38 dX12_is_34 rfl ?_
      refine g_zret h dX12_is_38 (by first | rfl | exact nar_b2i _) ?_
      first
        | (have q2 : K p = k := eqN (by first | exact c30 | exact Classical.not_not.mp c30) (by omega) (by omega)
           exact hQ1 q2)
        | (have q2 : ¬ K p = k := fun q => c30 (by rw [q])
           exact hQ0 q2)
        | (have q2 : ¬ K p = k := fun q => c17 (by rw [s2.mpr (by omega)])
           exact hQ0 q2)
set_option maxRecDepth 100000 in
set_option maxHeartbeats 4000000 in
theorem sp_is4 {K wd : Nat → Nat} {V : Nat → Int32} {M : Nat} {d p k : Nat} (hkk : 30 ≤ k ∧ k ≤ 44) {I : MI} {J : MJ} {P : MP} (hS : rsO K V wd M I) (ha : alR p I) (hp : p ≤ M) {Q : Int32 → MI → MJ → MP → Prop} (hQ1 : K p = k → Q (nI 1) I J P) (hQ0 : ¬ K p = k → Q (nI 0) I J P) : Sp yX12_is cX12_is 3 (some .boolean) (d + 1) [.ref 80, .int (nI 4), .int (nI (sgC k))] I J P (Qi Q) := by
  intro Γ h
  show VG Γ 0 0 0 [some (.ref 80), some (.int (nI 4)), some (.int (nI (sgC k)))] [] _ _ _ _
  obtain ⟨hM4, hM, hk, -⟩ := id hS
  obtain ⟨k47, k82, k83a, k83b, k83c⟩ := hk p hp
  obtain ⟨s2, s4, s1, s3⟩ := srt2 _ k47
  have hsl := srt_lt (K p)
  refine g_aload_0 h dX12_is_0 ?_
  refine g_cVi0 h rok0 mi_X12_isOk dX12_is_1 ml_X12_121 rfl rfl rfl (Nat.le_of_ble_eq_true rfl) (Nat.le_of_ble_eq_true rfl) (sp_isOk_al ha ?_)
  refine g_if_eq h 37 dX12_is_4 rfl (fun c => absurd c (by decide)) (fun _ => ?_)
  refine g_aload_0 h dX12_is_7 ?_
  refine g_getC h fl_X12_36 dX12_is_8 rfl rfl ?_
  refine g_aload_0 h dX12_is_11 ?_
  refine g_getI h fl_X12_118 dX12_is_12 rfl rfl ?_
  refine g_iald h p dX12_is_15 rfl ha.1 (by omega) ?_
  rw [k82]
  refine g_iload_1 h dX12_is_16 ?_
  refine g_icmp_ne h 37 dX12_is_17 rfl (fun c17 => ?_) (fun c17 => ?_)
  · refine g_iconst h dX12_is_37 (v := nI 0) rfl ?_
    refine g_zret h dX12_is_38 (by first | rfl | exact nar_b2i _) ?_
    first
      | (have q2 : K p = k := sgC_inj _ (by omega) _ (by omega) q1.1 hkk.1 (eqN (by first | exact c30 | exact Classical.not_not.mp c30) (by have := sgC_lt (K p) k47; omega) (by have := sgC_lt k (by omega); omega))
         exact hQ1 q2)
      | (have q2 : ¬ K p = k := fun q => c30 (by rw [q])
         exact hQ0 q2)
      | (have q2 : ¬ K p = k := fun q => c17 (by rw [s4.mpr (by omega)])
         exact hQ0 q2)
  · have q1 : 30 ≤ K p ∧ K p ≤ 44 := s4.mp (eqN (by first | exact c17 | exact Classical.not_not.mp c17) (by omega) (by decide))
    refine g_aload_0 h dX12_is_20 ?_
    refine g_getC h fl_X12_42 dX12_is_21 rfl rfl ?_
    refine g_aload_0 h dX12_is_24 ?_
    refine g_getI h fl_X12_118 dX12_is_25 rfl rfl ?_
    refine g_iald h p dX12_is_28 rfl ha.1 (by omega) ?_
    rw [k83c q1.1 q1.2]
    refine g_iload_2 h dX12_is_29 ?_
    refine g_icmp_ne h 37 dX12_is_30 rfl (fun c30 => ?_) (fun c30 => ?_)
    · refine g_iconst h dX12_is_37 (v := nI 0) rfl ?_
      refine g_zret h dX12_is_38 (by first | rfl | exact nar_b2i _) ?_
      first
        | (have q2 : K p = k := sgC_inj _ (by omega) _ (by omega) q1.1 hkk.1 (eqN (by first | exact c30 | exact Classical.not_not.mp c30) (by have := sgC_lt (K p) k47; omega) (by have := sgC_lt k (by omega); omega))
           exact hQ1 q2)
        | (have q2 : ¬ K p = k := fun q => c30 (by rw [q])
           exact hQ0 q2)
        | (have q2 : ¬ K p = k := fun q => c17 (by rw [s4.mpr (by omega)])
           exact hQ0 q2)
    · refine g_iconst h dX12_is_33 (v := nI 1) rfl ?_
      refine g_goto h 38 dX12_is_34 rfl ?_
      refine g_zret h dX12_is_38 (by first | rfl | exact nar_b2i _) ?_
      first
        | (have q2 : K p = k := sgC_inj _ (by omega) _ (by omega) q1.1 hkk.1 (eqN (by first | exact c30 | exact Classical.not_not.mp c30) (by have := sgC_lt (K p) k47; omega) (by have := sgC_lt k (by omega); omega))
           exact hQ1 q2)
        | (have q2 : ¬ K p = k := fun q => c30 (by rw [q])
           exact hQ0 q2)
        | (have q2 : ¬ K p = k := fun q => c17 (by rw [s4.mpr (by omega)])
           exact hQ0 q2)
set_option maxRecDepth 100000 in
set_option maxHeartbeats 4000000 in
theorem sp_is_dd {d : Nat} {w o : Int32} {I : MI} {J : MJ} {P : MP} {f : Nat} (hf4 : f < 2 ^ 31) (hf : I 80 16 = nI f) {Q : Int32 → MI → MJ → MP → Prop} (hQ : Q (nI 0) I J P) : Sp yX12_is cX12_is 3 (some .boolean) (d + 1) [.ref 80, .int w, .int o] I J P (Qi Q) := by
  intro Γ h
  show VG Γ 0 0 0 [some (.ref 80), some (.int w), some (.int o)] [] _ _ _ _
  refine g_aload_0 h dX12_is_0 ?_
  refine g_cVi0 h rok0 mi_X12_isOk dX12_is_1 ml_X12_121 rfl rfl rfl (Nat.le_of_ble_eq_true rfl) (Nat.le_of_ble_eq_true rfl) (sp_isOk_dd hf4 hf ?_)
  refine g_if_eq h 37 dX12_is_4 rfl (fun _ => ?_) (fun c => absurd c (by decide))
  refine g_iconst h dX12_is_37 (v := nI 0) rfl ?_
  refine g_zret h dX12_is_38 (by first | rfl | exact nar_b2i _) ?_
  exact hQ
set_option maxRecDepth 100000 in
set_option maxHeartbeats 4000000 in
theorem sp_take2 {K wd : Nat → Nat} {V : Nat → Int32} {M : Nat} {d p k : Nat} (hkk : k < 28) {I : MI} {J : MJ} {P : MP} (hS : rsO K V wd M I) (ha : alR p I) (hp : p ≤ M) {Q : MI → MJ → MP → Prop} (hQ1 : K p = k → Q (up2 I 80 14 (nI (p + 1))) J P) (hQ0 : ¬ K p = k → Q (up2 I 80 16 (nI p)) J P) : Sp yX12_take cX12_take 3 none (d + 2) [.ref 80, .int (nI 2), .int (nI k)] I J P (Qv Q) := by
  intro Γ h
  show VG Γ 0 0 0 [some (.ref 80), some (.int (nI 2)), some (.int (nI k))] [] _ _ _ _
  refine g_aload_0 h dX12_take_0 ?_
  refine g_iload_1 h dX12_take_1 ?_
  refine g_iload_2 h dX12_take_2 ?_
  refine g_cVi2 h rok0 mi_X12_is dX12_take_3 ml_X12_125 rfl rfl rfl (Nat.le_of_ble_eq_true rfl) (Nat.le_of_ble_eq_true rfl) (sp_is2 hkk hS ha hp (fun q => ?_) (fun q => ?_))
  · refine g_if_eq h 22 dX12_take_6 rfl (fun c => absurd c (by decide)) (fun _ => ?_)
    refine g_aload_0 h dX12_take_9 ?_
    refine g_dup h dX12_take_10 rfl ?_
    refine g_getI h fl_X12_118 dX12_take_11 rfl rfl ?_
    refine g_iconst h dX12_take_14 (v := nI 1) rfl ?_
    refine g_iadd h dX12_take_15 ?_
    refine g_putI h fp_X12_118 dX12_take_16 rfl rfl ?_
    refine g_goto h 26 dX12_take_19 rfl ?_
    refine g_vret h dX12_take_26 ?_
    rw [show I 80 14 + nI 1 = nI (p + 1) by rw [ha.1]; exact nI_1 p]
    exact hQ1 q
  · refine g_if_eq h 22 dX12_take_6 rfl (fun _ => ?_) (fun c => absurd c (by decide))
    refine g_aload_0 h dX12_take_22 ?_
    refine g_cVv0 h rok0 mi_X12_fail dX12_take_23 ml_X12_129 rfl rfl rfl (Nat.le_of_ble_eq_true rfl) (Nat.le_of_ble_eq_true rfl) (sp_fail_al ha ?_)
    refine g_vret h dX12_take_26 ?_
    exact hQ0 q
set_option maxRecDepth 100000 in
set_option maxHeartbeats 4000000 in
theorem sp_take4 {K wd : Nat → Nat} {V : Nat → Int32} {M : Nat} {d p k : Nat} (hkk : 30 ≤ k ∧ k ≤ 44) {I : MI} {J : MJ} {P : MP} (hS : rsO K V wd M I) (ha : alR p I) (hp : p ≤ M) {Q : MI → MJ → MP → Prop} (hQ1 : K p = k → Q (up2 I 80 14 (nI (p + 1))) J P) (hQ0 : ¬ K p = k → Q (up2 I 80 16 (nI p)) J P) : Sp yX12_take cX12_take 3 none (d + 2) [.ref 80, .int (nI 4), .int (nI (sgC k))] I J P (Qv Q) := by
  intro Γ h
  show VG Γ 0 0 0 [some (.ref 80), some (.int (nI 4)), some (.int (nI (sgC k)))] [] _ _ _ _
  refine g_aload_0 h dX12_take_0 ?_
  refine g_iload_1 h dX12_take_1 ?_
  refine g_iload_2 h dX12_take_2 ?_
  refine g_cVi2 h rok0 mi_X12_is dX12_take_3 ml_X12_125 rfl rfl rfl (Nat.le_of_ble_eq_true rfl) (Nat.le_of_ble_eq_true rfl) (sp_is4 hkk hS ha hp (fun q => ?_) (fun q => ?_))
  · refine g_if_eq h 22 dX12_take_6 rfl (fun c => absurd c (by decide)) (fun _ => ?_)
    refine g_aload_0 h dX12_take_9 ?_
    refine g_dup h dX12_take_10 rfl ?_
    refine g_getI h fl_X12_118 dX12_take_11 rfl rfl ?_
    refine g_iconst h dX12_take_14 (v := nI 1) rfl ?_
    refine g_iadd h dX12_take_15 ?_
    refine g_putI h fp_X12_118 dX12_take_16 rfl rfl ?_
    refine g_goto h 26 dX12_take_19 rfl ?_
    refine g_vret h dX12_take_26 ?_
    rw [show I 80 14 + nI 1 = nI (p + 1) by rw [ha.1]; exact nI_1 p]
    exact hQ1 q
  · refine g_if_eq h 22 dX12_take_6 rfl (fun _ => ?_) (fun c => absurd c (by decide))
    refine g_aload_0 h dX12_take_22 ?_
    refine g_cVv0 h rok0 mi_X12_fail dX12_take_23 ml_X12_129 rfl rfl rfl (Nat.le_of_ble_eq_true rfl) (Nat.le_of_ble_eq_true rfl) (sp_fail_al ha ?_)
    refine g_vret h dX12_take_26 ?_
    exact hQ0 q
set_option maxRecDepth 100000 in
set_option maxHeartbeats 4000000 in
theorem sp_take_dd {d : Nat} {w o : Int32} {I : MI} {J : MJ} {P : MP} {f : Nat} (hf4 : f < 2 ^ 31) (hf : I 80 16 = nI f) {Q : MI → MJ → MP → Prop} (hQ : Q I J P) : Sp yX12_take cX12_take 3 none (d + 2) [.ref 80, .int w, .int o] I J P (Qv Q) := by
  intro Γ h
  show VG Γ 0 0 0 [some (.ref 80), some (.int w), some (.int o)] [] _ _ _ _
  refine g_aload_0 h dX12_take_0 ?_
  refine g_iload_1 h dX12_take_1 ?_
  refine g_iload_2 h dX12_take_2 ?_
  refine g_cVi2 h rok0 mi_X12_is dX12_take_3 ml_X12_125 rfl rfl rfl (Nat.le_of_ble_eq_true rfl) (Nat.le_of_ble_eq_true rfl) (sp_is_dd hf4 hf ?_)
  refine g_if_eq h 22 dX12_take_6 rfl (fun _ => ?_) (fun c => absurd c (by decide))
  refine g_aload_0 h dX12_take_22 ?_
  refine g_cVv0 h rok0 mi_X12_fail dX12_take_23 ml_X12_129 rfl rfl rfl (Nat.le_of_ble_eq_true rfl) (Nat.le_of_ble_eq_true rfl) (sp_fail_dd hf4 hf ?_)
  refine g_vret h dX12_take_26 ?_
  exact hQ
def tlF (I I' : MI) : Prop := ∀ a j, ¬ (a = 80 ∧ (j = 17 ∨ j = 18)) → I' a j = I a j
theorem tlF.up {I : MI} {u v : Int32} : tlF I (up2 (up2 I 80 17 u) 80 18 v) := fun a j h => by
  by_cases ha : a = 80
  · subst ha
    rw [up2_n (by omega), up2_n (by omega)]
  · rw [up2_o ha, up2_o ha]
set_option maxRecDepth 100000 in
set_option maxHeartbeats 4000000 in
theorem sp_tell {d n k : Nat} (hn : 0 < n ∧ n < 10) (hk : k < 401) {x : Option (Nat × Nat)} {I : MI} {J : MJ} {P : MP} (he : erS I x) {Q : MI → MJ → MP → Prop} (hQ : ∀ I', tlF I I' → erS I' (tl x n k) → Q I' J P) : Sp yX12_tell cX12_tell 3 none d [.ref 80, .int (nI n), .int (nI k)] I J P (Qv Q) := by
  intro Γ h
  show VG Γ 0 0 0 [some (.ref 80), some (.int (nI n)), some (.int (nI k))] [] _ _ _ _
  rcases x with _ | ⟨e, t⟩
  · have e0 : I 80 17 = nI 0 := he
    refine g_aload_0 h dX12_tell_0 ?_
    refine g_getI h fl_X12_132 dX12_tell_1 rfl rfl ?_
    refine g_if_eq h 24 dX12_tell_4 rfl (fun _ => ?_) (fun c => absurd (by rw [e0]; rfl) c)
    refine g_aload_0 h dX12_tell_24 ?_
    refine g_iload_1 h dX12_tell_25 ?_
    refine g_putI h fp_X12_132 dX12_tell_26 rfl rfl ?_
    refine g_aload_0 h dX12_tell_29 ?_
    refine g_iload_2 h dX12_tell_30 ?_
    refine g_putI h fp_X12_135 dX12_tell_31 rfl rfl ?_
    refine g_vret h dX12_tell_34 ?_
    exact hQ _ tlF.up ⟨⟨hn.1, hn.2, hk⟩, by simp [up2], by simp [up2]⟩
  · obtain ⟨⟨x1, x2, x3⟩, e1, e2⟩ := he
    have x3 : t < 401 := x3
    have x1 : 0 < e := x1
    have x2 : e < 10 := x2
    have e1 : I 80 17 = nI e := e1
    have e2 : I 80 18 = nI t := e2
    refine g_aload_0 h dX12_tell_0 ?_
    refine g_getI h fl_X12_132 dX12_tell_1 rfl rfl ?_
    refine g_if_eq h 24 dX12_tell_4 rfl (fun c => absurd (by rw [e1] at c; exact c) (nI_ne0 x1 (by omega))) (fun _ => ?_)
    refine g_aload_0 h dX12_tell_7 ?_
    refine g_getI h fl_X12_135 dX12_tell_8 rfl rfl ?_
    refine g_iload_2 h dX12_tell_11 ?_
    refine g_icmp_ne h 23 dX12_tell_12 rfl (fun c12 => ?_) (fun c12 => ?_)
    · refine g_vret h dX12_tell_23 ?_
      first
        | (have q : ¬ t = k := fun q => c12 (by rw [e2, q])
           exact hQ I (fun _ _ _ => rfl) (by rw [tl, if_neg (fun z => q z.1)]; exact ⟨⟨x1, x2, x3⟩, e1, e2⟩))
        | (have q : ¬ n < e := fun q => absurd (by rw [e1]; exact nI_lt q (by omega)) c20
           exact hQ I (fun _ _ _ => rfl) (by rw [tl, if_neg (fun z => q z.2)]; exact ⟨⟨x1, x2, x3⟩, e1, e2⟩))
    · refine g_aload_0 h dX12_tell_15 ?_
      refine g_getI h fl_X12_132 dX12_tell_16 rfl rfl ?_
      refine g_iload_1 h dX12_tell_19 ?_
      refine g_icmp_gt h 24 dX12_tell_20 rfl (fun c20 => ?_) (fun c20 => ?_)
      · refine g_aload_0 h dX12_tell_24 ?_
        refine g_iload_1 h dX12_tell_25 ?_
        refine g_putI h fp_X12_132 dX12_tell_26 rfl rfl ?_
        refine g_aload_0 h dX12_tell_29 ?_
        refine g_iload_2 h dX12_tell_30 ?_
        refine g_putI h fp_X12_135 dX12_tell_31 rfl rfl ?_
        refine g_vret h dX12_tell_34 ?_
        have q1 : t = k := eqN (by rw [← e2]; first | exact c12 | exact Classical.not_not.mp c12) (by omega) (by omega)
        have q2 : n < e := ltN (by rw [← e1]; exact c20) (by omega) (by omega)
        refine hQ _ tlF.up ?_
        rw [tl, if_pos ⟨q1, q2⟩]
        exact ⟨⟨hn.1, hn.2, hk⟩, by simp [up2], by simp [up2]⟩
      · refine g_vret h dX12_tell_23 ?_
        first
          | (have q : ¬ t = k := fun q => c12 (by rw [e2, q])
             exact hQ I (fun _ _ _ => rfl) (by rw [tl, if_neg (fun z => q z.1)]; exact ⟨⟨x1, x2, x3⟩, e1, e2⟩))
          | (have q : ¬ n < e := fun q => absurd (by rw [e1]; exact nI_lt q (by omega)) c20
             exact hQ I (fun _ _ _ => rfl) (by rw [tl, if_neg (fun z => q z.2)]; exact ⟨⟨x1, x2, x3⟩, e1, e2⟩))
set_option maxRecDepth 100000 in
set_option maxHeartbeats 4000000 in
theorem sp_deeper8 {d p : Nat} {I : MI} {J : MJ} {P : MP} (ha : alR p I) (hd : I 80 15 = nI 8) {Q : MI → MJ → MP → Prop} (hQ : Q (up2 (up2 I 80 16 (nI p)) 80 15 (nI 9)) J P) : Sp yX12_deeper cX12_deeper 1 none (d + 1) [.ref 80] I J P (Qv Q) := by
  intro Γ h
  show VG Γ 0 0 0 [some (.ref 80)] [] _ _ _ _
  refine g_aload_0 h dX12_deeper_0 ?_
  refine g_getI h fl_X12_138 dX12_deeper_1 rfl rfl ?_
  refine g_bipush h dX12_deeper_4 (v := nI 8) rfl ?_
  refine g_icmp_ne h 13 dX12_deeper_6 rfl (fun c => absurd hd c) (fun _ => ?_)
  refine g_aload_0 h dX12_deeper_9 ?_
  refine g_cVv0 h rok0 mi_X12_fail dX12_deeper_10 ml_X12_129 rfl rfl rfl (Nat.le_of_ble_eq_true rfl) (Nat.le_of_ble_eq_true rfl) (sp_fail_al ha ?_)
  refine g_aload_0 h dX12_deeper_13 ?_
  refine g_dup h dX12_deeper_14 rfl ?_
  refine g_getI h fl_X12_138 dX12_deeper_15 rfl rfl ?_
  refine g_iconst h dX12_deeper_18 (v := nI 1) rfl ?_
  refine g_iadd h dX12_deeper_19 ?_
  refine g_putI h fp_X12_138 dX12_deeper_20 rfl rfl ?_
  refine g_vret h dX12_deeper_23 ?_
  rw [show up2 I 80 16 (nI p) 80 15 + nI 1 = nI 9 by rw [up2_n (by decide), hd]; rfl]
  exact hQ
set_option maxRecDepth 100000 in
set_option maxHeartbeats 4000000 in
theorem sp_deeper {d e : Nat} (he : e < 8) {I : MI} {J : MJ} {P : MP} (hd : I 80 15 = nI e) {Q : MI → MJ → MP → Prop} (hQ : Q (up2 I 80 15 (nI (e + 1))) J P) : Sp yX12_deeper cX12_deeper 1 none (d + 1) [.ref 80] I J P (Qv Q) := by
  intro Γ h
  show VG Γ 0 0 0 [some (.ref 80)] [] _ _ _ _
  refine g_aload_0 h dX12_deeper_0 ?_
  refine g_getI h fl_X12_138 dX12_deeper_1 rfl rfl ?_
  refine g_bipush h dX12_deeper_4 (v := nI 8) rfl ?_
  refine g_icmp_ne h 13 dX12_deeper_6 rfl (fun _ => ?_) (fun c => absurd (eqN (show nI e = nI 8 by rw [← hd]; exact c) (by omega) (by decide)) (by omega))
  refine g_aload_0 h dX12_deeper_13 ?_
  refine g_dup h dX12_deeper_14 rfl ?_
  refine g_getI h fl_X12_138 dX12_deeper_15 rfl rfl ?_
  refine g_iconst h dX12_deeper_18 (v := nI 1) rfl ?_
  refine g_iadd h dX12_deeper_19 ?_
  refine g_putI h fp_X12_138 dX12_deeper_20 rfl rfl ?_
  refine g_vret h dX12_deeper_23 ?_
  rw [show I 80 15 + nI 1 = nI (e + 1) by rw [hd]; exact nI_1 e]
  exact hQ
set_option maxRecDepth 100000 in
set_option maxHeartbeats 4000000 in
theorem sp_name {K wd : Nat → Nat} {V : Nat → Int32} {M : Nat} {d p : Nat} {I : MI} {J : MJ} {P : MP} (hS : rsO K V wd M I) (ha : alR p I) (hp : p ≤ M) {Q : Int32 → MI → MJ → MP → Prop} (hQ1 : K p = 28 → Q (nI p) (up2 I 80 14 (nI (p + 1))) J P) (hQ0 : ¬ K p = 28 → Q (nI 0) (up2 I 80 16 (nI p)) J P) : Sp yX12_name cX12_name 1 (some .int) (d + 1) [.ref 80] I J P (Qi Q) := by
  intro Γ h
  show VG Γ 0 0 0 [some (.ref 80)] [] _ _ _ _
  obtain ⟨hM4, hM, hk, -⟩ := id hS
  obtain ⟨k47, k82, k83a, k83b, k83c⟩ := hk p hp
  obtain ⟨s2, s4, s1, s3⟩ := srt2 _ k47
  have hsl := srt_lt (K p)
  refine g_aload_0 h dX12_name_0 ?_
  refine g_cVi0 h rok0 mi_X12_isOk dX12_name_1 ml_X12_121 rfl rfl rfl (Nat.le_of_ble_eq_true rfl) (Nat.le_of_ble_eq_true rfl) (sp_isOk_al ha ?_)
  refine g_if_eq h 37 dX12_name_4 rfl (fun c => absurd c (by decide)) (fun _ => ?_)
  refine g_aload_0 h dX12_name_7 ?_
  refine g_getC h fl_X12_36 dX12_name_8 rfl rfl ?_
  refine g_aload_0 h dX12_name_11 ?_
  refine g_getI h fl_X12_118 dX12_name_12 rfl rfl ?_
  refine g_iald h p dX12_name_15 rfl ha.1 (by omega) ?_
  rw [k82]
  refine g_iconst h dX12_name_16 (v := nI 1) rfl ?_
  refine g_icmp_ne h 37 dX12_name_17 rfl (fun c17 => ?_) (fun c17 => ?_)
  · refine g_aload_0 h dX12_name_37 ?_
    refine g_cVv0 h rok0 mi_X12_fail dX12_name_38 ml_X12_129 rfl rfl rfl (Nat.le_of_ble_eq_true rfl) (Nat.le_of_ble_eq_true rfl) (sp_fail_al ha ?_)
    refine g_iconst h dX12_name_41 (v := nI 0) rfl ?_
    refine g_iret h dX12_name_42 ?_
    exact hQ0 (fun q => c17 (by rw [s1.mpr q]))
  · refine g_aload_0 h dX12_name_20 ?_
    refine g_dup h dX12_name_21 rfl ?_
    refine g_getI h fl_X12_118 dX12_name_22 rfl rfl ?_
    refine g_iconst h dX12_name_25 (v := nI 1) rfl ?_
    refine g_iadd h dX12_name_26 ?_
    refine g_putI h fp_X12_118 dX12_name_27 rfl rfl ?_
    refine g_aload_0 h dX12_name_30 ?_
    refine g_getI h fl_X12_118 dX12_name_31 rfl rfl ?_
    refine g_iconst h dX12_name_34 (v := nI 1) rfl ?_
    refine g_isub h dX12_name_35 ?_
    refine g_iret h dX12_name_36 ?_
    have q : K p = 28 := s1.mp (eqN (by first | exact c17 | exact Classical.not_not.mp c17) (by omega) (by decide))
    rw [show I 80 14 + nI 1 = nI (p + 1) by rw [ha.1]; exact nI_1 p]
    exact q_i (by rw [up2_s]; exact nI_sub1 p) (hQ1 q)
set_option maxRecDepth 100000 in
set_option maxHeartbeats 4000000 in
theorem sp_name_dd {d : Nat} {I : MI} {J : MJ} {P : MP} {f : Nat} (hf4 : f < 2 ^ 31) (hf : I 80 16 = nI f) {Q : Int32 → MI → MJ → MP → Prop} (hQ : Q (nI 0) I J P) : Sp yX12_name cX12_name 1 (some .int) (d + 1) [.ref 80] I J P (Qi Q) := by
  intro Γ h
  show VG Γ 0 0 0 [some (.ref 80)] [] _ _ _ _
  refine g_aload_0 h dX12_name_0 ?_
  refine g_cVi0 h rok0 mi_X12_isOk dX12_name_1 ml_X12_121 rfl rfl rfl (Nat.le_of_ble_eq_true rfl) (Nat.le_of_ble_eq_true rfl) (sp_isOk_dd hf4 hf ?_)
  refine g_if_eq h 37 dX12_name_4 rfl (fun _ => ?_) (fun c => absurd c (by decide))
  refine g_aload_0 h dX12_name_37 ?_
  refine g_cVv0 h rok0 mi_X12_fail dX12_name_38 ml_X12_129 rfl rfl rfl (Nat.le_of_ble_eq_true rfl) (Nat.le_of_ble_eq_true rfl) (sp_fail_dd hf4 hf ?_)
  refine g_iconst h dX12_name_41 (v := nI 0) rfl ?_
  refine g_iret h dX12_name_42 ?_
  exact hQ
set_option maxRecDepth 100000 in
set_option maxHeartbeats 4000000 in
theorem lp_find {Γ : Cx} {K wd : Nat → Nat} {V : Nat → Int32} {M : Nat} {d a N len t : Nat} (hs : shp a = .inr (0, len)) (hN : N ≤ len) (ht : t ≤ M) (hkt : K t = 28) {I : MI} {J : MJ} {P : MP} (hS : rsO K V wd M I) (hnm : ∀ k, k < N → ∃ s, s ≤ M ∧ K s = 28 ∧ I a k = nI s) {Q : Int32 → MI → MJ → MP → Prop} (h : Vc RX12 cX12_find 5 (some .int) (d + 1) Γ) : ∀ (f i : Nat), i + f = N → Q (frst (fun k => decide (wd (ix (I a k)) = wd t)) f i) I J P → VG Γ 0 0 3 [some (.ref 80), some (.ref a), some (.int (nI N)), some (.int (nI t)), some (.int (nI i))] [] I J P (Fnl Γ (Qi Q)) := by
  have hle := shp_le hs
  obtain ⟨hM4, -, -, T, L, bb, ll, hW⟩ := hS
  intro f
  induction f with
  | zero =>
    intro i hi hQ
    obtain rfl : i = N := by omega
    refine g_iload_4 h dX12_find_3 ?_
    refine g_iload_2 h dX12_find_5 ?_
    refine g_icmp_ge h 30 dX12_find_6 rfl (fun _ => ?_) (fun c => absurd (nI_le (Nat.le_refl _) (by omega)) c)
    refine g_iconst h dX12_find_30 (v := (-1)) rfl ?_
    refine g_iret h dX12_find_31 ?_
    exact hQ
  | succ f ih =>
    intro i hi hQ
    obtain ⟨s, s1, s2, s3⟩ := hnm i (by omega)
    have s4 : ix (I a i) = s := by rw [s3]; exact ix_n (by omega)
    rw [frst] at hQ
    refine g_iload_4 h dX12_find_3 ?_
    refine g_iload_2 h dX12_find_5 ?_
    refine g_icmp_ge h 30 dX12_find_6 rfl (fun c => absurd c (nI_ge (by omega) (by omega))) (fun _ => ?_)
    refine g_aload_0 h dX12_find_9 ?_
    refine g_aload_1 h dX12_find_10 ?_
    refine g_iload_4 h dX12_find_11 ?_
    refine g_iald h i dX12_find_13 hs rfl (by omega) ?_
    rw [s3]
    refine g_iload_3 h dX12_find_14 ?_
    refine g_cVi2 h rok0 mi_X12_isSame dX12_find_15 ml_X12_141 rfl rfl rfl (Nat.le_of_ble_eq_true rfl) (Nat.le_of_ble_eq_true rfl) (sp_X12_isSame hM4 s1 ht s2 hkt hW ?_)
    refine g_if_eq h 24 dX12_find_18 rfl (fun c18 => ?_) (fun c18 => ?_)
    · refine g_iinc_4 h dX12_find_24 (inc1 _) (by decide) rfl ?_
      refine g_goto h 3 dX12_find_27 rfl ?_
      have q : ¬ decide (wd (ix (I a i)) = wd t) = true := by rw [s4, b2i_0.mp c18]; decide
      rw [if_neg q] at hQ
      exact ih (i + 1) (by omega) hQ
    · refine g_iload_4 h dX12_find_21 ?_
      refine g_iret h dX12_find_23 ?_
      have q : decide (wd (ix (I a i)) = wd t) = true := by rw [s4]; exact b2i_n0.mp c18
      rw [if_pos q] at hQ
      exact hQ
set_option maxRecDepth 100000 in
set_option maxHeartbeats 4000000 in
theorem sp_find {K wd : Nat → Nat} {V : Nat → Int32} {M : Nat} {d a N len t : Nat} (hs : shp a = .inr (0, len)) (hN : N ≤ len) (ht : t ≤ M) (hkt : K t = 28) {I : MI} {J : MJ} {P : MP} (hS : rsO K V wd M I) (hnm : ∀ k, k < N → ∃ s, s ≤ M ∧ K s = 28 ∧ I a k = nI s) {Q : Int32 → MI → MJ → MP → Prop} (hQ : Q (lkW wd (I a) N t) I J P) : Sp yX12_find cX12_find 5 (some .int) (d + 1) [.ref 80, .ref a, .int (nI N), .int (nI t)] I J P (Qi Q) := by
  intro Γ h
  show VG Γ 0 0 0 [some (.ref 80), some (.ref a), some (.int (nI N)), some (.int (nI t)), none] [] _ _ _ _
  refine g_iconst h dX12_find_0 (v := nI 0) rfl ?_
  refine g_istore_4 h dX12_find_1 (by decide) rfl ?_
  exact lp_find hs hN ht hkt hS hnm h N 0 (by omega) hQ
theorem kpF.at {I : MI} {k : Nat} {v : Int32} (hk : ¬ k = 2) : kpF I (up2 I 80 k v) := ⟨up2_n (fun q => hk q.symm), fun a h1 _ => up2_o (by omega)⟩
theorem kpF.tr {I I1 I2 : MI} (h : kpF I I1) (h2 : kpF I1 I2) : kpF I I2 := ⟨h2.1.trans h.1, fun a a1 a2 => (h2.2 a a1 a2).trans (h.2 a a1 a2)⟩
theorem kpF.rf {I : MI} : kpF I I := ⟨rfl, fun _ _ _ => rfl⟩
theorem erS.at {I : MI} {x : Option (Nat × Nat)} {k : Nat} {v : Int32} (h : erS I x) (h7 : ¬ k = 17) (h8 : ¬ k = 18) : erS (up2 I 80 k v) x := by
  cases x with
  | none => show up2 I 80 k v 80 17 = nI 0; rw [up2_n (fun q => h7 q.symm)]; exact h
  | some y => exact ⟨h.1, by rw [up2_n (fun q => h7 q.symm)]; exact h.2.1, by rw [up2_n (fun q => h8 q.symm)]; exact h.2.2⟩
theorem lkW_m1 {wd : Nat → Nat} {nm : Nat → Int32} {N t : Nat} (hN : N < 2 ^ 31) : lkW wd nm N t = -1 ∨ ∃ j, j < N ∧ lkW wd nm N t = nI j := by
  rcases frst_in (fun k => decide (wd (ix (nm k)) = wd t)) N 0 with q | ⟨j, _, a, _, b⟩
  · exact Or.inl q
  · exact Or.inr ⟨j, by omega, b⟩
set_option maxRecDepth 100000 in
set_option maxHeartbeats 4000000 in
theorem sp_known {K wd : Nat → Nat} {V : Nat → Int32} {M : Nat} {d p a N len : Nat} (hs : shp a = .inr (0, len)) (ha9 : 86 ≤ a) (hN : N ≤ len) (hl : len ≤ 16) {x : Option (Nat × Nat)} {I : MI} {J : MJ} {P : MP} (hS : rsO K V wd M I) (ha : alR p I) (hp : p ≤ M) (he : erS I x) (hnm : ∀ k, k < N → ∃ s, s ≤ M ∧ K s = 28 ∧ I a k = nI s) {Q : Int32 → MI → MJ → MP → Prop} (hQ1 : K p = 28 → ∀ I', (∀ a j, ¬ (a = 80 ∧ j = 14) → ¬ (a = 80 ∧ (j = 17 ∨ j = 18)) → I' a j = I a j) → alR (p + 1) I' → erS I' (if lkW wd (I a) N p = -1 then tl x 3 p else x) → Q (lkW wd (I a) N p) I' J P) (hQ0 : ¬ K p = 28 → Q (nI 0) (up2 I 80 16 (nI p)) J P) : Sp yX12_known cX12_known 5 (some .int) (d + 2) [.ref 80, .ref a, .int (nI N)] I J P (Qi Q) := by
  intro Γ h
  show VG Γ 0 0 0 [some (.ref 80), some (.ref a), some (.int (nI N)), none, none] [] _ _ _ _
  refine g_aload_0 h dX12_known_0 ?_
  refine g_cVi0 h rok0 mi_X12_name dX12_known_1 ml_X12_144 rfl rfl rfl (Nat.le_of_ble_eq_true rfl) (Nat.le_of_ble_eq_true rfl) (sp_name hS ha hp (fun q => ?_) (fun q => ?_))
  · have K1 : kpF I (up2 I 80 14 (nI (p + 1))) := kpF.at (by decide)
    have hal1 : alR (p + 1) (up2 I 80 14 (nI (p + 1))) := ⟨up2_s, by rw [up2_n (by decide)]; exact ha.2⟩
    refine g_istore_3 h dX12_known_4 (by decide) rfl ?_
    refine g_aload_0 h dX12_known_5 ?_
    refine g_cVi0 h rok0 mi_X12_isOk dX12_known_6 ml_X12_121 rfl rfl rfl (Nat.le_of_ble_eq_true rfl) (Nat.le_of_ble_eq_true rfl) (sp_isOk_al hal1 ?_)
    refine g_if_ne h 14 dX12_known_9 rfl (fun _ => ?_) (fun c => absurd c (by decide))
    refine g_aload_0 h dX12_known_14 ?_
    refine g_aload_1 h dX12_known_15 ?_
    refine g_iload_2 h dX12_known_16 ?_
    refine g_iload_3 h dX12_known_17 ?_
    refine g_cVi3 h rok0 mi_X12_find dX12_known_18 ml_X12_147 rfl rfl rfl (Nat.le_of_ble_eq_true rfl) (Nat.le_of_ble_eq_true rfl) (sp_find hs hN hp q (hS.kp K1) (by rw [up2_o (by omega)]; exact hnm) ?_)
    rw [show up2 I 80 14 (nI (p + 1)) a = I a from up2_o (by omega)]
    refine g_istore_4 h dX12_known_21 (by decide) rfl ?_
    refine g_iload_4 h dX12_known_23 ?_
    refine g_iconst h dX12_known_25 (v := (-1)) rfl ?_
    refine g_icmp_ne h 35 dX12_known_26 rfl (fun c26 => ?_) (fun c26 => ?_)
    · refine g_iload_4 h dX12_known_35 ?_
      refine g_iret h dX12_known_37 ?_
      have z : ¬ lkW wd (I a) N p = -1 := by first | exact c26 | exact fun r => c26 r
      refine hQ1 q _ (fun a j h1 h2 => ?_) hal1 ?_
      · by_cases e : a = 80
        · subst e; exact up2_n (fun r => h1 ⟨rfl, r⟩)
        · exact congrFun (up2_o e) j
      · rw [if_neg z]
        exact he.at (by decide) (by decide)
    · refine g_aload_0 h dX12_known_29 ?_
      refine g_iconst h dX12_known_30 (v := nI 3) rfl ?_
      refine g_iload_3 h dX12_known_31 ?_
      refine g_cVv2 h rok0 mi_X12_tell dX12_known_32 ml_X12_151 rfl rfl rfl (Nat.le_of_ble_eq_true rfl) (Nat.le_of_ble_eq_true rfl) (sp_tell (by decide) (by have := hS.1; omega) (he.at (by decide) (by decide)) (fun I2 f2 e2 => ?_))
      · refine g_iload_4 h dX12_known_35 ?_
        refine g_iret h dX12_known_37 ?_
        have z : lkW wd (I a) N p = -1 := by first | exact c26 | exact Classical.not_not.mp c26
        refine hQ1 q I2 (fun a j h1 h2 => (f2 a j h2).trans (by
          by_cases e : a = 80
          · subst e; exact up2_n (fun r => h1 ⟨rfl, r⟩)
          · exact congrFun (up2_o e) j)) ⟨(f2 80 14 (by omega)).trans hal1.1, (f2 80 16 (by omega)).trans hal1.2⟩ ?_
        rw [if_pos z]
        exact e2
  · refine g_istore_3 h dX12_known_4 (by decide) rfl ?_
    refine g_aload_0 h dX12_known_5 ?_
    refine g_cVi0 h rok0 mi_X12_isOk dX12_known_6 ml_X12_121 rfl rfl rfl (Nat.le_of_ble_eq_true rfl) (Nat.le_of_ble_eq_true rfl) (sp_isOk_dd (f := p) (by have := hS.1; omega) up2_s ?_)
    refine g_if_ne h 14 dX12_known_9 rfl (fun c => absurd c (by decide)) (fun _ => ?_)
    refine g_iconst h dX12_known_12 (v := nI 0) rfl ?_
    refine g_iret h dX12_known_13 ?_
    exact hQ0 q
set_option maxRecDepth 100000 in
set_option maxHeartbeats 4000000 in
theorem sp_known_dd {d a : Nat} {n : Int32} {I : MI} {J : MJ} {P : MP} {f : Nat} (hf4 : f < 2 ^ 31) (hf : I 80 16 = nI f) {Q : Int32 → MI → MJ → MP → Prop} (hQ : Q (nI 0) I J P) : Sp yX12_known cX12_known 5 (some .int) (d + 2) [.ref 80, .ref a, .int n] I J P (Qi Q) := by
  intro Γ h
  show VG Γ 0 0 0 [some (.ref 80), some (.ref a), some (.int n), none, none] [] _ _ _ _
  refine g_aload_0 h dX12_known_0 ?_
  refine g_cVi0 h rok0 mi_X12_name dX12_known_1 ml_X12_144 rfl rfl rfl (Nat.le_of_ble_eq_true rfl) (Nat.le_of_ble_eq_true rfl) (sp_name_dd hf4 hf ?_)
  refine g_istore_3 h dX12_known_4 (by decide) rfl ?_
  refine g_aload_0 h dX12_known_5 ?_
  refine g_cVi0 h rok0 mi_X12_isOk dX12_known_6 ml_X12_121 rfl rfl rfl (Nat.le_of_ble_eq_true rfl) (Nat.le_of_ble_eq_true rfl) (sp_isOk_dd hf4 hf ?_)
  refine g_if_ne h 14 dX12_known_9 rfl (fun c => absurd c (by decide)) (fun _ => ?_)
  refine g_iconst h dX12_known_12 (v := nI 0) rfl ?_
  refine g_iret h dX12_known_13 ?_
  exact hQ
set_option maxRecDepth 100000 in
set_option maxHeartbeats 4000000 in
theorem sp_number {K wd : Nat → Nat} {V : Nat → Int32} {M : Nat} {d p : Nat} {lo hi : Int32} {x : Option (Nat × Nat)} {I : MI} {J : MJ} {P : MP} (hS : rsO K V wd M I) (ha : alR p I) (hp : p ≤ M) (he : erS I x) {Q : Int32 → MI → MJ → MP → Prop} (hQ1 : K p = 29 → ∀ I', (∀ a j, ¬ (a = 80 ∧ j = 14) → ¬ (a = 80 ∧ (j = 17 ∨ j = 18)) → I' a j = I a j) → alR (p + 1) I' → erS I' (if inB (V p) lo hi = true then x else tl x 5 p) → Q (V p) I' J P) (hQ0 : ¬ K p = 29 → Q (nI 0) (up2 I 80 16 (nI p)) J P) : Sp yX12_number cX12_number 3 (some .int) (d + 4) [.ref 80, .int lo, .int hi] I J P (Qi Q) := by
  intro Γ h
  show VG Γ 0 0 0 [some (.ref 80), some (.int lo), some (.int hi)] [] _ _ _ _
  obtain ⟨hM4, hM, hk, -⟩ := id hS
  obtain ⟨k47, k82, k83a, k83b, k83c⟩ := hk p hp
  obtain ⟨s2, s4, s1, s3⟩ := srt2 _ k47
  have hsl := srt_lt (K p)
  refine g_aload_0 h dX12_number_0 ?_
  refine g_cVi0 h rok0 mi_X12_isOk dX12_number_1 ml_X12_121 rfl rfl rfl (Nat.le_of_ble_eq_true rfl) (Nat.le_of_ble_eq_true rfl) (sp_isOk_al ha ?_)
  refine g_if_eq h 20 dX12_number_4 rfl (fun c => absurd c (by decide)) (fun _ => ?_)
  refine g_aload_0 h dX12_number_7 ?_
  refine g_getC h fl_X12_36 dX12_number_8 rfl rfl ?_
  refine g_aload_0 h dX12_number_11 ?_
  refine g_getI h fl_X12_118 dX12_number_12 rfl rfl ?_
  refine g_iald h p dX12_number_15 rfl ha.1 (by omega) ?_
  rw [k82]
  refine g_iconst h dX12_number_16 (v := nI 3) rfl ?_
  refine g_icmp_eq h 26 dX12_number_17 rfl (fun c17 => ?_) (fun c17 => ?_)
  · have q : K p = 29 := s3.mp (eqN (by first | exact c17 | exact Classical.not_not.mp c17) (by omega) (by decide))
    refine g_aload_0 h dX12_number_26 ?_
    refine g_getC h fl_X12_42 dX12_number_27 rfl rfl ?_
    refine g_aload_0 h dX12_number_30 ?_
    refine g_getI h fl_X12_118 dX12_number_31 rfl rfl ?_
    refine g_iald h p dX12_number_34 rfl ha.1 (by omega) ?_
    rw [k83b q]
    refine g_iload_1 h dX12_number_35 ?_
    refine g_iload_2 h dX12_number_36 ?_
    refine g_cSi3 h rok0 mi_X12_isIn dX12_number_37 ml_X12_22 (Nat.le_of_ble_eq_true rfl) (Nat.le_of_ble_eq_true rfl) (sp_X12_isIn ?_)
    refine g_if_ne h 52 dX12_number_40 rfl (fun c40 => ?_) (fun c40 => ?_)
    · refine g_aload_0 h dX12_number_52 ?_
      refine g_dup h dX12_number_53 rfl ?_
      refine g_getI h fl_X12_118 dX12_number_54 rfl rfl ?_
      refine g_iconst h dX12_number_57 (v := nI 1) rfl ?_
      refine g_iadd h dX12_number_58 ?_
      refine g_putI h fp_X12_118 dX12_number_59 rfl rfl ?_
      refine g_aload_0 h dX12_number_62 ?_
      refine g_getC h fl_X12_42 dX12_number_63 rfl rfl ?_
      refine g_aload_0 h dX12_number_66 ?_
      refine g_getI h fl_X12_118 dX12_number_67 rfl rfl ?_
      refine g_iconst h dX12_number_70 (v := nI 1) rfl ?_
      refine g_isub h dX12_number_71 ?_
      refine g_iald h p dX12_number_72 rfl (by rw [up2_s, ha.1, show nI p + nI 1 = nI (p + 1) from nI_1 p]; exact nI_sub1 p) (by omega) ?_
      refine g_iret h dX12_number_73 ?_
      have z : inB (V p) lo hi = true := b2i_n0.mp (by first | exact c40 | exact Classical.not_not.mp c40)
      have a1 : I 80 14 + nI 1 = nI (p + 1) := by rw [ha.1]; exact nI_1 p
      rw [show up2 I 80 14 (I 80 14 + nI 1) 83 p = V p by rw [up2_o (by decide)]; exact k83b q, a1]
      refine hQ1 q _ (fun a j h1 h2 => ?_) ⟨up2_s, by rw [up2_n (by decide)]; exact ha.2⟩ (by rw [z, if_pos rfl]; exact he.at (by decide) (by decide))
      by_cases e : a = 80
      · subst e; exact up2_n (fun r => h1 ⟨rfl, r⟩)
      · exact congrFun (up2_o e) j
    · refine g_aload_0 h dX12_number_43 ?_
      refine g_iconst h dX12_number_44 (v := nI 5) rfl ?_
      refine g_aload_0 h dX12_number_45 ?_
      refine g_getI h fl_X12_118 dX12_number_46 rfl rfl ?_
      rw [ha.1]
      refine g_cVv2 h rok0 mi_X12_tell dX12_number_49 ml_X12_151 rfl rfl rfl (Nat.le_of_ble_eq_true rfl) (Nat.le_of_ble_eq_true rfl) (sp_tell (by decide) (by omega) he (fun I2 f2 e2 => ?_))
      · refine g_aload_0 h dX12_number_52 ?_
        refine g_dup h dX12_number_53 rfl ?_
        refine g_getI h fl_X12_118 dX12_number_54 rfl rfl ?_
        refine g_iconst h dX12_number_57 (v := nI 1) rfl ?_
        refine g_iadd h dX12_number_58 ?_
        refine g_putI h fp_X12_118 dX12_number_59 rfl rfl ?_
        refine g_aload_0 h dX12_number_62 ?_
        refine g_getC h fl_X12_42 dX12_number_63 rfl rfl ?_
        refine g_aload_0 h dX12_number_66 ?_
        refine g_getI h fl_X12_118 dX12_number_67 rfl rfl ?_
        refine g_iconst h dX12_number_70 (v := nI 1) rfl ?_
        refine g_isub h dX12_number_71 ?_
        refine g_iald h p dX12_number_72 rfl (by rw [up2_s, f2 80 14 (by omega), ha.1, show nI p + nI 1 = nI (p + 1) from nI_1 p]; exact nI_sub1 p) (by omega) ?_
        refine g_iret h dX12_number_73 ?_
        have z : inB (V p) lo hi = false := b2i_0.mp (by first | exact c40 | exact Classical.not_not.mp c40)
        have a1 : I2 80 14 + nI 1 = nI (p + 1) := by rw [f2 80 14 (by omega), ha.1]; exact nI_1 p
        rw [show up2 I2 80 14 (I2 80 14 + nI 1) 83 p = V p by rw [up2_o (by decide), f2 83 p (by omega)]; exact k83b q, a1]
        refine hQ1 q _ (fun a j h1 h2 => ?_) ⟨up2_s, by rw [up2_n (by decide), f2 80 16 (by omega)]; exact ha.2⟩ (by rw [z, if_neg (by decide)]; exact e2.at (by decide) (by decide))
        rw [← f2 a j h2]
        by_cases e : a = 80
        · subst e; exact up2_n (fun r => h1 ⟨rfl, r⟩)
        · exact congrFun (up2_o e) j
  · refine g_aload_0 h dX12_number_20 ?_
    refine g_cVv0 h rok0 mi_X12_fail dX12_number_21 ml_X12_129 rfl rfl rfl (Nat.le_of_ble_eq_true rfl) (Nat.le_of_ble_eq_true rfl) (sp_fail_al ha ?_)
    refine g_iconst h dX12_number_24 (v := nI 0) rfl ?_
    refine g_iret h dX12_number_25 ?_
    exact hQ0 (fun q => c17 (by rw [s3.mpr q]))
set_option maxRecDepth 100000 in
set_option maxHeartbeats 4000000 in
theorem sp_number_dd {d : Nat} {lo hi : Int32} {I : MI} {J : MJ} {P : MP} {f : Nat} (hf4 : f < 2 ^ 31) (hf : I 80 16 = nI f) {Q : Int32 → MI → MJ → MP → Prop} (hQ : Q (nI 0) I J P) : Sp yX12_number cX12_number 3 (some .int) (d + 4) [.ref 80, .int lo, .int hi] I J P (Qi Q) := by
  intro Γ h
  show VG Γ 0 0 0 [some (.ref 80), some (.int lo), some (.int hi)] [] _ _ _ _
  refine g_aload_0 h dX12_number_0 ?_
  refine g_cVi0 h rok0 mi_X12_isOk dX12_number_1 ml_X12_121 rfl rfl rfl (Nat.le_of_ble_eq_true rfl) (Nat.le_of_ble_eq_true rfl) (sp_isOk_dd hf4 hf ?_)
  refine g_if_eq h 20 dX12_number_4 rfl (fun _ => ?_) (fun c => absurd c (by decide))
  refine g_aload_0 h dX12_number_20 ?_
  refine g_cVv0 h rok0 mi_X12_fail dX12_number_21 ml_X12_129 rfl rfl rfl (Nat.le_of_ble_eq_true rfl) (Nat.le_of_ble_eq_true rfl) (sp_fail_dd hf4 hf ?_)
  refine g_iconst h dX12_number_24 (v := nI 0) rfl ?_
  refine g_iret h dX12_number_25 ?_
  exact hQ
set_option maxRecDepth 100000 in
set_option maxHeartbeats 4000000 in
theorem sp_node {d z : Nat} (hz4 : z < 401) {a b c : Int32} {I : MI} {J : MJ} {P : MP} (hz : I 104 12 = nI z) {Q : Int32 → MI → MJ → MP → Prop} (hQ : Q (nI z) (up2 (up2 (up2 (up2 I 112 z a) 113 z b) 114 z c) 104 12 (nI (z + 1))) J P) : Sp yX11_node cX11_node 4 (some .int) (d) [.ref 104, .int a, .int b, .int c] I J P (Qi Q) := by
  intro Γ h
  show VG Γ 0 0 0 [some (.ref 104), some (.int a), some (.int b), some (.int c)] [] _ _ _ _
  refine g_aload_0 h dX11_node_0 ?_
  refine g_getC h fl_X11_33 dX11_node_1 rfl rfl ?_
  refine g_aload_0 h dX11_node_4 ?_
  refine g_getI h fl_X11_58 dX11_node_5 rfl rfl ?_
  refine g_iload_1 h dX11_node_8 ?_
  refine g_iast h z dX11_node_9 rfl hz (by omega) ?_
  refine g_aload_0 h dX11_node_10 ?_
  refine g_getC h fl_X11_36 dX11_node_11 rfl rfl ?_
  refine g_aload_0 h dX11_node_14 ?_
  refine g_getI h fl_X11_58 dX11_node_15 rfl rfl ?_
  refine g_iload_2 h dX11_node_18 ?_
  refine g_iast h z dX11_node_19 rfl (by rw [up2_o (by decide)]; exact hz) (by omega) ?_
  refine g_aload_0 h dX11_node_20 ?_
  refine g_getC h fl_X11_39 dX11_node_21 rfl rfl ?_
  refine g_aload_0 h dX11_node_24 ?_
  refine g_getI h fl_X11_58 dX11_node_25 rfl rfl ?_
  refine g_iload_3 h dX11_node_28 ?_
  refine g_iast h z dX11_node_29 rfl (by rw [up2_o (by decide), up2_o (by decide)]; exact hz) (by omega) ?_
  refine g_aload_0 h dX11_node_30 ?_
  refine g_dup h dX11_node_31 rfl ?_
  refine g_getI h fl_X11_58 dX11_node_32 rfl rfl ?_
  refine g_iconst h dX11_node_35 (v := nI 1) rfl ?_
  refine g_iadd h dX11_node_36 ?_
  refine g_putI h fp_X11_58 dX11_node_37 rfl rfl ?_
  refine g_aload_0 h dX11_node_40 ?_
  refine g_getI h fl_X11_58 dX11_node_41 rfl rfl ?_
  refine g_iconst h dX11_node_44 (v := nI 1) rfl ?_
  refine g_isub h dX11_node_45 ?_
  refine g_iret h dX11_node_46 ?_
  have e1 : up2 (up2 (up2 I 112 z a) 113 z b) 114 z c 104 12 + nI 1 = nI (z + 1) := by rw [up2_o (by decide), up2_o (by decide), up2_o (by decide), hz]; exact nI_1 z
  rw [e1]
  refine q_i (by rw [up2_s]; exact nI_sub1 z) hQ
