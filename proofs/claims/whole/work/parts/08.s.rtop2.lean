/-! The reference's parser: readTop, the loop -/
theorem srt1 : ∀ k, k < 47 → (srt k = 1 ↔ k = 28) := by decide +kernel
set_option maxRecDepth 100000 in
set_option maxHeartbeats 4000000 in
theorem lp_topA {Γ : Cx} {K wd : Nat → Nat} {V : Nat → Int32} {M : Nat} {T I0 : MI} {d z e : Nat} {v1 : Int32} (hV : vR K V M) (hn : nT T < 6) {fin : Option (Nat × Nat)} {FF : (Nat → Int32) × Nat} (he : ¬ K e = 28) {J : MJ} {P : MP} (hP : P 80 9 = some 104) {Q : MI → MJ → MP → Prop} (h : Vc RX12 cX12_readTop 5 none (d + 5) Γ) (κ : ∀ I', rL K wd V M T I' e z fin → FRt z 109 I0 I' → (∀ n, n < FF.2 → I' 109 (9 * nT T + 1 + n) = FF.1 (9 * nT T + 1 + n)) → FF.2 ≤ 8 → VG Γ 0 0 121 [some (.ref 80), some (.int v1), some (.int (nI 1)), some (.int (nI (9 * nT T))), some (.int (nI FF.2))] [] I' J P (Fnl Γ (Qv Q))) : ∀ (f s many : Nat) (row : Nat → Int32) (y : Option (Nat × Nat)) (I : MI), s + f = e → (∀ t, s ≤ t → t < e → K t = 28) → many ≤ 8 → rL K wd V M T I s z y → y.or (toE (lkT wd T 1) (9 * nT T + 1) f s row many) = fin → toF (lkT wd T 1) (9 * nT T + 1) f s row many = FF → (∀ n, n < many → I 109 (9 * nT T + 1 + n) = row (9 * nT T + 1 + n)) → FRt z 109 I0 I → VG Γ 0 0 89 [some (.ref 80), some (.int v1), some (.int (nI 1)), some (.int (nI (9 * nT T))), some (.int (nI many))] [] I J P (Fnl Γ (Qv Q)) := by
  intro f
  induction f with
  | zero =>
    intro s many row y I hs hk hm hR hf hF hr hG
    obtain rfl : s = e := by omega
    obtain ⟨k47, k82, -⟩ := hR.1.1.2.2.1 s hR.1.2.2.1
    have hsl := srt_lt (K s)
    refine g_aload_0 h dX12_readTop_89 ?_
    refine g_cVi0 h rok0 mi_X12_isOk dX12_readTop_90 ml_X12_121 rfl rfl rfl (Nat.le_of_ble_eq_true rfl) (Nat.le_of_ble_eq_true rfl) (sp_isOk_al hR.1.2.1 ?_)
    refine g_if_eq h 121 dX12_readTop_93 rfl (fun c => absurd c (by decide)) (fun _ => ?_)
    refine g_aload_0 h dX12_readTop_96 ?_
    refine g_getC h fl_X12_36 dX12_readTop_97 rfl rfl ?_
    refine g_aload_0 h dX12_readTop_100 ?_
    refine g_getI h fl_X12_118 dX12_readTop_101 rfl rfl ?_
    refine g_iald h s dX12_readTop_104 rfl hR.1.2.1.1 (by have := hR.1.M4; omega) ?_
    rw [k82]
    refine g_iconst h dX12_readTop_105 (v := nI 1) rfl ?_
    refine g_icmp_ne h 121 dX12_readTop_106 rfl (fun _ => ?_) (fun c => absurd ((srt1 _ k47).mp (eqN (by first | exact c | exact Classical.not_not.mp c) (by omega) (by decide))) he)
    obtain rfl : y = fin := by rw [toE, Option.or_none] at hf; exact hf
    rw [toF] at hF
    subst hF
    exact κ I hR hG hr hm
  | succ f ih =>
    intro s many row y I hs hk hm hR hf hF hr hG
    obtain ⟨k47, k82, -⟩ := hR.1.1.2.2.1 s hR.1.2.2.1
    have k28 := hk s (Nat.le_refl _) (by omega)
    refine g_aload_0 h dX12_readTop_89 ?_
    refine g_cVi0 h rok0 mi_X12_isOk dX12_readTop_90 ml_X12_121 rfl rfl rfl (Nat.le_of_ble_eq_true rfl) (Nat.le_of_ble_eq_true rfl) (sp_isOk_al hR.1.2.1 ?_)
    refine g_if_eq h 121 dX12_readTop_93 rfl (fun c => absurd c (by decide)) (fun _ => ?_)
    refine g_aload_0 h dX12_readTop_96 ?_
    refine g_getC h fl_X12_36 dX12_readTop_97 rfl rfl ?_
    refine g_aload_0 h dX12_readTop_100 ?_
    refine g_getI h fl_X12_118 dX12_readTop_101 rfl rfl ?_
    refine g_iald h s dX12_readTop_104 rfl hR.1.2.1.1 (by have := hR.1.M4; omega) ?_
    rw [show I 82 s = nI 1 by rw [k82, k28]; rfl]
    refine g_iconst h dX12_readTop_105 (v := nI 1) rfl ?_
    refine g_icmp_ne h 121 dX12_readTop_106 rfl (fun c => absurd c (by decide)) (fun _ => ?_)
    refine g_aload_0 h dX12_readTop_109 ?_
    refine g_iload_3 h dX12_readTop_110 ?_
    refine g_iload_4 h dX12_readTop_111 ?_
    refine g_cVi2 h rok0 mi_X12_readOver dX12_readTop_113 ml_X12_257 rfl rfl rfl (Nat.le_of_ble_eq_true rfl) (Nat.le_of_ble_eq_true rfl) (sp_ovA hV hn hm hP hR hf hF hr (fun _ I2 row2 many2 y2 g2 m2 r2 f2 F2 a2 => ?_) (fun q => absurd k28 q))
    · refine g_istore_4 h dX12_readTop_116 (by decide) rfl ?_
      refine g_goto h 89 dX12_readTop_118 rfl ?_
      exact ih (s + 1) many2 row2 y2 I2 (by omega) (fun t t1 t2 => hk t (by omega) t2) m2 r2 f2 F2 a2 (hG.tr g2)
set_option maxRecDepth 100000 in
set_option maxHeartbeats 4000000 in
theorem lp_topB {Γ : Cx} {K wd : Nat → Nat} {V : Nat → Int32} {M : Nat} {T I0 : MI} {d z e : Nat} {v1 : Int32} (hV : vR K V M) {y : Option (Nat × Nat)} (hy : ¬ y = none) (he : ¬ K e = 28) {J : MJ} {P : MP} (hP : P 80 9 = some 104) {Q : MI → MJ → MP → Prop} (h : Vc RX12 cX12_readTop 5 none (d + 5) Γ) (κ : ∀ I' many, many ≤ 8 → rL K wd V M T I' e z y → FRt z 90 I0 I' → VG Γ 0 0 121 [some (.ref 80), some (.int v1), some (.int (nI 0)), some (.int (-1)), some (.int (nI many))] [] I' J P (Fnl Γ (Qv Q))) : ∀ (f s many : Nat) (I : MI), s + f = e → (∀ t, s ≤ t → t < e → K t = 28) → many ≤ 8 → rL K wd V M T I s z y → FRt z 90 I0 I → VG Γ 0 0 89 [some (.ref 80), some (.int v1), some (.int (nI 0)), some (.int (-1)), some (.int (nI many))] [] I J P (Fnl Γ (Qv Q)) := by
  intro f
  induction f with
  | zero =>
    intro s many I hs hk hm hR hG
    obtain rfl : s = e := by omega
    obtain ⟨k47, k82, -⟩ := hR.1.1.2.2.1 s hR.1.2.2.1
    have hsl := srt_lt (K s)
    refine g_aload_0 h dX12_readTop_89 ?_
    refine g_cVi0 h rok0 mi_X12_isOk dX12_readTop_90 ml_X12_121 rfl rfl rfl (Nat.le_of_ble_eq_true rfl) (Nat.le_of_ble_eq_true rfl) (sp_isOk_al hR.1.2.1 ?_)
    refine g_if_eq h 121 dX12_readTop_93 rfl (fun c => absurd c (by decide)) (fun _ => ?_)
    refine g_aload_0 h dX12_readTop_96 ?_
    refine g_getC h fl_X12_36 dX12_readTop_97 rfl rfl ?_
    refine g_aload_0 h dX12_readTop_100 ?_
    refine g_getI h fl_X12_118 dX12_readTop_101 rfl rfl ?_
    refine g_iald h s dX12_readTop_104 rfl hR.1.2.1.1 (by have := hR.1.M4; omega) ?_
    rw [k82]
    refine g_iconst h dX12_readTop_105 (v := nI 1) rfl ?_
    refine g_icmp_ne h 121 dX12_readTop_106 rfl (fun _ => ?_) (fun c => absurd ((srt1 _ k47).mp (eqN (by first | exact c | exact Classical.not_not.mp c) (by omega) (by decide))) he)
    exact κ I many hm hR hG
  | succ f ih =>
    intro s many I hs hk hm hR hG
    obtain ⟨k47, k82, -⟩ := hR.1.1.2.2.1 s hR.1.2.2.1
    have k28 := hk s (Nat.le_refl _) (by omega)
    refine g_aload_0 h dX12_readTop_89 ?_
    refine g_cVi0 h rok0 mi_X12_isOk dX12_readTop_90 ml_X12_121 rfl rfl rfl (Nat.le_of_ble_eq_true rfl) (Nat.le_of_ble_eq_true rfl) (sp_isOk_al hR.1.2.1 ?_)
    refine g_if_eq h 121 dX12_readTop_93 rfl (fun c => absurd c (by decide)) (fun _ => ?_)
    refine g_aload_0 h dX12_readTop_96 ?_
    refine g_getC h fl_X12_36 dX12_readTop_97 rfl rfl ?_
    refine g_aload_0 h dX12_readTop_100 ?_
    refine g_getI h fl_X12_118 dX12_readTop_101 rfl rfl ?_
    refine g_iald h s dX12_readTop_104 rfl hR.1.2.1.1 (by have := hR.1.M4; omega) ?_
    rw [show I 82 s = nI 1 by rw [k82, k28]; rfl]
    refine g_iconst h dX12_readTop_105 (v := nI 1) rfl ?_
    refine g_icmp_ne h 121 dX12_readTop_106 rfl (fun c => absurd c (by decide)) (fun _ => ?_)
    refine g_aload_0 h dX12_readTop_109 ?_
    refine g_iload_3 h dX12_readTop_110 ?_
    refine g_iload_4 h dX12_readTop_111 ?_
    refine g_cVi2 h rok0 mi_X12_readOver dX12_readTop_113 ml_X12_257 rfl rfl rfl (Nat.le_of_ble_eq_true rfl) (Nat.le_of_ble_eq_true rfl) (sp_ovB hV hm hy hP hR (fun _ I2 many2 g2 m2 r2 => ?_) (fun q => absurd k28 q))
    · refine g_istore_4 h dX12_readTop_116 (by decide) rfl ?_
      refine g_goto h 89 dX12_readTop_118 rfl ?_
      exact ih (s + 1) many2 I2 (by omega) (fun t t1 t2 => hk t (by omega) t2) m2 r2 (hG.tr g2)
