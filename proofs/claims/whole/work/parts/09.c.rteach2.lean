/-! The reference's teach, whole -/
theorem dn_rl {K wd : Nat → Nat} {V : Nat → Int32} {M : Nat} {I : MI} (hS : rsO K V wd M I) (hV : vR K V M) (hb : ∀ j, j < 5 → I 104 j = nI 0) (hz : I 104 12 = nI 0) (h14 : I 80 14 = nI 0) (h15 : I 80 15 = nI 0) (h16 : I 80 16 = -1) (h17 : I 80 17 = nI 0) : rL K wd V M T00 I 0 0 none := by
  have hn : nmO K M T00 := fun i hi k hk => absurd hk (by show ¬ k < ix (nI 0); rw [ixz]; omega)
  have hk : bk T00 I := by
    refine ⟨⟨fun i hi => ?_, ?_, ?_, ?_, ?_, ?_⟩, fun i hi k hk => absurd hk ?_, fun k hk => absurd hk ?_, fun k hk => absurd hk ?_, fun k hk => absurd hk ?_, fun k hk => absurd hk ?_, fun k hk => absurd hk ?_⟩
    · rw [hb i hi]
      show nI 0 = nI (ix (nI 0))
      rw [ixz]
    all_goals first
      | (show ¬ _ < ix (nI 0); rw [ixz]; omega)
      | (show ix (nI 0) ≤ _; rw [ixz]; omega)
  exact ⟨⟨hS, ⟨h14, h16⟩, Nat.zero_le _, ⟨h15, Nat.le_refl _⟩, h17, fun y q => absurd q (by simp), ⟨hz, Nat.le_refl _⟩, hk.rnm hn hV⟩, hk, hn⟩
/-- what teach may write -/
def FRt2 (I I' : MI) : Prop := ∀ a, ¬ (80 ≤ a ∧ a ≤ 91) → ¬ (104 ≤ a ∧ a ≤ 114) → I' a = I a
def smN (K : Nat → Nat) (V : Nat → Int32) (wd : Nat → Nat) (ca : Nat → Int32) : MI := smT K V wd ca 400 T00 0
/-- the error of a list and its token -/
def tcE (K : Nat → Nat) (V : Nat → Int32) (wd : Nat → Nat) (ca : Nat → Int32) : Option (Nat × Nat) := if (prG K 400 0).1 = true then smE K V wd ca 400 T00 0 else some (1, (prG K 400 0).2)
def rtE (Tp : Nat → Nat) (L : Nat) (ca : Nat → Int32) : Option (Nat × Nat) := tcE (tK Tp L) (tV Tp L) (tC Tp L) ca
/-- the reference knows the list -/
def rfO (Tp : Nat → Nat) (L : Nat) (ca : Nat → Int32) (I I' : MI) : Prop := I' 80 0 = nI 0 ∧ I' 80 2 = nI 0 ∧ I' 80 3 = -1 ∧ I' 91 0 = I 91 0 ∧ (∀ j, 1 ≤ j → j < 35 → I' 91 j = if 3 ≤ j ∧ j < 3 + nN (smN (tK Tp L) (tV Tp L) (tC Tp L) ca) then I' 108 (j - 3) else nI 0) ∧ bk (smN (tK Tp L) (tV Tp L) (tC Tp L) ca) I' ∧ nmO (tK Tp L) (tM Tp L) (smN (tK Tp L) (tV Tp L) (tC Tp L) ca) ∧ (∃ z, z ≤ tM Tp L ∧ lcO (tK Tp L) (tV Tp L) (tC Tp L) ca z I' 400 T00 0) ∧ FRt2 I I'
set_option maxRecDepth 100000 in
set_option maxHeartbeats 4000000 in
theorem sp_isOkA {d : Nat} {I : MI} {J : MJ} {P : MP} (ha : I 80 16 = -1) {Q : Int32 → MI → MJ → MP → Prop} (hQ : Q (nI 1) I J P) : Sp yX12_isOk cX12_isOk 1 (some .boolean) d [.ref 80] I J P (Qi Q) := by
  intro Γ h
  show VG Γ 0 0 0 [some (.ref 80)] [] _ _ _ _
  refine g_aload_0 h dX12_isOk_0 ?_
  refine g_getI h fl_X12_115 dX12_isOk_1 rfl rfl ?_
  refine g_iconst h dX12_isOk_4 (v := (-1)) rfl ?_
  refine g_icmp_ne h 12 dX12_isOk_5 rfl (fun c => absurd ha c) (fun _ => ?_)
  refine g_iconst h dX12_isOk_8 (v := nI 1) rfl ?_
  refine g_goto h 13 dX12_isOk_9 rfl ?_
  refine g_zret h dX12_isOk_13 (by first | rfl | exact nar_b2i _) ?_
  exact hQ
set_option maxRecDepth 100000 in
set_option maxHeartbeats 4000000 in
theorem rteach_e {Γ : Cx} {Tp : Nat → Nat} {L D : Nat} {e t : Nat} {I : MI} {J : MJ} {P : MP} (hS : rsO (tK Tp L) (tV Tp L) (tC Tp L) (tM Tp L) I) (h84 : I 84 t = nI (tB Tp L t)) (ht : t ≤ tM Tp L) (he : 0 < e ∧ e < 10) (hc : (I 80 16 = -1 ∧ I 80 17 = nI e ∧ I 80 18 = nI t) ∨ (e = 1 ∧ I 80 16 = nI t)) {Q : Int32 → MI → MJ → MP → Prop} (hQ : ∀ I', (∀ a, a ≠ 80 → I' a = I a) → (∀ j, j ≠ 2 → j ≠ 3 → I' 80 j = I 80 j) → I' 80 2 = nI 0 → I' 80 3 = nI (tB Tp L t) → Q (nI e) I' J P) (h : Vc RX12 cX12_teach 3 (some .int) (D + 4) Γ) : VG Γ 0 0 62 [some (.ref 80), none, none] [] I J P (Fnl Γ (Qi Q)) := by
  have hM4 := hS.1
  have fin : ∀ I' : MI, I' = up2 (up2 I 80 3 (nI (tB Tp L t))) 80 2 (nI 0) → Q (nI e) I' J P := by
    rintro I' rfl
    refine hQ _ (fun a ha => ?_) (fun j j1 j2 => ?_) (by simp [up2]) (by simp [up2])
    · rw [up2_o ha, up2_o ha]
    · rw [up2_n j1, up2_n j2]
  rcases hc with ⟨c1, c2, c3⟩ | ⟨rfl, c1⟩
  · refine g_aload_0 h dX12_teach_62 ?_
    refine g_cVi0 h rok0 mi_X12_isOk dX12_teach_63 ml_X12_121 rfl rfl rfl (Nat.le_of_ble_eq_true rfl) (Nat.le_of_ble_eq_true rfl) (sp_isOkA c1 ?_)
    refine g_if_eq h 76 dX12_teach_66 rfl (fun c => absurd c (by decide)) (fun _ => ?_)
    refine g_aload_0 h dX12_teach_69 ?_
    refine g_getI h fl_X12_135 dX12_teach_70 rfl rfl ?_
    refine g_goto h 80 dX12_teach_73 rfl ?_
    rw [c3]
    refine g_istore_1 h dX12_teach_80 (by decide) rfl ?_
    refine g_aload_0 h dX12_teach_81 ?_
    refine g_cVi0 h rok0 mi_X12_isOk dX12_teach_82 ml_X12_121 rfl rfl rfl (Nat.le_of_ble_eq_true rfl) (Nat.le_of_ble_eq_true rfl) (sp_isOkA c1 ?_)
    refine g_if_eq h 95 dX12_teach_85 rfl (fun c => absurd c (by decide)) (fun _ => ?_)
    refine g_aload_0 h dX12_teach_88 ?_
    refine g_getI h fl_X12_132 dX12_teach_89 rfl rfl ?_
    refine g_goto h 96 dX12_teach_92 rfl ?_
    rw [c2]
    refine g_istore_2 h dX12_teach_96 (by decide) rfl ?_
    refine g_aload_0 h dX12_teach_97 ?_
    refine g_iload_2 h dX12_teach_98 ?_
    refine g_if_ne h 106 dX12_teach_99 rfl (fun _ => ?_) (fun c => absurd (eqN (b := 0) c (by omega) (by decide)) (by omega))
    refine g_aload_0 h dX12_teach_106 ?_
    refine g_getC h fl_X12_29 dX12_teach_107 rfl rfl ?_
    refine g_iload_1 h dX12_teach_110 ?_
    refine g_iald h t dX12_teach_111 rfl rfl (by omega) ?_
    rw [h84]
    refine g_putI h fp_X12_81 dX12_teach_112 rfl rfl ?_
    refine g_aload_0 h dX12_teach_115 ?_
    refine g_iconst h dX12_teach_116 (v := nI 0) rfl ?_
    refine g_putI h fp_X12_7 dX12_teach_117 rfl rfl ?_
    refine g_iload_2 h dX12_teach_120 ?_
    refine g_if_ne h 128 dX12_teach_121 rfl (fun _ => ?_) (fun c => absurd (eqN (b := 0) c (by omega) (by decide)) (by omega))
    refine g_iload_2 h dX12_teach_128 ?_
    refine g_iret h dX12_teach_129 ?_
    exact fin _ rfl
  · refine g_aload_0 h dX12_teach_62 ?_
    refine g_cVi0 h rok0 mi_X12_isOk dX12_teach_63 ml_X12_121 rfl rfl rfl (Nat.le_of_ble_eq_true rfl) (Nat.le_of_ble_eq_true rfl) (sp_isOk_dd (f := t) (by omega) c1 ?_)
    refine g_if_eq h 76 dX12_teach_66 rfl (fun _ => ?_) (fun c => absurd rfl c)
    refine g_aload_0 h dX12_teach_76 ?_
    refine g_getI h fl_X12_115 dX12_teach_77 rfl rfl ?_
    rw [c1]
    refine g_istore_1 h dX12_teach_80 (by decide) rfl ?_
    refine g_aload_0 h dX12_teach_81 ?_
    refine g_cVi0 h rok0 mi_X12_isOk dX12_teach_82 ml_X12_121 rfl rfl rfl (Nat.le_of_ble_eq_true rfl) (Nat.le_of_ble_eq_true rfl) (sp_isOk_dd (f := t) (by omega) c1 ?_)
    refine g_if_eq h 95 dX12_teach_85 rfl (fun _ => ?_) (fun c => absurd rfl c)
    refine g_iconst h dX12_teach_95 (v := nI 1) rfl ?_
    refine g_istore_2 h dX12_teach_96 (by decide) rfl ?_
    refine g_aload_0 h dX12_teach_97 ?_
    refine g_iload_2 h dX12_teach_98 ?_
    refine g_if_ne h 106 dX12_teach_99 rfl (fun _ => ?_) (fun c => absurd c (by decide))
    refine g_aload_0 h dX12_teach_106 ?_
    refine g_getC h fl_X12_29 dX12_teach_107 rfl rfl ?_
    refine g_iload_1 h dX12_teach_110 ?_
    refine g_iald h t dX12_teach_111 rfl rfl (by omega) ?_
    rw [h84]
    refine g_putI h fp_X12_81 dX12_teach_112 rfl rfl ?_
    refine g_aload_0 h dX12_teach_115 ?_
    refine g_iconst h dX12_teach_116 (v := nI 0) rfl ?_
    refine g_putI h fp_X12_7 dX12_teach_117 rfl rfl ?_
    refine g_iload_2 h dX12_teach_120 ?_
    refine g_if_ne h 128 dX12_teach_121 rfl (fun _ => ?_) (fun c => absurd c (by decide))
    refine g_iload_2 h dX12_teach_128 ?_
    refine g_iret h dX12_teach_129 ?_
    exact fin _ rfl
set_option maxRecDepth 100000 in
set_option maxHeartbeats 4000000 in
theorem rteach_n {Γ : Cx} {D N : Nat} {I : MI} {J : MJ} {P : MP} (hB : P 80 8 = some 93) (hN2 : P 80 9 = some 104) (hN16 : N ≤ 16) (hN : I 104 1 = nI N) (c1 : I 80 16 = -1) (c2 : I 80 17 = nI 0) {Q : Int32 → MI → MJ → MP → Prop} (hQ : ∀ I', (∀ a, a ≠ 80 → a ≠ 91 → I' a = I a) → (∀ j, j ≠ 2 → j ≠ 3 → I' 80 j = I 80 j) → I' 80 2 = nI 0 → I' 80 3 = -1 → I' 91 0 = I 91 0 → (∀ j, 1 ≤ j → j < 35 → I' 91 j = if 3 ≤ j ∧ j < 3 + N then I 108 (j - 3) else nI 0) → Q (nI 0) I' J (up2 (up2 P 80 8 (some 104)) 80 9 (some 93))) (h : Vc RX12 cX12_teach 3 (some .int) (D + 4) Γ) : VG Γ 0 0 62 [some (.ref 80), none, none] [] I J P (Fnl Γ (Qi Q)) := by
  refine g_aload_0 h dX12_teach_62 ?_
  refine g_cVi0 h rok0 mi_X12_isOk dX12_teach_63 ml_X12_121 rfl rfl rfl (Nat.le_of_ble_eq_true rfl) (Nat.le_of_ble_eq_true rfl) (sp_isOkA c1 ?_)
  refine g_if_eq h 76 dX12_teach_66 rfl (fun c => absurd c (by decide)) (fun _ => ?_)
  refine g_aload_0 h dX12_teach_69 ?_
  refine g_getI h fl_X12_135 dX12_teach_70 rfl rfl ?_
  refine g_goto h 80 dX12_teach_73 rfl ?_
  refine g_istore_1 h dX12_teach_80 (by decide) rfl ?_
  refine g_aload_0 h dX12_teach_81 ?_
  refine g_cVi0 h rok0 mi_X12_isOk dX12_teach_82 ml_X12_121 rfl rfl rfl (Nat.le_of_ble_eq_true rfl) (Nat.le_of_ble_eq_true rfl) (sp_isOkA c1 ?_)
  refine g_if_eq h 95 dX12_teach_85 rfl (fun c => absurd c (by decide)) (fun _ => ?_)
  refine g_aload_0 h dX12_teach_88 ?_
  refine g_getI h fl_X12_132 dX12_teach_89 rfl rfl ?_
  refine g_goto h 96 dX12_teach_92 rfl ?_
  rw [c2]
  refine g_istore_2 h dX12_teach_96 (by decide) rfl ?_
  refine g_aload_0 h dX12_teach_97 ?_
  refine g_iload_2 h dX12_teach_98 ?_
  refine g_if_ne h 106 dX12_teach_99 rfl (fun c => absurd rfl c) (fun _ => ?_)
  refine g_iconst h dX12_teach_102 (v := (-1)) rfl ?_
  refine g_goto h 112 dX12_teach_103 rfl ?_
  refine g_putI h fp_X12_81 dX12_teach_112 rfl rfl ?_
  refine g_aload_0 h dX12_teach_115 ?_
  refine g_iconst h dX12_teach_116 (v := nI 0) rfl ?_
  refine g_putI h fp_X12_7 dX12_teach_117 rfl rfl ?_
  refine g_iload_2 h dX12_teach_120 ?_
  refine g_if_ne h 128 dX12_teach_121 rfl (fun c => absurd rfl c) (fun _ => ?_)
  refine g_aload_0 h dX12_teach_124 ?_
  refine g_cVv0 h rok0 mi_X12_change dX12_teach_125 ml_X12_281 rfl rfl rfl (Nat.le_of_ble_eq_true rfl) (Nat.le_of_ble_eq_true rfl) (sp_X12_change hB hN2 hN16 (by rw [up2_o (by decide), up2_o (by decide)]; exact hN) (fun I2 o2 r0 r2 => ?_))
  refine g_iload_2 h dX12_teach_128 ?_
  refine g_iret h dX12_teach_129 ?_
  refine hQ I2 (fun a a1 a2 => ?_) (fun j j1 j2 => ?_) ?_ ?_ ?_ (fun j j1 j2 => ?_)
  · rw [o2 a a2, up2_o a1, up2_o a1]
  · rw [o2 80 (by decide), up2_n j1, up2_n j2]
  · rw [o2 80 (by decide), up2_s]
  · rw [o2 80 (by decide), up2_n (by decide), up2_s]
  · rw [r0, up2_o (by decide), up2_o (by decide)]
  · rw [r2 j j1 j2, up2_o (by decide), up2_o (by decide)]
theorem clO.st {K : Nat → Nat} {V mm : Nat → Int32} {n p z : Nat} {I I' : MI} (h : clO K V mm n p z I) (e : ∀ a, 104 ≤ a → a ≤ 114 → I' a = I a) : clO K V mm n p z I' := h.fr (fun j _ => by rw [e 111 (by decide) (by decide)]) (by
  have e' : nv I' 0 = nv I 0 := e 104 (by decide) (by decide)
  refine ⟨fun n _ => ⟨congrFun (e 112 (by decide) (by decide)) n, congrFun (e 113 (by decide) (by decide)) n, congrFun (e 114 (by decide) (by decide)) n⟩, ?_, ?_, ?_⟩
  · unfold nN; rw [e']; exact Nat.le_refl _
  · unfold nT; rw [e']; exact Nat.le_refl _
  · unfold nK; rw [e']; exact Nat.le_refl _) (Nat.le_refl _)
theorem lcO.st {K : Nat → Nat} {V : Nat → Int32} {wd : Nat → Nat} {ca : Nat → Int32} {z : Nat} {I I' : MI} {f : Nat} {T : MI} {p : Nat} (h : lcO K V wd ca z I f T p) (e : ∀ a, 104 ≤ a → a ≤ 114 → I' a = I a) : lcO K V wd ca z I' f T p := by
  induction f generalizing T p with
  | zero => trivial
  | succ f ih =>
    rw [lcO] at h ⊢
    by_cases k : K p = 45
    · rw [if_pos k]; trivial
    · rw [if_neg k] at h ⊢
      exact ⟨fun q => (h.1 q).st e, ih h.2⟩
set_option maxRecDepth 100000 in
set_option maxHeartbeats 4000000 in
theorem sp_X12_teach {Tp : Nat → Nat} {L D : Nat} {ca : Nat → Int32} {I : MI} {J : MJ} {P : MP} (hT : rtO Tp L I) (hB : P 80 8 = some 93) (hN2 : P 80 9 = some 104) {Q : Int32 → MI → MJ → MP → Prop} (hN : rtE Tp L ca = none → ∀ I', rfO Tp L ca I I' → Q (nI 0) I' J (up2 (up2 P 80 8 (some 104)) 80 9 (some 93))) (hE : ∀ e t, rtE Tp L ca = some (e, t) → t ≤ tM Tp L → ∀ I', FRt2 I I' → I' 91 = I 91 → I' 80 0 = nI 0 → I' 80 2 = nI 0 → I' 80 3 = nI (tB Tp L t) → Q (nI e) I' J P) : Sp yX12_teach cX12_teach 3 (some .int) (D + 4 * 8 + 18) [.ref 80] I J P (Qi Q) := by
  intro Γ h
  show VG Γ 0 0 0 [some (.ref 80), none, none] [] _ _ _ _
  refine g_aload_0 h dX12_teach_0 ?_
  refine g_iconst h dX12_teach_1 (v := nI 0) rfl ?_
  refine g_putI h fp_X12_1 dX12_teach_2 rfl rfl ?_
  refine g_aload_0 h dX12_teach_5 ?_
  refine g_cVv0 h rok0 mi_X12_split dX12_teach_6 ml_X12_272 rfl rfl rfl (Nat.le_of_ble_eq_true rfl) (Nat.le_of_ble_eq_true rfl) (sp_X12_split (T := Tp) (L := L) (by exact ⟨by rw [up2_n (by decide)]; exact hT.1, hT.2.1, by rw [up2_o (by decide)]; exact hT.2.2⟩) (fun I1 f1 r1 => ?_))
  refine g_aload_0 h dX12_teach_9 ?_
  refine g_getP h fl_X12_91 dX12_teach_10 rfl rfl hN2 ?_
  refine g_cVv0 h rok0 mi_X11_empty dX12_teach_13 ml_X12_275 rfl rfl rfl (Nat.le_of_ble_eq_true rfl) (Nat.le_of_ble_eq_true rfl) (sp_X11_empty (fun I2 o2 z2 n2 => ?_))
  refine g_aload_0 h dX12_teach_16 ?_
  refine g_iconst h dX12_teach_17 (v := nI 0) rfl ?_
  refine g_putI h fp_X12_118 dX12_teach_18 rfl rfl ?_
  refine g_aload_0 h dX12_teach_21 ?_
  refine g_iconst h dX12_teach_22 (v := nI 0) rfl ?_
  refine g_putI h fp_X12_138 dX12_teach_23 rfl rfl ?_
  refine g_aload_0 h dX12_teach_26 ?_
  refine g_iconst h dX12_teach_27 (v := (-1)) rfl ?_
  refine g_putI h fp_X12_115 dX12_teach_28 rfl rfl ?_
  refine g_aload_0 h dX12_teach_31 ?_
  refine g_iconst h dX12_teach_32 (v := nI 0) rfl ?_
  refine g_putI h fp_X12_132 dX12_teach_33 rfl rfl ?_
  have hM4 := (tM_ok (T := Tp) (L := L)).2.1
  have i1 : ∀ a, 81 ≤ a → a ≤ 91 → ∀ j, I2 a j = I1 a j := fun a a1 a2 j => by rw [o2 a (by omega)]
  have hT1 : rtO Tp L I1 := by
    have e80 := f1 80 (by decide) (by decide) (by decide) (by decide)
    have e81 := f1 81 (by decide) (by decide) (by decide) (by decide)
    refine ⟨?_, hT.2.1, ?_⟩
    · rw [e80, up2_n (by decide)]; exact hT.1
    · rw [e81, up2_o (by decide)]; exact hT.2.2
  have hS1 := rs_mk hT1 r1
  have hS2 : rsO (tK Tp L) (tV Tp L) (tC Tp L) (tM Tp L) I2 := hS1.kp ⟨by rw [o2 80 (by decide)], fun a a1 a2 => o2 a (by omega)⟩
  generalize hI3 : up2 (up2 (up2 (up2 I2 80 14 (nI 0)) 80 15 (nI 0)) 80 16 (-1)) 80 17 (nI 0) = I3
  have e3 : ∀ a, a ≠ 80 → I3 a = I2 a := fun a ha => by rw [← hI3, up2_o ha, up2_o ha, up2_o ha, up2_o ha]
  have hS3 : rsO (tK Tp L) (tV Tp L) (tC Tp L) (tM Tp L) I3 := hS2.kp ⟨by rw [← hI3]; simp [up2], fun a a1 a2 => e3 a (by omega)⟩
  have hL3 : rL (tK Tp L) (tC Tp L) (tV Tp L) (tM Tp L) T00 I3 0 0 none := dn_rl hS3 tV_R (fun j hj => by rw [e3 104 (by decide)]; exact z2 j hj) (by rw [e3 104 (by decide)]; exact n2) (by rw [← hI3]; simp [up2]) (by rw [← hI3]; simp [up2]) (by rw [← hI3]; simp [up2]) (by rw [← hI3]; simp [up2])
  have fr : ∀ I', FRl I3 I' → FRt2 I I' ∧ I' 91 = I 91 ∧ I' 80 0 = nI 0 ∧ ∀ t, t ≤ tM Tp L → I' 84 t = nI (tB Tp L t) := by
    intro I' f
    have g1 : ∀ a, ¬ (80 ≤ a ∧ a ≤ 90) → ¬ (104 ≤ a ∧ a ≤ 114) → I' a = I a := fun a a1 a2 => by
      rw [show I' a = I3 a from funext fun j => f a j (by omega) (by omega) a2, e3 a (by omega), o2 a (by omega), f1 a (by omega) (by omega) (by omega) (by omega), up2_o (by omega)]
    refine ⟨fun a a1 a2 => g1 a (by omega) a2, g1 91 (by omega) (by omega), ?_, fun t ht => ?_⟩
    · rw [f 80 0 (by omega) (by omega) (by omega), ← hI3]
      simp only [up2_n (show (0 : Nat) ≠ 17 by decide), up2_n (show (0 : Nat) ≠ 16 by decide), up2_n (show (0 : Nat) ≠ 15 by decide), up2_n (show (0 : Nat) ≠ 14 by decide)]
      rw [o2 80 (by decide), f1 80 (by decide) (by decide) (by decide) (by decide), up2_s]
    · rw [f 84 t (by omega) (by omega) (by omega), e3 84 (by decide), o2 84 (by decide)]
      exact (r1 t ht).2.1
  refine lp_rteach (D := D) (ca := ca) tV_R (fun t ht => tM_ok.2.2 t ht) hN2 h 400 0 0 T00 I3 none (by omega) hL3 FRl.rf (fun hg I' z' l2 r2 y3 c2 => ?_) (fun hg I' l2 e2 e3' => ?_)
  · obtain ⟨q1, q2, q3, q4⟩ := fr I' l2
    cases hs : smE (tK Tp L) (tV Tp L) (tC Tp L) ca 400 T00 0 with
    | none =>
      rw [hs] at r2
      obtain ⟨c3, c4⟩ := c2 (by rw [hs]; rfl)
      have k17 : I' 80 17 = nI 0 := r2.1.2.2.2.2.1
      have kN := r2.2.1.1.2.2.1
      refine rteach_n (D := D + 46) hB hN2 kN (r2.2.1.1.1 1 (by decide)) r2.1.2.1.2 k17 (fun I4 o4 o5 a1 a2 a3 a4 => hN (by rw [rtE, tcE, if_pos hg, hs]) I4 ?_) h
      have ee : ∀ a, a ≠ 80 → a ≠ 91 → I4 a = I' a := o4
      refine ⟨by rw [o5 0 (by decide) (by decide)]; exact q3, a1, a2, by rw [a3, q2], fun j j1 j2 => by rw [a4 j j1 j2, o4 108 (by decide) (by decide)]; rfl, ?_, r2.2.2, ⟨z', ?_, ?_⟩, fun a b1 b2 => by rw [o4 a (by omega) (by omega)]; exact q1 a b1 b2⟩
      · obtain ⟨b1, b2, b3, b4, b5, b6, b7⟩ := r2.2.1
        refine ⟨⟨fun i hi => by rw [o4 104 (by decide) (by decide)]; exact b1.1 i hi, b1.2⟩, fun i hi k hk => by rw [o4 _ (by omega) (by omega)]; exact b2 i hi k hk, ?_, ?_, ?_, ?_, ?_⟩
        · rw [o4 105 (by decide) (by decide)]; exact b3
        · rw [o4 106 (by decide) (by decide), o4 107 (by decide) (by decide), o4 108 (by decide) (by decide)]; exact b4
        · rw [o4 109 (by decide) (by decide)]; exact b5
        · rw [o4 110 (by decide) (by decide)]; exact b6
        · rw [o4 111 (by decide) (by decide)]; exact b7
      · have := r2.1.M4; omega
      · exact c4.st (fun a a1 a2 => o4 a (by omega) (by omega))
    | some y =>
      rw [hs] at r2
      obtain ⟨⟨b1, b2, b3⟩, b4, b5⟩ : (0 < y.1 ∧ y.1 < 10 ∧ y.2 < 401) ∧ I' 80 17 = nI y.1 ∧ I' 80 18 = nI y.2 := r2.1.2.2.2.2.1
      have b6 : y.2 < tM Tp L := r2.1.2.2.2.2.2.1 y rfl
      refine rteach_e (D := D + 46) (e := y.1) (t := y.2) r2.1.1 (q4 _ (by omega)) (by omega) ⟨b1, b2⟩ (Or.inl ⟨r2.1.2.1.2, b4, b5⟩) (fun I4 o4 o5 a1 a2 => hE y.1 y.2 (by rw [rtE, tcE, if_pos hg, hs]) ?_ I4 (fun a b1 b2 => by rw [o4 a (by omega)]; exact q1 a b1 b2) (by rw [o4 91 (by decide)]; exact q2) (by rw [o5 0 (by decide) (by decide)]; exact q3) a1 a2) h
      exact by omega
  · obtain ⟨q1, q2, q3, q4⟩ := fr I' l2
    refine rteach_e (D := D + 46) (e := 1) (t := (prG (tK Tp L) 400 0).2) (hS3.kp ⟨l2 80 2 (by omega) (by omega) (by omega), fun a a1 a2 => funext fun j => l2 a j (by omega) (by omega) (by omega)⟩) (q4 _ e3') e3' (by decide) (Or.inr ⟨rfl, e2⟩) (fun I4 o4 o5 a1 a2 => hE 1 _ (by rw [rtE, tcE, if_neg (by rw [hg]; decide)]) e3' I4 (fun a b1 b2 => by rw [o4 a (by omega)]; exact q1 a b1 b2) (by rw [o4 91 (by decide)]; exact q2) (by rw [o5 0 (by decide) (by decide)]; exact q3) a1 a2) h
