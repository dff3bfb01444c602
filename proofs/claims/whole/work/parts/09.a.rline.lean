/-! The reference's parser: a line -/
/-- what an order's nodes denote, names by mm -/
def clO (K : Nat → Nat) (V mm : Nat → Int32) (n p z : Nat) (I : MI) : Prop := (K p = 11 → nd true I z (I 111 (5 * n + 3)) (pS K V mm 8 (p + 5)).2.2 ∧ (K (pS K V mm 8 (p + 5)).2.1 = 15 → nd false I z (I 111 (5 * n + 4)) (pT K V mm 8 ((pS K V mm 8 (p + 5)).2.1 + 1)).2.2) ∧ (¬ K (pS K V mm 8 (p + 5)).2.1 = 15 → I 111 (5 * n + 4) = -1)) ∧ (K p = 14 → I 111 (5 * n + 3) = -1 ∧ (K (p + 4) = 15 → nd false I z (I 111 (5 * n + 4)) (pT K V mm 8 (p + 5)).2.2) ∧ (¬ K (p + 4) = 15 → I 111 (5 * n + 4) = -1))
theorem clO.fr {K : Nat → Nat} {V mm : Nat → Int32} {n p z z1 : Nat} {I I' : MI} (h : clO K V mm n p z I) (e : ∀ j, j < 5 * n + 5 → I' 111 j = I 111 j) (k : nvR z (nv I) (nv I')) (hz : z ≤ z1) : clO K V mm n p z1 I' := by
  unfold clO
  rw [e _ (by omega), e _ (by omega)]
  exact ⟨fun q => ⟨(h.1 q).1.mn k hz, fun w => ((h.1 q).2.1 w).mn k hz, (h.1 q).2.2⟩, fun q => ⟨(h.2 q).1, fun w => ((h.2 q).2.1 w).mn k hz, (h.2 q).2.2⟩⟩
theorem sqK_34 {K : Nat → Nat} {q : Nat} : sqK K [34] q rtL = if K q = 34 then (true, q + 1) else (false, q) := rfl
theorem FRo.r {T I I1 I2 : MI} {z z1 : Nat} (h : FRo T z I I1) (f : FRm z1 I1 I2) (hz : z ≤ z1) : FRo T z I I2 := h.tr f.o hz
set_option maxRecDepth 100000 in
set_option maxHeartbeats 4000000 in
theorem ln_end {Γ : Cx} {K wd : Nat → Nat} {V : Nat → Int32} {M : Nat} {T T' : MI} {d p q z z' : Nat} {y : Option (Nat × Nat)} {I0 : MI} {I : MI} {J : MJ} {P : MP} (hpl : pL K p = sqK K [34] q rtL) (hR : rL K wd V M T' I q z' y) (fl : FRl I0 I) (fo : FRo T z I0 I) (hz : z ≤ z') (hpq : p < q) {Q : MI → MJ → MP → Prop} (hQ1 : (pL K p).1 = true → ∀ I', FRm z' I I' → rL K wd V M T' I' (pL K p).2 z' y → FRl I0 I' → FRo T z I0 I' → p < (pL K p).2 → Q I' J P) (hQ0 : (pL K p).1 = false → ∀ I', rD M (pL K p).2 I0 I' → Q I' J P) (h : Vc RX12 cX12_line 1 none (d + 3) Γ) : VG Γ 0 0 106 [some (.ref 80)] [] I J P (Fnl Γ (Qv Q)) := by
  have hM := hR.1.M4
  refine g_aload_0 h dX12_line_106 ?_
  refine g_iconst h dX12_line_107 (v := nI 4) rfl ?_
  refine g_bipush h dX12_line_108 (v := nI 59) rfl ?_
  refine g_cVv2 h rok0 mi_X12_take dX12_line_110 ml_X12_206 rfl rfl rfl (Nat.le_of_ble_eq_true rfl) (Nat.le_of_ble_eq_true rfl) (sgC_take (k := 34) rfl (by decide) hR.1.1 hR.1.2.1 hR.1.2.2.1 (fun k => ?_) (fun k => ?_))
  · refine g_vret h dX12_line_113 ?_
    have hqM := K_lt hM.2.1 hM.2.2.1 k (by decide)
    have e : pL K p = (true, q + 1) := by rw [hpl, sqK_34, if_pos k]
    have f : FRm z' I (up2 I 80 14 (nI (q + 1))) := FRm.at (by decide) (by decide)
    exact hQ1 (by rw [e]) _ f (by rw [e]; exact hR.fr (hR.1.at hqM) f) (fl.tr f.l) (fo.r f hz) (by rw [e]; show p < q + 1; omega)
  · refine g_vret h dX12_line_113 ?_
    have e : pL K p = (false, q) := by rw [hpl, sqK_34, if_neg k]
    exact hQ0 (by rw [e]) _ (by rw [e]; exact rD.new fl hM.2.2.1)
set_option maxRecDepth 100000 in
set_option maxHeartbeats 4000000 in
theorem line_0 {K wd : Nat → Nat} {V ca : Nat → Int32} {M : Nat} {T : MI} {D p z : Nat} {x : Option (Nat × Nat)} {I : MI} {J : MJ} {P : MP} (hV : vR K V M) (hP : P 80 9 = some 104) (hR : rL K wd V M T I p z x) (hK : K p = 0) {Q : MI → MJ → MP → Prop} (hQ1 : (pL K p).1 = true → ∀ I' z', rL K wd V M (lsT K V wd ca T p) I' (pL K p).2 z' (x.or (lerr K V wd T p)) → FRl I I' → FRo T z I I' → z ≤ z' → p < (pL K p).2 → (x.or (lerr K V wd T p) = none → clO K V (mT K wd T) (nO T) p z' I') → Q I' J P) (hQ0 : (pL K p).1 = false → ∀ I', rD M (pL K p).2 I I' → Q I' J P) : Sp yX12_line cX12_line 1 none (D + 4 * 8 + 17) [.ref 80] I J P (Qv Q) := by
  intro Γ h
  show VG Γ 0 0 0 [some (.ref 80)] [] _ _ _ _
  have hM := hR.1.M4
  refine g_aload_0 h dX12_line_0 ?_
  refine g_iconst h dX12_line_1 (v := nI 2) rfl ?_
  refine g_iconst h dX12_line_2 (v := nI 0) rfl ?_
  refine g_cVi2 h rok0 mi_X12_is dX12_line_3 ml_X12_125 rfl rfl rfl (Nat.le_of_ble_eq_true rfl) (Nat.le_of_ble_eq_true rfl) (sp_is2 (k := 0) (by decide) hR.1.1 hR.1.2.1 hR.1.2.2.1 (fun _ => ?_) (fun q => absurd (show K p = 0 by omega) q))
  refine g_if_eq h 16 dX12_line_6 rfl (fun c => absurd c (by decide)) (fun _ => ?_)
  refine g_aload_0 h dX12_line_9 ?_
  refine g_cVv0 h rok0 mi_X12_readColour dX12_line_10 ml_X12_218 rfl rfl rfl (Nat.le_of_ble_eq_true rfl) (Nat.le_of_ble_eq_true rfl) (sp_readColour (ca := ca) hV hP hR hK (fun k1 k2 k3 I9 r9 l9 o9 => ?_) (fun I9 e9 s9 b9 => ?_))
  · refine g_goto h 106 dX12_line_13 rfl ?_
    have hs : pL K p = sqK K [34] (p + 4) rtL := by
      rw [pL, if_pos hK, sqK, if_pos hK, sqK, if_pos k1, sqK, if_pos (show K (p + 1 + 1) = 1 from k2), sqK, if_pos (show K (p + 1 + 1 + 1) = 29 from k3)]
    exact ln_end (d := D + 4 * 8 + 14) hs r9 l9 o9 (Nat.le_refl _) (by omega) (fun a I8 f8 r8 l8 o8 p8 => hQ1 a I8 z r8 l8 o8 (Nat.le_refl _) p8 (fun hz => ⟨fun w => absurd w (by omega), fun w => absurd w (by omega)⟩)) hQ0 h
  · refine g_goto h 106 dX12_line_13 rfl ?_
    refine g_aload_0 h dX12_line_106 ?_
    refine g_iconst h dX12_line_107 (v := nI 4) rfl ?_
    refine g_bipush h dX12_line_108 (v := nI 59) rfl ?_
    refine g_cVv2 h rok0 mi_X12_take dX12_line_110 ml_X12_206 rfl rfl rfl (Nat.le_of_ble_eq_true rfl) (Nat.le_of_ble_eq_true rfl) (sp_take_dd (f := e9) (by have := b9.2.2; omega) b9.2.1 ?_)
    refine g_vret h dX12_line_113 ?_
    have hs : pL K p = (false, e9) := by
      rw [pL, if_pos hK]
      exact s9 (fun q => sqK K [34] q rtL)
    exact hQ0 (by rw [hs]) _ (by rw [hs]; exact b9)
set_option maxRecDepth 100000 in
set_option maxHeartbeats 4000000 in
theorem line_2 {K wd : Nat → Nat} {V ca : Nat → Int32} {M : Nat} {T : MI} {D p z : Nat} {x : Option (Nat × Nat)} {I : MI} {J : MJ} {P : MP} (hV : vR K V M) (hP : P 80 9 = some 104) (hR : rL K wd V M T I p z x) (hK : K p = 2) {Q : MI → MJ → MP → Prop} (hQ1 : (pL K p).1 = true → ∀ I' z', rL K wd V M (lsT K V wd ca T p) I' (pL K p).2 z' (x.or (lerr K V wd T p)) → FRl I I' → FRo T z I I' → z ≤ z' → p < (pL K p).2 → (x.or (lerr K V wd T p) = none → clO K V (mT K wd T) (nO T) p z' I') → Q I' J P) (hQ0 : (pL K p).1 = false → ∀ I', rD M (pL K p).2 I I' → Q I' J P) : Sp yX12_line cX12_line 1 none (D + 4 * 8 + 17) [.ref 80] I J P (Qv Q) := by
  intro Γ h
  show VG Γ 0 0 0 [some (.ref 80)] [] _ _ _ _
  have hM := hR.1.M4
  refine g_aload_0 h dX12_line_0 ?_
  refine g_iconst h dX12_line_1 (v := nI 2) rfl ?_
  refine g_iconst h dX12_line_2 (v := nI 0) rfl ?_
  refine g_cVi2 h rok0 mi_X12_is dX12_line_3 ml_X12_125 rfl rfl rfl (Nat.le_of_ble_eq_true rfl) (Nat.le_of_ble_eq_true rfl) (sp_is2 (k := 0) (by decide) hR.1.1 hR.1.2.1 hR.1.2.2.1 (fun q => absurd q (by omega)) (fun _ => ?_))
  refine g_if_eq h 16 dX12_line_6 rfl (fun _ => ?_) (fun c => absurd c (by decide))
  refine g_aload_0 h dX12_line_16 ?_
  refine g_iconst h dX12_line_17 (v := nI 2) rfl ?_
  refine g_iconst h dX12_line_18 (v := nI 2) rfl ?_
  refine g_cVi2 h rok0 mi_X12_is dX12_line_19 ml_X12_125 rfl rfl rfl (Nat.le_of_ble_eq_true rfl) (Nat.le_of_ble_eq_true rfl) (sp_is2 (k := 2) (by decide) hR.1.1 hR.1.2.1 hR.1.2.2.1 (fun _ => ?_) (fun q => absurd (show K p = 2 by omega) q))
  refine g_if_eq h 32 dX12_line_22 rfl (fun c => absurd c (by decide)) (fun _ => ?_)
  refine g_aload_0 h dX12_line_25 ?_
  refine g_cVv0 h rok0 mi_X12_readCord dX12_line_26 ml_X12_221 rfl rfl rfl (Nat.le_of_ble_eq_true rfl) (Nat.le_of_ble_eq_true rfl) (sp_readCord (ca := ca) hV hP hR hK (fun I9 q s9 k1 pq qM r9 l9 o9 => ?_) (fun I9 e9 s9 b9 => ?_))
  · refine g_goto h 106 dX12_line_29 rfl ?_
    exact ln_end (d := D + 4 * 8 + 14) s9 r9 l9 o9 (Nat.le_refl _) pq (fun a I8 f8 r8 l8 o8 p8 => hQ1 a I8 z r8 l8 o8 (Nat.le_refl _) p8 (fun hz => ⟨fun w => absurd w (by omega), fun w => absurd w (by omega)⟩)) hQ0 h
  · refine g_goto h 106 dX12_line_29 rfl ?_
    refine g_aload_0 h dX12_line_106 ?_
    refine g_iconst h dX12_line_107 (v := nI 4) rfl ?_
    refine g_bipush h dX12_line_108 (v := nI 59) rfl ?_
    refine g_cVv2 h rok0 mi_X12_take dX12_line_110 ml_X12_206 rfl rfl rfl (Nat.le_of_ble_eq_true rfl) (Nat.le_of_ble_eq_true rfl) (sp_take_dd (f := e9) (by have := b9.2.2; omega) b9.2.1 ?_)
    refine g_vret h dX12_line_113 ?_
    exact hQ0 (by rw [s9]) _ (by rw [s9]; exact b9)
set_option maxRecDepth 100000 in
set_option maxHeartbeats 4000000 in
theorem line_7 {K wd : Nat → Nat} {V ca : Nat → Int32} {M : Nat} {T : MI} {D p z : Nat} {x : Option (Nat × Nat)} {I : MI} {J : MJ} {P : MP} (hV : vR K V M) (hP : P 80 9 = some 104) (hR : rL K wd V M T I p z x) (hK : K p = 7) {Q : MI → MJ → MP → Prop} (hQ1 : (pL K p).1 = true → ∀ I' z', rL K wd V M (lsT K V wd ca T p) I' (pL K p).2 z' (x.or (lerr K V wd T p)) → FRl I I' → FRo T z I I' → z ≤ z' → p < (pL K p).2 → (x.or (lerr K V wd T p) = none → clO K V (mT K wd T) (nO T) p z' I') → Q I' J P) (hQ0 : (pL K p).1 = false → ∀ I', rD M (pL K p).2 I I' → Q I' J P) : Sp yX12_line cX12_line 1 none (D + 4 * 8 + 17) [.ref 80] I J P (Qv Q) := by
  intro Γ h
  show VG Γ 0 0 0 [some (.ref 80)] [] _ _ _ _
  have hM := hR.1.M4
  refine g_aload_0 h dX12_line_0 ?_
  refine g_iconst h dX12_line_1 (v := nI 2) rfl ?_
  refine g_iconst h dX12_line_2 (v := nI 0) rfl ?_
  refine g_cVi2 h rok0 mi_X12_is dX12_line_3 ml_X12_125 rfl rfl rfl (Nat.le_of_ble_eq_true rfl) (Nat.le_of_ble_eq_true rfl) (sp_is2 (k := 0) (by decide) hR.1.1 hR.1.2.1 hR.1.2.2.1 (fun q => absurd q (by omega)) (fun _ => ?_))
  refine g_if_eq h 16 dX12_line_6 rfl (fun _ => ?_) (fun c => absurd c (by decide))
  refine g_aload_0 h dX12_line_16 ?_
  refine g_iconst h dX12_line_17 (v := nI 2) rfl ?_
  refine g_iconst h dX12_line_18 (v := nI 2) rfl ?_
  refine g_cVi2 h rok0 mi_X12_is dX12_line_19 ml_X12_125 rfl rfl rfl (Nat.le_of_ble_eq_true rfl) (Nat.le_of_ble_eq_true rfl) (sp_is2 (k := 2) (by decide) hR.1.1 hR.1.2.1 hR.1.2.2.1 (fun q => absurd q (by omega)) (fun _ => ?_))
  refine g_if_eq h 32 dX12_line_22 rfl (fun _ => ?_) (fun c => absurd c (by decide))
  refine g_aload_0 h dX12_line_32 ?_
  refine g_iconst h dX12_line_33 (v := nI 2) rfl ?_
  refine g_bipush h dX12_line_34 (v := nI 7) rfl ?_
  refine g_cVi2 h rok0 mi_X12_is dX12_line_36 ml_X12_125 rfl rfl rfl (Nat.le_of_ble_eq_true rfl) (Nat.le_of_ble_eq_true rfl) (sp_is2 (k := 7) (by decide) hR.1.1 hR.1.2.1 hR.1.2.2.1 (fun _ => ?_) (fun q => absurd (show K p = 7 by omega) q))
  refine g_if_eq h 49 dX12_line_39 rfl (fun c => absurd c (by decide)) (fun _ => ?_)
  refine g_aload_0 h dX12_line_42 ?_
  refine g_cVv0 h rok0 mi_X12_readTop dX12_line_43 ml_X12_224 rfl rfl rfl (Nat.le_of_ble_eq_true rfl) (Nat.le_of_ble_eq_true rfl) (sp_readTop (ca := ca) hV hP hR hK (fun I9 q s9 k1 pq qM r9 l9 o9 => ?_) (fun I9 e9 s9 b9 => ?_))
  · refine g_goto h 106 dX12_line_46 rfl ?_
    exact ln_end (d := D + 4 * 8 + 14) s9 r9 l9 o9 (Nat.le_refl _) pq (fun a I8 f8 r8 l8 o8 p8 => hQ1 a I8 z r8 l8 o8 (Nat.le_refl _) p8 (fun hz => ⟨fun w => absurd w (by omega), fun w => absurd w (by omega)⟩)) hQ0 h
  · refine g_goto h 106 dX12_line_46 rfl ?_
    refine g_aload_0 h dX12_line_106 ?_
    refine g_iconst h dX12_line_107 (v := nI 4) rfl ?_
    refine g_bipush h dX12_line_108 (v := nI 59) rfl ?_
    refine g_cVv2 h rok0 mi_X12_take dX12_line_110 ml_X12_206 rfl rfl rfl (Nat.le_of_ble_eq_true rfl) (Nat.le_of_ble_eq_true rfl) (sp_take_dd (f := e9) (by have := b9.2.2; omega) b9.2.1 ?_)
    refine g_vret h dX12_line_113 ?_
    exact hQ0 (by rw [s9]) _ (by rw [s9]; exact b9)
set_option maxRecDepth 100000 in
set_option maxHeartbeats 4000000 in
theorem line_9 {K wd : Nat → Nat} {V ca : Nat → Int32} {M : Nat} {T : MI} {D p z : Nat} {x : Option (Nat × Nat)} {I : MI} {J : MJ} {P : MP} (hV : vR K V M) (hP : P 80 9 = some 104) (hR : rL K wd V M T I p z x) (hK : K p = 9) {Q : MI → MJ → MP → Prop} (hQ1 : (pL K p).1 = true → ∀ I' z', rL K wd V M (lsT K V wd ca T p) I' (pL K p).2 z' (x.or (lerr K V wd T p)) → FRl I I' → FRo T z I I' → z ≤ z' → p < (pL K p).2 → (x.or (lerr K V wd T p) = none → clO K V (mT K wd T) (nO T) p z' I') → Q I' J P) (hQ0 : (pL K p).1 = false → ∀ I', rD M (pL K p).2 I I' → Q I' J P) : Sp yX12_line cX12_line 1 none (D + 4 * 8 + 17) [.ref 80] I J P (Qv Q) := by
  intro Γ h
  show VG Γ 0 0 0 [some (.ref 80)] [] _ _ _ _
  have hM := hR.1.M4
  refine g_aload_0 h dX12_line_0 ?_
  refine g_iconst h dX12_line_1 (v := nI 2) rfl ?_
  refine g_iconst h dX12_line_2 (v := nI 0) rfl ?_
  refine g_cVi2 h rok0 mi_X12_is dX12_line_3 ml_X12_125 rfl rfl rfl (Nat.le_of_ble_eq_true rfl) (Nat.le_of_ble_eq_true rfl) (sp_is2 (k := 0) (by decide) hR.1.1 hR.1.2.1 hR.1.2.2.1 (fun q => absurd q (by omega)) (fun _ => ?_))
  refine g_if_eq h 16 dX12_line_6 rfl (fun _ => ?_) (fun c => absurd c (by decide))
  refine g_aload_0 h dX12_line_16 ?_
  refine g_iconst h dX12_line_17 (v := nI 2) rfl ?_
  refine g_iconst h dX12_line_18 (v := nI 2) rfl ?_
  refine g_cVi2 h rok0 mi_X12_is dX12_line_19 ml_X12_125 rfl rfl rfl (Nat.le_of_ble_eq_true rfl) (Nat.le_of_ble_eq_true rfl) (sp_is2 (k := 2) (by decide) hR.1.1 hR.1.2.1 hR.1.2.2.1 (fun q => absurd q (by omega)) (fun _ => ?_))
  refine g_if_eq h 32 dX12_line_22 rfl (fun _ => ?_) (fun c => absurd c (by decide))
  refine g_aload_0 h dX12_line_32 ?_
  refine g_iconst h dX12_line_33 (v := nI 2) rfl ?_
  refine g_bipush h dX12_line_34 (v := nI 7) rfl ?_
  refine g_cVi2 h rok0 mi_X12_is dX12_line_36 ml_X12_125 rfl rfl rfl (Nat.le_of_ble_eq_true rfl) (Nat.le_of_ble_eq_true rfl) (sp_is2 (k := 7) (by decide) hR.1.1 hR.1.2.1 hR.1.2.2.1 (fun q => absurd q (by omega)) (fun _ => ?_))
  refine g_if_eq h 49 dX12_line_39 rfl (fun _ => ?_) (fun c => absurd c (by decide))
  refine g_aload_0 h dX12_line_49 ?_
  refine g_iconst h dX12_line_50 (v := nI 2) rfl ?_
  refine g_bipush h dX12_line_51 (v := nI 9) rfl ?_
  refine g_cVi2 h rok0 mi_X12_is dX12_line_53 ml_X12_125 rfl rfl rfl (Nat.le_of_ble_eq_true rfl) (Nat.le_of_ble_eq_true rfl) (sp_is2 (k := 9) (by decide) hR.1.1 hR.1.2.1 hR.1.2.2.1 (fun _ => ?_) (fun q => absurd (show K p = 9 by omega) q))
  refine g_if_eq h 66 dX12_line_56 rfl (fun c => absurd c (by decide)) (fun _ => ?_)
  refine g_aload_0 h dX12_line_59 ?_
  refine g_cVv0 h rok0 mi_X12_readKeeper dX12_line_60 ml_X12_227 rfl rfl rfl (Nat.le_of_ble_eq_true rfl) (Nat.le_of_ble_eq_true rfl) (sp_readKeeper (ca := ca) hV hP hR hK (fun k1 k2 k3 I9 r9 l9 o9 => ?_) (fun I9 e9 s9 b9 => ?_))
  · refine g_goto h 106 dX12_line_63 rfl ?_
    have hs : pL K p = sqK K [34] (p + 4) rtL := by
      rw [pL, if_neg (by omega), if_neg (by omega), if_neg (by omega), if_pos hK, sqK, if_pos hK, sqK, if_pos k1, sqK, if_pos (show K (p + 1 + 1) = 10 from k2), sqK, if_pos (show K (p + 1 + 1 + 1) = 29 from k3)]
    exact ln_end (d := D + 4 * 8 + 14) hs r9 l9 o9 (Nat.le_refl _) (by omega) (fun a I8 f8 r8 l8 o8 p8 => hQ1 a I8 z r8 l8 o8 (Nat.le_refl _) p8 (fun hz => ⟨fun w => absurd w (by omega), fun w => absurd w (by omega)⟩)) hQ0 h
  · refine g_goto h 106 dX12_line_63 rfl ?_
    refine g_aload_0 h dX12_line_106 ?_
    refine g_iconst h dX12_line_107 (v := nI 4) rfl ?_
    refine g_bipush h dX12_line_108 (v := nI 59) rfl ?_
    refine g_cVv2 h rok0 mi_X12_take dX12_line_110 ml_X12_206 rfl rfl rfl (Nat.le_of_ble_eq_true rfl) (Nat.le_of_ble_eq_true rfl) (sp_take_dd (f := e9) (by have := b9.2.2; omega) b9.2.1 ?_)
    refine g_vret h dX12_line_113 ?_
    have hs : pL K p = (false, e9) := by
      rw [pL, if_neg (by omega), if_neg (by omega), if_neg (by omega), if_pos hK]
      exact s9 (fun q => sqK K [34] q rtL)
    exact hQ0 (by rw [hs]) _ (by rw [hs]; exact b9)
set_option maxRecDepth 100000 in
set_option maxHeartbeats 4000000 in
theorem line_11 {K wd : Nat → Nat} {V ca : Nat → Int32} {M : Nat} {T : MI} {D p z : Nat} {x : Option (Nat × Nat)} {I : MI} {J : MJ} {P : MP} (hV : vR K V M) (hP : P 80 9 = some 104) (hR : rL K wd V M T I p z x) (hK : K p = 11) {Q : MI → MJ → MP → Prop} (hQ1 : (pL K p).1 = true → ∀ I' z', rL K wd V M (lsT K V wd ca T p) I' (pL K p).2 z' (x.or (lerr K V wd T p)) → FRl I I' → FRo T z I I' → z ≤ z' → p < (pL K p).2 → (x.or (lerr K V wd T p) = none → clO K V (mT K wd T) (nO T) p z' I') → Q I' J P) (hQ0 : (pL K p).1 = false → ∀ I', rD M (pL K p).2 I I' → Q I' J P) : Sp yX12_line cX12_line 1 none (D + 4 * 8 + 17) [.ref 80] I J P (Qv Q) := by
  intro Γ h
  show VG Γ 0 0 0 [some (.ref 80)] [] _ _ _ _
  have hM := hR.1.M4
  refine g_aload_0 h dX12_line_0 ?_
  refine g_iconst h dX12_line_1 (v := nI 2) rfl ?_
  refine g_iconst h dX12_line_2 (v := nI 0) rfl ?_
  refine g_cVi2 h rok0 mi_X12_is dX12_line_3 ml_X12_125 rfl rfl rfl (Nat.le_of_ble_eq_true rfl) (Nat.le_of_ble_eq_true rfl) (sp_is2 (k := 0) (by decide) hR.1.1 hR.1.2.1 hR.1.2.2.1 (fun q => absurd q (by omega)) (fun _ => ?_))
  refine g_if_eq h 16 dX12_line_6 rfl (fun _ => ?_) (fun c => absurd c (by decide))
  refine g_aload_0 h dX12_line_16 ?_
  refine g_iconst h dX12_line_17 (v := nI 2) rfl ?_
  refine g_iconst h dX12_line_18 (v := nI 2) rfl ?_
  refine g_cVi2 h rok0 mi_X12_is dX12_line_19 ml_X12_125 rfl rfl rfl (Nat.le_of_ble_eq_true rfl) (Nat.le_of_ble_eq_true rfl) (sp_is2 (k := 2) (by decide) hR.1.1 hR.1.2.1 hR.1.2.2.1 (fun q => absurd q (by omega)) (fun _ => ?_))
  refine g_if_eq h 32 dX12_line_22 rfl (fun _ => ?_) (fun c => absurd c (by decide))
  refine g_aload_0 h dX12_line_32 ?_
  refine g_iconst h dX12_line_33 (v := nI 2) rfl ?_
  refine g_bipush h dX12_line_34 (v := nI 7) rfl ?_
  refine g_cVi2 h rok0 mi_X12_is dX12_line_36 ml_X12_125 rfl rfl rfl (Nat.le_of_ble_eq_true rfl) (Nat.le_of_ble_eq_true rfl) (sp_is2 (k := 7) (by decide) hR.1.1 hR.1.2.1 hR.1.2.2.1 (fun q => absurd q (by omega)) (fun _ => ?_))
  refine g_if_eq h 49 dX12_line_39 rfl (fun _ => ?_) (fun c => absurd c (by decide))
  refine g_aload_0 h dX12_line_49 ?_
  refine g_iconst h dX12_line_50 (v := nI 2) rfl ?_
  refine g_bipush h dX12_line_51 (v := nI 9) rfl ?_
  refine g_cVi2 h rok0 mi_X12_is dX12_line_53 ml_X12_125 rfl rfl rfl (Nat.le_of_ble_eq_true rfl) (Nat.le_of_ble_eq_true rfl) (sp_is2 (k := 9) (by decide) hR.1.1 hR.1.2.1 hR.1.2.2.1 (fun q => absurd q (by omega)) (fun _ => ?_))
  refine g_if_eq h 66 dX12_line_56 rfl (fun _ => ?_) (fun c => absurd c (by decide))
  refine g_aload_0 h dX12_line_66 ?_
  refine g_iconst h dX12_line_67 (v := nI 2) rfl ?_
  refine g_bipush h dX12_line_68 (v := nI 11) rfl ?_
  refine g_cVi2 h rok0 mi_X12_is dX12_line_70 ml_X12_125 rfl rfl rfl (Nat.le_of_ble_eq_true rfl) (Nat.le_of_ble_eq_true rfl) (sp_is2 (k := 11) (by decide) hR.1.1 hR.1.2.1 hR.1.2.2.1 (fun _ => ?_) (fun q => absurd (show K p = 11 by omega) q))
  refine g_if_ne h 86 dX12_line_73 rfl (fun _ => ?_) (fun c => absurd c (by decide))
  refine g_aload_0 h dX12_line_86 ?_
  refine g_aload_0 h dX12_line_87 ?_
  refine g_getC h fl_X12_42 dX12_line_88 rfl rfl ?_
  refine g_aload_0 h dX12_line_91 ?_
  refine g_getI h fl_X12_118 dX12_line_92 rfl rfl ?_
  refine g_iald h p dX12_line_95 rfl hR.1.2.1.1 (by omega) ?_
  rw [show I 83 p = nI 11 by rw [hR.1.key (by omega), hK]]
  refine g_cVv1 h rok0 mi_X12_readOrder dX12_line_96 ml_X12_230 rfl rfl rfl (Nat.le_of_ble_eq_true rfl) (Nat.le_of_ble_eq_true rfl) (sp_readOrder11 (ca := ca) hV hP hR hK (fun I9 q z9 s9 k1 pq qM r9 l9 o9 hz9 c9 => ?_) (fun I9 e9 s9 b9 => ?_))
  · refine g_goto h 106 dX12_line_99 rfl ?_
    refine ln_end (d := D + 4 * 8 + 14) s9 r9 l9 o9 hz9 pq (fun a I8 f8 r8 l8 o8 p8 => hQ1 a I8 z9 r8 l8 o8 hz9 p8 (fun hz => ?_)) hQ0 h
    have hc := c9 hz
    have c1 : clO K V (mT K wd T) (nO T) p z9 I9 := ⟨fun _ => hc, fun w => absurd w (by omega)⟩
    exact c1.fr (fun j _ => f8 111 j (by omega) (by omega) (by omega)) f8.R (Nat.le_refl _)
  · refine g_goto h 106 dX12_line_99 rfl ?_
    refine g_aload_0 h dX12_line_106 ?_
    refine g_iconst h dX12_line_107 (v := nI 4) rfl ?_
    refine g_bipush h dX12_line_108 (v := nI 59) rfl ?_
    refine g_cVv2 h rok0 mi_X12_take dX12_line_110 ml_X12_206 rfl rfl rfl (Nat.le_of_ble_eq_true rfl) (Nat.le_of_ble_eq_true rfl) (sp_take_dd (f := e9) (by have := b9.2.2; omega) b9.2.1 ?_)
    refine g_vret h dX12_line_113 ?_
    exact hQ0 (by rw [s9]) _ (by rw [s9]; exact b9)
set_option maxRecDepth 100000 in
set_option maxHeartbeats 4000000 in
theorem line_14 {K wd : Nat → Nat} {V ca : Nat → Int32} {M : Nat} {T : MI} {D p z : Nat} {x : Option (Nat × Nat)} {I : MI} {J : MJ} {P : MP} (hV : vR K V M) (hP : P 80 9 = some 104) (hR : rL K wd V M T I p z x) (hK : K p = 14) {Q : MI → MJ → MP → Prop} (hQ1 : (pL K p).1 = true → ∀ I' z', rL K wd V M (lsT K V wd ca T p) I' (pL K p).2 z' (x.or (lerr K V wd T p)) → FRl I I' → FRo T z I I' → z ≤ z' → p < (pL K p).2 → (x.or (lerr K V wd T p) = none → clO K V (mT K wd T) (nO T) p z' I') → Q I' J P) (hQ0 : (pL K p).1 = false → ∀ I', rD M (pL K p).2 I I' → Q I' J P) : Sp yX12_line cX12_line 1 none (D + 4 * 8 + 17) [.ref 80] I J P (Qv Q) := by
  intro Γ h
  show VG Γ 0 0 0 [some (.ref 80)] [] _ _ _ _
  have hM := hR.1.M4
  refine g_aload_0 h dX12_line_0 ?_
  refine g_iconst h dX12_line_1 (v := nI 2) rfl ?_
  refine g_iconst h dX12_line_2 (v := nI 0) rfl ?_
  refine g_cVi2 h rok0 mi_X12_is dX12_line_3 ml_X12_125 rfl rfl rfl (Nat.le_of_ble_eq_true rfl) (Nat.le_of_ble_eq_true rfl) (sp_is2 (k := 0) (by decide) hR.1.1 hR.1.2.1 hR.1.2.2.1 (fun q => absurd q (by omega)) (fun _ => ?_))
  refine g_if_eq h 16 dX12_line_6 rfl (fun _ => ?_) (fun c => absurd c (by decide))
  refine g_aload_0 h dX12_line_16 ?_
  refine g_iconst h dX12_line_17 (v := nI 2) rfl ?_
  refine g_iconst h dX12_line_18 (v := nI 2) rfl ?_
  refine g_cVi2 h rok0 mi_X12_is dX12_line_19 ml_X12_125 rfl rfl rfl (Nat.le_of_ble_eq_true rfl) (Nat.le_of_ble_eq_true rfl) (sp_is2 (k := 2) (by decide) hR.1.1 hR.1.2.1 hR.1.2.2.1 (fun q => absurd q (by omega)) (fun _ => ?_))
  refine g_if_eq h 32 dX12_line_22 rfl (fun _ => ?_) (fun c => absurd c (by decide))
  refine g_aload_0 h dX12_line_32 ?_
  refine g_iconst h dX12_line_33 (v := nI 2) rfl ?_
  refine g_bipush h dX12_line_34 (v := nI 7) rfl ?_
  refine g_cVi2 h rok0 mi_X12_is dX12_line_36 ml_X12_125 rfl rfl rfl (Nat.le_of_ble_eq_true rfl) (Nat.le_of_ble_eq_true rfl) (sp_is2 (k := 7) (by decide) hR.1.1 hR.1.2.1 hR.1.2.2.1 (fun q => absurd q (by omega)) (fun _ => ?_))
  refine g_if_eq h 49 dX12_line_39 rfl (fun _ => ?_) (fun c => absurd c (by decide))
  refine g_aload_0 h dX12_line_49 ?_
  refine g_iconst h dX12_line_50 (v := nI 2) rfl ?_
  refine g_bipush h dX12_line_51 (v := nI 9) rfl ?_
  refine g_cVi2 h rok0 mi_X12_is dX12_line_53 ml_X12_125 rfl rfl rfl (Nat.le_of_ble_eq_true rfl) (Nat.le_of_ble_eq_true rfl) (sp_is2 (k := 9) (by decide) hR.1.1 hR.1.2.1 hR.1.2.2.1 (fun q => absurd q (by omega)) (fun _ => ?_))
  refine g_if_eq h 66 dX12_line_56 rfl (fun _ => ?_) (fun c => absurd c (by decide))
  refine g_aload_0 h dX12_line_66 ?_
  refine g_iconst h dX12_line_67 (v := nI 2) rfl ?_
  refine g_bipush h dX12_line_68 (v := nI 11) rfl ?_
  refine g_cVi2 h rok0 mi_X12_is dX12_line_70 ml_X12_125 rfl rfl rfl (Nat.le_of_ble_eq_true rfl) (Nat.le_of_ble_eq_true rfl) (sp_is2 (k := 11) (by decide) hR.1.1 hR.1.2.1 hR.1.2.2.1 (fun q => absurd q (by omega)) (fun _ => ?_))
  refine g_if_ne h 86 dX12_line_73 rfl (fun c => absurd c (by decide)) (fun _ => ?_)
  refine g_aload_0 h dX12_line_76 ?_
  refine g_iconst h dX12_line_77 (v := nI 2) rfl ?_
  refine g_bipush h dX12_line_78 (v := nI 14) rfl ?_
  refine g_cVi2 h rok0 mi_X12_is dX12_line_80 ml_X12_125 rfl rfl rfl (Nat.le_of_ble_eq_true rfl) (Nat.le_of_ble_eq_true rfl) (sp_is2 (k := 14) (by decide) hR.1.1 hR.1.2.1 hR.1.2.2.1 (fun _ => ?_) (fun q => absurd (show K p = 14 by omega) q))
  refine g_if_eq h 102 dX12_line_83 rfl (fun c => absurd c (by decide)) (fun _ => ?_)
  refine g_aload_0 h dX12_line_86 ?_
  refine g_aload_0 h dX12_line_87 ?_
  refine g_getC h fl_X12_42 dX12_line_88 rfl rfl ?_
  refine g_aload_0 h dX12_line_91 ?_
  refine g_getI h fl_X12_118 dX12_line_92 rfl rfl ?_
  refine g_iald h p dX12_line_95 rfl hR.1.2.1.1 (by omega) ?_
  rw [show I 83 p = nI 14 by rw [hR.1.key (by omega), hK]]
  refine g_cVv1 h rok0 mi_X12_readOrder dX12_line_96 ml_X12_230 rfl rfl rfl (Nat.le_of_ble_eq_true rfl) (Nat.le_of_ble_eq_true rfl) (sp_readOrder14 (ca := ca) hV hP hR hK (fun I9 q z9 s9 k1 pq qM r9 l9 o9 hz9 c9 => ?_) (fun I9 e9 s9 b9 => ?_))
  · refine g_goto h 106 dX12_line_99 rfl ?_
    refine ln_end (d := D + 4 * 8 + 14) s9 r9 l9 o9 hz9 pq (fun a I8 f8 r8 l8 o8 p8 => hQ1 a I8 z9 r8 l8 o8 hz9 p8 (fun hz => ?_)) hQ0 h
    have hc := c9 hz
    have c1 : clO K V (mT K wd T) (nO T) p z9 I9 := ⟨fun w => absurd w (by omega), fun _ => hc⟩
    exact c1.fr (fun j _ => f8 111 j (by omega) (by omega) (by omega)) f8.R (Nat.le_refl _)
  · refine g_goto h 106 dX12_line_99 rfl ?_
    refine g_aload_0 h dX12_line_106 ?_
    refine g_iconst h dX12_line_107 (v := nI 4) rfl ?_
    refine g_bipush h dX12_line_108 (v := nI 59) rfl ?_
    refine g_cVv2 h rok0 mi_X12_take dX12_line_110 ml_X12_206 rfl rfl rfl (Nat.le_of_ble_eq_true rfl) (Nat.le_of_ble_eq_true rfl) (sp_take_dd (f := e9) (by have := b9.2.2; omega) b9.2.1 ?_)
    refine g_vret h dX12_line_113 ?_
    exact hQ0 (by rw [s9]) _ (by rw [s9]; exact b9)
set_option maxRecDepth 100000 in
set_option maxHeartbeats 4000000 in
theorem line_99 {K wd : Nat → Nat} {V ca : Nat → Int32} {M : Nat} {T : MI} {D p z : Nat} {x : Option (Nat × Nat)} {I : MI} {J : MJ} {P : MP} (hV : vR K V M) (hP : P 80 9 = some 104) (hR : rL K wd V M T I p z x) (hK : ¬ K p = 0 ∧ ¬ K p = 2 ∧ ¬ K p = 7 ∧ ¬ K p = 9 ∧ ¬ K p = 11 ∧ ¬ K p = 14) {Q : MI → MJ → MP → Prop} (hQ1 : (pL K p).1 = true → ∀ I' z', rL K wd V M (lsT K V wd ca T p) I' (pL K p).2 z' (x.or (lerr K V wd T p)) → FRl I I' → FRo T z I I' → z ≤ z' → p < (pL K p).2 → (x.or (lerr K V wd T p) = none → clO K V (mT K wd T) (nO T) p z' I') → Q I' J P) (hQ0 : (pL K p).1 = false → ∀ I', rD M (pL K p).2 I I' → Q I' J P) : Sp yX12_line cX12_line 1 none (D + 4 * 8 + 17) [.ref 80] I J P (Qv Q) := by
  intro Γ h
  show VG Γ 0 0 0 [some (.ref 80)] [] _ _ _ _
  have hM := hR.1.M4
  refine g_aload_0 h dX12_line_0 ?_
  refine g_iconst h dX12_line_1 (v := nI 2) rfl ?_
  refine g_iconst h dX12_line_2 (v := nI 0) rfl ?_
  refine g_cVi2 h rok0 mi_X12_is dX12_line_3 ml_X12_125 rfl rfl rfl (Nat.le_of_ble_eq_true rfl) (Nat.le_of_ble_eq_true rfl) (sp_is2 (k := 0) (by decide) hR.1.1 hR.1.2.1 hR.1.2.2.1 (fun q => absurd q (by omega)) (fun _ => ?_))
  refine g_if_eq h 16 dX12_line_6 rfl (fun _ => ?_) (fun c => absurd c (by decide))
  refine g_aload_0 h dX12_line_16 ?_
  refine g_iconst h dX12_line_17 (v := nI 2) rfl ?_
  refine g_iconst h dX12_line_18 (v := nI 2) rfl ?_
  refine g_cVi2 h rok0 mi_X12_is dX12_line_19 ml_X12_125 rfl rfl rfl (Nat.le_of_ble_eq_true rfl) (Nat.le_of_ble_eq_true rfl) (sp_is2 (k := 2) (by decide) hR.1.1 hR.1.2.1 hR.1.2.2.1 (fun q => absurd q (by omega)) (fun _ => ?_))
  refine g_if_eq h 32 dX12_line_22 rfl (fun _ => ?_) (fun c => absurd c (by decide))
  refine g_aload_0 h dX12_line_32 ?_
  refine g_iconst h dX12_line_33 (v := nI 2) rfl ?_
  refine g_bipush h dX12_line_34 (v := nI 7) rfl ?_
  refine g_cVi2 h rok0 mi_X12_is dX12_line_36 ml_X12_125 rfl rfl rfl (Nat.le_of_ble_eq_true rfl) (Nat.le_of_ble_eq_true rfl) (sp_is2 (k := 7) (by decide) hR.1.1 hR.1.2.1 hR.1.2.2.1 (fun q => absurd q (by omega)) (fun _ => ?_))
  refine g_if_eq h 49 dX12_line_39 rfl (fun _ => ?_) (fun c => absurd c (by decide))
  refine g_aload_0 h dX12_line_49 ?_
  refine g_iconst h dX12_line_50 (v := nI 2) rfl ?_
  refine g_bipush h dX12_line_51 (v := nI 9) rfl ?_
  refine g_cVi2 h rok0 mi_X12_is dX12_line_53 ml_X12_125 rfl rfl rfl (Nat.le_of_ble_eq_true rfl) (Nat.le_of_ble_eq_true rfl) (sp_is2 (k := 9) (by decide) hR.1.1 hR.1.2.1 hR.1.2.2.1 (fun q => absurd q (by omega)) (fun _ => ?_))
  refine g_if_eq h 66 dX12_line_56 rfl (fun _ => ?_) (fun c => absurd c (by decide))
  refine g_aload_0 h dX12_line_66 ?_
  refine g_iconst h dX12_line_67 (v := nI 2) rfl ?_
  refine g_bipush h dX12_line_68 (v := nI 11) rfl ?_
  refine g_cVi2 h rok0 mi_X12_is dX12_line_70 ml_X12_125 rfl rfl rfl (Nat.le_of_ble_eq_true rfl) (Nat.le_of_ble_eq_true rfl) (sp_is2 (k := 11) (by decide) hR.1.1 hR.1.2.1 hR.1.2.2.1 (fun q => absurd q (by omega)) (fun _ => ?_))
  refine g_if_ne h 86 dX12_line_73 rfl (fun c => absurd c (by decide)) (fun _ => ?_)
  refine g_aload_0 h dX12_line_76 ?_
  refine g_iconst h dX12_line_77 (v := nI 2) rfl ?_
  refine g_bipush h dX12_line_78 (v := nI 14) rfl ?_
  refine g_cVi2 h rok0 mi_X12_is dX12_line_80 ml_X12_125 rfl rfl rfl (Nat.le_of_ble_eq_true rfl) (Nat.le_of_ble_eq_true rfl) (sp_is2 (k := 14) (by decide) hR.1.1 hR.1.2.1 hR.1.2.2.1 (fun q => absurd q (by omega)) (fun _ => ?_))
  refine g_if_eq h 102 dX12_line_83 rfl (fun _ => ?_) (fun c => absurd c (by decide))
  refine g_aload_0 h dX12_line_102 ?_
  refine g_cVv0 h rok0 mi_X12_fail dX12_line_103 ml_X12_129 rfl rfl rfl (Nat.le_of_ble_eq_true rfl) (Nat.le_of_ble_eq_true rfl) (sp_fail_al hR.1.2.1 ?_)
  refine g_aload_0 h dX12_line_106 ?_
  refine g_iconst h dX12_line_107 (v := nI 4) rfl ?_
  refine g_bipush h dX12_line_108 (v := nI 59) rfl ?_
  refine g_cVv2 h rok0 mi_X12_take dX12_line_110 ml_X12_206 rfl rfl rfl (Nat.le_of_ble_eq_true rfl) (Nat.le_of_ble_eq_true rfl) (sp_take_dd (f := p) (by omega) up2_s ?_)
  refine g_vret h dX12_line_113 ?_
  have e : pL K p = (false, p) := by rw [pL, if_neg hK.1, if_neg hK.2.1, if_neg hK.2.2.1, if_neg hK.2.2.2.1, if_neg hK.2.2.2.2.1, if_neg hK.2.2.2.2.2]
  exact hQ0 (by rw [e]) _ (by rw [e]; exact rD.new FRl.rf hM.2.2.1)
theorem sp_X12_line {K wd : Nat → Nat} {V ca : Nat → Int32} {M : Nat} {T : MI} {D p z : Nat} {x : Option (Nat × Nat)} {I : MI} {J : MJ} {P : MP} (hV : vR K V M) (hP : P 80 9 = some 104) (hR : rL K wd V M T I p z x) {Q : MI → MJ → MP → Prop} (hQ1 : (pL K p).1 = true → ∀ I' z', rL K wd V M (lsT K V wd ca T p) I' (pL K p).2 z' (x.or (lerr K V wd T p)) → FRl I I' → FRo T z I I' → z ≤ z' → p < (pL K p).2 → (x.or (lerr K V wd T p) = none → clO K V (mT K wd T) (nO T) p z' I') → Q I' J P) (hQ0 : (pL K p).1 = false → ∀ I', rD M (pL K p).2 I I' → Q I' J P) : Sp yX12_line cX12_line 1 none (D + 4 * 8 + 17) [.ref 80] I J P (Qv Q) := by
  by_cases k0 : K p = 0
  · exact line_0 hV hP hR k0 hQ1 hQ0
  by_cases k2 : K p = 2
  · exact line_2 hV hP hR k2 hQ1 hQ0
  by_cases k7 : K p = 7
  · exact line_7 hV hP hR k7 hQ1 hQ0
  by_cases k9 : K p = 9
  · exact line_9 hV hP hR k9 hQ1 hQ0
  by_cases k11 : K p = 11
  · exact line_11 hV hP hR k11 hQ1 hQ0
  by_cases k14 : K p = 14
  · exact line_14 hV hP hR k14 hQ1 hQ0
  · exact line_99 hV hP hR ⟨k0, k2, k7, k9, k11, k14⟩ hQ1 hQ0
