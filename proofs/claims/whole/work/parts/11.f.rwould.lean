/-! The reference: hang, what would be, the checksum -/
theorem bvRow {I : MI} {r : Nat → Int32} {a : Nat} (ha : a = 91 ∨ a = 92) : bv (setRow I a r) = bv I := bvR ha I r
theorem bk_clo {I : MI} (hK : bkOK (bv I)) : clo (I 96) (nN (bv I)) := chn_clo (bk_N hK).2 (bk_c hK)
def hgC (u : Nat → Int32) (N a : Nat) (y : Int32) : Bool := wth u N (nI a) 4 y || !decide (dep u N 4 y + rch u N 4 a ≤ 4)
def isU (N : Nat) (y : Int32) : Prop := y = -1 ∨ ∃ b, b < N ∧ y = nI b
set_option maxRecDepth 100000 in
set_option maxHeartbeats 4000000 in
theorem sp_X12_hang {d : Nat} {x y : Int32} {I : MI} {J : MJ} {P : MP} (hB : P 80 8 = some 93) (hK : bkOK (bv I)) {Q : Int32 → MI → MJ → MP → Prop} (hQ1 : ∀ a, a < nN (bv I) → x = nI a → isU (nN (bv I)) y → hgC (I 96) (nN (bv I)) a y = false → Q (nI (dep (upd (I 96) a y) (nN (bv I)) 4 x)) (up2 (up2 I 80 0 (nI 0)) 96 a y) J P) (hQ0 : (¬ ((∃ a, a < nN (bv I) ∧ x = nI a) ∧ isU (nN (bv I)) y)) → Q (nI 0) (up2 (up2 I 80 0 (nI 0)) 80 0 (nI 1)) J P) (hQ2 : ∀ a, a < nN (bv I) → x = nI a → isU (nN (bv I)) y → hgC (I 96) (nN (bv I)) a y = true → Q (nI 0) (up2 (up2 I 80 0 (nI 0)) 80 0 (nI 2)) J P) : Sp yX12_hang cX12_hang 3 (some .int) (d + 6) [.ref 80, .int x, .int y] I J P (Qi Q) := by
  intro Γ h
  show VG Γ 0 0 0 [some (.ref 80), some (.int x), some (.int y)] [] _ _ _ _
  have hB1 : P 80 8 = some 93 := hB
  have hK1 : bkOK (bv (up2 I 80 0 (nI 0))) := by rw [bv80]; exact hK
  have e91 : up2 I 80 0 (nI 0) 91 = I 91 := up2_o (by decide)
  have e93 : up2 I 80 0 (nI 0) 93 = I 93 := up2_o (by decide)
  have e80 : up2 I 80 0 (nI 0) 80 2 = I 80 2 := up2_n (by decide)
  have hcn : I 93 1 = nI (nN (bv I)) ∧ nN (bv I) ≤ 16 := bk_N hK
  have hi1 := inB_c (x := x) (N := nN (bv I)) (by omega)
  have hi2 := inB_c (x := y) (N := nN (bv I)) (by omega)
  have e96 : up2 I 80 0 (nI 0) 96 = I 96 := up2_o (by decide)
  have hN := hcn.2
  have hcl := bk_clo hK
  have no : (¬ ((∃ a, a < nN (bv I) ∧ x = nI a) ∧ isU (nN (bv I)) y)) → VG Γ 0 0 26 [some (.ref 80), some (.int x), some (.int y)] [] (up2 I 80 0 (nI 0)) J P (Fnl Γ (Qi Q)) := by
    intro hc
    refine g_aload_0 h dX12_hang_26 ?_
    refine g_iconst h dX12_hang_27 (v := nI 1) rfl ?_
    refine g_cVi1 h rok0 mi_X12_no dX12_hang_28 ml_X12_10 rfl rfl rfl (Nat.le_of_ble_eq_true rfl) (Nat.le_of_ble_eq_true rfl) (sp_X12_no ?_)
    refine g_iret h dX12_hang_31 ?_
    exact hQ0 hc
  have at52 : ∀ a, a < nN (bv I) → x = nI a → isU (nN (bv I)) y → wth (I 96) (nN (bv I)) (nI a) 4 y = false → VG Γ 0 0 52 [some (.ref 80), some (.int x), some (.int y)] [] (up2 I 80 0 (nI 0)) J P (Fnl Γ (Qi Q)) := by
    intro a a1 a2 hy hw
    subst a2
    have hyc : chn (I 96) (nN (bv I)) 4 y := by
      rcases hy with rfl | ⟨b, b1, rfl⟩
      · exact Or.inl rfl
      · exact bk_c hK b b1
    have b1 := dep_le (I 96) (nN (bv I)) 4 y
    have b2 := rch_le (u := I 96) (N := nN (bv I)) 4 a
    by_cases hd : dep (I 96) (nN (bv I)) 4 y + rch (I 96) (nN (bv I)) 4 a ≤ 4
    · have hg : hgC (I 96) (nN (bv I)) a y = false := by rw [hgC, hw, decide_eq_true hd]; rfl
      refine g_aload_0 h dX12_hang_52 ?_
      refine g_getP h fl_X12_87 dX12_hang_53 rfl rfl (by assumption) ?_
      refine g_iload_2 h dX12_hang_56 ?_
      refine g_cVi1 h rok0 mi_X11_deep dX12_hang_57 ml_X12_254 rfl rfl rfl (Nat.le_of_ble_eq_true rfl) (Nat.le_of_ble_eq_true rfl) (sp_deepB (N := nN (bv I)) hN (by rw [e96]; exact hyc) ?_)
      refine g_aload_0 h dX12_hang_60 ?_
      refine g_iload_1 h dX12_hang_61 ?_
      refine g_cVi1 h rok0 mi_X12_reach dX12_hang_62 ml_X12_402 rfl rfl rfl (Nat.le_of_ble_eq_true rfl) (Nat.le_of_ble_eq_true rfl) (sp_X12_reach (N := nN (bv I)) hB1 (by rw [e93]; exact hcn.1) hN 4 _ a (by decide) (by omega) (by rw [e96]; exact bk_t hK a a1) ?_)
      refine g_iadd h dX12_hang_65 ?_
      rw [nI_add, e96]
      refine g_iconst h dX12_hang_66 (v := nI 4) rfl ?_
      refine g_icmp_le h 76 dX12_hang_67 rfl (fun _ => ?_) (fun c => absurd (nI_le hd (by decide)) c)
      refine g_aload_0 h dX12_hang_76 ?_
      refine g_getP h fl_X12_87 dX12_hang_77 rfl rfl (by assumption) ?_
      refine g_getC h fl_X12_248 dX12_hang_80 rfl rfl ?_
      refine g_iload_1 h dX12_hang_83 ?_
      refine g_iload_2 h dX12_hang_84 ?_
      refine g_iast h a dX12_hang_85 rfl rfl (by omega) ?_
      refine g_aload_0 h dX12_hang_86 ?_
      refine g_getP h fl_X12_87 dX12_hang_87 rfl rfl (by assumption) ?_
      refine g_iload_1 h dX12_hang_90 ?_
      refine g_cVi1 h rok0 mi_X11_deep dX12_hang_91 ml_X12_254 rfl rfl rfl (Nat.le_of_ble_eq_true rfl) (Nat.le_of_ble_eq_true rfl) (sp_deepB (N := nN (bv I)) hN (by rw [up2_row, setRow_s, e96]; exact chn_hang hcl (bk_c hK) a1 hyc hw hd a a1) ?_)
      refine g_iret h dX12_hang_94 ?_
      rw [show up2 (up2 I 80 0 (nI 0)) 96 a y 96 = upd (I 96) a y by rw [up2_row, setRow_s, e96]]
      exact hQ1 a a1 rfl hy hg
    · have hg : hgC (I 96) (nN (bv I)) a y = true := by rw [hgC, hw, decide_eq_false hd]; rfl
      refine g_aload_0 h dX12_hang_52 ?_
      refine g_getP h fl_X12_87 dX12_hang_53 rfl rfl (by assumption) ?_
      refine g_iload_2 h dX12_hang_56 ?_
      refine g_cVi1 h rok0 mi_X11_deep dX12_hang_57 ml_X12_254 rfl rfl rfl (Nat.le_of_ble_eq_true rfl) (Nat.le_of_ble_eq_true rfl) (sp_deepB (N := nN (bv I)) hN (by rw [e96]; exact hyc) ?_)
      refine g_aload_0 h dX12_hang_60 ?_
      refine g_iload_1 h dX12_hang_61 ?_
      refine g_cVi1 h rok0 mi_X12_reach dX12_hang_62 ml_X12_402 rfl rfl rfl (Nat.le_of_ble_eq_true rfl) (Nat.le_of_ble_eq_true rfl) (sp_X12_reach (N := nN (bv I)) hB1 (by rw [e93]; exact hcn.1) hN 4 _ a (by decide) (by omega) (by rw [e96]; exact bk_t hK a a1) ?_)
      refine g_iadd h dX12_hang_65 ?_
      rw [nI_add, e96]
      refine g_iconst h dX12_hang_66 (v := nI 4) rfl ?_
      refine g_icmp_le h 76 dX12_hang_67 rfl (fun c => absurd (leN c (by omega) (by decide)) hd) (fun _ => ?_)
      refine g_aload_0 h dX12_hang_70 ?_
      refine g_iconst h dX12_hang_71 (v := nI 2) rfl ?_
      refine g_cVi1 h rok0 mi_X12_no dX12_hang_72 ml_X12_10 rfl rfl rfl (Nat.le_of_ble_eq_true rfl) (Nat.le_of_ble_eq_true rfl) (sp_X12_no ?_)
      refine g_iret h dX12_hang_75 ?_
      exact hQ2 a a1 rfl hy hg
  by_cases h1 : ∃ a, a < nN (bv I) ∧ x = nI a
  · obtain ⟨a, a1, a2⟩ := id h1
    by_cases hm : y = -1
    · refine g_aload_0 h dX12_hang_0 ?_
      refine g_iconst h dX12_hang_1 (v := nI 0) rfl ?_
      refine g_putI h fp_X12_1 dX12_hang_2 rfl rfl ?_
      refine g_aload_0 h dX12_hang_5 ?_
      refine g_iload_1 h dX12_hang_6 ?_
      refine g_cVi1 h rok0 mi_X12_isCord dX12_hang_7 ml_X12_372 rfl rfl rfl (Nat.le_of_ble_eq_true rfl) (Nat.le_of_ble_eq_true rfl) (sp_X12_isCord hB1 ?_)
      rw [show up2 I 80 0 (nI 0) 93 1 = nI (nN (bv I)) by rw [e93]; exact hcn.1, show inB x (nI 0) (nI (nN (bv I)) - nI 1) = true from hi1.mpr h1]
      refine g_if_eq h 26 dX12_hang_10 rfl (fun c => absurd c (by decide)) (fun _ => ?_)
      refine g_iload_2 h dX12_hang_13 ?_
      refine g_iconst h dX12_hang_14 (v := (-1)) rfl ?_
      refine g_icmp_eq h 32 dX12_hang_15 rfl (fun _ => ?_) (fun c => absurd hm c)
      refine g_iload_2 h dX12_hang_32 ?_
      refine g_iconst h dX12_hang_33 (v := (-1)) rfl ?_
      refine g_icmp_eq h 52 dX12_hang_34 rfl (fun _ => ?_) (fun c => absurd hm c)
      exact at52 a a1 a2 (Or.inl hm) (by rw [hm, wth_m1])
    · by_cases h2 : ∃ b, b < nN (bv I) ∧ y = nI b
      · have hyc : chn (I 96) (nN (bv I)) 4 y := by
          obtain ⟨b, b1, rfl⟩ := h2
          exact bk_c hK b b1
        cases hw : wth (I 96) (nN (bv I)) (nI a) 4 y with
        | true =>
          refine g_aload_0 h dX12_hang_0 ?_
          refine g_iconst h dX12_hang_1 (v := nI 0) rfl ?_
          refine g_putI h fp_X12_1 dX12_hang_2 rfl rfl ?_
          refine g_aload_0 h dX12_hang_5 ?_
          refine g_iload_1 h dX12_hang_6 ?_
          refine g_cVi1 h rok0 mi_X12_isCord dX12_hang_7 ml_X12_372 rfl rfl rfl (Nat.le_of_ble_eq_true rfl) (Nat.le_of_ble_eq_true rfl) (sp_X12_isCord hB1 ?_)
          rw [show up2 I 80 0 (nI 0) 93 1 = nI (nN (bv I)) by rw [e93]; exact hcn.1, show inB x (nI 0) (nI (nN (bv I)) - nI 1) = true from hi1.mpr h1]
          refine g_if_eq h 26 dX12_hang_10 rfl (fun c => absurd c (by decide)) (fun _ => ?_)
          refine g_iload_2 h dX12_hang_13 ?_
          refine g_iconst h dX12_hang_14 (v := (-1)) rfl ?_
          refine g_icmp_eq h 32 dX12_hang_15 rfl (fun c => absurd c hm) (fun _ => ?_)
          refine g_aload_0 h dX12_hang_18 ?_
          refine g_iload_2 h dX12_hang_19 ?_
          refine g_cVi1 h rok0 mi_X12_isCord dX12_hang_20 ml_X12_372 rfl rfl rfl (Nat.le_of_ble_eq_true rfl) (Nat.le_of_ble_eq_true rfl) (sp_X12_isCord hB1 ?_)
          rw [show up2 I 80 0 (nI 0) 93 1 = nI (nN (bv I)) by rw [e93]; exact hcn.1, show inB y (nI 0) (nI (nN (bv I)) - nI 1) = true from hi2.mpr h2]
          refine g_if_ne h 32 dX12_hang_23 rfl (fun _ => ?_) (fun c => absurd c (by decide))
          refine g_iload_2 h dX12_hang_32 ?_
          refine g_iconst h dX12_hang_33 (v := (-1)) rfl ?_
          refine g_icmp_eq h 52 dX12_hang_34 rfl (fun c => absurd c hm) (fun _ => ?_)
          refine g_aload_0 h dX12_hang_37 ?_
          refine g_iload_2 h dX12_hang_38 ?_
          refine g_iload_1 h dX12_hang_39 ?_
          refine g_cVi2 h rok0 mi_X12_isBelow dX12_hang_40 ml_X12_405 rfl rfl rfl (Nat.le_of_ble_eq_true rfl) (Nat.le_of_ble_eq_true rfl) (sp_X12_isBelow (N := nN (bv I)) hB1 hN (by rw [e96]; exact hyc) ?_)
          rw [e96, a2, show b2i (wth (I 96) (nN (bv I)) (nI a) 4 y) = b2i true from congrArg b2i hw]
          refine g_if_eq h 52 dX12_hang_43 rfl (fun c => absurd c (by decide)) (fun _ => ?_)
          refine g_aload_0 h dX12_hang_46 ?_
          refine g_iconst h dX12_hang_47 (v := nI 2) rfl ?_
          refine g_cVi1 h rok0 mi_X12_no dX12_hang_48 ml_X12_10 rfl rfl rfl (Nat.le_of_ble_eq_true rfl) (Nat.le_of_ble_eq_true rfl) (sp_X12_no ?_)
          refine g_iret h dX12_hang_51 ?_
          exact hQ2 a a1 a2 (Or.inr h2) (by rw [hgC, hw]; rfl)
        | false =>
          refine g_aload_0 h dX12_hang_0 ?_
          refine g_iconst h dX12_hang_1 (v := nI 0) rfl ?_
          refine g_putI h fp_X12_1 dX12_hang_2 rfl rfl ?_
          refine g_aload_0 h dX12_hang_5 ?_
          refine g_iload_1 h dX12_hang_6 ?_
          refine g_cVi1 h rok0 mi_X12_isCord dX12_hang_7 ml_X12_372 rfl rfl rfl (Nat.le_of_ble_eq_true rfl) (Nat.le_of_ble_eq_true rfl) (sp_X12_isCord hB1 ?_)
          rw [show up2 I 80 0 (nI 0) 93 1 = nI (nN (bv I)) by rw [e93]; exact hcn.1, show inB x (nI 0) (nI (nN (bv I)) - nI 1) = true from hi1.mpr h1]
          refine g_if_eq h 26 dX12_hang_10 rfl (fun c => absurd c (by decide)) (fun _ => ?_)
          refine g_iload_2 h dX12_hang_13 ?_
          refine g_iconst h dX12_hang_14 (v := (-1)) rfl ?_
          refine g_icmp_eq h 32 dX12_hang_15 rfl (fun c => absurd c hm) (fun _ => ?_)
          refine g_aload_0 h dX12_hang_18 ?_
          refine g_iload_2 h dX12_hang_19 ?_
          refine g_cVi1 h rok0 mi_X12_isCord dX12_hang_20 ml_X12_372 rfl rfl rfl (Nat.le_of_ble_eq_true rfl) (Nat.le_of_ble_eq_true rfl) (sp_X12_isCord hB1 ?_)
          rw [show up2 I 80 0 (nI 0) 93 1 = nI (nN (bv I)) by rw [e93]; exact hcn.1, show inB y (nI 0) (nI (nN (bv I)) - nI 1) = true from hi2.mpr h2]
          refine g_if_ne h 32 dX12_hang_23 rfl (fun _ => ?_) (fun c => absurd c (by decide))
          refine g_iload_2 h dX12_hang_32 ?_
          refine g_iconst h dX12_hang_33 (v := (-1)) rfl ?_
          refine g_icmp_eq h 52 dX12_hang_34 rfl (fun c => absurd c hm) (fun _ => ?_)
          refine g_aload_0 h dX12_hang_37 ?_
          refine g_iload_2 h dX12_hang_38 ?_
          refine g_iload_1 h dX12_hang_39 ?_
          refine g_cVi2 h rok0 mi_X12_isBelow dX12_hang_40 ml_X12_405 rfl rfl rfl (Nat.le_of_ble_eq_true rfl) (Nat.le_of_ble_eq_true rfl) (sp_X12_isBelow (N := nN (bv I)) hB1 hN (by rw [e96]; exact hyc) ?_)
          rw [e96, a2, show b2i (wth (I 96) (nN (bv I)) (nI a) 4 y) = b2i false from congrArg b2i hw]
          refine g_if_eq h 52 dX12_hang_43 rfl (fun _ => ?_) (fun c => absurd rfl c)
          rw [← a2]
          exact at52 a a1 a2 (Or.inr h2) hw
      · refine g_aload_0 h dX12_hang_0 ?_
        refine g_iconst h dX12_hang_1 (v := nI 0) rfl ?_
        refine g_putI h fp_X12_1 dX12_hang_2 rfl rfl ?_
        refine g_aload_0 h dX12_hang_5 ?_
        refine g_iload_1 h dX12_hang_6 ?_
        refine g_cVi1 h rok0 mi_X12_isCord dX12_hang_7 ml_X12_372 rfl rfl rfl (Nat.le_of_ble_eq_true rfl) (Nat.le_of_ble_eq_true rfl) (sp_X12_isCord hB1 ?_)
        rw [show up2 I 80 0 (nI 0) 93 1 = nI (nN (bv I)) by rw [e93]; exact hcn.1, show inB x (nI 0) (nI (nN (bv I)) - nI 1) = true from hi1.mpr h1]
        refine g_if_eq h 26 dX12_hang_10 rfl (fun c => absurd c (by decide)) (fun _ => ?_)
        refine g_iload_2 h dX12_hang_13 ?_
        refine g_iconst h dX12_hang_14 (v := (-1)) rfl ?_
        refine g_icmp_eq h 32 dX12_hang_15 rfl (fun c => absurd c hm) (fun _ => ?_)
        refine g_aload_0 h dX12_hang_18 ?_
        refine g_iload_2 h dX12_hang_19 ?_
        refine g_cVi1 h rok0 mi_X12_isCord dX12_hang_20 ml_X12_372 rfl rfl rfl (Nat.le_of_ble_eq_true rfl) (Nat.le_of_ble_eq_true rfl) (sp_X12_isCord hB1 ?_)
        rw [show up2 I 80 0 (nI 0) 93 1 = nI (nN (bv I)) by rw [e93]; exact hcn.1, show inB y (nI 0) (nI (nN (bv I)) - nI 1) = false from inB_f hi2 h2]
        refine g_if_ne h 32 dX12_hang_23 rfl (fun c => absurd rfl c) (fun _ => ?_)
        exact no (fun q => q.2.elim hm h2)
  · refine g_aload_0 h dX12_hang_0 ?_
    refine g_iconst h dX12_hang_1 (v := nI 0) rfl ?_
    refine g_putI h fp_X12_1 dX12_hang_2 rfl rfl ?_
    refine g_aload_0 h dX12_hang_5 ?_
    refine g_iload_1 h dX12_hang_6 ?_
    refine g_cVi1 h rok0 mi_X12_isCord dX12_hang_7 ml_X12_372 rfl rfl rfl (Nat.le_of_ble_eq_true rfl) (Nat.le_of_ble_eq_true rfl) (sp_X12_isCord hB1 ?_)
    rw [show up2 I 80 0 (nI 0) 93 1 = nI (nN (bv I)) by rw [e93]; exact hcn.1, show inB x (nI 0) (nI (nN (bv I)) - nI 1) = false from inB_f hi1 h1]
    refine g_if_eq h 26 dX12_hang_10 rfl (fun _ => ?_) (fun c => absurd rfl c)
    exact no (fun q => h1 q.1)
set_option maxRecDepth 100000 in
set_option maxHeartbeats 4000000 in
theorem sp_X12_pass_ {d : Nat} {x : Int32} {I : MI} {J : MJ} {P : MP} (hB : P 80 8 = some 93) (hK : bkOK (bv I)) {ts : Nat → Option EX} {es : Nat → EX} (ho : ∀ q, q < nO (bv I) → orK (bv I) q (ts q) (es q)) {Q : Int32 → MI → MJ → MP → Prop} (hQ1 : ∀ m, 1 ≤ m → m ≤ 120 → x = nI m → Q (psR (bv I) ts es m (I 91) 1 - I 91 1) (setRow (up2 I 80 0 (nI 0)) 91 (psR (bv I) ts es m (I 91))) J P) (hQ0 : (¬ ∃ m, 1 ≤ m ∧ m ≤ 120 ∧ x = nI m) → Q (nI 0) (up2 (up2 I 80 0 (nI 0)) 80 0 (nI 1)) J P) : Sp yX12_pass_ cX12_pass_ 3 (some .int) (d + 412) [.ref 80, .int x] I J P (Qi Q) := by
  intro Γ h
  show VG Γ 0 0 0 [some (.ref 80), some (.int x), none] [] _ _ _ _
  have hB1 : P 80 8 = some 93 := hB
  have hK1 : bkOK (bv (up2 I 80 0 (nI 0))) := by rw [bv80]; exact hK
  have e91 : up2 I 80 0 (nI 0) 91 = I 91 := up2_o (by decide)
  have e93 : up2 I 80 0 (nI 0) 93 = I 93 := up2_o (by decide)
  have e80 : up2 I 80 0 (nI 0) 80 2 = I 80 2 := up2_n (by decide)
  have hi1 := inB_1 (x := x) (a := 1) (m := 120) (by decide) (by decide)
  by_cases h1 : ∃ m, 1 ≤ m ∧ m ≤ 120 ∧ x = nI m
  · obtain ⟨m, m1, m2, m3⟩ := id h1
    refine g_aload_0 h dX12_pass__0 ?_
    refine g_iconst h dX12_pass__1 (v := nI 0) rfl ?_
    refine g_putI h fp_X12_1 dX12_pass__2 rfl rfl ?_
    refine g_iload_1 h dX12_pass__5 ?_
    refine g_iconst h dX12_pass__6 (v := nI 1) rfl ?_
    refine g_bipush h dX12_pass__7 (v := nI 120) rfl ?_
    refine g_cSi3 h rok0 mi_X12_isIn dX12_pass__9 ml_X12_22 (Nat.le_of_ble_eq_true rfl) (Nat.le_of_ble_eq_true rfl) (sp_X12_isIn ?_)
    rw [show b2i (inB x (nI 1) _) = b2i true from congrArg b2i (hi1.mpr h1)]
    refine g_if_ne h 21 dX12_pass__12 rfl (fun _ => ?_) (fun c => absurd c (by decide))
    refine g_aload_0 h dX12_pass__21 ?_
    refine g_getC h fl_X12_109 dX12_pass__22 rfl rfl ?_
    refine g_iconst h dX12_pass__25 (v := nI 1) rfl ?_
    refine g_iald h 1 dX12_pass__26 rfl rfl (by decide) ?_
    refine g_istore_2 h dX12_pass__27 (by decide) rfl ?_
    refine g_aload_0 h dX12_pass__28 ?_
    refine g_aload_0 h dX12_pass__29 ?_
    refine g_getC h fl_X12_109 dX12_pass__30 rfl rfl ?_
    refine g_iload_1 h dX12_pass__33 ?_
    rw [m3]
    refine g_cVv2 h rok0 mi_X12_passAll dX12_pass__34 ml_X12_408 rfl rfl rfl (Nat.le_of_ble_eq_true rfl) (Nat.le_of_ble_eq_true rfl) (sp_X12_passAll (m := m) (by omega) (Or.inl rfl) hB1 hK1 (ts := ts) (es := es) (by rw [bv80]; exact ho) ?_)
    refine g_aload_0 h dX12_pass__37 ?_
    refine g_getC h fl_X12_109 dX12_pass__38 rfl rfl ?_
    refine g_iconst h dX12_pass__41 (v := nI 1) rfl ?_
    refine g_iald h 1 dX12_pass__42 rfl rfl (by decide) ?_
    refine g_iload_2 h dX12_pass__43 ?_
    refine g_isub h dX12_pass__44 ?_
    refine g_iret h dX12_pass__45 ?_
    rw [setRow_s, bv80, e91]
    exact hQ1 m m1 m2 m3
  · refine g_aload_0 h dX12_pass__0 ?_
    refine g_iconst h dX12_pass__1 (v := nI 0) rfl ?_
    refine g_putI h fp_X12_1 dX12_pass__2 rfl rfl ?_
    refine g_iload_1 h dX12_pass__5 ?_
    refine g_iconst h dX12_pass__6 (v := nI 1) rfl ?_
    refine g_bipush h dX12_pass__7 (v := nI 120) rfl ?_
    refine g_cSi3 h rok0 mi_X12_isIn dX12_pass__9 ml_X12_22 (Nat.le_of_ble_eq_true rfl) (Nat.le_of_ble_eq_true rfl) (sp_X12_isIn ?_)
    rw [show b2i (inB x (nI 1) _) = b2i false from congrArg b2i (inB_f hi1 h1)]
    refine g_if_ne h 21 dX12_pass__12 rfl (fun c => absurd rfl c) (fun _ => ?_)
    refine g_aload_0 h dX12_pass__15 ?_
    refine g_iconst h dX12_pass__16 (v := nI 1) rfl ?_
    refine g_cVi1 h rok0 mi_X12_no dX12_pass__17 ml_X12_10 rfl rfl rfl (Nat.le_of_ble_eq_true rfl) (Nat.le_of_ble_eq_true rfl) (sp_X12_no ?_)
    refine g_iret h dX12_pass__20 ?_
    exact hQ0 h1
def unR (B : MI) (ts : Nat → Option EX) (es : Nat → EX) (a : Nat) : Nat → Nat → (Nat → Int32) → Int32
  | 0, _, _ => -1
  | f + 1, k, row => if wrgB (row (19 + a)) (dueB B row a) = true then nI k else unR B ts es a f (k + 1) (psR1 B ts es row)
set_option maxRecDepth 100000 in
set_option maxHeartbeats 4000000 in
theorem lp_X12_until {Γ : Cx} {d a : Nat} {I0 : MI} {J : MJ} {P : MP} (hB : P 80 8 = some 93) {ts : Nat → Option EX} {es : Nat → EX} {v : Int32} {Q : Int32 → MI → MJ → MP → Prop} (hQ : ∀ I', (∀ b, b ≠ 92 → I' b = I0 b) → Q v I' J P) (h : Vc RX12 cX12_until 3 (some .int) (d + 411) Γ) : ∀ (f k : Nat) (I : MI) (hK : bkOK (bv I)) (ho : ∀ q, q < nO (bv I) → orK (bv I) q (ts q) (es q)) (ha : a < nT (bv I)), k + f = 151 → (∀ b, b ≠ 92 → I b = I0 b) → unR (bv I) ts es a f k (I 92) = v → VG Γ 0 0 25 [some (.ref 80), some (.int (nI a)), some (.int (nI k))] [] I J P (Fnl Γ (Qi Q)) := by
  intro f
  induction f with
  | zero =>
    intro k I hK ho ha hk hI hv
    refine g_iload_2 h dX12_until_25 ?_
    refine g_sipush h dX12_until_26 (v := nI 150) rfl ?_
    refine g_icmp_gt h 60 dX12_until_29 rfl (fun _ => ?_) (fun c => absurd (nI_lt (by omega) (by omega)) c)
    refine g_iconst h dX12_until_60 (v := (-1)) rfl ?_
    refine g_iret h dX12_until_61 ?_
    exact q_i hv (hQ I hI)
  | succ f ih =>
    intro k I hK ho ha hk hI hv
    have hT6 := (bk_T hK).2
    rw [unR] at hv
    refine g_iload_2 h dX12_until_25 ?_
    refine g_sipush h dX12_until_26 (v := nI 150) rfl ?_
    refine g_icmp_gt h 60 dX12_until_29 rfl (fun c => absurd (ltN c (by omega) (by omega)) (by omega)) (fun _ => ?_)
    refine g_aload_0 h dX12_until_32 ?_
    refine g_aload_0 h dX12_until_33 ?_
    refine g_getC h fl_X12_112 dX12_until_34 rfl rfl ?_
    refine g_iload_1 h dX12_until_37 ?_
    refine g_cVi2 h rok0 mi_X12_isWrong dX12_until_38 ml_X12_319 rfl rfl rfl (Nat.le_of_ble_eq_true rfl) (Nat.le_of_ble_eq_true rfl) (sp_X12_isWrong (Or.inr rfl) hB (bk_N hK).1 (bk_N hK).2 (bk_t hK) (by omega) (bk_Z hK a ha).1 (bk_Z hK a ha).2.1 (bk_Z hK a ha).2.2 ?_)
    refine g_if_eq h 46 dX12_until_41 rfl (fun c41 => ?_) (fun c41 => ?_)
    · refine g_aload_0 h dX12_until_46 ?_
      refine g_aload_0 h dX12_until_47 ?_
      refine g_getC h fl_X12_112 dX12_until_48 rfl rfl ?_
      refine g_cVv1 h rok0 mi_X12_pass dX12_until_51 ml_X12_341 rfl rfl rfl (Nat.le_of_ble_eq_true rfl) (Nat.le_of_ble_eq_true rfl) (sp_X12_pass (Or.inr rfl) hB hK ho ?_)
      refine g_iinc_2 h dX12_until_54 (inc1 _) (by decide) rfl ?_
      refine g_goto h 25 dX12_until_57 rfl ?_
      rw [if_neg (show ¬ wrgB (I 92 (19 + a)) (dueB (bv I) (I 92) a) = true from fun q => by rw [show wrgB (I 92 (19 + a)) (dueR (I 96) (I 92) (I 98) (nN (bv I)) a (zR (bv I) a)) = true from q] at c41; exact absurd c41 (by decide))] at hv
      have e := bvRow (I := I) (r := psR1 (bv I) ts es (I 92)) (a := 92) (Or.inr rfl)
      exact ih (k + 1) _ (by rw [e]; exact hK) (by rw [e]; exact ho) (by rw [e]; exact ha) (by omega) (fun b hb => (setRow_o hb).trans (hI b hb)) (by rw [e, setRow_s]; exact hv)
    · refine g_iload_2 h dX12_until_44 ?_
      refine g_iret h dX12_until_45 ?_
      rw [if_pos (show wrgB (I 92 (19 + a)) (dueB (bv I) (I 92) a) = true from b2i_n0.mp c41)] at hv
      exact q_i hv (hQ I hI)
set_option maxRecDepth 100000 in
set_option maxHeartbeats 4000000 in
theorem sp_X12_until {d : Nat} {x : Int32} {I : MI} {J : MJ} {P : MP} (hB : P 80 8 = some 93) (hK : bkOK (bv I)) {ts : Nat → Option EX} {es : Nat → EX} (ho : ∀ q, q < nO (bv I) → orK (bv I) q (ts q) (es q)) {Q : Int32 → MI → MJ → MP → Prop} (hQ1 : ∀ a, a < nT (bv I) → x = nI a → ∀ I', (∀ b, b ≠ 92 → I' b = up2 I 80 0 (nI 0) b) → Q (unR (bv I) ts es a 151 0 (va_cpy (I 91) (I 92) 0 0 35)) I' J P) (hQ0 : (¬ ∃ a, a < nT (bv I) ∧ x = nI a) → Q (nI 0) (up2 (up2 I 80 0 (nI 0)) 80 0 (nI 1)) J P) : Sp yX12_until cX12_until 3 (some .int) (d + 411) [.ref 80, .int x] I J P (Qi Q) := by
  intro Γ h
  show VG Γ 0 0 0 [some (.ref 80), some (.int x), none] [] _ _ _ _
  have hB1 : P 80 8 = some 93 := hB
  have hK1 : bkOK (bv (up2 I 80 0 (nI 0))) := by rw [bv80]; exact hK
  have e91 : up2 I 80 0 (nI 0) 91 = I 91 := up2_o (by decide)
  have e93 : up2 I 80 0 (nI 0) 93 = I 93 := up2_o (by decide)
  have e80 : up2 I 80 0 (nI 0) 80 2 = I 80 2 := up2_n (by decide)
  have hcn : I 93 2 = nI (nT (bv I)) ∧ nT (bv I) ≤ 6 := bk_T hK
  have hi1 := inB_c (x := x) (N := nT (bv I)) (by omega)
  by_cases h1 : ∃ a, a < nT (bv I) ∧ x = nI a
  · obtain ⟨a, a1, a2⟩ := id h1
    refine g_aload_0 h dX12_until_0 ?_
    refine g_iconst h dX12_until_1 (v := nI 0) rfl ?_
    refine g_putI h fp_X12_1 dX12_until_2 rfl rfl ?_
    refine g_aload_0 h dX12_until_5 ?_
    refine g_iload_1 h dX12_until_6 ?_
    refine g_cVi1 h rok0 mi_X12_isTop dX12_until_7 ml_X12_378 rfl rfl rfl (Nat.le_of_ble_eq_true rfl) (Nat.le_of_ble_eq_true rfl) (sp_X12_isTop hB1 ?_)
    rw [show up2 I 80 0 (nI 0) 93 2 = nI (nT (bv I)) by rw [e93]; exact hcn.1, show inB x (nI 0) (nI (nT (bv I)) - nI 1) = true from hi1.mpr h1]
    refine g_if_ne h 19 dX12_until_10 rfl (fun _ => ?_) (fun c => absurd c (by decide))
    refine g_aload_0 h dX12_until_19 ?_
    refine g_cVv0 h rok0 mi_X12_lookAhead dX12_until_20 ml_X12_411 rfl rfl rfl (Nat.le_of_ble_eq_true rfl) (Nat.le_of_ble_eq_true rfl) (sp_X12_lookAhead ?_)
    refine g_iconst h dX12_until_23 (v := nI 0) rfl ?_
    refine g_istore_2 h dX12_until_24 (by decide) rfl ?_
    subst a2
    have e := bvRow (I := up2 I 80 0 (nI 0)) (r := va_cpy (up2 I 80 0 (nI 0) 91) (up2 I 80 0 (nI 0) 92) 0 0 35) (a := 92) (Or.inr rfl)
    rw [bv80] at e
    refine lp_X12_until (d := d) (ts := ts) (es := es) hB1 (hQ1 a a1 rfl) h 151 0 _ (by rw [e]; exact hK) (by rw [e]; exact ho) (by rw [e]; exact a1) (by decide) (fun b hb => setRow_o hb) ?_
    rw [e, setRow_s, e91, up2_o (show (92 : Nat) ≠ 80 by decide)]
  · refine g_aload_0 h dX12_until_0 ?_
    refine g_iconst h dX12_until_1 (v := nI 0) rfl ?_
    refine g_putI h fp_X12_1 dX12_until_2 rfl rfl ?_
    refine g_aload_0 h dX12_until_5 ?_
    refine g_iload_1 h dX12_until_6 ?_
    refine g_cVi1 h rok0 mi_X12_isTop dX12_until_7 ml_X12_378 rfl rfl rfl (Nat.le_of_ble_eq_true rfl) (Nat.le_of_ble_eq_true rfl) (sp_X12_isTop hB1 ?_)
    rw [show up2 I 80 0 (nI 0) 93 2 = nI (nT (bv I)) by rw [e93]; exact hcn.1, show inB x (nI 0) (nI (nT (bv I)) - nI 1) = false from inB_f hi1 h1]
    refine g_if_ne h 19 dX12_until_10 rfl (fun c => absurd rfl c) (fun _ => ?_)
    refine g_aload_0 h dX12_until_13 ?_
    refine g_iconst h dX12_until_14 (v := nI 1) rfl ?_
    refine g_cVi1 h rok0 mi_X12_no dX12_until_15 ml_X12_10 rfl rfl rfl (Nat.le_of_ble_eq_true rfl) (Nat.le_of_ble_eq_true rfl) (sp_X12_no ?_)
    refine g_iret h dX12_until_18 ?_
    exact hQ0 h1
set_option maxRecDepth 100000 in
set_option maxHeartbeats 4000000 in
theorem sp_X12_foresee {d : Nat} {x y : Int32} {I : MI} {J : MJ} {P : MP} (hB : P 80 8 = some 93) (hK : bkOK (bv I)) {ts : Nat → Option EX} {es : Nat → EX} (ho : ∀ q, q < nO (bv I) → orK (bv I) q (ts q) (es q)) {Q : Int32 → MI → MJ → MP → Prop} (hQ1 : ∀ m w, 1 ≤ m → m ≤ 120 → 6 ≤ w → w ≤ 11 → x = nI m → y = nI w → ∀ I', (∀ b, b ≠ 92 → I' b = up2 I 80 0 (nI 0) b) → Q (cntR (bv I) (psR (bv I) ts es m (va_cpy (I 91) (I 92) 0 0 35)) (I 80 2) w) I' J P) (hQ0 : (¬ ∃ m, 1 ≤ m ∧ m ≤ 120 ∧ x = nI m) → Q (nI 0) (up2 (up2 I 80 0 (nI 0)) 80 0 (nI 1)) J P) (hQ2 : (∃ m, 1 ≤ m ∧ m ≤ 120 ∧ x = nI m) → (¬ ∃ w, 6 ≤ w ∧ w ≤ 11 ∧ y = nI w) → Q (nI 0) (up2 (up2 I 80 0 (nI 0)) 80 0 (nI 2)) J P) : Sp yX12_foresee cX12_foresee 3 (some .int) (d + 412) [.ref 80, .int x, .int y] I J P (Qi Q) := by
  intro Γ h
  show VG Γ 0 0 0 [some (.ref 80), some (.int x), some (.int y)] [] _ _ _ _
  have hB1 : P 80 8 = some 93 := hB
  have hK1 : bkOK (bv (up2 I 80 0 (nI 0))) := by rw [bv80]; exact hK
  have e91 : up2 I 80 0 (nI 0) 91 = I 91 := up2_o (by decide)
  have e93 : up2 I 80 0 (nI 0) 93 = I 93 := up2_o (by decide)
  have e80 : up2 I 80 0 (nI 0) 80 2 = I 80 2 := up2_n (by decide)
  have hi1 := inB_1 (x := x) (a := 1) (m := 120) (by decide) (by decide)
  have hi2 := inB_1 (x := y) (a := 6) (m := 11) (by decide) (by decide)
  by_cases h1 : ∃ m, 1 ≤ m ∧ m ≤ 120 ∧ x = nI m
  · by_cases h2 : ∃ w, 6 ≤ w ∧ w ≤ 11 ∧ y = nI w
    · obtain ⟨m, m1, m2, m3⟩ := id h1
      obtain ⟨w, w1, w2, w3⟩ := id h2
      have e := bvRow (I := up2 I 80 0 (nI 0)) (r := va_cpy (up2 I 80 0 (nI 0) 91) (up2 I 80 0 (nI 0) 92) 0 0 35) (a := 92) (Or.inr rfl)
      rw [bv80] at e
      have e2 := bvRow (I := setRow (up2 I 80 0 (nI 0)) 92 (va_cpy (up2 I 80 0 (nI 0) 91) (up2 I 80 0 (nI 0) 92) 0 0 35)) (r := psR (bv I) ts es m (va_cpy (I 91) (I 92) 0 0 35)) (a := 92) (Or.inr rfl)
      rw [e] at e2
      have e92 : setRow (up2 I 80 0 (nI 0)) 92 (va_cpy (up2 I 80 0 (nI 0) 91) (up2 I 80 0 (nI 0) 92) 0 0 35) 92 = va_cpy (I 91) (I 92) 0 0 35 := by rw [setRow_s, e91, up2_o (by decide)]
      refine g_aload_0 h dX12_foresee_0 ?_
      refine g_iconst h dX12_foresee_1 (v := nI 0) rfl ?_
      refine g_putI h fp_X12_1 dX12_foresee_2 rfl rfl ?_
      refine g_iload_1 h dX12_foresee_5 ?_
      refine g_iconst h dX12_foresee_6 (v := nI 1) rfl ?_
      refine g_bipush h dX12_foresee_7 (v := nI 120) rfl ?_
      refine g_cSi3 h rok0 mi_X12_isIn dX12_foresee_9 ml_X12_22 (Nat.le_of_ble_eq_true rfl) (Nat.le_of_ble_eq_true rfl) (sp_X12_isIn ?_)
      rw [show b2i (inB x (nI 1) _) = b2i true from congrArg b2i (hi1.mpr h1)]
      refine g_if_ne h 21 dX12_foresee_12 rfl (fun _ => ?_) (fun c => absurd c (by decide))
      refine g_iload_2 h dX12_foresee_21 ?_
      refine g_bipush h dX12_foresee_22 (v := nI 6) rfl ?_
      refine g_bipush h dX12_foresee_24 (v := nI 11) rfl ?_
      refine g_cSi3 h rok0 mi_X12_isIn dX12_foresee_26 ml_X12_22 (Nat.le_of_ble_eq_true rfl) (Nat.le_of_ble_eq_true rfl) (sp_X12_isIn ?_)
      rw [show b2i (inB y (nI 6) _) = b2i true from congrArg b2i (hi2.mpr h2)]
      refine g_if_ne h 38 dX12_foresee_29 rfl (fun _ => ?_) (fun c => absurd c (by decide))
      refine g_aload_0 h dX12_foresee_38 ?_
      refine g_cVv0 h rok0 mi_X12_lookAhead dX12_foresee_39 ml_X12_411 rfl rfl rfl (Nat.le_of_ble_eq_true rfl) (Nat.le_of_ble_eq_true rfl) (sp_X12_lookAhead ?_)
      refine g_aload_0 h dX12_foresee_42 ?_
      refine g_aload_0 h dX12_foresee_43 ?_
      refine g_getC h fl_X12_112 dX12_foresee_44 rfl rfl ?_
      refine g_iload_1 h dX12_foresee_47 ?_
      rw [m3]
      refine g_cVv2 h rok0 mi_X12_passAll dX12_foresee_48 ml_X12_408 rfl rfl rfl (Nat.le_of_ble_eq_true rfl) (Nat.le_of_ble_eq_true rfl) (sp_X12_passAll (m := m) (by omega) (Or.inr rfl) hB1 (by rw [e]; exact hK) (ts := ts) (es := es) (by rw [e]; exact ho) ?_)
      rw [e, e92]
      refine g_aload_0 h dX12_foresee_51 ?_
      refine g_aload_0 h dX12_foresee_52 ?_
      refine g_getC h fl_X12_112 dX12_foresee_53 rfl rfl ?_
      refine g_iload_2 h dX12_foresee_56 ?_
      rw [w3]
      refine g_cVi2 h rok0 mi_X12_counted dX12_foresee_57 ml_X12_357 rfl rfl rfl (Nat.le_of_ble_eq_true rfl) (Nat.le_of_ble_eq_true rfl) (sp_X12_counted (w := w) (Or.inr rfl) hB1 (by rw [e2]; exact hK) (by omega) ?_)
      refine g_iret h dX12_foresee_60 ?_
      rw [e2, setRow_s, setRow_o (show (80 : Nat) ≠ 92 by decide), setRow_o (show (80 : Nat) ≠ 92 by decide), e80]
      exact hQ1 m w m1 m2 w1 w2 m3 w3 _ (fun b hb => by rw [setRow_o hb, setRow_o hb])
    · refine g_aload_0 h dX12_foresee_0 ?_
      refine g_iconst h dX12_foresee_1 (v := nI 0) rfl ?_
      refine g_putI h fp_X12_1 dX12_foresee_2 rfl rfl ?_
      refine g_iload_1 h dX12_foresee_5 ?_
      refine g_iconst h dX12_foresee_6 (v := nI 1) rfl ?_
      refine g_bipush h dX12_foresee_7 (v := nI 120) rfl ?_
      refine g_cSi3 h rok0 mi_X12_isIn dX12_foresee_9 ml_X12_22 (Nat.le_of_ble_eq_true rfl) (Nat.le_of_ble_eq_true rfl) (sp_X12_isIn ?_)
      rw [show b2i (inB x (nI 1) _) = b2i true from congrArg b2i (hi1.mpr h1)]
      refine g_if_ne h 21 dX12_foresee_12 rfl (fun _ => ?_) (fun c => absurd c (by decide))
      refine g_iload_2 h dX12_foresee_21 ?_
      refine g_bipush h dX12_foresee_22 (v := nI 6) rfl ?_
      refine g_bipush h dX12_foresee_24 (v := nI 11) rfl ?_
      refine g_cSi3 h rok0 mi_X12_isIn dX12_foresee_26 ml_X12_22 (Nat.le_of_ble_eq_true rfl) (Nat.le_of_ble_eq_true rfl) (sp_X12_isIn ?_)
      rw [show b2i (inB y (nI 6) _) = b2i false from congrArg b2i (inB_f hi2 h2)]
      refine g_if_ne h 38 dX12_foresee_29 rfl (fun c => absurd rfl c) (fun _ => ?_)
      refine g_aload_0 h dX12_foresee_32 ?_
      refine g_iconst h dX12_foresee_33 (v := nI 2) rfl ?_
      refine g_cVi1 h rok0 mi_X12_no dX12_foresee_34 ml_X12_10 rfl rfl rfl (Nat.le_of_ble_eq_true rfl) (Nat.le_of_ble_eq_true rfl) (sp_X12_no ?_)
      refine g_iret h dX12_foresee_37 ?_
      exact hQ2 h1 h2
  · refine g_aload_0 h dX12_foresee_0 ?_
    refine g_iconst h dX12_foresee_1 (v := nI 0) rfl ?_
    refine g_putI h fp_X12_1 dX12_foresee_2 rfl rfl ?_
    refine g_iload_1 h dX12_foresee_5 ?_
    refine g_iconst h dX12_foresee_6 (v := nI 1) rfl ?_
    refine g_bipush h dX12_foresee_7 (v := nI 120) rfl ?_
    refine g_cSi3 h rok0 mi_X12_isIn dX12_foresee_9 ml_X12_22 (Nat.le_of_ble_eq_true rfl) (Nat.le_of_ble_eq_true rfl) (sp_X12_isIn ?_)
    rw [show b2i (inB x (nI 1) _) = b2i false from congrArg b2i (inB_f hi1 h1)]
    refine g_if_ne h 21 dX12_foresee_12 rfl (fun c => absurd rfl c) (fun _ => ?_)
    refine g_aload_0 h dX12_foresee_15 ?_
    refine g_iconst h dX12_foresee_16 (v := nI 1) rfl ?_
    refine g_cVi1 h rok0 mi_X12_no dX12_foresee_17 ml_X12_10 rfl rfl rfl (Nat.le_of_ble_eq_true rfl) (Nat.le_of_ble_eq_true rfl) (sp_X12_no ?_)
    refine g_iret h dX12_foresee_20 ?_
    exact hQ0 h1
set_option maxRecDepth 100000 in
set_option maxHeartbeats 4000000 in
theorem sp_X12_errorAt {d : Nat} {I : MI} {J : MJ} {P : MP} {Q : Int32 → MI → MJ → MP → Prop} (hQ : Q (I 80 3) (up2 I 80 0 (nI 0)) J P) : Sp yX12_errorAt cX12_errorAt 1 (some .int) (d) [.ref 80] I J P (Qi Q) := by
  have e803 : up2 I 80 0 (nI 0) 80 3 = I 80 3 := up2_n (by decide)
  intro Γ h
  show VG Γ 0 0 0 [some (.ref 80)] [] _ _ _ _
  refine g_aload_0 h dX12_errorAt_0 ?_
  refine g_iconst h dX12_errorAt_1 (v := nI 0) rfl ?_
  refine g_putI h fp_X12_1 dX12_errorAt_2 rfl rfl ?_
  refine g_aload_0 h dX12_errorAt_5 ?_
  refine g_getI h fl_X12_81 dX12_errorAt_6 rfl rfl ?_
  refine g_iret h dX12_errorAt_9 ?_
  rw [e803]
  exact hQ
set_option maxRecDepth 100000 in
set_option maxHeartbeats 4000000 in
theorem sp_X12_trim {d L : Nat} {x : Int32} {I : MI} {J : MJ} {P : MP} (hL : I 80 2 = nI L) (hL2 : L ≤ 2000) {Q : Int32 → MI → MJ → MP → Prop} (hQ1 : ∀ n, n ≤ L → x = nI n → Q x (up2 (up2 I 80 0 (nI 0)) 80 2 x) J P) (hQ0 : (¬ ∃ n, n ≤ L ∧ x = nI n) → Q (nI 0) (up2 (up2 I 80 0 (nI 0)) 80 0 (nI 1)) J P) : Sp yX12_trim cX12_trim 2 (some .int) (d + 1) [.ref 80, .int x] I J P (Qi Q) := by
  intro Γ h
  show VG Γ 0 0 0 [some (.ref 80), some (.int x)] [] _ _ _ _
  have e802 : up2 I 80 0 (nI 0) 80 2 = nI L := by rw [up2_n (by decide)]; exact hL
  have hi1 := inB_n (x := x) (m := L) (by omega)
  by_cases h1 : ∃ n, n ≤ L ∧ x = nI n
  · obtain ⟨n, n1, n2⟩ := id h1
    refine g_aload_0 h dX12_trim_0 ?_
    refine g_iconst h dX12_trim_1 (v := nI 0) rfl ?_
    refine g_putI h fp_X12_1 dX12_trim_2 rfl rfl ?_
    refine g_iload_1 h dX12_trim_5 ?_
    refine g_iconst h dX12_trim_6 (v := nI 0) rfl ?_
    refine g_aload_0 h dX12_trim_7 ?_
    refine g_getI h fl_X12_7 dX12_trim_8 rfl rfl ?_
    refine g_cSi3 h rok0 mi_X12_isIn dX12_trim_11 ml_X12_22 (Nat.le_of_ble_eq_true rfl) (Nat.le_of_ble_eq_true rfl) (sp_X12_isIn ?_)
    rw [e802, show inB x (nI 0) (nI L) = true from hi1.mpr h1]
    refine g_if_ne h 23 dX12_trim_14 rfl (fun _ => ?_) (fun c => absurd c (by decide))
    refine g_aload_0 h dX12_trim_23 ?_
    refine g_iload_1 h dX12_trim_24 ?_
    refine g_putI h fp_X12_7 dX12_trim_25 rfl rfl ?_
    refine g_iload_1 h dX12_trim_28 ?_
    refine g_iret h dX12_trim_29 ?_
    exact hQ1 n n1 n2
  · refine g_aload_0 h dX12_trim_0 ?_
    refine g_iconst h dX12_trim_1 (v := nI 0) rfl ?_
    refine g_putI h fp_X12_1 dX12_trim_2 rfl rfl ?_
    refine g_iload_1 h dX12_trim_5 ?_
    refine g_iconst h dX12_trim_6 (v := nI 0) rfl ?_
    refine g_aload_0 h dX12_trim_7 ?_
    refine g_getI h fl_X12_7 dX12_trim_8 rfl rfl ?_
    refine g_cSi3 h rok0 mi_X12_isIn dX12_trim_11 ml_X12_22 (Nat.le_of_ble_eq_true rfl) (Nat.le_of_ble_eq_true rfl) (sp_X12_isIn ?_)
    rw [e802, show inB x (nI 0) (nI L) = false from inB_f hi1 h1]
    refine g_if_ne h 23 dX12_trim_14 rfl (fun c => absurd rfl c) (fun _ => ?_)
    refine g_aload_0 h dX12_trim_17 ?_
    refine g_iconst h dX12_trim_18 (v := nI 1) rfl ?_
    refine g_cVi1 h rok0 mi_X12_no dX12_trim_19 ml_X12_10 rfl rfl rfl (Nat.le_of_ble_eq_true rfl) (Nat.le_of_ble_eq_true rfl) (sp_X12_no ?_)
    refine g_iret h dX12_trim_22 ?_
    exact hQ0 h1
