/-! The reference: digits, by hand, ways, how deep all below is -/
theorem bv91 {I : MI} {k : Nat} {v : Int32} : bv (up2 I 91 k v) = bv I := by
  funext a
  exact up2_o (by omega)
theorem dep_m1 {u : Nat → Int32} {N f : Nat} : dep u N f (-1) = 0 := by
  cases f with
  | zero => rfl
  | succ f => rw [dep, has_m1, if_neg (by decide)]
theorem dep_f {u : Nat → Int32} {N : Nat} (hN : N ≤ 16) : ∀ (f g : Nat) (c : Int32), chn u N f c → f ≤ g → dep u N g c = dep u N f c := by
  intro f
  induction f with
  | zero =>
    intro g c h _
    obtain rfl : c = -1 := h
    rw [dep_m1]
    rfl
  | succ f ih =>
    intro g c h hg
    obtain ⟨g, rfl⟩ : ∃ g', g = g' + 1 := ⟨g - 1, by omega⟩
    rw [dep, dep]
    rcases h with rfl | ⟨j, j1, rfl, j3⟩
    · rw [has_m1, if_neg (by decide), if_neg (by decide)]
    · rw [if_pos (has_j j1 (by decide) hN), if_pos (has_j j1 (by decide) hN), ix_n (by omega), ih g _ j3 (by omega)]
theorem chn_s {u : Nat → Int32} {N : Nat} : ∀ (f : Nat) (c : Int32), chn u N f c → chn u N (f + 1) c := by
  intro f
  induction f with
  | zero => exact fun c h => Or.inl h
  | succ f ih =>
    intro c h
    rcases h with h | ⟨j, j1, j2, j3⟩
    · exact Or.inl h
    · exact Or.inr ⟨j, j1, j2, ih _ j3⟩
theorem dep_0 {u : Nat → Int32} {N f : Nat} (hN : N ≤ 16) {c : Int32} (h : chn u N (f + 1) c) (h0 : dep u N (f + 1) c = 0) : c = -1 := by
  rcases h with h | ⟨j, j1, rfl, j3⟩
  · exact h
  · rw [dep, if_pos (has_j j1 (by decide) hN)] at h0
    omega
def mxF (g : Nat → Nat) : Nat → Nat → Nat → Nat
  | 0, _, a => a
  | n + 1, i, a => mxF g n (i + 1) (max a (g i))
def rch (u : Nat → Int32) (N : Nat) : Nat → Nat → Nat
  | 0, _ => 0
  | f + 1, c => mxF (fun j => if u j = nI c then rch u N f j else 0) N 0 0 + 1
theorem mxF_le {g : Nat → Nat} {B : Nat} : ∀ (n i a : Nat), a ≤ B → (∀ j, i ≤ j → j < i + n → g j ≤ B) → mxF g n i a ≤ B := by
  intro n
  induction n with
  | zero => exact fun i a h _ => h
  | succ n ih =>
    intro i a h hg
    rw [mxF]
    exact ih _ _ (Nat.max_le.mpr ⟨h, hg i (Nat.le_refl _) (by omega)⟩) (fun j a b => hg j (by omega) (by omega))
theorem rch_le {u : Nat → Int32} {N : Nat} : ∀ (f c : Nat), rch u N f c ≤ f := by
  intro f
  induction f with
  | zero => exact fun c => Nat.le_refl _
  | succ f ih =>
    intro c
    rw [rch]
    have := mxF_le (g := fun j => if u j = nI c then rch u N f j else 0) (B := f) N 0 0 (Nat.zero_le _) (fun j _ _ => by
      show (if u j = nI c then rch u N f j else 0) ≤ f
      split
      · exact ih j
      · exact Nat.zero_le _)
    omega
set_option maxRecDepth 100000 in
set_option maxHeartbeats 4000000 in
theorem lp_X12_digit {Γ : Cx} {d p : Nat} {I : MI} {J : MJ} {P : MP} (hp : p < 4) {x : Int32} {Q : Int32 → MI → MJ → MP → Prop} (h : Vc RX12 cX12_digit 5 (some .int) (d) Γ) : ∀ (f k : Nat) (l : Int32), k + f = p → Q (dgt f l) I J P → VG Γ 0 0 40 [some (.ref 80), some (.int x), some (.int (nI p)), some (.int l), some (.int (nI k))] [] I J P (Fnl Γ (Qi Q)) := by
  intro f
  induction f with
  | zero =>
    intro k l hk hQ
    refine g_iload_4 h dX12_digit_40 ?_
    refine g_iload_2 h dX12_digit_42 ?_
    refine g_icmp_ge h 57 dX12_digit_43 rfl (fun _ => ?_) (fun c => absurd (nI_le (by omega) (by omega)) c)
    refine g_iload_3 h dX12_digit_57 ?_
    refine g_bipush h dX12_digit_58 (v := nI 10) rfl ?_
    refine g_irem h dX12_digit_60 (by decide) ?_
    refine g_iret h dX12_digit_61 ?_
    exact hQ
  | succ f ih =>
    intro k l hk hQ
    refine g_iload_4 h dX12_digit_40 ?_
    refine g_iload_2 h dX12_digit_42 ?_
    refine g_icmp_ge h 57 dX12_digit_43 rfl (fun c => absurd (leN c (by omega) (by omega)) (by omega)) (fun _ => ?_)
    refine g_iload_3 h dX12_digit_46 ?_
    refine g_bipush h dX12_digit_47 (v := nI 10) rfl ?_
    refine g_idiv h dX12_digit_49 (by decide) ?_
    refine g_istore_3 h dX12_digit_50 (by decide) rfl ?_
    refine g_iinc_4 h dX12_digit_51 (inc1 _) (by decide) rfl ?_
    refine g_goto h 40 dX12_digit_54 rfl ?_
    exact ih (k + 1) _ (by omega) hQ
set_option maxRecDepth 100000 in
set_option maxHeartbeats 4000000 in
theorem sp_X12_digit {d : Nat} {x y : Int32} {I : MI} {J : MJ} {P : MP} (hB : P 80 8 = some 93) (hK : bkOK (bv I)) {Q : Int32 → MI → MJ → MP → Prop} (hQ1 : ∀ a p, a < nN (bv I) → p < 4 → x = nI a → y = nI p → Q (dgt p (I 91 (3 + a))) (up2 I 80 0 (nI 0)) J P) (hQ0 : (¬ ((∃ a, a < nN (bv I) ∧ x = nI a) ∧ ∃ w, w < 4 ∧ y = nI w)) → Q (nI 0) (up2 (up2 I 80 0 (nI 0)) 80 0 (nI 1)) J P) : Sp yX12_digit cX12_digit 5 (some .int) (d + 2) [.ref 80, .int x, .int y] I J P (Qi Q) := by
  intro Γ h
  show VG Γ 0 0 0 [some (.ref 80), some (.int x), some (.int y), none, none] [] _ _ _ _
  have hB1 : P 80 8 = some 93 := hB
  have hK1 : bkOK (bv (up2 I 80 0 (nI 0))) := by rw [bv80]; exact hK
  have e91 : up2 I 80 0 (nI 0) 91 = I 91 := up2_o (by decide)
  have e93 : up2 I 80 0 (nI 0) 93 = I 93 := up2_o (by decide)
  have e80 : up2 I 80 0 (nI 0) 80 2 = I 80 2 := up2_n (by decide)
  have hcn : I 93 1 = nI (nN (bv I)) ∧ nN (bv I) ≤ 16 := bk_N hK
  have hi1 := inB_c (x := x) (N := nN (bv I)) (by omega)
  have hi2 := inB_n (x := y) (m := 3) (by decide)
  have no : (¬ ((∃ a, a < nN (bv I) ∧ x = nI a) ∧ ∃ w, w < 4 ∧ y = nI w)) → VG Γ 0 0 22 [some (.ref 80), some (.int x), some (.int y), none, none] [] (up2 I 80 0 (nI 0)) J P (Fnl Γ (Qi Q)) := by
    intro hc
    refine g_aload_0 h dX12_digit_22 ?_
    refine g_iconst h dX12_digit_23 (v := nI 1) rfl ?_
    refine g_cVi1 h rok0 mi_X12_no dX12_digit_24 ml_X12_10 rfl rfl rfl (Nat.le_of_ble_eq_true rfl) (Nat.le_of_ble_eq_true rfl) (sp_X12_no ?_)
    refine g_iret h dX12_digit_27 ?_
    exact hQ0 hc
  by_cases h1 : ∃ a, a < nN (bv I) ∧ x = nI a
  · by_cases h2 : ∃ w, w < 4 ∧ y = nI w
    · have e2 : inB y (nI 0) (nI 3) = true := hi2.mpr (h2.imp fun w q => ⟨by omega, q.2⟩)
      obtain ⟨p, p1, p2⟩ := id h2
      obtain ⟨a, a1, a2⟩ := id h1
      refine g_aload_0 h dX12_digit_0 ?_
      refine g_iconst h dX12_digit_1 (v := nI 0) rfl ?_
      refine g_putI h fp_X12_1 dX12_digit_2 rfl rfl ?_
      refine g_aload_0 h dX12_digit_5 ?_
      refine g_iload_1 h dX12_digit_6 ?_
      refine g_cVi1 h rok0 mi_X12_isCord dX12_digit_7 ml_X12_372 rfl rfl rfl (Nat.le_of_ble_eq_true rfl) (Nat.le_of_ble_eq_true rfl) (sp_X12_isCord hB1 ?_)
      rw [show up2 I 80 0 (nI 0) 93 1 = nI (nN (bv I)) by rw [e93]; exact hcn.1, show inB x (nI 0) (nI (nN (bv I)) - nI 1) = true from hi1.mpr h1]
      refine g_if_eq h 22 dX12_digit_10 rfl (fun c => absurd c (by decide)) (fun _ => ?_)
      refine g_iload_2 h dX12_digit_13 ?_
      refine g_iconst h dX12_digit_14 (v := nI 0) rfl ?_
      refine g_iconst h dX12_digit_15 (v := nI 3) rfl ?_
      refine g_cSi3 h rok0 mi_X12_isIn dX12_digit_16 ml_X12_22 (Nat.le_of_ble_eq_true rfl) (Nat.le_of_ble_eq_true rfl) (sp_X12_isIn ?_)
      rw [show b2i (inB y (nI 0) _) = b2i true from congrArg b2i e2]
      refine g_if_ne h 28 dX12_digit_19 rfl (fun _ => ?_) (fun c => absurd c (by decide))
      refine g_aload_0 h dX12_digit_28 ?_
      refine g_getC h fl_X12_109 dX12_digit_29 rfl rfl ?_
      refine g_iconst h dX12_digit_32 (v := nI 3) rfl ?_
      refine g_iload_1 h dX12_digit_33 ?_
      refine g_iadd h dX12_digit_34 ?_
      refine g_iald h (3 + a) dX12_digit_35 rfl (by rw [a2]; exact nI_add 3 a) (by omega) ?_
      refine g_istore_3 h dX12_digit_36 (by decide) rfl ?_
      refine g_iconst h dX12_digit_37 (v := nI 0) rfl ?_
      refine g_istore_4 h dX12_digit_38 (by decide) rfl ?_
      rw [e91]
      subst p2
      exact lp_X12_digit (d := d + 2) p1 h p 0 _ (by omega) (hQ1 a p a1 p1 a2 rfl)
    · have e2 : inB y (nI 0) (nI 3) = false := inB_f hi2 (fun ⟨w, a, b⟩ => h2 ⟨w, by omega, b⟩)
      refine g_aload_0 h dX12_digit_0 ?_
      refine g_iconst h dX12_digit_1 (v := nI 0) rfl ?_
      refine g_putI h fp_X12_1 dX12_digit_2 rfl rfl ?_
      refine g_aload_0 h dX12_digit_5 ?_
      refine g_iload_1 h dX12_digit_6 ?_
      refine g_cVi1 h rok0 mi_X12_isCord dX12_digit_7 ml_X12_372 rfl rfl rfl (Nat.le_of_ble_eq_true rfl) (Nat.le_of_ble_eq_true rfl) (sp_X12_isCord hB1 ?_)
      rw [show up2 I 80 0 (nI 0) 93 1 = nI (nN (bv I)) by rw [e93]; exact hcn.1, show inB x (nI 0) (nI (nN (bv I)) - nI 1) = true from hi1.mpr h1]
      refine g_if_eq h 22 dX12_digit_10 rfl (fun c => absurd c (by decide)) (fun _ => ?_)
      refine g_iload_2 h dX12_digit_13 ?_
      refine g_iconst h dX12_digit_14 (v := nI 0) rfl ?_
      refine g_iconst h dX12_digit_15 (v := nI 3) rfl ?_
      refine g_cSi3 h rok0 mi_X12_isIn dX12_digit_16 ml_X12_22 (Nat.le_of_ble_eq_true rfl) (Nat.le_of_ble_eq_true rfl) (sp_X12_isIn ?_)
      rw [show b2i (inB y (nI 0) _) = b2i false from congrArg b2i e2]
      refine g_if_ne h 28 dX12_digit_19 rfl (fun c => absurd rfl c) (fun _ => ?_)
      exact no (fun q => h2 q.2)
  · refine g_aload_0 h dX12_digit_0 ?_
    refine g_iconst h dX12_digit_1 (v := nI 0) rfl ?_
    refine g_putI h fp_X12_1 dX12_digit_2 rfl rfl ?_
    refine g_aload_0 h dX12_digit_5 ?_
    refine g_iload_1 h dX12_digit_6 ?_
    refine g_cVi1 h rok0 mi_X12_isCord dX12_digit_7 ml_X12_372 rfl rfl rfl (Nat.le_of_ble_eq_true rfl) (Nat.le_of_ble_eq_true rfl) (sp_X12_isCord hB1 ?_)
    rw [show up2 I 80 0 (nI 0) 93 1 = nI (nN (bv I)) by rw [e93]; exact hcn.1, show inB x (nI 0) (nI (nN (bv I)) - nI 1) = false from inB_f hi1 h1]
    refine g_if_eq h 22 dX12_digit_10 rfl (fun _ => ?_) (fun c => absurd rfl c)
    exact no (fun q => h1 q.1)
set_option maxRecDepth 100000 in
set_option maxHeartbeats 4000000 in
theorem sp_X12_set {d : Nat} {x y : Int32} {I : MI} {J : MJ} {P : MP} (hB : P 80 8 = some 93) (hK : bkOK (bv I)) {Q : Int32 → MI → MJ → MP → Prop} (hQ1 : ∀ a w, a < nN (bv I) → w ≤ 9999 → x = nI a → y = nI w → Q (I 91 (3 + a)) (up2 (up2 I 80 0 (nI 0)) 91 (3 + a) y) J P) (hQ0 : (¬ ∃ a, a < nN (bv I) ∧ x = nI a) → Q (nI 0) (up2 (up2 I 80 0 (nI 0)) 80 0 (nI 1)) J P) (hQ2 : (∃ a, a < nN (bv I) ∧ x = nI a) → (¬ ∃ w, w ≤ 9999 ∧ y = nI w) → Q (nI 0) (up2 (up2 I 80 0 (nI 0)) 80 0 (nI 2)) J P) : Sp yX12_set cX12_set 3 (some .int) (d + 2) [.ref 80, .int x, .int y] I J P (Qi Q) := by
  intro Γ h
  show VG Γ 0 0 0 [some (.ref 80), some (.int x), some (.int y)] [] _ _ _ _
  have hB1 : P 80 8 = some 93 := hB
  have hK1 : bkOK (bv (up2 I 80 0 (nI 0))) := by rw [bv80]; exact hK
  have e91 : up2 I 80 0 (nI 0) 91 = I 91 := up2_o (by decide)
  have e93 : up2 I 80 0 (nI 0) 93 = I 93 := up2_o (by decide)
  have e80 : up2 I 80 0 (nI 0) 80 2 = I 80 2 := up2_n (by decide)
  have hcn : I 93 1 = nI (nN (bv I)) ∧ nN (bv I) ≤ 16 := bk_N hK
  have hi1 := inB_c (x := x) (N := nN (bv I)) (by omega)
  have hi2 := inB_n (x := y) (m := 9999) (by decide)
  by_cases h1 : ∃ a, a < nN (bv I) ∧ x = nI a
  · by_cases h2 : ∃ w, w ≤ 9999 ∧ y = nI w
    · have e2 : inB y (nI 0) (nI 9999) = true := hi2.mpr h2
      obtain ⟨w, w1, w2⟩ := id h2
      obtain ⟨a, a1, a2⟩ := id h1
      refine g_aload_0 h dX12_set_0 ?_
      refine g_iconst h dX12_set_1 (v := nI 0) rfl ?_
      refine g_putI h fp_X12_1 dX12_set_2 rfl rfl ?_
      refine g_aload_0 h dX12_set_5 ?_
      refine g_iload_1 h dX12_set_6 ?_
      refine g_cVi1 h rok0 mi_X12_isCord dX12_set_7 ml_X12_372 rfl rfl rfl (Nat.le_of_ble_eq_true rfl) (Nat.le_of_ble_eq_true rfl) (sp_X12_isCord hB1 ?_)
      rw [show up2 I 80 0 (nI 0) 93 1 = nI (nN (bv I)) by rw [e93]; exact hcn.1, show inB x (nI 0) (nI (nN (bv I)) - nI 1) = true from hi1.mpr h1]
      refine g_if_ne h 19 dX12_set_10 rfl (fun _ => ?_) (fun c => absurd c (by decide))
      refine g_iload_2 h dX12_set_19 ?_
      refine g_iconst h dX12_set_20 (v := nI 0) rfl ?_
      refine g_sipush h dX12_set_21 (v := nI 9999) rfl ?_
      refine g_cSi3 h rok0 mi_X12_isIn dX12_set_24 ml_X12_22 (Nat.le_of_ble_eq_true rfl) (Nat.le_of_ble_eq_true rfl) (sp_X12_isIn ?_)
      rw [show b2i (inB y (nI 0) _) = b2i true from congrArg b2i e2]
      refine g_if_eq h 41 dX12_set_27 rfl (fun c => absurd c (by decide)) (fun _ => ?_)
      refine g_aload_0 h dX12_set_30 ?_
      refine g_iconst h dX12_set_31 (v := nI 3) rfl ?_
      refine g_iload_1 h dX12_set_32 ?_
      refine g_iadd h dX12_set_33 ?_
      refine g_iload_2 h dX12_set_34 ?_
      rw [show nI 3 + x = nI (3 + a) by rw [a2]; exact nI_add 3 a]
      refine g_cVi2 h rok0 mi_X12_put dX12_set_35 ml_X12_399 rfl rfl rfl (Nat.le_of_ble_eq_true rfl) (Nat.le_of_ble_eq_true rfl) (sp_X12_put (k := 3 + a) (by omega) ?_)
      refine g_goto h 46 dX12_set_38 rfl ?_
      refine g_iret h dX12_set_46 ?_
      rw [e91]
      exact hQ1 a w a1 w1 a2 w2
    · have e2 : inB y (nI 0) (nI 9999) = false := inB_f hi2 h2
      refine g_aload_0 h dX12_set_0 ?_
      refine g_iconst h dX12_set_1 (v := nI 0) rfl ?_
      refine g_putI h fp_X12_1 dX12_set_2 rfl rfl ?_
      refine g_aload_0 h dX12_set_5 ?_
      refine g_iload_1 h dX12_set_6 ?_
      refine g_cVi1 h rok0 mi_X12_isCord dX12_set_7 ml_X12_372 rfl rfl rfl (Nat.le_of_ble_eq_true rfl) (Nat.le_of_ble_eq_true rfl) (sp_X12_isCord hB1 ?_)
      rw [show up2 I 80 0 (nI 0) 93 1 = nI (nN (bv I)) by rw [e93]; exact hcn.1, show inB x (nI 0) (nI (nN (bv I)) - nI 1) = true from hi1.mpr h1]
      refine g_if_ne h 19 dX12_set_10 rfl (fun _ => ?_) (fun c => absurd c (by decide))
      refine g_iload_2 h dX12_set_19 ?_
      refine g_iconst h dX12_set_20 (v := nI 0) rfl ?_
      refine g_sipush h dX12_set_21 (v := nI 9999) rfl ?_
      refine g_cSi3 h rok0 mi_X12_isIn dX12_set_24 ml_X12_22 (Nat.le_of_ble_eq_true rfl) (Nat.le_of_ble_eq_true rfl) (sp_X12_isIn ?_)
      rw [show b2i (inB y (nI 0) _) = b2i false from congrArg b2i e2]
      refine g_if_eq h 41 dX12_set_27 rfl (fun _ => ?_) (fun c => absurd rfl c)
      refine g_aload_0 h dX12_set_41 ?_
      refine g_iconst h dX12_set_42 (v := nI 2) rfl ?_
      refine g_cVi1 h rok0 mi_X12_no dX12_set_43 ml_X12_10 rfl rfl rfl (Nat.le_of_ble_eq_true rfl) (Nat.le_of_ble_eq_true rfl) (sp_X12_no ?_)
      refine g_iret h dX12_set_46 ?_
      exact hQ2 h1 h2
  · refine g_aload_0 h dX12_set_0 ?_
    refine g_iconst h dX12_set_1 (v := nI 0) rfl ?_
    refine g_putI h fp_X12_1 dX12_set_2 rfl rfl ?_
    refine g_aload_0 h dX12_set_5 ?_
    refine g_iload_1 h dX12_set_6 ?_
    refine g_cVi1 h rok0 mi_X12_isCord dX12_set_7 ml_X12_372 rfl rfl rfl (Nat.le_of_ble_eq_true rfl) (Nat.le_of_ble_eq_true rfl) (sp_X12_isCord hB1 ?_)
    rw [show up2 I 80 0 (nI 0) 93 1 = nI (nN (bv I)) by rw [e93]; exact hcn.1, show inB x (nI 0) (nI (nN (bv I)) - nI 1) = false from inB_f hi1 h1]
    refine g_if_ne h 19 dX12_set_10 rfl (fun c => absurd rfl c) (fun _ => ?_)
    refine g_aload_0 h dX12_set_13 ?_
    refine g_iconst h dX12_set_14 (v := nI 1) rfl ?_
    refine g_cVi1 h rok0 mi_X12_no dX12_set_15 ml_X12_10 rfl rfl rfl (Nat.le_of_ble_eq_true rfl) (Nat.le_of_ble_eq_true rfl) (sp_X12_no ?_)
    refine g_iret h dX12_set_18 ?_
    exact hQ0 h1
set_option maxRecDepth 100000 in
set_option maxHeartbeats 4000000 in
theorem sp_X12_rest {d : Nat} {x : Int32} {I : MI} {J : MJ} {P : MP} (hB : P 80 8 = some 93) (hK : bkOK (bv I)) {Q : Int32 → MI → MJ → MP → Prop} (hQ1 : ∀ a, a < nK (bv I) → x = nI a → Q (I 91 (25 + a)) (up2 (up2 I 80 0 (nI 0)) 91 (25 + a) (nI 0)) J P) (hQ0 : (¬ ∃ a, a < nK (bv I) ∧ x = nI a) → Q (nI 0) (up2 (up2 I 80 0 (nI 0)) 80 0 (nI 1)) J P) : Sp yX12_rest cX12_rest 2 (some .int) (d + 2) [.ref 80, .int x] I J P (Qi Q) := by
  intro Γ h
  show VG Γ 0 0 0 [some (.ref 80), some (.int x)] [] _ _ _ _
  have hB1 : P 80 8 = some 93 := hB
  have hK1 : bkOK (bv (up2 I 80 0 (nI 0))) := by rw [bv80]; exact hK
  have e91 : up2 I 80 0 (nI 0) 91 = I 91 := up2_o (by decide)
  have e93 : up2 I 80 0 (nI 0) 93 = I 93 := up2_o (by decide)
  have e80 : up2 I 80 0 (nI 0) 80 2 = I 80 2 := up2_n (by decide)
  have hcn : I 93 3 = nI (nK (bv I)) ∧ nK (bv I) ≤ 5 := bk_K hK
  have hi1 := inB_c (x := x) (N := nK (bv I)) (by omega)
  by_cases h1 : ∃ a, a < nK (bv I) ∧ x = nI a
  · obtain ⟨a, a1, a2⟩ := id h1
    refine g_aload_0 h dX12_rest_0 ?_
    refine g_iconst h dX12_rest_1 (v := nI 0) rfl ?_
    refine g_putI h fp_X12_1 dX12_rest_2 rfl rfl ?_
    refine g_aload_0 h dX12_rest_5 ?_
    refine g_iload_1 h dX12_rest_6 ?_
    refine g_cVi1 h rok0 mi_X12_isKeeper dX12_rest_7 ml_X12_384 rfl rfl rfl (Nat.le_of_ble_eq_true rfl) (Nat.le_of_ble_eq_true rfl) (sp_X12_isKeeper hB1 ?_)
    rw [show up2 I 80 0 (nI 0) 93 3 = nI (nK (bv I)) by rw [e93]; exact hcn.1, show inB x (nI 0) (nI (nK (bv I)) - nI 1) = true from hi1.mpr h1]
    refine g_if_eq h 25 dX12_rest_10 rfl (fun c => absurd c (by decide)) (fun _ => ?_)
    refine g_aload_0 h dX12_rest_13 ?_
    refine g_bipush h dX12_rest_14 (v := nI 25) rfl ?_
    refine g_iload_1 h dX12_rest_16 ?_
    refine g_iadd h dX12_rest_17 ?_
    rw [show nI 25 + x = nI (25 + a) by rw [a2]; exact nI_add 25 a]
    refine g_iconst h dX12_rest_18 (v := nI 0) rfl ?_
    refine g_cVi2 h rok0 mi_X12_put dX12_rest_19 ml_X12_399 rfl rfl rfl (Nat.le_of_ble_eq_true rfl) (Nat.le_of_ble_eq_true rfl) (sp_X12_put (k := 25 + a) (by omega) ?_)
    refine g_goto h 30 dX12_rest_22 rfl ?_
    refine g_iret h dX12_rest_30 ?_
    rw [e91]
    exact hQ1 a a1 a2
  · refine g_aload_0 h dX12_rest_0 ?_
    refine g_iconst h dX12_rest_1 (v := nI 0) rfl ?_
    refine g_putI h fp_X12_1 dX12_rest_2 rfl rfl ?_
    refine g_aload_0 h dX12_rest_5 ?_
    refine g_iload_1 h dX12_rest_6 ?_
    refine g_cVi1 h rok0 mi_X12_isKeeper dX12_rest_7 ml_X12_384 rfl rfl rfl (Nat.le_of_ble_eq_true rfl) (Nat.le_of_ble_eq_true rfl) (sp_X12_isKeeper hB1 ?_)
    rw [show up2 I 80 0 (nI 0) 93 3 = nI (nK (bv I)) by rw [e93]; exact hcn.1, show inB x (nI 0) (nI (nK (bv I)) - nI 1) = false from inB_f hi1 h1]
    refine g_if_eq h 25 dX12_rest_10 rfl (fun _ => ?_) (fun c => absurd rfl c)
    refine g_aload_0 h dX12_rest_25 ?_
    refine g_iconst h dX12_rest_26 (v := nI 1) rfl ?_
    refine g_cVi1 h rok0 mi_X12_no dX12_rest_27 ml_X12_10 rfl rfl rfl (Nat.le_of_ble_eq_true rfl) (Nat.le_of_ble_eq_true rfl) (sp_X12_no ?_)
    refine g_iret h dX12_rest_30 ?_
    exact hQ0 h1
set_option maxRecDepth 100000 in
set_option maxHeartbeats 4000000 in
theorem sp_X12_dye {d : Nat} {x y : Int32} {I : MI} {J : MJ} {P : MP} (hB : P 80 8 = some 93) (hK : bkOK (bv I)) {Q : Int32 → MI → MJ → MP → Prop} (hQ1 : ∀ a w, a < nN (bv I) → w < nC (bv I) → x = nI a → y = nI w → Q (I 95 a) (up2 (up2 I 80 0 (nI 0)) 95 a y) J P) (hQ0 : (¬ ((∃ a, a < nN (bv I) ∧ x = nI a) ∧ ∃ w, w < nC (bv I) ∧ y = nI w)) → Q (nI 0) (up2 (up2 I 80 0 (nI 0)) 80 0 (nI 1)) J P) : Sp yX12_dye cX12_dye 4 (some .int) (d + 2) [.ref 80, .int x, .int y] I J P (Qi Q) := by
  intro Γ h
  show VG Γ 0 0 0 [some (.ref 80), some (.int x), some (.int y), none] [] _ _ _ _
  have hB1 : P 80 8 = some 93 := hB
  have hK1 : bkOK (bv (up2 I 80 0 (nI 0))) := by rw [bv80]; exact hK
  have e91 : up2 I 80 0 (nI 0) 91 = I 91 := up2_o (by decide)
  have e93 : up2 I 80 0 (nI 0) 93 = I 93 := up2_o (by decide)
  have e80 : up2 I 80 0 (nI 0) 80 2 = I 80 2 := up2_n (by decide)
  have hcn : I 93 1 = nI (nN (bv I)) ∧ nN (bv I) ≤ 16 := bk_N hK
  have hi1 := inB_c (x := x) (N := nN (bv I)) (by omega)
  have hcc : I 93 0 = nI (nC (bv I)) ∧ nC (bv I) ≤ 6 := bk_C hK
  have hi2 := inB_c (x := y) (N := nC (bv I)) (by omega)
  have e95 : up2 I 80 0 (nI 0) 95 = I 95 := up2_o (by decide)
  have no : (¬ ((∃ a, a < nN (bv I) ∧ x = nI a) ∧ ∃ w, w < nC (bv I) ∧ y = nI w)) → VG Γ 0 0 21 [some (.ref 80), some (.int x), some (.int y), none] [] (up2 I 80 0 (nI 0)) J P (Fnl Γ (Qi Q)) := by
    intro hc
    refine g_aload_0 h dX12_dye_21 ?_
    refine g_iconst h dX12_dye_22 (v := nI 1) rfl ?_
    refine g_cVi1 h rok0 mi_X12_no dX12_dye_23 ml_X12_10 rfl rfl rfl (Nat.le_of_ble_eq_true rfl) (Nat.le_of_ble_eq_true rfl) (sp_X12_no ?_)
    refine g_iret h dX12_dye_26 ?_
    exact hQ0 hc
  by_cases h1 : ∃ a, a < nN (bv I) ∧ x = nI a
  · by_cases h2 : ∃ w, w < nC (bv I) ∧ y = nI w
    · obtain ⟨w, w1, w2⟩ := id h2
      obtain ⟨a, a1, a2⟩ := id h1
      refine g_aload_0 h dX12_dye_0 ?_
      refine g_iconst h dX12_dye_1 (v := nI 0) rfl ?_
      refine g_putI h fp_X12_1 dX12_dye_2 rfl rfl ?_
      refine g_aload_0 h dX12_dye_5 ?_
      refine g_iload_1 h dX12_dye_6 ?_
      refine g_cVi1 h rok0 mi_X12_isCord dX12_dye_7 ml_X12_372 rfl rfl rfl (Nat.le_of_ble_eq_true rfl) (Nat.le_of_ble_eq_true rfl) (sp_X12_isCord hB1 ?_)
      rw [show up2 I 80 0 (nI 0) 93 1 = nI (nN (bv I)) by rw [e93]; exact hcn.1, show inB x (nI 0) (nI (nN (bv I)) - nI 1) = true from hi1.mpr h1]
      refine g_if_eq h 21 dX12_dye_10 rfl (fun c => absurd c (by decide)) (fun _ => ?_)
      refine g_aload_0 h dX12_dye_13 ?_
      refine g_iload_2 h dX12_dye_14 ?_
      refine g_cVi1 h rok0 mi_X12_isColour dX12_dye_15 ml_X12_360 rfl rfl rfl (Nat.le_of_ble_eq_true rfl) (Nat.le_of_ble_eq_true rfl) (sp_X12_isColour hB1 ?_)
      rw [show up2 I 80 0 (nI 0) 93 0 = nI (nC (bv I)) by rw [e93]; exact hcc.1, show inB y (nI 0) (nI (nC (bv I)) - nI 1) = true from hi2.mpr h2]
      refine g_if_ne h 27 dX12_dye_18 rfl (fun _ => ?_) (fun c => absurd c (by decide))
      refine g_aload_0 h dX12_dye_27 ?_
      refine g_getP h fl_X12_87 dX12_dye_28 rfl rfl (by assumption) ?_
      refine g_getC h fl_X12_245 dX12_dye_31 rfl rfl ?_
      refine g_iload_1 h dX12_dye_34 ?_
      refine g_iald h a dX12_dye_35 rfl a2 (by omega) ?_
      refine g_istore_3 h dX12_dye_36 (by decide) rfl ?_
      refine g_aload_0 h dX12_dye_37 ?_
      refine g_getP h fl_X12_87 dX12_dye_38 rfl rfl (by assumption) ?_
      refine g_getC h fl_X12_245 dX12_dye_41 rfl rfl ?_
      refine g_iload_1 h dX12_dye_44 ?_
      refine g_iload_2 h dX12_dye_45 ?_
      refine g_iast h a dX12_dye_46 rfl a2 (by omega) ?_
      refine g_iload_3 h dX12_dye_47 ?_
      refine g_iret h dX12_dye_48 ?_
      rw [e95]
      exact hQ1 a w a1 w1 a2 w2
    · refine g_aload_0 h dX12_dye_0 ?_
      refine g_iconst h dX12_dye_1 (v := nI 0) rfl ?_
      refine g_putI h fp_X12_1 dX12_dye_2 rfl rfl ?_
      refine g_aload_0 h dX12_dye_5 ?_
      refine g_iload_1 h dX12_dye_6 ?_
      refine g_cVi1 h rok0 mi_X12_isCord dX12_dye_7 ml_X12_372 rfl rfl rfl (Nat.le_of_ble_eq_true rfl) (Nat.le_of_ble_eq_true rfl) (sp_X12_isCord hB1 ?_)
      rw [show up2 I 80 0 (nI 0) 93 1 = nI (nN (bv I)) by rw [e93]; exact hcn.1, show inB x (nI 0) (nI (nN (bv I)) - nI 1) = true from hi1.mpr h1]
      refine g_if_eq h 21 dX12_dye_10 rfl (fun c => absurd c (by decide)) (fun _ => ?_)
      refine g_aload_0 h dX12_dye_13 ?_
      refine g_iload_2 h dX12_dye_14 ?_
      refine g_cVi1 h rok0 mi_X12_isColour dX12_dye_15 ml_X12_360 rfl rfl rfl (Nat.le_of_ble_eq_true rfl) (Nat.le_of_ble_eq_true rfl) (sp_X12_isColour hB1 ?_)
      rw [show up2 I 80 0 (nI 0) 93 0 = nI (nC (bv I)) by rw [e93]; exact hcc.1, show inB y (nI 0) (nI (nC (bv I)) - nI 1) = false from inB_f hi2 h2]
      refine g_if_ne h 27 dX12_dye_18 rfl (fun c => absurd rfl c) (fun _ => ?_)
      exact no (fun q => h2 q.2)
  · refine g_aload_0 h dX12_dye_0 ?_
    refine g_iconst h dX12_dye_1 (v := nI 0) rfl ?_
    refine g_putI h fp_X12_1 dX12_dye_2 rfl rfl ?_
    refine g_aload_0 h dX12_dye_5 ?_
    refine g_iload_1 h dX12_dye_6 ?_
    refine g_cVi1 h rok0 mi_X12_isCord dX12_dye_7 ml_X12_372 rfl rfl rfl (Nat.le_of_ble_eq_true rfl) (Nat.le_of_ble_eq_true rfl) (sp_X12_isCord hB1 ?_)
    rw [show up2 I 80 0 (nI 0) 93 1 = nI (nN (bv I)) by rw [e93]; exact hcn.1, show inB x (nI 0) (nI (nN (bv I)) - nI 1) = false from inB_f hi1 h1]
    refine g_if_eq h 21 dX12_dye_10 rfl (fun _ => ?_) (fun c => absurd rfl c)
    exact no (fun q => h1 q.1)
set_option maxRecDepth 100000 in
set_option maxHeartbeats 4000000 in
theorem lp_X12_apart {Γ : Cx} {d N : Nat} {I : MI} {J : MJ} {P : MP} (hB : P 80 8 = some 93) (hN : N ≤ 16) (hch : ∀ k, k < N → chn (I 96) N 4 (nI k)) {x y : Int32} {Q : Int32 → MI → MJ → MP → Prop} (h : Vc RX12 cX12_apart 7 (some .int) (d + 1) Γ) : ∀ (f s : Nat) (c e : Int32) (x6 : Option Value), chn (I 96) N 4 c → chn (I 96) N 4 e → dep (I 96) N 4 c + dep (I 96) N 4 e ≤ f → Q (nI (s + stpF (I 96) N f c e)) I J P → VG Γ 0 0 35 [some (.ref 80), some (.int x), some (.int y), some (.int c), some (.int e), some (.int (nI s)), x6] [] I J P (Fnl Γ (Qi Q)) := by
  have up : ∀ c, chn (I 96) N 4 c → ¬ c = -1 → ∃ j, j < N ∧ c = nI j ∧ chn (I 96) N 4 (I 96 j) ∧ dep (I 96) N 4 c = dep (I 96) N 4 (I 96 j) + 1 ∧ abv (I 96) N c = I 96 j := by
    intro c hc hne
    rcases hc with q | ⟨j, j1, rfl, j3⟩
    · exact absurd q hne
    · refine ⟨j, j1, rfl, chn_s _ _ j3, ?_, ?_⟩
      · rw [dep_f hN 3 4 _ j3 (by decide), dep, if_pos (has_j j1 (by decide) hN), ix_n (by omega)]
      · rw [abv, if_pos (has_j j1 (by decide) hN), ix_n (by omega)]
  have d0 : ∀ c, chn (I 96) N 4 c → dep (I 96) N 4 c = 0 → c = -1 := fun c hc h0 => dep_0 hN hc h0
  have dl : ∀ c, dep (I 96) N 4 c ≤ 4 := fun c => dep_le _ _ 4 c
  have fin : ∀ (s : Nat) (c e : Int32) (x6 : Option Value), c = e → Q (nI s) I J P → VG Γ 0 0 35 [some (.ref 80), some (.int x), some (.int y), some (.int c), some (.int e), some (.int (nI s)), x6] [] I J P (Fnl Γ (Qi Q)) := by
    rintro s c e x6 rfl hQ
    refine g_iload_3 h dX12_apart_35 ?_
    refine g_iload_4 h dX12_apart_36 ?_
    refine g_icmp_eq h 104 dX12_apart_38 rfl (fun _ => ?_) (fun c => absurd rfl c)
    refine g_iload_5 h dX12_apart_104 ?_
    refine g_iret h dX12_apart_106 ?_
    exact hQ
  intro f
  induction f with
  | zero =>
    intro s c e x6 hc he hd hQ
    exact fin s c e x6 ((d0 c hc (by omega)).trans (d0 e he (by omega)).symm) hQ
  | succ f ih =>
    intro s c e x6 hc he hd hQ
    rw [stpF] at hQ
    by_cases ce : c = e
    · rw [if_pos ce] at hQ
      exact fin s c e x6 ce hQ
    rw [if_neg ce] at hQ
    have b1 := dl c
    have b2 := dl e
    by_cases lt : dep (I 96) N 4 c < dep (I 96) N 4 e
    · rw [if_pos lt] at hQ
      obtain ⟨j, j1, j2, j3, j4, j5⟩ := up e he (fun q => by rw [q, dep_m1] at lt; omega)
      rw [j5] at hQ
      refine g_iload_3 h dX12_apart_35 ?_
      refine g_iload_4 h dX12_apart_36 ?_
      refine g_icmp_eq h 104 dX12_apart_38 rfl (fun c => absurd c ce) (fun _ => ?_)
      refine g_aload_0 h dX12_apart_41 ?_
      refine g_getP h fl_X12_87 dX12_apart_42 rfl rfl (by assumption) ?_
      refine g_iload_3 h dX12_apart_45 ?_
      refine g_cVi1 h rok0 mi_X11_deep dX12_apart_46 ml_X12_254 rfl rfl rfl (Nat.le_of_ble_eq_true rfl) (Nat.le_of_ble_eq_true rfl) (sp_deepB hN hc ?_)
      refine g_aload_0 h dX12_apart_49 ?_
      refine g_getP h fl_X12_87 dX12_apart_50 rfl rfl (by assumption) ?_
      refine g_iload_4 h dX12_apart_53 ?_
      refine g_cVi1 h rok0 mi_X11_deep dX12_apart_55 ml_X12_254 rfl rfl rfl (Nat.le_of_ble_eq_true rfl) (Nat.le_of_ble_eq_true rfl) (sp_deepB hN he ?_)
      refine g_icmp_lt h 65 dX12_apart_58 rfl (fun _ => ?_) (fun c => absurd (nI_lt lt (by omega)) c)
      refine g_iconst h dX12_apart_65 (v := nI 0) rfl ?_
      refine g_istore_6 h dX12_apart_66 (by decide) rfl ?_
      refine g_iload_6 h dX12_apart_68 ?_
      refine g_if_eq h 86 dX12_apart_70 rfl (fun _ => ?_) (fun c => absurd rfl c)
      refine g_aload_0 h dX12_apart_86 ?_
      refine g_getP h fl_X12_87 dX12_apart_87 rfl rfl (by assumption) ?_
      refine g_getC h fl_X12_248 dX12_apart_90 rfl rfl ?_
      refine g_iload_4 h dX12_apart_93 ?_
      refine g_iald h j dX12_apart_95 rfl j2 (by omega) ?_
      refine g_istore_4 h dX12_apart_96 (by decide) rfl ?_
      refine g_iinc_5 h dX12_apart_98 (inc1 _) (by decide) rfl ?_
      refine g_goto h 35 dX12_apart_101 rfl ?_
      exact ih (s + 1) _ _ _ hc j3 (by omega) (q_i (by rw [show s + (stpF (I 96) N f c (I 96 j) + 1) = s + 1 + stpF (I 96) N f c (I 96 j) by omega]) hQ)
    · rw [if_neg lt] at hQ
      obtain ⟨j, j1, j2, j3, j4, j5⟩ := up c hc (fun q => by
        have z : dep (I 96) N 4 c = 0 := by rw [q, dep_m1]
        exact ce (q.trans (d0 e he (by omega)).symm))
      rw [j5] at hQ
      refine g_iload_3 h dX12_apart_35 ?_
      refine g_iload_4 h dX12_apart_36 ?_
      refine g_icmp_eq h 104 dX12_apart_38 rfl (fun c => absurd c ce) (fun _ => ?_)
      refine g_aload_0 h dX12_apart_41 ?_
      refine g_getP h fl_X12_87 dX12_apart_42 rfl rfl (by assumption) ?_
      refine g_iload_3 h dX12_apart_45 ?_
      refine g_cVi1 h rok0 mi_X11_deep dX12_apart_46 ml_X12_254 rfl rfl rfl (Nat.le_of_ble_eq_true rfl) (Nat.le_of_ble_eq_true rfl) (sp_deepB hN hc ?_)
      refine g_aload_0 h dX12_apart_49 ?_
      refine g_getP h fl_X12_87 dX12_apart_50 rfl rfl (by assumption) ?_
      refine g_iload_4 h dX12_apart_53 ?_
      refine g_cVi1 h rok0 mi_X11_deep dX12_apart_55 ml_X12_254 rfl rfl rfl (Nat.le_of_ble_eq_true rfl) (Nat.le_of_ble_eq_true rfl) (sp_deepB hN he ?_)
      refine g_icmp_lt h 65 dX12_apart_58 rfl (fun c => absurd (ltN c (by omega) (by omega)) lt) (fun _ => ?_)
      refine g_iconst h dX12_apart_61 (v := nI 1) rfl ?_
      refine g_goto h 66 dX12_apart_62 rfl ?_
      refine g_istore_6 h dX12_apart_66 (by decide) rfl ?_
      refine g_iload_6 h dX12_apart_68 ?_
      refine g_if_eq h 86 dX12_apart_70 rfl (fun c => absurd c (by decide)) (fun _ => ?_)
      refine g_aload_0 h dX12_apart_73 ?_
      refine g_getP h fl_X12_87 dX12_apart_74 rfl rfl (by assumption) ?_
      refine g_getC h fl_X12_248 dX12_apart_77 rfl rfl ?_
      refine g_iload_3 h dX12_apart_80 ?_
      refine g_iald h j dX12_apart_81 rfl j2 (by omega) ?_
      refine g_istore_3 h dX12_apart_82 (by decide) rfl ?_
      refine g_goto h 98 dX12_apart_83 rfl ?_
      refine g_iinc_5 h dX12_apart_98 (inc1 _) (by decide) rfl ?_
      refine g_goto h 35 dX12_apart_101 rfl ?_
      exact ih (s + 1) _ _ _ j3 he (by omega) (q_i (by rw [show s + (stpF (I 96) N f (I 96 j) e + 1) = s + 1 + stpF (I 96) N f (I 96 j) e by omega]) hQ)
set_option maxRecDepth 100000 in
set_option maxHeartbeats 4000000 in
theorem sp_X12_apart {d : Nat} {x y : Int32} {I : MI} {J : MJ} {P : MP} (hB : P 80 8 = some 93) (hK : bkOK (bv I)) {Q : Int32 → MI → MJ → MP → Prop} (hQ1 : ∀ a b, a < nN (bv I) → b < nN (bv I) → x = nI a → y = nI b → Q (nI (stpF (I 96) (nN (bv I)) 8 x y)) (up2 I 80 0 (nI 0)) J P) (hQ0 : (¬ ((∃ a, a < nN (bv I) ∧ x = nI a) ∧ ∃ b, b < nN (bv I) ∧ y = nI b)) → Q (nI 0) (up2 (up2 I 80 0 (nI 0)) 80 0 (nI 1)) J P) : Sp yX12_apart cX12_apart 7 (some .int) (d + 2) [.ref 80, .int x, .int y] I J P (Qi Q) := by
  intro Γ h
  show VG Γ 0 0 0 [some (.ref 80), some (.int x), some (.int y), none, none, none, none] [] _ _ _ _
  have hB1 : P 80 8 = some 93 := hB
  have hK1 : bkOK (bv (up2 I 80 0 (nI 0))) := by rw [bv80]; exact hK
  have e91 : up2 I 80 0 (nI 0) 91 = I 91 := up2_o (by decide)
  have e93 : up2 I 80 0 (nI 0) 93 = I 93 := up2_o (by decide)
  have e80 : up2 I 80 0 (nI 0) 80 2 = I 80 2 := up2_n (by decide)
  have hcn : I 93 1 = nI (nN (bv I)) ∧ nN (bv I) ≤ 16 := bk_N hK
  have hi1 := inB_c (x := x) (N := nN (bv I)) (by omega)
  have hi2 := inB_c (x := y) (N := nN (bv I)) (by omega)
  have e96 : up2 I 80 0 (nI 0) 96 = I 96 := up2_o (by decide)
  have no : (¬ ((∃ a, a < nN (bv I) ∧ x = nI a) ∧ ∃ b, b < nN (bv I) ∧ y = nI b)) → VG Γ 0 0 21 [some (.ref 80), some (.int x), some (.int y), none, none, none, none] [] (up2 I 80 0 (nI 0)) J P (Fnl Γ (Qi Q)) := by
    intro hc
    refine g_aload_0 h dX12_apart_21 ?_
    refine g_iconst h dX12_apart_22 (v := nI 1) rfl ?_
    refine g_cVi1 h rok0 mi_X12_no dX12_apart_23 ml_X12_10 rfl rfl rfl (Nat.le_of_ble_eq_true rfl) (Nat.le_of_ble_eq_true rfl) (sp_X12_no ?_)
    refine g_iret h dX12_apart_26 ?_
    exact hQ0 hc
  by_cases h1 : ∃ a, a < nN (bv I) ∧ x = nI a
  · by_cases h2 : ∃ b, b < nN (bv I) ∧ y = nI b
    · obtain ⟨b, b1, b2⟩ := id h2
      obtain ⟨a, a1, a2⟩ := id h1
      refine g_aload_0 h dX12_apart_0 ?_
      refine g_iconst h dX12_apart_1 (v := nI 0) rfl ?_
      refine g_putI h fp_X12_1 dX12_apart_2 rfl rfl ?_
      refine g_aload_0 h dX12_apart_5 ?_
      refine g_iload_1 h dX12_apart_6 ?_
      refine g_cVi1 h rok0 mi_X12_isCord dX12_apart_7 ml_X12_372 rfl rfl rfl (Nat.le_of_ble_eq_true rfl) (Nat.le_of_ble_eq_true rfl) (sp_X12_isCord hB1 ?_)
      rw [show up2 I 80 0 (nI 0) 93 1 = nI (nN (bv I)) by rw [e93]; exact hcn.1, show inB x (nI 0) (nI (nN (bv I)) - nI 1) = true from hi1.mpr h1]
      refine g_if_eq h 21 dX12_apart_10 rfl (fun c => absurd c (by decide)) (fun _ => ?_)
      refine g_aload_0 h dX12_apart_13 ?_
      refine g_iload_2 h dX12_apart_14 ?_
      refine g_cVi1 h rok0 mi_X12_isCord dX12_apart_15 ml_X12_372 rfl rfl rfl (Nat.le_of_ble_eq_true rfl) (Nat.le_of_ble_eq_true rfl) (sp_X12_isCord hB1 ?_)
      rw [show up2 I 80 0 (nI 0) 93 1 = nI (nN (bv I)) by rw [e93]; exact hcn.1, show inB y (nI 0) (nI (nN (bv I)) - nI 1) = true from hi2.mpr h2]
      refine g_if_ne h 27 dX12_apart_18 rfl (fun _ => ?_) (fun c => absurd c (by decide))
      refine g_iload_1 h dX12_apart_27 ?_
      refine g_istore_3 h dX12_apart_28 (by decide) rfl ?_
      refine g_iload_2 h dX12_apart_29 ?_
      refine g_istore_4 h dX12_apart_30 (by decide) rfl ?_
      refine g_iconst h dX12_apart_32 (v := nI 0) rfl ?_
      refine g_istore_5 h dX12_apart_33 (by decide) rfl ?_
      have hQ := hQ1 a b a1 b1 a2 b2
      refine lp_X12_apart (d := d + 1) (N := nN (bv I)) hB1 hcn.2 (fun k hk => by rw [e96]; exact bk_c hK k hk) h 8 0 x y _ ?_ ?_ ?_ (q_i ?_ hQ)
      · rw [e96, a2]; exact bk_c hK a a1
      · rw [e96, b2]; exact bk_c hK b b1
      · have := dep_le (up2 I 80 0 (nI 0) 96) (nN (bv I)) 4 x
        have := dep_le (up2 I 80 0 (nI 0) 96) (nN (bv I)) 4 y
        omega
      · rw [e96, Nat.zero_add]
    · refine g_aload_0 h dX12_apart_0 ?_
      refine g_iconst h dX12_apart_1 (v := nI 0) rfl ?_
      refine g_putI h fp_X12_1 dX12_apart_2 rfl rfl ?_
      refine g_aload_0 h dX12_apart_5 ?_
      refine g_iload_1 h dX12_apart_6 ?_
      refine g_cVi1 h rok0 mi_X12_isCord dX12_apart_7 ml_X12_372 rfl rfl rfl (Nat.le_of_ble_eq_true rfl) (Nat.le_of_ble_eq_true rfl) (sp_X12_isCord hB1 ?_)
      rw [show up2 I 80 0 (nI 0) 93 1 = nI (nN (bv I)) by rw [e93]; exact hcn.1, show inB x (nI 0) (nI (nN (bv I)) - nI 1) = true from hi1.mpr h1]
      refine g_if_eq h 21 dX12_apart_10 rfl (fun c => absurd c (by decide)) (fun _ => ?_)
      refine g_aload_0 h dX12_apart_13 ?_
      refine g_iload_2 h dX12_apart_14 ?_
      refine g_cVi1 h rok0 mi_X12_isCord dX12_apart_15 ml_X12_372 rfl rfl rfl (Nat.le_of_ble_eq_true rfl) (Nat.le_of_ble_eq_true rfl) (sp_X12_isCord hB1 ?_)
      rw [show up2 I 80 0 (nI 0) 93 1 = nI (nN (bv I)) by rw [e93]; exact hcn.1, show inB y (nI 0) (nI (nN (bv I)) - nI 1) = false from inB_f hi2 h2]
      refine g_if_ne h 27 dX12_apart_18 rfl (fun c => absurd rfl c) (fun _ => ?_)
      exact no (fun q => h2 q.2)
  · refine g_aload_0 h dX12_apart_0 ?_
    refine g_iconst h dX12_apart_1 (v := nI 0) rfl ?_
    refine g_putI h fp_X12_1 dX12_apart_2 rfl rfl ?_
    refine g_aload_0 h dX12_apart_5 ?_
    refine g_iload_1 h dX12_apart_6 ?_
    refine g_cVi1 h rok0 mi_X12_isCord dX12_apart_7 ml_X12_372 rfl rfl rfl (Nat.le_of_ble_eq_true rfl) (Nat.le_of_ble_eq_true rfl) (sp_X12_isCord hB1 ?_)
    rw [show up2 I 80 0 (nI 0) 93 1 = nI (nN (bv I)) by rw [e93]; exact hcn.1, show inB x (nI 0) (nI (nN (bv I)) - nI 1) = false from inB_f hi1 h1]
    refine g_if_eq h 21 dX12_apart_10 rfl (fun _ => ?_) (fun c => absurd rfl c)
    exact no (fun q => h1 q.1)
set_option maxRecDepth 100000 in
set_option maxHeartbeats 4000000 in
theorem sp_X12_reach {N : Nat} {I : MI} {J : MJ} {P : MP} (hB : P 80 8 = some 93) (hN : I 93 1 = nI N) (hN16 : N ≤ 16) : ∀ (f d c : Nat), f < 100 → c < 16 → tal (I 96) N f c → ∀ {Q : Int32 → MI → MJ → MP → Prop}, Q (nI (rch (I 96) N f c)) I J P → Sp yX12_reach cX12_reach 4 (some .int) (d + f + 1) [.ref 80, .int (nI c)] I J P (Qi Q) := by
  intro f
  induction f with
  | zero => exact fun d c _ _ h => absurd h id
  | succ f ihf =>
    intro d c hf hc ht Q hQ Γ h
    show VG Γ 0 0 0 [some (.ref 80), some (.int (nI c)), none, none] [] _ _ _ _
    have lp : ∀ (n i m : Nat), i + n = N → m ≤ f → mxF (fun j => if I 96 j = nI c then rch (I 96) N f j else 0) n i m = mxF (fun j => if I 96 j = nI c then rch (I 96) N f j else 0) N 0 0 → VG Γ 0 0 4 [some (.ref 80), some (.int (nI c)), some (.int (nI m)), some (.int (nI i))] [] I J P (Fnl Γ (Qi Q)) := by
      intro n
      induction n with
      | zero =>
        intro i m hi hm e
        refine g_iload_3 h dX12_reach_4 ?_
        refine g_aload_0 h dX12_reach_5 ?_
        refine g_getP h fl_X12_87 dX12_reach_6 rfl rfl (by assumption) ?_
        refine g_getI h fl_X12_161 dX12_reach_9 rfl rfl ?_
        refine g_icmp_ge h 44 dX12_reach_12 rfl (fun c12 => ?_) (fun c12 => ?_)
        · refine g_iload_2 h dX12_reach_44 ?_
          refine g_iconst h dX12_reach_45 (v := nI 1) rfl ?_
          refine g_iadd h dX12_reach_46 ?_
          refine g_iret h dX12_reach_47 ?_
          exact q_i (by rw [rch, ← e, mxF]; exact nI_1 m) hQ
        · exact absurd (by rw [hN]; exact nI_le (by omega) (by omega)) c12
      | succ n ih =>
        intro i m hi hm e
        rw [mxF] at e
        refine g_iload_3 h dX12_reach_4 ?_
        refine g_aload_0 h dX12_reach_5 ?_
        refine g_getP h fl_X12_87 dX12_reach_6 rfl rfl (by assumption) ?_
        refine g_getI h fl_X12_161 dX12_reach_9 rfl rfl ?_
        refine g_icmp_ge h 44 dX12_reach_12 rfl (fun c12 => ?_) (fun c12 => ?_)
        · exact absurd (leN (by simpa only [hN] using c12) (by omega) (by omega)) (by omega)
        · refine g_aload_0 h dX12_reach_15 ?_
          refine g_getP h fl_X12_87 dX12_reach_16 rfl rfl (by assumption) ?_
          refine g_getC h fl_X12_248 dX12_reach_19 rfl rfl ?_
          refine g_iload_3 h dX12_reach_22 ?_
          refine g_iald h i dX12_reach_23 rfl rfl (by omega) ?_
          refine g_iload_1 h dX12_reach_24 ?_
          refine g_icmp_ne h 38 dX12_reach_25 rfl (fun c25 => ?_) (fun c25 => ?_)
          · refine g_iinc_3 h dX12_reach_38 (inc1 _) (by decide) rfl ?_
            refine g_goto h 4 dX12_reach_41 rfl ?_
            first
              | exact ih (i + 1) m (by omega) hm (by rw [if_neg (show ¬ I 96 i = nI c from c25), Nat.max_eq_left (Nat.zero_le _)] at e; exact e)
              | exact ih (i + 1) _ (by omega) (Nat.max_le.mpr ⟨hm, rch_le f i⟩) (by rw [if_pos (show I 96 i = nI c by first | exact c25 | exact Classical.not_not.mp c25)] at e; exact e)
          · refine g_iload_2 h dX12_reach_28 ?_
            refine g_aload_0 h dX12_reach_29 ?_
            refine g_iload_3 h dX12_reach_30 ?_
            refine g_cVi1 h rok0 mi_X12_reach dX12_reach_31 ml_X12_402 rfl rfl rfl (Nat.le_of_ble_eq_true rfl) (Nat.le_of_ble_eq_true rfl) (ihf d i (by omega) (by omega) (ht i (by omega) (by first | exact c25 | exact Classical.not_not.mp c25)) ?_)
            refine g_mmax h dX12_reach_34 ml_X12_313 rok0 (Nat.le_of_ble_eq_true rfl) ?_
            rw [mmax_n (by omega) (by have := rch_le (u := I 96) (N := N) f i; omega)]
            refine g_istore_2 h dX12_reach_37 (by decide) rfl ?_
            refine g_iinc_3 h dX12_reach_38 (inc1 _) (by decide) rfl ?_
            refine g_goto h 4 dX12_reach_41 rfl ?_
            first
              | exact ih (i + 1) m (by omega) hm (by rw [if_neg (show ¬ I 96 i = nI c from c25), Nat.max_eq_left (Nat.zero_le _)] at e; exact e)
              | exact ih (i + 1) _ (by omega) (Nat.max_le.mpr ⟨hm, rch_le f i⟩) (by rw [if_pos (show I 96 i = nI c by first | exact c25 | exact Classical.not_not.mp c25)] at e; exact e)
    refine g_iconst h dX12_reach_0 (v := nI 0) rfl ?_
    refine g_istore_2 h dX12_reach_1 (by decide) rfl ?_
    refine g_iconst h dX12_reach_2 (v := nI 0) rfl ?_
    refine g_istore_3 h dX12_reach_3 (by decide) rfl ?_
    exact lp N 0 0 (by omega) (Nat.zero_le _) rfl
set_option maxRecDepth 100000 in
set_option maxHeartbeats 4000000 in
theorem lp_X12_isBelow {Γ : Cx} {d N : Nat} {I : MI} {J : MJ} {P : MP} (hB : P 80 8 = some 93) (hN : N ≤ 16) {x w1 : Int32} {Q : Int32 → MI → MJ → MP → Prop} (h : Vc RX12 cX12_isBelow 5 (some .boolean) (d) Γ) : ∀ (f : Nat) (c : Int32) (b : Bool), chn (I 96) N f c → Q (b2i (b || wth (I 96) N x f c)) I J P → VG Γ 0 0 5 [some (.ref 80), some (.int w1), some (.int x), some (.int (b2i b)), some (.int c)] [] I J P (Fnl Γ (Qi Q)) := by
  have fin : ∀ (b : Bool), Q (b2i b) I J P → VG Γ 0 0 5 [some (.ref 80), some (.int w1), some (.int x), some (.int (b2i b)), some (.int (-1))] [] I J P (Fnl Γ (Qi Q)) := by
    intro b hQ
    refine g_iload_4 h dX12_isBelow_5 ?_
    refine g_iconst h dX12_isBelow_7 (v := (-1)) rfl ?_
    refine g_icmp_eq h 40 dX12_isBelow_8 rfl (fun _ => ?_) (fun c => absurd rfl c)
    refine g_iload_3 h dX12_isBelow_40 ?_
    refine g_zret h dX12_isBelow_41 (by first | rfl | exact nar_b2i _) ?_
    exact hQ
  have o1 : ∀ b : Bool, b2i b ||| nI 1 = b2i true := by decide
  have o0 : ∀ b : Bool, b2i b ||| nI 0 = b2i b := by decide
  intro f
  induction f with
  | zero =>
    intro c b hc hQ
    obtain rfl : c = -1 := hc
    refine fin b ?_
    rw [wth, Bool.or_false] at hQ
    exact hQ
  | succ f ih =>
    intro c b hc hQ
    rw [wth] at hQ
    rcases hc with rfl | ⟨j, j1, rfl, j3⟩
    · rw [has_m1, if_neg (by decide), Bool.or_false] at hQ
      exact fin b hQ
    · rw [if_pos (has_j j1 (by decide) hN), ix_n (by omega)] at hQ
      refine g_iload_4 h dX12_isBelow_5 ?_
      refine g_iconst h dX12_isBelow_7 (v := (-1)) rfl ?_
      refine g_icmp_eq h 40 dX12_isBelow_8 rfl (fun c => absurd c (m1_nI (by omega))) (fun _ => ?_)
      refine g_iload_3 h dX12_isBelow_11 ?_
      refine g_iload_4 h dX12_isBelow_12 ?_
      refine g_iload_2 h dX12_isBelow_14 ?_
      refine g_icmp_ne h 22 dX12_isBelow_15 rfl (fun c15 => ?_) (fun c15 => ?_)
      · refine g_iconst h dX12_isBelow_22 (v := nI 0) rfl ?_
        refine g_ior h dX12_isBelow_23 ?_
        first | rw [o1] | rw [o0]
        refine g_istore_3 h dX12_isBelow_24 (by decide) rfl ?_
        refine g_aload_0 h dX12_isBelow_25 ?_
        refine g_getP h fl_X12_87 dX12_isBelow_26 rfl rfl (by assumption) ?_
        refine g_getC h fl_X12_248 dX12_isBelow_29 rfl rfl ?_
        refine g_iload_4 h dX12_isBelow_32 ?_
        refine g_iald h j dX12_isBelow_34 rfl rfl (by omega) ?_
        refine g_istore_4 h dX12_isBelow_35 (by decide) rfl ?_
        refine g_goto h 5 dX12_isBelow_37 rfl ?_
        first
          | exact ih _ true j3 (by rw [if_pos (by first | exact c15 | exact Classical.not_not.mp c15), Bool.or_true] at hQ; exact hQ)
          | exact ih _ b j3 (by rw [if_neg c15] at hQ; exact hQ)
      · refine g_iconst h dX12_isBelow_18 (v := nI 1) rfl ?_
        refine g_goto h 23 dX12_isBelow_19 rfl ?_
        refine g_ior h dX12_isBelow_23 ?_
        first | rw [o1] | rw [o0]
        refine g_istore_3 h dX12_isBelow_24 (by decide) rfl ?_
        refine g_aload_0 h dX12_isBelow_25 ?_
        refine g_getP h fl_X12_87 dX12_isBelow_26 rfl rfl (by assumption) ?_
        refine g_getC h fl_X12_248 dX12_isBelow_29 rfl rfl ?_
        refine g_iload_4 h dX12_isBelow_32 ?_
        refine g_iald h j dX12_isBelow_34 rfl rfl (by omega) ?_
        refine g_istore_4 h dX12_isBelow_35 (by decide) rfl ?_
        refine g_goto h 5 dX12_isBelow_37 rfl ?_
        first
          | exact ih _ true j3 (by rw [if_pos (by first | exact c15 | exact Classical.not_not.mp c15), Bool.or_true] at hQ; exact hQ)
          | exact ih _ b j3 (by rw [if_neg c15] at hQ; exact hQ)
set_option maxRecDepth 100000 in
set_option maxHeartbeats 4000000 in
theorem sp_X12_isBelow {d N : Nat} {I : MI} {J : MJ} {P : MP} (hB : P 80 8 = some 93) (hN : N ≤ 16) {c x : Int32} (hc : chn (I 96) N 4 c) {Q : Int32 → MI → MJ → MP → Prop} (hQ : Q (b2i (wth (I 96) N x 4 c)) I J P) : Sp yX12_isBelow cX12_isBelow 5 (some .boolean) (d) [.ref 80, .int c, .int x] I J P (Qi Q) := by
  intro Γ h
  show VG Γ 0 0 0 [some (.ref 80), some (.int c), some (.int x), none, none] [] _ _ _ _
  refine g_iconst h dX12_isBelow_0 (v := nI 0) rfl ?_
  refine g_istore_3 h dX12_isBelow_1 (by decide) rfl ?_
  refine g_iload_1 h dX12_isBelow_2 ?_
  refine g_istore_4 h dX12_isBelow_3 (by decide) rfl ?_
  exact lp_X12_isBelow hB hN h 4 c false hc (by rw [Bool.false_or]; exact hQ)
