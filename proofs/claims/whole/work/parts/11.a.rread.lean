/-! The reference: small methods, sums over cords and top cords -/
theorem bv80 {I : MI} {k : Nat} {v : Int32} : bv (up2 I 80 k v) = bv I := by
  funext a
  exact up2_o (by omega)
theorem inB_n {x : Int32} {m : Nat} (hm : m < 2 ^ 31) : inB x (nI 0) (nI m) = true ↔ ∃ w, w ≤ m ∧ x = nI w := by
  unfold inB
  constructor
  · intro h
    obtain ⟨a1, a2⟩ := Bool.and_eq_true_iff.mp h
    have a1 := of_decide_eq_true a1
    have a2 := of_decide_eq_true a2
    obtain ⟨j, j1, j2⟩ := nI_of (x := x) (fun r => absurd (Int32.lt_of_le_of_lt a1 r) (Int32.lt_irrefl))
    rw [j2] at a2 ⊢
    exact ⟨j, leN a2 j1 hm, rfl⟩
  · rintro ⟨w, w1, rfl⟩
    rw [decide_eq_true (nI_le (Nat.zero_le w) (by omega)), decide_eq_true (nI_le w1 hm)]
    rfl
theorem inB_c {x : Int32} {N : Nat} (hN : N < 2 ^ 31) : inB x (nI 0) (nI N - nI 1) = true ↔ ∃ w, w < N ∧ x = nI w := by
  cases N with
  | zero =>
    rw [nI_0s1]
    constructor
    · intro h
      unfold inB at h
      obtain ⟨a1, a2⟩ := Bool.and_eq_true_iff.mp h
      have a1 := of_decide_eq_true a1
      have a2 := of_decide_eq_true a2
      exact absurd (Int32.le_trans a1 a2) (by decide)
    · rintro ⟨w, w1, -⟩
      omega
  | succ N =>
    rw [nI_sub1, inB_n (by omega)]
    constructor
    · rintro ⟨w, w1, w2⟩; exact ⟨w, by omega, w2⟩
    · rintro ⟨w, w1, w2⟩; exact ⟨w, by omega, w2⟩
theorem inB_1 {x : Int32} {a m : Nat} (ha : a ≤ m) (hm : m < 2 ^ 31) : inB x (nI a) (nI m) = true ↔ ∃ w, a ≤ w ∧ w ≤ m ∧ x = nI w := by
  unfold inB
  constructor
  · intro h
    obtain ⟨a1, a2⟩ := Bool.and_eq_true_iff.mp h
    have a1 := of_decide_eq_true a1
    have a2 := of_decide_eq_true a2
    have z : (0 : Int32) ≤ x := Int32.le_trans (nI_le (a := 0) (Nat.zero_le a) (by omega)) a1
    obtain ⟨j, j1, j2⟩ := nI_of (x := x) (fun r => absurd (Int32.lt_of_le_of_lt z r) (Int32.lt_irrefl))
    rw [j2] at a1 a2 ⊢
    exact ⟨j, leN a1 (by omega) j1, leN a2 j1 hm, rfl⟩
  · rintro ⟨w, w0, w1, rfl⟩
    rw [decide_eq_true (nI_le w0 (by omega)), decide_eq_true (nI_le w1 hm)]
    rfl
set_option maxRecDepth 100000 in
set_option maxHeartbeats 4000000 in
theorem sp_X12_thrown {d : Nat} {I : MI} {J : MJ} {P : MP} {Q : Int32 → MI → MJ → MP → Prop} (hQ : Q (I 80 0) I J P) : Sp yX12_thrown cX12_thrown 1 (some .int) (d) [.ref 80] I J P (Qi Q) := by
  intro Γ h
  show VG Γ 0 0 0 [some (.ref 80)] [] _ _ _ _
  refine g_aload_0 h dX12_thrown_0 ?_
  refine g_getI h fl_X12_1 dX12_thrown_1 rfl rfl ?_
  refine g_iret h dX12_thrown_4 ?_
  exact hQ
set_option maxRecDepth 100000 in
set_option maxHeartbeats 4000000 in
theorem sp_X12_no {d : Nat} {x : Int32} {I : MI} {J : MJ} {P : MP} {Q : Int32 → MI → MJ → MP → Prop} (hQ : Q (nI 0) (up2 I 80 0 x) J P) : Sp yX12_no cX12_no 2 (some .int) (d) [.ref 80, .int x] I J P (Qi Q) := by
  intro Γ h
  show VG Γ 0 0 0 [some (.ref 80), some (.int x)] [] _ _ _ _
  refine g_aload_0 h dX12_no_0 ?_
  refine g_iload_1 h dX12_no_1 ?_
  refine g_putI h fp_X12_1 dX12_no_2 rfl rfl ?_
  refine g_iconst h dX12_no_5 (v := nI 0) rfl ?_
  refine g_iret h dX12_no_6 ?_
  exact hQ
set_option maxRecDepth 100000 in
set_option maxHeartbeats 4000000 in
theorem sp_X12_isColour {d : Nat} {x : Int32} {I : MI} {J : MJ} {P : MP} (hB : P 80 8 = some 93) {Q : Int32 → MI → MJ → MP → Prop} (hQ : Q (b2i (inB x (nI 0) (I 93 0 - nI 1))) I J P) : Sp yX12_isColour cX12_isColour 2 (some .boolean) (d + 1) [.ref 80, .int x] I J P (Qi Q) := by
  intro Γ h
  show VG Γ 0 0 0 [some (.ref 80), some (.int x)] [] _ _ _ _
  refine g_iload_1 h dX12_isColour_0 ?_
  refine g_iconst h dX12_isColour_1 (v := nI 0) rfl ?_
  refine g_aload_0 h dX12_isColour_2 ?_
  refine g_getP h fl_X12_87 dX12_isColour_3 rfl rfl (by assumption) ?_
  refine g_getI h fl_X12_154 dX12_isColour_6 rfl rfl ?_
  refine g_iconst h dX12_isColour_9 (v := nI 1) rfl ?_
  refine g_isub h dX12_isColour_10 ?_
  refine g_cSi3 h rok0 mi_X12_isIn dX12_isColour_11 ml_X12_22 (Nat.le_of_ble_eq_true rfl) (Nat.le_of_ble_eq_true rfl) (sp_X12_isIn ?_)
  refine g_zret h dX12_isColour_14 (by first | rfl | exact nar_b2i _) ?_
  exact hQ
set_option maxRecDepth 100000 in
set_option maxHeartbeats 4000000 in
theorem sp_X12_isCord {d : Nat} {x : Int32} {I : MI} {J : MJ} {P : MP} (hB : P 80 8 = some 93) {Q : Int32 → MI → MJ → MP → Prop} (hQ : Q (b2i (inB x (nI 0) (I 93 1 - nI 1))) I J P) : Sp yX12_isCord cX12_isCord 2 (some .boolean) (d + 1) [.ref 80, .int x] I J P (Qi Q) := by
  intro Γ h
  show VG Γ 0 0 0 [some (.ref 80), some (.int x)] [] _ _ _ _
  refine g_iload_1 h dX12_isCord_0 ?_
  refine g_iconst h dX12_isCord_1 (v := nI 0) rfl ?_
  refine g_aload_0 h dX12_isCord_2 ?_
  refine g_getP h fl_X12_87 dX12_isCord_3 rfl rfl (by assumption) ?_
  refine g_getI h fl_X12_161 dX12_isCord_6 rfl rfl ?_
  refine g_iconst h dX12_isCord_9 (v := nI 1) rfl ?_
  refine g_isub h dX12_isCord_10 ?_
  refine g_cSi3 h rok0 mi_X12_isIn dX12_isCord_11 ml_X12_22 (Nat.le_of_ble_eq_true rfl) (Nat.le_of_ble_eq_true rfl) (sp_X12_isIn ?_)
  refine g_zret h dX12_isCord_14 (by first | rfl | exact nar_b2i _) ?_
  exact hQ
set_option maxRecDepth 100000 in
set_option maxHeartbeats 4000000 in
theorem sp_X12_isTop {d : Nat} {x : Int32} {I : MI} {J : MJ} {P : MP} (hB : P 80 8 = some 93) {Q : Int32 → MI → MJ → MP → Prop} (hQ : Q (b2i (inB x (nI 0) (I 93 2 - nI 1))) I J P) : Sp yX12_isTop cX12_isTop 2 (some .boolean) (d + 1) [.ref 80, .int x] I J P (Qi Q) := by
  intro Γ h
  show VG Γ 0 0 0 [some (.ref 80), some (.int x)] [] _ _ _ _
  refine g_iload_1 h dX12_isTop_0 ?_
  refine g_iconst h dX12_isTop_1 (v := nI 0) rfl ?_
  refine g_aload_0 h dX12_isTop_2 ?_
  refine g_getP h fl_X12_87 dX12_isTop_3 rfl rfl (by assumption) ?_
  refine g_getI h fl_X12_164 dX12_isTop_6 rfl rfl ?_
  refine g_iconst h dX12_isTop_9 (v := nI 1) rfl ?_
  refine g_isub h dX12_isTop_10 ?_
  refine g_cSi3 h rok0 mi_X12_isIn dX12_isTop_11 ml_X12_22 (Nat.le_of_ble_eq_true rfl) (Nat.le_of_ble_eq_true rfl) (sp_X12_isIn ?_)
  refine g_zret h dX12_isTop_14 (by first | rfl | exact nar_b2i _) ?_
  exact hQ
set_option maxRecDepth 100000 in
set_option maxHeartbeats 4000000 in
theorem sp_X12_isKeeper {d : Nat} {x : Int32} {I : MI} {J : MJ} {P : MP} (hB : P 80 8 = some 93) {Q : Int32 → MI → MJ → MP → Prop} (hQ : Q (b2i (inB x (nI 0) (I 93 3 - nI 1))) I J P) : Sp yX12_isKeeper cX12_isKeeper 2 (some .boolean) (d + 1) [.ref 80, .int x] I J P (Qi Q) := by
  intro Γ h
  show VG Γ 0 0 0 [some (.ref 80), some (.int x)] [] _ _ _ _
  refine g_iload_1 h dX12_isKeeper_0 ?_
  refine g_iconst h dX12_isKeeper_1 (v := nI 0) rfl ?_
  refine g_aload_0 h dX12_isKeeper_2 ?_
  refine g_getP h fl_X12_87 dX12_isKeeper_3 rfl rfl (by assumption) ?_
  refine g_getI h fl_X12_167 dX12_isKeeper_6 rfl rfl ?_
  refine g_iconst h dX12_isKeeper_9 (v := nI 1) rfl ?_
  refine g_isub h dX12_isKeeper_10 ?_
  refine g_cSi3 h rok0 mi_X12_isIn dX12_isKeeper_11 ml_X12_22 (Nat.le_of_ble_eq_true rfl) (Nat.le_of_ble_eq_true rfl) (sp_X12_isIn ?_)
  refine g_zret h dX12_isKeeper_14 (by first | rfl | exact nar_b2i _) ?_
  exact hQ
set_option maxRecDepth 100000 in
set_option maxHeartbeats 4000000 in
theorem lp_X12_wrongs {Γ : Cx} {d r Tn : Nat} {I : MI} {J : MJ} {P : MP} (hr : r = 91 ∨ r = 92) (hB : P 80 8 = some 93) (hK : bkOK (bv I)) (hTe : nT (bv I) = Tn) (hTp : I 93 2 = nI Tn) (hT6 : Tn ≤ 6)  {Q : Int32 → MI → MJ → MP → Prop} (h : Vc RX12 cX12_wrongs 4 (some .int) (d + 7) Γ) : ∀ (f i : Nat) (a : Int32), i + f = Tn → Q (sumF (fun a => b2i (wrgB (I r (19 + a)) (dueB (bv I) (I r) a))) f i a) I J P → VG Γ 0 0 4 [some (.ref 80), some (.ref r), some (.int a), some (.int (nI i))] [] I J P (Fnl Γ (Qi Q)) := by
  intro f
  induction f with
  | zero =>
    intro i a hi hQ
    refine g_iload_3 h dX12_wrongs_4 ?_
    refine g_aload_0 h dX12_wrongs_5 ?_
    refine g_getP h fl_X12_87 dX12_wrongs_6 rfl rfl (by assumption) ?_
    refine g_getI h fl_X12_164 dX12_wrongs_9 rfl rfl ?_
    refine g_icmp_ge h 38 dX12_wrongs_12 rfl (fun c12 => ?_) (fun c12 => ?_)
    · refine g_iload_2 h dX12_wrongs_38 ?_
      refine g_iret h dX12_wrongs_39 ?_
      exact hQ
    · exact absurd (by rw [hTp]; exact nI_le (by omega) (by omega)) c12
  | succ f ih =>
    intro i a hi hQ
    refine g_iload_3 h dX12_wrongs_4 ?_
    refine g_aload_0 h dX12_wrongs_5 ?_
    refine g_getP h fl_X12_87 dX12_wrongs_6 rfl rfl (by assumption) ?_
    refine g_getI h fl_X12_164 dX12_wrongs_9 rfl rfl ?_
    refine g_icmp_ge h 38 dX12_wrongs_12 rfl (fun c12 => ?_) (fun c12 => ?_)
    · exact absurd (leN (by simpa only [hTp] using c12) (by omega) (by omega)) (by omega)
    · refine g_iload_2 h dX12_wrongs_15 ?_
      refine g_aload_0 h dX12_wrongs_16 ?_
      refine g_aload_1 h dX12_wrongs_17 ?_
      refine g_iload_3 h dX12_wrongs_18 ?_
      refine g_cVi2 h rok0 mi_X12_isWrong dX12_wrongs_19 ml_X12_319 rfl rfl rfl (Nat.le_of_ble_eq_true rfl) (Nat.le_of_ble_eq_true rfl) (sp_X12_isWrong hr hB (bk_N hK).1 (bk_N hK).2 (bk_t hK) (by omega) (bk_Z hK i (by omega)).1 (bk_Z hK i (by omega)).2.1 (bk_Z hK i (by omega)).2.2 ?_)
      refine g_if_eq h 29 dX12_wrongs_22 rfl (fun c22 => ?_) (fun c22 => ?_)
      · refine g_iconst h dX12_wrongs_29 (v := nI 0) rfl ?_
        refine g_iadd h dX12_wrongs_30 ?_
        refine g_istore_2 h dX12_wrongs_31 (by decide) rfl ?_
        refine g_iinc_3 h dX12_wrongs_32 (inc1 _) (by decide) rfl ?_
        refine g_goto h 4 dX12_wrongs_35 rfl ?_
        first
          | exact ih (i + 1) _ (by omega) (q_i (by simp only [sumF]; rw [← b2i_1 c22]; rfl) hQ)
          | exact ih (i + 1) _ (by omega) (q_i (by simp only [sumF]; rw [← b2i_00 c22]; rfl) hQ)
      · refine g_iconst h dX12_wrongs_25 (v := nI 1) rfl ?_
        refine g_goto h 30 dX12_wrongs_26 rfl ?_
        refine g_iadd h dX12_wrongs_30 ?_
        refine g_istore_2 h dX12_wrongs_31 (by decide) rfl ?_
        refine g_iinc_3 h dX12_wrongs_32 (inc1 _) (by decide) rfl ?_
        refine g_goto h 4 dX12_wrongs_35 rfl ?_
        first
          | exact ih (i + 1) _ (by omega) (q_i (by simp only [sumF]; rw [← b2i_1 c22]; rfl) hQ)
          | exact ih (i + 1) _ (by omega) (q_i (by simp only [sumF]; rw [← b2i_00 c22]; rfl) hQ)
set_option maxRecDepth 100000 in
set_option maxHeartbeats 4000000 in
theorem sp_X12_wrongs {d r Tn : Nat} {I : MI} {J : MJ} {P : MP} (hr : r = 91 ∨ r = 92) (hB : P 80 8 = some 93) (hK : bkOK (bv I)) (hTe : nT (bv I) = Tn) (hTp : I 93 2 = nI Tn) (hT6 : Tn ≤ 6)  {Q : Int32 → MI → MJ → MP → Prop} (hQ : Q (sumF (fun a => b2i (wrgB (I r (19 + a)) (dueB (bv I) (I r) a))) Tn 0 (nI 0)) I J P) : Sp yX12_wrongs cX12_wrongs 4 (some .int) (d + 7) [.ref 80, .ref r] I J P (Qi Q) := by
  intro Γ h
  show VG Γ 0 0 0 [some (.ref 80), some (.ref r), none, none] [] _ _ _ _
  refine g_iconst h dX12_wrongs_0 (v := nI 0) rfl ?_
  refine g_istore_2 h dX12_wrongs_1 (by decide) rfl ?_
  refine g_iconst h dX12_wrongs_2 (v := nI 0) rfl ?_
  refine g_istore_3 h dX12_wrongs_3 (by decide) rfl ?_
  exact lp_X12_wrongs hr hB hK hTe hTp hT6 h Tn 0 _ (by omega) hQ
def ofV (w : Nat) (x : Int32) : Int32 := if w = 6 then x else if w = 7 then knR x else tuR x
theorem shpRi {r : Nat} (hr : r = 91 ∨ r = 92) : shp r = .inr (0, 35) := shpR hr
set_option maxRecDepth 100000 in
set_option maxHeartbeats 4000000 in
theorem lp_X12_ofAll {Γ : Cx} {d r w N : Nat} {I : MI} {J : MJ} {P : MP} (hr : r = 91 ∨ r = 92) (hB : P 80 8 = some 93) (hN : I 93 1 = nI N) (hN16 : N ≤ 16) (hw : w < 100)  {Q : Int32 → MI → MJ → MP → Prop} (h : Vc RX12 cX12_ofAll 6 (some .int) (d + 2) Γ) : ∀ (f i : Nat) (a : Int32) (x5 : Option Value), i + f = N → Q (sumF (fun i => ofV w (I r (3 + i))) f i a) I J P → VG Γ 0 0 5 [some (.ref 80), some (.ref r), some (.int (nI w)), some (.int a), some (.int (nI i)), x5] [] I J P (Fnl Γ (Qi Q)) := by
  intro f
  induction f with
  | zero =>
    intro i a x5 hi hQ
    refine g_iload_4 h dX12_ofAll_5 ?_
    refine g_aload_0 h dX12_ofAll_7 ?_
    refine g_getP h fl_X12_87 dX12_ofAll_8 rfl rfl (by assumption) ?_
    refine g_getI h fl_X12_161 dX12_ofAll_11 rfl rfl ?_
    refine g_icmp_ge h 64 dX12_ofAll_14 rfl (fun c14 => ?_) (fun c14 => ?_)
    · refine g_iload_3 h dX12_ofAll_64 ?_
      refine g_iret h dX12_ofAll_65 ?_
      exact hQ
    · exact absurd (by rw [hN]; exact nI_le (by omega) (by omega)) c14
  | succ f ih =>
    intro i a x5 hi hQ
    refine g_iload_4 h dX12_ofAll_5 ?_
    refine g_aload_0 h dX12_ofAll_7 ?_
    refine g_getP h fl_X12_87 dX12_ofAll_8 rfl rfl (by assumption) ?_
    refine g_getI h fl_X12_161 dX12_ofAll_11 rfl rfl ?_
    refine g_icmp_ge h 64 dX12_ofAll_14 rfl (fun c14 => ?_) (fun c14 => ?_)
    · exact absurd (leN (by simpa only [hN] using c14) (by omega) (by omega)) (by omega)
    · refine g_aload_1 h dX12_ofAll_17 ?_
      refine g_iconst h dX12_ofAll_18 (v := nI 3) rfl ?_
      refine g_iload_4 h dX12_ofAll_19 ?_
      refine g_iadd h dX12_ofAll_21 ?_
      refine g_iald h (3 + i) dX12_ofAll_22 (shpR hr) (nI_add 3 i) (by omega) ?_
      refine g_istore_5 h dX12_ofAll_23 (by decide) rfl ?_
      refine g_iload_3 h dX12_ofAll_25 ?_
      refine g_iload_2 h dX12_ofAll_26 ?_
      refine g_bipush h dX12_ofAll_27 (v := nI 6) rfl ?_
      refine g_icmp_ne h 37 dX12_ofAll_29 rfl (fun c29 => ?_) (fun c29 => ?_)
      · refine g_iload_2 h dX12_ofAll_37 ?_
        refine g_bipush h dX12_ofAll_38 (v := nI 7) rfl ?_
        refine g_icmp_ne h 51 dX12_ofAll_40 rfl (fun c40 => ?_) (fun c40 => ?_)
        · refine g_iload_5 h dX12_ofAll_51 ?_
          refine g_cSi1 h rok0 mi_X12_turns dX12_ofAll_53 ml_X12_330 (Nat.le_of_ble_eq_true rfl) (Nat.le_of_ble_eq_true rfl) (sp_X12_turns ?_)
          refine g_iadd h dX12_ofAll_56 ?_
          refine g_istore_3 h dX12_ofAll_57 (by decide) rfl ?_
          refine g_iinc_4 h dX12_ofAll_58 (inc1 _) (by decide) rfl ?_
          refine g_goto h 5 dX12_ofAll_61 rfl ?_
          first
            | exact ih (i + 1) _ _ (by omega) (q_i (by simp only [sumF, ofV]; rw [if_pos (eqN (by first | exact c29 | exact Classical.not_not.mp c29) (by omega) (by decide))]) hQ)
            | exact ih (i + 1) _ _ (by omega) (q_i (by simp only [sumF, ofV]; rw [if_neg (fun q => c29 (by rw [q])), if_pos (eqN (by first | exact c40 | exact Classical.not_not.mp c40) (by omega) (by decide))]) hQ)
            | exact ih (i + 1) _ _ (by omega) (q_i (by simp only [sumF, ofV]; rw [if_neg (fun q => c29 (by rw [q])), if_neg (fun q => c40 (by rw [q]))]) hQ)
        · refine g_iload_5 h dX12_ofAll_43 ?_
          refine g_cSi1 h rok0 mi_X12_knots dX12_ofAll_45 ml_X12_301 (Nat.le_of_ble_eq_true rfl) (Nat.le_of_ble_eq_true rfl) (sp_X12_knots ?_)
          refine g_goto h 56 dX12_ofAll_48 rfl ?_
          refine g_iadd h dX12_ofAll_56 ?_
          refine g_istore_3 h dX12_ofAll_57 (by decide) rfl ?_
          refine g_iinc_4 h dX12_ofAll_58 (inc1 _) (by decide) rfl ?_
          refine g_goto h 5 dX12_ofAll_61 rfl ?_
          first
            | exact ih (i + 1) _ _ (by omega) (q_i (by simp only [sumF, ofV]; rw [if_pos (eqN (by first | exact c29 | exact Classical.not_not.mp c29) (by omega) (by decide))]) hQ)
            | exact ih (i + 1) _ _ (by omega) (q_i (by simp only [sumF, ofV]; rw [if_neg (fun q => c29 (by rw [q])), if_pos (eqN (by first | exact c40 | exact Classical.not_not.mp c40) (by omega) (by decide))]) hQ)
            | exact ih (i + 1) _ _ (by omega) (q_i (by simp only [sumF, ofV]; rw [if_neg (fun q => c29 (by rw [q])), if_neg (fun q => c40 (by rw [q]))]) hQ)
      · refine g_iload_5 h dX12_ofAll_32 ?_
        refine g_goto h 56 dX12_ofAll_34 rfl ?_
        refine g_iadd h dX12_ofAll_56 ?_
        refine g_istore_3 h dX12_ofAll_57 (by decide) rfl ?_
        refine g_iinc_4 h dX12_ofAll_58 (inc1 _) (by decide) rfl ?_
        refine g_goto h 5 dX12_ofAll_61 rfl ?_
        first
          | exact ih (i + 1) _ _ (by omega) (q_i (by simp only [sumF, ofV]; rw [if_pos (eqN (by first | exact c29 | exact Classical.not_not.mp c29) (by omega) (by decide))]) hQ)
          | exact ih (i + 1) _ _ (by omega) (q_i (by simp only [sumF, ofV]; rw [if_neg (fun q => c29 (by rw [q])), if_pos (eqN (by first | exact c40 | exact Classical.not_not.mp c40) (by omega) (by decide))]) hQ)
          | exact ih (i + 1) _ _ (by omega) (q_i (by simp only [sumF, ofV]; rw [if_neg (fun q => c29 (by rw [q])), if_neg (fun q => c40 (by rw [q]))]) hQ)
set_option maxRecDepth 100000 in
set_option maxHeartbeats 4000000 in
theorem sp_X12_ofAll {d r w N : Nat} {I : MI} {J : MJ} {P : MP} (hr : r = 91 ∨ r = 92) (hB : P 80 8 = some 93) (hN : I 93 1 = nI N) (hN16 : N ≤ 16) (hw : w < 100)  {Q : Int32 → MI → MJ → MP → Prop} (hQ : Q (sumF (fun i => ofV w (I r (3 + i))) N 0 (nI 0)) I J P) : Sp yX12_ofAll cX12_ofAll 6 (some .int) (d + 2) [.ref 80, .ref r, .int (nI w)] I J P (Qi Q) := by
  intro Γ h
  show VG Γ 0 0 0 [some (.ref 80), some (.ref r), some (.int (nI w)), none, none, none] [] _ _ _ _
  refine g_iconst h dX12_ofAll_0 (v := nI 0) rfl ?_
  refine g_istore_3 h dX12_ofAll_1 (by decide) rfl ?_
  refine g_iconst h dX12_ofAll_2 (v := nI 0) rfl ?_
  refine g_istore_4 h dX12_ofAll_3 (by decide) rfl ?_
  exact lp_X12_ofAll hr hB hN hN16 hw h N 0 _ _ (by omega) hQ
set_option maxRecDepth 100000 in
set_option maxHeartbeats 4000000 in
theorem lp_X12_below {Γ : Cx} {d N : Nat} {I : MI} {J : MJ} {P : MP} (hB : P 80 8 = some 93) (hN : I 93 1 = nI N) (hN16 : N ≤ 16) {x : Int32} {Q : Int32 → MI → MJ → MP → Prop} (h : Vc RX12 cX12_below 4 (some .int) (d) Γ) : ∀ (f i : Nat) (a : Int32), i + f = N → Q (sumF (fun i => if I 96 i = x then nI 1 else nI 0) f i a) I J P → VG Γ 0 0 4 [some (.ref 80), some (.int x), some (.int a), some (.int (nI i))] [] I J P (Fnl Γ (Qi Q)) := by
  intro f
  induction f with
  | zero =>
    intro i a hi hQ
    refine g_iload_3 h dX12_below_4 ?_
    refine g_aload_0 h dX12_below_5 ?_
    refine g_getP h fl_X12_87 dX12_below_6 rfl rfl (by assumption) ?_
    refine g_getI h fl_X12_161 dX12_below_9 rfl rfl ?_
    refine g_icmp_ge h 42 dX12_below_12 rfl (fun c12 => ?_) (fun c12 => ?_)
    · refine g_iload_2 h dX12_below_42 ?_
      refine g_iret h dX12_below_43 ?_
      exact hQ
    · exact absurd (by rw [hN]; exact nI_le (by omega) (by omega)) c12
  | succ f ih =>
    intro i a hi hQ
    refine g_iload_3 h dX12_below_4 ?_
    refine g_aload_0 h dX12_below_5 ?_
    refine g_getP h fl_X12_87 dX12_below_6 rfl rfl (by assumption) ?_
    refine g_getI h fl_X12_161 dX12_below_9 rfl rfl ?_
    refine g_icmp_ge h 42 dX12_below_12 rfl (fun c12 => ?_) (fun c12 => ?_)
    · exact absurd (leN (by simpa only [hN] using c12) (by omega) (by omega)) (by omega)
    · refine g_iload_2 h dX12_below_15 ?_
      refine g_aload_0 h dX12_below_16 ?_
      refine g_getP h fl_X12_87 dX12_below_17 rfl rfl (by assumption) ?_
      refine g_getC h fl_X12_248 dX12_below_20 rfl rfl ?_
      refine g_iload_3 h dX12_below_23 ?_
      refine g_iald h i dX12_below_24 rfl rfl (by omega) ?_
      refine g_iload_1 h dX12_below_25 ?_
      refine g_icmp_ne h 33 dX12_below_26 rfl (fun c26 => ?_) (fun c26 => ?_)
      · refine g_iconst h dX12_below_33 (v := nI 0) rfl ?_
        refine g_iadd h dX12_below_34 ?_
        refine g_istore_2 h dX12_below_35 (by decide) rfl ?_
        refine g_iinc_3 h dX12_below_36 (inc1 _) (by decide) rfl ?_
        refine g_goto h 4 dX12_below_39 rfl ?_
        exact ih (i + 1) _ (by omega) (q_i (by simp [sumF, c26]) hQ)
      · refine g_iconst h dX12_below_29 (v := nI 1) rfl ?_
        refine g_goto h 34 dX12_below_30 rfl ?_
        refine g_iadd h dX12_below_34 ?_
        refine g_istore_2 h dX12_below_35 (by decide) rfl ?_
        refine g_iinc_3 h dX12_below_36 (inc1 _) (by decide) rfl ?_
        refine g_goto h 4 dX12_below_39 rfl ?_
        exact ih (i + 1) _ (by omega) (q_i (by simp [sumF, c26]) hQ)
set_option maxRecDepth 100000 in
set_option maxHeartbeats 4000000 in
theorem sp_X12_below {d N : Nat} {I : MI} {J : MJ} {P : MP} (hB : P 80 8 = some 93) (hN : I 93 1 = nI N) (hN16 : N ≤ 16) {x : Int32} {Q : Int32 → MI → MJ → MP → Prop} (hQ : Q (sumF (fun i => if I 96 i = x then nI 1 else nI 0) N 0 (nI 0)) I J P) : Sp yX12_below cX12_below 4 (some .int) (d) [.ref 80, .int x] I J P (Qi Q) := by
  intro Γ h
  show VG Γ 0 0 0 [some (.ref 80), some (.int x), none, none] [] _ _ _ _
  refine g_iconst h dX12_below_0 (v := nI 0) rfl ?_
  refine g_istore_2 h dX12_below_1 (by decide) rfl ?_
  refine g_iconst h dX12_below_2 (v := nI 0) rfl ?_
  refine g_istore_3 h dX12_below_3 (by decide) rfl ?_
  exact lp_X12_below hB hN hN16 h N 0 _ (by omega) hQ
set_option maxRecDepth 100000 in
set_option maxHeartbeats 4000000 in
theorem sp_X12_rankOf {d k j : Nat} {I : MI} {J : MJ} {P : MP} (hB : P 80 8 = some 93) (hk : k < 16) (hj : I 95 k = nI j) (hj6 : j < 6) {Q : Int32 → MI → MJ → MP → Prop} (hQ : Q (I 94 j) I J P) : Sp yX12_rankOf cX12_rankOf 2 (some .int) (d) [.ref 80, .int (nI k)] I J P (Qi Q) := by
  intro Γ h
  show VG Γ 0 0 0 [some (.ref 80), some (.int (nI k))] [] _ _ _ _
  refine g_aload_0 h dX12_rankOf_0 ?_
  refine g_getP h fl_X12_87 dX12_rankOf_1 rfl rfl (by assumption) ?_
  refine g_getC h fl_X12_236 dX12_rankOf_4 rfl rfl ?_
  refine g_aload_0 h dX12_rankOf_7 ?_
  refine g_getP h fl_X12_87 dX12_rankOf_8 rfl rfl (by assumption) ?_
  refine g_getC h fl_X12_245 dX12_rankOf_11 rfl rfl ?_
  refine g_iload_1 h dX12_rankOf_14 ?_
  refine g_iald h k dX12_rankOf_15 rfl rfl (by omega) ?_
  refine g_iald h j dX12_rankOf_16 rfl hj (by omega) ?_
  refine g_iret h dX12_rankOf_17 ?_
  exact hQ
set_option maxRecDepth 100000 in
set_option maxHeartbeats 4000000 in
theorem sp_X12_put {d k : Nat} {x : Int32} {I : MI} {J : MJ} {P : MP} (hk : k < 35) {Q : Int32 → MI → MJ → MP → Prop} (hQ : Q (I 91 k) (up2 I 91 k x) J P) : Sp yX12_put cX12_put 4 (some .int) (d) [.ref 80, .int (nI k), .int x] I J P (Qi Q) := by
  intro Γ h
  show VG Γ 0 0 0 [some (.ref 80), some (.int (nI k)), some (.int x), none] [] _ _ _ _
  refine g_aload_0 h dX12_put_0 ?_
  refine g_getC h fl_X12_109 dX12_put_1 rfl rfl ?_
  refine g_iload_1 h dX12_put_4 ?_
  refine g_iald h k dX12_put_5 rfl rfl hk ?_
  refine g_istore_3 h dX12_put_6 (by decide) rfl ?_
  refine g_aload_0 h dX12_put_7 ?_
  refine g_getC h fl_X12_109 dX12_put_8 rfl rfl ?_
  refine g_iload_1 h dX12_put_11 ?_
  refine g_iload_2 h dX12_put_12 ?_
  refine g_iast h k dX12_put_13 rfl rfl hk ?_
  refine g_iload_3 h dX12_put_14 ?_
  refine g_iret h dX12_put_15 ?_
  exact hQ
def topR (B : MI) (row : Nat → Int32) (a : Nat) : Nat → Int32
  | 0 => B 5 (9 * a)
  | 1 => row (19 + a)
  | 2 => dueB B row a
  | _ => b2i (wrgB (row (19 + a)) (dueB B row a))
def keeR (B : MI) (row : Nat → Int32) (k : Nat) : Nat → Int32
  | 0 => B 6 k
  | 1 => row (25 + k)
  | 2 => row (30 + k)
  | _ => b2i (tooB (row (25 + k)) (B 6 k))
set_option maxRecDepth 100000 in
set_option maxHeartbeats 4000000 in
theorem sp_X12_topTold {d a w : Nat} {I : MI} {J : MJ} {P : MP} (hB : P 80 8 = some 93) (hK : bkOK (bv I)) (ha : a < nT (bv I)) (hw : w < 4) {Q : Int32 → MI → MJ → MP → Prop} (hQ : Q (topR (bv I) (I 91) a w) I J P) : Sp yX12_topTold cX12_topTold 3 (some .int) (d + 7) [.ref 80, .int (nI a), .int (nI w)] I J P (Qi Q) := by
  intro Γ h
  show VG Γ 0 0 0 [some (.ref 80), some (.int (nI a)), some (.int (nI w))] [] _ _ _ _
  have hT6 := (bk_T hK).2
  rcases (show w = 0 ∨ w = 1 ∨ w = 2 ∨ w = 3 by omega) with rfl | rfl | rfl | rfl
  · refine g_iload_2 h dX12_topTold_0 ?_
    · refine g_tsIn h 28 dX12_topTold_1 (by decide) (by decide) rfl rfl ?_
      refine g_aload_0 h dX12_topTold_28 ?_
      refine g_getP h fl_X12_87 dX12_topTold_29 rfl rfl (by assumption) ?_
      refine g_getC h fl_X12_260 dX12_topTold_32 rfl rfl ?_
      refine g_bipush h dX12_topTold_35 (v := nI 9) rfl ?_
      refine g_iload_1 h dX12_topTold_37 ?_
      refine g_imul h dX12_topTold_38 ?_
      refine g_iald h (9 * a) dX12_topTold_39 rfl (pk_mul 9 a) (by omega) ?_
      refine g_iret h dX12_topTold_40 ?_
      exact hQ
  · refine g_iload_2 h dX12_topTold_0 ?_
    · refine g_tsIn h 41 dX12_topTold_1 (by decide) (by decide) rfl rfl ?_
      refine g_aload_0 h dX12_topTold_41 ?_
      refine g_getC h fl_X12_109 dX12_topTold_42 rfl rfl ?_
      refine g_bipush h dX12_topTold_45 (v := nI 19) rfl ?_
      refine g_iload_1 h dX12_topTold_47 ?_
      refine g_iadd h dX12_topTold_48 ?_
      refine g_iald h (19 + a) dX12_topTold_49 rfl (nI_add 19 a) (by omega) ?_
      refine g_iret h dX12_topTold_50 ?_
      exact hQ
  · refine g_iload_2 h dX12_topTold_0 ?_
    · refine g_tsIn h 51 dX12_topTold_1 (by decide) (by decide) rfl rfl ?_
      refine g_aload_0 h dX12_topTold_51 ?_
      refine g_aload_0 h dX12_topTold_52 ?_
      refine g_getC h fl_X12_109 dX12_topTold_53 rfl rfl ?_
      refine g_iload_1 h dX12_topTold_56 ?_
      refine g_cVi2 h rok0 mi_X12_due dX12_topTold_57 ml_X12_290 rfl rfl rfl (Nat.le_of_ble_eq_true rfl) (Nat.le_of_ble_eq_true rfl) (sp_X12_due (Or.inl rfl) hB (bk_N hK).1 (bk_N hK).2 (bk_t hK) (by omega) (bk_Z hK a ha).1 (bk_Z hK a ha).2.1 (bk_Z hK a ha).2.2 ?_)
      refine g_iret h dX12_topTold_60 ?_
      exact hQ
  · refine g_iload_2 h dX12_topTold_0 ?_
    · refine g_tsOut h 61 dX12_topTold_1 (by decide) rfl ?_
      refine g_aload_0 h dX12_topTold_61 ?_
      refine g_aload_0 h dX12_topTold_62 ?_
      refine g_getC h fl_X12_109 dX12_topTold_63 rfl rfl ?_
      refine g_iload_1 h dX12_topTold_66 ?_
      refine g_cVi2 h rok0 mi_X12_isWrong dX12_topTold_67 ml_X12_319 rfl rfl rfl (Nat.le_of_ble_eq_true rfl) (Nat.le_of_ble_eq_true rfl) (sp_X12_isWrong (Or.inl rfl) hB (bk_N hK).1 (bk_N hK).2 (bk_t hK) (by omega) (bk_Z hK a ha).1 (bk_Z hK a ha).2.1 (bk_Z hK a ha).2.2 ?_)
      refine g_if_eq h 77 dX12_topTold_70 rfl (fun c70 => ?_) (fun c70 => ?_)
      · refine g_iconst h dX12_topTold_77 (v := nI 0) rfl ?_
        refine g_iret h dX12_topTold_78 ?_
        first
          | exact q_i (b2i_1 c70).symm hQ
          | exact q_i (b2i_00 c70).symm hQ
      · refine g_iconst h dX12_topTold_73 (v := nI 1) rfl ?_
        refine g_goto h 78 dX12_topTold_74 rfl ?_
        refine g_iret h dX12_topTold_78 ?_
        first
          | exact q_i (b2i_1 c70).symm hQ
          | exact q_i (b2i_00 c70).symm hQ
set_option maxRecDepth 100000 in
set_option maxHeartbeats 4000000 in
theorem sp_X12_keeperTold {d k w : Nat} {I : MI} {J : MJ} {P : MP} (hB : P 80 8 = some 93) (hk : k < 5) (hw : w < 4) {Q : Int32 → MI → MJ → MP → Prop} (hQ : Q (keeR (bv I) (I 91) k w) I J P) : Sp yX12_keeperTold cX12_keeperTold 3 (some .int) (d + 1) [.ref 80, .int (nI k), .int (nI w)] I J P (Qi Q) := by
  intro Γ h
  show VG Γ 0 0 0 [some (.ref 80), some (.int (nI k)), some (.int (nI w))] [] _ _ _ _
  rcases (show w = 0 ∨ w = 1 ∨ w = 2 ∨ w = 3 by omega) with rfl | rfl | rfl | rfl
  · refine g_iload_2 h dX12_keeperTold_0 ?_
    · refine g_tsIn h 28 dX12_keeperTold_1 (by decide) (by decide) rfl rfl ?_
      refine g_aload_0 h dX12_keeperTold_28 ?_
      refine g_getP h fl_X12_87 dX12_keeperTold_29 rfl rfl (by assumption) ?_
      refine g_getC h fl_X12_263 dX12_keeperTold_32 rfl rfl ?_
      refine g_iload_1 h dX12_keeperTold_35 ?_
      refine g_iald h k dX12_keeperTold_36 rfl rfl (by omega) ?_
      refine g_iret h dX12_keeperTold_37 ?_
      exact hQ
  · refine g_iload_2 h dX12_keeperTold_0 ?_
    · refine g_tsIn h 38 dX12_keeperTold_1 (by decide) (by decide) rfl rfl ?_
      refine g_aload_0 h dX12_keeperTold_38 ?_
      refine g_getC h fl_X12_109 dX12_keeperTold_39 rfl rfl ?_
      refine g_bipush h dX12_keeperTold_42 (v := nI 25) rfl ?_
      refine g_iload_1 h dX12_keeperTold_44 ?_
      refine g_iadd h dX12_keeperTold_45 ?_
      refine g_iald h (25 + k) dX12_keeperTold_46 rfl (nI_add 25 k) (by omega) ?_
      refine g_iret h dX12_keeperTold_47 ?_
      exact hQ
  · refine g_iload_2 h dX12_keeperTold_0 ?_
    · refine g_tsIn h 48 dX12_keeperTold_1 (by decide) (by decide) rfl rfl ?_
      refine g_aload_0 h dX12_keeperTold_48 ?_
      refine g_getC h fl_X12_109 dX12_keeperTold_49 rfl rfl ?_
      refine g_bipush h dX12_keeperTold_52 (v := nI 30) rfl ?_
      refine g_iload_1 h dX12_keeperTold_54 ?_
      refine g_iadd h dX12_keeperTold_55 ?_
      refine g_iald h (30 + k) dX12_keeperTold_56 rfl (nI_add 30 k) (by omega) ?_
      refine g_iret h dX12_keeperTold_57 ?_
      exact hQ
  · refine g_iload_2 h dX12_keeperTold_0 ?_
    · refine g_tsOut h 58 dX12_keeperTold_1 (by decide) rfl ?_
      refine g_aload_0 h dX12_keeperTold_58 ?_
      refine g_aload_0 h dX12_keeperTold_59 ?_
      refine g_getC h fl_X12_109 dX12_keeperTold_60 rfl rfl ?_
      refine g_iload_1 h dX12_keeperTold_63 ?_
      refine g_cVi2 h rok0 mi_X12_isWeary dX12_keeperTold_64 ml_X12_327 rfl rfl rfl (Nat.le_of_ble_eq_true rfl) (Nat.le_of_ble_eq_true rfl) (sp_X12_isWeary (Or.inl rfl) hB (by omega) ?_)
      refine g_if_eq h 74 dX12_keeperTold_67 rfl (fun c67 => ?_) (fun c67 => ?_)
      · refine g_iconst h dX12_keeperTold_74 (v := nI 0) rfl ?_
        refine g_iret h dX12_keeperTold_75 ?_
        first
          | exact q_i (b2i_1 c67).symm hQ
          | exact q_i (b2i_00 c67).symm hQ
      · refine g_iconst h dX12_keeperTold_70 (v := nI 1) rfl ?_
        refine g_goto h 75 dX12_keeperTold_71 rfl ?_
        refine g_iret h dX12_keeperTold_75 ?_
        first
          | exact q_i (b2i_1 c67).symm hQ
          | exact q_i (b2i_00 c67).symm hQ
set_option maxRecDepth 100000 in
set_option maxHeartbeats 4000000 in
theorem lp_deepB {Γ : Cx} {d N D : Nat} {I : MI} {J : MJ} {P : MP} (hN : N ≤ 16) {Q : Int32 → MI → MJ → MP → Prop} (hQ : Q (nI D) I J P) (h : Vc RX11 cX11_deep 4 (some .int) (d) Γ) {w1 : Int32} : ∀ (f a : Nat) (c : Int32), chn (I 96) N f c → a + dep (I 96) N f c = D → VG Γ 0 0 4 [some (.ref 93), some (.int w1), some (.int (nI a)), some (.int c)] [] I J P (Fnl Γ (Qi Q)) := by
  have fin : ∀ a, a = D → VG Γ 0 0 4 [some (.ref 93), some (.int w1), some (.int (nI a)), some (.int (-1))] [] I J P (Fnl Γ (Qi Q)) := by
    rintro a rfl
    refine g_iload_3 h dX11_deep_4 ?_
    refine g_iconst h dX11_deep_5 (v := (-1)) rfl ?_
    refine g_icmp_eq h 22 dX11_deep_6 rfl (fun _ => ?_) (fun c => absurd rfl c)
    refine g_iload_2 h dX11_deep_22 ?_
    refine g_iret h dX11_deep_23 ?_
    exact hQ
  intro f
  induction f with
  | zero =>
    intro a c hc ha
    obtain rfl : c = -1 := hc
    exact fin a ha
  | succ f ih =>
    intro a c hc ha
    rcases hc with rfl | ⟨j, j1, rfl, j3⟩
    · rw [dep, has_m1, if_neg (by decide)] at ha
      exact fin a ha
    · rw [dep, if_pos (has_j j1 (by decide) hN), ix_n (by omega)] at ha
      refine g_iload_3 h dX11_deep_4 ?_
      refine g_iconst h dX11_deep_5 (v := (-1)) rfl ?_
      refine g_icmp_eq h 22 dX11_deep_6 rfl (fun c => absurd c (m1_nI (by omega))) (fun _ => ?_)
      refine g_iinc_2 h dX11_deep_9 (inc1 _) (by decide) rfl ?_
      refine g_aload_0 h dX11_deep_12 ?_
      refine g_getC h fl_X11_18 dX11_deep_13 rfl rfl ?_
      refine g_iload_3 h dX11_deep_16 ?_
      refine g_iald h j dX11_deep_17 rfl rfl (by omega) ?_
      refine g_istore_3 h dX11_deep_18 (by decide) rfl ?_
      refine g_goto h 4 dX11_deep_19 rfl ?_
      exact ih (a + 1) _ j3 (by omega)
set_option maxRecDepth 100000 in
set_option maxHeartbeats 4000000 in
theorem sp_deepB {d N : Nat} {I : MI} {J : MJ} {P : MP} (hN : N ≤ 16) {c : Int32} (hc : chn (I 96) N 4 c) {Q : Int32 → MI → MJ → MP → Prop} (hQ : Q (nI (dep (I 96) N 4 c)) I J P) : Sp yX11_deep cX11_deep 4 (some .int) d [.ref 93, .int c] I J P (Qi Q) := by
  intro Γ h
  show VG Γ 0 0 0 [some (.ref 93), some (.int c), none, none] [] _ _ _ _
  refine g_iconst h dX11_deep_0 (v := nI 0) rfl ?_
  refine g_istore_2 h dX11_deep_1 (by decide) rfl ?_
  refine g_iload_1 h dX11_deep_2 ?_
  refine g_istore_3 h dX11_deep_3 (by decide) rfl ?_
  exact lp_deepB hN hQ h 4 0 c hc (by omega)
