/-! The reference: readings and their public methods -/
def cntR (B : MI) (row : Nat → Int32) (L : Int32) : Nat → Int32
  | 0 => row 0
  | 1 => B 0 0
  | 2 => B 0 1
  | 3 => B 0 2
  | 4 => B 0 3
  | 5 => B 0 4
  | 6 => sumF (fun i => ofV 6 (row (3 + i))) (nN B) 0 (nI 0)
  | 7 => sumF (fun i => ofV 7 (row (3 + i))) (nN B) 0 (nI 0)
  | 8 => sumF (fun i => ofV 8 (row (3 + i))) (nN B) 0 (nI 0)
  | 9 => sumF (fun a => b2i (wrgB (row (19 + a)) (dueB B row a))) (nT B) 0 (nI 0)
  | 10 => row 1
  | 11 => row 2
  | _ => L
set_option maxRecDepth 100000 in
set_option maxHeartbeats 4000000 in
theorem sp_X12_counted {d r w : Nat} {I : MI} {J : MJ} {P : MP} (hr : r = 91 ∨ r = 92) (hB : P 80 8 = some 93) (hK : bkOK (bv I)) (hw : w < 13) {Q : Int32 → MI → MJ → MP → Prop} (hQ : Q (cntR (bv I) (I r) (I 80 2) w) I J P) : Sp yX12_counted cX12_counted 3 (some .int) (d + 8) [.ref 80, .ref r, .int (nI w)] I J P (Qi Q) := by
  intro Γ h
  show VG Γ 0 0 0 [some (.ref 80), some (.ref r), some (.int (nI w))] [] _ _ _ _
  rcases (show w = 0 ∨ w = 1 ∨ w = 2 ∨ w = 3 ∨ w = 4 ∨ w = 5 ∨ w = 6 ∨ w = 7 ∨ w = 8 ∨ w = 9 ∨ w = 10 ∨ w = 11 ∨ w = 12 by omega) with rfl | rfl | rfl | rfl | rfl | rfl | rfl | rfl | rfl | rfl | rfl | rfl | rfl
  · refine g_iload_2 h dX12_counted_0 ?_
    · refine g_tsIn h 64 dX12_counted_1 (by decide) (by decide) rfl rfl ?_
      refine g_aload_1 h dX12_counted_64 ?_
      refine g_iconst h dX12_counted_65 (v := nI 0) rfl ?_
      refine g_iald h 0 dX12_counted_66 (shpR hr) rfl (by decide) ?_
      refine g_iret h dX12_counted_67 ?_
      exact hQ
  · refine g_iload_2 h dX12_counted_0 ?_
    · refine g_tsIn h 68 dX12_counted_1 (by decide) (by decide) rfl rfl ?_
      refine g_aload_0 h dX12_counted_68 ?_
      refine g_getP h fl_X12_87 dX12_counted_69 rfl rfl (by assumption) ?_
      refine g_getI h fl_X12_154 dX12_counted_72 rfl rfl ?_
      refine g_iret h dX12_counted_75 ?_
      exact hQ
  · refine g_iload_2 h dX12_counted_0 ?_
    · refine g_tsIn h 76 dX12_counted_1 (by decide) (by decide) rfl rfl ?_
      refine g_aload_0 h dX12_counted_76 ?_
      refine g_getP h fl_X12_87 dX12_counted_77 rfl rfl (by assumption) ?_
      refine g_getI h fl_X12_161 dX12_counted_80 rfl rfl ?_
      refine g_iret h dX12_counted_83 ?_
      exact hQ
  · refine g_iload_2 h dX12_counted_0 ?_
    · refine g_tsIn h 84 dX12_counted_1 (by decide) (by decide) rfl rfl ?_
      refine g_aload_0 h dX12_counted_84 ?_
      refine g_getP h fl_X12_87 dX12_counted_85 rfl rfl (by assumption) ?_
      refine g_getI h fl_X12_164 dX12_counted_88 rfl rfl ?_
      refine g_iret h dX12_counted_91 ?_
      exact hQ
  · refine g_iload_2 h dX12_counted_0 ?_
    · refine g_tsIn h 92 dX12_counted_1 (by decide) (by decide) rfl rfl ?_
      refine g_aload_0 h dX12_counted_92 ?_
      refine g_getP h fl_X12_87 dX12_counted_93 rfl rfl (by assumption) ?_
      refine g_getI h fl_X12_167 dX12_counted_96 rfl rfl ?_
      refine g_iret h dX12_counted_99 ?_
      exact hQ
  · refine g_iload_2 h dX12_counted_0 ?_
    · refine g_tsIn h 100 dX12_counted_1 (by decide) (by decide) rfl rfl ?_
      refine g_aload_0 h dX12_counted_100 ?_
      refine g_getP h fl_X12_87 dX12_counted_101 rfl rfl (by assumption) ?_
      refine g_getI h fl_X12_266 dX12_counted_104 rfl rfl ?_
      refine g_iret h dX12_counted_107 ?_
      exact hQ
  · refine g_iload_2 h dX12_counted_0 ?_
    · refine g_tsIn h 108 dX12_counted_1 (by decide) (by decide) rfl rfl ?_
      refine g_aload_0 h dX12_counted_108 ?_
      refine g_aload_1 h dX12_counted_109 ?_
      refine g_iload_2 h dX12_counted_110 ?_
      refine g_cVi2 h rok0 mi_X12_ofAll dX12_counted_111 ml_X12_350 rfl rfl rfl (Nat.le_of_ble_eq_true rfl) (Nat.le_of_ble_eq_true rfl) (sp_X12_ofAll hr hB (bk_N hK).1 (bk_N hK).2 (by decide) ?_)
      refine g_iret h dX12_counted_114 ?_
      exact hQ
  · refine g_iload_2 h dX12_counted_0 ?_
    · refine g_tsIn h 108 dX12_counted_1 (by decide) (by decide) rfl rfl ?_
      refine g_aload_0 h dX12_counted_108 ?_
      refine g_aload_1 h dX12_counted_109 ?_
      refine g_iload_2 h dX12_counted_110 ?_
      refine g_cVi2 h rok0 mi_X12_ofAll dX12_counted_111 ml_X12_350 rfl rfl rfl (Nat.le_of_ble_eq_true rfl) (Nat.le_of_ble_eq_true rfl) (sp_X12_ofAll hr hB (bk_N hK).1 (bk_N hK).2 (by decide) ?_)
      refine g_iret h dX12_counted_114 ?_
      exact hQ
  · refine g_iload_2 h dX12_counted_0 ?_
    · refine g_tsIn h 108 dX12_counted_1 (by decide) (by decide) rfl rfl ?_
      refine g_aload_0 h dX12_counted_108 ?_
      refine g_aload_1 h dX12_counted_109 ?_
      refine g_iload_2 h dX12_counted_110 ?_
      refine g_cVi2 h rok0 mi_X12_ofAll dX12_counted_111 ml_X12_350 rfl rfl rfl (Nat.le_of_ble_eq_true rfl) (Nat.le_of_ble_eq_true rfl) (sp_X12_ofAll hr hB (bk_N hK).1 (bk_N hK).2 (by decide) ?_)
      refine g_iret h dX12_counted_114 ?_
      exact hQ
  · refine g_iload_2 h dX12_counted_0 ?_
    · refine g_tsIn h 115 dX12_counted_1 (by decide) (by decide) rfl rfl ?_
      refine g_aload_0 h dX12_counted_115 ?_
      refine g_aload_1 h dX12_counted_116 ?_
      refine g_cVi1 h rok0 mi_X12_wrongs dX12_counted_117 ml_X12_353 rfl rfl rfl (Nat.le_of_ble_eq_true rfl) (Nat.le_of_ble_eq_true rfl) (sp_X12_wrongs hr hB hK rfl (bk_T hK).1 (bk_T hK).2 ?_)
      refine g_iret h dX12_counted_120 ?_
      exact hQ
  · refine g_iload_2 h dX12_counted_0 ?_
    · refine g_tsIn h 121 dX12_counted_1 (by decide) (by decide) rfl rfl ?_
      refine g_aload_1 h dX12_counted_121 ?_
      refine g_iconst h dX12_counted_122 (v := nI 1) rfl ?_
      refine g_iald h 1 dX12_counted_123 (shpR hr) rfl (by decide) ?_
      refine g_iret h dX12_counted_124 ?_
      exact hQ
  · refine g_iload_2 h dX12_counted_0 ?_
    · refine g_tsIn h 125 dX12_counted_1 (by decide) (by decide) rfl rfl ?_
      refine g_aload_1 h dX12_counted_125 ?_
      refine g_iconst h dX12_counted_126 (v := nI 2) rfl ?_
      refine g_iald h 2 dX12_counted_127 (shpR hr) rfl (by decide) ?_
      refine g_iret h dX12_counted_128 ?_
      exact hQ
  · refine g_iload_2 h dX12_counted_0 ?_
    · refine g_tsOut h 129 dX12_counted_1 (by decide) rfl ?_
      refine g_aload_0 h dX12_counted_129 ?_
      refine g_getI h fl_X12_7 dX12_counted_130 rfl rfl ?_
      refine g_iret h dX12_counted_133 ?_
      exact hQ
set_option maxRecDepth 100000 in
set_option maxHeartbeats 4000000 in
theorem sp_X12_count {d : Nat} {x : Int32} {I : MI} {J : MJ} {P : MP} (hB : P 80 8 = some 93) (hK : bkOK (bv I)) {Q : Int32 → MI → MJ → MP → Prop} (hQ1 : ∀ w, w < 13 → x = nI w → Q (cntR (bv I) (I 91) (I 80 2) w) (up2 I 80 0 (nI 0)) J P) (hQ0 : (¬ ∃ w, w < 13 ∧ x = nI w) → Q (nI 0) (up2 (up2 I 80 0 (nI 0)) 80 0 (nI 1)) J P) : Sp yX12_count cX12_count 2 (some .int) (d + 9) [.ref 80, .int x] I J P (Qi Q) := by
  intro Γ h
  show VG Γ 0 0 0 [some (.ref 80), some (.int x)] [] _ _ _ _
  have hB1 : P 80 8 = some 93 := hB
  have hK1 : bkOK (bv (up2 I 80 0 (nI 0))) := by rw [bv80]; exact hK
  have e91 : up2 I 80 0 (nI 0) 91 = I 91 := up2_o (by decide)
  have e93 : up2 I 80 0 (nI 0) 93 = I 93 := up2_o (by decide)
  have e80 : up2 I 80 0 (nI 0) 80 2 = I 80 2 := up2_n (by decide)
  have hin := inB_n (x := x) (m := 12) (by decide)
  by_cases hc : ∃ w, w < 13 ∧ x = nI w
  · obtain ⟨w, w1, w2⟩ := hc
    have e1 : inB x (nI 0) (nI 12) = true := hin.mpr ⟨w, by omega, w2⟩
    refine g_aload_0 h dX12_count_0 ?_
    refine g_iconst h dX12_count_1 (v := nI 0) rfl ?_
    refine g_putI h fp_X12_1 dX12_count_2 rfl rfl ?_
    refine g_iload_1 h dX12_count_5 ?_
    refine g_iconst h dX12_count_6 (v := nI 0) rfl ?_
    refine g_bipush h dX12_count_7 (v := nI 12) rfl ?_
    refine g_cSi3 h rok0 mi_X12_isIn dX12_count_9 ml_X12_22 (Nat.le_of_ble_eq_true rfl) (Nat.le_of_ble_eq_true rfl) (sp_X12_isIn ?_)
    rw [show inB x (nI 0) (nI 12) = true from e1]
    refine g_if_eq h 27 dX12_count_12 rfl (fun c => absurd c (by decide)) (fun _ => ?_)
    subst w2
    refine g_aload_0 h dX12_count_15 ?_
    refine g_aload_0 h dX12_count_16 ?_
    refine g_getC h fl_X12_109 dX12_count_17 rfl rfl ?_
    refine g_iload_1 h dX12_count_20 ?_
    refine g_cVi2 h rok0 mi_X12_counted dX12_count_21 ml_X12_357 rfl rfl rfl (Nat.le_of_ble_eq_true rfl) (Nat.le_of_ble_eq_true rfl) (sp_X12_counted (Or.inl rfl) hB1 hK1 w1 ?_)
    refine g_goto h 32 dX12_count_24 rfl ?_
    refine g_iret h dX12_count_32 ?_
    rw [bv80, e91, e80]
    exact hQ1 w w1 rfl
  · have e1 : inB x (nI 0) (nI 12) = false := by
      cases q : inB x (nI 0) (nI 12) with
      | false => rfl
      | true => exact absurd (hin.mp q) (fun ⟨w, a, b⟩ => hc ⟨w, by omega, b⟩)
    refine g_aload_0 h dX12_count_0 ?_
    refine g_iconst h dX12_count_1 (v := nI 0) rfl ?_
    refine g_putI h fp_X12_1 dX12_count_2 rfl rfl ?_
    refine g_iload_1 h dX12_count_5 ?_
    refine g_iconst h dX12_count_6 (v := nI 0) rfl ?_
    refine g_bipush h dX12_count_7 (v := nI 12) rfl ?_
    refine g_cSi3 h rok0 mi_X12_isIn dX12_count_9 ml_X12_22 (Nat.le_of_ble_eq_true rfl) (Nat.le_of_ble_eq_true rfl) (sp_X12_isIn ?_)
    rw [show inB x (nI 0) (nI 12) = false from e1]
    refine g_if_eq h 27 dX12_count_12 rfl (fun _ => ?_) (fun c => absurd rfl c)
    refine g_aload_0 h dX12_count_27 ?_
    refine g_iconst h dX12_count_28 (v := nI 1) rfl ?_
    refine g_cVi1 h rok0 mi_X12_no dX12_count_29 ml_X12_10 rfl rfl rfl (Nat.le_of_ble_eq_true rfl) (Nat.le_of_ble_eq_true rfl) (sp_X12_no ?_)
    refine g_iret h dX12_count_32 ?_
    exact hQ0 hc
def colR (B : MI) (row : Nat → Int32) (a : Nat) : Nat → Int32
  | 0 => B 1 a
  | 1 => sumF (fun i => if B 2 i = nI a then nI 1 else nI 0) (nN B) 0 (nI 0)
  | _ => sumF (fun i => if B 2 i = nI a then row (3 + i) else nI 0) (nN B) 0 (nI 0)
set_option maxRecDepth 100000 in
set_option maxHeartbeats 4000000 in
theorem lp_X12_colourTold {Γ : Cx} {d N : Nat} {I : MI} {J : MJ} {P : MP} (hB : P 80 8 = some 93) (hN : I 93 1 = nI N) (hN16 : N ≤ 16) {x w : Int32} {Φ : State → Prop} (h : Vc RX12 cX12_colourTold 6 (some .int) (d) Γ) : ∀ (f i : Nat) (a b : Int32), i + f = N → (∀ a' b', a' = sumF (fun i => if I 95 i = x then nI 1 else nI 0) f i a → b' = sumF (fun i => if I 95 i = x then I 91 (3 + i) else nI 0) f i b → VG Γ 0 0 60 [some (.ref 80), some (.int x), some (.int w), some (.int a'), some (.int b'), some (.int (nI N))] [] I J P Φ) → VG Γ 0 0 8 [some (.ref 80), some (.int x), some (.int w), some (.int a), some (.int b), some (.int (nI i))] [] I J P Φ := by
  intro f
  induction f with
  | zero =>
    intro i a b hi K
    obtain rfl : i = N := by omega
    refine g_iload_5 h dX12_colourTold_8 ?_
    refine g_aload_0 h dX12_colourTold_10 ?_
    refine g_getP h fl_X12_87 dX12_colourTold_11 rfl rfl (by assumption) ?_
    refine g_getI h fl_X12_161 dX12_colourTold_14 rfl rfl ?_
    refine g_icmp_ge h 60 dX12_colourTold_17 rfl (fun c17 => ?_) (fun c17 => ?_)
    · exact K _ _ rfl rfl
    · exact absurd (by rw [hN]; exact nI_le (by omega) (by omega)) c17
  | succ f ih =>
    intro i a b hi K
    refine g_iload_5 h dX12_colourTold_8 ?_
    refine g_aload_0 h dX12_colourTold_10 ?_
    refine g_getP h fl_X12_87 dX12_colourTold_11 rfl rfl (by assumption) ?_
    refine g_getI h fl_X12_161 dX12_colourTold_14 rfl rfl ?_
    refine g_icmp_ge h 60 dX12_colourTold_17 rfl (fun c17 => ?_) (fun c17 => ?_)
    · exact absurd (leN (by simpa only [hN] using c17) (by omega) (by omega)) (by omega)
    · refine g_aload_0 h dX12_colourTold_20 ?_
      refine g_getP h fl_X12_87 dX12_colourTold_21 rfl rfl (by assumption) ?_
      refine g_getC h fl_X12_245 dX12_colourTold_24 rfl rfl ?_
      refine g_iload_5 h dX12_colourTold_27 ?_
      refine g_iald h i dX12_colourTold_29 rfl rfl (by omega) ?_
      refine g_iload_1 h dX12_colourTold_30 ?_
      refine g_icmp_eq h 37 dX12_colourTold_31 rfl (fun c31 => ?_) (fun c31 => ?_)
      · refine g_iinc_3 h dX12_colourTold_37 (v := a + nI 1) rfl (by decide) rfl ?_
        refine g_iload_4 h dX12_colourTold_40 ?_
        refine g_aload_0 h dX12_colourTold_42 ?_
        refine g_getC h fl_X12_109 dX12_colourTold_43 rfl rfl ?_
        refine g_iconst h dX12_colourTold_46 (v := nI 3) rfl ?_
        refine g_iload_5 h dX12_colourTold_47 ?_
        refine g_iadd h dX12_colourTold_49 ?_
        refine g_iald h (3 + i) dX12_colourTold_50 rfl (nI_add 3 i) (by omega) ?_
        refine g_iadd h dX12_colourTold_51 ?_
        refine g_istore_4 h dX12_colourTold_52 (by decide) rfl ?_
        refine g_iinc_5 h dX12_colourTold_54 (inc1 _) (by decide) rfl ?_
        refine g_goto h 8 dX12_colourTold_57 rfl ?_
        exact ih (i + 1) _ _ (by omega) (fun a' b' e1 e2 => K a' b' (e1.trans (by simp [sumF, c31, add0])) (e2.trans (by simp [sumF, c31, add0])))
      · refine g_goto h 54 dX12_colourTold_34 rfl ?_
        refine g_iinc_5 h dX12_colourTold_54 (inc1 _) (by decide) rfl ?_
        refine g_goto h 8 dX12_colourTold_57 rfl ?_
        exact ih (i + 1) _ _ (by omega) (fun a' b' e1 e2 => K a' b' (e1.trans (by simp [sumF, c31, add0])) (e2.trans (by simp [sumF, c31, add0])))
set_option maxRecDepth 100000 in
set_option maxHeartbeats 4000000 in
theorem sp_X12_colourTold {d a w : Nat} {I : MI} {J : MJ} {P : MP} (hB : P 80 8 = some 93) (hK : bkOK (bv I)) (ha : a < 6) (hw : w < 3) {Q : Int32 → MI → MJ → MP → Prop} (hQ : Q (colR (bv I) (I 91) a w) I J P) : Sp yX12_colourTold cX12_colourTold 6 (some .int) d [.ref 80, .int (nI a), .int (nI w)] I J P (Qi Q) := by
  intro Γ h
  show VG Γ 0 0 0 [some (.ref 80), some (.int (nI a)), some (.int (nI w)), none, none, none] [] _ _ _ _
  have hN := (bk_N hK).1
  have hN16 := (bk_N hK).2
  rcases (show w = 0 ∨ w = 1 ∨ w = 2 by omega) with rfl | rfl | rfl
  · refine g_iconst h dX12_colourTold_0 (v := nI 0) rfl ?_
    refine g_istore_3 h dX12_colourTold_1 (by decide) rfl ?_
    refine g_iconst h dX12_colourTold_2 (v := nI 0) rfl ?_
    refine g_istore_4 h dX12_colourTold_3 (by decide) rfl ?_
    refine g_iconst h dX12_colourTold_5 (v := nI 0) rfl ?_
    refine g_istore_5 h dX12_colourTold_6 (by decide) rfl ?_
    refine lp_X12_colourTold hB hN hN16 h (nN (bv I)) 0 _ _ (by omega) (fun a1 b1 e1 e2 => ?_)
    refine g_iload_2 h dX12_colourTold_60 ?_
    refine g_if_ne h 76 dX12_colourTold_61 rfl (fun c => absurd rfl c) (fun _ => ?_)
    refine g_aload_0 h dX12_colourTold_64 ?_
    refine g_getP h fl_X12_87 dX12_colourTold_65 rfl rfl (by assumption) ?_
    refine g_getC h fl_X12_236 dX12_colourTold_68 rfl rfl ?_
    refine g_iload_1 h dX12_colourTold_71 ?_
    refine g_iald h a dX12_colourTold_72 rfl rfl (by omega) ?_
    refine g_goto h 87 dX12_colourTold_73 rfl ?_
    refine g_iret h dX12_colourTold_87 ?_
    exact hQ
  · refine g_iconst h dX12_colourTold_0 (v := nI 0) rfl ?_
    refine g_istore_3 h dX12_colourTold_1 (by decide) rfl ?_
    refine g_iconst h dX12_colourTold_2 (v := nI 0) rfl ?_
    refine g_istore_4 h dX12_colourTold_3 (by decide) rfl ?_
    refine g_iconst h dX12_colourTold_5 (v := nI 0) rfl ?_
    refine g_istore_5 h dX12_colourTold_6 (by decide) rfl ?_
    refine lp_X12_colourTold hB hN hN16 h (nN (bv I)) 0 _ _ (by omega) (fun a1 b1 e1 e2 => ?_)
    refine g_iload_2 h dX12_colourTold_60 ?_
    refine g_if_ne h 76 dX12_colourTold_61 rfl (fun _ => ?_) (fun c => absurd c (by decide))
    refine g_iload_2 h dX12_colourTold_76 ?_
    refine g_iconst h dX12_colourTold_77 (v := nI 1) rfl ?_
    refine g_icmp_ne h 85 dX12_colourTold_78 rfl (fun c => absurd rfl c) (fun _ => ?_)
    refine g_iload_3 h dX12_colourTold_81 ?_
    refine g_goto h 87 dX12_colourTold_82 rfl ?_
    refine g_iret h dX12_colourTold_87 ?_
    exact q_i e1 hQ
  · refine g_iconst h dX12_colourTold_0 (v := nI 0) rfl ?_
    refine g_istore_3 h dX12_colourTold_1 (by decide) rfl ?_
    refine g_iconst h dX12_colourTold_2 (v := nI 0) rfl ?_
    refine g_istore_4 h dX12_colourTold_3 (by decide) rfl ?_
    refine g_iconst h dX12_colourTold_5 (v := nI 0) rfl ?_
    refine g_istore_5 h dX12_colourTold_6 (by decide) rfl ?_
    refine lp_X12_colourTold hB hN hN16 h (nN (bv I)) 0 _ _ (by omega) (fun a1 b1 e1 e2 => ?_)
    refine g_iload_2 h dX12_colourTold_60 ?_
    refine g_if_ne h 76 dX12_colourTold_61 rfl (fun _ => ?_) (fun c => absurd c (by decide))
    refine g_iload_2 h dX12_colourTold_76 ?_
    refine g_iconst h dX12_colourTold_77 (v := nI 1) rfl ?_
    refine g_icmp_ne h 85 dX12_colourTold_78 rfl (fun _ => ?_) (fun c => absurd c (by decide))
    refine g_iload_4 h dX12_colourTold_85 ?_
    refine g_iret h dX12_colourTold_87 ?_
    exact q_i e2 hQ
set_option maxRecDepth 100000 in
set_option maxHeartbeats 4000000 in
theorem sp_X12_colour {d : Nat} {x y : Int32} {I : MI} {J : MJ} {P : MP} (hB : P 80 8 = some 93) (hK : bkOK (bv I)) {Q : Int32 → MI → MJ → MP → Prop} (hQ1 : ∀ a w, a < nC (bv I) → w < 3 → x = nI a → y = nI w → Q (colR (bv I) (I 91) a w) (up2 I 80 0 (nI 0)) J P) (hQ0 : (¬ ((∃ a, a < nC (bv I) ∧ x = nI a) ∧ ∃ w, w < 3 ∧ y = nI w)) → Q (nI 0) (up2 (up2 I 80 0 (nI 0)) 80 0 (nI 1)) J P) : Sp yX12_colour cX12_colour 3 (some .int) (d + 2) [.ref 80, .int x, .int y] I J P (Qi Q) := by
  intro Γ h
  show VG Γ 0 0 0 [some (.ref 80), some (.int x), some (.int y)] [] _ _ _ _
  have hB1 : P 80 8 = some 93 := hB
  have hK1 : bkOK (bv (up2 I 80 0 (nI 0))) := by rw [bv80]; exact hK
  have e91 : up2 I 80 0 (nI 0) 91 = I 91 := up2_o (by decide)
  have e93 : up2 I 80 0 (nI 0) 93 = I 93 := up2_o (by decide)
  have e80 : up2 I 80 0 (nI 0) 80 2 = I 80 2 := up2_n (by decide)
  have hcn : I 93 0 = nI (nC (bv I)) ∧ nC (bv I) ≤ 6 := bk_C hK
  have hi1 := inB_c (x := x) (N := nC (bv I)) (by omega)
  have hi2 := inB_n (x := y) (m := 2) (by decide)
  have no : (¬ ((∃ a, a < nC (bv I) ∧ x = nI a) ∧ ∃ w, w < 3 ∧ y = nI w)) → VG Γ 0 0 31 [some (.ref 80), some (.int x), some (.int y)] [] (up2 I 80 0 (nI 0)) J P (Fnl Γ (Qi Q)) := by
    intro hc
    refine g_aload_0 h dX12_colour_31 ?_
    refine g_iconst h dX12_colour_32 (v := nI 1) rfl ?_
    refine g_cVi1 h rok0 mi_X12_no dX12_colour_33 ml_X12_10 rfl rfl rfl (Nat.le_of_ble_eq_true rfl) (Nat.le_of_ble_eq_true rfl) (sp_X12_no ?_)
    refine g_iret h dX12_colour_36 ?_
    exact hQ0 hc
  by_cases h1 : ∃ a, a < nC (bv I) ∧ x = nI a
  · have e1 : inB x (nI 0) (nI (nC (bv I)) - nI 1) = true := hi1.mpr h1
    by_cases h2 : ∃ w, w < 3 ∧ y = nI w
    · have e2 : inB y (nI 0) (nI 2) = true := hi2.mpr (h2.imp fun w q => ⟨by omega, q.2⟩)
      obtain ⟨a, a1, a2⟩ := h1
      obtain ⟨w, w1, w2⟩ := h2
      refine g_aload_0 h dX12_colour_0 ?_
      refine g_iconst h dX12_colour_1 (v := nI 0) rfl ?_
      refine g_putI h fp_X12_1 dX12_colour_2 rfl rfl ?_
      refine g_aload_0 h dX12_colour_5 ?_
      refine g_iload_1 h dX12_colour_6 ?_
      refine g_cVi1 h rok0 mi_X12_isColour dX12_colour_7 ml_X12_360 rfl rfl rfl (Nat.le_of_ble_eq_true rfl) (Nat.le_of_ble_eq_true rfl) (sp_X12_isColour hB1 ?_)
      rw [show up2 I 80 0 (nI 0) 93 0 = nI (nC (bv I)) by rw [e93]; exact hcn.1, e1]
      refine g_if_eq h 31 dX12_colour_10 rfl (fun c => absurd c (by decide)) (fun _ => ?_)
      refine g_iload_2 h dX12_colour_13 ?_
      refine g_iconst h dX12_colour_14 (v := nI 0) rfl ?_
      refine g_iconst h dX12_colour_15 (v := nI 2) rfl ?_
      refine g_cSi3 h rok0 mi_X12_isIn dX12_colour_16 ml_X12_22 (Nat.le_of_ble_eq_true rfl) (Nat.le_of_ble_eq_true rfl) (sp_X12_isIn ?_)
      rw [show b2i (inB y (nI 0) _) = b2i true from congrArg b2i e2]
      refine g_if_eq h 31 dX12_colour_19 rfl (fun c => absurd c (by decide)) (fun _ => ?_)
      subst a2
      subst w2
      refine g_aload_0 h dX12_colour_22 ?_
      refine g_iload_1 h dX12_colour_23 ?_
      refine g_iload_2 h dX12_colour_24 ?_
      refine g_cVi2 h rok0 mi_X12_colourTold dX12_colour_25 ml_X12_363 rfl rfl rfl (Nat.le_of_ble_eq_true rfl) (Nat.le_of_ble_eq_true rfl) (sp_X12_colourTold hB1 hK1 (by omega) w1 ?_)
      refine g_goto h 36 dX12_colour_28 rfl ?_
      refine g_iret h dX12_colour_36 ?_
      rw [bv80, e91]
      exact hQ1 a w a1 w1 rfl rfl
    · have e2 : inB y (nI 0) (nI 2) = false := by
        cases q : inB y (nI 0) (nI 2) with
        | false => rfl
        | true => exact absurd (hi2.mp q) (fun ⟨w, a, b⟩ => h2 ⟨w, by omega, b⟩)
      refine g_aload_0 h dX12_colour_0 ?_
      refine g_iconst h dX12_colour_1 (v := nI 0) rfl ?_
      refine g_putI h fp_X12_1 dX12_colour_2 rfl rfl ?_
      refine g_aload_0 h dX12_colour_5 ?_
      refine g_iload_1 h dX12_colour_6 ?_
      refine g_cVi1 h rok0 mi_X12_isColour dX12_colour_7 ml_X12_360 rfl rfl rfl (Nat.le_of_ble_eq_true rfl) (Nat.le_of_ble_eq_true rfl) (sp_X12_isColour hB1 ?_)
      rw [show up2 I 80 0 (nI 0) 93 0 = nI (nC (bv I)) by rw [e93]; exact hcn.1, e1]
      refine g_if_eq h 31 dX12_colour_10 rfl (fun c => absurd c (by decide)) (fun _ => ?_)
      refine g_iload_2 h dX12_colour_13 ?_
      refine g_iconst h dX12_colour_14 (v := nI 0) rfl ?_
      refine g_iconst h dX12_colour_15 (v := nI 2) rfl ?_
      refine g_cSi3 h rok0 mi_X12_isIn dX12_colour_16 ml_X12_22 (Nat.le_of_ble_eq_true rfl) (Nat.le_of_ble_eq_true rfl) (sp_X12_isIn ?_)
      rw [show b2i (inB y (nI 0) _) = b2i false from congrArg b2i e2]
      refine g_if_eq h 31 dX12_colour_19 rfl (fun _ => ?_) (fun c => absurd rfl c)
      exact no (fun q => h2 q.2)
  · have e1 : inB x (nI 0) (nI (nC (bv I)) - nI 1) = false := by
      cases q : inB x (nI 0) (nI (nC (bv I)) - nI 1) with
      | false => rfl
      | true => exact absurd (hi1.mp q) h1
    refine g_aload_0 h dX12_colour_0 ?_
    refine g_iconst h dX12_colour_1 (v := nI 0) rfl ?_
    refine g_putI h fp_X12_1 dX12_colour_2 rfl rfl ?_
    refine g_aload_0 h dX12_colour_5 ?_
    refine g_iload_1 h dX12_colour_6 ?_
    refine g_cVi1 h rok0 mi_X12_isColour dX12_colour_7 ml_X12_360 rfl rfl rfl (Nat.le_of_ble_eq_true rfl) (Nat.le_of_ble_eq_true rfl) (sp_X12_isColour hB1 ?_)
    rw [show up2 I 80 0 (nI 0) 93 0 = nI (nC (bv I)) by rw [e93]; exact hcn.1, e1]
    refine g_if_eq h 31 dX12_colour_10 rfl (fun _ => ?_) (fun c => absurd rfl c)
    exact no (fun q => h1 q.1)
set_option maxRecDepth 100000 in
set_option maxHeartbeats 4000000 in
theorem sp_X12_keeper {d : Nat} {x y : Int32} {I : MI} {J : MJ} {P : MP} (hB : P 80 8 = some 93) (hK : bkOK (bv I)) {Q : Int32 → MI → MJ → MP → Prop} (hQ1 : ∀ a w, a < nK (bv I) → w < 4 → x = nI a → y = nI w → Q (keeR (bv I) (I 91) a w) (up2 I 80 0 (nI 0)) J P) (hQ0 : (¬ ((∃ a, a < nK (bv I) ∧ x = nI a) ∧ ∃ w, w < 4 ∧ y = nI w)) → Q (nI 0) (up2 (up2 I 80 0 (nI 0)) 80 0 (nI 1)) J P) : Sp yX12_keeper cX12_keeper 3 (some .int) (d + 2) [.ref 80, .int x, .int y] I J P (Qi Q) := by
  intro Γ h
  show VG Γ 0 0 0 [some (.ref 80), some (.int x), some (.int y)] [] _ _ _ _
  have hB1 : P 80 8 = some 93 := hB
  have hK1 : bkOK (bv (up2 I 80 0 (nI 0))) := by rw [bv80]; exact hK
  have e91 : up2 I 80 0 (nI 0) 91 = I 91 := up2_o (by decide)
  have e93 : up2 I 80 0 (nI 0) 93 = I 93 := up2_o (by decide)
  have e80 : up2 I 80 0 (nI 0) 80 2 = I 80 2 := up2_n (by decide)
  have hcn : I 93 3 = nI (nK (bv I)) ∧ nK (bv I) ≤ 5 := bk_K hK
  have hi1 := inB_c (x := x) (N := nK (bv I)) (by omega)
  have hi2 := inB_n (x := y) (m := 3) (by decide)
  have no : (¬ ((∃ a, a < nK (bv I) ∧ x = nI a) ∧ ∃ w, w < 4 ∧ y = nI w)) → VG Γ 0 0 31 [some (.ref 80), some (.int x), some (.int y)] [] (up2 I 80 0 (nI 0)) J P (Fnl Γ (Qi Q)) := by
    intro hc
    refine g_aload_0 h dX12_keeper_31 ?_
    refine g_iconst h dX12_keeper_32 (v := nI 1) rfl ?_
    refine g_cVi1 h rok0 mi_X12_no dX12_keeper_33 ml_X12_10 rfl rfl rfl (Nat.le_of_ble_eq_true rfl) (Nat.le_of_ble_eq_true rfl) (sp_X12_no ?_)
    refine g_iret h dX12_keeper_36 ?_
    exact hQ0 hc
  by_cases h1 : ∃ a, a < nK (bv I) ∧ x = nI a
  · have e1 : inB x (nI 0) (nI (nK (bv I)) - nI 1) = true := hi1.mpr h1
    by_cases h2 : ∃ w, w < 4 ∧ y = nI w
    · have e2 : inB y (nI 0) (nI 3) = true := hi2.mpr (h2.imp fun w q => ⟨by omega, q.2⟩)
      obtain ⟨a, a1, a2⟩ := h1
      obtain ⟨w, w1, w2⟩ := h2
      refine g_aload_0 h dX12_keeper_0 ?_
      refine g_iconst h dX12_keeper_1 (v := nI 0) rfl ?_
      refine g_putI h fp_X12_1 dX12_keeper_2 rfl rfl ?_
      refine g_aload_0 h dX12_keeper_5 ?_
      refine g_iload_1 h dX12_keeper_6 ?_
      refine g_cVi1 h rok0 mi_X12_isKeeper dX12_keeper_7 ml_X12_384 rfl rfl rfl (Nat.le_of_ble_eq_true rfl) (Nat.le_of_ble_eq_true rfl) (sp_X12_isKeeper hB1 ?_)
      rw [show up2 I 80 0 (nI 0) 93 3 = nI (nK (bv I)) by rw [e93]; exact hcn.1, e1]
      refine g_if_eq h 31 dX12_keeper_10 rfl (fun c => absurd c (by decide)) (fun _ => ?_)
      refine g_iload_2 h dX12_keeper_13 ?_
      refine g_iconst h dX12_keeper_14 (v := nI 0) rfl ?_
      refine g_iconst h dX12_keeper_15 (v := nI 3) rfl ?_
      refine g_cSi3 h rok0 mi_X12_isIn dX12_keeper_16 ml_X12_22 (Nat.le_of_ble_eq_true rfl) (Nat.le_of_ble_eq_true rfl) (sp_X12_isIn ?_)
      rw [show b2i (inB y (nI 0) _) = b2i true from congrArg b2i e2]
      refine g_if_eq h 31 dX12_keeper_19 rfl (fun c => absurd c (by decide)) (fun _ => ?_)
      subst a2
      subst w2
      refine g_aload_0 h dX12_keeper_22 ?_
      refine g_iload_1 h dX12_keeper_23 ?_
      refine g_iload_2 h dX12_keeper_24 ?_
      refine g_cVi2 h rok0 mi_X12_keeperTold dX12_keeper_25 ml_X12_387 rfl rfl rfl (Nat.le_of_ble_eq_true rfl) (Nat.le_of_ble_eq_true rfl) (sp_X12_keeperTold hB1 (by omega) w1 ?_)
      refine g_goto h 36 dX12_keeper_28 rfl ?_
      refine g_iret h dX12_keeper_36 ?_
      rw [bv80, e91]
      exact hQ1 a w a1 w1 rfl rfl
    · have e2 : inB y (nI 0) (nI 3) = false := by
        cases q : inB y (nI 0) (nI 3) with
        | false => rfl
        | true => exact absurd (hi2.mp q) (fun ⟨w, a, b⟩ => h2 ⟨w, by omega, b⟩)
      refine g_aload_0 h dX12_keeper_0 ?_
      refine g_iconst h dX12_keeper_1 (v := nI 0) rfl ?_
      refine g_putI h fp_X12_1 dX12_keeper_2 rfl rfl ?_
      refine g_aload_0 h dX12_keeper_5 ?_
      refine g_iload_1 h dX12_keeper_6 ?_
      refine g_cVi1 h rok0 mi_X12_isKeeper dX12_keeper_7 ml_X12_384 rfl rfl rfl (Nat.le_of_ble_eq_true rfl) (Nat.le_of_ble_eq_true rfl) (sp_X12_isKeeper hB1 ?_)
      rw [show up2 I 80 0 (nI 0) 93 3 = nI (nK (bv I)) by rw [e93]; exact hcn.1, e1]
      refine g_if_eq h 31 dX12_keeper_10 rfl (fun c => absurd c (by decide)) (fun _ => ?_)
      refine g_iload_2 h dX12_keeper_13 ?_
      refine g_iconst h dX12_keeper_14 (v := nI 0) rfl ?_
      refine g_iconst h dX12_keeper_15 (v := nI 3) rfl ?_
      refine g_cSi3 h rok0 mi_X12_isIn dX12_keeper_16 ml_X12_22 (Nat.le_of_ble_eq_true rfl) (Nat.le_of_ble_eq_true rfl) (sp_X12_isIn ?_)
      rw [show b2i (inB y (nI 0) _) = b2i false from congrArg b2i e2]
      refine g_if_eq h 31 dX12_keeper_19 rfl (fun _ => ?_) (fun c => absurd rfl c)
      exact no (fun q => h2 q.2)
  · have e1 : inB x (nI 0) (nI (nK (bv I)) - nI 1) = false := by
      cases q : inB x (nI 0) (nI (nK (bv I)) - nI 1) with
      | false => rfl
      | true => exact absurd (hi1.mp q) h1
    refine g_aload_0 h dX12_keeper_0 ?_
    refine g_iconst h dX12_keeper_1 (v := nI 0) rfl ?_
    refine g_putI h fp_X12_1 dX12_keeper_2 rfl rfl ?_
    refine g_aload_0 h dX12_keeper_5 ?_
    refine g_iload_1 h dX12_keeper_6 ?_
    refine g_cVi1 h rok0 mi_X12_isKeeper dX12_keeper_7 ml_X12_384 rfl rfl rfl (Nat.le_of_ble_eq_true rfl) (Nat.le_of_ble_eq_true rfl) (sp_X12_isKeeper hB1 ?_)
    rw [show up2 I 80 0 (nI 0) 93 3 = nI (nK (bv I)) by rw [e93]; exact hcn.1, e1]
    refine g_if_eq h 31 dX12_keeper_10 rfl (fun _ => ?_) (fun c => absurd rfl c)
    exact no (fun q => h1 q.1)
set_option maxRecDepth 100000 in
set_option maxHeartbeats 4000000 in
theorem sp_X12_top {d : Nat} {x y : Int32} {I : MI} {J : MJ} {P : MP} (hB : P 80 8 = some 93) (hK : bkOK (bv I)) {Q : Int32 → MI → MJ → MP → Prop} (hQ1 : ∀ a w, a < nT (bv I) → w < 4 → x = nI a → y = nI w → Q (topR (bv I) (I 91) a w) (up2 I 80 0 (nI 0)) J P) (hQ0 : (¬ ((∃ a, a < nT (bv I) ∧ x = nI a) ∧ ∃ w, w < 4 ∧ y = nI w)) → Q (nI 0) (up2 (up2 I 80 0 (nI 0)) 80 0 (nI 1)) J P) : Sp yX12_top cX12_top 3 (some .int) (d + 8) [.ref 80, .int x, .int y] I J P (Qi Q) := by
  intro Γ h
  show VG Γ 0 0 0 [some (.ref 80), some (.int x), some (.int y)] [] _ _ _ _
  have hB1 : P 80 8 = some 93 := hB
  have hK1 : bkOK (bv (up2 I 80 0 (nI 0))) := by rw [bv80]; exact hK
  have e91 : up2 I 80 0 (nI 0) 91 = I 91 := up2_o (by decide)
  have e93 : up2 I 80 0 (nI 0) 93 = I 93 := up2_o (by decide)
  have e80 : up2 I 80 0 (nI 0) 80 2 = I 80 2 := up2_n (by decide)
  have hcn : I 93 2 = nI (nT (bv I)) ∧ nT (bv I) ≤ 6 := bk_T hK
  have hi1 := inB_c (x := x) (N := nT (bv I)) (by omega)
  have hi2 := inB_n (x := y) (m := 3) (by decide)
  have no : (¬ ((∃ a, a < nT (bv I) ∧ x = nI a) ∧ ∃ w, w < 4 ∧ y = nI w)) → VG Γ 0 0 31 [some (.ref 80), some (.int x), some (.int y)] [] (up2 I 80 0 (nI 0)) J P (Fnl Γ (Qi Q)) := by
    intro hc
    refine g_aload_0 h dX12_top_31 ?_
    refine g_iconst h dX12_top_32 (v := nI 1) rfl ?_
    refine g_cVi1 h rok0 mi_X12_no dX12_top_33 ml_X12_10 rfl rfl rfl (Nat.le_of_ble_eq_true rfl) (Nat.le_of_ble_eq_true rfl) (sp_X12_no ?_)
    refine g_iret h dX12_top_36 ?_
    exact hQ0 hc
  by_cases h1 : ∃ a, a < nT (bv I) ∧ x = nI a
  · have e1 : inB x (nI 0) (nI (nT (bv I)) - nI 1) = true := hi1.mpr h1
    by_cases h2 : ∃ w, w < 4 ∧ y = nI w
    · have e2 : inB y (nI 0) (nI 3) = true := hi2.mpr (h2.imp fun w q => ⟨by omega, q.2⟩)
      obtain ⟨a, a1, a2⟩ := h1
      obtain ⟨w, w1, w2⟩ := h2
      refine g_aload_0 h dX12_top_0 ?_
      refine g_iconst h dX12_top_1 (v := nI 0) rfl ?_
      refine g_putI h fp_X12_1 dX12_top_2 rfl rfl ?_
      refine g_aload_0 h dX12_top_5 ?_
      refine g_iload_1 h dX12_top_6 ?_
      refine g_cVi1 h rok0 mi_X12_isTop dX12_top_7 ml_X12_378 rfl rfl rfl (Nat.le_of_ble_eq_true rfl) (Nat.le_of_ble_eq_true rfl) (sp_X12_isTop hB1 ?_)
      rw [show up2 I 80 0 (nI 0) 93 2 = nI (nT (bv I)) by rw [e93]; exact hcn.1, e1]
      refine g_if_eq h 31 dX12_top_10 rfl (fun c => absurd c (by decide)) (fun _ => ?_)
      refine g_iload_2 h dX12_top_13 ?_
      refine g_iconst h dX12_top_14 (v := nI 0) rfl ?_
      refine g_iconst h dX12_top_15 (v := nI 3) rfl ?_
      refine g_cSi3 h rok0 mi_X12_isIn dX12_top_16 ml_X12_22 (Nat.le_of_ble_eq_true rfl) (Nat.le_of_ble_eq_true rfl) (sp_X12_isIn ?_)
      rw [show b2i (inB y (nI 0) _) = b2i true from congrArg b2i e2]
      refine g_if_eq h 31 dX12_top_19 rfl (fun c => absurd c (by decide)) (fun _ => ?_)
      subst a2
      subst w2
      refine g_aload_0 h dX12_top_22 ?_
      refine g_iload_1 h dX12_top_23 ?_
      refine g_iload_2 h dX12_top_24 ?_
      refine g_cVi2 h rok0 mi_X12_topTold dX12_top_25 ml_X12_381 rfl rfl rfl (Nat.le_of_ble_eq_true rfl) (Nat.le_of_ble_eq_true rfl) (sp_X12_topTold hB1 hK1 (by rw [bv80]; exact a1) w1 ?_)
      refine g_goto h 36 dX12_top_28 rfl ?_
      refine g_iret h dX12_top_36 ?_
      rw [bv80, e91]
      exact hQ1 a w a1 w1 rfl rfl
    · have e2 : inB y (nI 0) (nI 3) = false := by
        cases q : inB y (nI 0) (nI 3) with
        | false => rfl
        | true => exact absurd (hi2.mp q) (fun ⟨w, a, b⟩ => h2 ⟨w, by omega, b⟩)
      refine g_aload_0 h dX12_top_0 ?_
      refine g_iconst h dX12_top_1 (v := nI 0) rfl ?_
      refine g_putI h fp_X12_1 dX12_top_2 rfl rfl ?_
      refine g_aload_0 h dX12_top_5 ?_
      refine g_iload_1 h dX12_top_6 ?_
      refine g_cVi1 h rok0 mi_X12_isTop dX12_top_7 ml_X12_378 rfl rfl rfl (Nat.le_of_ble_eq_true rfl) (Nat.le_of_ble_eq_true rfl) (sp_X12_isTop hB1 ?_)
      rw [show up2 I 80 0 (nI 0) 93 2 = nI (nT (bv I)) by rw [e93]; exact hcn.1, e1]
      refine g_if_eq h 31 dX12_top_10 rfl (fun c => absurd c (by decide)) (fun _ => ?_)
      refine g_iload_2 h dX12_top_13 ?_
      refine g_iconst h dX12_top_14 (v := nI 0) rfl ?_
      refine g_iconst h dX12_top_15 (v := nI 3) rfl ?_
      refine g_cSi3 h rok0 mi_X12_isIn dX12_top_16 ml_X12_22 (Nat.le_of_ble_eq_true rfl) (Nat.le_of_ble_eq_true rfl) (sp_X12_isIn ?_)
      rw [show b2i (inB y (nI 0) _) = b2i false from congrArg b2i e2]
      refine g_if_eq h 31 dX12_top_19 rfl (fun _ => ?_) (fun c => absurd rfl c)
      exact no (fun q => h2 q.2)
  · have e1 : inB x (nI 0) (nI (nT (bv I)) - nI 1) = false := by
      cases q : inB x (nI 0) (nI (nT (bv I)) - nI 1) with
      | false => rfl
      | true => exact absurd (hi1.mp q) h1
    refine g_aload_0 h dX12_top_0 ?_
    refine g_iconst h dX12_top_1 (v := nI 0) rfl ?_
    refine g_putI h fp_X12_1 dX12_top_2 rfl rfl ?_
    refine g_aload_0 h dX12_top_5 ?_
    refine g_iload_1 h dX12_top_6 ?_
    refine g_cVi1 h rok0 mi_X12_isTop dX12_top_7 ml_X12_378 rfl rfl rfl (Nat.le_of_ble_eq_true rfl) (Nat.le_of_ble_eq_true rfl) (sp_X12_isTop hB1 ?_)
    rw [show up2 I 80 0 (nI 0) 93 2 = nI (nT (bv I)) by rw [e93]; exact hcn.1, e1]
    refine g_if_eq h 31 dX12_top_10 rfl (fun _ => ?_) (fun c => absurd rfl c)
    exact no (fun q => h1 q.1)
def ovN (row : Nat → Int32) (x : Int32) (z a : Nat) : Int32 := sumF (fun n => if row (9 * a + 1 + n) = x then nI 1 else nI 0) z 0 (nI 0)
set_option maxRecDepth 100000 in
set_option maxHeartbeats 4000000 in
theorem lq_X12_over {Γ : Cx} {d i z : Nat} {I : MI} {J : MJ} {P : MP} (hB : P 80 8 = some 93) (hi : i < 6) (hz : I 98 (9 * i) = nI z ∧ z ≤ 8) {x : Int32} {Φ : State → Prop} (h : Vc RX12 cX12_over 5 (some .int) (d) Γ) : ∀ (f n : Nat) (a : Int32), n + f = z → (∀ a' x4, a' = sumF (fun n => if I 98 (9 * i + 1 + n) = x then nI 1 else nI 0) f n a → VG Γ 0 0 68 [some (.ref 80), some (.int x), some (.int a'), some (.int (nI i)), x4] [] I J P Φ) → VG Γ 0 0 18 [some (.ref 80), some (.int x), some (.int a), some (.int (nI i)), some (.int (nI (n + 1)))] [] I J P Φ := by
  intro f
  induction f with
  | zero =>
    intro n a hn K
    refine g_iload_4 h dX12_over_18 ?_
    refine g_aload_0 h dX12_over_20 ?_
    refine g_getP h fl_X12_87 dX12_over_21 rfl rfl (by assumption) ?_
    refine g_getC h fl_X12_260 dX12_over_24 rfl rfl ?_
    refine g_bipush h dX12_over_27 (v := nI 9) rfl ?_
    refine g_iload_3 h dX12_over_29 ?_
    refine g_imul h dX12_over_30 ?_
    refine g_iald h (9 * i) dX12_over_31 rfl (pk_mul 9 i) (by omega) ?_
    rw [hz.1]
    refine g_icmp_gt h 68 dX12_over_32 rfl (fun _ => ?_) (fun c => absurd (nI_lt (by omega) (by omega)) c)
    exact K _ _ rfl
  | succ f ih =>
    intro n a hn K
    refine g_iload_4 h dX12_over_18 ?_
    refine g_aload_0 h dX12_over_20 ?_
    refine g_getP h fl_X12_87 dX12_over_21 rfl rfl (by assumption) ?_
    refine g_getC h fl_X12_260 dX12_over_24 rfl rfl ?_
    refine g_bipush h dX12_over_27 (v := nI 9) rfl ?_
    refine g_iload_3 h dX12_over_29 ?_
    refine g_imul h dX12_over_30 ?_
    refine g_iald h (9 * i) dX12_over_31 rfl (pk_mul 9 i) (by omega) ?_
    rw [hz.1]
    refine g_icmp_gt h 68 dX12_over_32 rfl (fun c => absurd (ltN c (by omega) (by omega)) (by omega)) (fun _ => ?_)
    refine g_iload_2 h dX12_over_35 ?_
    refine g_aload_0 h dX12_over_36 ?_
    refine g_getP h fl_X12_87 dX12_over_37 rfl rfl (by assumption) ?_
    refine g_getC h fl_X12_260 dX12_over_40 rfl rfl ?_
    refine g_bipush h dX12_over_43 (v := nI 9) rfl ?_
    refine g_iload_3 h dX12_over_45 ?_
    refine g_imul h dX12_over_46 ?_
    refine g_iload_4 h dX12_over_47 ?_
    refine g_iadd h dX12_over_49 ?_
    refine g_iald h (9 * i + (n + 1)) dX12_over_50 rfl (by rw [pk_mul, nI_add]) (by omega) ?_
    refine g_iload_1 h dX12_over_51 ?_
    refine g_icmp_ne h 59 dX12_over_52 rfl (fun c52 => ?_) (fun c52 => ?_)
    · refine g_iconst h dX12_over_59 (v := nI 0) rfl ?_
      refine g_iadd h dX12_over_60 ?_
      refine g_istore_2 h dX12_over_61 (by decide) rfl ?_
      refine g_iinc_4 h dX12_over_62 (inc1 _) (by decide) rfl ?_
      refine g_goto h 18 dX12_over_65 rfl ?_
      exact ih (n + 1) _ (by omega) (fun a' x4 e => K a' x4 (e.trans (by rw [show 9 * i + (n + 1) = 9 * i + 1 + n by omega] at c52; simp [sumF, c52])))
    · refine g_iconst h dX12_over_55 (v := nI 1) rfl ?_
      refine g_goto h 60 dX12_over_56 rfl ?_
      refine g_iadd h dX12_over_60 ?_
      refine g_istore_2 h dX12_over_61 (by decide) rfl ?_
      refine g_iinc_4 h dX12_over_62 (inc1 _) (by decide) rfl ?_
      refine g_goto h 18 dX12_over_65 rfl ?_
      exact ih (n + 1) _ (by omega) (fun a' x4 e => K a' x4 (e.trans (by rw [show 9 * i + (n + 1) = 9 * i + 1 + n by omega] at c52; simp [sumF, c52])))
set_option maxRecDepth 100000 in
set_option maxHeartbeats 4000000 in
theorem lp_X12_over {Γ : Cx} {d : Nat} {I : MI} {J : MJ} {P : MP} (hB : P 80 8 = some 93) (hK : bkOK (bv I)) {x : Int32} {Q : Int32 → MI → MJ → MP → Prop} (h : Vc RX12 cX12_over 5 (some .int) (d) Γ) : ∀ (f i : Nat) (a : Int32) (x4 : Option Value), i + f = nT (bv I) → Q (sumF (fun i => ovN (I 98) x (zR (bv I) i) i) f i a) I J P → VG Γ 0 0 4 [some (.ref 80), some (.int x), some (.int a), some (.int (nI i)), x4] [] I J P (Fnl Γ (Qi Q)) := by
  have hTp := (bk_T hK).1
  have hT6 := (bk_T hK).2
  intro f
  induction f with
  | zero =>
    intro i a x4 hi hQ
    refine g_iload_3 h dX12_over_4 ?_
    refine g_aload_0 h dX12_over_5 ?_
    refine g_getP h fl_X12_87 dX12_over_6 rfl rfl (by assumption) ?_
    refine g_getI h fl_X12_164 dX12_over_9 rfl rfl ?_
    refine g_icmp_ge h 74 dX12_over_12 rfl (fun c12 => ?_) (fun c12 => ?_)
    · refine g_iload_2 h dX12_over_74 ?_
      refine g_iret h dX12_over_75 ?_
      exact hQ
    · exact absurd (by rw [hTp]; exact nI_le (by omega) (by omega)) c12
  | succ f ih =>
    intro i a x4 hi hQ
    obtain ⟨z1, z2, -⟩ := bk_Z hK i (by omega)
    refine g_iload_3 h dX12_over_4 ?_
    refine g_aload_0 h dX12_over_5 ?_
    refine g_getP h fl_X12_87 dX12_over_6 rfl rfl (by assumption) ?_
    refine g_getI h fl_X12_164 dX12_over_9 rfl rfl ?_
    refine g_icmp_ge h 74 dX12_over_12 rfl (fun c12 => ?_) (fun c12 => ?_)
    · exact absurd (leN (by simpa only [hTp] using c12) (by omega) (by omega)) (by omega)
    · refine g_iconst h dX12_over_15 (v := nI 1) rfl ?_
      refine g_istore_4 h dX12_over_16 (by decide) rfl ?_
      refine lq_X12_over hB (by omega) ⟨z1, z2⟩ h (zR (bv I) i) 0 _ (by omega) (fun a1 x4 e => ?_)
      refine g_iinc_3 h dX12_over_68 (inc1 _) (by decide) rfl ?_
      refine g_goto h 4 dX12_over_71 rfl ?_
      have e2 : a1 = a + ovN (I 98) x (zR (bv I) i) i := e.trans (sumF_acc _ _ _ _)
      exact ih (i + 1) _ _ (by omega) (q_i (by rw [e2]; rfl) hQ)
set_option maxRecDepth 100000 in
set_option maxHeartbeats 4000000 in
theorem sp_X12_over {d : Nat} {I : MI} {J : MJ} {P : MP} (hB : P 80 8 = some 93) (hK : bkOK (bv I)) {x : Int32} {Q : Int32 → MI → MJ → MP → Prop} (hQ : Q (sumF (fun i => ovN (I 98) x (zR (bv I) i) i) (nT (bv I)) 0 (nI 0)) I J P) : Sp yX12_over cX12_over 5 (some .int) (d) [.ref 80, .int x] I J P (Qi Q) := by
  intro Γ h
  show VG Γ 0 0 0 [some (.ref 80), some (.int x), none, none, none] [] _ _ _ _
  refine g_iconst h dX12_over_0 (v := nI 0) rfl ?_
  refine g_istore_2 h dX12_over_1 (by decide) rfl ?_
  refine g_iconst h dX12_over_2 (v := nI 0) rfl ?_
  refine g_istore_3 h dX12_over_3 (by decide) rfl ?_
  exact lp_X12_over hB hK h (nT (bv I)) 0 _ _ (by omega) hQ
def corR (B : MI) (row : Nat → Int32) (c : Nat) : Nat → Int32
  | 0 => B 2 c
  | 1 => B 3 c
  | 2 => nI (dep (B 3) (nN B) 4 (nI c))
  | 3 => row (3 + c)
  | 4 => smR (B 3) (rv row) (nN B) 4 c
  | 5 => knR (row (3 + c))
  | 6 => tuR (row (3 + c))
  | 7 => sumF (fun i => if B 3 i = nI c then nI 1 else nI 0) (nN B) 0 (nI 0)
  | _ => sumF (fun i => ovN (B 5) (nI c) (zR B i) i) (nT B) 0 (nI 0)
set_option maxRecDepth 100000 in
set_option maxHeartbeats 4000000 in
theorem sp_X12_cordTold {d c w : Nat} {I : MI} {J : MJ} {P : MP} (hB : P 80 8 = some 93) (hK : bkOK (bv I)) (hc : c < nN (bv I)) (hw : w < 9) {Q : Int32 → MI → MJ → MP → Prop} (hQ : Q (corR (bv I) (I 91) c w) I J P) : Sp yX12_cordTold cX12_cordTold 3 (some .int) (d + 5) [.ref 80, .int (nI c), .int (nI w)] I J P (Qi Q) := by
  intro Γ h
  show VG Γ 0 0 0 [some (.ref 80), some (.int (nI c)), some (.int (nI w))] [] _ _ _ _
  have hN := (bk_N hK).1
  have hN16 := (bk_N hK).2
  rcases (show w = 0 ∨ w = 1 ∨ w = 2 ∨ w = 3 ∨ w = 4 ∨ w = 5 ∨ w = 6 ∨ w = 7 ∨ w = 8 by omega) with rfl | rfl | rfl | rfl | rfl | rfl | rfl | rfl | rfl
  · refine g_iload_2 h dX12_cordTold_0 ?_
    · refine g_tsIn h 48 dX12_cordTold_1 (by decide) (by decide) rfl rfl ?_
      refine g_aload_0 h dX12_cordTold_48 ?_
      refine g_getP h fl_X12_87 dX12_cordTold_49 rfl rfl (by assumption) ?_
      refine g_getC h fl_X12_245 dX12_cordTold_52 rfl rfl ?_
      refine g_iload_1 h dX12_cordTold_55 ?_
      refine g_iald h c dX12_cordTold_56 rfl rfl (by omega) ?_
      refine g_iret h dX12_cordTold_57 ?_
      exact hQ
  · refine g_iload_2 h dX12_cordTold_0 ?_
    · refine g_tsIn h 58 dX12_cordTold_1 (by decide) (by decide) rfl rfl ?_
      refine g_aload_0 h dX12_cordTold_58 ?_
      refine g_getP h fl_X12_87 dX12_cordTold_59 rfl rfl (by assumption) ?_
      refine g_getC h fl_X12_248 dX12_cordTold_62 rfl rfl ?_
      refine g_iload_1 h dX12_cordTold_65 ?_
      refine g_iald h c dX12_cordTold_66 rfl rfl (by omega) ?_
      refine g_iret h dX12_cordTold_67 ?_
      exact hQ
  · refine g_iload_2 h dX12_cordTold_0 ?_
    · refine g_tsIn h 68 dX12_cordTold_1 (by decide) (by decide) rfl rfl ?_
      refine g_aload_0 h dX12_cordTold_68 ?_
      refine g_getP h fl_X12_87 dX12_cordTold_69 rfl rfl (by assumption) ?_
      refine g_iload_1 h dX12_cordTold_72 ?_
      refine g_cVi1 h rok0 mi_X11_deep dX12_cordTold_73 ml_X12_254 rfl rfl rfl (Nat.le_of_ble_eq_true rfl) (Nat.le_of_ble_eq_true rfl) (sp_deepB hN16 (bk_c hK c hc) ?_)
      refine g_iret h dX12_cordTold_76 ?_
      exact hQ
  · refine g_iload_2 h dX12_cordTold_0 ?_
    · refine g_tsIn h 77 dX12_cordTold_1 (by decide) (by decide) rfl rfl ?_
      refine g_aload_0 h dX12_cordTold_77 ?_
      refine g_getC h fl_X12_109 dX12_cordTold_78 rfl rfl ?_
      refine g_iconst h dX12_cordTold_81 (v := nI 3) rfl ?_
      refine g_iload_1 h dX12_cordTold_82 ?_
      refine g_iadd h dX12_cordTold_83 ?_
      refine g_iald h (3 + c) dX12_cordTold_84 rfl (nI_add 3 c) (by omega) ?_
      refine g_iret h dX12_cordTold_85 ?_
      exact hQ
  · refine g_iload_2 h dX12_cordTold_0 ?_
    · refine g_tsIn h 86 dX12_cordTold_1 (by decide) (by decide) rfl rfl ?_
      refine g_aload_0 h dX12_cordTold_86 ?_
      refine g_aload_0 h dX12_cordTold_87 ?_
      refine g_getC h fl_X12_109 dX12_cordTold_88 rfl rfl ?_
      refine g_iload_1 h dX12_cordTold_91 ?_
      refine g_cVi2 h rok0 mi_X12_sumOf dX12_cordTold_92 ml_X12_287 rfl rfl rfl (Nat.le_of_ble_eq_true rfl) (Nat.le_of_ble_eq_true rfl) (sp_X12_sumOf (Or.inl rfl) hB hN hN16 4 _ c (by omega) (bk_t hK c hc) ?_)
      refine g_iret h dX12_cordTold_95 ?_
      exact hQ
  · refine g_iload_2 h dX12_cordTold_0 ?_
    · refine g_tsIn h 96 dX12_cordTold_1 (by decide) (by decide) rfl rfl ?_
      refine g_aload_0 h dX12_cordTold_96 ?_
      refine g_getC h fl_X12_109 dX12_cordTold_97 rfl rfl ?_
      refine g_iconst h dX12_cordTold_100 (v := nI 3) rfl ?_
      refine g_iload_1 h dX12_cordTold_101 ?_
      refine g_iadd h dX12_cordTold_102 ?_
      refine g_iald h (3 + c) dX12_cordTold_103 rfl (nI_add 3 c) (by omega) ?_
      refine g_cSi1 h rok0 mi_X12_knots dX12_cordTold_104 ml_X12_301 (Nat.le_of_ble_eq_true rfl) (Nat.le_of_ble_eq_true rfl) (sp_X12_knots ?_)
      refine g_iret h dX12_cordTold_107 ?_
      exact hQ
  · refine g_iload_2 h dX12_cordTold_0 ?_
    · refine g_tsIn h 108 dX12_cordTold_1 (by decide) (by decide) rfl rfl ?_
      refine g_aload_0 h dX12_cordTold_108 ?_
      refine g_getC h fl_X12_109 dX12_cordTold_109 rfl rfl ?_
      refine g_iconst h dX12_cordTold_112 (v := nI 3) rfl ?_
      refine g_iload_1 h dX12_cordTold_113 ?_
      refine g_iadd h dX12_cordTold_114 ?_
      refine g_iald h (3 + c) dX12_cordTold_115 rfl (nI_add 3 c) (by omega) ?_
      refine g_cSi1 h rok0 mi_X12_turns dX12_cordTold_116 ml_X12_330 (Nat.le_of_ble_eq_true rfl) (Nat.le_of_ble_eq_true rfl) (sp_X12_turns ?_)
      refine g_iret h dX12_cordTold_119 ?_
      exact hQ
  · refine g_iload_2 h dX12_cordTold_0 ?_
    · refine g_tsIn h 120 dX12_cordTold_1 (by decide) (by decide) rfl rfl ?_
      refine g_aload_0 h dX12_cordTold_120 ?_
      refine g_iload_1 h dX12_cordTold_121 ?_
      refine g_cVi1 h rok0 mi_X12_below dX12_cordTold_122 ml_X12_366 rfl rfl rfl (Nat.le_of_ble_eq_true rfl) (Nat.le_of_ble_eq_true rfl) (sp_X12_below hB hN hN16 ?_)
      refine g_iret h dX12_cordTold_125 ?_
      exact hQ
  · refine g_iload_2 h dX12_cordTold_0 ?_
    · refine g_tsOut h 126 dX12_cordTold_1 (by decide) rfl ?_
      refine g_aload_0 h dX12_cordTold_126 ?_
      refine g_iload_1 h dX12_cordTold_127 ?_
      refine g_cVi1 h rok0 mi_X12_over dX12_cordTold_128 ml_X12_369 rfl rfl rfl (Nat.le_of_ble_eq_true rfl) (Nat.le_of_ble_eq_true rfl) (sp_X12_over hB hK ?_)
      refine g_iret h dX12_cordTold_131 ?_
      exact hQ
set_option maxRecDepth 100000 in
set_option maxHeartbeats 4000000 in
theorem sp_X12_cord {d : Nat} {x y : Int32} {I : MI} {J : MJ} {P : MP} (hB : P 80 8 = some 93) (hK : bkOK (bv I)) {Q : Int32 → MI → MJ → MP → Prop} (hQ1 : ∀ a w, a < nN (bv I) → w < 9 → x = nI a → y = nI w → Q (corR (bv I) (I 91) a w) (up2 I 80 0 (nI 0)) J P) (hQ0 : (¬ ((∃ a, a < nN (bv I) ∧ x = nI a) ∧ ∃ w, w < 9 ∧ y = nI w)) → Q (nI 0) (up2 (up2 I 80 0 (nI 0)) 80 0 (nI 1)) J P) : Sp yX12_cord cX12_cord 3 (some .int) (d + 6) [.ref 80, .int x, .int y] I J P (Qi Q) := by
  intro Γ h
  show VG Γ 0 0 0 [some (.ref 80), some (.int x), some (.int y)] [] _ _ _ _
  have hB1 : P 80 8 = some 93 := hB
  have hK1 : bkOK (bv (up2 I 80 0 (nI 0))) := by rw [bv80]; exact hK
  have e91 : up2 I 80 0 (nI 0) 91 = I 91 := up2_o (by decide)
  have e93 : up2 I 80 0 (nI 0) 93 = I 93 := up2_o (by decide)
  have e80 : up2 I 80 0 (nI 0) 80 2 = I 80 2 := up2_n (by decide)
  have hcn : I 93 1 = nI (nN (bv I)) ∧ nN (bv I) ≤ 16 := bk_N hK
  have hi1 := inB_c (x := x) (N := nN (bv I)) (by omega)
  have hi2 := inB_n (x := y) (m := 8) (by decide)
  have no : (¬ ((∃ a, a < nN (bv I) ∧ x = nI a) ∧ ∃ w, w < 9 ∧ y = nI w)) → VG Γ 0 0 32 [some (.ref 80), some (.int x), some (.int y)] [] (up2 I 80 0 (nI 0)) J P (Fnl Γ (Qi Q)) := by
    intro hc
    refine g_aload_0 h dX12_cord_32 ?_
    refine g_iconst h dX12_cord_33 (v := nI 1) rfl ?_
    refine g_cVi1 h rok0 mi_X12_no dX12_cord_34 ml_X12_10 rfl rfl rfl (Nat.le_of_ble_eq_true rfl) (Nat.le_of_ble_eq_true rfl) (sp_X12_no ?_)
    refine g_iret h dX12_cord_37 ?_
    exact hQ0 hc
  by_cases h1 : ∃ a, a < nN (bv I) ∧ x = nI a
  · have e1 : inB x (nI 0) (nI (nN (bv I)) - nI 1) = true := hi1.mpr h1
    by_cases h2 : ∃ w, w < 9 ∧ y = nI w
    · have e2 : inB y (nI 0) (nI 8) = true := hi2.mpr (h2.imp fun w q => ⟨by omega, q.2⟩)
      obtain ⟨a, a1, a2⟩ := h1
      obtain ⟨w, w1, w2⟩ := h2
      refine g_aload_0 h dX12_cord_0 ?_
      refine g_iconst h dX12_cord_1 (v := nI 0) rfl ?_
      refine g_putI h fp_X12_1 dX12_cord_2 rfl rfl ?_
      refine g_aload_0 h dX12_cord_5 ?_
      refine g_iload_1 h dX12_cord_6 ?_
      refine g_cVi1 h rok0 mi_X12_isCord dX12_cord_7 ml_X12_372 rfl rfl rfl (Nat.le_of_ble_eq_true rfl) (Nat.le_of_ble_eq_true rfl) (sp_X12_isCord hB1 ?_)
      rw [show up2 I 80 0 (nI 0) 93 1 = nI (nN (bv I)) by rw [e93]; exact hcn.1, e1]
      refine g_if_eq h 32 dX12_cord_10 rfl (fun c => absurd c (by decide)) (fun _ => ?_)
      refine g_iload_2 h dX12_cord_13 ?_
      refine g_iconst h dX12_cord_14 (v := nI 0) rfl ?_
      refine g_bipush h dX12_cord_15 (v := nI 8) rfl ?_
      refine g_cSi3 h rok0 mi_X12_isIn dX12_cord_17 ml_X12_22 (Nat.le_of_ble_eq_true rfl) (Nat.le_of_ble_eq_true rfl) (sp_X12_isIn ?_)
      rw [show b2i (inB y (nI 0) _) = b2i true from congrArg b2i e2]
      refine g_if_eq h 32 dX12_cord_20 rfl (fun c => absurd c (by decide)) (fun _ => ?_)
      subst a2
      subst w2
      refine g_aload_0 h dX12_cord_23 ?_
      refine g_iload_1 h dX12_cord_24 ?_
      refine g_iload_2 h dX12_cord_25 ?_
      refine g_cVi2 h rok0 mi_X12_cordTold dX12_cord_26 ml_X12_375 rfl rfl rfl (Nat.le_of_ble_eq_true rfl) (Nat.le_of_ble_eq_true rfl) (sp_X12_cordTold hB1 hK1 (by rw [bv80]; exact a1) w1 ?_)
      refine g_goto h 37 dX12_cord_29 rfl ?_
      refine g_iret h dX12_cord_37 ?_
      rw [bv80, e91]
      exact hQ1 a w a1 w1 rfl rfl
    · have e2 : inB y (nI 0) (nI 8) = false := by
        cases q : inB y (nI 0) (nI 8) with
        | false => rfl
        | true => exact absurd (hi2.mp q) (fun ⟨w, a, b⟩ => h2 ⟨w, by omega, b⟩)
      refine g_aload_0 h dX12_cord_0 ?_
      refine g_iconst h dX12_cord_1 (v := nI 0) rfl ?_
      refine g_putI h fp_X12_1 dX12_cord_2 rfl rfl ?_
      refine g_aload_0 h dX12_cord_5 ?_
      refine g_iload_1 h dX12_cord_6 ?_
      refine g_cVi1 h rok0 mi_X12_isCord dX12_cord_7 ml_X12_372 rfl rfl rfl (Nat.le_of_ble_eq_true rfl) (Nat.le_of_ble_eq_true rfl) (sp_X12_isCord hB1 ?_)
      rw [show up2 I 80 0 (nI 0) 93 1 = nI (nN (bv I)) by rw [e93]; exact hcn.1, e1]
      refine g_if_eq h 32 dX12_cord_10 rfl (fun c => absurd c (by decide)) (fun _ => ?_)
      refine g_iload_2 h dX12_cord_13 ?_
      refine g_iconst h dX12_cord_14 (v := nI 0) rfl ?_
      refine g_bipush h dX12_cord_15 (v := nI 8) rfl ?_
      refine g_cSi3 h rok0 mi_X12_isIn dX12_cord_17 ml_X12_22 (Nat.le_of_ble_eq_true rfl) (Nat.le_of_ble_eq_true rfl) (sp_X12_isIn ?_)
      rw [show b2i (inB y (nI 0) _) = b2i false from congrArg b2i e2]
      refine g_if_eq h 32 dX12_cord_20 rfl (fun _ => ?_) (fun c => absurd rfl c)
      exact no (fun q => h2 q.2)
  · have e1 : inB x (nI 0) (nI (nN (bv I)) - nI 1) = false := by
      cases q : inB x (nI 0) (nI (nN (bv I)) - nI 1) with
      | false => rfl
      | true => exact absurd (hi1.mp q) h1
    refine g_aload_0 h dX12_cord_0 ?_
    refine g_iconst h dX12_cord_1 (v := nI 0) rfl ?_
    refine g_putI h fp_X12_1 dX12_cord_2 rfl rfl ?_
    refine g_aload_0 h dX12_cord_5 ?_
    refine g_iload_1 h dX12_cord_6 ?_
    refine g_cVi1 h rok0 mi_X12_isCord dX12_cord_7 ml_X12_372 rfl rfl rfl (Nat.le_of_ble_eq_true rfl) (Nat.le_of_ble_eq_true rfl) (sp_X12_isCord hB1 ?_)
    rw [show up2 I 80 0 (nI 0) 93 1 = nI (nN (bv I)) by rw [e93]; exact hcn.1, e1]
    refine g_if_eq h 32 dX12_cord_10 rfl (fun _ => ?_) (fun c => absurd rfl c)
    exact no (fun q => h1 q.1)
