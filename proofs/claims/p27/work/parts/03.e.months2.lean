theorem td_C {I : MI} (h : tdOK (dv I)) : I 36 0 = nI (nC (dv I)) ∧ nC (dv I) ≤ 6 := h.1
theorem td_N {I : MI} (h : tdOK (dv I)) : I 36 1 = nI (nN (dv I)) ∧ nN (dv I) ≤ 16 := h.2.1
theorem td_T {I : MI} (h : tdOK (dv I)) : I 36 2 = nI (nT (dv I)) ∧ nT (dv I) ≤ 6 := h.2.2.1
theorem td_K {I : MI} (h : tdOK (dv I)) : I 36 3 = nI (nK (dv I)) ∧ nK (dv I) ≤ 5 := h.2.2.2.1
theorem td_O {I : MI} (h : tdOK (dv I)) : I 36 4 = nI (nO (dv I)) ∧ nO (dv I) ≤ 20 := h.2.2.2.2.1
theorem td_S {I : MI} (h : tdOK (dv I)) : ∀ a, a < nT (dv I) → I 41 a = nI (zS (dv I) a) ∧ zS (dv I) a ≤ 8 := h.2.2.2.2.2.1
theorem td_Z {I : MI} (h : tdOK (dv I)) : I 55 2 = nI (nZ (dv I)) ∧ nZ (dv I) ≤ 400 := h.2.2.2.2.2.2.1
theorem td_k {I : MI} (h : tdOK (dv I)) : ∀ n, n < nZ (dv I) → I 56 n = nI (kD (dv I) n) ∧ kdOK (kD (dv I) n) := h.2.2.2.2.2.2.2.1
theorem td_o {I : MI} (h : tdOK (dv I)) : ∀ q, q < nO (dv I) → I 50 q = b2i (oT (dv I) q) ∧ I 51 q = nI (oG (dv I) q) ∧ I 52 q = nI (oK (dv I) q) ∧ I 53 q = nI (oF (dv I) q) ∧ I 54 q = nI (oE (dv I) q) ∧ oK (dv I) q < nK (dv I) ∧ (if oT (dv I) q then oG (dv I) q < nN (dv I) else oG (dv I) q < nT (dv I)) ∧ oB (dv I) q ≤ oF (dv I) q ∧ oF (dv I) q ≤ oE (dv I) q ∧ oE (dv I) q ≤ nZ (dv I) := h.2.2.2.2.2.2.2.2
def exD (D S : MI) : Nat → Nat → List Int32 → List Int32 := exS D S (nN D) (nK D) (nT D) (zS D) (kD D)
def rcD (D S : MI) (a b : Nat) : Int32 := rck D S (nN D) (nK D) (nT D) (zS D) (kD D) a b
def crD (D S : MI) (q : Nat) (x : Int32) : MI := crS D S (nN D) (zS D) (oT D q) (oG D q) (oK D q) x
def loF (D : MI) : Nat → Nat → MI → MI
  | 0, _, S => S
  | f + 1, q, S => loF D f (q + 1) (if oF D q = oE D q ∨ ¬ rcD D S (oF D q) (oE D q) = 0 then crD D S q (rcD D S (oB D q) (oF D q)) else S)
def psF (D : MI) : Nat → MI → MI
  | 0, S => S
  | n + 1, S => psF D n (emS D (loF D (nO D) 0 S) (nN D) (nK D))
theorem upd_rfl {f : Nat → Int32} {k : Nat} {x : Int32} : (fun j => if j = k then x else f j) = upd f k x := rfl
set_option maxHeartbeats 4000000 in
theorem sp_X1_length {d c : Nat} (hc : c = 55 ∨ c = 77) {I : MI} {J : MJ} {P : MP} {Q : Int32 → MI → MJ → MP → Prop} (hQ : Q (I c 2) I J P) : Sp yX1_length cX1_length 1 (some .int) d [.ref c] I J P (Qi Q) := by
  intro Γ h
  rcases hc with rfl | rfl
  · show VG Γ 0 0 0 [some (.ref 55)] [] _ _ _ _
    refine g_aload_0 h dX1_length_0 ?_
    refine g_getI h fl_X1_18 dX1_length_1 rfl rfl ?_
    refine g_iret h dX1_length_4 ?_
    exact hQ
  · show VG Γ 0 0 0 [some (.ref 77)] [] _ _ _ _
    refine g_aload_0 h dX1_length_0 ?_
    refine g_getI h fl_X1_18 dX1_length_1 rfl rfl ?_
    refine g_iret h dX1_length_4 ?_
    exact hQ
set_option maxHeartbeats 4000000 in
theorem lp_X0_reckoned_20 {Γ : Cx} {d a b : Nat} {I : MI} {J : MJ} {P : MP} (hT : P 20 0 = some 36) (hD : tdOK (dv I)) (hb : b ≤ nZ (dv I)) {Q : Int32 → MI → MJ → MP → Prop} (h : Vc RX0 cX0_reckoned 9 (some .int) (d + 3) Γ) : ∀ (f n : Nat) (L : List Int32) (I1 : MI) (x6 x7 x8 : Option Value), n + f = b → stk I1 L → cal I I1 → L.length ≤ n → (∀ I', cal I I' → Q ((exD (dv I) (sv 20 I) f n L).headD (nI 0)) I' J P) → VG Γ 0 0 21 [some (.ref 17), some (.ref 20), some (.int (nI a)), some (.int (nI b)), some (.ref 55), some (.int (nI n)), x6, x7, x8] [] I1 J P (Fnl Γ (Qi Q)) := by
  have hZ := td_Z hD
  intro f
  induction f with
  | zero =>
    intro n L I1 x6 x7 x8 hn hk hc hL hQ
    obtain rfl : n = b := by omega
    refine g_iload_5 h dX0_reckoned_21 ?_
    refine g_iload_3 h dX0_reckoned_23 ?_
    refine g_icmp_ge h 157 dX0_reckoned_24 rfl (fun c24 => ?_) (fun c24 => ?_)
    · refine g_aload_0 h dX0_reckoned_157 ?_
      refine g_cVi0 h rok0 mi_X0_pop dX0_reckoned_158 ml_X0_82 rfl rfl rfl (Nat.le_of_ble_eq_true rfl) (Nat.le_of_ble_eq_true rfl) (sp_X0_popG hk (by omega) (fun I2 hk2 hc2 => ?_))
      refine g_iret h dX0_reckoned_161 ?_
      exact hQ _ (cal.tr hc hc2)
    · exact absurd (nI_le (by omega) (by omega)) c24
  | succ f ih =>
    intro n L I1 x6 x7 x8 hn hk hc hL hQ
    have e1 := cal_dv hc
    have e2 := cal_sv (o := 20) (by decide) hc
    have hD1 : tdOK (dv I1) := by rw [e1]; exact hD
    obtain ⟨k1, k2⟩ := td_k hD n (by omega)
    have k1 : I1 56 n = nI (kD (dv I) n) := (congrFun (hc 56 (by decide) (by decide)) n).trans k1
    have z1 : I1 55 2 = nI (nZ (dv I)) := (congrFun (hc 55 (by decide) (by decide)) 2).trans hZ.1
    have kb : kD (dv I) n ≤ 47 := by unfold kdOK isOp isJo at k2; omega
    refine g_iload_5 h dX0_reckoned_21 ?_
    refine g_iload_3 h dX0_reckoned_23 ?_
    refine g_icmp_ge h 157 dX0_reckoned_24 rfl (fun c24 => ?_) (fun c24 => ?_)
    · exact absurd (leN c24 (by omega) (by omega)) (by omega)
    · refine g_iload_5 h dX0_reckoned_27 ?_
      refine g_aload_4 h dX0_reckoned_29 ?_
      refine g_cVi0 h rok0 mi_X1_length dX0_reckoned_31 ml_X0_61 rfl rfl rfl (Nat.le_of_ble_eq_true rfl) (Nat.le_of_ble_eq_true rfl) (sp_X1_length (Or.inl rfl) ?_)
      refine g_icmp_ge h 157 dX0_reckoned_34 rfl (fun c34 => ?_) (fun c34 => ?_)
      · exact absurd (leN (by simpa only [z1] using c34) (by omega) (by omega)) (by omega)
      · refine g_aload_4 h dX0_reckoned_37 ?_
        refine g_getC h fl_X0_67 dX0_reckoned_39 rfl rfl ?_
        refine g_iload_5 h dX0_reckoned_42 ?_
        refine g_iald h n dX0_reckoned_44 rfl rfl (by omega) ?_
        rw [k1]
        refine g_istore_6 h dX0_reckoned_45 (by decide) rfl ?_
        refine g_iload_6 h dX0_reckoned_47 ?_
        refine g_bipush h dX0_reckoned_49 (v := nI 22) rfl ?_
        refine g_icmp_le h 61 dX0_reckoned_51 rfl (fun c51 => ?_) (fun c51 => ?_)
        · have hop : kD (dv I) n ≤ 22 ∨ kD (dv I) n = 29 := by
            first
              | exact Or.inl (leN c51 (by omega) (by omega))
              | exact Or.inr (eqN (Classical.not_not.mp c58) (by omega) (by omega))
              | exact Or.inr (eqN c58 (by omega) (by omega))
          have hop2 : isOp (kD (dv I) n) := by unfold kdOK isOp isJo at k2; unfold isOp; omega
          refine g_aload_0 h dX0_reckoned_61 ?_
          refine g_aload_1 h dX0_reckoned_62 ?_
          refine g_iload_6 h dX0_reckoned_63 ?_
          refine g_aload_4 h dX0_reckoned_65 ?_
          refine g_getC h fl_X0_72 dX0_reckoned_67 rfl rfl ?_
          refine g_iload_5 h dX0_reckoned_70 ?_
          refine g_iald h n dX0_reckoned_72 rfl rfl (by omega) ?_
          refine g_cSi3 h rok0 mi_X0_operandOf dX0_reckoned_73 ml_X0_75 (Nat.le_of_ble_eq_true rfl) (Nat.le_of_ble_eq_true rfl) (sp_X0_operandOf_20 hop2 hT (td_N hD1).1 (td_N hD1).2 (td_K hD1).1 (td_K hD1).2 (td_T hD1).1 (td_T hD1).2 (td_S hD1) ?_)
          refine g_cVv1 h rok0 mi_X0_push dX0_reckoned_76 ml_X0_78 rfl rfl rfl (Nat.le_of_ble_eq_true rfl) (Nat.le_of_ble_eq_true rfl) (sp_X0_push hk (by omega) (fun I2 hk2 hc2 => ?_))
          refine g_goto h 151 dX0_reckoned_79 rfl ?_
          refine g_iinc_5 h dX0_reckoned_151 (inc1 _) (by decide) rfl ?_
          refine g_goto h 21 dX0_reckoned_154 rfl ?_
          first
            | (refine ih (n + 1) _ I2 _ _ _ (by omega) hk2 (hc.tr hc2) (by simp; omega) (fun I' hI' => ?_)
               have hq := hQ I' hI'
               rw [exD, exS, if_pos hop] at hq
               rw [e1, e2, show I1 57 n = I 57 n from congrFun (hc 57 (by decide) (by decide)) n]
               exact hq)
            | (refine ih (n + 1) _ I4 _ _ _ (by omega) hk4 (((hc.tr hc2).tr hc3).tr hc4) (by simp; omega) (fun I' hI' => ?_)
               have hq := hQ I' hI'
               rw [exD, exS, if_neg hno, if_neg hn47, if_neg hn23] at hq
               exact hq)
            | (have h47 : kD (dv I) n = 47 := eqN c107 (by omega) (by omega)
               refine ih (n + 1) _ I3 _ _ _ (by omega) hk3 ((hc.tr hc2).tr hc3) (by simp; omega) (fun I' hI' => ?_)
               have hq := hQ I' hI'
               rw [exD, exS, if_neg hno, if_pos h47] at hq
               exact hq)
            | (have h47 : ¬ kD (dv I) n = 47 := fun q => c107 (by rw [q])
               have h23 : kD (dv I) n = 23 := by
                 first
                   | exact eqN c93 (by omega) (by omega)
                   | exact eqN (Classical.not_not.mp c93) (by omega) (by omega)
                   | exact absurd (eqN c86 (by omega) (by omega)) h47
               refine ih (n + 1) _ I3 _ _ _ (by omega) hk3 ((hc.tr hc2).tr hc3) (by simp; omega) (fun I' hI' => ?_)
               have hq := hQ I' hI'
               rw [exD, exS, if_neg hno, if_neg h47, if_pos h23] at hq
               exact hq)
        · refine g_iload_6 h dX0_reckoned_54 ?_
          refine g_bipush h dX0_reckoned_56 (v := nI 29) rfl ?_
          refine g_icmp_ne h 82 dX0_reckoned_58 rfl (fun c58 => ?_) (fun c58 => ?_)
          · have hno : ¬ (kD (dv I) n ≤ 22 ∨ kD (dv I) n = 29) := fun q => q.elim (fun q => c51 (nI_le q (by omega))) (fun q => c58 (by rw [q]))
            refine g_iload_6 h dX0_reckoned_82 ?_
            refine g_bipush h dX0_reckoned_84 (v := nI 47) rfl ?_
            refine g_icmp_eq h 96 dX0_reckoned_86 rfl (fun c86 => ?_) (fun c86 => ?_)
            · refine g_aload_0 h dX0_reckoned_96 ?_
              refine g_cVi0 h rok0 mi_X0_pop dX0_reckoned_97 ml_X0_82 rfl rfl rfl (Nat.le_of_ble_eq_true rfl) (Nat.le_of_ble_eq_true rfl) (sp_X0_popG hk (by omega) (fun I2 hk2 hc2 => ?_))
              refine g_istore_7 h dX0_reckoned_100 (by decide) rfl ?_
              refine g_aload_0 h dX0_reckoned_102 ?_
              refine g_iload_6 h dX0_reckoned_103 ?_
              refine g_bipush h dX0_reckoned_105 (v := nI 47) rfl ?_
              refine g_icmp_ne h 116 dX0_reckoned_107 rfl (fun c107 => ?_) (fun c107 => ?_)
              · refine g_iconst h dX0_reckoned_116 (v := nI 1) rfl ?_
                refine g_iload_7 h dX0_reckoned_117 ?_
                refine g_isub h dX0_reckoned_119 ?_
                refine g_cVv1 h rok0 mi_X0_push dX0_reckoned_120 ml_X0_78 rfl rfl rfl (Nat.le_of_ble_eq_true rfl) (Nat.le_of_ble_eq_true rfl) (sp_X0_push hk2 (by simp; omega) (fun I3 hk3 hc3 => ?_))
                refine g_goto h 151 dX0_reckoned_123 rfl ?_
                refine g_iinc_5 h dX0_reckoned_151 (inc1 _) (by decide) rfl ?_
                refine g_goto h 21 dX0_reckoned_154 rfl ?_
                first
                  | (refine ih (n + 1) _ I2 _ _ _ (by omega) hk2 (hc.tr hc2) (by simp; omega) (fun I' hI' => ?_)
                     have hq := hQ I' hI'
                     rw [exD, exS, if_pos hop] at hq
                     rw [e1, e2, show I1 57 n = I 57 n from congrFun (hc 57 (by decide) (by decide)) n]
                     exact hq)
                  | (refine ih (n + 1) _ I4 _ _ _ (by omega) hk4 (((hc.tr hc2).tr hc3).tr hc4) (by simp; omega) (fun I' hI' => ?_)
                     have hq := hQ I' hI'
                     rw [exD, exS, if_neg hno, if_neg hn47, if_neg hn23] at hq
                     exact hq)
                  | (have h47 : kD (dv I) n = 47 := eqN c107 (by omega) (by omega)
                     refine ih (n + 1) _ I3 _ _ _ (by omega) hk3 ((hc.tr hc2).tr hc3) (by simp; omega) (fun I' hI' => ?_)
                     have hq := hQ I' hI'
                     rw [exD, exS, if_neg hno, if_pos h47] at hq
                     exact hq)
                  | (have h47 : ¬ kD (dv I) n = 47 := fun q => c107 (by rw [q])
                     have h23 : kD (dv I) n = 23 := by
                       first
                         | exact eqN c93 (by omega) (by omega)
                         | exact eqN (Classical.not_not.mp c93) (by omega) (by omega)
                         | exact absurd (eqN c86 (by omega) (by omega)) h47
                     refine ih (n + 1) _ I3 _ _ _ (by omega) hk3 ((hc.tr hc2).tr hc3) (by simp; omega) (fun I' hI' => ?_)
                     have hq := hQ I' hI'
                     rw [exD, exS, if_neg hno, if_neg h47, if_pos h23] at hq
                     exact hq)
              · refine g_iload_7 h dX0_reckoned_110 ?_
                refine g_ineg h dX0_reckoned_112 ?_
                refine g_goto h 120 dX0_reckoned_113 rfl ?_
                refine g_cVv1 h rok0 mi_X0_push dX0_reckoned_120 ml_X0_78 rfl rfl rfl (Nat.le_of_ble_eq_true rfl) (Nat.le_of_ble_eq_true rfl) (sp_X0_push hk2 (by simp; omega) (fun I3 hk3 hc3 => ?_))
                refine g_goto h 151 dX0_reckoned_123 rfl ?_
                refine g_iinc_5 h dX0_reckoned_151 (inc1 _) (by decide) rfl ?_
                refine g_goto h 21 dX0_reckoned_154 rfl ?_
                first
                  | (refine ih (n + 1) _ I2 _ _ _ (by omega) hk2 (hc.tr hc2) (by simp; omega) (fun I' hI' => ?_)
                     have hq := hQ I' hI'
                     rw [exD, exS, if_pos hop] at hq
                     rw [e1, e2, show I1 57 n = I 57 n from congrFun (hc 57 (by decide) (by decide)) n]
                     exact hq)
                  | (refine ih (n + 1) _ I4 _ _ _ (by omega) hk4 (((hc.tr hc2).tr hc3).tr hc4) (by simp; omega) (fun I' hI' => ?_)
                     have hq := hQ I' hI'
                     rw [exD, exS, if_neg hno, if_neg hn47, if_neg hn23] at hq
                     exact hq)
                  | (have h47 : kD (dv I) n = 47 := eqN c107 (by omega) (by omega)
                     refine ih (n + 1) _ I3 _ _ _ (by omega) hk3 ((hc.tr hc2).tr hc3) (by simp; omega) (fun I' hI' => ?_)
                     have hq := hQ I' hI'
                     rw [exD, exS, if_neg hno, if_pos h47] at hq
                     exact hq)
                  | (have h47 : ¬ kD (dv I) n = 47 := fun q => c107 (by rw [q])
                     have h23 : kD (dv I) n = 23 := by
                       first
                         | exact eqN c93 (by omega) (by omega)
                         | exact eqN (Classical.not_not.mp c93) (by omega) (by omega)
                         | exact absurd (eqN c86 (by omega) (by omega)) h47
                     refine ih (n + 1) _ I3 _ _ _ (by omega) hk3 ((hc.tr hc2).tr hc3) (by simp; omega) (fun I' hI' => ?_)
                     have hq := hQ I' hI'
                     rw [exD, exS, if_neg hno, if_neg h47, if_pos h23] at hq
                     exact hq)
            · refine g_iload_6 h dX0_reckoned_89 ?_
              refine g_bipush h dX0_reckoned_91 (v := nI 23) rfl ?_
              refine g_icmp_ne h 126 dX0_reckoned_93 rfl (fun c93 => ?_) (fun c93 => ?_)
              · have hn47 : ¬ kD (dv I) n = 47 := fun q => c86 (by rw [q])
                have hn23 : ¬ kD (dv I) n = 23 := fun q => c93 (by rw [q])
                have hjo : isJo (kD (dv I) n) := by unfold kdOK isOp at k2; unfold isJo at k2 ⊢; omega
                refine g_aload_0 h dX0_reckoned_126 ?_
                refine g_cVi0 h rok0 mi_X0_pop dX0_reckoned_127 ml_X0_82 rfl rfl rfl (Nat.le_of_ble_eq_true rfl) (Nat.le_of_ble_eq_true rfl) (sp_X0_popG hk (by omega) (fun I2 hk2 hc2 => ?_))
                refine g_istore_7 h dX0_reckoned_130 (by decide) rfl ?_
                refine g_aload_0 h dX0_reckoned_132 ?_
                refine g_cVi0 h rok0 mi_X0_pop dX0_reckoned_133 ml_X0_82 rfl rfl rfl (Nat.le_of_ble_eq_true rfl) (Nat.le_of_ble_eq_true rfl) (sp_X0_popG hk2 (by simp; omega) (fun I3 hk3 hc3 => ?_))
                refine g_istore_8 h dX0_reckoned_136 (by decide) rfl ?_
                refine g_aload_0 h dX0_reckoned_138 ?_
                refine g_iload_6 h dX0_reckoned_139 ?_
                refine g_iload_8 h dX0_reckoned_141 ?_
                refine g_iload_7 h dX0_reckoned_143 ?_
                refine g_cSi3 h rok0 mi_X0_joined dX0_reckoned_145 ml_X0_85 (Nat.le_of_ble_eq_true rfl) (Nat.le_of_ble_eq_true rfl) (sp_X0_joined hjo ?_)
                refine g_cVv1 h rok0 mi_X0_push dX0_reckoned_148 ml_X0_78 rfl rfl rfl (Nat.le_of_ble_eq_true rfl) (Nat.le_of_ble_eq_true rfl) (sp_X0_push hk3 (by simp; omega) (fun I4 hk4 hc4 => ?_))
                refine g_iinc_5 h dX0_reckoned_151 (inc1 _) (by decide) rfl ?_
                refine g_goto h 21 dX0_reckoned_154 rfl ?_
                first
                  | (refine ih (n + 1) _ I2 _ _ _ (by omega) hk2 (hc.tr hc2) (by simp; omega) (fun I' hI' => ?_)
                     have hq := hQ I' hI'
                     rw [exD, exS, if_pos hop] at hq
                     rw [e1, e2, show I1 57 n = I 57 n from congrFun (hc 57 (by decide) (by decide)) n]
                     exact hq)
                  | (refine ih (n + 1) _ I4 _ _ _ (by omega) hk4 (((hc.tr hc2).tr hc3).tr hc4) (by simp; omega) (fun I' hI' => ?_)
                     have hq := hQ I' hI'
                     rw [exD, exS, if_neg hno, if_neg hn47, if_neg hn23] at hq
                     exact hq)
                  | (have h47 : kD (dv I) n = 47 := eqN c107 (by omega) (by omega)
                     refine ih (n + 1) _ I3 _ _ _ (by omega) hk3 ((hc.tr hc2).tr hc3) (by simp; omega) (fun I' hI' => ?_)
                     have hq := hQ I' hI'
                     rw [exD, exS, if_neg hno, if_pos h47] at hq
                     exact hq)
                  | (have h47 : ¬ kD (dv I) n = 47 := fun q => c107 (by rw [q])
                     have h23 : kD (dv I) n = 23 := by
                       first
                         | exact eqN c93 (by omega) (by omega)
                         | exact eqN (Classical.not_not.mp c93) (by omega) (by omega)
                         | exact absurd (eqN c86 (by omega) (by omega)) h47
                     refine ih (n + 1) _ I3 _ _ _ (by omega) hk3 ((hc.tr hc2).tr hc3) (by simp; omega) (fun I' hI' => ?_)
                     have hq := hQ I' hI'
                     rw [exD, exS, if_neg hno, if_neg h47, if_pos h23] at hq
                     exact hq)
              · refine g_aload_0 h dX0_reckoned_96 ?_
                refine g_cVi0 h rok0 mi_X0_pop dX0_reckoned_97 ml_X0_82 rfl rfl rfl (Nat.le_of_ble_eq_true rfl) (Nat.le_of_ble_eq_true rfl) (sp_X0_popG hk (by omega) (fun I2 hk2 hc2 => ?_))
                refine g_istore_7 h dX0_reckoned_100 (by decide) rfl ?_
                refine g_aload_0 h dX0_reckoned_102 ?_
                refine g_iload_6 h dX0_reckoned_103 ?_
                refine g_bipush h dX0_reckoned_105 (v := nI 47) rfl ?_
                refine g_icmp_ne h 116 dX0_reckoned_107 rfl (fun c107 => ?_) (fun c107 => ?_)
                · refine g_iconst h dX0_reckoned_116 (v := nI 1) rfl ?_
                  refine g_iload_7 h dX0_reckoned_117 ?_
                  refine g_isub h dX0_reckoned_119 ?_
                  refine g_cVv1 h rok0 mi_X0_push dX0_reckoned_120 ml_X0_78 rfl rfl rfl (Nat.le_of_ble_eq_true rfl) (Nat.le_of_ble_eq_true rfl) (sp_X0_push hk2 (by simp; omega) (fun I3 hk3 hc3 => ?_))
                  refine g_goto h 151 dX0_reckoned_123 rfl ?_
                  refine g_iinc_5 h dX0_reckoned_151 (inc1 _) (by decide) rfl ?_
                  refine g_goto h 21 dX0_reckoned_154 rfl ?_
                  first
                    | (refine ih (n + 1) _ I2 _ _ _ (by omega) hk2 (hc.tr hc2) (by simp; omega) (fun I' hI' => ?_)
                       have hq := hQ I' hI'
                       rw [exD, exS, if_pos hop] at hq
                       rw [e1, e2, show I1 57 n = I 57 n from congrFun (hc 57 (by decide) (by decide)) n]
                       exact hq)
                    | (refine ih (n + 1) _ I4 _ _ _ (by omega) hk4 (((hc.tr hc2).tr hc3).tr hc4) (by simp; omega) (fun I' hI' => ?_)
                       have hq := hQ I' hI'
                       rw [exD, exS, if_neg hno, if_neg hn47, if_neg hn23] at hq
                       exact hq)
                    | (have h47 : kD (dv I) n = 47 := eqN c107 (by omega) (by omega)
                       refine ih (n + 1) _ I3 _ _ _ (by omega) hk3 ((hc.tr hc2).tr hc3) (by simp; omega) (fun I' hI' => ?_)
                       have hq := hQ I' hI'
                       rw [exD, exS, if_neg hno, if_pos h47] at hq
                       exact hq)
                    | (have h47 : ¬ kD (dv I) n = 47 := fun q => c107 (by rw [q])
                       have h23 : kD (dv I) n = 23 := by
                         first
                           | exact eqN c93 (by omega) (by omega)
                           | exact eqN (Classical.not_not.mp c93) (by omega) (by omega)
                           | exact absurd (eqN c86 (by omega) (by omega)) h47
                       refine ih (n + 1) _ I3 _ _ _ (by omega) hk3 ((hc.tr hc2).tr hc3) (by simp; omega) (fun I' hI' => ?_)
                       have hq := hQ I' hI'
                       rw [exD, exS, if_neg hno, if_neg h47, if_pos h23] at hq
                       exact hq)
                · refine g_iload_7 h dX0_reckoned_110 ?_
                  refine g_ineg h dX0_reckoned_112 ?_
                  refine g_goto h 120 dX0_reckoned_113 rfl ?_
                  refine g_cVv1 h rok0 mi_X0_push dX0_reckoned_120 ml_X0_78 rfl rfl rfl (Nat.le_of_ble_eq_true rfl) (Nat.le_of_ble_eq_true rfl) (sp_X0_push hk2 (by simp; omega) (fun I3 hk3 hc3 => ?_))
                  refine g_goto h 151 dX0_reckoned_123 rfl ?_
                  refine g_iinc_5 h dX0_reckoned_151 (inc1 _) (by decide) rfl ?_
                  refine g_goto h 21 dX0_reckoned_154 rfl ?_
                  first
                    | (refine ih (n + 1) _ I2 _ _ _ (by omega) hk2 (hc.tr hc2) (by simp; omega) (fun I' hI' => ?_)
                       have hq := hQ I' hI'
                       rw [exD, exS, if_pos hop] at hq
                       rw [e1, e2, show I1 57 n = I 57 n from congrFun (hc 57 (by decide) (by decide)) n]
                       exact hq)
                    | (refine ih (n + 1) _ I4 _ _ _ (by omega) hk4 (((hc.tr hc2).tr hc3).tr hc4) (by simp; omega) (fun I' hI' => ?_)
                       have hq := hQ I' hI'
                       rw [exD, exS, if_neg hno, if_neg hn47, if_neg hn23] at hq
                       exact hq)
                    | (have h47 : kD (dv I) n = 47 := eqN c107 (by omega) (by omega)
                       refine ih (n + 1) _ I3 _ _ _ (by omega) hk3 ((hc.tr hc2).tr hc3) (by simp; omega) (fun I' hI' => ?_)
                       have hq := hQ I' hI'
                       rw [exD, exS, if_neg hno, if_pos h47] at hq
                       exact hq)
                    | (have h47 : ¬ kD (dv I) n = 47 := fun q => c107 (by rw [q])
                       have h23 : kD (dv I) n = 23 := by
                         first
                           | exact eqN c93 (by omega) (by omega)
                           | exact eqN (Classical.not_not.mp c93) (by omega) (by omega)
                           | exact absurd (eqN c86 (by omega) (by omega)) h47
                       refine ih (n + 1) _ I3 _ _ _ (by omega) hk3 ((hc.tr hc2).tr hc3) (by simp; omega) (fun I' hI' => ?_)
                       have hq := hQ I' hI'
                       rw [exD, exS, if_neg hno, if_neg h47, if_pos h23] at hq
                       exact hq)
          · have hop : kD (dv I) n ≤ 22 ∨ kD (dv I) n = 29 := by
              first
                | exact Or.inl (leN c51 (by omega) (by omega))
                | exact Or.inr (eqN (Classical.not_not.mp c58) (by omega) (by omega))
                | exact Or.inr (eqN c58 (by omega) (by omega))
            have hop2 : isOp (kD (dv I) n) := by unfold kdOK isOp isJo at k2; unfold isOp; omega
            refine g_aload_0 h dX0_reckoned_61 ?_
            refine g_aload_1 h dX0_reckoned_62 ?_
            refine g_iload_6 h dX0_reckoned_63 ?_
            refine g_aload_4 h dX0_reckoned_65 ?_
            refine g_getC h fl_X0_72 dX0_reckoned_67 rfl rfl ?_
            refine g_iload_5 h dX0_reckoned_70 ?_
            refine g_iald h n dX0_reckoned_72 rfl rfl (by omega) ?_
            refine g_cSi3 h rok0 mi_X0_operandOf dX0_reckoned_73 ml_X0_75 (Nat.le_of_ble_eq_true rfl) (Nat.le_of_ble_eq_true rfl) (sp_X0_operandOf_20 hop2 hT (td_N hD1).1 (td_N hD1).2 (td_K hD1).1 (td_K hD1).2 (td_T hD1).1 (td_T hD1).2 (td_S hD1) ?_)
            refine g_cVv1 h rok0 mi_X0_push dX0_reckoned_76 ml_X0_78 rfl rfl rfl (Nat.le_of_ble_eq_true rfl) (Nat.le_of_ble_eq_true rfl) (sp_X0_push hk (by omega) (fun I2 hk2 hc2 => ?_))
            refine g_goto h 151 dX0_reckoned_79 rfl ?_
            refine g_iinc_5 h dX0_reckoned_151 (inc1 _) (by decide) rfl ?_
            refine g_goto h 21 dX0_reckoned_154 rfl ?_
            first
              | (refine ih (n + 1) _ I2 _ _ _ (by omega) hk2 (hc.tr hc2) (by simp; omega) (fun I' hI' => ?_)
                 have hq := hQ I' hI'
                 rw [exD, exS, if_pos hop] at hq
                 rw [e1, e2, show I1 57 n = I 57 n from congrFun (hc 57 (by decide) (by decide)) n]
                 exact hq)
              | (refine ih (n + 1) _ I4 _ _ _ (by omega) hk4 (((hc.tr hc2).tr hc3).tr hc4) (by simp; omega) (fun I' hI' => ?_)
                 have hq := hQ I' hI'
                 rw [exD, exS, if_neg hno, if_neg hn47, if_neg hn23] at hq
                 exact hq)
              | (have h47 : kD (dv I) n = 47 := eqN c107 (by omega) (by omega)
                 refine ih (n + 1) _ I3 _ _ _ (by omega) hk3 ((hc.tr hc2).tr hc3) (by simp; omega) (fun I' hI' => ?_)
                 have hq := hQ I' hI'
                 rw [exD, exS, if_neg hno, if_pos h47] at hq
                 exact hq)
              | (have h47 : ¬ kD (dv I) n = 47 := fun q => c107 (by rw [q])
                 have h23 : kD (dv I) n = 23 := by
                   first
                     | exact eqN c93 (by omega) (by omega)
                     | exact eqN (Classical.not_not.mp c93) (by omega) (by omega)
                     | exact absurd (eqN c86 (by omega) (by omega)) h47
                 refine ih (n + 1) _ I3 _ _ _ (by omega) hk3 ((hc.tr hc2).tr hc3) (by simp; omega) (fun I' hI' => ?_)
                 have hq := hQ I' hI'
                 rw [exD, exS, if_neg hno, if_neg h47, if_pos h23] at hq
                 exact hq)
set_option maxRecDepth 100000 in
set_option maxHeartbeats 4000000 in
theorem sp_X0_reckoned_20 {d a b : Nat} {I : MI} {J : MJ} {P : MP} (hT : P 20 0 = some 36) (hD : tdOK (dv I)) (hab : a ≤ b) (hb : b ≤ nZ (dv I)) {Q : Int32 → MI → MJ → MP → Prop} (hQ : ∀ I', cal I I' → Q (rcD (dv I) (sv 20 I) a b) I' J P) : Sp yX0_reckoned cX0_reckoned 9 (some .int) (d + 3) [.ref 17, .ref 20, .int (nI a), .int (nI b)] I J P (Qi Q) := by
  intro Γ h
  show VG Γ 0 0 0 [some (.ref 17), some (.ref 20), some (.int (nI a)), some (.int (nI b)), none, none, none, none, none] [] _ _ _ _
  have hZ := td_Z hD
  refine g_aload_1 h dX0_reckoned_0 ?_
  refine g_getP h fl_X0_28 dX0_reckoned_1 rfl rfl (by assumption) ?_
  refine g_getC h fl_X0_51 dX0_reckoned_4 rfl rfl ?_
  refine g_astore_4 h dX0_reckoned_7 (by decide) rfl ?_
  refine g_aload_0 h dX0_reckoned_9 ?_
  refine g_iconst h dX0_reckoned_10 (v := nI 0) rfl ?_
  refine g_putI h fp_X0_15 dX0_reckoned_11 rfl rfl ?_
  refine g_iload_2 h dX0_reckoned_14 ?_
  refine g_iconst h dX0_reckoned_15 (v := nI 0) rfl ?_
  refine g_mmax h dX0_reckoned_16 ml_X0_55 rok0 (Nat.le_of_ble_eq_true rfl) ?_
  rw [if_neg (nI_nlt (Nat.zero_le a) (by omega))]
  refine g_istore_5 h dX0_reckoned_19 (by decide) rfl ?_
  exact lp_X0_reckoned_20 hT hD hb h (b - a) a [] _ _ _ _ (by omega) ⟨by simp [up2], fun j hj => absurd hj (Nat.not_lt_zero j)⟩ cal.a (Nat.zero_le _) hQ
set_option maxHeartbeats 4000000 in
theorem sp_X5_carryOut_20 {d q : Nat} {I : MI} {J : MJ} {P : MP} (hT : P 20 0 = some 36) (hD : tdOK (dv I)) (hq : q < nO (dv I)) {x : Int32} {Q : MI → MJ → MP → Prop} (hQ : ∀ I', stS 20 I I' (crD (dv I) (sv 20 I) q x) → Q I' J P) : Sp yX5_carryOut cX5_carryOut 8 none (d + 3) [.ref 20, .int (nI q), .int x] I J P (Qv Q) := by
  intro Γ h
  show VG Γ 0 0 0 [some (.ref 20), some (.int (nI q)), some (.int x), none, none, none, none, none] [] _ _ _ _
  obtain ⟨o1, o2, o3, -, -, o6, o7, -, -, -⟩ := td_o hD q hq
  have hN := td_N hD
  have hTp := td_T hD
  have hK := td_K hD
  have hO := td_O hD
  have hsz := td_S hD
  unfold crD at hQ
  generalize oT (dv I) q = tie at o1 o7 hQ
  generalize oG (dv I) q = tg at o2 o7 hQ
  generalize oK (dv I) q = kk at o3 o6 hQ
  cases tie
  · have o7 : tg < nT (dv I) := by simpa using o7
    refine g_aload_0 h dX5_carryOut_0 ?_
    refine g_getP h fl_X5_43 dX5_carryOut_1 rfl rfl (by assumption) ?_
    refine g_getC h fl_X5_127 dX5_carryOut_4 rfl rfl ?_
    refine g_iload_1 h dX5_carryOut_7 ?_
    refine g_iald h q dX5_carryOut_8 rfl rfl (by omega) ?_
    rw [o3]
    refine g_istore_3 h dX5_carryOut_9 (by decide) rfl ?_
    refine g_aload_0 h dX5_carryOut_10 ?_
    refine g_getP h fl_X5_43 dX5_carryOut_11 rfl rfl (by assumption) ?_
    refine g_getC h fl_X5_130 dX5_carryOut_14 rfl rfl ?_
    refine g_iload_1 h dX5_carryOut_17 ?_
    refine g_iald h q dX5_carryOut_18 rfl rfl (by omega) ?_
    rw [o2]
    refine g_istore_4 h dX5_carryOut_19 (by decide) rfl ?_
    refine g_aload_0 h dX5_carryOut_21 ?_
    refine g_getP h fl_X5_43 dX5_carryOut_22 rfl rfl (by assumption) ?_
    refine g_getC h fl_X5_133 dX5_carryOut_25 rfl rfl ?_
    refine g_iload_1 h dX5_carryOut_28 ?_
    refine g_zald h q dX5_carryOut_29 rfl rfl (by omega) ?_
    rw [o1]
    refine g_istore_5 h dX5_carryOut_30 (by decide) rfl ?_
    refine g_iload_5 h dX5_carryOut_32 ?_
    refine g_if_eq h 49 dX5_carryOut_34 rfl (fun c34 => ?_) (fun c34 => ?_)
    · refine g_aload_0 h dX5_carryOut_49 ?_
      refine g_getP h fl_X5_43 dX5_carryOut_50 rfl rfl (by assumption) ?_
      refine g_iload_4 h dX5_carryOut_53 ?_
      refine g_cVi1 h rok0 mi_X9_hasTop dX5_carryOut_55 ml_X5_137 rfl rfl rfl (Nat.le_of_ble_eq_true rfl) (Nat.le_of_ble_eq_true rfl) (sp_X9_hasTop (Or.inl rfl) ?_)
      refine g_istore_6 h dX5_carryOut_58 (by decide) rfl ?_
      refine g_iload_6 h dX5_carryOut_60 ?_
      refine g_if_eq h 76 dX5_carryOut_62 rfl (fun c62 => ?_) (fun c62 => ?_)
      · exact (hasI hTp.1 rfl rfl o7 hTp.2 (by decide) c62).elim
      · refine g_aload_0 h dX5_carryOut_65 ?_
        refine g_getP h fl_X5_43 dX5_carryOut_66 rfl rfl (by assumption) ?_
        refine g_iload_3 h dX5_carryOut_69 ?_
        refine g_cVi1 h rok0 mi_X9_hasKeeper dX5_carryOut_70 ml_X5_140 rfl rfl rfl (Nat.le_of_ble_eq_true rfl) (Nat.le_of_ble_eq_true rfl) (sp_X9_hasKeeper (Or.inl rfl) ?_)
        refine g_if_ne h 77 dX5_carryOut_73 rfl (fun c73 => ?_) (fun c73 => ?_)
        · refine g_iload_5 h dX5_carryOut_77 ?_
          refine g_if_eq h 96 dX5_carryOut_79 rfl (fun c79 => ?_) (fun c79 => ?_)
          · refine g_aload_0 h dX5_carryOut_96 ?_
            refine g_iload_4 h dX5_carryOut_97 ?_
            refine g_cVi1 h rok0 mi_X5_countedBelow dX5_carryOut_99 ml_X5_115 rfl rfl rfl (Nat.le_of_ble_eq_true rfl) (Nat.le_of_ble_eq_true rfl) (sp_X5_countedBelow_20 hT hN.1 hN.2 (by omega) (hsz tg o7).1 (hsz tg o7).2 ?_)
            refine g_istore_7 h dX5_carryOut_102 (by decide) rfl ?_
            refine g_aload_0 h dX5_carryOut_104 ?_
            refine g_iload_3 h dX5_carryOut_105 ?_
            refine g_cVi1 h rok0 mi_X5_isTooTired dX5_carryOut_106 ml_X5_146 rfl rfl rfl (Nat.le_of_ble_eq_true rfl) (Nat.le_of_ble_eq_true rfl) (sp_X5_isTooTired_20 hT (by omega) ?_)
            refine g_if_eq h 122 dX5_carryOut_109 rfl (fun c109 => ?_) (fun c109 => ?_)
            · refine g_iload_5 h dX5_carryOut_122 ?_
              refine g_if_eq h 138 dX5_carryOut_124 rfl (fun c124 => ?_) (fun c124 => ?_)
              · refine g_aload_0 h dX5_carryOut_138 ?_
                refine g_getC h fl_X5_34 dX5_carryOut_139 rfl rfl ?_
                refine g_iload_4 h dX5_carryOut_142 ?_
                refine g_iload_7 h dX5_carryOut_144 ?_
                refine g_iast h tg dX5_carryOut_146 rfl rfl (by omega) ?_
                refine g_aload_0 h dX5_carryOut_147 ?_
                refine g_getC h fl_X5_37 dX5_carryOut_148 rfl rfl ?_
                refine g_iload_3 h dX5_carryOut_151 ?_
                refine g_dup2 h dX5_carryOut_152 rfl rfl ?_
                refine g_iald h kk dX5_carryOut_153 rfl rfl (by omega) ?_
                refine g_iconst h dX5_carryOut_154 (v := nI 1) rfl ?_
                refine g_iload_7 h dX5_carryOut_155 ?_
                refine g_cSi1 h rok0 mi_X3_knotsOf dX5_carryOut_157 ml_X5_149 (Nat.le_of_ble_eq_true rfl) (Nat.le_of_ble_eq_true rfl) (sp_X3_knotsOf ?_)
                refine g_iconst h dX5_carryOut_160 (v := nI 4) rfl ?_
                refine g_idiv h dX5_carryOut_161 (by decide) ?_
                refine g_iadd h dX5_carryOut_162 ?_
                refine g_iadd h dX5_carryOut_163 ?_
                refine g_iast h kk dX5_carryOut_164 rfl rfl (by omega) ?_
                refine g_aload_0 h dX5_carryOut_165 ?_
                refine g_getC h fl_X5_40 dX5_carryOut_166 rfl rfl ?_
                refine g_iload_3 h dX5_carryOut_169 ?_
                refine g_dup2 h dX5_carryOut_170 rfl rfl ?_
                refine g_iald h kk dX5_carryOut_171 rfl rfl (by omega) ?_
                refine g_iconst h dX5_carryOut_172 (v := nI 1) rfl ?_
                refine g_iadd h dX5_carryOut_173 ?_
                refine g_iast h kk dX5_carryOut_174 rfl rfl (by omega) ?_
                refine g_aload_0 h dX5_carryOut_175 ?_
                refine g_dup h dX5_carryOut_176 rfl ?_
                refine g_getI h fl_X5_13 dX5_carryOut_177 rfl rfl ?_
                refine g_iconst h dX5_carryOut_180 (v := nI 1) rfl ?_
                refine g_iadd h dX5_carryOut_181 ?_
                refine g_putI h fp_X5_13 dX5_carryOut_182 rfl rfl ?_
                refine g_vret h dX5_carryOut_185 ?_
                refine hQ _ ⟨?_, fun a h1 h2 h3 => ?_⟩
                · have e9 := c109
                  first
                    | rw [b2i_n0] at e9
                    | rw [b2i_0] at e9
                  funext k
                  by_cases hk : k < 8
                  · rcases (show k = 0 ∨ k = 1 ∨ k = 2 ∨ k = 3 ∨ k = 4 ∨ k = 5 ∨ k = 6 ∨ k = 7 by omega) with rfl | rfl | rfl | rfl | rfl | rfl | rfl | rfl <;> simp [sv, dv, crS, putS, tdF, clF, up2_row, setRow, e9, rem10, cnb, show 36 + (7 + tg) = 43 + tg by omega]
                  · simp [sv, crS, putS, setRow, hk, show ¬ k = 0 by omega, show ¬ k = 3 by omega, show ¬ k = 4 by omega, show ¬ k = 5 by omega, show ¬ k = 6 by omega, show ¬ k = 7 by omega]
                · simp only [up2_row]
                  simp [setRow, show ¬ a = 20 by omega, show ¬ a = 23 by omega, show ¬ a = 24 by omega, show ¬ a = 25 by omega, show ¬ a = 26 by omega, show ¬ a = 27 by omega]
              · exact absurd c124 (by decide)
            · refine g_iload_7 h dX5_carryOut_112 ?_
              refine g_iload_7 h dX5_carryOut_114 ?_
              refine g_bipush h dX5_carryOut_116 (v := nI 10) rfl ?_
              refine g_irem h dX5_carryOut_118 (by decide) ?_
              refine g_isub h dX5_carryOut_119 ?_
              refine g_istore_7 h dX5_carryOut_120 (by decide) rfl ?_
              refine g_iload_5 h dX5_carryOut_122 ?_
              refine g_if_eq h 138 dX5_carryOut_124 rfl (fun c124 => ?_) (fun c124 => ?_)
              · refine g_aload_0 h dX5_carryOut_138 ?_
                refine g_getC h fl_X5_34 dX5_carryOut_139 rfl rfl ?_
                refine g_iload_4 h dX5_carryOut_142 ?_
                refine g_iload_7 h dX5_carryOut_144 ?_
                refine g_iast h tg dX5_carryOut_146 rfl rfl (by omega) ?_
                refine g_aload_0 h dX5_carryOut_147 ?_
                refine g_getC h fl_X5_37 dX5_carryOut_148 rfl rfl ?_
                refine g_iload_3 h dX5_carryOut_151 ?_
                refine g_dup2 h dX5_carryOut_152 rfl rfl ?_
                refine g_iald h kk dX5_carryOut_153 rfl rfl (by omega) ?_
                refine g_iconst h dX5_carryOut_154 (v := nI 1) rfl ?_
                refine g_iload_7 h dX5_carryOut_155 ?_
                refine g_cSi1 h rok0 mi_X3_knotsOf dX5_carryOut_157 ml_X5_149 (Nat.le_of_ble_eq_true rfl) (Nat.le_of_ble_eq_true rfl) (sp_X3_knotsOf ?_)
                refine g_iconst h dX5_carryOut_160 (v := nI 4) rfl ?_
                refine g_idiv h dX5_carryOut_161 (by decide) ?_
                refine g_iadd h dX5_carryOut_162 ?_
                refine g_iadd h dX5_carryOut_163 ?_
                refine g_iast h kk dX5_carryOut_164 rfl rfl (by omega) ?_
                refine g_aload_0 h dX5_carryOut_165 ?_
                refine g_getC h fl_X5_40 dX5_carryOut_166 rfl rfl ?_
                refine g_iload_3 h dX5_carryOut_169 ?_
                refine g_dup2 h dX5_carryOut_170 rfl rfl ?_
                refine g_iald h kk dX5_carryOut_171 rfl rfl (by omega) ?_
                refine g_iconst h dX5_carryOut_172 (v := nI 1) rfl ?_
                refine g_iadd h dX5_carryOut_173 ?_
                refine g_iast h kk dX5_carryOut_174 rfl rfl (by omega) ?_
                refine g_aload_0 h dX5_carryOut_175 ?_
                refine g_dup h dX5_carryOut_176 rfl ?_
                refine g_getI h fl_X5_13 dX5_carryOut_177 rfl rfl ?_
                refine g_iconst h dX5_carryOut_180 (v := nI 1) rfl ?_
                refine g_iadd h dX5_carryOut_181 ?_
                refine g_putI h fp_X5_13 dX5_carryOut_182 rfl rfl ?_
                refine g_vret h dX5_carryOut_185 ?_
                refine hQ _ ⟨?_, fun a h1 h2 h3 => ?_⟩
                · have e9 := c109
                  first
                    | rw [b2i_n0] at e9
                    | rw [b2i_0] at e9
                  funext k
                  by_cases hk : k < 8
                  · rcases (show k = 0 ∨ k = 1 ∨ k = 2 ∨ k = 3 ∨ k = 4 ∨ k = 5 ∨ k = 6 ∨ k = 7 by omega) with rfl | rfl | rfl | rfl | rfl | rfl | rfl | rfl <;> simp [sv, dv, crS, putS, tdF, clF, up2_row, setRow, e9, rem10, cnb, show 36 + (7 + tg) = 43 + tg by omega]
                  · simp [sv, crS, putS, setRow, hk, show ¬ k = 0 by omega, show ¬ k = 3 by omega, show ¬ k = 4 by omega, show ¬ k = 5 by omega, show ¬ k = 6 by omega, show ¬ k = 7 by omega]
                · simp only [up2_row]
                  simp [setRow, show ¬ a = 20 by omega, show ¬ a = 23 by omega, show ¬ a = 24 by omega, show ¬ a = 25 by omega, show ¬ a = 26 by omega, show ¬ a = 27 by omega]
              · exact absurd c124 (by decide)
          · exact absurd c79 (by decide)
        · exact (hasI hK.1 rfl rfl o6 hK.2 (by decide) c73).elim
    · exact absurd c34 (by decide)
  · have o7 : tg < nN (dv I) := by simpa using o7
    refine g_aload_0 h dX5_carryOut_0 ?_
    refine g_getP h fl_X5_43 dX5_carryOut_1 rfl rfl (by assumption) ?_
    refine g_getC h fl_X5_127 dX5_carryOut_4 rfl rfl ?_
    refine g_iload_1 h dX5_carryOut_7 ?_
    refine g_iald h q dX5_carryOut_8 rfl rfl (by omega) ?_
    rw [o3]
    refine g_istore_3 h dX5_carryOut_9 (by decide) rfl ?_
    refine g_aload_0 h dX5_carryOut_10 ?_
    refine g_getP h fl_X5_43 dX5_carryOut_11 rfl rfl (by assumption) ?_
    refine g_getC h fl_X5_130 dX5_carryOut_14 rfl rfl ?_
    refine g_iload_1 h dX5_carryOut_17 ?_
    refine g_iald h q dX5_carryOut_18 rfl rfl (by omega) ?_
    rw [o2]
    refine g_istore_4 h dX5_carryOut_19 (by decide) rfl ?_
    refine g_aload_0 h dX5_carryOut_21 ?_
    refine g_getP h fl_X5_43 dX5_carryOut_22 rfl rfl (by assumption) ?_
    refine g_getC h fl_X5_133 dX5_carryOut_25 rfl rfl ?_
    refine g_iload_1 h dX5_carryOut_28 ?_
    refine g_zald h q dX5_carryOut_29 rfl rfl (by omega) ?_
    rw [o1]
    refine g_istore_5 h dX5_carryOut_30 (by decide) rfl ?_
    refine g_iload_5 h dX5_carryOut_32 ?_
    refine g_if_eq h 49 dX5_carryOut_34 rfl (fun c34 => ?_) (fun c34 => ?_)
    · exact absurd c34 (by decide)
    · refine g_aload_0 h dX5_carryOut_37 ?_
      refine g_getP h fl_X5_43 dX5_carryOut_38 rfl rfl (by assumption) ?_
      refine g_iload_4 h dX5_carryOut_41 ?_
      refine g_cVi1 h rok0 mi_X9_hasCord dX5_carryOut_43 ml_X5_72 rfl rfl rfl (Nat.le_of_ble_eq_true rfl) (Nat.le_of_ble_eq_true rfl) (sp_X9_hasCord (Or.inl rfl) ?_)
      refine g_goto h 58 dX5_carryOut_46 rfl ?_
      refine g_istore_6 h dX5_carryOut_58 (by decide) rfl ?_
      refine g_iload_6 h dX5_carryOut_60 ?_
      refine g_if_eq h 76 dX5_carryOut_62 rfl (fun c62 => ?_) (fun c62 => ?_)
      · exact (hasI hN.1 rfl rfl o7 hN.2 (by decide) c62).elim
      · refine g_aload_0 h dX5_carryOut_65 ?_
        refine g_getP h fl_X5_43 dX5_carryOut_66 rfl rfl (by assumption) ?_
        refine g_iload_3 h dX5_carryOut_69 ?_
        refine g_cVi1 h rok0 mi_X9_hasKeeper dX5_carryOut_70 ml_X5_140 rfl rfl rfl (Nat.le_of_ble_eq_true rfl) (Nat.le_of_ble_eq_true rfl) (sp_X9_hasKeeper (Or.inl rfl) ?_)
        refine g_if_ne h 77 dX5_carryOut_73 rfl (fun c73 => ?_) (fun c73 => ?_)
        · refine g_iload_5 h dX5_carryOut_77 ?_
          refine g_if_eq h 96 dX5_carryOut_79 rfl (fun c79 => ?_) (fun c79 => ?_)
          · exact absurd c79 (by decide)
          · refine g_iconst h dX5_carryOut_82 (v := nI 0) rfl ?_
            refine g_sipush h dX5_carryOut_83 (v := nI 9999) rfl ?_
            refine g_iload_2 h dX5_carryOut_86 ?_
            refine g_mmin h dX5_carryOut_87 ml_X5_143 rok0 (Nat.le_of_ble_eq_true rfl) ?_
            refine g_mmax h dX5_carryOut_90 ml_X5_84 rok0 (Nat.le_of_ble_eq_true rfl) ?_
            refine g_goto h 102 dX5_carryOut_93 rfl ?_
            refine g_istore_7 h dX5_carryOut_102 (by decide) rfl ?_
            refine g_aload_0 h dX5_carryOut_104 ?_
            refine g_iload_3 h dX5_carryOut_105 ?_
            refine g_cVi1 h rok0 mi_X5_isTooTired dX5_carryOut_106 ml_X5_146 rfl rfl rfl (Nat.le_of_ble_eq_true rfl) (Nat.le_of_ble_eq_true rfl) (sp_X5_isTooTired_20 hT (by omega) ?_)
            refine g_if_eq h 122 dX5_carryOut_109 rfl (fun c109 => ?_) (fun c109 => ?_)
            · refine g_iload_5 h dX5_carryOut_122 ?_
              refine g_if_eq h 138 dX5_carryOut_124 rfl (fun c124 => ?_) (fun c124 => ?_)
              · exact absurd c124 (by decide)
              · refine g_aload_0 h dX5_carryOut_127 ?_
                refine g_iload_4 h dX5_carryOut_128 ?_
                refine g_iload_7 h dX5_carryOut_130 ?_
                refine g_cVv2 h rok0 mi_X5_tieInto dX5_carryOut_132 ml_X5_59 rfl rfl rfl (Nat.le_of_ble_eq_true rfl) (Nat.le_of_ble_eq_true rfl) (sp_X5_tieInto_20 hT hN.1 hN.2 (by omega) ?_)
                refine g_goto h 147 dX5_carryOut_135 rfl ?_
                refine g_aload_0 h dX5_carryOut_147 ?_
                refine g_getC h fl_X5_37 dX5_carryOut_148 rfl rfl ?_
                refine g_iload_3 h dX5_carryOut_151 ?_
                refine g_dup2 h dX5_carryOut_152 rfl rfl ?_
                refine g_iald h kk dX5_carryOut_153 rfl rfl (by omega) ?_
                refine g_iconst h dX5_carryOut_154 (v := nI 1) rfl ?_
                refine g_iload_7 h dX5_carryOut_155 ?_
                refine g_cSi1 h rok0 mi_X3_knotsOf dX5_carryOut_157 ml_X5_149 (Nat.le_of_ble_eq_true rfl) (Nat.le_of_ble_eq_true rfl) (sp_X3_knotsOf ?_)
                refine g_iconst h dX5_carryOut_160 (v := nI 4) rfl ?_
                refine g_idiv h dX5_carryOut_161 (by decide) ?_
                refine g_iadd h dX5_carryOut_162 ?_
                refine g_iadd h dX5_carryOut_163 ?_
                refine g_iast h kk dX5_carryOut_164 rfl rfl (by omega) ?_
                refine g_aload_0 h dX5_carryOut_165 ?_
                refine g_getC h fl_X5_40 dX5_carryOut_166 rfl rfl ?_
                refine g_iload_3 h dX5_carryOut_169 ?_
                refine g_dup2 h dX5_carryOut_170 rfl rfl ?_
                refine g_iald h kk dX5_carryOut_171 rfl rfl (by omega) ?_
                refine g_iconst h dX5_carryOut_172 (v := nI 1) rfl ?_
                refine g_iadd h dX5_carryOut_173 ?_
                refine g_iast h kk dX5_carryOut_174 rfl rfl (by omega) ?_
                refine g_aload_0 h dX5_carryOut_175 ?_
                refine g_dup h dX5_carryOut_176 rfl ?_
                refine g_getI h fl_X5_13 dX5_carryOut_177 rfl rfl ?_
                refine g_iconst h dX5_carryOut_180 (v := nI 1) rfl ?_
                refine g_iadd h dX5_carryOut_181 ?_
                refine g_putI h fp_X5_13 dX5_carryOut_182 rfl rfl ?_
                refine g_vret h dX5_carryOut_185 ?_
                refine hQ _ ⟨?_, fun a h1 h2 h3 => ?_⟩
                · have e9 := c109
                  first
                    | rw [b2i_n0] at e9
                    | rw [b2i_0] at e9
                  funext k
                  by_cases hk : k < 8
                  · rcases (show k = 0 ∨ k = 1 ∨ k = 2 ∨ k = 3 ∨ k = 4 ∨ k = 5 ∨ k = 6 ∨ k = 7 by omega) with rfl | rfl | rfl | rfl | rfl | rfl | rfl | rfl <;> simp [sv, dv, crS, putS, tdF, clF, up2_row, setRow, e9, rem10, cnb, show 36 + (7 + tg) = 43 + tg by omega]
                  · simp [sv, crS, putS, setRow, hk, show ¬ k = 0 by omega, show ¬ k = 3 by omega, show ¬ k = 4 by omega, show ¬ k = 5 by omega, show ¬ k = 6 by omega, show ¬ k = 7 by omega]
                · simp only [up2_row]
                  simp [setRow, show ¬ a = 20 by omega, show ¬ a = 23 by omega, show ¬ a = 24 by omega, show ¬ a = 25 by omega, show ¬ a = 26 by omega, show ¬ a = 27 by omega]
            · refine g_iload_7 h dX5_carryOut_112 ?_
              refine g_iload_7 h dX5_carryOut_114 ?_
              refine g_bipush h dX5_carryOut_116 (v := nI 10) rfl ?_
              refine g_irem h dX5_carryOut_118 (by decide) ?_
              refine g_isub h dX5_carryOut_119 ?_
              refine g_istore_7 h dX5_carryOut_120 (by decide) rfl ?_
              refine g_iload_5 h dX5_carryOut_122 ?_
              refine g_if_eq h 138 dX5_carryOut_124 rfl (fun c124 => ?_) (fun c124 => ?_)
              · exact absurd c124 (by decide)
              · refine g_aload_0 h dX5_carryOut_127 ?_
                refine g_iload_4 h dX5_carryOut_128 ?_
                refine g_iload_7 h dX5_carryOut_130 ?_
                refine g_cVv2 h rok0 mi_X5_tieInto dX5_carryOut_132 ml_X5_59 rfl rfl rfl (Nat.le_of_ble_eq_true rfl) (Nat.le_of_ble_eq_true rfl) (sp_X5_tieInto_20 hT hN.1 hN.2 (by omega) ?_)
                refine g_goto h 147 dX5_carryOut_135 rfl ?_
                refine g_aload_0 h dX5_carryOut_147 ?_
                refine g_getC h fl_X5_37 dX5_carryOut_148 rfl rfl ?_
                refine g_iload_3 h dX5_carryOut_151 ?_
                refine g_dup2 h dX5_carryOut_152 rfl rfl ?_
                refine g_iald h kk dX5_carryOut_153 rfl rfl (by omega) ?_
                refine g_iconst h dX5_carryOut_154 (v := nI 1) rfl ?_
                refine g_iload_7 h dX5_carryOut_155 ?_
                refine g_cSi1 h rok0 mi_X3_knotsOf dX5_carryOut_157 ml_X5_149 (Nat.le_of_ble_eq_true rfl) (Nat.le_of_ble_eq_true rfl) (sp_X3_knotsOf ?_)
                refine g_iconst h dX5_carryOut_160 (v := nI 4) rfl ?_
                refine g_idiv h dX5_carryOut_161 (by decide) ?_
                refine g_iadd h dX5_carryOut_162 ?_
                refine g_iadd h dX5_carryOut_163 ?_
                refine g_iast h kk dX5_carryOut_164 rfl rfl (by omega) ?_
                refine g_aload_0 h dX5_carryOut_165 ?_
                refine g_getC h fl_X5_40 dX5_carryOut_166 rfl rfl ?_
                refine g_iload_3 h dX5_carryOut_169 ?_
                refine g_dup2 h dX5_carryOut_170 rfl rfl ?_
                refine g_iald h kk dX5_carryOut_171 rfl rfl (by omega) ?_
                refine g_iconst h dX5_carryOut_172 (v := nI 1) rfl ?_
                refine g_iadd h dX5_carryOut_173 ?_
                refine g_iast h kk dX5_carryOut_174 rfl rfl (by omega) ?_
                refine g_aload_0 h dX5_carryOut_175 ?_
                refine g_dup h dX5_carryOut_176 rfl ?_
                refine g_getI h fl_X5_13 dX5_carryOut_177 rfl rfl ?_
                refine g_iconst h dX5_carryOut_180 (v := nI 1) rfl ?_
                refine g_iadd h dX5_carryOut_181 ?_
                refine g_putI h fp_X5_13 dX5_carryOut_182 rfl rfl ?_
                refine g_vret h dX5_carryOut_185 ?_
                refine hQ _ ⟨?_, fun a h1 h2 h3 => ?_⟩
                · have e9 := c109
                  first
                    | rw [b2i_n0] at e9
                    | rw [b2i_0] at e9
                  funext k
                  by_cases hk : k < 8
                  · rcases (show k = 0 ∨ k = 1 ∨ k = 2 ∨ k = 3 ∨ k = 4 ∨ k = 5 ∨ k = 6 ∨ k = 7 by omega) with rfl | rfl | rfl | rfl | rfl | rfl | rfl | rfl <;> simp [sv, dv, crS, putS, tdF, clF, up2_row, setRow, e9, rem10, cnb, show 36 + (7 + tg) = 43 + tg by omega]
                  · simp [sv, crS, putS, setRow, hk, show ¬ k = 0 by omega, show ¬ k = 3 by omega, show ¬ k = 4 by omega, show ¬ k = 5 by omega, show ¬ k = 6 by omega, show ¬ k = 7 by omega]
                · simp only [up2_row]
                  simp [setRow, show ¬ a = 20 by omega, show ¬ a = 23 by omega, show ¬ a = 24 by omega, show ¬ a = 25 by omega, show ¬ a = 26 by omega, show ¬ a = 27 by omega]
        · exact (hasI hK.1 rfl rfl o6 hK.2 (by decide) c73).elim
set_option maxHeartbeats 4000000 in
theorem lp_X0_reckoned_28 {Γ : Cx} {d a b : Nat} {I : MI} {J : MJ} {P : MP} (hT : P 28 0 = some 36) (hD : tdOK (dv I)) (hb : b ≤ nZ (dv I)) {Q : Int32 → MI → MJ → MP → Prop} (h : Vc RX0 cX0_reckoned 9 (some .int) (d + 3) Γ) : ∀ (f n : Nat) (L : List Int32) (I1 : MI) (x6 x7 x8 : Option Value), n + f = b → stk I1 L → cal I I1 → L.length ≤ n → (∀ I', cal I I' → Q ((exD (dv I) (sv 28 I) f n L).headD (nI 0)) I' J P) → VG Γ 0 0 21 [some (.ref 17), some (.ref 28), some (.int (nI a)), some (.int (nI b)), some (.ref 55), some (.int (nI n)), x6, x7, x8] [] I1 J P (Fnl Γ (Qi Q)) := by
  have hZ := td_Z hD
  intro f
  induction f with
  | zero =>
    intro n L I1 x6 x7 x8 hn hk hc hL hQ
    obtain rfl : n = b := by omega
    refine g_iload_5 h dX0_reckoned_21 ?_
    refine g_iload_3 h dX0_reckoned_23 ?_
    refine g_icmp_ge h 157 dX0_reckoned_24 rfl (fun c24 => ?_) (fun c24 => ?_)
    · refine g_aload_0 h dX0_reckoned_157 ?_
      refine g_cVi0 h rok0 mi_X0_pop dX0_reckoned_158 ml_X0_82 rfl rfl rfl (Nat.le_of_ble_eq_true rfl) (Nat.le_of_ble_eq_true rfl) (sp_X0_popG hk (by omega) (fun I2 hk2 hc2 => ?_))
      refine g_iret h dX0_reckoned_161 ?_
      exact hQ _ (cal.tr hc hc2)
    · exact absurd (nI_le (by omega) (by omega)) c24
  | succ f ih =>
    intro n L I1 x6 x7 x8 hn hk hc hL hQ
    have e1 := cal_dv hc
    have e2 := cal_sv (o := 28) (by decide) hc
    have hD1 : tdOK (dv I1) := by rw [e1]; exact hD
    obtain ⟨k1, k2⟩ := td_k hD n (by omega)
    have k1 : I1 56 n = nI (kD (dv I) n) := (congrFun (hc 56 (by decide) (by decide)) n).trans k1
    have z1 : I1 55 2 = nI (nZ (dv I)) := (congrFun (hc 55 (by decide) (by decide)) 2).trans hZ.1
    have kb : kD (dv I) n ≤ 47 := by unfold kdOK isOp isJo at k2; omega
    refine g_iload_5 h dX0_reckoned_21 ?_
    refine g_iload_3 h dX0_reckoned_23 ?_
    refine g_icmp_ge h 157 dX0_reckoned_24 rfl (fun c24 => ?_) (fun c24 => ?_)
    · exact absurd (leN c24 (by omega) (by omega)) (by omega)
    · refine g_iload_5 h dX0_reckoned_27 ?_
      refine g_aload_4 h dX0_reckoned_29 ?_
      refine g_cVi0 h rok0 mi_X1_length dX0_reckoned_31 ml_X0_61 rfl rfl rfl (Nat.le_of_ble_eq_true rfl) (Nat.le_of_ble_eq_true rfl) (sp_X1_length (Or.inl rfl) ?_)
      refine g_icmp_ge h 157 dX0_reckoned_34 rfl (fun c34 => ?_) (fun c34 => ?_)
      · exact absurd (leN (by simpa only [z1] using c34) (by omega) (by omega)) (by omega)
      · refine g_aload_4 h dX0_reckoned_37 ?_
        refine g_getC h fl_X0_67 dX0_reckoned_39 rfl rfl ?_
        refine g_iload_5 h dX0_reckoned_42 ?_
        refine g_iald h n dX0_reckoned_44 rfl rfl (by omega) ?_
        rw [k1]
        refine g_istore_6 h dX0_reckoned_45 (by decide) rfl ?_
        refine g_iload_6 h dX0_reckoned_47 ?_
        refine g_bipush h dX0_reckoned_49 (v := nI 22) rfl ?_
        refine g_icmp_le h 61 dX0_reckoned_51 rfl (fun c51 => ?_) (fun c51 => ?_)
        · have hop : kD (dv I) n ≤ 22 ∨ kD (dv I) n = 29 := by
            first
              | exact Or.inl (leN c51 (by omega) (by omega))
              | exact Or.inr (eqN (Classical.not_not.mp c58) (by omega) (by omega))
              | exact Or.inr (eqN c58 (by omega) (by omega))
          have hop2 : isOp (kD (dv I) n) := by unfold kdOK isOp isJo at k2; unfold isOp; omega
          refine g_aload_0 h dX0_reckoned_61 ?_
          refine g_aload_1 h dX0_reckoned_62 ?_
          refine g_iload_6 h dX0_reckoned_63 ?_
          refine g_aload_4 h dX0_reckoned_65 ?_
          refine g_getC h fl_X0_72 dX0_reckoned_67 rfl rfl ?_
          refine g_iload_5 h dX0_reckoned_70 ?_
          refine g_iald h n dX0_reckoned_72 rfl rfl (by omega) ?_
          refine g_cSi3 h rok0 mi_X0_operandOf dX0_reckoned_73 ml_X0_75 (Nat.le_of_ble_eq_true rfl) (Nat.le_of_ble_eq_true rfl) (sp_X0_operandOf_28 hop2 hT (td_N hD1).1 (td_N hD1).2 (td_K hD1).1 (td_K hD1).2 (td_T hD1).1 (td_T hD1).2 (td_S hD1) ?_)
          refine g_cVv1 h rok0 mi_X0_push dX0_reckoned_76 ml_X0_78 rfl rfl rfl (Nat.le_of_ble_eq_true rfl) (Nat.le_of_ble_eq_true rfl) (sp_X0_push hk (by omega) (fun I2 hk2 hc2 => ?_))
          refine g_goto h 151 dX0_reckoned_79 rfl ?_
          refine g_iinc_5 h dX0_reckoned_151 (inc1 _) (by decide) rfl ?_
          refine g_goto h 21 dX0_reckoned_154 rfl ?_
          first
            | (refine ih (n + 1) _ I2 _ _ _ (by omega) hk2 (hc.tr hc2) (by simp; omega) (fun I' hI' => ?_)
               have hq := hQ I' hI'
               rw [exD, exS, if_pos hop] at hq
               rw [e1, e2, show I1 57 n = I 57 n from congrFun (hc 57 (by decide) (by decide)) n]
               exact hq)
            | (refine ih (n + 1) _ I4 _ _ _ (by omega) hk4 (((hc.tr hc2).tr hc3).tr hc4) (by simp; omega) (fun I' hI' => ?_)
               have hq := hQ I' hI'
               rw [exD, exS, if_neg hno, if_neg hn47, if_neg hn23] at hq
               exact hq)
            | (have h47 : kD (dv I) n = 47 := eqN c107 (by omega) (by omega)
               refine ih (n + 1) _ I3 _ _ _ (by omega) hk3 ((hc.tr hc2).tr hc3) (by simp; omega) (fun I' hI' => ?_)
               have hq := hQ I' hI'
               rw [exD, exS, if_neg hno, if_pos h47] at hq
               exact hq)
            | (have h47 : ¬ kD (dv I) n = 47 := fun q => c107 (by rw [q])
               have h23 : kD (dv I) n = 23 := by
                 first
                   | exact eqN c93 (by omega) (by omega)
                   | exact eqN (Classical.not_not.mp c93) (by omega) (by omega)
                   | exact absurd (eqN c86 (by omega) (by omega)) h47
               refine ih (n + 1) _ I3 _ _ _ (by omega) hk3 ((hc.tr hc2).tr hc3) (by simp; omega) (fun I' hI' => ?_)
               have hq := hQ I' hI'
               rw [exD, exS, if_neg hno, if_neg h47, if_pos h23] at hq
               exact hq)
        · refine g_iload_6 h dX0_reckoned_54 ?_
          refine g_bipush h dX0_reckoned_56 (v := nI 29) rfl ?_
          refine g_icmp_ne h 82 dX0_reckoned_58 rfl (fun c58 => ?_) (fun c58 => ?_)
          · have hno : ¬ (kD (dv I) n ≤ 22 ∨ kD (dv I) n = 29) := fun q => q.elim (fun q => c51 (nI_le q (by omega))) (fun q => c58 (by rw [q]))
            refine g_iload_6 h dX0_reckoned_82 ?_
            refine g_bipush h dX0_reckoned_84 (v := nI 47) rfl ?_
            refine g_icmp_eq h 96 dX0_reckoned_86 rfl (fun c86 => ?_) (fun c86 => ?_)
            · refine g_aload_0 h dX0_reckoned_96 ?_
              refine g_cVi0 h rok0 mi_X0_pop dX0_reckoned_97 ml_X0_82 rfl rfl rfl (Nat.le_of_ble_eq_true rfl) (Nat.le_of_ble_eq_true rfl) (sp_X0_popG hk (by omega) (fun I2 hk2 hc2 => ?_))
              refine g_istore_7 h dX0_reckoned_100 (by decide) rfl ?_
              refine g_aload_0 h dX0_reckoned_102 ?_
              refine g_iload_6 h dX0_reckoned_103 ?_
              refine g_bipush h dX0_reckoned_105 (v := nI 47) rfl ?_
              refine g_icmp_ne h 116 dX0_reckoned_107 rfl (fun c107 => ?_) (fun c107 => ?_)
              · refine g_iconst h dX0_reckoned_116 (v := nI 1) rfl ?_
                refine g_iload_7 h dX0_reckoned_117 ?_
                refine g_isub h dX0_reckoned_119 ?_
                refine g_cVv1 h rok0 mi_X0_push dX0_reckoned_120 ml_X0_78 rfl rfl rfl (Nat.le_of_ble_eq_true rfl) (Nat.le_of_ble_eq_true rfl) (sp_X0_push hk2 (by simp; omega) (fun I3 hk3 hc3 => ?_))
                refine g_goto h 151 dX0_reckoned_123 rfl ?_
                refine g_iinc_5 h dX0_reckoned_151 (inc1 _) (by decide) rfl ?_
                refine g_goto h 21 dX0_reckoned_154 rfl ?_
                first
                  | (refine ih (n + 1) _ I2 _ _ _ (by omega) hk2 (hc.tr hc2) (by simp; omega) (fun I' hI' => ?_)
                     have hq := hQ I' hI'
                     rw [exD, exS, if_pos hop] at hq
                     rw [e1, e2, show I1 57 n = I 57 n from congrFun (hc 57 (by decide) (by decide)) n]
                     exact hq)
                  | (refine ih (n + 1) _ I4 _ _ _ (by omega) hk4 (((hc.tr hc2).tr hc3).tr hc4) (by simp; omega) (fun I' hI' => ?_)
                     have hq := hQ I' hI'
                     rw [exD, exS, if_neg hno, if_neg hn47, if_neg hn23] at hq
                     exact hq)
                  | (have h47 : kD (dv I) n = 47 := eqN c107 (by omega) (by omega)
                     refine ih (n + 1) _ I3 _ _ _ (by omega) hk3 ((hc.tr hc2).tr hc3) (by simp; omega) (fun I' hI' => ?_)
                     have hq := hQ I' hI'
                     rw [exD, exS, if_neg hno, if_pos h47] at hq
                     exact hq)
                  | (have h47 : ¬ kD (dv I) n = 47 := fun q => c107 (by rw [q])
                     have h23 : kD (dv I) n = 23 := by
                       first
                         | exact eqN c93 (by omega) (by omega)
                         | exact eqN (Classical.not_not.mp c93) (by omega) (by omega)
                         | exact absurd (eqN c86 (by omega) (by omega)) h47
                     refine ih (n + 1) _ I3 _ _ _ (by omega) hk3 ((hc.tr hc2).tr hc3) (by simp; omega) (fun I' hI' => ?_)
                     have hq := hQ I' hI'
                     rw [exD, exS, if_neg hno, if_neg h47, if_pos h23] at hq
                     exact hq)
              · refine g_iload_7 h dX0_reckoned_110 ?_
                refine g_ineg h dX0_reckoned_112 ?_
                refine g_goto h 120 dX0_reckoned_113 rfl ?_
                refine g_cVv1 h rok0 mi_X0_push dX0_reckoned_120 ml_X0_78 rfl rfl rfl (Nat.le_of_ble_eq_true rfl) (Nat.le_of_ble_eq_true rfl) (sp_X0_push hk2 (by simp; omega) (fun I3 hk3 hc3 => ?_))
                refine g_goto h 151 dX0_reckoned_123 rfl ?_
                refine g_iinc_5 h dX0_reckoned_151 (inc1 _) (by decide) rfl ?_
                refine g_goto h 21 dX0_reckoned_154 rfl ?_
                first
                  | (refine ih (n + 1) _ I2 _ _ _ (by omega) hk2 (hc.tr hc2) (by simp; omega) (fun I' hI' => ?_)
                     have hq := hQ I' hI'
                     rw [exD, exS, if_pos hop] at hq
                     rw [e1, e2, show I1 57 n = I 57 n from congrFun (hc 57 (by decide) (by decide)) n]
                     exact hq)
                  | (refine ih (n + 1) _ I4 _ _ _ (by omega) hk4 (((hc.tr hc2).tr hc3).tr hc4) (by simp; omega) (fun I' hI' => ?_)
                     have hq := hQ I' hI'
                     rw [exD, exS, if_neg hno, if_neg hn47, if_neg hn23] at hq
                     exact hq)
                  | (have h47 : kD (dv I) n = 47 := eqN c107 (by omega) (by omega)
                     refine ih (n + 1) _ I3 _ _ _ (by omega) hk3 ((hc.tr hc2).tr hc3) (by simp; omega) (fun I' hI' => ?_)
                     have hq := hQ I' hI'
                     rw [exD, exS, if_neg hno, if_pos h47] at hq
                     exact hq)
                  | (have h47 : ¬ kD (dv I) n = 47 := fun q => c107 (by rw [q])
                     have h23 : kD (dv I) n = 23 := by
                       first
                         | exact eqN c93 (by omega) (by omega)
                         | exact eqN (Classical.not_not.mp c93) (by omega) (by omega)
                         | exact absurd (eqN c86 (by omega) (by omega)) h47
                     refine ih (n + 1) _ I3 _ _ _ (by omega) hk3 ((hc.tr hc2).tr hc3) (by simp; omega) (fun I' hI' => ?_)
                     have hq := hQ I' hI'
                     rw [exD, exS, if_neg hno, if_neg h47, if_pos h23] at hq
                     exact hq)
            · refine g_iload_6 h dX0_reckoned_89 ?_
              refine g_bipush h dX0_reckoned_91 (v := nI 23) rfl ?_
              refine g_icmp_ne h 126 dX0_reckoned_93 rfl (fun c93 => ?_) (fun c93 => ?_)
              · have hn47 : ¬ kD (dv I) n = 47 := fun q => c86 (by rw [q])
                have hn23 : ¬ kD (dv I) n = 23 := fun q => c93 (by rw [q])
                have hjo : isJo (kD (dv I) n) := by unfold kdOK isOp at k2; unfold isJo at k2 ⊢; omega
                refine g_aload_0 h dX0_reckoned_126 ?_
                refine g_cVi0 h rok0 mi_X0_pop dX0_reckoned_127 ml_X0_82 rfl rfl rfl (Nat.le_of_ble_eq_true rfl) (Nat.le_of_ble_eq_true rfl) (sp_X0_popG hk (by omega) (fun I2 hk2 hc2 => ?_))
                refine g_istore_7 h dX0_reckoned_130 (by decide) rfl ?_
                refine g_aload_0 h dX0_reckoned_132 ?_
                refine g_cVi0 h rok0 mi_X0_pop dX0_reckoned_133 ml_X0_82 rfl rfl rfl (Nat.le_of_ble_eq_true rfl) (Nat.le_of_ble_eq_true rfl) (sp_X0_popG hk2 (by simp; omega) (fun I3 hk3 hc3 => ?_))
                refine g_istore_8 h dX0_reckoned_136 (by decide) rfl ?_
                refine g_aload_0 h dX0_reckoned_138 ?_
                refine g_iload_6 h dX0_reckoned_139 ?_
                refine g_iload_8 h dX0_reckoned_141 ?_
                refine g_iload_7 h dX0_reckoned_143 ?_
                refine g_cSi3 h rok0 mi_X0_joined dX0_reckoned_145 ml_X0_85 (Nat.le_of_ble_eq_true rfl) (Nat.le_of_ble_eq_true rfl) (sp_X0_joined hjo ?_)
                refine g_cVv1 h rok0 mi_X0_push dX0_reckoned_148 ml_X0_78 rfl rfl rfl (Nat.le_of_ble_eq_true rfl) (Nat.le_of_ble_eq_true rfl) (sp_X0_push hk3 (by simp; omega) (fun I4 hk4 hc4 => ?_))
                refine g_iinc_5 h dX0_reckoned_151 (inc1 _) (by decide) rfl ?_
                refine g_goto h 21 dX0_reckoned_154 rfl ?_
                first
                  | (refine ih (n + 1) _ I2 _ _ _ (by omega) hk2 (hc.tr hc2) (by simp; omega) (fun I' hI' => ?_)
                     have hq := hQ I' hI'
                     rw [exD, exS, if_pos hop] at hq
                     rw [e1, e2, show I1 57 n = I 57 n from congrFun (hc 57 (by decide) (by decide)) n]
                     exact hq)
                  | (refine ih (n + 1) _ I4 _ _ _ (by omega) hk4 (((hc.tr hc2).tr hc3).tr hc4) (by simp; omega) (fun I' hI' => ?_)
                     have hq := hQ I' hI'
                     rw [exD, exS, if_neg hno, if_neg hn47, if_neg hn23] at hq
                     exact hq)
                  | (have h47 : kD (dv I) n = 47 := eqN c107 (by omega) (by omega)
                     refine ih (n + 1) _ I3 _ _ _ (by omega) hk3 ((hc.tr hc2).tr hc3) (by simp; omega) (fun I' hI' => ?_)
                     have hq := hQ I' hI'
                     rw [exD, exS, if_neg hno, if_pos h47] at hq
                     exact hq)
                  | (have h47 : ¬ kD (dv I) n = 47 := fun q => c107 (by rw [q])
                     have h23 : kD (dv I) n = 23 := by
                       first
                         | exact eqN c93 (by omega) (by omega)
                         | exact eqN (Classical.not_not.mp c93) (by omega) (by omega)
                         | exact absurd (eqN c86 (by omega) (by omega)) h47
                     refine ih (n + 1) _ I3 _ _ _ (by omega) hk3 ((hc.tr hc2).tr hc3) (by simp; omega) (fun I' hI' => ?_)
                     have hq := hQ I' hI'
                     rw [exD, exS, if_neg hno, if_neg h47, if_pos h23] at hq
                     exact hq)
              · refine g_aload_0 h dX0_reckoned_96 ?_
                refine g_cVi0 h rok0 mi_X0_pop dX0_reckoned_97 ml_X0_82 rfl rfl rfl (Nat.le_of_ble_eq_true rfl) (Nat.le_of_ble_eq_true rfl) (sp_X0_popG hk (by omega) (fun I2 hk2 hc2 => ?_))
                refine g_istore_7 h dX0_reckoned_100 (by decide) rfl ?_
                refine g_aload_0 h dX0_reckoned_102 ?_
                refine g_iload_6 h dX0_reckoned_103 ?_
                refine g_bipush h dX0_reckoned_105 (v := nI 47) rfl ?_
                refine g_icmp_ne h 116 dX0_reckoned_107 rfl (fun c107 => ?_) (fun c107 => ?_)
                · refine g_iconst h dX0_reckoned_116 (v := nI 1) rfl ?_
                  refine g_iload_7 h dX0_reckoned_117 ?_
                  refine g_isub h dX0_reckoned_119 ?_
                  refine g_cVv1 h rok0 mi_X0_push dX0_reckoned_120 ml_X0_78 rfl rfl rfl (Nat.le_of_ble_eq_true rfl) (Nat.le_of_ble_eq_true rfl) (sp_X0_push hk2 (by simp; omega) (fun I3 hk3 hc3 => ?_))
                  refine g_goto h 151 dX0_reckoned_123 rfl ?_
                  refine g_iinc_5 h dX0_reckoned_151 (inc1 _) (by decide) rfl ?_
                  refine g_goto h 21 dX0_reckoned_154 rfl ?_
                  first
                    | (refine ih (n + 1) _ I2 _ _ _ (by omega) hk2 (hc.tr hc2) (by simp; omega) (fun I' hI' => ?_)
                       have hq := hQ I' hI'
                       rw [exD, exS, if_pos hop] at hq
                       rw [e1, e2, show I1 57 n = I 57 n from congrFun (hc 57 (by decide) (by decide)) n]
                       exact hq)
                    | (refine ih (n + 1) _ I4 _ _ _ (by omega) hk4 (((hc.tr hc2).tr hc3).tr hc4) (by simp; omega) (fun I' hI' => ?_)
                       have hq := hQ I' hI'
                       rw [exD, exS, if_neg hno, if_neg hn47, if_neg hn23] at hq
                       exact hq)
                    | (have h47 : kD (dv I) n = 47 := eqN c107 (by omega) (by omega)
                       refine ih (n + 1) _ I3 _ _ _ (by omega) hk3 ((hc.tr hc2).tr hc3) (by simp; omega) (fun I' hI' => ?_)
                       have hq := hQ I' hI'
                       rw [exD, exS, if_neg hno, if_pos h47] at hq
                       exact hq)
                    | (have h47 : ¬ kD (dv I) n = 47 := fun q => c107 (by rw [q])
                       have h23 : kD (dv I) n = 23 := by
                         first
                           | exact eqN c93 (by omega) (by omega)
                           | exact eqN (Classical.not_not.mp c93) (by omega) (by omega)
                           | exact absurd (eqN c86 (by omega) (by omega)) h47
                       refine ih (n + 1) _ I3 _ _ _ (by omega) hk3 ((hc.tr hc2).tr hc3) (by simp; omega) (fun I' hI' => ?_)
                       have hq := hQ I' hI'
                       rw [exD, exS, if_neg hno, if_neg h47, if_pos h23] at hq
                       exact hq)
                · refine g_iload_7 h dX0_reckoned_110 ?_
                  refine g_ineg h dX0_reckoned_112 ?_
                  refine g_goto h 120 dX0_reckoned_113 rfl ?_
                  refine g_cVv1 h rok0 mi_X0_push dX0_reckoned_120 ml_X0_78 rfl rfl rfl (Nat.le_of_ble_eq_true rfl) (Nat.le_of_ble_eq_true rfl) (sp_X0_push hk2 (by simp; omega) (fun I3 hk3 hc3 => ?_))
                  refine g_goto h 151 dX0_reckoned_123 rfl ?_
                  refine g_iinc_5 h dX0_reckoned_151 (inc1 _) (by decide) rfl ?_
                  refine g_goto h 21 dX0_reckoned_154 rfl ?_
                  first
                    | (refine ih (n + 1) _ I2 _ _ _ (by omega) hk2 (hc.tr hc2) (by simp; omega) (fun I' hI' => ?_)
                       have hq := hQ I' hI'
                       rw [exD, exS, if_pos hop] at hq
                       rw [e1, e2, show I1 57 n = I 57 n from congrFun (hc 57 (by decide) (by decide)) n]
                       exact hq)
                    | (refine ih (n + 1) _ I4 _ _ _ (by omega) hk4 (((hc.tr hc2).tr hc3).tr hc4) (by simp; omega) (fun I' hI' => ?_)
                       have hq := hQ I' hI'
                       rw [exD, exS, if_neg hno, if_neg hn47, if_neg hn23] at hq
                       exact hq)
                    | (have h47 : kD (dv I) n = 47 := eqN c107 (by omega) (by omega)
                       refine ih (n + 1) _ I3 _ _ _ (by omega) hk3 ((hc.tr hc2).tr hc3) (by simp; omega) (fun I' hI' => ?_)
                       have hq := hQ I' hI'
                       rw [exD, exS, if_neg hno, if_pos h47] at hq
                       exact hq)
                    | (have h47 : ¬ kD (dv I) n = 47 := fun q => c107 (by rw [q])
                       have h23 : kD (dv I) n = 23 := by
                         first
                           | exact eqN c93 (by omega) (by omega)
                           | exact eqN (Classical.not_not.mp c93) (by omega) (by omega)
                           | exact absurd (eqN c86 (by omega) (by omega)) h47
                       refine ih (n + 1) _ I3 _ _ _ (by omega) hk3 ((hc.tr hc2).tr hc3) (by simp; omega) (fun I' hI' => ?_)
                       have hq := hQ I' hI'
                       rw [exD, exS, if_neg hno, if_neg h47, if_pos h23] at hq
                       exact hq)
          · have hop : kD (dv I) n ≤ 22 ∨ kD (dv I) n = 29 := by
              first
                | exact Or.inl (leN c51 (by omega) (by omega))
                | exact Or.inr (eqN (Classical.not_not.mp c58) (by omega) (by omega))
                | exact Or.inr (eqN c58 (by omega) (by omega))
            have hop2 : isOp (kD (dv I) n) := by unfold kdOK isOp isJo at k2; unfold isOp; omega
            refine g_aload_0 h dX0_reckoned_61 ?_
            refine g_aload_1 h dX0_reckoned_62 ?_
            refine g_iload_6 h dX0_reckoned_63 ?_
            refine g_aload_4 h dX0_reckoned_65 ?_
            refine g_getC h fl_X0_72 dX0_reckoned_67 rfl rfl ?_
            refine g_iload_5 h dX0_reckoned_70 ?_
            refine g_iald h n dX0_reckoned_72 rfl rfl (by omega) ?_
            refine g_cSi3 h rok0 mi_X0_operandOf dX0_reckoned_73 ml_X0_75 (Nat.le_of_ble_eq_true rfl) (Nat.le_of_ble_eq_true rfl) (sp_X0_operandOf_28 hop2 hT (td_N hD1).1 (td_N hD1).2 (td_K hD1).1 (td_K hD1).2 (td_T hD1).1 (td_T hD1).2 (td_S hD1) ?_)
            refine g_cVv1 h rok0 mi_X0_push dX0_reckoned_76 ml_X0_78 rfl rfl rfl (Nat.le_of_ble_eq_true rfl) (Nat.le_of_ble_eq_true rfl) (sp_X0_push hk (by omega) (fun I2 hk2 hc2 => ?_))
            refine g_goto h 151 dX0_reckoned_79 rfl ?_
            refine g_iinc_5 h dX0_reckoned_151 (inc1 _) (by decide) rfl ?_
            refine g_goto h 21 dX0_reckoned_154 rfl ?_
            first
              | (refine ih (n + 1) _ I2 _ _ _ (by omega) hk2 (hc.tr hc2) (by simp; omega) (fun I' hI' => ?_)
                 have hq := hQ I' hI'
                 rw [exD, exS, if_pos hop] at hq
                 rw [e1, e2, show I1 57 n = I 57 n from congrFun (hc 57 (by decide) (by decide)) n]
                 exact hq)
              | (refine ih (n + 1) _ I4 _ _ _ (by omega) hk4 (((hc.tr hc2).tr hc3).tr hc4) (by simp; omega) (fun I' hI' => ?_)
                 have hq := hQ I' hI'
                 rw [exD, exS, if_neg hno, if_neg hn47, if_neg hn23] at hq
                 exact hq)
              | (have h47 : kD (dv I) n = 47 := eqN c107 (by omega) (by omega)
                 refine ih (n + 1) _ I3 _ _ _ (by omega) hk3 ((hc.tr hc2).tr hc3) (by simp; omega) (fun I' hI' => ?_)
                 have hq := hQ I' hI'
                 rw [exD, exS, if_neg hno, if_pos h47] at hq
                 exact hq)
              | (have h47 : ¬ kD (dv I) n = 47 := fun q => c107 (by rw [q])
                 have h23 : kD (dv I) n = 23 := by
                   first
                     | exact eqN c93 (by omega) (by omega)
                     | exact eqN (Classical.not_not.mp c93) (by omega) (by omega)
                     | exact absurd (eqN c86 (by omega) (by omega)) h47
                 refine ih (n + 1) _ I3 _ _ _ (by omega) hk3 ((hc.tr hc2).tr hc3) (by simp; omega) (fun I' hI' => ?_)
                 have hq := hQ I' hI'
                 rw [exD, exS, if_neg hno, if_neg h47, if_pos h23] at hq
                 exact hq)
set_option maxRecDepth 100000 in
set_option maxHeartbeats 4000000 in
theorem sp_X0_reckoned_28 {d a b : Nat} {I : MI} {J : MJ} {P : MP} (hT : P 28 0 = some 36) (hD : tdOK (dv I)) (hab : a ≤ b) (hb : b ≤ nZ (dv I)) {Q : Int32 → MI → MJ → MP → Prop} (hQ : ∀ I', cal I I' → Q (rcD (dv I) (sv 28 I) a b) I' J P) : Sp yX0_reckoned cX0_reckoned 9 (some .int) (d + 3) [.ref 17, .ref 28, .int (nI a), .int (nI b)] I J P (Qi Q) := by
  intro Γ h
  show VG Γ 0 0 0 [some (.ref 17), some (.ref 28), some (.int (nI a)), some (.int (nI b)), none, none, none, none, none] [] _ _ _ _
  have hZ := td_Z hD
  refine g_aload_1 h dX0_reckoned_0 ?_
  refine g_getP h fl_X0_28 dX0_reckoned_1 rfl rfl (by assumption) ?_
  refine g_getC h fl_X0_51 dX0_reckoned_4 rfl rfl ?_
  refine g_astore_4 h dX0_reckoned_7 (by decide) rfl ?_
  refine g_aload_0 h dX0_reckoned_9 ?_
  refine g_iconst h dX0_reckoned_10 (v := nI 0) rfl ?_
  refine g_putI h fp_X0_15 dX0_reckoned_11 rfl rfl ?_
  refine g_iload_2 h dX0_reckoned_14 ?_
  refine g_iconst h dX0_reckoned_15 (v := nI 0) rfl ?_
  refine g_mmax h dX0_reckoned_16 ml_X0_55 rok0 (Nat.le_of_ble_eq_true rfl) ?_
  rw [if_neg (nI_nlt (Nat.zero_le a) (by omega))]
  refine g_istore_5 h dX0_reckoned_19 (by decide) rfl ?_
  exact lp_X0_reckoned_28 hT hD hb h (b - a) a [] _ _ _ _ (by omega) ⟨by simp [up2], fun j hj => absurd hj (Nat.not_lt_zero j)⟩ cal.a (Nat.zero_le _) hQ
set_option maxHeartbeats 4000000 in
theorem sp_X5_carryOut_28 {d q : Nat} {I : MI} {J : MJ} {P : MP} (hT : P 28 0 = some 36) (hD : tdOK (dv I)) (hq : q < nO (dv I)) {x : Int32} {Q : MI → MJ → MP → Prop} (hQ : ∀ I', stS 28 I I' (crD (dv I) (sv 28 I) q x) → Q I' J P) : Sp yX5_carryOut cX5_carryOut 8 none (d + 3) [.ref 28, .int (nI q), .int x] I J P (Qv Q) := by
  intro Γ h
  show VG Γ 0 0 0 [some (.ref 28), some (.int (nI q)), some (.int x), none, none, none, none, none] [] _ _ _ _
  obtain ⟨o1, o2, o3, -, -, o6, o7, -, -, -⟩ := td_o hD q hq
  have hN := td_N hD
  have hTp := td_T hD
  have hK := td_K hD
  have hO := td_O hD
  have hsz := td_S hD
  unfold crD at hQ
  generalize oT (dv I) q = tie at o1 o7 hQ
  generalize oG (dv I) q = tg at o2 o7 hQ
  generalize oK (dv I) q = kk at o3 o6 hQ
  cases tie
  · have o7 : tg < nT (dv I) := by simpa using o7
    refine g_aload_0 h dX5_carryOut_0 ?_
    refine g_getP h fl_X5_43 dX5_carryOut_1 rfl rfl (by assumption) ?_
    refine g_getC h fl_X5_127 dX5_carryOut_4 rfl rfl ?_
    refine g_iload_1 h dX5_carryOut_7 ?_
    refine g_iald h q dX5_carryOut_8 rfl rfl (by omega) ?_
    rw [o3]
    refine g_istore_3 h dX5_carryOut_9 (by decide) rfl ?_
    refine g_aload_0 h dX5_carryOut_10 ?_
    refine g_getP h fl_X5_43 dX5_carryOut_11 rfl rfl (by assumption) ?_
    refine g_getC h fl_X5_130 dX5_carryOut_14 rfl rfl ?_
    refine g_iload_1 h dX5_carryOut_17 ?_
    refine g_iald h q dX5_carryOut_18 rfl rfl (by omega) ?_
    rw [o2]
    refine g_istore_4 h dX5_carryOut_19 (by decide) rfl ?_
    refine g_aload_0 h dX5_carryOut_21 ?_
    refine g_getP h fl_X5_43 dX5_carryOut_22 rfl rfl (by assumption) ?_
    refine g_getC h fl_X5_133 dX5_carryOut_25 rfl rfl ?_
    refine g_iload_1 h dX5_carryOut_28 ?_
    refine g_zald h q dX5_carryOut_29 rfl rfl (by omega) ?_
    rw [o1]
    refine g_istore_5 h dX5_carryOut_30 (by decide) rfl ?_
    refine g_iload_5 h dX5_carryOut_32 ?_
    refine g_if_eq h 49 dX5_carryOut_34 rfl (fun c34 => ?_) (fun c34 => ?_)
    · refine g_aload_0 h dX5_carryOut_49 ?_
      refine g_getP h fl_X5_43 dX5_carryOut_50 rfl rfl (by assumption) ?_
      refine g_iload_4 h dX5_carryOut_53 ?_
      refine g_cVi1 h rok0 mi_X9_hasTop dX5_carryOut_55 ml_X5_137 rfl rfl rfl (Nat.le_of_ble_eq_true rfl) (Nat.le_of_ble_eq_true rfl) (sp_X9_hasTop (Or.inl rfl) ?_)
      refine g_istore_6 h dX5_carryOut_58 (by decide) rfl ?_
      refine g_iload_6 h dX5_carryOut_60 ?_
      refine g_if_eq h 76 dX5_carryOut_62 rfl (fun c62 => ?_) (fun c62 => ?_)
      · exact (hasI hTp.1 rfl rfl o7 hTp.2 (by decide) c62).elim
      · refine g_aload_0 h dX5_carryOut_65 ?_
        refine g_getP h fl_X5_43 dX5_carryOut_66 rfl rfl (by assumption) ?_
        refine g_iload_3 h dX5_carryOut_69 ?_
        refine g_cVi1 h rok0 mi_X9_hasKeeper dX5_carryOut_70 ml_X5_140 rfl rfl rfl (Nat.le_of_ble_eq_true rfl) (Nat.le_of_ble_eq_true rfl) (sp_X9_hasKeeper (Or.inl rfl) ?_)
        refine g_if_ne h 77 dX5_carryOut_73 rfl (fun c73 => ?_) (fun c73 => ?_)
        · refine g_iload_5 h dX5_carryOut_77 ?_
          refine g_if_eq h 96 dX5_carryOut_79 rfl (fun c79 => ?_) (fun c79 => ?_)
          · refine g_aload_0 h dX5_carryOut_96 ?_
            refine g_iload_4 h dX5_carryOut_97 ?_
            refine g_cVi1 h rok0 mi_X5_countedBelow dX5_carryOut_99 ml_X5_115 rfl rfl rfl (Nat.le_of_ble_eq_true rfl) (Nat.le_of_ble_eq_true rfl) (sp_X5_countedBelow_28 hT hN.1 hN.2 (by omega) (hsz tg o7).1 (hsz tg o7).2 ?_)
            refine g_istore_7 h dX5_carryOut_102 (by decide) rfl ?_
            refine g_aload_0 h dX5_carryOut_104 ?_
            refine g_iload_3 h dX5_carryOut_105 ?_
            refine g_cVi1 h rok0 mi_X5_isTooTired dX5_carryOut_106 ml_X5_146 rfl rfl rfl (Nat.le_of_ble_eq_true rfl) (Nat.le_of_ble_eq_true rfl) (sp_X5_isTooTired_28 hT (by omega) ?_)
            refine g_if_eq h 122 dX5_carryOut_109 rfl (fun c109 => ?_) (fun c109 => ?_)
            · refine g_iload_5 h dX5_carryOut_122 ?_
              refine g_if_eq h 138 dX5_carryOut_124 rfl (fun c124 => ?_) (fun c124 => ?_)
              · refine g_aload_0 h dX5_carryOut_138 ?_
                refine g_getC h fl_X5_34 dX5_carryOut_139 rfl rfl ?_
                refine g_iload_4 h dX5_carryOut_142 ?_
                refine g_iload_7 h dX5_carryOut_144 ?_
                refine g_iast h tg dX5_carryOut_146 rfl rfl (by omega) ?_
                refine g_aload_0 h dX5_carryOut_147 ?_
                refine g_getC h fl_X5_37 dX5_carryOut_148 rfl rfl ?_
                refine g_iload_3 h dX5_carryOut_151 ?_
                refine g_dup2 h dX5_carryOut_152 rfl rfl ?_
                refine g_iald h kk dX5_carryOut_153 rfl rfl (by omega) ?_
                refine g_iconst h dX5_carryOut_154 (v := nI 1) rfl ?_
                refine g_iload_7 h dX5_carryOut_155 ?_
                refine g_cSi1 h rok0 mi_X3_knotsOf dX5_carryOut_157 ml_X5_149 (Nat.le_of_ble_eq_true rfl) (Nat.le_of_ble_eq_true rfl) (sp_X3_knotsOf ?_)
                refine g_iconst h dX5_carryOut_160 (v := nI 4) rfl ?_
                refine g_idiv h dX5_carryOut_161 (by decide) ?_
                refine g_iadd h dX5_carryOut_162 ?_
                refine g_iadd h dX5_carryOut_163 ?_
                refine g_iast h kk dX5_carryOut_164 rfl rfl (by omega) ?_
                refine g_aload_0 h dX5_carryOut_165 ?_
                refine g_getC h fl_X5_40 dX5_carryOut_166 rfl rfl ?_
                refine g_iload_3 h dX5_carryOut_169 ?_
                refine g_dup2 h dX5_carryOut_170 rfl rfl ?_
                refine g_iald h kk dX5_carryOut_171 rfl rfl (by omega) ?_
                refine g_iconst h dX5_carryOut_172 (v := nI 1) rfl ?_
                refine g_iadd h dX5_carryOut_173 ?_
                refine g_iast h kk dX5_carryOut_174 rfl rfl (by omega) ?_
                refine g_aload_0 h dX5_carryOut_175 ?_
                refine g_dup h dX5_carryOut_176 rfl ?_
                refine g_getI h fl_X5_13 dX5_carryOut_177 rfl rfl ?_
                refine g_iconst h dX5_carryOut_180 (v := nI 1) rfl ?_
                refine g_iadd h dX5_carryOut_181 ?_
                refine g_putI h fp_X5_13 dX5_carryOut_182 rfl rfl ?_
                refine g_vret h dX5_carryOut_185 ?_
                refine hQ _ ⟨?_, fun a h1 h2 h3 => ?_⟩
                · have e9 := c109
                  first
                    | rw [b2i_n0] at e9
                    | rw [b2i_0] at e9
                  funext k
                  by_cases hk : k < 8
                  · rcases (show k = 0 ∨ k = 1 ∨ k = 2 ∨ k = 3 ∨ k = 4 ∨ k = 5 ∨ k = 6 ∨ k = 7 by omega) with rfl | rfl | rfl | rfl | rfl | rfl | rfl | rfl <;> simp [sv, dv, crS, putS, tdF, clF, up2_row, setRow, e9, rem10, cnb, show 36 + (7 + tg) = 43 + tg by omega]
                  · simp [sv, crS, putS, setRow, hk, show ¬ k = 0 by omega, show ¬ k = 3 by omega, show ¬ k = 4 by omega, show ¬ k = 5 by omega, show ¬ k = 6 by omega, show ¬ k = 7 by omega]
                · simp only [up2_row]
                  simp [setRow, show ¬ a = 28 by omega, show ¬ a = 31 by omega, show ¬ a = 32 by omega, show ¬ a = 33 by omega, show ¬ a = 34 by omega, show ¬ a = 35 by omega]
              · exact absurd c124 (by decide)
            · refine g_iload_7 h dX5_carryOut_112 ?_
              refine g_iload_7 h dX5_carryOut_114 ?_
              refine g_bipush h dX5_carryOut_116 (v := nI 10) rfl ?_
              refine g_irem h dX5_carryOut_118 (by decide) ?_
              refine g_isub h dX5_carryOut_119 ?_
              refine g_istore_7 h dX5_carryOut_120 (by decide) rfl ?_
              refine g_iload_5 h dX5_carryOut_122 ?_
              refine g_if_eq h 138 dX5_carryOut_124 rfl (fun c124 => ?_) (fun c124 => ?_)
              · refine g_aload_0 h dX5_carryOut_138 ?_
                refine g_getC h fl_X5_34 dX5_carryOut_139 rfl rfl ?_
                refine g_iload_4 h dX5_carryOut_142 ?_
                refine g_iload_7 h dX5_carryOut_144 ?_
                refine g_iast h tg dX5_carryOut_146 rfl rfl (by omega) ?_
                refine g_aload_0 h dX5_carryOut_147 ?_
                refine g_getC h fl_X5_37 dX5_carryOut_148 rfl rfl ?_
                refine g_iload_3 h dX5_carryOut_151 ?_
                refine g_dup2 h dX5_carryOut_152 rfl rfl ?_
                refine g_iald h kk dX5_carryOut_153 rfl rfl (by omega) ?_
                refine g_iconst h dX5_carryOut_154 (v := nI 1) rfl ?_
                refine g_iload_7 h dX5_carryOut_155 ?_
                refine g_cSi1 h rok0 mi_X3_knotsOf dX5_carryOut_157 ml_X5_149 (Nat.le_of_ble_eq_true rfl) (Nat.le_of_ble_eq_true rfl) (sp_X3_knotsOf ?_)
                refine g_iconst h dX5_carryOut_160 (v := nI 4) rfl ?_
                refine g_idiv h dX5_carryOut_161 (by decide) ?_
                refine g_iadd h dX5_carryOut_162 ?_
                refine g_iadd h dX5_carryOut_163 ?_
                refine g_iast h kk dX5_carryOut_164 rfl rfl (by omega) ?_
                refine g_aload_0 h dX5_carryOut_165 ?_
                refine g_getC h fl_X5_40 dX5_carryOut_166 rfl rfl ?_
                refine g_iload_3 h dX5_carryOut_169 ?_
                refine g_dup2 h dX5_carryOut_170 rfl rfl ?_
                refine g_iald h kk dX5_carryOut_171 rfl rfl (by omega) ?_
                refine g_iconst h dX5_carryOut_172 (v := nI 1) rfl ?_
                refine g_iadd h dX5_carryOut_173 ?_
                refine g_iast h kk dX5_carryOut_174 rfl rfl (by omega) ?_
                refine g_aload_0 h dX5_carryOut_175 ?_
                refine g_dup h dX5_carryOut_176 rfl ?_
                refine g_getI h fl_X5_13 dX5_carryOut_177 rfl rfl ?_
                refine g_iconst h dX5_carryOut_180 (v := nI 1) rfl ?_
                refine g_iadd h dX5_carryOut_181 ?_
                refine g_putI h fp_X5_13 dX5_carryOut_182 rfl rfl ?_
                refine g_vret h dX5_carryOut_185 ?_
                refine hQ _ ⟨?_, fun a h1 h2 h3 => ?_⟩
                · have e9 := c109
                  first
                    | rw [b2i_n0] at e9
                    | rw [b2i_0] at e9
                  funext k
                  by_cases hk : k < 8
                  · rcases (show k = 0 ∨ k = 1 ∨ k = 2 ∨ k = 3 ∨ k = 4 ∨ k = 5 ∨ k = 6 ∨ k = 7 by omega) with rfl | rfl | rfl | rfl | rfl | rfl | rfl | rfl <;> simp [sv, dv, crS, putS, tdF, clF, up2_row, setRow, e9, rem10, cnb, show 36 + (7 + tg) = 43 + tg by omega]
                  · simp [sv, crS, putS, setRow, hk, show ¬ k = 0 by omega, show ¬ k = 3 by omega, show ¬ k = 4 by omega, show ¬ k = 5 by omega, show ¬ k = 6 by omega, show ¬ k = 7 by omega]
                · simp only [up2_row]
                  simp [setRow, show ¬ a = 28 by omega, show ¬ a = 31 by omega, show ¬ a = 32 by omega, show ¬ a = 33 by omega, show ¬ a = 34 by omega, show ¬ a = 35 by omega]
              · exact absurd c124 (by decide)
          · exact absurd c79 (by decide)
        · exact (hasI hK.1 rfl rfl o6 hK.2 (by decide) c73).elim
    · exact absurd c34 (by decide)
  · have o7 : tg < nN (dv I) := by simpa using o7
    refine g_aload_0 h dX5_carryOut_0 ?_
    refine g_getP h fl_X5_43 dX5_carryOut_1 rfl rfl (by assumption) ?_
    refine g_getC h fl_X5_127 dX5_carryOut_4 rfl rfl ?_
    refine g_iload_1 h dX5_carryOut_7 ?_
    refine g_iald h q dX5_carryOut_8 rfl rfl (by omega) ?_
    rw [o3]
    refine g_istore_3 h dX5_carryOut_9 (by decide) rfl ?_
    refine g_aload_0 h dX5_carryOut_10 ?_
    refine g_getP h fl_X5_43 dX5_carryOut_11 rfl rfl (by assumption) ?_
    refine g_getC h fl_X5_130 dX5_carryOut_14 rfl rfl ?_
    refine g_iload_1 h dX5_carryOut_17 ?_
    refine g_iald h q dX5_carryOut_18 rfl rfl (by omega) ?_
    rw [o2]
    refine g_istore_4 h dX5_carryOut_19 (by decide) rfl ?_
    refine g_aload_0 h dX5_carryOut_21 ?_
    refine g_getP h fl_X5_43 dX5_carryOut_22 rfl rfl (by assumption) ?_
    refine g_getC h fl_X5_133 dX5_carryOut_25 rfl rfl ?_
    refine g_iload_1 h dX5_carryOut_28 ?_
    refine g_zald h q dX5_carryOut_29 rfl rfl (by omega) ?_
    rw [o1]
    refine g_istore_5 h dX5_carryOut_30 (by decide) rfl ?_
    refine g_iload_5 h dX5_carryOut_32 ?_
    refine g_if_eq h 49 dX5_carryOut_34 rfl (fun c34 => ?_) (fun c34 => ?_)
    · exact absurd c34 (by decide)
    · refine g_aload_0 h dX5_carryOut_37 ?_
      refine g_getP h fl_X5_43 dX5_carryOut_38 rfl rfl (by assumption) ?_
      refine g_iload_4 h dX5_carryOut_41 ?_
      refine g_cVi1 h rok0 mi_X9_hasCord dX5_carryOut_43 ml_X5_72 rfl rfl rfl (Nat.le_of_ble_eq_true rfl) (Nat.le_of_ble_eq_true rfl) (sp_X9_hasCord (Or.inl rfl) ?_)
      refine g_goto h 58 dX5_carryOut_46 rfl ?_
      refine g_istore_6 h dX5_carryOut_58 (by decide) rfl ?_
      refine g_iload_6 h dX5_carryOut_60 ?_
      refine g_if_eq h 76 dX5_carryOut_62 rfl (fun c62 => ?_) (fun c62 => ?_)
      · exact (hasI hN.1 rfl rfl o7 hN.2 (by decide) c62).elim
      · refine g_aload_0 h dX5_carryOut_65 ?_
        refine g_getP h fl_X5_43 dX5_carryOut_66 rfl rfl (by assumption) ?_
        refine g_iload_3 h dX5_carryOut_69 ?_
        refine g_cVi1 h rok0 mi_X9_hasKeeper dX5_carryOut_70 ml_X5_140 rfl rfl rfl (Nat.le_of_ble_eq_true rfl) (Nat.le_of_ble_eq_true rfl) (sp_X9_hasKeeper (Or.inl rfl) ?_)
        refine g_if_ne h 77 dX5_carryOut_73 rfl (fun c73 => ?_) (fun c73 => ?_)
        · refine g_iload_5 h dX5_carryOut_77 ?_
          refine g_if_eq h 96 dX5_carryOut_79 rfl (fun c79 => ?_) (fun c79 => ?_)
          · exact absurd c79 (by decide)
          · refine g_iconst h dX5_carryOut_82 (v := nI 0) rfl ?_
            refine g_sipush h dX5_carryOut_83 (v := nI 9999) rfl ?_
            refine g_iload_2 h dX5_carryOut_86 ?_
            refine g_mmin h dX5_carryOut_87 ml_X5_143 rok0 (Nat.le_of_ble_eq_true rfl) ?_
            refine g_mmax h dX5_carryOut_90 ml_X5_84 rok0 (Nat.le_of_ble_eq_true rfl) ?_
            refine g_goto h 102 dX5_carryOut_93 rfl ?_
            refine g_istore_7 h dX5_carryOut_102 (by decide) rfl ?_
            refine g_aload_0 h dX5_carryOut_104 ?_
            refine g_iload_3 h dX5_carryOut_105 ?_
            refine g_cVi1 h rok0 mi_X5_isTooTired dX5_carryOut_106 ml_X5_146 rfl rfl rfl (Nat.le_of_ble_eq_true rfl) (Nat.le_of_ble_eq_true rfl) (sp_X5_isTooTired_28 hT (by omega) ?_)
            refine g_if_eq h 122 dX5_carryOut_109 rfl (fun c109 => ?_) (fun c109 => ?_)
            · refine g_iload_5 h dX5_carryOut_122 ?_
              refine g_if_eq h 138 dX5_carryOut_124 rfl (fun c124 => ?_) (fun c124 => ?_)
              · exact absurd c124 (by decide)
              · refine g_aload_0 h dX5_carryOut_127 ?_
                refine g_iload_4 h dX5_carryOut_128 ?_
                refine g_iload_7 h dX5_carryOut_130 ?_
                refine g_cVv2 h rok0 mi_X5_tieInto dX5_carryOut_132 ml_X5_59 rfl rfl rfl (Nat.le_of_ble_eq_true rfl) (Nat.le_of_ble_eq_true rfl) (sp_X5_tieInto_28 hT hN.1 hN.2 (by omega) ?_)
                refine g_goto h 147 dX5_carryOut_135 rfl ?_
                refine g_aload_0 h dX5_carryOut_147 ?_
                refine g_getC h fl_X5_37 dX5_carryOut_148 rfl rfl ?_
                refine g_iload_3 h dX5_carryOut_151 ?_
                refine g_dup2 h dX5_carryOut_152 rfl rfl ?_
                refine g_iald h kk dX5_carryOut_153 rfl rfl (by omega) ?_
                refine g_iconst h dX5_carryOut_154 (v := nI 1) rfl ?_
                refine g_iload_7 h dX5_carryOut_155 ?_
                refine g_cSi1 h rok0 mi_X3_knotsOf dX5_carryOut_157 ml_X5_149 (Nat.le_of_ble_eq_true rfl) (Nat.le_of_ble_eq_true rfl) (sp_X3_knotsOf ?_)
                refine g_iconst h dX5_carryOut_160 (v := nI 4) rfl ?_
                refine g_idiv h dX5_carryOut_161 (by decide) ?_
                refine g_iadd h dX5_carryOut_162 ?_
                refine g_iadd h dX5_carryOut_163 ?_
                refine g_iast h kk dX5_carryOut_164 rfl rfl (by omega) ?_
                refine g_aload_0 h dX5_carryOut_165 ?_
                refine g_getC h fl_X5_40 dX5_carryOut_166 rfl rfl ?_
                refine g_iload_3 h dX5_carryOut_169 ?_
                refine g_dup2 h dX5_carryOut_170 rfl rfl ?_
                refine g_iald h kk dX5_carryOut_171 rfl rfl (by omega) ?_
                refine g_iconst h dX5_carryOut_172 (v := nI 1) rfl ?_
                refine g_iadd h dX5_carryOut_173 ?_
                refine g_iast h kk dX5_carryOut_174 rfl rfl (by omega) ?_
                refine g_aload_0 h dX5_carryOut_175 ?_
                refine g_dup h dX5_carryOut_176 rfl ?_
                refine g_getI h fl_X5_13 dX5_carryOut_177 rfl rfl ?_
                refine g_iconst h dX5_carryOut_180 (v := nI 1) rfl ?_
                refine g_iadd h dX5_carryOut_181 ?_
                refine g_putI h fp_X5_13 dX5_carryOut_182 rfl rfl ?_
                refine g_vret h dX5_carryOut_185 ?_
                refine hQ _ ⟨?_, fun a h1 h2 h3 => ?_⟩
                · have e9 := c109
                  first
                    | rw [b2i_n0] at e9
                    | rw [b2i_0] at e9
                  funext k
                  by_cases hk : k < 8
                  · rcases (show k = 0 ∨ k = 1 ∨ k = 2 ∨ k = 3 ∨ k = 4 ∨ k = 5 ∨ k = 6 ∨ k = 7 by omega) with rfl | rfl | rfl | rfl | rfl | rfl | rfl | rfl <;> simp [sv, dv, crS, putS, tdF, clF, up2_row, setRow, e9, rem10, cnb, show 36 + (7 + tg) = 43 + tg by omega]
                  · simp [sv, crS, putS, setRow, hk, show ¬ k = 0 by omega, show ¬ k = 3 by omega, show ¬ k = 4 by omega, show ¬ k = 5 by omega, show ¬ k = 6 by omega, show ¬ k = 7 by omega]
                · simp only [up2_row]
                  simp [setRow, show ¬ a = 28 by omega, show ¬ a = 31 by omega, show ¬ a = 32 by omega, show ¬ a = 33 by omega, show ¬ a = 34 by omega, show ¬ a = 35 by omega]
            · refine g_iload_7 h dX5_carryOut_112 ?_
              refine g_iload_7 h dX5_carryOut_114 ?_
              refine g_bipush h dX5_carryOut_116 (v := nI 10) rfl ?_
              refine g_irem h dX5_carryOut_118 (by decide) ?_
              refine g_isub h dX5_carryOut_119 ?_
              refine g_istore_7 h dX5_carryOut_120 (by decide) rfl ?_
              refine g_iload_5 h dX5_carryOut_122 ?_
              refine g_if_eq h 138 dX5_carryOut_124 rfl (fun c124 => ?_) (fun c124 => ?_)
              · exact absurd c124 (by decide)
              · refine g_aload_0 h dX5_carryOut_127 ?_
                refine g_iload_4 h dX5_carryOut_128 ?_
                refine g_iload_7 h dX5_carryOut_130 ?_
                refine g_cVv2 h rok0 mi_X5_tieInto dX5_carryOut_132 ml_X5_59 rfl rfl rfl (Nat.le_of_ble_eq_true rfl) (Nat.le_of_ble_eq_true rfl) (sp_X5_tieInto_28 hT hN.1 hN.2 (by omega) ?_)
                refine g_goto h 147 dX5_carryOut_135 rfl ?_
                refine g_aload_0 h dX5_carryOut_147 ?_
                refine g_getC h fl_X5_37 dX5_carryOut_148 rfl rfl ?_
                refine g_iload_3 h dX5_carryOut_151 ?_
                refine g_dup2 h dX5_carryOut_152 rfl rfl ?_
                refine g_iald h kk dX5_carryOut_153 rfl rfl (by omega) ?_
                refine g_iconst h dX5_carryOut_154 (v := nI 1) rfl ?_
                refine g_iload_7 h dX5_carryOut_155 ?_
                refine g_cSi1 h rok0 mi_X3_knotsOf dX5_carryOut_157 ml_X5_149 (Nat.le_of_ble_eq_true rfl) (Nat.le_of_ble_eq_true rfl) (sp_X3_knotsOf ?_)
                refine g_iconst h dX5_carryOut_160 (v := nI 4) rfl ?_
                refine g_idiv h dX5_carryOut_161 (by decide) ?_
                refine g_iadd h dX5_carryOut_162 ?_
                refine g_iadd h dX5_carryOut_163 ?_
                refine g_iast h kk dX5_carryOut_164 rfl rfl (by omega) ?_
                refine g_aload_0 h dX5_carryOut_165 ?_
                refine g_getC h fl_X5_40 dX5_carryOut_166 rfl rfl ?_
                refine g_iload_3 h dX5_carryOut_169 ?_
                refine g_dup2 h dX5_carryOut_170 rfl rfl ?_
                refine g_iald h kk dX5_carryOut_171 rfl rfl (by omega) ?_
                refine g_iconst h dX5_carryOut_172 (v := nI 1) rfl ?_
                refine g_iadd h dX5_carryOut_173 ?_
                refine g_iast h kk dX5_carryOut_174 rfl rfl (by omega) ?_
                refine g_aload_0 h dX5_carryOut_175 ?_
                refine g_dup h dX5_carryOut_176 rfl ?_
                refine g_getI h fl_X5_13 dX5_carryOut_177 rfl rfl ?_
                refine g_iconst h dX5_carryOut_180 (v := nI 1) rfl ?_
                refine g_iadd h dX5_carryOut_181 ?_
                refine g_putI h fp_X5_13 dX5_carryOut_182 rfl rfl ?_
                refine g_vret h dX5_carryOut_185 ?_
                refine hQ _ ⟨?_, fun a h1 h2 h3 => ?_⟩
                · have e9 := c109
                  first
                    | rw [b2i_n0] at e9
                    | rw [b2i_0] at e9
                  funext k
                  by_cases hk : k < 8
                  · rcases (show k = 0 ∨ k = 1 ∨ k = 2 ∨ k = 3 ∨ k = 4 ∨ k = 5 ∨ k = 6 ∨ k = 7 by omega) with rfl | rfl | rfl | rfl | rfl | rfl | rfl | rfl <;> simp [sv, dv, crS, putS, tdF, clF, up2_row, setRow, e9, rem10, cnb, show 36 + (7 + tg) = 43 + tg by omega]
                  · simp [sv, crS, putS, setRow, hk, show ¬ k = 0 by omega, show ¬ k = 3 by omega, show ¬ k = 4 by omega, show ¬ k = 5 by omega, show ¬ k = 6 by omega, show ¬ k = 7 by omega]
                · simp only [up2_row]
                  simp [setRow, show ¬ a = 28 by omega, show ¬ a = 31 by omega, show ¬ a = 32 by omega, show ¬ a = 33 by omega, show ¬ a = 34 by omega, show ¬ a = 35 by omega]
        · exact (hasI hK.1 rfl rfl o6 hK.2 (by decide) c73).elim
set_option maxHeartbeats 4000000 in
theorem lp_X5_letMothsEat_20 {Γ : Cx} {d N : Nat} {I : MI} {J : MJ} {P : MP} (hT : P 20 0 = some 36) (hN : I 36 1 = nI N) (hN16 : N ≤ 16) {Φ : State → Prop} (h : Vc RX5 cX5_letMothsEat 5 none (d + 3) Γ) : ∀ (f i : Nat) (b m : Int32) (x4 : Option Value), i + f = N → (∀ (m' : Int32) (x4' : Option Value), VG Γ 0 0 45 [some (.ref 20), some (.int (mtF (I 23) f i b m)), some (.int m'), some (.int (nI N)), x4'] [] I J P Φ) → VG Γ 0 0 6 [some (.ref 20), some (.int b), some (.int m), some (.int (nI i)), x4] [] I J P Φ := by
  intro f
  induction f with
  | zero =>
    intro i b m x4 hi K
    obtain rfl : i = N := by omega
    refine g_iload_3 h dX5_letMothsEat_6 ?_
    refine g_aload_0 h dX5_letMothsEat_7 ?_
    refine g_getP h fl_X5_43 dX5_letMothsEat_8 rfl rfl (by assumption) ?_
    refine g_getI h fl_X5_53 dX5_letMothsEat_11 rfl rfl ?_
    refine g_icmp_ge h 45 dX5_letMothsEat_14 rfl (fun c14 => ?_) (fun c14 => ?_)
    · exact K _ _
    · exact absurd (by rw [hN]; exact nI_le (by omega) (by omega)) c14
  | succ f ih =>
    intro i b m x4 hi K
    refine g_iload_3 h dX5_letMothsEat_6 ?_
    refine g_aload_0 h dX5_letMothsEat_7 ?_
    refine g_getP h fl_X5_43 dX5_letMothsEat_8 rfl rfl (by assumption) ?_
    refine g_getI h fl_X5_53 dX5_letMothsEat_11 rfl rfl ?_
    refine g_icmp_ge h 45 dX5_letMothsEat_14 rfl (fun c14 => ?_) (fun c14 => ?_)
    · exact absurd (leN (by simpa only [hN] using c14) (by omega) (by omega)) (by omega)
    · refine g_aload_0 h dX5_letMothsEat_17 ?_
      refine g_getC h fl_X5_28 dX5_letMothsEat_18 rfl rfl ?_
      refine g_iload_3 h dX5_letMothsEat_21 ?_
      refine g_iald h i dX5_letMothsEat_22 rfl rfl (by omega) ?_
      refine g_cSi1 h rok0 mi_X3_turnsOf dX5_letMothsEat_23 ml_X5_160 (Nat.le_of_ble_eq_true rfl) (Nat.le_of_ble_eq_true rfl) (sp_X3_turnsOf ?_)
      refine g_istore_4 h dX5_letMothsEat_26 (by decide) rfl ?_
      refine g_iload_4 h dX5_letMothsEat_28 ?_
      refine g_iload_2 h dX5_letMothsEat_30 ?_
      refine g_icmp_le h 39 dX5_letMothsEat_31 rfl (fun c31 => ?_) (fun c31 => ?_)
      · refine g_iinc_3 h dX5_letMothsEat_39 (inc1 _) (by decide) rfl ?_
        refine g_goto h 6 dX5_letMothsEat_42 rfl ?_
        first
          | exact ih (i + 1) _ _ _ (by omega) (fun m2 x2 => by have k := K m2 x2; simp only [mtF] at k; rw [if_neg (Int32.not_lt.mpr c31)] at k; exact k)
          | exact ih (i + 1) _ _ _ (by omega) (fun m2 x2 => by have k := K m2 x2; simp only [mtF] at k; rw [if_pos (Int32.not_le.mp c31)] at k; exact k)
      · refine g_iload_4 h dX5_letMothsEat_34 ?_
        refine g_istore_2 h dX5_letMothsEat_36 (by decide) rfl ?_
        refine g_iload_3 h dX5_letMothsEat_37 ?_
        refine g_istore_1 h dX5_letMothsEat_38 (by decide) rfl ?_
        refine g_iinc_3 h dX5_letMothsEat_39 (inc1 _) (by decide) rfl ?_
        refine g_goto h 6 dX5_letMothsEat_42 rfl ?_
        first
          | exact ih (i + 1) _ _ _ (by omega) (fun m2 x2 => by have k := K m2 x2; simp only [mtF] at k; rw [if_neg (Int32.not_lt.mpr c31)] at k; exact k)
          | exact ih (i + 1) _ _ _ (by omega) (fun m2 x2 => by have k := K m2 x2; simp only [mtF] at k; rw [if_pos (Int32.not_le.mp c31)] at k; exact k)
set_option maxRecDepth 100000 in
set_option maxHeartbeats 4000000 in
theorem sp_X5_letMothsEat_20 {d : Nat} {I : MI} {J : MJ} {P : MP} (hT : P 20 0 = some 36) (hD : tdOK (dv I)) {Q : MI → MJ → MP → Prop} (hQ : ∀ I', stS 20 I I' (mothS (sv 20 I) (nN (dv I))) → Q I' J P) : Sp yX5_letMothsEat cX5_letMothsEat 5 none (d + 3) [.ref 20] I J P (Qv Q) := by
  intro Γ h
  show VG Γ 0 0 0 [some (.ref 20), none, none, none, none] [] _ _ _ _
  have hN := td_N hD
  refine g_iconst h dX5_letMothsEat_0 (v := (-1)) rfl ?_
  refine g_istore_1 h dX5_letMothsEat_1 (by decide) rfl ?_
  refine g_iconst h dX5_letMothsEat_2 (v := nI 0) rfl ?_
  refine g_istore_2 h dX5_letMothsEat_3 (by decide) rfl ?_
  refine g_iconst h dX5_letMothsEat_4 (v := nI 0) rfl ?_
  refine g_istore_3 h dX5_letMothsEat_5 (by decide) rfl ?_
  refine lp_X5_letMothsEat_20 hT hN.1 hN.2 h (nN (dv I)) 0 (-1) (nI 0) _ (by omega) (fun m2 x2 => ?_)
  refine g_iload_1 h dX5_letMothsEat_45 ?_
  refine g_if_lt h 73 dX5_letMothsEat_46 rfl (fun c46 => ?_) (fun c46 => ?_)
  · refine g_vret h dX5_letMothsEat_73 ?_
    have e0 : mothS (sv 20 I) (nN (dv I)) = sv 20 I := by
      show (if mtF (I 23) (nN (dv I)) 0 (-1) (nI 0) < 0 then _ else _) = _
      rw [if_pos c46]
    exact hQ _ ⟨e0.symm, fun _ _ _ _ => rfl⟩
  · obtain ⟨k, hk, ek⟩ : ∃ k, k < nN (dv I) ∧ mtF (I 23) (nN (dv I)) 0 (-1) (nI 0) = nI k := (mtF_in (I 23) (nN (dv I)) 0 (-1) (nI 0) (Or.inl rfl)).elim (fun q => absurd (by rw [q]; decide) c46) (fun ⟨k, q1, q2⟩ => ⟨k, by omega, q2⟩)
    rw [ek]
    refine g_aload_0 h dX5_letMothsEat_49 ?_
    refine g_iload_1 h dX5_letMothsEat_50 ?_
    refine g_aload_0 h dX5_letMothsEat_51 ?_
    refine g_getC h fl_X5_28 dX5_letMothsEat_52 rfl rfl ?_
    refine g_iload_1 h dX5_letMothsEat_55 ?_
    refine g_iald h k dX5_letMothsEat_56 rfl rfl (by omega) ?_
    refine g_cSi1 h rok0 mi_X3_eaten dX5_letMothsEat_57 ml_X5_163 (Nat.le_of_ble_eq_true rfl) (Nat.le_of_ble_eq_true rfl) (sp_X3_eaten ?_)
    refine g_cVv2 h rok0 mi_X5_tieInto dX5_letMothsEat_60 ml_X5_59 rfl rfl rfl (Nat.le_of_ble_eq_true rfl) (Nat.le_of_ble_eq_true rfl) (sp_X5_tieInto_20 hT hN.1 hN.2 (by omega) ?_)
    refine g_aload_0 h dX5_letMothsEat_63 ?_
    refine g_dup h dX5_letMothsEat_64 rfl ?_
    refine g_getI h fl_X5_16 dX5_letMothsEat_65 rfl rfl ?_
    refine g_iconst h dX5_letMothsEat_68 (v := nI 1) rfl ?_
    refine g_iadd h dX5_letMothsEat_69 ?_
    refine g_putI h fp_X5_16 dX5_letMothsEat_70 rfl rfl ?_
    refine g_vret h dX5_letMothsEat_73 ?_
    have e1 : mothS (sv 20 I) (nN (dv I)) = setRow (putS (sv 20 I) (nN (dv I)) true k (eat (I 23 k))) 0 (upd (I 20) 3 (I 20 3 + nI 1)) := by
      show (if mtF (I 23) (nN (dv I)) 0 (-1) (nI 0) < 0 then _ else setRow (putS (sv 20 I) (nN (dv I)) true (ix (mtF (I 23) (nN (dv I)) 0 (-1) (nI 0))) (eat (I 23 (ix (mtF (I 23) (nN (dv I)) 0 (-1) (nI 0)))))) 0 (upd (I 20) 3 (I 20 3 + nI 1))) = _
      rw [if_neg c46, ek, ix_n (by omega)]
    rw [e1] at hQ
    refine hQ _ ⟨?_, fun a h1 h2 h3 => ?_⟩
    · funext k2
      by_cases hk2 : k2 < 8
      · rcases (show k2 = 0 ∨ k2 = 1 ∨ k2 = 2 ∨ k2 = 3 ∨ k2 = 4 ∨ k2 = 5 ∨ k2 = 6 ∨ k2 = 7 by omega) with rfl | rfl | rfl | rfl | rfl | rfl | rfl | rfl <;> simp [sv, dv, putS, up2_row, setRow]
      · simp [sv, putS, setRow, hk2, show ¬ k2 = 0 by omega, show ¬ k2 = 3 by omega, show ¬ k2 = 4 by omega, show ¬ k2 = 5 by omega, show ¬ k2 = 6 by omega, show ¬ k2 = 7 by omega]
    · simp only [up2_row]
      simp [setRow, show ¬ a = 20 by omega, show ¬ a = 23 by omega, show ¬ a = 24 by omega, show ¬ a = 25 by omega, show ¬ a = 26 by omega, show ¬ a = 27 by omega]
set_option maxHeartbeats 4000000 in
theorem lp_X5_endMonth_20 {Γ : Cx} {d K : Nat} {J : MJ} {P : MP} (hT : P 20 0 = some 36) (hK5 : K ≤ 5) {Φ : State → Prop} (h : Vc RX5 cX5_endMonth 2 none (d + 4) Γ) : ∀ (f i : Nat) (I : MI) (hK : I 36 3 = nI K), i + f = K → VG Γ 0 0 45 [some (.ref 20), some (.int (nI K))] [] (setRow I 26 (trF (I 49) f i (I 26))) J P Φ → VG Γ 0 0 2 [some (.ref 20), some (.int (nI i))] [] I J P Φ := by
  intro f
  induction f with
  | zero =>
    intro i I hK hi k0
    obtain rfl : i = K := by omega
    rw [trF, setRow_id] at k0
    refine g_iload_1 h dX5_endMonth_2 ?_
    refine g_aload_0 h dX5_endMonth_3 ?_
    refine g_getP h fl_X5_43 dX5_endMonth_4 rfl rfl (by assumption) ?_
    refine g_getI h fl_X5_154 dX5_endMonth_7 rfl rfl ?_
    refine g_icmp_ge h 45 dX5_endMonth_10 rfl (fun c10 => ?_) (fun c10 => ?_)
    · exact k0
    · exact absurd (by rw [hK]; exact nI_le (by omega) (by omega)) c10
  | succ f ih =>
    intro i I hK hi k0
    refine g_iload_1 h dX5_endMonth_2 ?_
    refine g_aload_0 h dX5_endMonth_3 ?_
    refine g_getP h fl_X5_43 dX5_endMonth_4 rfl rfl (by assumption) ?_
    refine g_getI h fl_X5_154 dX5_endMonth_7 rfl rfl ?_
    refine g_icmp_ge h 45 dX5_endMonth_10 rfl (fun c10 => ?_) (fun c10 => ?_)
    · exact absurd (leN (by simpa only [hK] using c10) (by omega) (by omega)) (by omega)
    · refine g_aload_0 h dX5_endMonth_13 ?_
      refine g_getC h fl_X5_37 dX5_endMonth_14 rfl rfl ?_
      refine g_iload_1 h dX5_endMonth_17 ?_
      refine g_iconst h dX5_endMonth_18 (v := nI 0) rfl ?_
      refine g_aload_0 h dX5_endMonth_19 ?_
      refine g_getC h fl_X5_37 dX5_endMonth_20 rfl rfl ?_
      refine g_iload_1 h dX5_endMonth_23 ?_
      refine g_iald h i dX5_endMonth_24 rfl rfl (by omega) ?_
      refine g_aload_0 h dX5_endMonth_25 ?_
      refine g_getP h fl_X5_43 dX5_endMonth_26 rfl rfl (by assumption) ?_
      refine g_getC h fl_X5_124 dX5_endMonth_29 rfl rfl ?_
      refine g_iload_1 h dX5_endMonth_32 ?_
      refine g_iald h i dX5_endMonth_33 rfl rfl (by omega) ?_
      refine g_isub h dX5_endMonth_34 ?_
      refine g_mmax h dX5_endMonth_35 ml_X5_84 rok0 (Nat.le_of_ble_eq_true rfl) ?_
      refine g_iast h i dX5_endMonth_38 rfl rfl (by omega) ?_
      refine g_iinc_1 h dX5_endMonth_39 (inc1 _) (by decide) rfl ?_
      refine g_goto h 2 dX5_endMonth_42 rfl ?_
      refine ih (i + 1) _ (by simpa [up2] using hK) (by omega) ?_
      rw [up2_row, setRow_s, setRow_o (by decide), setRow_2]
      exact k0
set_option maxRecDepth 100000 in
set_option maxHeartbeats 4000000 in
theorem sp_X5_endMonth_20 {d : Nat} {I : MI} {J : MJ} {P : MP} (hT : P 20 0 = some 36) (hD : tdOK (dv I)) {Q : MI → MJ → MP → Prop} (hQ : ∀ I', stS 20 I I' (emS (dv I) (sv 20 I) (nN (dv I)) (nK (dv I))) → Q I' J P) : Sp yX5_endMonth cX5_endMonth 2 none (d + 4) [.ref 20] I J P (Qv Q) := by
  intro Γ h
  show VG Γ 0 0 0 [some (.ref 20), none] [] _ _ _ _
  refine g_iconst h dX5_endMonth_0 (v := nI 0) rfl ?_
  refine g_istore_1 h dX5_endMonth_1 (by decide) rfl ?_
  refine lp_X5_endMonth_20 hT (td_K hD).2 h (nK (dv I)) 0 I (td_K hD).1 (by omega) ?_
  have hm : rem6 (I 20 1) = I 20 1 - I 20 1 / nI 6 * nI 6 := rfl
  have e4 : sv 20 (setRow I 26 (trF (I 49) (nK (dv I)) 0 (I 26))) = setRow (sv 20 I) 6 (trF (dv I 13) (nK (dv I)) 0 (sv 20 I 6)) := sv_row (o := 20) (j := 6) (by decide)
  have e5 : dv (setRow I 26 (trF (I 49) (nK (dv I)) 0 (I 26))) = dv I := dv_oth (by decide)
  refine g_aload_0 h dX5_endMonth_45 ?_
  refine g_getI h fl_X5_7 dX5_endMonth_46 rfl rfl ?_
  refine g_bipush h dX5_endMonth_49 (v := nI 6) rfl ?_
  refine g_irem h dX5_endMonth_51 (by decide) ?_
  refine g_if_ne h 59 dX5_endMonth_52 rfl (fun c52 => ?_) (fun c52 => ?_)
  · refine g_aload_0 h dX5_endMonth_59 ?_
    refine g_dup h dX5_endMonth_60 rfl ?_
    refine g_getI h fl_X5_7 dX5_endMonth_61 rfl rfl ?_
    refine g_iconst h dX5_endMonth_64 (v := nI 1) rfl ?_
    refine g_iadd h dX5_endMonth_65 ?_
    refine g_putI h fp_X5_7 dX5_endMonth_66 rfl rfl ?_
    refine g_vret h dX5_endMonth_69 ?_
    have q52 : ¬ rem6 (sv 20 I 0 1) = 0 := c52
    refine hQ _ ⟨?_, fun a h1 h2 h3 => ?_⟩
    · rw [emS, if_neg q52, ← e4]
      rw [up2_row]
      exact sv_row (o := 20) (j := 0) (by decide)
    · rw [up2_row, setRow_o (by omega), setRow_o (by omega)]
  · refine g_aload_0 h dX5_endMonth_55 ?_
    refine g_cVv0 h rok0 mi_X5_letMothsEat dX5_endMonth_56 ml_X5_157 rfl rfl rfl (Nat.le_of_ble_eq_true rfl) (Nat.le_of_ble_eq_true rfl) (sp_X5_letMothsEat_20 hT (by rw [e5]; exact hD) (fun I3 h3 => ?_))
    refine g_aload_0 h dX5_endMonth_59 ?_
    refine g_dup h dX5_endMonth_60 rfl ?_
    refine g_getI h fl_X5_7 dX5_endMonth_61 rfl rfl ?_
    refine g_iconst h dX5_endMonth_64 (v := nI 1) rfl ?_
    refine g_iadd h dX5_endMonth_65 ?_
    refine g_putI h fp_X5_7 dX5_endMonth_66 rfl rfl ?_
    refine g_vret h dX5_endMonth_69 ?_
    have q52 : rem6 (sv 20 I 0 1) = 0 := c52
    have e7 := h3.1
    rw [e5, e4] at e7
    refine hQ _ ⟨?_, fun a h1 h2 h4 => ?_⟩
    · rw [emS, if_pos q52, ← e7]
      rw [up2_row]
      exact sv_row (o := 20) (j := 0) (by decide)
    · rw [up2_row, setRow_o (by omega), h3.2 a h1 h2 h4, setRow_o (by omega)]
set_option maxHeartbeats 4000000 in
theorem lp_X0_letOrders_20 {Γ : Cx} {d : Nat} {I : MI} {J : MJ} {P : MP} (hT : P 20 0 = some 36) (hD : tdOK (dv I)) {Q : MI → MJ → MP → Prop} (h : Vc RX0 cX0_letOrdersBeCarriedOut 7 none (d + 4) Γ) : ∀ (f q : Nat) (I1 S1 : MI) (x5 x6 : Option Value), q + f = nO (dv I) → stS 20 I I1 S1 → (∀ I', stS 20 I I' (loF (dv I) f q S1) → Q I' J P) → VG Γ 0 0 10 [some (.ref 17), some (.ref 20), some (.ref 36), some (.int (nI (oB (dv I) q))), some (.int (nI q)), x5, x6] [] I1 J P (Fnl Γ (Qv Q)) := by
  have hO := td_O hD
  have hZ := td_Z hD
  intro f
  induction f with
  | zero =>
    intro q I1 S1 x5 x6 hq hs hQ
    have dO : I1 36 4 = nI (nO (dv I)) := (congrFun (hs.2 36 (by decide) (by decide) (by decide)) 4).trans hO.1
    refine g_iload_4 h dX0_letOrdersBeCarriedOut_10 ?_
    refine g_aload_2 h dX0_letOrdersBeCarriedOut_12 ?_
    refine g_getI h fl_X0_32 dX0_letOrdersBeCarriedOut_13 rfl rfl ?_
    refine g_icmp_ge h 79 dX0_letOrdersBeCarriedOut_16 rfl (fun c16 => ?_) (fun c16 => ?_)
    · refine g_vret h dX0_letOrdersBeCarriedOut_79 ?_
      exact hQ _ hs
    · exact absurd (by rw [dO]; exact nI_le (by omega) (by omega)) c16
  | succ f ih =>
    intro q I1 S1 x5 x6 hq hs hQ
    have dO : I1 36 4 = nI (nO (dv I)) := (congrFun (hs.2 36 (by decide) (by decide) (by decide)) 4).trans hO.1
    have e1 : dv I1 = dv I := stS_dv (by decide) hs
    have hD1 : tdOK (dv I1) := by rw [e1]; exact hD
    obtain ⟨-, -, -, o4, o5, -, -, o8, o9, o10⟩ := td_o hD1 q (by rw [e1]; omega)
    rw [e1] at o4 o5 o8 o9 o10
    have eb : oB (dv I) (q + 1) = oE (dv I) q := by simp [oB]
    refine g_iload_4 h dX0_letOrdersBeCarriedOut_10 ?_
    refine g_aload_2 h dX0_letOrdersBeCarriedOut_12 ?_
    refine g_getI h fl_X0_32 dX0_letOrdersBeCarriedOut_13 rfl rfl ?_
    refine g_icmp_ge h 79 dX0_letOrdersBeCarriedOut_16 rfl (fun c16 => ?_) (fun c16 => ?_)
    · exact absurd (leN (by simpa only [dO] using c16) (by omega) (by omega)) (by omega)
    · refine g_aload_2 h dX0_letOrdersBeCarriedOut_19 ?_
      refine g_getC h fl_X0_37 dX0_letOrdersBeCarriedOut_20 rfl rfl ?_
      refine g_iload_4 h dX0_letOrdersBeCarriedOut_23 ?_
      refine g_iald h q dX0_letOrdersBeCarriedOut_25 rfl rfl (by omega) ?_
      rw [o4]
      refine g_istore_5 h dX0_letOrdersBeCarriedOut_26 (by decide) rfl ?_
      refine g_aload_2 h dX0_letOrdersBeCarriedOut_28 ?_
      refine g_getC h fl_X0_40 dX0_letOrdersBeCarriedOut_29 rfl rfl ?_
      refine g_iload_4 h dX0_letOrdersBeCarriedOut_32 ?_
      refine g_iald h q dX0_letOrdersBeCarriedOut_34 rfl rfl (by omega) ?_
      rw [o5]
      refine g_istore_6 h dX0_letOrdersBeCarriedOut_35 (by decide) rfl ?_
      refine g_iload_5 h dX0_letOrdersBeCarriedOut_37 ?_
      refine g_iload_6 h dX0_letOrdersBeCarriedOut_39 ?_
      refine g_icmp_eq h 56 dX0_letOrdersBeCarriedOut_41 rfl (fun c41 => ?_) (fun c41 => ?_)
      · refine g_aload_1 h dX0_letOrdersBeCarriedOut_56 ?_
        refine g_iload_4 h dX0_letOrdersBeCarriedOut_57 ?_
        refine g_aload_0 h dX0_letOrdersBeCarriedOut_59 ?_
        refine g_aload_1 h dX0_letOrdersBeCarriedOut_60 ?_
        refine g_iload_3 h dX0_letOrdersBeCarriedOut_61 ?_
        refine g_iload_5 h dX0_letOrdersBeCarriedOut_62 ?_
        refine g_cVi3 h rok0 mi_X0_reckoned dX0_letOrdersBeCarriedOut_64 ml_X0_43 rfl rfl rfl (Nat.le_of_ble_eq_true rfl) (Nat.le_of_ble_eq_true rfl) (sp_X0_reckoned_20 hT hD1 o8 (by rw [e1]; omega) (fun I3 h3 => ?_))
        refine g_cVv2 h rok0 mi_X5_carryOut dX0_letOrdersBeCarriedOut_67 ml_X0_47 rfl rfl rfl (Nat.le_of_ble_eq_true rfl) (Nat.le_of_ble_eq_true rfl) (sp_X5_carryOut_20 hT (by rw [(cal_dv h3).trans e1]; exact hD) (by rw [(cal_dv h3).trans e1]; omega) (fun I4 h4 => ?_))
        rw [cal_dv h3, e1, cal_sv (by decide) h3, hs.1] at h4
        have hs4 : stS 20 I I4 (crD (dv I) S1 q (rcD (dv I) S1 (oB (dv I) q) (oF (dv I) q))) := stS_tr (stS_cal (by decide) hs h3) h4
        refine g_iload_6 h dX0_letOrdersBeCarriedOut_70 ?_
        refine g_istore_3 h dX0_letOrdersBeCarriedOut_72 (by decide) rfl ?_
        refine g_iinc_4 h dX0_letOrdersBeCarriedOut_73 (inc1 _) (by decide) rfl ?_
        refine g_goto h 10 dX0_letOrdersBeCarriedOut_76 rfl ?_
        rw [← eb]
        refine ih (q + 1) _ _ _ _ (by omega) hs4 (fun I5 h5 => hQ I5 ?_)
        simp only [loF]
        rw [if_pos (Or.inl (eqN c41 (by omega) (by omega)))]
        exact h5
      · refine g_aload_0 h dX0_letOrdersBeCarriedOut_44 ?_
        refine g_aload_1 h dX0_letOrdersBeCarriedOut_45 ?_
        refine g_iload_5 h dX0_letOrdersBeCarriedOut_46 ?_
        refine g_iload_6 h dX0_letOrdersBeCarriedOut_48 ?_
        refine g_cVi3 h rok0 mi_X0_reckoned dX0_letOrdersBeCarriedOut_50 ml_X0_43 rfl rfl rfl (Nat.le_of_ble_eq_true rfl) (Nat.le_of_ble_eq_true rfl) (sp_X0_reckoned_20 hT hD1 o9 (by rw [e1]; exact o10) (fun I2 h2 => ?_))
        have e2 : dv I2 = dv I := (cal_dv h2).trans e1
        rw [e1, hs.1]
        refine g_if_eq h 70 dX0_letOrdersBeCarriedOut_53 rfl (fun c53 => ?_) (fun c53 => ?_)
        · refine g_iload_6 h dX0_letOrdersBeCarriedOut_70 ?_
          refine g_istore_3 h dX0_letOrdersBeCarriedOut_72 (by decide) rfl ?_
          refine g_iinc_4 h dX0_letOrdersBeCarriedOut_73 (inc1 _) (by decide) rfl ?_
          refine g_goto h 10 dX0_letOrdersBeCarriedOut_76 rfl ?_
          rw [← eb]
          refine ih (q + 1) _ _ _ _ (by omega) (stS_cal (by decide) hs h2) (fun I5 h5 => hQ I5 ?_)
          simp only [loF]
          rw [if_neg (fun w => w.elim (fun w => c41 (by rw [w])) (fun w => w c53))]
          exact h5
        · refine g_aload_1 h dX0_letOrdersBeCarriedOut_56 ?_
          refine g_iload_4 h dX0_letOrdersBeCarriedOut_57 ?_
          refine g_aload_0 h dX0_letOrdersBeCarriedOut_59 ?_
          refine g_aload_1 h dX0_letOrdersBeCarriedOut_60 ?_
          refine g_iload_3 h dX0_letOrdersBeCarriedOut_61 ?_
          refine g_iload_5 h dX0_letOrdersBeCarriedOut_62 ?_
          refine g_cVi3 h rok0 mi_X0_reckoned dX0_letOrdersBeCarriedOut_64 ml_X0_43 rfl rfl rfl (Nat.le_of_ble_eq_true rfl) (Nat.le_of_ble_eq_true rfl) (sp_X0_reckoned_20 hT (by rw [e2]; exact hD) o8 (by rw [e2]; omega) (fun I3 h3 => ?_))
          refine g_cVv2 h rok0 mi_X5_carryOut dX0_letOrdersBeCarriedOut_67 ml_X0_47 rfl rfl rfl (Nat.le_of_ble_eq_true rfl) (Nat.le_of_ble_eq_true rfl) (sp_X5_carryOut_20 hT (by rw [(cal_dv h3).trans e2]; exact hD) (by rw [(cal_dv h3).trans e2]; omega) (fun I4 h4 => ?_))
          have e2s : sv 20 I2 = S1 := (cal_sv (by decide) h2).trans hs.1
          rw [cal_dv h3, e2, cal_sv (by decide) h3, e2s] at h4
          have hs4 : stS 20 I I4 (crD (dv I) S1 q (rcD (dv I) S1 (oB (dv I) q) (oF (dv I) q))) := stS_tr (stS_cal (by decide) (stS_cal (by decide) hs h2) h3) h4
          refine g_iload_6 h dX0_letOrdersBeCarriedOut_70 ?_
          refine g_istore_3 h dX0_letOrdersBeCarriedOut_72 (by decide) rfl ?_
          refine g_iinc_4 h dX0_letOrdersBeCarriedOut_73 (inc1 _) (by decide) rfl ?_
          refine g_goto h 10 dX0_letOrdersBeCarriedOut_76 rfl ?_
          rw [← eb]
          refine ih (q + 1) _ _ _ _ (by omega) hs4 (fun I5 h5 => hQ I5 ?_)
          simp only [loF]
          rw [if_pos (Or.inr c53)]
          exact h5
set_option maxRecDepth 100000 in
set_option maxHeartbeats 4000000 in
theorem sp_X0_letOrdersBeCarriedOut_20 {d : Nat} {I : MI} {J : MJ} {P : MP} (hT : P 20 0 = some 36) (hD : tdOK (dv I)) {Q : MI → MJ → MP → Prop} (hQ : ∀ I', stS 20 I I' (loF (dv I) (nO (dv I)) 0 (sv 20 I)) → Q I' J P) : Sp yX0_letOrdersBeCarriedOut cX0_letOrdersBeCarriedOut 7 none (d + 4) [.ref 17, .ref 20] I J P (Qv Q) := by
  intro Γ h
  show VG Γ 0 0 0 [some (.ref 17), some (.ref 20), none, none, none, none, none] [] _ _ _ _
  refine g_aload_1 h dX0_letOrdersBeCarriedOut_0 ?_
  refine g_getP h fl_X0_28 dX0_letOrdersBeCarriedOut_1 rfl rfl (by assumption) ?_
  refine g_astore_2 h dX0_letOrdersBeCarriedOut_4 (by decide) rfl ?_
  refine g_iconst h dX0_letOrdersBeCarriedOut_5 (v := nI 0) rfl ?_
  refine g_istore_3 h dX0_letOrdersBeCarriedOut_6 (by decide) rfl ?_
  refine g_iconst h dX0_letOrdersBeCarriedOut_7 (v := nI 0) rfl ?_
  refine g_istore_4 h dX0_letOrdersBeCarriedOut_8 (by decide) rfl ?_
  exact lp_X0_letOrders_20 hT hD h (nO (dv I)) 0 I (sv 20 I) _ _ (by omega) stS_rf hQ
set_option maxHeartbeats 4000000 in
theorem lp_X0_letPass_20 {Γ : Cx} {d m : Nat} (hm : m < 1000) {I : MI} {J : MJ} {P : MP} (hT : P 20 0 = some 36) (hD : tdOK (dv I)) {Q : MI → MJ → MP → Prop} (h : Vc RX0 cX0_letPass 4 none (d + 5) Γ) : ∀ (f n : Nat) (I1 S1 : MI), n + f = m → stS 20 I I1 S1 → (∀ I', stS 20 I I' (psF (dv I) f S1) → Q I' J P) → VG Γ 0 0 2 [some (.ref 17), some (.ref 20), some (.int (nI m)), some (.int (nI n))] [] I1 J P (Fnl Γ (Qv Q)) := by
  intro f
  induction f with
  | zero =>
    intro n I1 S1 hn hs hQ
    refine g_iload_3 h dX0_letPass_2 ?_
    refine g_iload_2 h dX0_letPass_3 ?_
    refine g_icmp_ge h 22 dX0_letPass_4 rfl (fun c4 => ?_) (fun c4 => ?_)
    · refine g_vret h dX0_letPass_22 ?_
      exact hQ _ hs
    · exact absurd (nI_le (by omega) (by omega)) c4
  | succ f ih =>
    intro n I1 S1 hn hs hQ
    have e1 : dv I1 = dv I := stS_dv (by decide) hs
    refine g_iload_3 h dX0_letPass_2 ?_
    refine g_iload_2 h dX0_letPass_3 ?_
    refine g_icmp_ge h 22 dX0_letPass_4 rfl (fun c4 => ?_) (fun c4 => ?_)
    · exact absurd (leN c4 (by omega) (by omega)) (by omega)
    · refine g_aload_0 h dX0_letPass_7 ?_
      refine g_aload_1 h dX0_letPass_8 ?_
      refine g_cVv1 h rok0 mi_X0_letOrdersBeCarriedOut dX0_letPass_9 ml_X0_19 rfl rfl rfl (Nat.le_of_ble_eq_true rfl) (Nat.le_of_ble_eq_true rfl) (sp_X0_letOrdersBeCarriedOut_20 hT (by rw [e1]; exact hD) (fun I2 h2 => ?_))
      rw [e1, hs.1] at h2
      have e2 : dv I2 = dv I := (stS_dv (by decide) h2).trans e1
      refine g_aload_1 h dX0_letPass_12 ?_
      refine g_cVv0 h rok0 mi_X5_endMonth dX0_letPass_13 ml_X0_23 rfl rfl rfl (Nat.le_of_ble_eq_true rfl) (Nat.le_of_ble_eq_true rfl) (sp_X5_endMonth_20 hT (by rw [e2]; exact hD) (fun I3 h3 => ?_))
      refine g_iinc_3 h dX0_letPass_16 (inc1 _) (by decide) rfl ?_
      refine g_goto h 2 dX0_letPass_19 rfl ?_
      rw [e2, h2.1] at h3
      exact ih (n + 1) _ _ (by omega) (stS_tr (stS_tr hs h2) h3) (fun I4 h4 => hQ I4 h4)
set_option maxRecDepth 100000 in
set_option maxHeartbeats 4000000 in
theorem sp_X0_letPass_20 {d m : Nat} (hm : m < 1000) {I : MI} {J : MJ} {P : MP} (hT : P 20 0 = some 36) (hD : tdOK (dv I)) {Q : MI → MJ → MP → Prop} (hQ : ∀ I', stS 20 I I' (psF (dv I) m (sv 20 I)) → Q I' J P) : Sp yX0_letPass cX0_letPass 4 none (d + 5) [.ref 17, .ref 20, .int (nI m)] I J P (Qv Q) := by
  intro Γ h
  show VG Γ 0 0 0 [some (.ref 17), some (.ref 20), some (.int (nI m)), none] [] _ _ _ _
  refine g_iconst h dX0_letPass_0 (v := nI 0) rfl ?_
  refine g_istore_3 h dX0_letPass_1 (by decide) rfl ?_
  exact lp_X0_letPass_20 hm hT hD h m 0 I (sv 20 I) (by omega) stS_rf hQ
set_option maxHeartbeats 4000000 in
theorem lp_X5_letMothsEat_28 {Γ : Cx} {d N : Nat} {I : MI} {J : MJ} {P : MP} (hT : P 28 0 = some 36) (hN : I 36 1 = nI N) (hN16 : N ≤ 16) {Φ : State → Prop} (h : Vc RX5 cX5_letMothsEat 5 none (d + 3) Γ) : ∀ (f i : Nat) (b m : Int32) (x4 : Option Value), i + f = N → (∀ (m' : Int32) (x4' : Option Value), VG Γ 0 0 45 [some (.ref 28), some (.int (mtF (I 31) f i b m)), some (.int m'), some (.int (nI N)), x4'] [] I J P Φ) → VG Γ 0 0 6 [some (.ref 28), some (.int b), some (.int m), some (.int (nI i)), x4] [] I J P Φ := by
  intro f
  induction f with
  | zero =>
    intro i b m x4 hi K
    obtain rfl : i = N := by omega
    refine g_iload_3 h dX5_letMothsEat_6 ?_
    refine g_aload_0 h dX5_letMothsEat_7 ?_
    refine g_getP h fl_X5_43 dX5_letMothsEat_8 rfl rfl (by assumption) ?_
    refine g_getI h fl_X5_53 dX5_letMothsEat_11 rfl rfl ?_
    refine g_icmp_ge h 45 dX5_letMothsEat_14 rfl (fun c14 => ?_) (fun c14 => ?_)
    · exact K _ _
    · exact absurd (by rw [hN]; exact nI_le (by omega) (by omega)) c14
  | succ f ih =>
    intro i b m x4 hi K
    refine g_iload_3 h dX5_letMothsEat_6 ?_
    refine g_aload_0 h dX5_letMothsEat_7 ?_
    refine g_getP h fl_X5_43 dX5_letMothsEat_8 rfl rfl (by assumption) ?_
    refine g_getI h fl_X5_53 dX5_letMothsEat_11 rfl rfl ?_
    refine g_icmp_ge h 45 dX5_letMothsEat_14 rfl (fun c14 => ?_) (fun c14 => ?_)
    · exact absurd (leN (by simpa only [hN] using c14) (by omega) (by omega)) (by omega)
    · refine g_aload_0 h dX5_letMothsEat_17 ?_
      refine g_getC h fl_X5_28 dX5_letMothsEat_18 rfl rfl ?_
      refine g_iload_3 h dX5_letMothsEat_21 ?_
      refine g_iald h i dX5_letMothsEat_22 rfl rfl (by omega) ?_
      refine g_cSi1 h rok0 mi_X3_turnsOf dX5_letMothsEat_23 ml_X5_160 (Nat.le_of_ble_eq_true rfl) (Nat.le_of_ble_eq_true rfl) (sp_X3_turnsOf ?_)
      refine g_istore_4 h dX5_letMothsEat_26 (by decide) rfl ?_
      refine g_iload_4 h dX5_letMothsEat_28 ?_
      refine g_iload_2 h dX5_letMothsEat_30 ?_
      refine g_icmp_le h 39 dX5_letMothsEat_31 rfl (fun c31 => ?_) (fun c31 => ?_)
      · refine g_iinc_3 h dX5_letMothsEat_39 (inc1 _) (by decide) rfl ?_
        refine g_goto h 6 dX5_letMothsEat_42 rfl ?_
        first
          | exact ih (i + 1) _ _ _ (by omega) (fun m2 x2 => by have k := K m2 x2; simp only [mtF] at k; rw [if_neg (Int32.not_lt.mpr c31)] at k; exact k)
          | exact ih (i + 1) _ _ _ (by omega) (fun m2 x2 => by have k := K m2 x2; simp only [mtF] at k; rw [if_pos (Int32.not_le.mp c31)] at k; exact k)
      · refine g_iload_4 h dX5_letMothsEat_34 ?_
        refine g_istore_2 h dX5_letMothsEat_36 (by decide) rfl ?_
        refine g_iload_3 h dX5_letMothsEat_37 ?_
        refine g_istore_1 h dX5_letMothsEat_38 (by decide) rfl ?_
        refine g_iinc_3 h dX5_letMothsEat_39 (inc1 _) (by decide) rfl ?_
        refine g_goto h 6 dX5_letMothsEat_42 rfl ?_
        first
          | exact ih (i + 1) _ _ _ (by omega) (fun m2 x2 => by have k := K m2 x2; simp only [mtF] at k; rw [if_neg (Int32.not_lt.mpr c31)] at k; exact k)
          | exact ih (i + 1) _ _ _ (by omega) (fun m2 x2 => by have k := K m2 x2; simp only [mtF] at k; rw [if_pos (Int32.not_le.mp c31)] at k; exact k)
set_option maxRecDepth 100000 in
set_option maxHeartbeats 4000000 in
theorem sp_X5_letMothsEat_28 {d : Nat} {I : MI} {J : MJ} {P : MP} (hT : P 28 0 = some 36) (hD : tdOK (dv I)) {Q : MI → MJ → MP → Prop} (hQ : ∀ I', stS 28 I I' (mothS (sv 28 I) (nN (dv I))) → Q I' J P) : Sp yX5_letMothsEat cX5_letMothsEat 5 none (d + 3) [.ref 28] I J P (Qv Q) := by
  intro Γ h
  show VG Γ 0 0 0 [some (.ref 28), none, none, none, none] [] _ _ _ _
  have hN := td_N hD
  refine g_iconst h dX5_letMothsEat_0 (v := (-1)) rfl ?_
  refine g_istore_1 h dX5_letMothsEat_1 (by decide) rfl ?_
  refine g_iconst h dX5_letMothsEat_2 (v := nI 0) rfl ?_
  refine g_istore_2 h dX5_letMothsEat_3 (by decide) rfl ?_
  refine g_iconst h dX5_letMothsEat_4 (v := nI 0) rfl ?_
  refine g_istore_3 h dX5_letMothsEat_5 (by decide) rfl ?_
  refine lp_X5_letMothsEat_28 hT hN.1 hN.2 h (nN (dv I)) 0 (-1) (nI 0) _ (by omega) (fun m2 x2 => ?_)
  refine g_iload_1 h dX5_letMothsEat_45 ?_
  refine g_if_lt h 73 dX5_letMothsEat_46 rfl (fun c46 => ?_) (fun c46 => ?_)
  · refine g_vret h dX5_letMothsEat_73 ?_
    have e0 : mothS (sv 28 I) (nN (dv I)) = sv 28 I := by
      show (if mtF (I 31) (nN (dv I)) 0 (-1) (nI 0) < 0 then _ else _) = _
      rw [if_pos c46]
    exact hQ _ ⟨e0.symm, fun _ _ _ _ => rfl⟩
  · obtain ⟨k, hk, ek⟩ : ∃ k, k < nN (dv I) ∧ mtF (I 31) (nN (dv I)) 0 (-1) (nI 0) = nI k := (mtF_in (I 31) (nN (dv I)) 0 (-1) (nI 0) (Or.inl rfl)).elim (fun q => absurd (by rw [q]; decide) c46) (fun ⟨k, q1, q2⟩ => ⟨k, by omega, q2⟩)
    rw [ek]
    refine g_aload_0 h dX5_letMothsEat_49 ?_
    refine g_iload_1 h dX5_letMothsEat_50 ?_
    refine g_aload_0 h dX5_letMothsEat_51 ?_
    refine g_getC h fl_X5_28 dX5_letMothsEat_52 rfl rfl ?_
    refine g_iload_1 h dX5_letMothsEat_55 ?_
    refine g_iald h k dX5_letMothsEat_56 rfl rfl (by omega) ?_
    refine g_cSi1 h rok0 mi_X3_eaten dX5_letMothsEat_57 ml_X5_163 (Nat.le_of_ble_eq_true rfl) (Nat.le_of_ble_eq_true rfl) (sp_X3_eaten ?_)
    refine g_cVv2 h rok0 mi_X5_tieInto dX5_letMothsEat_60 ml_X5_59 rfl rfl rfl (Nat.le_of_ble_eq_true rfl) (Nat.le_of_ble_eq_true rfl) (sp_X5_tieInto_28 hT hN.1 hN.2 (by omega) ?_)
    refine g_aload_0 h dX5_letMothsEat_63 ?_
    refine g_dup h dX5_letMothsEat_64 rfl ?_
    refine g_getI h fl_X5_16 dX5_letMothsEat_65 rfl rfl ?_
    refine g_iconst h dX5_letMothsEat_68 (v := nI 1) rfl ?_
    refine g_iadd h dX5_letMothsEat_69 ?_
    refine g_putI h fp_X5_16 dX5_letMothsEat_70 rfl rfl ?_
    refine g_vret h dX5_letMothsEat_73 ?_
    have e1 : mothS (sv 28 I) (nN (dv I)) = setRow (putS (sv 28 I) (nN (dv I)) true k (eat (I 31 k))) 0 (upd (I 28) 3 (I 28 3 + nI 1)) := by
      show (if mtF (I 31) (nN (dv I)) 0 (-1) (nI 0) < 0 then _ else setRow (putS (sv 28 I) (nN (dv I)) true (ix (mtF (I 31) (nN (dv I)) 0 (-1) (nI 0))) (eat (I 31 (ix (mtF (I 31) (nN (dv I)) 0 (-1) (nI 0)))))) 0 (upd (I 28) 3 (I 28 3 + nI 1))) = _
      rw [if_neg c46, ek, ix_n (by omega)]
    rw [e1] at hQ
    refine hQ _ ⟨?_, fun a h1 h2 h3 => ?_⟩
    · funext k2
      by_cases hk2 : k2 < 8
      · rcases (show k2 = 0 ∨ k2 = 1 ∨ k2 = 2 ∨ k2 = 3 ∨ k2 = 4 ∨ k2 = 5 ∨ k2 = 6 ∨ k2 = 7 by omega) with rfl | rfl | rfl | rfl | rfl | rfl | rfl | rfl <;> simp [sv, dv, putS, up2_row, setRow]
      · simp [sv, putS, setRow, hk2, show ¬ k2 = 0 by omega, show ¬ k2 = 3 by omega, show ¬ k2 = 4 by omega, show ¬ k2 = 5 by omega, show ¬ k2 = 6 by omega, show ¬ k2 = 7 by omega]
    · simp only [up2_row]
      simp [setRow, show ¬ a = 28 by omega, show ¬ a = 31 by omega, show ¬ a = 32 by omega, show ¬ a = 33 by omega, show ¬ a = 34 by omega, show ¬ a = 35 by omega]
set_option maxHeartbeats 4000000 in
theorem lp_X5_endMonth_28 {Γ : Cx} {d K : Nat} {J : MJ} {P : MP} (hT : P 28 0 = some 36) (hK5 : K ≤ 5) {Φ : State → Prop} (h : Vc RX5 cX5_endMonth 2 none (d + 4) Γ) : ∀ (f i : Nat) (I : MI) (hK : I 36 3 = nI K), i + f = K → VG Γ 0 0 45 [some (.ref 28), some (.int (nI K))] [] (setRow I 34 (trF (I 49) f i (I 34))) J P Φ → VG Γ 0 0 2 [some (.ref 28), some (.int (nI i))] [] I J P Φ := by
  intro f
  induction f with
  | zero =>
    intro i I hK hi k0
    obtain rfl : i = K := by omega
    rw [trF, setRow_id] at k0
    refine g_iload_1 h dX5_endMonth_2 ?_
    refine g_aload_0 h dX5_endMonth_3 ?_
    refine g_getP h fl_X5_43 dX5_endMonth_4 rfl rfl (by assumption) ?_
    refine g_getI h fl_X5_154 dX5_endMonth_7 rfl rfl ?_
    refine g_icmp_ge h 45 dX5_endMonth_10 rfl (fun c10 => ?_) (fun c10 => ?_)
    · exact k0
    · exact absurd (by rw [hK]; exact nI_le (by omega) (by omega)) c10
  | succ f ih =>
    intro i I hK hi k0
    refine g_iload_1 h dX5_endMonth_2 ?_
    refine g_aload_0 h dX5_endMonth_3 ?_
    refine g_getP h fl_X5_43 dX5_endMonth_4 rfl rfl (by assumption) ?_
    refine g_getI h fl_X5_154 dX5_endMonth_7 rfl rfl ?_
    refine g_icmp_ge h 45 dX5_endMonth_10 rfl (fun c10 => ?_) (fun c10 => ?_)
    · exact absurd (leN (by simpa only [hK] using c10) (by omega) (by omega)) (by omega)
    · refine g_aload_0 h dX5_endMonth_13 ?_
      refine g_getC h fl_X5_37 dX5_endMonth_14 rfl rfl ?_
      refine g_iload_1 h dX5_endMonth_17 ?_
      refine g_iconst h dX5_endMonth_18 (v := nI 0) rfl ?_
      refine g_aload_0 h dX5_endMonth_19 ?_
      refine g_getC h fl_X5_37 dX5_endMonth_20 rfl rfl ?_
      refine g_iload_1 h dX5_endMonth_23 ?_
      refine g_iald h i dX5_endMonth_24 rfl rfl (by omega) ?_
      refine g_aload_0 h dX5_endMonth_25 ?_
      refine g_getP h fl_X5_43 dX5_endMonth_26 rfl rfl (by assumption) ?_
      refine g_getC h fl_X5_124 dX5_endMonth_29 rfl rfl ?_
      refine g_iload_1 h dX5_endMonth_32 ?_
      refine g_iald h i dX5_endMonth_33 rfl rfl (by omega) ?_
      refine g_isub h dX5_endMonth_34 ?_
      refine g_mmax h dX5_endMonth_35 ml_X5_84 rok0 (Nat.le_of_ble_eq_true rfl) ?_
      refine g_iast h i dX5_endMonth_38 rfl rfl (by omega) ?_
      refine g_iinc_1 h dX5_endMonth_39 (inc1 _) (by decide) rfl ?_
      refine g_goto h 2 dX5_endMonth_42 rfl ?_
      refine ih (i + 1) _ (by simpa [up2] using hK) (by omega) ?_
      rw [up2_row, setRow_s, setRow_o (by decide), setRow_2]
      exact k0
set_option maxRecDepth 100000 in
set_option maxHeartbeats 4000000 in
theorem sp_X5_endMonth_28 {d : Nat} {I : MI} {J : MJ} {P : MP} (hT : P 28 0 = some 36) (hD : tdOK (dv I)) {Q : MI → MJ → MP → Prop} (hQ : ∀ I', stS 28 I I' (emS (dv I) (sv 28 I) (nN (dv I)) (nK (dv I))) → Q I' J P) : Sp yX5_endMonth cX5_endMonth 2 none (d + 4) [.ref 28] I J P (Qv Q) := by
  intro Γ h
  show VG Γ 0 0 0 [some (.ref 28), none] [] _ _ _ _
  refine g_iconst h dX5_endMonth_0 (v := nI 0) rfl ?_
  refine g_istore_1 h dX5_endMonth_1 (by decide) rfl ?_
  refine lp_X5_endMonth_28 hT (td_K hD).2 h (nK (dv I)) 0 I (td_K hD).1 (by omega) ?_
  have hm : rem6 (I 28 1) = I 28 1 - I 28 1 / nI 6 * nI 6 := rfl
  have e4 : sv 28 (setRow I 34 (trF (I 49) (nK (dv I)) 0 (I 34))) = setRow (sv 28 I) 6 (trF (dv I 13) (nK (dv I)) 0 (sv 28 I 6)) := sv_row (o := 28) (j := 6) (by decide)
  have e5 : dv (setRow I 34 (trF (I 49) (nK (dv I)) 0 (I 34))) = dv I := dv_oth (by decide)
  refine g_aload_0 h dX5_endMonth_45 ?_
  refine g_getI h fl_X5_7 dX5_endMonth_46 rfl rfl ?_
  refine g_bipush h dX5_endMonth_49 (v := nI 6) rfl ?_
  refine g_irem h dX5_endMonth_51 (by decide) ?_
  refine g_if_ne h 59 dX5_endMonth_52 rfl (fun c52 => ?_) (fun c52 => ?_)
  · refine g_aload_0 h dX5_endMonth_59 ?_
    refine g_dup h dX5_endMonth_60 rfl ?_
    refine g_getI h fl_X5_7 dX5_endMonth_61 rfl rfl ?_
    refine g_iconst h dX5_endMonth_64 (v := nI 1) rfl ?_
    refine g_iadd h dX5_endMonth_65 ?_
    refine g_putI h fp_X5_7 dX5_endMonth_66 rfl rfl ?_
    refine g_vret h dX5_endMonth_69 ?_
    have q52 : ¬ rem6 (sv 28 I 0 1) = 0 := c52
    refine hQ _ ⟨?_, fun a h1 h2 h3 => ?_⟩
    · rw [emS, if_neg q52, ← e4]
      rw [up2_row]
      exact sv_row (o := 28) (j := 0) (by decide)
    · rw [up2_row, setRow_o (by omega), setRow_o (by omega)]
  · refine g_aload_0 h dX5_endMonth_55 ?_
    refine g_cVv0 h rok0 mi_X5_letMothsEat dX5_endMonth_56 ml_X5_157 rfl rfl rfl (Nat.le_of_ble_eq_true rfl) (Nat.le_of_ble_eq_true rfl) (sp_X5_letMothsEat_28 hT (by rw [e5]; exact hD) (fun I3 h3 => ?_))
    refine g_aload_0 h dX5_endMonth_59 ?_
    refine g_dup h dX5_endMonth_60 rfl ?_
    refine g_getI h fl_X5_7 dX5_endMonth_61 rfl rfl ?_
    refine g_iconst h dX5_endMonth_64 (v := nI 1) rfl ?_
    refine g_iadd h dX5_endMonth_65 ?_
    refine g_putI h fp_X5_7 dX5_endMonth_66 rfl rfl ?_
    refine g_vret h dX5_endMonth_69 ?_
    have q52 : rem6 (sv 28 I 0 1) = 0 := c52
    have e7 := h3.1
    rw [e5, e4] at e7
    refine hQ _ ⟨?_, fun a h1 h2 h4 => ?_⟩
    · rw [emS, if_pos q52, ← e7]
      rw [up2_row]
      exact sv_row (o := 28) (j := 0) (by decide)
    · rw [up2_row, setRow_o (by omega), h3.2 a h1 h2 h4, setRow_o (by omega)]
set_option maxHeartbeats 4000000 in
theorem lp_X0_letOrders_28 {Γ : Cx} {d : Nat} {I : MI} {J : MJ} {P : MP} (hT : P 28 0 = some 36) (hD : tdOK (dv I)) {Q : MI → MJ → MP → Prop} (h : Vc RX0 cX0_letOrdersBeCarriedOut 7 none (d + 4) Γ) : ∀ (f q : Nat) (I1 S1 : MI) (x5 x6 : Option Value), q + f = nO (dv I) → stS 28 I I1 S1 → (∀ I', stS 28 I I' (loF (dv I) f q S1) → Q I' J P) → VG Γ 0 0 10 [some (.ref 17), some (.ref 28), some (.ref 36), some (.int (nI (oB (dv I) q))), some (.int (nI q)), x5, x6] [] I1 J P (Fnl Γ (Qv Q)) := by
  have hO := td_O hD
  have hZ := td_Z hD
  intro f
  induction f with
  | zero =>
    intro q I1 S1 x5 x6 hq hs hQ
    have dO : I1 36 4 = nI (nO (dv I)) := (congrFun (hs.2 36 (by decide) (by decide) (by decide)) 4).trans hO.1
    refine g_iload_4 h dX0_letOrdersBeCarriedOut_10 ?_
    refine g_aload_2 h dX0_letOrdersBeCarriedOut_12 ?_
    refine g_getI h fl_X0_32 dX0_letOrdersBeCarriedOut_13 rfl rfl ?_
    refine g_icmp_ge h 79 dX0_letOrdersBeCarriedOut_16 rfl (fun c16 => ?_) (fun c16 => ?_)
    · refine g_vret h dX0_letOrdersBeCarriedOut_79 ?_
      exact hQ _ hs
    · exact absurd (by rw [dO]; exact nI_le (by omega) (by omega)) c16
  | succ f ih =>
    intro q I1 S1 x5 x6 hq hs hQ
    have dO : I1 36 4 = nI (nO (dv I)) := (congrFun (hs.2 36 (by decide) (by decide) (by decide)) 4).trans hO.1
    have e1 : dv I1 = dv I := stS_dv (by decide) hs
    have hD1 : tdOK (dv I1) := by rw [e1]; exact hD
    obtain ⟨-, -, -, o4, o5, -, -, o8, o9, o10⟩ := td_o hD1 q (by rw [e1]; omega)
    rw [e1] at o4 o5 o8 o9 o10
    have eb : oB (dv I) (q + 1) = oE (dv I) q := by simp [oB]
    refine g_iload_4 h dX0_letOrdersBeCarriedOut_10 ?_
    refine g_aload_2 h dX0_letOrdersBeCarriedOut_12 ?_
    refine g_getI h fl_X0_32 dX0_letOrdersBeCarriedOut_13 rfl rfl ?_
    refine g_icmp_ge h 79 dX0_letOrdersBeCarriedOut_16 rfl (fun c16 => ?_) (fun c16 => ?_)
    · exact absurd (leN (by simpa only [dO] using c16) (by omega) (by omega)) (by omega)
    · refine g_aload_2 h dX0_letOrdersBeCarriedOut_19 ?_
      refine g_getC h fl_X0_37 dX0_letOrdersBeCarriedOut_20 rfl rfl ?_
      refine g_iload_4 h dX0_letOrdersBeCarriedOut_23 ?_
      refine g_iald h q dX0_letOrdersBeCarriedOut_25 rfl rfl (by omega) ?_
      rw [o4]
      refine g_istore_5 h dX0_letOrdersBeCarriedOut_26 (by decide) rfl ?_
      refine g_aload_2 h dX0_letOrdersBeCarriedOut_28 ?_
      refine g_getC h fl_X0_40 dX0_letOrdersBeCarriedOut_29 rfl rfl ?_
      refine g_iload_4 h dX0_letOrdersBeCarriedOut_32 ?_
      refine g_iald h q dX0_letOrdersBeCarriedOut_34 rfl rfl (by omega) ?_
      rw [o5]
      refine g_istore_6 h dX0_letOrdersBeCarriedOut_35 (by decide) rfl ?_
      refine g_iload_5 h dX0_letOrdersBeCarriedOut_37 ?_
      refine g_iload_6 h dX0_letOrdersBeCarriedOut_39 ?_
      refine g_icmp_eq h 56 dX0_letOrdersBeCarriedOut_41 rfl (fun c41 => ?_) (fun c41 => ?_)
      · refine g_aload_1 h dX0_letOrdersBeCarriedOut_56 ?_
        refine g_iload_4 h dX0_letOrdersBeCarriedOut_57 ?_
        refine g_aload_0 h dX0_letOrdersBeCarriedOut_59 ?_
        refine g_aload_1 h dX0_letOrdersBeCarriedOut_60 ?_
        refine g_iload_3 h dX0_letOrdersBeCarriedOut_61 ?_
        refine g_iload_5 h dX0_letOrdersBeCarriedOut_62 ?_
        refine g_cVi3 h rok0 mi_X0_reckoned dX0_letOrdersBeCarriedOut_64 ml_X0_43 rfl rfl rfl (Nat.le_of_ble_eq_true rfl) (Nat.le_of_ble_eq_true rfl) (sp_X0_reckoned_28 hT hD1 o8 (by rw [e1]; omega) (fun I3 h3 => ?_))
        refine g_cVv2 h rok0 mi_X5_carryOut dX0_letOrdersBeCarriedOut_67 ml_X0_47 rfl rfl rfl (Nat.le_of_ble_eq_true rfl) (Nat.le_of_ble_eq_true rfl) (sp_X5_carryOut_28 hT (by rw [(cal_dv h3).trans e1]; exact hD) (by rw [(cal_dv h3).trans e1]; omega) (fun I4 h4 => ?_))
        rw [cal_dv h3, e1, cal_sv (by decide) h3, hs.1] at h4
        have hs4 : stS 28 I I4 (crD (dv I) S1 q (rcD (dv I) S1 (oB (dv I) q) (oF (dv I) q))) := stS_tr (stS_cal (by decide) hs h3) h4
        refine g_iload_6 h dX0_letOrdersBeCarriedOut_70 ?_
        refine g_istore_3 h dX0_letOrdersBeCarriedOut_72 (by decide) rfl ?_
        refine g_iinc_4 h dX0_letOrdersBeCarriedOut_73 (inc1 _) (by decide) rfl ?_
        refine g_goto h 10 dX0_letOrdersBeCarriedOut_76 rfl ?_
        rw [← eb]
        refine ih (q + 1) _ _ _ _ (by omega) hs4 (fun I5 h5 => hQ I5 ?_)
        simp only [loF]
        rw [if_pos (Or.inl (eqN c41 (by omega) (by omega)))]
        exact h5
      · refine g_aload_0 h dX0_letOrdersBeCarriedOut_44 ?_
        refine g_aload_1 h dX0_letOrdersBeCarriedOut_45 ?_
        refine g_iload_5 h dX0_letOrdersBeCarriedOut_46 ?_
        refine g_iload_6 h dX0_letOrdersBeCarriedOut_48 ?_
        refine g_cVi3 h rok0 mi_X0_reckoned dX0_letOrdersBeCarriedOut_50 ml_X0_43 rfl rfl rfl (Nat.le_of_ble_eq_true rfl) (Nat.le_of_ble_eq_true rfl) (sp_X0_reckoned_28 hT hD1 o9 (by rw [e1]; exact o10) (fun I2 h2 => ?_))
        have e2 : dv I2 = dv I := (cal_dv h2).trans e1
        rw [e1, hs.1]
        refine g_if_eq h 70 dX0_letOrdersBeCarriedOut_53 rfl (fun c53 => ?_) (fun c53 => ?_)
        · refine g_iload_6 h dX0_letOrdersBeCarriedOut_70 ?_
          refine g_istore_3 h dX0_letOrdersBeCarriedOut_72 (by decide) rfl ?_
          refine g_iinc_4 h dX0_letOrdersBeCarriedOut_73 (inc1 _) (by decide) rfl ?_
          refine g_goto h 10 dX0_letOrdersBeCarriedOut_76 rfl ?_
          rw [← eb]
          refine ih (q + 1) _ _ _ _ (by omega) (stS_cal (by decide) hs h2) (fun I5 h5 => hQ I5 ?_)
          simp only [loF]
          rw [if_neg (fun w => w.elim (fun w => c41 (by rw [w])) (fun w => w c53))]
          exact h5
        · refine g_aload_1 h dX0_letOrdersBeCarriedOut_56 ?_
          refine g_iload_4 h dX0_letOrdersBeCarriedOut_57 ?_
          refine g_aload_0 h dX0_letOrdersBeCarriedOut_59 ?_
          refine g_aload_1 h dX0_letOrdersBeCarriedOut_60 ?_
          refine g_iload_3 h dX0_letOrdersBeCarriedOut_61 ?_
          refine g_iload_5 h dX0_letOrdersBeCarriedOut_62 ?_
          refine g_cVi3 h rok0 mi_X0_reckoned dX0_letOrdersBeCarriedOut_64 ml_X0_43 rfl rfl rfl (Nat.le_of_ble_eq_true rfl) (Nat.le_of_ble_eq_true rfl) (sp_X0_reckoned_28 hT (by rw [e2]; exact hD) o8 (by rw [e2]; omega) (fun I3 h3 => ?_))
          refine g_cVv2 h rok0 mi_X5_carryOut dX0_letOrdersBeCarriedOut_67 ml_X0_47 rfl rfl rfl (Nat.le_of_ble_eq_true rfl) (Nat.le_of_ble_eq_true rfl) (sp_X5_carryOut_28 hT (by rw [(cal_dv h3).trans e2]; exact hD) (by rw [(cal_dv h3).trans e2]; omega) (fun I4 h4 => ?_))
          have e2s : sv 28 I2 = S1 := (cal_sv (by decide) h2).trans hs.1
          rw [cal_dv h3, e2, cal_sv (by decide) h3, e2s] at h4
          have hs4 : stS 28 I I4 (crD (dv I) S1 q (rcD (dv I) S1 (oB (dv I) q) (oF (dv I) q))) := stS_tr (stS_cal (by decide) (stS_cal (by decide) hs h2) h3) h4
          refine g_iload_6 h dX0_letOrdersBeCarriedOut_70 ?_
          refine g_istore_3 h dX0_letOrdersBeCarriedOut_72 (by decide) rfl ?_
          refine g_iinc_4 h dX0_letOrdersBeCarriedOut_73 (inc1 _) (by decide) rfl ?_
          refine g_goto h 10 dX0_letOrdersBeCarriedOut_76 rfl ?_
          rw [← eb]
          refine ih (q + 1) _ _ _ _ (by omega) hs4 (fun I5 h5 => hQ I5 ?_)
          simp only [loF]
          rw [if_pos (Or.inr c53)]
          exact h5
set_option maxRecDepth 100000 in
set_option maxHeartbeats 4000000 in
theorem sp_X0_letOrdersBeCarriedOut_28 {d : Nat} {I : MI} {J : MJ} {P : MP} (hT : P 28 0 = some 36) (hD : tdOK (dv I)) {Q : MI → MJ → MP → Prop} (hQ : ∀ I', stS 28 I I' (loF (dv I) (nO (dv I)) 0 (sv 28 I)) → Q I' J P) : Sp yX0_letOrdersBeCarriedOut cX0_letOrdersBeCarriedOut 7 none (d + 4) [.ref 17, .ref 28] I J P (Qv Q) := by
  intro Γ h
  show VG Γ 0 0 0 [some (.ref 17), some (.ref 28), none, none, none, none, none] [] _ _ _ _
  refine g_aload_1 h dX0_letOrdersBeCarriedOut_0 ?_
  refine g_getP h fl_X0_28 dX0_letOrdersBeCarriedOut_1 rfl rfl (by assumption) ?_
  refine g_astore_2 h dX0_letOrdersBeCarriedOut_4 (by decide) rfl ?_
  refine g_iconst h dX0_letOrdersBeCarriedOut_5 (v := nI 0) rfl ?_
  refine g_istore_3 h dX0_letOrdersBeCarriedOut_6 (by decide) rfl ?_
  refine g_iconst h dX0_letOrdersBeCarriedOut_7 (v := nI 0) rfl ?_
  refine g_istore_4 h dX0_letOrdersBeCarriedOut_8 (by decide) rfl ?_
  exact lp_X0_letOrders_28 hT hD h (nO (dv I)) 0 I (sv 28 I) _ _ (by omega) stS_rf hQ
set_option maxHeartbeats 4000000 in
theorem lp_X0_letPass_28 {Γ : Cx} {d m : Nat} (hm : m < 1000) {I : MI} {J : MJ} {P : MP} (hT : P 28 0 = some 36) (hD : tdOK (dv I)) {Q : MI → MJ → MP → Prop} (h : Vc RX0 cX0_letPass 4 none (d + 5) Γ) : ∀ (f n : Nat) (I1 S1 : MI), n + f = m → stS 28 I I1 S1 → (∀ I', stS 28 I I' (psF (dv I) f S1) → Q I' J P) → VG Γ 0 0 2 [some (.ref 17), some (.ref 28), some (.int (nI m)), some (.int (nI n))] [] I1 J P (Fnl Γ (Qv Q)) := by
  intro f
  induction f with
  | zero =>
    intro n I1 S1 hn hs hQ
    refine g_iload_3 h dX0_letPass_2 ?_
    refine g_iload_2 h dX0_letPass_3 ?_
    refine g_icmp_ge h 22 dX0_letPass_4 rfl (fun c4 => ?_) (fun c4 => ?_)
    · refine g_vret h dX0_letPass_22 ?_
      exact hQ _ hs
    · exact absurd (nI_le (by omega) (by omega)) c4
  | succ f ih =>
    intro n I1 S1 hn hs hQ
    have e1 : dv I1 = dv I := stS_dv (by decide) hs
    refine g_iload_3 h dX0_letPass_2 ?_
    refine g_iload_2 h dX0_letPass_3 ?_
    refine g_icmp_ge h 22 dX0_letPass_4 rfl (fun c4 => ?_) (fun c4 => ?_)
    · exact absurd (leN c4 (by omega) (by omega)) (by omega)
    · refine g_aload_0 h dX0_letPass_7 ?_
      refine g_aload_1 h dX0_letPass_8 ?_
      refine g_cVv1 h rok0 mi_X0_letOrdersBeCarriedOut dX0_letPass_9 ml_X0_19 rfl rfl rfl (Nat.le_of_ble_eq_true rfl) (Nat.le_of_ble_eq_true rfl) (sp_X0_letOrdersBeCarriedOut_28 hT (by rw [e1]; exact hD) (fun I2 h2 => ?_))
      rw [e1, hs.1] at h2
      have e2 : dv I2 = dv I := (stS_dv (by decide) h2).trans e1
      refine g_aload_1 h dX0_letPass_12 ?_
      refine g_cVv0 h rok0 mi_X5_endMonth dX0_letPass_13 ml_X0_23 rfl rfl rfl (Nat.le_of_ble_eq_true rfl) (Nat.le_of_ble_eq_true rfl) (sp_X5_endMonth_28 hT (by rw [e2]; exact hD) (fun I3 h3 => ?_))
      refine g_iinc_3 h dX0_letPass_16 (inc1 _) (by decide) rfl ?_
      refine g_goto h 2 dX0_letPass_19 rfl ?_
      rw [e2, h2.1] at h3
      exact ih (n + 1) _ _ (by omega) (stS_tr (stS_tr hs h2) h3) (fun I4 h4 => hQ I4 h4)
set_option maxRecDepth 100000 in
set_option maxHeartbeats 4000000 in
theorem sp_X0_letPass_28 {d m : Nat} (hm : m < 1000) {I : MI} {J : MJ} {P : MP} (hT : P 28 0 = some 36) (hD : tdOK (dv I)) {Q : MI → MJ → MP → Prop} (hQ : ∀ I', stS 28 I I' (psF (dv I) m (sv 28 I)) → Q I' J P) : Sp yX0_letPass cX0_letPass 4 none (d + 5) [.ref 17, .ref 28, .int (nI m)] I J P (Qv Q) := by
  intro Γ h
  show VG Γ 0 0 0 [some (.ref 17), some (.ref 28), some (.int (nI m)), none] [] _ _ _ _
  refine g_iconst h dX0_letPass_0 (v := nI 0) rfl ?_
  refine g_istore_3 h dX0_letPass_1 (by decide) rfl ?_
  exact lp_X0_letPass_28 hm hT hD h m 0 I (sv 28 I) (by omega) stS_rf hQ
