/-! The class's parser: lines, the list -/
set_option maxRecDepth 100000 in
set_option maxHeartbeats 8000000 in
theorem lp_X4_otherNames {Γ : Cx} {K : Nat → Nat} {V : Nat → Int32} {M : Nat} {d z : Nat} {J : MJ} {P : MP} (hP : P 8 2 = some 77) {Q : Int32 → MI → MJ → MP → Prop} (h : Vc RX4 cX4_otherNames 3 (some .boolean) (d + 1) Γ) : ∀ (f n p : Nat) (I : MI), n + f = 400 → psO K V M I J → paS K p z I → p ≤ M → (∀ I', paR p z I I' → paS K (nms K f p) z I' → Q (nI 1) I' J P) → VG Γ 0 0 4 [some (.ref 8), some (.int (nI 1)), some (.int (nI n))] [] I J P (Fnl Γ (Qi Q)) := by
  intro f
  induction f with
  | zero =>
    intro n p I hn hK ha hp hQ
    obtain rfl : n = 400 := by omega
    refine g_iload_2 h dX4_otherNames_4 ?_
    refine g_sipush h dX4_otherNames_5 (v := nI 400) rfl ?_
    refine g_icmp_ge h 28 dX4_otherNames_8 rfl (fun _ => ?_) (fun c => absurd (nI_le (Nat.le_refl 400) (by decide)) c)
    refine g_iconst h dX4_otherNames_28 (v := nI 1) rfl ?_
    refine g_zret h dX4_otherNames_29 (by first | rfl | exact nar_b2i _) ?_
    exact hQ I paR.rf ha
  | succ f ih =>
    intro n p I hn hK ha hp hQ
    rw [nms] at hQ
    refine g_iload_2 h dX4_otherNames_4 ?_
    refine g_sipush h dX4_otherNames_5 (v := nI 400) rfl ?_
    refine g_icmp_ge h 28 dX4_otherNames_8 rfl (fun c => absurd c (nI_ge (by omega) (by decide))) (fun _ => ?_)
    refine g_iload_1 h dX4_otherNames_11 ?_
    refine g_if_eq h 28 dX4_otherNames_12 rfl (fun c => absurd c (by decide)) (fun _ => ?_)
    refine g_aload_0 h dX4_otherNames_15 ?_
    refine g_bipush h dX4_otherNames_16 (v := nI 28) rfl ?_
    refine g_cVi1 h rok0 mi_X4_take dX4_otherNames_18 ml_X4_45 rfl rfl rfl (Nat.le_of_ble_eq_true rfl) (Nat.le_of_ble_eq_true rfl) (sp_X4_take (k := 28) hK hP ha hp (by omega) (fun e1 I1 r1 a1 n1 => ?_) (fun e1 => ?_))
    · refine g_istore_1 h dX4_otherNames_21 (by decide) rfl ?_
      refine g_iinc_2 h dX4_otherNames_22 (inc1 _) (by decide) rfl ?_
      refine g_goto h 4 dX4_otherNames_25 rfl ?_
      have hM := K_lt hK.2.2.2.2 hp e1 (by decide)
      rw [if_pos e1] at hQ
      exact ih (n + 1) (p + 1) I1 (by omega) (r1.ps hK) a1 (by omega) (fun I' r' a' => hQ I' (r1.tr r' (by omega) (by omega)) a')
    · rw [if_neg e1] at hQ
      refine g_istore_1 h dX4_otherNames_21 (by decide) rfl ?_
      refine g_iinc_2 h dX4_otherNames_22 (inc1 _) (by decide) rfl ?_
      refine g_goto h 4 dX4_otherNames_25 rfl ?_
      refine g_iload_2 h dX4_otherNames_4 ?_
      refine g_sipush h dX4_otherNames_5 (v := nI 400) rfl ?_
      refine g_icmp_ge h 28 dX4_otherNames_8 rfl (fun c8 => ?_) (fun c8 => ?_)
      · refine g_iconst h dX4_otherNames_28 (v := nI 1) rfl ?_
        refine g_zret h dX4_otherNames_29 (by first | rfl | exact nar_b2i _) ?_
        exact hQ I paR.rf ha
      · refine g_iload_1 h dX4_otherNames_11 ?_
        refine g_if_eq h 28 dX4_otherNames_12 rfl (fun _ => ?_) (fun c => absurd c (by decide))
        refine g_iconst h dX4_otherNames_28 (v := nI 1) rfl ?_
        refine g_zret h dX4_otherNames_29 (by first | rfl | exact nar_b2i _) ?_
        exact hQ I paR.rf ha
set_option maxRecDepth 100000 in
set_option maxHeartbeats 4000000 in
theorem sp_X4_otherNames {K : Nat → Nat} {V : Nat → Int32} {M : Nat} {d p z : Nat} {I : MI} {J : MJ} {P : MP} (hK : psO K V M I J) (hP : P 8 2 = some 77) (ha : paS K p z I) (hp : p ≤ M) {Q : Int32 → MI → MJ → MP → Prop} (hQ : ∀ I', paR p z I I' → paS K (nms K 400 p) z I' → Q (nI 1) I' J P) : Sp yX4_otherNames cX4_otherNames 3 (some .boolean) (d + 1) [.ref 8] I J P (Qi Q) := by
  intro Γ h
  show VG Γ 0 0 0 [some (.ref 8), none, none] [] _ _ _ _
  refine g_iconst h dX4_otherNames_0 (v := nI 1) rfl ?_
  refine g_istore_1 h dX4_otherNames_1 (by decide) rfl ?_
  refine g_iconst h dX4_otherNames_2 (v := nI 0) rfl ?_
  refine g_istore_2 h dX4_otherNames_3 (by decide) rfl ?_
  exact lp_X4_otherNames hP h 400 0 p I rfl hK ha hp hQ
set_option maxRecDepth 100000 in
set_option maxHeartbeats 8000000 in
theorem sp_X4_line {K : Nat → Nat} {V m : Nat → Int32} {M : Nat} {d p z : Nat} {I : MI} {J : MJ} {P : MP} (hK : psO K V M I J) (hP : P 8 2 = some 77) (ha : paS K p z I) (hp : p ≤ M) (hz : z ≤ p) {Q : Int32 → MI → MJ → MP → Prop} (h1 : (pL K p).1 = true → ∀ I' z', paR p z I I' → paS K (pL K p).2 z' I' → z ≤ z' → z' ≤ (pL K p).2 → p < (pL K p).2 → (pL K p).2 ≤ M → lnC K V m p (pL K p).2 z z' I' → Q (nI 1) I' J P) (h0 : (pL K p).1 = false → ∀ I', paR p z I I' → I' 8 4 = nI (pL K p).2 → Q (nI 0) I' J P) : Sp yX4_line cX4_line 1 (some .boolean) (d + 21) [.ref 8] I J P (Qi Q) := by
  intro Γ h
  have hK' := hK
  obtain ⟨k1, k2, k3, k4, k5⟩ := hK'
  have kp := (k1 p hp).2
  have ha' := ha
  obtain ⟨ha1, ha2, ha3⟩ := ha'
  have c7 : K p = 0 ∨ K p = 2 ∨ K p = 7 ∨ K p = 9 ∨ K p = 11 ∨ K p = 14 ∨ (¬ K p = 0 ∧ ¬ K p = 2 ∧ ¬ K p = 7 ∧ ¬ K p = 9 ∧ ¬ K p = 11 ∧ ¬ K p = 14) := by omega
  unfold pL at h1 h0
  show VG Γ 0 0 0 [some (.ref 8)] [] _ _ _ _
  refine g_aload_0 h dX4_line_0 ?_
  refine g_getI h fl_X4_17 dX4_line_1 rfl rfl ?_
  rw [ha1]
  rcases c7 with e0 | e2 | e7 | e9 | e11 | e14 | eo
  · rw [if_pos e0] at h1 h0
    refine g_ts h (K p) 80 dX4_line_4 rfl (by omega) (by decide) ((by decide : ∀ k, k < 49 → k = 0 → tsO 488 0 14 #[76, 488, 125, 488, 488, 488, 488, 217, 488, 284, 488, 335, 488, 488, 420] k = 76) _ kp e0) rfl ?_
    refine g_aload_0 h dX4_line_80 ?_
    refine g_iconst h dX4_line_81 (v := nI 0) rfl ?_
    refine g_cVi1 h rok0 mi_X4_take dX4_line_82 ml_X4_45 rfl rfl rfl (Nat.le_of_ble_eq_true rfl) (Nat.le_of_ble_eq_true rfl) (sp_X4_take (k := 0) hK hP ha hp (by omega) (fun e0 I0 r0 a0 c0 => ?_) (fun e => absurd e0 e))
    · have pm0 := K_lt k5 hp e0 (by decide)
      have rr0 : paR p z I I0 := r0
      have kk0 := rr0.ps hK
      rw [sqK, if_pos e0] at h1 h0
      refine g_if_eq h 127 dX4_line_85 rfl (fun c => absurd c (by decide)) (fun _ => ?_)
      refine g_aload_0 h dX4_line_88 ?_
      refine g_bipush h dX4_line_89 (v := nI 28) rfl ?_
      refine g_cVi1 h rok0 mi_X4_take dX4_line_91 ml_X4_45 rfl rfl rfl (Nat.le_of_ble_eq_true rfl) (Nat.le_of_ble_eq_true rfl) (sp_X4_take (k := 28) kk0 hP a0 (by omega) (by omega) (fun e1 I1 r1 a1 c1 => ?_) (fun e1 => ?_))
      · have pm1 := K_lt k5 (by omega) e1 (by decide)
        have rr1 : paR p z I I1 := rr0.tr r1 (by omega) (by omega)
        have kk1 := rr1.ps hK
        rw [sqK, if_pos e1] at h1 h0
        refine g_if_eq h 127 dX4_line_94 rfl (fun c => absurd c (by decide)) (fun _ => ?_)
        refine g_aload_0 h dX4_line_97 ?_
        refine g_iconst h dX4_line_98 (v := nI 1) rfl ?_
        refine g_cVi1 h rok0 mi_X4_take dX4_line_99 ml_X4_45 rfl rfl rfl (Nat.le_of_ble_eq_true rfl) (Nat.le_of_ble_eq_true rfl) (sp_X4_take (k := 1) kk1 hP a1 (by omega) (by omega) (fun e2 I2 r2 a2 c2 => ?_) (fun e2 => ?_))
        · have pm2 := K_lt k5 (by omega) e2 (by decide)
          have rr2 : paR p z I I2 := rr1.tr r2 (by omega) (by omega)
          have kk2 := rr2.ps hK
          rw [sqK, if_pos e2] at h1 h0
          refine g_if_eq h 127 dX4_line_102 rfl (fun c => absurd c (by decide)) (fun _ => ?_)
          refine g_aload_0 h dX4_line_105 ?_
          refine g_bipush h dX4_line_106 (v := nI 29) rfl ?_
          refine g_cVi1 h rok0 mi_X4_take dX4_line_108 ml_X4_45 rfl rfl rfl (Nat.le_of_ble_eq_true rfl) (Nat.le_of_ble_eq_true rfl) (sp_X4_take (k := 29) kk2 hP a2 (by omega) (by omega) (fun e3 I3 r3 a3 c3 => ?_) (fun e3 => ?_))
          · have pm3 := K_lt k5 (by omega) e3 (by decide)
            have rr3 : paR p z I I3 := rr2.tr r3 (by omega) (by omega)
            have kk3 := rr3.ps hK
            rw [sqK, if_pos e3] at h1 h0
            refine g_if_eq h 127 dX4_line_111 rfl (fun c => absurd c (by decide)) (fun _ => ?_)
            refine g_aload_0 h dX4_line_114 ?_
            refine g_bipush h dX4_line_115 (v := nI 34) rfl ?_
            refine g_cVi1 h rok0 mi_X4_take dX4_line_117 ml_X4_45 rfl rfl rfl (Nat.le_of_ble_eq_true rfl) (Nat.le_of_ble_eq_true rfl) (sp_X4_take (k := 34) kk3 hP a3 (by omega) (by omega) (fun e4 I4 r4 a4 c4 => ?_) (fun e4 => ?_))
            · have pm4 := K_lt k5 (by omega) e4 (by decide)
              have rr4 : paR p z I I4 := rr3.tr r4 (by omega) (by omega)
              have kk4 := rr4.ps hK
              rw [sqK, if_pos e4] at h1 h0
              refine g_if_eq h 127 dX4_line_120 rfl (fun c => absurd c (by decide)) (fun _ => ?_)
              refine g_iconst h dX4_line_123 (v := nI 1) rfl ?_
              refine g_goto h 128 dX4_line_124 rfl ?_
              refine g_zret h dX4_line_128 (by first | rfl | exact nar_b2i _) ?_
              exact h1 rfl I4 z rr4 a4 (by omega) (by show z ≤ (((((p + 1) + 1) + 1) + 1) + 1); omega) (by show p < (((((p + 1) + 1) + 1) + 1) + 1); omega) (by show (((((p + 1) + 1) + 1) + 1) + 1) ≤ M; omega) (by rw [lnC, if_neg (by omega), if_neg (by omega)])
            · rw [sqK, if_neg e4] at h1 h0
              refine g_if_eq h 127 dX4_line_120 rfl (fun _ => ?_) (fun c => absurd c (by decide))
              refine g_iconst h dX4_line_127 (v := nI 0) rfl ?_
              refine g_zret h dX4_line_128 (by first | rfl | exact nar_b2i _) ?_
              exact h0 rfl I3 rr3 a3.2.1
          · rw [sqK, if_neg e3] at h1 h0
            refine g_if_eq h 127 dX4_line_111 rfl (fun _ => ?_) (fun c => absurd c (by decide))
            refine g_iconst h dX4_line_127 (v := nI 0) rfl ?_
            refine g_zret h dX4_line_128 (by first | rfl | exact nar_b2i _) ?_
            exact h0 rfl I2 rr2 a2.2.1
        · rw [sqK, if_neg e2] at h1 h0
          refine g_if_eq h 127 dX4_line_102 rfl (fun _ => ?_) (fun c => absurd c (by decide))
          refine g_iconst h dX4_line_127 (v := nI 0) rfl ?_
          refine g_zret h dX4_line_128 (by first | rfl | exact nar_b2i _) ?_
          exact h0 rfl I1 rr1 a1.2.1
      · rw [sqK, if_neg e1] at h1 h0
        refine g_if_eq h 127 dX4_line_94 rfl (fun _ => ?_) (fun c => absurd c (by decide))
        refine g_iconst h dX4_line_127 (v := nI 0) rfl ?_
        refine g_zret h dX4_line_128 (by first | rfl | exact nar_b2i _) ?_
        exact h0 rfl I0 rr0 a0.2.1
  · rw [if_neg (show ¬ K p = 0 by omega), if_pos e2] at h1 h0
    refine g_ts h (K p) 129 dX4_line_4 rfl (by omega) (by decide) ((by decide : ∀ k, k < 49 → k = 2 → tsO 488 0 14 #[76, 488, 125, 488, 488, 488, 488, 217, 488, 284, 488, 335, 488, 488, 420] k = 125) _ kp e2) rfl ?_
    refine g_aload_0 h dX4_line_129 ?_
    refine g_iconst h dX4_line_130 (v := nI 2) rfl ?_
    refine g_cVi1 h rok0 mi_X4_take dX4_line_131 ml_X4_45 rfl rfl rfl (Nat.le_of_ble_eq_true rfl) (Nat.le_of_ble_eq_true rfl) (sp_X4_take (k := 2) hK hP ha hp (by omega) (fun e5 I5 r5 a5 c5 => ?_) (fun e => absurd e2 e))
    · have pm5 := K_lt k5 hp e5 (by decide)
      have rr5 : paR p z I I5 := r5
      have kk5 := rr5.ps hK
      rw [sqK, if_pos e5] at h1 h0
      refine g_if_eq h 219 dX4_line_134 rfl (fun c => absurd c (by decide)) (fun _ => ?_)
      refine g_aload_0 h dX4_line_137 ?_
      refine g_bipush h dX4_line_138 (v := nI 28) rfl ?_
      refine g_cVi1 h rok0 mi_X4_take dX4_line_140 ml_X4_45 rfl rfl rfl (Nat.le_of_ble_eq_true rfl) (Nat.le_of_ble_eq_true rfl) (sp_X4_take (k := 28) kk5 hP a5 (by omega) (by omega) (fun e6 I6 r6 a6 c6 => ?_) (fun e6 => ?_))
      · have pm6 := K_lt k5 (by omega) e6 (by decide)
        have rr6 : paR p z I I6 := rr5.tr r6 (by omega) (by omega)
        have kk6 := rr6.ps hK
        rw [sqK, if_pos e6] at h1 h0
        refine g_if_eq h 219 dX4_line_143 rfl (fun c => absurd c (by decide)) (fun _ => ?_)
        refine g_aload_0 h dX4_line_146 ?_
        refine g_iconst h dX4_line_147 (v := nI 3) rfl ?_
        refine g_cVi1 h rok0 mi_X4_take dX4_line_148 ml_X4_45 rfl rfl rfl (Nat.le_of_ble_eq_true rfl) (Nat.le_of_ble_eq_true rfl) (sp_X4_take (k := 3) kk6 hP a6 (by omega) (by omega) (fun e7 I7 r7 a7 c7 => ?_) (fun e7 => ?_))
        · have pm7 := K_lt k5 (by omega) e7 (by decide)
          have rr7 : paR p z I I7 := rr6.tr r7 (by omega) (by omega)
          have kk7 := rr7.ps hK
          rw [sqK, if_pos e7] at h1 h0
          refine g_if_eq h 219 dX4_line_151 rfl (fun c => absurd c (by decide)) (fun _ => ?_)
          refine g_aload_0 h dX4_line_154 ?_
          refine g_bipush h dX4_line_155 (v := nI 28) rfl ?_
          refine g_cVi1 h rok0 mi_X4_take dX4_line_157 ml_X4_45 rfl rfl rfl (Nat.le_of_ble_eq_true rfl) (Nat.le_of_ble_eq_true rfl) (sp_X4_take (k := 28) kk7 hP a7 (by omega) (by omega) (fun e8 I8 r8 a8 c8 => ?_) (fun e8 => ?_))
          · have pm8 := K_lt k5 (by omega) e8 (by decide)
            have rr8 : paR p z I I8 := rr7.tr r8 (by omega) (by omega)
            have kk8 := rr8.ps hK
            rw [sqK, if_pos e8] at h1 h0
            refine g_if_eq h 219 dX4_line_160 rfl (fun c => absurd c (by decide)) (fun _ => ?_)
            refine g_aload_0 h dX4_line_163 ?_
            refine g_iconst h dX4_line_164 (v := nI 4) rfl ?_
            refine g_cVi1 h rok0 mi_X4_take dX4_line_165 ml_X4_45 rfl rfl rfl (Nat.le_of_ble_eq_true rfl) (Nat.le_of_ble_eq_true rfl) (sp_X4_take (k := 4) kk8 hP a8 (by omega) (by omega) (fun e9 I9 r9 a9 c9 => ?_) (fun e9 => ?_))
            · have pm9 := K_lt k5 (by omega) e9 (by decide)
              have rr9 : paR p z I I9 := rr8.tr r9 (by omega) (by omega)
              have kk9 := rr9.ps hK
              rw [sqK, if_pos e9] at h1 h0
              refine g_if_eq h 219 dX4_line_168 rfl (fun c => absurd c (by decide)) (fun _ => ?_)
              refine g_aload_0 h dX4_line_171 ?_
              refine g_iconst h dX4_line_172 (v := nI 5) rfl ?_
              refine g_cVi1 h rok0 mi_X4_take dX4_line_173 ml_X4_45 rfl rfl rfl (Nat.le_of_ble_eq_true rfl) (Nat.le_of_ble_eq_true rfl) (sp_X4_take (k := 5) kk9 hP a9 (by omega) (by omega) (fun e10 I10 r10 a10 c10 => ?_) (fun e10 => ?_))
              · have pm10 := K_lt k5 (by omega) e10 (by decide)
                have rr10 : paR p z I I10 := rr9.tr r10 (by omega) (by omega)
                have kk10 := rr10.ps hK
                rw [sqK, undL, if_pos (Or.inl e10)] at h1 h0
                refine g_if_ne h 188 dX4_line_176 rfl (fun _ => ?_) (fun c => absurd c (by decide))
                refine g_aload_0 h dX4_line_188 ?_
                refine g_bipush h dX4_line_189 (v := nI 6) rfl ?_
                refine g_cVi1 h rok0 mi_X4_take dX4_line_191 ml_X4_45 rfl rfl rfl (Nat.le_of_ble_eq_true rfl) (Nat.le_of_ble_eq_true rfl) (sp_X4_take (k := 6) kk10 hP a10 (by omega) (by omega) (fun e11 I11 r11 a11 c11 => ?_) (fun e11 => ?_))
                · have pm11 := K_lt k5 (by omega) e11 (by decide)
                  have rr11 : paR p z I I11 := rr10.tr r11 (by omega) (by omega)
                  have kk11 := rr11.ps hK
                  rw [couL, if_pos e11, sqK, if_pos e11] at h1 h0
                  refine g_if_eq h 206 dX4_line_194 rfl (fun c => absurd c (by decide)) (fun _ => ?_)
                  refine g_aload_0 h dX4_line_197 ?_
                  refine g_bipush h dX4_line_198 (v := nI 29) rfl ?_
                  refine g_cVi1 h rok0 mi_X4_take dX4_line_200 ml_X4_45 rfl rfl rfl (Nat.le_of_ble_eq_true rfl) (Nat.le_of_ble_eq_true rfl) (sp_X4_take (k := 29) kk11 hP a11 (by omega) (by omega) (fun e12 I12 r12 a12 c12 => ?_) (fun e12 => ?_))
                  · have pm12 := K_lt k5 (by omega) e12 (by decide)
                    have rr12 : paR p z I I12 := rr11.tr r12 (by omega) (by omega)
                    have kk12 := rr12.ps hK
                    rw [sqK, if_pos e12] at h1 h0
                    refine g_if_eq h 219 dX4_line_203 rfl (fun c => absurd c (by decide)) (fun _ => ?_)
                    refine g_aload_0 h dX4_line_206 ?_
                    refine g_bipush h dX4_line_207 (v := nI 34) rfl ?_
                    refine g_cVi1 h rok0 mi_X4_take dX4_line_209 ml_X4_45 rfl rfl rfl (Nat.le_of_ble_eq_true rfl) (Nat.le_of_ble_eq_true rfl) (sp_X4_take (k := 34) kk12 hP a12 (by omega) (by omega) (fun e13 I13 r13 a13 c13 => ?_) (fun e13 => ?_))
                    · have pm13 := K_lt k5 (by omega) e13 (by decide)
                      have rr13 : paR p z I I13 := rr12.tr r13 (by omega) (by omega)
                      have kk13 := rr13.ps hK
                      rw [sqK, if_pos e13] at h1 h0
                      refine g_if_eq h 219 dX4_line_212 rfl (fun c => absurd c (by decide)) (fun _ => ?_)
                      refine g_iconst h dX4_line_215 (v := nI 1) rfl ?_
                      refine g_goto h 220 dX4_line_216 rfl ?_
                      refine g_zret h dX4_line_220 (by first | rfl | exact nar_b2i _) ?_
                      exact h1 rfl I13 z rr13 a13 (by omega) (by show z ≤ (((((((((p + 1) + 1) + 1) + 1) + 1) + 1) + 1) + 1) + 1); omega) (by show p < (((((((((p + 1) + 1) + 1) + 1) + 1) + 1) + 1) + 1) + 1); omega) (by show (((((((((p + 1) + 1) + 1) + 1) + 1) + 1) + 1) + 1) + 1) ≤ M; omega) (by rw [lnC, if_neg (by omega), if_neg (by omega)])
                    · rw [sqK, if_neg e13] at h1 h0
                      refine g_if_eq h 219 dX4_line_212 rfl (fun _ => ?_) (fun c => absurd c (by decide))
                      refine g_iconst h dX4_line_219 (v := nI 0) rfl ?_
                      refine g_zret h dX4_line_220 (by first | rfl | exact nar_b2i _) ?_
                      exact h0 rfl I12 rr12 a12.2.1
                  · rw [sqK, if_neg e12] at h1 h0
                    refine g_if_eq h 219 dX4_line_203 rfl (fun _ => ?_) (fun c => absurd c (by decide))
                    refine g_iconst h dX4_line_219 (v := nI 0) rfl ?_
                    refine g_zret h dX4_line_220 (by first | rfl | exact nar_b2i _) ?_
                    exact h0 rfl I11 rr11 a11.2.1
                · rw [couL, if_neg e11] at h1 h0
                  refine g_if_eq h 206 dX4_line_194 rfl (fun _ => ?_) (fun c => absurd c (by decide))
                  refine g_aload_0 h dX4_line_206 ?_
                  refine g_bipush h dX4_line_207 (v := nI 34) rfl ?_
                  refine g_cVi1 h rok0 mi_X4_take dX4_line_209 ml_X4_45 rfl rfl rfl (Nat.le_of_ble_eq_true rfl) (Nat.le_of_ble_eq_true rfl) (sp_X4_take (k := 34) kk10 hP a10 (by omega) (by omega) (fun e14 I14 r14 a14 c14 => ?_) (fun e14 => ?_))
                  · have pm14 := K_lt k5 (by omega) e14 (by decide)
                    have rr14 : paR p z I I14 := rr10.tr r14 (by omega) (by omega)
                    have kk14 := rr14.ps hK
                    rw [sqK, if_pos e14] at h1 h0
                    refine g_if_eq h 219 dX4_line_212 rfl (fun c => absurd c (by decide)) (fun _ => ?_)
                    refine g_iconst h dX4_line_215 (v := nI 1) rfl ?_
                    refine g_goto h 220 dX4_line_216 rfl ?_
                    refine g_zret h dX4_line_220 (by first | rfl | exact nar_b2i _) ?_
                    exact h1 rfl I14 z rr14 a14 (by omega) (by show z ≤ (((((((p + 1) + 1) + 1) + 1) + 1) + 1) + 1); omega) (by show p < (((((((p + 1) + 1) + 1) + 1) + 1) + 1) + 1); omega) (by show (((((((p + 1) + 1) + 1) + 1) + 1) + 1) + 1) ≤ M; omega) (by rw [lnC, if_neg (by omega), if_neg (by omega)])
                  · rw [sqK, if_neg e14] at h1 h0
                    refine g_if_eq h 219 dX4_line_212 rfl (fun _ => ?_) (fun c => absurd c (by decide))
                    refine g_iconst h dX4_line_219 (v := nI 0) rfl ?_
                    refine g_zret h dX4_line_220 (by first | rfl | exact nar_b2i _) ?_
                    exact h0 rfl I10 rr10 a10.2.1
              · refine g_if_ne h 188 dX4_line_176 rfl (fun c => absurd c (by decide)) (fun _ => ?_)
                refine g_aload_0 h dX4_line_179 ?_
                refine g_bipush h dX4_line_180 (v := nI 28) rfl ?_
                refine g_cVi1 h rok0 mi_X4_take dX4_line_182 ml_X4_45 rfl rfl rfl (Nat.le_of_ble_eq_true rfl) (Nat.le_of_ble_eq_true rfl) (sp_X4_take (k := 28) kk9 hP a9 (by omega) (by omega) (fun e15 I15 r15 a15 c15 => ?_) (fun e15 => ?_))
                · have pm15 := K_lt k5 (by omega) e15 (by decide)
                  have rr15 : paR p z I I15 := rr9.tr r15 (by omega) (by omega)
                  have kk15 := rr15.ps hK
                  rw [sqK, undL, if_pos (Or.inr e15)] at h1 h0
                  refine g_if_eq h 219 dX4_line_185 rfl (fun c => absurd c (by decide)) (fun _ => ?_)
                  refine g_aload_0 h dX4_line_188 ?_
                  refine g_bipush h dX4_line_189 (v := nI 6) rfl ?_
                  refine g_cVi1 h rok0 mi_X4_take dX4_line_191 ml_X4_45 rfl rfl rfl (Nat.le_of_ble_eq_true rfl) (Nat.le_of_ble_eq_true rfl) (sp_X4_take (k := 6) kk15 hP a15 (by omega) (by omega) (fun e16 I16 r16 a16 c16 => ?_) (fun e16 => ?_))
                  · have pm16 := K_lt k5 (by omega) e16 (by decide)
                    have rr16 : paR p z I I16 := rr15.tr r16 (by omega) (by omega)
                    have kk16 := rr16.ps hK
                    rw [couL, if_pos e16, sqK, if_pos e16] at h1 h0
                    refine g_if_eq h 206 dX4_line_194 rfl (fun c => absurd c (by decide)) (fun _ => ?_)
                    refine g_aload_0 h dX4_line_197 ?_
                    refine g_bipush h dX4_line_198 (v := nI 29) rfl ?_
                    refine g_cVi1 h rok0 mi_X4_take dX4_line_200 ml_X4_45 rfl rfl rfl (Nat.le_of_ble_eq_true rfl) (Nat.le_of_ble_eq_true rfl) (sp_X4_take (k := 29) kk16 hP a16 (by omega) (by omega) (fun e17 I17 r17 a17 c17 => ?_) (fun e17 => ?_))
                    · have pm17 := K_lt k5 (by omega) e17 (by decide)
                      have rr17 : paR p z I I17 := rr16.tr r17 (by omega) (by omega)
                      have kk17 := rr17.ps hK
                      rw [sqK, if_pos e17] at h1 h0
                      refine g_if_eq h 219 dX4_line_203 rfl (fun c => absurd c (by decide)) (fun _ => ?_)
                      refine g_aload_0 h dX4_line_206 ?_
                      refine g_bipush h dX4_line_207 (v := nI 34) rfl ?_
                      refine g_cVi1 h rok0 mi_X4_take dX4_line_209 ml_X4_45 rfl rfl rfl (Nat.le_of_ble_eq_true rfl) (Nat.le_of_ble_eq_true rfl) (sp_X4_take (k := 34) kk17 hP a17 (by omega) (by omega) (fun e18 I18 r18 a18 c18 => ?_) (fun e18 => ?_))
                      · have pm18 := K_lt k5 (by omega) e18 (by decide)
                        have rr18 : paR p z I I18 := rr17.tr r18 (by omega) (by omega)
                        have kk18 := rr18.ps hK
                        rw [sqK, if_pos e18] at h1 h0
                        refine g_if_eq h 219 dX4_line_212 rfl (fun c => absurd c (by decide)) (fun _ => ?_)
                        refine g_iconst h dX4_line_215 (v := nI 1) rfl ?_
                        refine g_goto h 220 dX4_line_216 rfl ?_
                        refine g_zret h dX4_line_220 (by first | rfl | exact nar_b2i _) ?_
                        exact h1 rfl I18 z rr18 a18 (by omega) (by show z ≤ (((((((((p + 1) + 1) + 1) + 1) + 1) + 1) + 1) + 1) + 1); omega) (by show p < (((((((((p + 1) + 1) + 1) + 1) + 1) + 1) + 1) + 1) + 1); omega) (by show (((((((((p + 1) + 1) + 1) + 1) + 1) + 1) + 1) + 1) + 1) ≤ M; omega) (by rw [lnC, if_neg (by omega), if_neg (by omega)])
                      · rw [sqK, if_neg e18] at h1 h0
                        refine g_if_eq h 219 dX4_line_212 rfl (fun _ => ?_) (fun c => absurd c (by decide))
                        refine g_iconst h dX4_line_219 (v := nI 0) rfl ?_
                        refine g_zret h dX4_line_220 (by first | rfl | exact nar_b2i _) ?_
                        exact h0 rfl I17 rr17 a17.2.1
                    · rw [sqK, if_neg e17] at h1 h0
                      refine g_if_eq h 219 dX4_line_203 rfl (fun _ => ?_) (fun c => absurd c (by decide))
                      refine g_iconst h dX4_line_219 (v := nI 0) rfl ?_
                      refine g_zret h dX4_line_220 (by first | rfl | exact nar_b2i _) ?_
                      exact h0 rfl I16 rr16 a16.2.1
                  · rw [couL, if_neg e16] at h1 h0
                    refine g_if_eq h 206 dX4_line_194 rfl (fun _ => ?_) (fun c => absurd c (by decide))
                    refine g_aload_0 h dX4_line_206 ?_
                    refine g_bipush h dX4_line_207 (v := nI 34) rfl ?_
                    refine g_cVi1 h rok0 mi_X4_take dX4_line_209 ml_X4_45 rfl rfl rfl (Nat.le_of_ble_eq_true rfl) (Nat.le_of_ble_eq_true rfl) (sp_X4_take (k := 34) kk15 hP a15 (by omega) (by omega) (fun e19 I19 r19 a19 c19 => ?_) (fun e19 => ?_))
                    · have pm19 := K_lt k5 (by omega) e19 (by decide)
                      have rr19 : paR p z I I19 := rr15.tr r19 (by omega) (by omega)
                      have kk19 := rr19.ps hK
                      rw [sqK, if_pos e19] at h1 h0
                      refine g_if_eq h 219 dX4_line_212 rfl (fun c => absurd c (by decide)) (fun _ => ?_)
                      refine g_iconst h dX4_line_215 (v := nI 1) rfl ?_
                      refine g_goto h 220 dX4_line_216 rfl ?_
                      refine g_zret h dX4_line_220 (by first | rfl | exact nar_b2i _) ?_
                      exact h1 rfl I19 z rr19 a19 (by omega) (by show z ≤ (((((((p + 1) + 1) + 1) + 1) + 1) + 1) + 1); omega) (by show p < (((((((p + 1) + 1) + 1) + 1) + 1) + 1) + 1); omega) (by show (((((((p + 1) + 1) + 1) + 1) + 1) + 1) + 1) ≤ M; omega) (by rw [lnC, if_neg (by omega), if_neg (by omega)])
                    · rw [sqK, if_neg e19] at h1 h0
                      refine g_if_eq h 219 dX4_line_212 rfl (fun _ => ?_) (fun c => absurd c (by decide))
                      refine g_iconst h dX4_line_219 (v := nI 0) rfl ?_
                      refine g_zret h dX4_line_220 (by first | rfl | exact nar_b2i _) ?_
                      exact h0 rfl I15 rr15 a15.2.1
                · rw [sqK, undL, if_neg (fun q => q.elim e10 e15)] at h1 h0
                  refine g_if_eq h 219 dX4_line_185 rfl (fun _ => ?_) (fun c => absurd c (by decide))
                  refine g_iconst h dX4_line_219 (v := nI 0) rfl ?_
                  refine g_zret h dX4_line_220 (by first | rfl | exact nar_b2i _) ?_
                  exact h0 rfl I9 rr9 a9.2.1
            · rw [sqK, if_neg e9] at h1 h0
              refine g_if_eq h 219 dX4_line_168 rfl (fun _ => ?_) (fun c => absurd c (by decide))
              refine g_iconst h dX4_line_219 (v := nI 0) rfl ?_
              refine g_zret h dX4_line_220 (by first | rfl | exact nar_b2i _) ?_
              exact h0 rfl I8 rr8 a8.2.1
          · rw [sqK, if_neg e8] at h1 h0
            refine g_if_eq h 219 dX4_line_160 rfl (fun _ => ?_) (fun c => absurd c (by decide))
            refine g_iconst h dX4_line_219 (v := nI 0) rfl ?_
            refine g_zret h dX4_line_220 (by first | rfl | exact nar_b2i _) ?_
            exact h0 rfl I7 rr7 a7.2.1
        · rw [sqK, if_neg e7] at h1 h0
          refine g_if_eq h 219 dX4_line_151 rfl (fun _ => ?_) (fun c => absurd c (by decide))
          refine g_iconst h dX4_line_219 (v := nI 0) rfl ?_
          refine g_zret h dX4_line_220 (by first | rfl | exact nar_b2i _) ?_
          exact h0 rfl I6 rr6 a6.2.1
      · rw [sqK, if_neg e6] at h1 h0
        refine g_if_eq h 219 dX4_line_143 rfl (fun _ => ?_) (fun c => absurd c (by decide))
        refine g_iconst h dX4_line_219 (v := nI 0) rfl ?_
        refine g_zret h dX4_line_220 (by first | rfl | exact nar_b2i _) ?_
        exact h0 rfl I5 rr5 a5.2.1
  · rw [if_neg (show ¬ K p = 0 by omega), if_neg (show ¬ K p = 2 by omega), if_pos e7] at h1 h0
    refine g_ts h (K p) 221 dX4_line_4 rfl (by omega) (by decide) ((by decide : ∀ k, k < 49 → k = 7 → tsO 488 0 14 #[76, 488, 125, 488, 488, 488, 488, 217, 488, 284, 488, 335, 488, 488, 420] k = 217) _ kp e7) rfl ?_
    refine g_aload_0 h dX4_line_221 ?_
    refine g_bipush h dX4_line_222 (v := nI 7) rfl ?_
    refine g_cVi1 h rok0 mi_X4_take dX4_line_224 ml_X4_45 rfl rfl rfl (Nat.le_of_ble_eq_true rfl) (Nat.le_of_ble_eq_true rfl) (sp_X4_take (k := 7) hK hP ha hp (by omega) (fun e20 I20 r20 a20 c20 => ?_) (fun e => absurd e7 e))
    · have pm20 := K_lt k5 hp e20 (by decide)
      have rr20 : paR p z I I20 := r20
      have kk20 := rr20.ps hK
      rw [sqK, if_pos e20] at h1 h0
      refine g_if_eq h 286 dX4_line_227 rfl (fun c => absurd c (by decide)) (fun _ => ?_)
      refine g_aload_0 h dX4_line_230 ?_
      refine g_bipush h dX4_line_231 (v := nI 28) rfl ?_
      refine g_cVi1 h rok0 mi_X4_take dX4_line_233 ml_X4_45 rfl rfl rfl (Nat.le_of_ble_eq_true rfl) (Nat.le_of_ble_eq_true rfl) (sp_X4_take (k := 28) kk20 hP a20 (by omega) (by omega) (fun e21 I21 r21 a21 c21 => ?_) (fun e21 => ?_))
      · have pm21 := K_lt k5 (by omega) e21 (by decide)
        have rr21 : paR p z I I21 := rr20.tr r21 (by omega) (by omega)
        have kk21 := rr21.ps hK
        rw [sqK, if_pos e21] at h1 h0
        refine g_if_eq h 286 dX4_line_236 rfl (fun c => absurd c (by decide)) (fun _ => ?_)
        refine g_aload_0 h dX4_line_239 ?_
        refine g_bipush h dX4_line_240 (v := nI 8) rfl ?_
        refine g_cVi1 h rok0 mi_X4_take dX4_line_242 ml_X4_45 rfl rfl rfl (Nat.le_of_ble_eq_true rfl) (Nat.le_of_ble_eq_true rfl) (sp_X4_take (k := 8) kk21 hP a21 (by omega) (by omega) (fun e22 I22 r22 a22 c22 => ?_) (fun e22 => ?_))
        · have pm22 := K_lt k5 (by omega) e22 (by decide)
          have rr22 : paR p z I I22 := rr21.tr r22 (by omega) (by omega)
          have kk22 := rr22.ps hK
          rw [sqK, if_pos e22] at h1 h0
          refine g_if_eq h 286 dX4_line_245 rfl (fun c => absurd c (by decide)) (fun _ => ?_)
          refine g_aload_0 h dX4_line_248 ?_
          refine g_bipush h dX4_line_249 (v := nI 28) rfl ?_
          refine g_cVi1 h rok0 mi_X4_take dX4_line_251 ml_X4_45 rfl rfl rfl (Nat.le_of_ble_eq_true rfl) (Nat.le_of_ble_eq_true rfl) (sp_X4_take (k := 28) kk22 hP a22 (by omega) (by omega) (fun e23 I23 r23 a23 c23 => ?_) (fun e23 => ?_))
          · have pm23 := K_lt k5 (by omega) e23 (by decide)
            have rr23 : paR p z I I23 := rr22.tr r23 (by omega) (by omega)
            have kk23 := rr23.ps hK
            rw [sqK, if_pos e23] at h1 h0
            refine g_if_eq h 286 dX4_line_254 rfl (fun c => absurd c (by decide)) (fun _ => ?_)
            refine g_aload_0 h dX4_line_257 ?_
            refine g_bipush h dX4_line_258 (v := nI 28) rfl ?_
            refine g_cVi1 h rok0 mi_X4_take dX4_line_260 ml_X4_45 rfl rfl rfl (Nat.le_of_ble_eq_true rfl) (Nat.le_of_ble_eq_true rfl) (sp_X4_take (k := 28) kk23 hP a23 (by omega) (by omega) (fun e24 I24 r24 a24 c24 => ?_) (fun e24 => ?_))
            · have pm24 := K_lt k5 (by omega) e24 (by decide)
              have rr24 : paR p z I I24 := rr23.tr r24 (by omega) (by omega)
              have kk24 := rr24.ps hK
              rw [sqK, if_pos e24] at h1 h0
              refine g_if_eq h 286 dX4_line_263 rfl (fun c => absurd c (by decide)) (fun _ => ?_)
              refine g_aload_0 h dX4_line_266 ?_
              refine g_cVi0 h rok0 mi_X4_otherNames dX4_line_267 ml_X4_49 rfl rfl rfl (Nat.le_of_ble_eq_true rfl) (Nat.le_of_ble_eq_true rfl) (sp_X4_otherNames kk24 hP a24 (by omega) (fun I25 r25 a25 => ?_))
              · rw [sqK] at h1 h0
                obtain ⟨nb25, nc25⟩ := nms_B k5 400 (((((p + 1) + 1) + 1) + 1) + 1) (by omega)
                have rr25 := rr24.tr r25 (by omega) (by omega)
                have kk25 := rr25.ps hK
                refine g_if_eq h 286 dX4_line_270 rfl (fun c => absurd c (by decide)) (fun _ => ?_)
                refine g_aload_0 h dX4_line_273 ?_
                refine g_bipush h dX4_line_274 (v := nI 34) rfl ?_
                refine g_cVi1 h rok0 mi_X4_take dX4_line_276 ml_X4_45 rfl rfl rfl (Nat.le_of_ble_eq_true rfl) (Nat.le_of_ble_eq_true rfl) (sp_X4_take (k := 34) kk25 hP a25 (by omega) (by omega) (fun e26 I26 r26 a26 c26 => ?_) (fun e26 => ?_))
                · have pm26 := K_lt k5 (by omega) e26 (by decide)
                  have rr26 : paR p z I I26 := rr25.tr r26 (by omega) (by omega)
                  have kk26 := rr26.ps hK
                  rw [sqK, if_pos e26] at h1 h0
                  refine g_if_eq h 286 dX4_line_279 rfl (fun c => absurd c (by decide)) (fun _ => ?_)
                  refine g_iconst h dX4_line_282 (v := nI 1) rfl ?_
                  refine g_goto h 287 dX4_line_283 rfl ?_
                  refine g_zret h dX4_line_287 (by first | rfl | exact nar_b2i _) ?_
                  exact h1 rfl I26 z rr26 a26 (by omega) (by show z ≤ ((nms K 400 (((((p + 1) + 1) + 1) + 1) + 1)) + 1); omega) (by show p < ((nms K 400 (((((p + 1) + 1) + 1) + 1) + 1)) + 1); omega) (by show ((nms K 400 (((((p + 1) + 1) + 1) + 1) + 1)) + 1) ≤ M; omega) (by rw [lnC, if_neg (by omega), if_neg (by omega)])
                · rw [sqK, if_neg e26] at h1 h0
                  refine g_if_eq h 286 dX4_line_279 rfl (fun _ => ?_) (fun c => absurd c (by decide))
                  refine g_iconst h dX4_line_286 (v := nI 0) rfl ?_
                  refine g_zret h dX4_line_287 (by first | rfl | exact nar_b2i _) ?_
                  exact h0 rfl I25 rr25 a25.2.1
            · rw [sqK, if_neg e24] at h1 h0
              refine g_if_eq h 286 dX4_line_263 rfl (fun _ => ?_) (fun c => absurd c (by decide))
              refine g_iconst h dX4_line_286 (v := nI 0) rfl ?_
              refine g_zret h dX4_line_287 (by first | rfl | exact nar_b2i _) ?_
              exact h0 rfl I23 rr23 a23.2.1
          · rw [sqK, if_neg e23] at h1 h0
            refine g_if_eq h 286 dX4_line_254 rfl (fun _ => ?_) (fun c => absurd c (by decide))
            refine g_iconst h dX4_line_286 (v := nI 0) rfl ?_
            refine g_zret h dX4_line_287 (by first | rfl | exact nar_b2i _) ?_
            exact h0 rfl I22 rr22 a22.2.1
        · rw [sqK, if_neg e22] at h1 h0
          refine g_if_eq h 286 dX4_line_245 rfl (fun _ => ?_) (fun c => absurd c (by decide))
          refine g_iconst h dX4_line_286 (v := nI 0) rfl ?_
          refine g_zret h dX4_line_287 (by first | rfl | exact nar_b2i _) ?_
          exact h0 rfl I21 rr21 a21.2.1
      · rw [sqK, if_neg e21] at h1 h0
        refine g_if_eq h 286 dX4_line_236 rfl (fun _ => ?_) (fun c => absurd c (by decide))
        refine g_iconst h dX4_line_286 (v := nI 0) rfl ?_
        refine g_zret h dX4_line_287 (by first | rfl | exact nar_b2i _) ?_
        exact h0 rfl I20 rr20 a20.2.1
  · rw [if_neg (show ¬ K p = 0 by omega), if_neg (show ¬ K p = 2 by omega), if_neg (show ¬ K p = 7 by omega), if_pos e9] at h1 h0
    refine g_ts h (K p) 288 dX4_line_4 rfl (by omega) (by decide) ((by decide : ∀ k, k < 49 → k = 9 → tsO 488 0 14 #[76, 488, 125, 488, 488, 488, 488, 217, 488, 284, 488, 335, 488, 488, 420] k = 284) _ kp e9) rfl ?_
    refine g_aload_0 h dX4_line_288 ?_
    refine g_bipush h dX4_line_289 (v := nI 9) rfl ?_
    refine g_cVi1 h rok0 mi_X4_take dX4_line_291 ml_X4_45 rfl rfl rfl (Nat.le_of_ble_eq_true rfl) (Nat.le_of_ble_eq_true rfl) (sp_X4_take (k := 9) hK hP ha hp (by omega) (fun e27 I27 r27 a27 c27 => ?_) (fun e => absurd e9 e))
    · have pm27 := K_lt k5 hp e27 (by decide)
      have rr27 : paR p z I I27 := r27
      have kk27 := rr27.ps hK
      rw [sqK, if_pos e27] at h1 h0
      refine g_if_eq h 337 dX4_line_294 rfl (fun c => absurd c (by decide)) (fun _ => ?_)
      refine g_aload_0 h dX4_line_297 ?_
      refine g_bipush h dX4_line_298 (v := nI 28) rfl ?_
      refine g_cVi1 h rok0 mi_X4_take dX4_line_300 ml_X4_45 rfl rfl rfl (Nat.le_of_ble_eq_true rfl) (Nat.le_of_ble_eq_true rfl) (sp_X4_take (k := 28) kk27 hP a27 (by omega) (by omega) (fun e28 I28 r28 a28 c28 => ?_) (fun e28 => ?_))
      · have pm28 := K_lt k5 (by omega) e28 (by decide)
        have rr28 : paR p z I I28 := rr27.tr r28 (by omega) (by omega)
        have kk28 := rr28.ps hK
        rw [sqK, if_pos e28] at h1 h0
        refine g_if_eq h 337 dX4_line_303 rfl (fun c => absurd c (by decide)) (fun _ => ?_)
        refine g_aload_0 h dX4_line_306 ?_
        refine g_bipush h dX4_line_307 (v := nI 10) rfl ?_
        refine g_cVi1 h rok0 mi_X4_take dX4_line_309 ml_X4_45 rfl rfl rfl (Nat.le_of_ble_eq_true rfl) (Nat.le_of_ble_eq_true rfl) (sp_X4_take (k := 10) kk28 hP a28 (by omega) (by omega) (fun e29 I29 r29 a29 c29 => ?_) (fun e29 => ?_))
        · have pm29 := K_lt k5 (by omega) e29 (by decide)
          have rr29 : paR p z I I29 := rr28.tr r29 (by omega) (by omega)
          have kk29 := rr29.ps hK
          rw [sqK, if_pos e29] at h1 h0
          refine g_if_eq h 337 dX4_line_312 rfl (fun c => absurd c (by decide)) (fun _ => ?_)
          refine g_aload_0 h dX4_line_315 ?_
          refine g_bipush h dX4_line_316 (v := nI 29) rfl ?_
          refine g_cVi1 h rok0 mi_X4_take dX4_line_318 ml_X4_45 rfl rfl rfl (Nat.le_of_ble_eq_true rfl) (Nat.le_of_ble_eq_true rfl) (sp_X4_take (k := 29) kk29 hP a29 (by omega) (by omega) (fun e30 I30 r30 a30 c30 => ?_) (fun e30 => ?_))
          · have pm30 := K_lt k5 (by omega) e30 (by decide)
            have rr30 : paR p z I I30 := rr29.tr r30 (by omega) (by omega)
            have kk30 := rr30.ps hK
            rw [sqK, if_pos e30] at h1 h0
            refine g_if_eq h 337 dX4_line_321 rfl (fun c => absurd c (by decide)) (fun _ => ?_)
            refine g_aload_0 h dX4_line_324 ?_
            refine g_bipush h dX4_line_325 (v := nI 34) rfl ?_
            refine g_cVi1 h rok0 mi_X4_take dX4_line_327 ml_X4_45 rfl rfl rfl (Nat.le_of_ble_eq_true rfl) (Nat.le_of_ble_eq_true rfl) (sp_X4_take (k := 34) kk30 hP a30 (by omega) (by omega) (fun e31 I31 r31 a31 c31 => ?_) (fun e31 => ?_))
            · have pm31 := K_lt k5 (by omega) e31 (by decide)
              have rr31 : paR p z I I31 := rr30.tr r31 (by omega) (by omega)
              have kk31 := rr31.ps hK
              rw [sqK, if_pos e31] at h1 h0
              refine g_if_eq h 337 dX4_line_330 rfl (fun c => absurd c (by decide)) (fun _ => ?_)
              refine g_iconst h dX4_line_333 (v := nI 1) rfl ?_
              refine g_goto h 338 dX4_line_334 rfl ?_
              refine g_zret h dX4_line_338 (by first | rfl | exact nar_b2i _) ?_
              exact h1 rfl I31 z rr31 a31 (by omega) (by show z ≤ (((((p + 1) + 1) + 1) + 1) + 1); omega) (by show p < (((((p + 1) + 1) + 1) + 1) + 1); omega) (by show (((((p + 1) + 1) + 1) + 1) + 1) ≤ M; omega) (by rw [lnC, if_neg (by omega), if_neg (by omega)])
            · rw [sqK, if_neg e31] at h1 h0
              refine g_if_eq h 337 dX4_line_330 rfl (fun _ => ?_) (fun c => absurd c (by decide))
              refine g_iconst h dX4_line_337 (v := nI 0) rfl ?_
              refine g_zret h dX4_line_338 (by first | rfl | exact nar_b2i _) ?_
              exact h0 rfl I30 rr30 a30.2.1
          · rw [sqK, if_neg e30] at h1 h0
            refine g_if_eq h 337 dX4_line_321 rfl (fun _ => ?_) (fun c => absurd c (by decide))
            refine g_iconst h dX4_line_337 (v := nI 0) rfl ?_
            refine g_zret h dX4_line_338 (by first | rfl | exact nar_b2i _) ?_
            exact h0 rfl I29 rr29 a29.2.1
        · rw [sqK, if_neg e29] at h1 h0
          refine g_if_eq h 337 dX4_line_312 rfl (fun _ => ?_) (fun c => absurd c (by decide))
          refine g_iconst h dX4_line_337 (v := nI 0) rfl ?_
          refine g_zret h dX4_line_338 (by first | rfl | exact nar_b2i _) ?_
          exact h0 rfl I28 rr28 a28.2.1
      · rw [sqK, if_neg e28] at h1 h0
        refine g_if_eq h 337 dX4_line_303 rfl (fun _ => ?_) (fun c => absurd c (by decide))
        refine g_iconst h dX4_line_337 (v := nI 0) rfl ?_
        refine g_zret h dX4_line_338 (by first | rfl | exact nar_b2i _) ?_
        exact h0 rfl I27 rr27 a27.2.1
  · rw [if_neg (show ¬ K p = 0 by omega), if_neg (show ¬ K p = 2 by omega), if_neg (show ¬ K p = 7 by omega), if_neg (show ¬ K p = 9 by omega), if_pos e11] at h1 h0
    refine g_ts h (K p) 339 dX4_line_4 rfl (by omega) (by decide) ((by decide : ∀ k, k < 49 → k = 11 → tsO 488 0 14 #[76, 488, 125, 488, 488, 488, 488, 217, 488, 284, 488, 335, 488, 488, 420] k = 335) _ kp e11) rfl ?_
    refine g_aload_0 h dX4_line_339 ?_
    refine g_bipush h dX4_line_340 (v := nI 11) rfl ?_
    refine g_cVi1 h rok0 mi_X4_take dX4_line_342 ml_X4_45 rfl rfl rfl (Nat.le_of_ble_eq_true rfl) (Nat.le_of_ble_eq_true rfl) (sp_X4_take (k := 11) hK hP ha hp (by omega) (fun e32 I32 r32 a32 c32 => ?_) (fun e => absurd e11 e))
    · have pm32 := K_lt k5 hp e32 (by decide)
      have rr32 : paR p z I I32 := r32
      have kk32 := rr32.ps hK
      rw [sqK, if_pos e32] at h1 h0
      refine g_if_eq h 422 dX4_line_345 rfl (fun c => absurd c (by decide)) (fun _ => ?_)
      refine g_aload_0 h dX4_line_348 ?_
      refine g_bipush h dX4_line_349 (v := nI 28) rfl ?_
      refine g_cVi1 h rok0 mi_X4_take dX4_line_351 ml_X4_45 rfl rfl rfl (Nat.le_of_ble_eq_true rfl) (Nat.le_of_ble_eq_true rfl) (sp_X4_take (k := 28) kk32 hP a32 (by omega) (by omega) (fun e33 I33 r33 a33 c33 => ?_) (fun e33 => ?_))
      · have pm33 := K_lt k5 (by omega) e33 (by decide)
        have rr33 : paR p z I I33 := rr32.tr r33 (by omega) (by omega)
        have kk33 := rr33.ps hK
        rw [sqK, if_pos e33] at h1 h0
        refine g_if_eq h 422 dX4_line_354 rfl (fun c => absurd c (by decide)) (fun _ => ?_)
        refine g_aload_0 h dX4_line_357 ?_
        refine g_bipush h dX4_line_358 (v := nI 12) rfl ?_
        refine g_cVi1 h rok0 mi_X4_take dX4_line_360 ml_X4_45 rfl rfl rfl (Nat.le_of_ble_eq_true rfl) (Nat.le_of_ble_eq_true rfl) (sp_X4_take (k := 12) kk33 hP a33 (by omega) (by omega) (fun e34 I34 r34 a34 c34 => ?_) (fun e34 => ?_))
        · have pm34 := K_lt k5 (by omega) e34 (by decide)
          have rr34 : paR p z I I34 := rr33.tr r34 (by omega) (by omega)
          have kk34 := rr34.ps hK
          rw [sqK, if_pos e34] at h1 h0
          refine g_if_eq h 422 dX4_line_363 rfl (fun c => absurd c (by decide)) (fun _ => ?_)
          refine g_aload_0 h dX4_line_366 ?_
          refine g_bipush h dX4_line_367 (v := nI 28) rfl ?_
          refine g_cVi1 h rok0 mi_X4_take dX4_line_369 ml_X4_45 rfl rfl rfl (Nat.le_of_ble_eq_true rfl) (Nat.le_of_ble_eq_true rfl) (sp_X4_take (k := 28) kk34 hP a34 (by omega) (by omega) (fun e35 I35 r35 a35 c35 => ?_) (fun e35 => ?_))
          · have pm35 := K_lt k5 (by omega) e35 (by decide)
            have rr35 : paR p z I I35 := rr34.tr r35 (by omega) (by omega)
            have kk35 := rr35.ps hK
            rw [sqK, if_pos e35] at h1 h0
            refine g_if_eq h 422 dX4_line_372 rfl (fun c => absurd c (by decide)) (fun _ => ?_)
            refine g_aload_0 h dX4_line_375 ?_
            refine g_bipush h dX4_line_376 (v := nI 13) rfl ?_
            refine g_cVi1 h rok0 mi_X4_take dX4_line_378 ml_X4_45 rfl rfl rfl (Nat.le_of_ble_eq_true rfl) (Nat.le_of_ble_eq_true rfl) (sp_X4_take (k := 13) kk35 hP a35 (by omega) (by omega) (fun e36 I36 r36 a36 c36 => ?_) (fun e36 => ?_))
            · have pm36 := K_lt k5 (by omega) e36 (by decide)
              have rr36 : paR p z I I36 := rr35.tr r36 (by omega) (by omega)
              have kk36 := rr36.ps hK
              rw [sqK, if_pos e36] at h1 h0
              refine g_if_eq h 422 dX4_line_381 rfl (fun c => absurd c (by decide)) (fun _ => ?_)
              refine g_aload_0 h dX4_line_384 ?_
              refine g_iconst h dX4_line_385 (v := nI 0) rfl ?_
              refine g_cVi1 h rok0 mi_X4_sumAt dX4_line_386 ml_X4_52 rfl rfl rfl (Nat.le_of_ble_eq_true rfl) (Nat.le_of_ble_eq_true rfl) (cP_D (cs_S (V := V) (m := m) k5 8 (d + 2) (by decide)) (by omega) rfl (((((p + 1) + 1) + 1) + 1) + 1) z I36 J P kk36 hP a36 (by omega) (by omega) _ (fun f37 I37 z37 r37 a37 l37 j37 s37 => ?_) (fun f37 I37 z37 r37 a37 l37 j37 => ?_))
              · obtain ⟨tb37, tc37, td37⟩ := pS_B (V := V) (m := m) k5 8 (((((p + 1) + 1) + 1) + 1) + 1) (by omega)
                have ty37 := pS_eqv (K := K) (V := v0) (m := v0) (V' := V) (m' := m) 8 (((((p + 1) + 1) + 1) + 1) + 1)
                have rr37 := rr36.tr r37 (by omega) (by omega)
                have kk37 := rr37.ps hK
                have te37 := td37 f37
                rw [sqK, tieL, ty37.1, if_pos f37, ty37.2] at h1 h0
                refine g_if_eq h 422 dX4_line_389 rfl (fun c => absurd c (by decide)) (fun _ => ?_)
                refine g_aload_0 h dX4_line_392 ?_
                refine g_bipush h dX4_line_393 (v := nI 15) rfl ?_
                refine g_cVi1 h rok0 mi_X4_take dX4_line_395 ml_X4_45 rfl rfl rfl (Nat.le_of_ble_eq_true rfl) (Nat.le_of_ble_eq_true rfl) (sp_X4_take (k := 15) kk37 hP a37 (by omega) (by omega) (fun e38 I38 r38 a38 c38 => ?_) (fun e38 => ?_))
                · have pm38 := K_lt k5 (by omega) e38 (by decide)
                  have rr38 : paR p z I I38 := rr37.tr r38 (by omega) (by omega)
                  have kk38 := rr38.ps hK
                  rw [whnL, if_pos e38] at h1 h0
                  refine g_if_eq h 409 dX4_line_398 rfl (fun c => absurd c (by decide)) (fun _ => ?_)
                  refine g_aload_0 h dX4_line_401 ?_
                  refine g_iconst h dX4_line_402 (v := nI 0) rfl ?_
                  refine g_cVi1 h rok0 mi_X4_testAt dX4_line_403 ml_X4_55 rfl rfl rfl (Nat.le_of_ble_eq_true rfl) (Nat.le_of_ble_eq_true rfl) (cP_D (cs_T (V := V) (m := m) k5 8 d (by decide)) (by omega) rfl ((pS K V m 8 (((((p + 1) + 1) + 1) + 1) + 1)).2.1 + 1) z37 I38 J P kk38 hP a38 (by omega) (by omega) _ (fun f39 I39 z39 r39 a39 l39 j39 s39 => ?_) (fun f39 I39 z39 r39 a39 l39 j39 => ?_))
                  · obtain ⟨tb39, tc39, td39⟩ := pT_B (V := V) (m := m) k5 8 ((pS K V m 8 (((((p + 1) + 1) + 1) + 1) + 1)).2.1 + 1) (by omega)
                    have ty39 := pT_eqv (K := K) (V := v0) (m := v0) (V' := V) (m' := m) 8 ((pS K V m 8 (((((p + 1) + 1) + 1) + 1) + 1)).2.1 + 1)
                    have rr39 := rr38.tr r39 (by omega) (by omega)
                    have kk39 := rr39.ps hK
                    have te39 := td39 f39
                    rw [ty39.1, if_pos f39, ty39.2] at h1 h0
                    refine g_if_eq h 422 dX4_line_406 rfl (fun c => absurd c (by decide)) (fun _ => ?_)
                    refine g_aload_0 h dX4_line_409 ?_
                    refine g_bipush h dX4_line_410 (v := nI 34) rfl ?_
                    refine g_cVi1 h rok0 mi_X4_take dX4_line_412 ml_X4_45 rfl rfl rfl (Nat.le_of_ble_eq_true rfl) (Nat.le_of_ble_eq_true rfl) (sp_X4_take (k := 34) kk39 hP a39 (by omega) (by omega) (fun e40 I40 r40 a40 c40 => ?_) (fun e40 => ?_))
                    · have pm40 := K_lt k5 (by omega) e40 (by decide)
                      have rr40 : paR p z I I40 := rr39.tr r40 (by omega) (by omega)
                      have kk40 := rr40.ps hK
                      rw [sqK, if_pos e40] at h1 h0
                      refine g_if_eq h 422 dX4_line_415 rfl (fun c => absurd c (by decide)) (fun _ => ?_)
                      refine g_iconst h dX4_line_418 (v := nI 1) rfl ?_
                      refine g_goto h 423 dX4_line_419 rfl ?_
                      refine g_zret h dX4_line_423 (by first | rfl | exact nar_b2i _) ?_
                      exact h1 rfl I40 z39 rr40 a40 (by omega) (by show z39 ≤ ((pT K V m 8 ((pS K V m 8 (((((p + 1) + 1) + 1) + 1) + 1)).2.1 + 1)).2.1 + 1); omega) (by show p < ((pT K V m 8 ((pS K V m 8 (((((p + 1) + 1) + 1) + 1) + 1)).2.1 + 1)).2.1 + 1); omega) (by show ((pT K V m 8 ((pS K V m 8 (((((p + 1) + 1) + 1) + 1) + 1)).2.1 + 1)).2.1 + 1) ≤ M; omega) (by
                        rw [lnC, if_pos e11]
                        refine ⟨z37, (r38.tr (r39.tr r40 (by omega) (by omega)) (by omega) (by omega)).sg s37 (Nat.le_refl _), by omega, ⟨by show (pS K V m 8 (((((p + 1) + 1) + 1) + 1) + 1)).2.1 < ((pT K V m 8 ((pS K V m 8 (((((p + 1) + 1) + 1) + 1) + 1)).2.1 + 1)).2.1 + 1); omega, ((r39.tr r40 (by omega) (by omega)).2.1 _ (Nat.lt_succ_self _)).trans c38⟩, ?_⟩
                        rw [if_pos (show K (pS K V m 8 (p + 5)).2.1 = 15 from e38)]
                        exact ⟨r40.sg s39 (Nat.le_refl _), Nat.lt_succ_self _, c40⟩)
                    · rw [sqK, if_neg e40] at h1 h0
                      refine g_if_eq h 422 dX4_line_415 rfl (fun _ => ?_) (fun c => absurd c (by decide))
                      refine g_iconst h dX4_line_422 (v := nI 0) rfl ?_
                      refine g_zret h dX4_line_423 (by first | rfl | exact nar_b2i _) ?_
                      exact h0 rfl I39 rr39 a39.2.1
                  · obtain ⟨tb39, tc39, td39⟩ := pT_B (V := V) (m := m) k5 8 ((pS K V m 8 (((((p + 1) + 1) + 1) + 1) + 1)).2.1 + 1) (by omega)
                    have ty39 := pT_eqv (K := K) (V := v0) (m := v0) (V' := V) (m' := m) 8 ((pS K V m 8 (((((p + 1) + 1) + 1) + 1) + 1)).2.1 + 1)
                    have rr39 := rr38.tr r39 (by omega) (by omega)
                    have kk39 := rr39.ps hK
                    rw [ty39.1, if_neg (by rw [f39]; decide), ty39.2] at h1 h0
                    refine g_if_eq h 422 dX4_line_406 rfl (fun _ => ?_) (fun c => absurd c (by decide))
                    refine g_iconst h dX4_line_422 (v := nI 0) rfl ?_
                    refine g_zret h dX4_line_423 (by first | rfl | exact nar_b2i _) ?_
                    exact h0 rfl I39 rr39 a39.2.1
                · rw [whnL, if_neg e38] at h1 h0
                  refine g_if_eq h 409 dX4_line_398 rfl (fun _ => ?_) (fun c => absurd c (by decide))
                  refine g_aload_0 h dX4_line_409 ?_
                  refine g_bipush h dX4_line_410 (v := nI 34) rfl ?_
                  refine g_cVi1 h rok0 mi_X4_take dX4_line_412 ml_X4_45 rfl rfl rfl (Nat.le_of_ble_eq_true rfl) (Nat.le_of_ble_eq_true rfl) (sp_X4_take (k := 34) kk37 hP a37 (by omega) (by omega) (fun e41 I41 r41 a41 c41 => ?_) (fun e41 => ?_))
                  · have pm41 := K_lt k5 (by omega) e41 (by decide)
                    have rr41 : paR p z I I41 := rr37.tr r41 (by omega) (by omega)
                    have kk41 := rr41.ps hK
                    rw [sqK, if_pos e41] at h1 h0
                    refine g_if_eq h 422 dX4_line_415 rfl (fun c => absurd c (by decide)) (fun _ => ?_)
                    refine g_iconst h dX4_line_418 (v := nI 1) rfl ?_
                    refine g_goto h 423 dX4_line_419 rfl ?_
                    refine g_zret h dX4_line_423 (by first | rfl | exact nar_b2i _) ?_
                    exact h1 rfl I41 z37 rr41 a41 (by omega) (by show z37 ≤ ((pS K V m 8 (((((p + 1) + 1) + 1) + 1) + 1)).2.1 + 1); omega) (by show p < ((pS K V m 8 (((((p + 1) + 1) + 1) + 1) + 1)).2.1 + 1); omega) (by show ((pS K V m 8 (((((p + 1) + 1) + 1) + 1) + 1)).2.1 + 1) ≤ M; omega) (by
                      rw [lnC, if_pos e11]
                      refine ⟨z37, r41.sg s37 (Nat.le_refl _), by omega, ⟨Nat.lt_succ_self _, c41⟩, ?_⟩
                      rw [if_neg (show ¬ K (pS K V m 8 (p + 5)).2.1 = 15 from e38)])
                  · rw [sqK, if_neg e41] at h1 h0
                    refine g_if_eq h 422 dX4_line_415 rfl (fun _ => ?_) (fun c => absurd c (by decide))
                    refine g_iconst h dX4_line_422 (v := nI 0) rfl ?_
                    refine g_zret h dX4_line_423 (by first | rfl | exact nar_b2i _) ?_
                    exact h0 rfl I37 rr37 a37.2.1
              · obtain ⟨tb37, tc37, td37⟩ := pS_B (V := V) (m := m) k5 8 (((((p + 1) + 1) + 1) + 1) + 1) (by omega)
                have ty37 := pS_eqv (K := K) (V := v0) (m := v0) (V' := V) (m' := m) 8 (((((p + 1) + 1) + 1) + 1) + 1)
                have rr37 := rr36.tr r37 (by omega) (by omega)
                have kk37 := rr37.ps hK
                rw [sqK, tieL, ty37.1, if_neg (by rw [f37]; decide), ty37.2] at h1 h0
                refine g_if_eq h 422 dX4_line_389 rfl (fun _ => ?_) (fun c => absurd c (by decide))
                refine g_iconst h dX4_line_422 (v := nI 0) rfl ?_
                refine g_zret h dX4_line_423 (by first | rfl | exact nar_b2i _) ?_
                exact h0 rfl I37 rr37 a37.2.1
            · rw [sqK, if_neg e36] at h1 h0
              refine g_if_eq h 422 dX4_line_381 rfl (fun _ => ?_) (fun c => absurd c (by decide))
              refine g_iconst h dX4_line_422 (v := nI 0) rfl ?_
              refine g_zret h dX4_line_423 (by first | rfl | exact nar_b2i _) ?_
              exact h0 rfl I35 rr35 a35.2.1
          · rw [sqK, if_neg e35] at h1 h0
            refine g_if_eq h 422 dX4_line_372 rfl (fun _ => ?_) (fun c => absurd c (by decide))
            refine g_iconst h dX4_line_422 (v := nI 0) rfl ?_
            refine g_zret h dX4_line_423 (by first | rfl | exact nar_b2i _) ?_
            exact h0 rfl I34 rr34 a34.2.1
        · rw [sqK, if_neg e34] at h1 h0
          refine g_if_eq h 422 dX4_line_363 rfl (fun _ => ?_) (fun c => absurd c (by decide))
          refine g_iconst h dX4_line_422 (v := nI 0) rfl ?_
          refine g_zret h dX4_line_423 (by first | rfl | exact nar_b2i _) ?_
          exact h0 rfl I33 rr33 a33.2.1
      · rw [sqK, if_neg e33] at h1 h0
        refine g_if_eq h 422 dX4_line_354 rfl (fun _ => ?_) (fun c => absurd c (by decide))
        refine g_iconst h dX4_line_422 (v := nI 0) rfl ?_
        refine g_zret h dX4_line_423 (by first | rfl | exact nar_b2i _) ?_
        exact h0 rfl I32 rr32 a32.2.1
  · rw [if_neg (show ¬ K p = 0 by omega), if_neg (show ¬ K p = 2 by omega), if_neg (show ¬ K p = 7 by omega), if_neg (show ¬ K p = 9 by omega), if_neg (show ¬ K p = 11 by omega), if_pos e14] at h1 h0
    refine g_ts h (K p) 424 dX4_line_4 rfl (by omega) (by decide) ((by decide : ∀ k, k < 49 → k = 14 → tsO 488 0 14 #[76, 488, 125, 488, 488, 488, 488, 217, 488, 284, 488, 335, 488, 488, 420] k = 420) _ kp e14) rfl ?_
    refine g_aload_0 h dX4_line_424 ?_
    refine g_bipush h dX4_line_425 (v := nI 14) rfl ?_
    refine g_cVi1 h rok0 mi_X4_take dX4_line_427 ml_X4_45 rfl rfl rfl (Nat.le_of_ble_eq_true rfl) (Nat.le_of_ble_eq_true rfl) (sp_X4_take (k := 14) hK hP ha hp (by omega) (fun e42 I42 r42 a42 c42 => ?_) (fun e => absurd e14 e))
    · have pm42 := K_lt k5 hp e42 (by decide)
      have rr42 : paR p z I I42 := r42
      have kk42 := rr42.ps hK
      rw [sqK, if_pos e42] at h1 h0
      refine g_if_eq h 490 dX4_line_430 rfl (fun c => absurd c (by decide)) (fun _ => ?_)
      refine g_aload_0 h dX4_line_433 ?_
      refine g_bipush h dX4_line_434 (v := nI 28) rfl ?_
      refine g_cVi1 h rok0 mi_X4_take dX4_line_436 ml_X4_45 rfl rfl rfl (Nat.le_of_ble_eq_true rfl) (Nat.le_of_ble_eq_true rfl) (sp_X4_take (k := 28) kk42 hP a42 (by omega) (by omega) (fun e43 I43 r43 a43 c43 => ?_) (fun e43 => ?_))
      · have pm43 := K_lt k5 (by omega) e43 (by decide)
        have rr43 : paR p z I I43 := rr42.tr r43 (by omega) (by omega)
        have kk43 := rr43.ps hK
        rw [sqK, if_pos e43] at h1 h0
        refine g_if_eq h 490 dX4_line_439 rfl (fun c => absurd c (by decide)) (fun _ => ?_)
        refine g_aload_0 h dX4_line_442 ?_
        refine g_bipush h dX4_line_443 (v := nI 12) rfl ?_
        refine g_cVi1 h rok0 mi_X4_take dX4_line_445 ml_X4_45 rfl rfl rfl (Nat.le_of_ble_eq_true rfl) (Nat.le_of_ble_eq_true rfl) (sp_X4_take (k := 12) kk43 hP a43 (by omega) (by omega) (fun e44 I44 r44 a44 c44 => ?_) (fun e44 => ?_))
        · have pm44 := K_lt k5 (by omega) e44 (by decide)
          have rr44 : paR p z I I44 := rr43.tr r44 (by omega) (by omega)
          have kk44 := rr44.ps hK
          rw [sqK, if_pos e44] at h1 h0
          refine g_if_eq h 490 dX4_line_448 rfl (fun c => absurd c (by decide)) (fun _ => ?_)
          refine g_aload_0 h dX4_line_451 ?_
          refine g_bipush h dX4_line_452 (v := nI 28) rfl ?_
          refine g_cVi1 h rok0 mi_X4_take dX4_line_454 ml_X4_45 rfl rfl rfl (Nat.le_of_ble_eq_true rfl) (Nat.le_of_ble_eq_true rfl) (sp_X4_take (k := 28) kk44 hP a44 (by omega) (by omega) (fun e45 I45 r45 a45 c45 => ?_) (fun e45 => ?_))
          · have pm45 := K_lt k5 (by omega) e45 (by decide)
            have rr45 : paR p z I I45 := rr44.tr r45 (by omega) (by omega)
            have kk45 := rr45.ps hK
            rw [sqK, if_pos e45] at h1 h0
            rw [sqK] at h1 h0
            refine g_if_eq h 490 dX4_line_457 rfl (fun c => absurd c (by decide)) (fun _ => ?_)
            refine g_aload_0 h dX4_line_460 ?_
            refine g_bipush h dX4_line_461 (v := nI 15) rfl ?_
            refine g_cVi1 h rok0 mi_X4_take dX4_line_463 ml_X4_45 rfl rfl rfl (Nat.le_of_ble_eq_true rfl) (Nat.le_of_ble_eq_true rfl) (sp_X4_take (k := 15) kk45 hP a45 (by omega) (by omega) (fun e46 I46 r46 a46 c46 => ?_) (fun e46 => ?_))
            · have pm46 := K_lt k5 (by omega) e46 (by decide)
              have rr46 : paR p z I I46 := rr45.tr r46 (by omega) (by omega)
              have kk46 := rr46.ps hK
              rw [whnL, if_pos e46] at h1 h0
              refine g_if_eq h 477 dX4_line_466 rfl (fun c => absurd c (by decide)) (fun _ => ?_)
              refine g_aload_0 h dX4_line_469 ?_
              refine g_iconst h dX4_line_470 (v := nI 0) rfl ?_
              refine g_cVi1 h rok0 mi_X4_testAt dX4_line_471 ml_X4_55 rfl rfl rfl (Nat.le_of_ble_eq_true rfl) (Nat.le_of_ble_eq_true rfl) (cP_D (cs_T (V := V) (m := m) k5 8 d (by decide)) (by omega) rfl (((((p + 1) + 1) + 1) + 1) + 1) z I46 J P kk46 hP a46 (by omega) (by omega) _ (fun f47 I47 z47 r47 a47 l47 j47 s47 => ?_) (fun f47 I47 z47 r47 a47 l47 j47 => ?_))
              · obtain ⟨tb47, tc47, td47⟩ := pT_B (V := V) (m := m) k5 8 (((((p + 1) + 1) + 1) + 1) + 1) (by omega)
                have ty47 := pT_eqv (K := K) (V := v0) (m := v0) (V' := V) (m' := m) 8 (((((p + 1) + 1) + 1) + 1) + 1)
                have rr47 := rr46.tr r47 (by omega) (by omega)
                have kk47 := rr47.ps hK
                have te47 := td47 f47
                rw [ty47.1, if_pos f47, ty47.2] at h1 h0
                refine g_if_eq h 490 dX4_line_474 rfl (fun c => absurd c (by decide)) (fun _ => ?_)
                refine g_aload_0 h dX4_line_477 ?_
                refine g_bipush h dX4_line_478 (v := nI 34) rfl ?_
                refine g_cVi1 h rok0 mi_X4_take dX4_line_480 ml_X4_45 rfl rfl rfl (Nat.le_of_ble_eq_true rfl) (Nat.le_of_ble_eq_true rfl) (sp_X4_take (k := 34) kk47 hP a47 (by omega) (by omega) (fun e48 I48 r48 a48 c48 => ?_) (fun e48 => ?_))
                · have pm48 := K_lt k5 (by omega) e48 (by decide)
                  have rr48 : paR p z I I48 := rr47.tr r48 (by omega) (by omega)
                  have kk48 := rr48.ps hK
                  rw [sqK, if_pos e48] at h1 h0
                  refine g_if_eq h 490 dX4_line_483 rfl (fun c => absurd c (by decide)) (fun _ => ?_)
                  refine g_iconst h dX4_line_486 (v := nI 1) rfl ?_
                  refine g_goto h 491 dX4_line_487 rfl ?_
                  refine g_zret h dX4_line_491 (by first | rfl | exact nar_b2i _) ?_
                  exact h1 rfl I48 z47 rr48 a48 (by omega) (by show z47 ≤ ((pT K V m 8 (((((p + 1) + 1) + 1) + 1) + 1)).2.1 + 1); omega) (by show p < ((pT K V m 8 (((((p + 1) + 1) + 1) + 1) + 1)).2.1 + 1); omega) (by show ((pT K V m 8 (((((p + 1) + 1) + 1) + 1) + 1)).2.1 + 1) ≤ M; omega) (by
                    rw [lnC, if_neg (by omega), if_pos e14]
                    refine ⟨⟨by show p + 4 < ((pT K V m 8 (((((p + 1) + 1) + 1) + 1) + 1)).2.1 + 1); omega, ((r47.tr r48 (by omega) (by omega)).2.1 _ (by omega)).trans c46⟩, ?_⟩
                    rw [if_pos (show K (p + 4) = 15 from e46)]
                    exact ⟨r48.sg s47 (Nat.le_refl _), Nat.lt_succ_self _, c48⟩)
                · rw [sqK, if_neg e48] at h1 h0
                  refine g_if_eq h 490 dX4_line_483 rfl (fun _ => ?_) (fun c => absurd c (by decide))
                  refine g_iconst h dX4_line_490 (v := nI 0) rfl ?_
                  refine g_zret h dX4_line_491 (by first | rfl | exact nar_b2i _) ?_
                  exact h0 rfl I47 rr47 a47.2.1
              · obtain ⟨tb47, tc47, td47⟩ := pT_B (V := V) (m := m) k5 8 (((((p + 1) + 1) + 1) + 1) + 1) (by omega)
                have ty47 := pT_eqv (K := K) (V := v0) (m := v0) (V' := V) (m' := m) 8 (((((p + 1) + 1) + 1) + 1) + 1)
                have rr47 := rr46.tr r47 (by omega) (by omega)
                have kk47 := rr47.ps hK
                rw [ty47.1, if_neg (by rw [f47]; decide), ty47.2] at h1 h0
                refine g_if_eq h 490 dX4_line_474 rfl (fun _ => ?_) (fun c => absurd c (by decide))
                refine g_iconst h dX4_line_490 (v := nI 0) rfl ?_
                refine g_zret h dX4_line_491 (by first | rfl | exact nar_b2i _) ?_
                exact h0 rfl I47 rr47 a47.2.1
            · rw [whnL, if_neg e46] at h1 h0
              refine g_if_eq h 477 dX4_line_466 rfl (fun _ => ?_) (fun c => absurd c (by decide))
              refine g_aload_0 h dX4_line_477 ?_
              refine g_bipush h dX4_line_478 (v := nI 34) rfl ?_
              refine g_cVi1 h rok0 mi_X4_take dX4_line_480 ml_X4_45 rfl rfl rfl (Nat.le_of_ble_eq_true rfl) (Nat.le_of_ble_eq_true rfl) (sp_X4_take (k := 34) kk45 hP a45 (by omega) (by omega) (fun e49 I49 r49 a49 c49 => ?_) (fun e49 => ?_))
              · have pm49 := K_lt k5 (by omega) e49 (by decide)
                have rr49 : paR p z I I49 := rr45.tr r49 (by omega) (by omega)
                have kk49 := rr49.ps hK
                rw [sqK, if_pos e49] at h1 h0
                refine g_if_eq h 490 dX4_line_483 rfl (fun c => absurd c (by decide)) (fun _ => ?_)
                refine g_iconst h dX4_line_486 (v := nI 1) rfl ?_
                refine g_goto h 491 dX4_line_487 rfl ?_
                refine g_zret h dX4_line_491 (by first | rfl | exact nar_b2i _) ?_
                exact h1 rfl I49 z rr49 a49 (by omega) (by show z ≤ (((((p + 1) + 1) + 1) + 1) + 1); omega) (by show p < (((((p + 1) + 1) + 1) + 1) + 1); omega) (by show (((((p + 1) + 1) + 1) + 1) + 1) ≤ M; omega) (by
                  rw [lnC, if_neg (by omega), if_pos e14]
                  refine ⟨⟨by show p + 4 < (((((p + 1) + 1) + 1) + 1) + 1); omega, c49⟩, ?_⟩
                  rw [if_neg (show ¬ K (p + 4) = 15 from e46)])
              · rw [sqK, if_neg e49] at h1 h0
                refine g_if_eq h 490 dX4_line_483 rfl (fun _ => ?_) (fun c => absurd c (by decide))
                refine g_iconst h dX4_line_490 (v := nI 0) rfl ?_
                refine g_zret h dX4_line_491 (by first | rfl | exact nar_b2i _) ?_
                exact h0 rfl I45 rr45 a45.2.1
          · rw [sqK, if_neg e45] at h1 h0
            refine g_if_eq h 490 dX4_line_457 rfl (fun _ => ?_) (fun c => absurd c (by decide))
            refine g_iconst h dX4_line_490 (v := nI 0) rfl ?_
            refine g_zret h dX4_line_491 (by first | rfl | exact nar_b2i _) ?_
            exact h0 rfl I44 rr44 a44.2.1
        · rw [sqK, if_neg e44] at h1 h0
          refine g_if_eq h 490 dX4_line_448 rfl (fun _ => ?_) (fun c => absurd c (by decide))
          refine g_iconst h dX4_line_490 (v := nI 0) rfl ?_
          refine g_zret h dX4_line_491 (by first | rfl | exact nar_b2i _) ?_
          exact h0 rfl I43 rr43 a43.2.1
      · rw [sqK, if_neg e43] at h1 h0
        refine g_if_eq h 490 dX4_line_439 rfl (fun _ => ?_) (fun c => absurd c (by decide))
        refine g_iconst h dX4_line_490 (v := nI 0) rfl ?_
        refine g_zret h dX4_line_491 (by first | rfl | exact nar_b2i _) ?_
        exact h0 rfl I42 rr42 a42.2.1
  · obtain ⟨q1, q2, q3, q4, q5, q6⟩ := id eo
    rw [if_neg q1, if_neg q2, if_neg q3, if_neg q4, if_neg q5, if_neg q6] at h1 h0
    refine g_ts h (K p) 492 dX4_line_4 rfl (by omega) (by decide) ((by decide : ∀ k, k < 49 → (¬ k = 0 ∧ ¬ k = 2 ∧ ¬ k = 7 ∧ ¬ k = 9 ∧ ¬ k = 11 ∧ ¬ k = 14) → tsO 488 0 14 #[76, 488, 125, 488, 488, 488, 488, 217, 488, 284, 488, 335, 488, 488, 420] k = 488) _ kp eo) rfl ?_
    refine g_iconst h dX4_line_492 (v := nI 0) rfl ?_
    refine g_zret h dX4_line_493 (by first | rfl | exact nar_b2i _) ?_
    exact h0 rfl I paR.rf ha2
set_option maxRecDepth 100000 in
set_option maxHeartbeats 8000000 in
theorem sp_X8_kindOf0 {K : Nat → Nat} {V : Nat → Int32} {M : Nat} {d : Nat} {I : MI} {J : MJ} {P : MP} (hK : psO K V M I J) {Q : Int32 → MI → MJ → MP → Prop} (hQ : Q (nI (K 0)) I J P) : Sp yX8_kindOf cX8_kindOf 2 (some .int) d [.ref 3, .int (nI 0)] I J P (Qi Q) := by
  obtain ⟨k1, k2, k3, k4, k5⟩ := hK
  intro Γ h
  show VG Γ 0 0 0 [some (.ref 3), some (.int (nI 0))] [] _ _ _ _
  refine g_iload_1 h dX8_kindOf_0 ?_
  refine g_if_lt h 12 dX8_kindOf_1 rfl (fun c => absurd c (by decide)) (fun _ => ?_)
  refine g_iload_1 h dX8_kindOf_4 ?_
  refine g_aload_0 h dX8_kindOf_5 ?_
  refine g_getI h fl_X8_25 dX8_kindOf_6 rfl rfl ?_
  refine g_icmp_lt h 17 dX8_kindOf_9 rfl (fun _ => ?_) (fun c => absurd (by rw [k3]; exact nI_lt (by omega) (by omega)) c)
  refine g_aload_0 h dX8_kindOf_17 ?_
  refine g_getC h fl_X8_9 dX8_kindOf_18 rfl rfl ?_
  refine g_iload_1 h dX8_kindOf_21 ?_
  refine g_iald h 0 dX8_kindOf_22 rfl rfl (by omega) ?_
  refine g_iret h dX8_kindOf_23 ?_
  exact q_i (k1 0 (Nat.zero_le _)).1 hQ
set_option maxRecDepth 100000 in
set_option maxHeartbeats 4000000 in
theorem sp_X1_clear {d : Nat} {I : MI} {J : MJ} {P : MP} {Q : MI → MJ → MP → Prop} (hQ : Q (up2 I 77 2 (nI 0)) J P) : Sp yX1_clear cX1_clear 1 none (d) [.ref 77] I J P (Qv Q) := by
  intro Γ h
  show VG Γ 0 0 0 [some (.ref 77)] [] _ _ _ _
  refine g_aload_0 h dX1_clear_0 ?_
  refine g_iconst h dX1_clear_1 (v := nI 0) rfl ?_
  refine g_putI h fp_X1_18 dX1_clear_2 rfl rfl ?_
  refine g_vret h dX1_clear_5 ?_
  exact hQ
set_option maxRecDepth 100000 in
set_option maxHeartbeats 8000000 in
theorem lp_X4_firstFault {Γ : Cx} {K : Nat → Nat} {V m : Nat → Int32} {M : Nat} {d : Nat} {I0 : MI} {J : MJ} {P : MP} (hP : P 8 2 = some 77) {Q : Int32 → MI → MJ → MP → Prop} (h : Vc RX4 cX4_firstFault 4 (some .int) (d + 22) Γ) : ∀ (f n p z : Nat) (I : MI), n + f = 400 → psO K V M I J → paS K p z I → p ≤ M → z ≤ p → paR 0 0 I0 I → (∀ I', paR p z I I' → lnsC K V m I' f p z → lnsC K V m I' 400 0 0) → ((prG K f p).1 = true → ∀ I', paR 0 0 I0 I' → lnsC K V m I' 400 0 0 → Q (-1) I' J P) → ((prG K f p).1 = false → ∀ I', paR 0 0 I0 I' → Q (nI (prG K f p).2) I' J P) → VG Γ 0 0 33 [some (.ref 8), some (.ref 77), some (.int (nI 1)), some (.int (nI n))] [] I J P (Fnl Γ (Qi Q)) := by
  intro f
  induction f with
  | zero =>
    intro n p z I hn hK ha hp hz hr hc h1 h0
    obtain rfl : n = 400 := by omega
    have kp := (hK.1 p hp).2
    refine g_iload_3 h dX4_firstFault_33 ?_
    refine g_sipush h dX4_firstFault_34 (v := nI 400) rfl ?_
    refine g_icmp_ge h 64 dX4_firstFault_37 rfl (fun _ => ?_) (fun c => absurd (nI_le (Nat.le_refl 400) (by decide)) c)
    refine g_iload_2 h dX4_firstFault_64 ?_
    refine g_if_eq h 81 dX4_firstFault_65 rfl (fun c => absurd c (by decide)) (fun _ => ?_)
    refine g_aload_0 h dX4_firstFault_68 ?_
    refine g_getI h fl_X4_17 dX4_firstFault_69 rfl rfl ?_
    refine g_bipush h dX4_firstFault_72 (v := nI 45) rfl ?_
    refine g_icmp_ne h 81 dX4_firstFault_74 rfl (fun c74 => ?_) (fun c74 => ?_)
    · refine g_aload_0 h dX4_firstFault_81 ?_
      refine g_getI h fl_X4_21 dX4_firstFault_82 rfl rfl ?_
      refine g_iret h dX4_firstFault_85 ?_
      first
        | (have ek : ¬ K p = 45 := fun q => c74 (by rw [ha.1, q])
           exact q_i ha.2.1 (h0 (by rw [prG]; simp [ek]) I hr))
        | (have ek : K p = 45 := eqN (by rw [← ha.1]; first | exact c74 | exact Classical.not_not.mp c74) (by omega) (by decide)
           exact h1 (by rw [prG]; simp [ek]) I hr (hc I paR.rf ⟨ha.2.2, hz⟩))
    · refine g_iconst h dX4_firstFault_77 (v := (-1)) rfl ?_
      refine g_goto h 85 dX4_firstFault_78 rfl ?_
      refine g_iret h dX4_firstFault_85 ?_
      first
        | (have ek : ¬ K p = 45 := fun q => c74 (by rw [ha.1, q])
           exact q_i ha.2.1 (h0 (by rw [prG]; simp [ek]) I hr))
        | (have ek : K p = 45 := eqN (by rw [← ha.1]; first | exact c74 | exact Classical.not_not.mp c74) (by omega) (by decide)
           exact h1 (by rw [prG]; simp [ek]) I hr (hc I paR.rf ⟨ha.2.2, hz⟩))
  | succ f ih =>
    intro n p z I hn hK ha hp hz hr hc h1 h0
    have kp := (hK.1 p hp).2
    have hM9 := hK.2.2.2.1
    refine g_iload_3 h dX4_firstFault_33 ?_
    refine g_sipush h dX4_firstFault_34 (v := nI 400) rfl ?_
    refine g_icmp_ge h 64 dX4_firstFault_37 rfl (fun c => absurd c (nI_ge (by omega) (by decide))) (fun _ => ?_)
    refine g_iload_2 h dX4_firstFault_40 ?_
    refine g_if_eq h 64 dX4_firstFault_41 rfl (fun c => absurd c (by decide)) (fun _ => ?_)
    refine g_aload_0 h dX4_firstFault_44 ?_
    refine g_getI h fl_X4_17 dX4_firstFault_45 rfl rfl ?_
    refine g_bipush h dX4_firstFault_48 (v := nI 45) rfl ?_
    refine g_icmp_eq h 64 dX4_firstFault_50 rfl (fun c50 => ?_) (fun c50 => ?_)
    · refine g_iload_2 h dX4_firstFault_64 ?_
      refine g_if_eq h 81 dX4_firstFault_65 rfl (fun c => absurd c (by decide)) (fun _ => ?_)
      refine g_aload_0 h dX4_firstFault_68 ?_
      refine g_getI h fl_X4_17 dX4_firstFault_69 rfl rfl ?_
      refine g_bipush h dX4_firstFault_72 (v := nI 45) rfl ?_
      refine g_icmp_ne h 81 dX4_firstFault_74 rfl (fun c74 => ?_) (fun c74 => ?_)
      · exact absurd c50 c74
      · refine g_iconst h dX4_firstFault_77 (v := (-1)) rfl ?_
        refine g_goto h 85 dX4_firstFault_78 rfl ?_
        refine g_iret h dX4_firstFault_85 ?_
        have ek : K p = 45 := eqN (by rw [← ha.1]; exact c50) (by omega) (by decide)
        exact h1 (by rw [prG, if_pos ek]) I hr (hc I paR.rf (by rw [lnsC, if_pos ek]; exact ⟨ha.2.2, hz⟩))
    · have ek : ¬ K p = 45 := fun q => c50 (by rw [ha.1, q])
      refine g_aload_0 h dX4_firstFault_53 ?_
      refine g_cVi0 h rok0 mi_X4_line dX4_firstFault_54 ml_X4_41 rfl rfl rfl (Nat.le_of_ble_eq_true rfl) (Nat.le_of_ble_eq_true rfl) (sp_X4_line (V := V) (m := m) hK hP ha hp hz (fun e1 I1 z1 r1 a1 l1 l2 l3 l4 c1 => ?_) (fun e1 I1 r1 a1 => ?_))
      · rw [prG, if_neg ek, if_pos e1] at h1 h0
        refine g_istore_2 h dX4_firstFault_57 (by decide) rfl ?_
        refine g_iinc_3 h dX4_firstFault_58 (inc1 _) (by decide) rfl ?_
        refine g_goto h 33 dX4_firstFault_61 rfl ?_
        refine ih (n + 1) (pL K p).2 z1 I1 (by omega) (r1.ps hK) a1 l4 l2 (hr.tr r1 (Nat.zero_le _) (Nat.zero_le _)) (fun I' r' c' => ?_) h1 h0
        refine hc I' (r1.tr r' (by omega) l1) ?_
        rw [lnsC, if_neg ek]
        exact ⟨z1, l1, l2, c1.st r', c'⟩
      · rw [prG, if_neg ek, if_neg (by rw [e1]; decide)] at h1 h0
        refine g_istore_2 h dX4_firstFault_57 (by decide) rfl ?_
        refine g_iinc_3 h dX4_firstFault_58 (inc1 _) (by decide) rfl ?_
        refine g_goto h 33 dX4_firstFault_61 rfl ?_
        refine g_iload_3 h dX4_firstFault_33 ?_
        refine g_sipush h dX4_firstFault_34 (v := nI 400) rfl ?_
        refine g_icmp_ge h 64 dX4_firstFault_37 rfl (fun c37 => ?_) (fun c37 => ?_)
        · refine g_iload_2 h dX4_firstFault_64 ?_
          refine g_if_eq h 81 dX4_firstFault_65 rfl (fun _ => ?_) (fun c => absurd c (by decide))
          refine g_aload_0 h dX4_firstFault_81 ?_
          refine g_getI h fl_X4_21 dX4_firstFault_82 rfl rfl ?_
          refine g_iret h dX4_firstFault_85 ?_
          exact q_i a1 (h0 rfl I1 (hr.tr r1 (Nat.zero_le _) (Nat.zero_le _)))
        · refine g_iload_2 h dX4_firstFault_40 ?_
          refine g_if_eq h 64 dX4_firstFault_41 rfl (fun _ => ?_) (fun c => absurd c (by decide))
          refine g_iload_2 h dX4_firstFault_64 ?_
          refine g_if_eq h 81 dX4_firstFault_65 rfl (fun _ => ?_) (fun c => absurd c (by decide))
          refine g_aload_0 h dX4_firstFault_81 ?_
          refine g_getI h fl_X4_21 dX4_firstFault_82 rfl rfl ?_
          refine g_iret h dX4_firstFault_85 ?_
          exact q_i a1 (h0 rfl I1 (hr.tr r1 (Nat.zero_le _) (Nat.zero_le _)))
set_option maxRecDepth 100000 in
set_option maxHeartbeats 8000000 in
theorem sp_X4_firstFault {K : Nat → Nat} {V m : Nat → Int32} {M : Nat} {d : Nat} {I : MI} {J : MJ} {P : MP} (hK : psO K V M I J) {Q : Int32 → MI → MJ → MP → Prop} (h1 : (prG K 400 0).1 = true → ∀ I', paR 0 0 I I' → lnsC K V m I' 400 0 0 → Q (-1) I' J (up2 P 8 2 (some 77))) (h0 : (prG K 400 0).1 = false → ∀ I', paR 0 0 I I' → Q (nI (prG K 400 0).2) I' J (up2 P 8 2 (some 77))) : Sp yX4_firstFault cX4_firstFault 4 (some .int) (d + 22) [.ref 8, .ref 77] I J P (Qi Q) := by
  intro Γ h
  show VG Γ 0 0 0 [some (.ref 8), some (.ref 77), none, none] [] _ _ _ _
  refine g_aload_0 h dX4_firstFault_0 ?_
  refine g_aload_1 h dX4_firstFault_1 ?_
  refine g_putP h fp_X4_28 dX4_firstFault_2 rfl rfl ?_
  refine g_aload_0 h dX4_firstFault_5 ?_
  refine g_getP h fl_X4_28 dX4_firstFault_6 rfl rfl up2_s ?_
  refine g_cVv0 h rok0 mi_X1_clear dX4_firstFault_9 ml_X4_32 rfl rfl rfl (Nat.le_of_ble_eq_true rfl) (Nat.le_of_ble_eq_true rfl) (sp_X1_clear ?_)
  refine g_aload_0 h dX4_firstFault_12 ?_
  refine g_iconst h dX4_firstFault_13 (v := nI 0) rfl ?_
  refine g_putI h fp_X4_21 dX4_firstFault_14 rfl rfl ?_
  refine g_aload_0 h dX4_firstFault_17 ?_
  refine g_aload_0 h dX4_firstFault_18 ?_
  refine g_getC h fl_X4_24 dX4_firstFault_19 rfl rfl ?_
  refine g_iconst h dX4_firstFault_22 (v := nI 0) rfl ?_
  refine g_cVi1 h rok0 mi_X8_kindOf dX4_firstFault_23 ml_X4_37 rfl rfl rfl (Nat.le_of_ble_eq_true rfl) (Nat.le_of_ble_eq_true rfl) (sp_X8_kindOf0 (K := K) (V := V) (M := M) ?_ ?_)
  · exact (show paR 0 0 I (up2 (up2 I 77 2 (nI 0)) 8 4 (nI 0)) from ⟨fun a b1 b2 b3 b4 b5 => by rw [up2_o b1, up2_o b3], fun t ht => absurd ht (Nat.not_lt_zero t), fun n hn => absurd hn (Nat.not_lt_zero n)⟩).ps hK
  · refine g_putI h fp_X4_17 dX4_firstFault_26 rfl rfl ?_
    refine g_iconst h dX4_firstFault_29 (v := nI 1) rfl ?_
    refine g_istore_2 h dX4_firstFault_30 (by decide) rfl ?_
    refine g_iconst h dX4_firstFault_31 (v := nI 0) rfl ?_
    refine g_istore_3 h dX4_firstFault_32 (by decide) rfl ?_
    have r0 : paR 0 0 I (up2 (up2 (up2 I 77 2 (nI 0)) 8 4 (nI 0)) 8 3 (nI (K 0))) := ⟨fun a b1 b2 b3 b4 b5 => by rw [up2_o b1, up2_o b1, up2_o b3], fun t ht => absurd ht (Nat.not_lt_zero t), fun n hn => absurd hn (Nat.not_lt_zero n)⟩
    exact lp_X4_firstFault (up2_s (f := P)) h 400 0 0 0 _ rfl (r0.ps hK) ⟨by simp [up2], by simp [up2], by simp [up2]⟩ (Nat.zero_le _) (Nat.le_refl _) r0 (fun I' _ c' => c') h1 h0
