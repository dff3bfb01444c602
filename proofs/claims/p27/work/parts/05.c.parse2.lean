/-! The class's parser: sums, tests -/
set_option maxRecDepth 100000 in
set_option maxHeartbeats 8000000 in
theorem ex_sumAt {Γ : Cx} {d p z w : Nat} {K : Nat → Nat} {I : MI} {J : MJ} {P : MP} {dep x : Int32} {x4 x5 x6 : Option Value} (hx : narrow .boolean (.int x) = .int x) (hP : P 8 2 = some 77) (ha : paS K p z I) (hw : w < 49) (hz : ¬ w = 48 → z < 400) {Q : Int32 → MI → MJ → MP → Prop} (h48 : w = 48 → Q x I J P) (hne : ¬ w = 48 → ∀ I', paR p z I I' → paS K p (z + 1) I' → I' 78 z = nI w → Q x I' J P) (h : Vc RX4 cX4_sumAt 7 (some .boolean) (d + 1) Γ) : VG Γ 0 0 147 [some (.ref 8), some (.int dep), some (.int x), some (.int (nI w)), x4, x5, x6] [] I J P (Fnl Γ (Qi Q)) := by
  refine g_iload_3 h dX4_sumAt_147 ?_
  refine g_bipush h dX4_sumAt_148 (v := nI 48) rfl ?_
  refine g_icmp_eq h 163 dX4_sumAt_150 rfl (fun c150 => ?_) (fun c150 => ?_)
  · refine g_iload_2 h dX4_sumAt_163 ?_
    refine g_zret h dX4_sumAt_164 hx ?_
    exact h48 (eqN c150 (by omega) (by decide))
  · have w8 : ¬ w = 48 := fun q => c150 (by rw [q])
    refine g_aload_0 h dX4_sumAt_153 ?_
    refine g_getP h fl_X4_28 dX4_sumAt_154 rfl rfl (by assumption) ?_
    refine g_iload_3 h dX4_sumAt_157 ?_
    refine g_iconst h dX4_sumAt_158 (v := nI 0) rfl ?_
    refine g_cVi2 h rok0 mi_X1_append dX4_sumAt_159 ml_X4_61 rfl rfl rfl (Nat.le_of_ble_eq_true rfl) (Nat.le_of_ble_eq_true rfl) (sp_X1_append ha (hz w8) (fun I1 r1 a1 s1 s2 => ?_))
    · refine g_pop h dX4_sumAt_162 rfl ?_
      refine g_iload_2 h dX4_sumAt_163 ?_
      refine g_zret h dX4_sumAt_164 hx ?_
      exact hne w8 I1 r1 a1 s1
set_option maxRecDepth 100000 in
set_option maxHeartbeats 8000000 in
theorem lp_sumAt {Γ : Cx} {K : Nat → Nat} {V m : Nat → Int32} {M D p0 z0 : Nat} {dep : Int32} {g : Nat → PRs} (hgB : gB M g) (hz0 : z0 ≤ p0) {I0 : MI} {J : MJ} {P : MP} (hP : P 8 2 = some 77) (hV : cP K V m M yX4_valueAt cX4_valueAt 3 D dep g) {Q : Int32 → MI → MJ → MP → Prop} (h : Vc RX4 cX4_sumAt 7 (some .boolean) (D + 1) Γ) : ∀ (F p z w n : Nat) (A B : EX) (I : MI) (x5 x6 : Option Value), 401 ≤ p + F → n ≤ p → p ≤ M → psO K V M I J → paS K p z I → paR p0 z0 I0 I → p0 ≤ p → z + (if w = 48 then 0 else 1) + p0 ≤ z0 + p → rnC m I z0 z (wtF w A B) → (w = 48 ∨ 36 ≤ w ∧ w ≤ 39) → ((opL K 36 39 clS g F p w A B).1 = true → ∀ I' z', paR p0 z0 I0 I' → paS K (opL K 36 39 clS g F p w A B).2.1 z' I' → z0 ≤ z' → z' + p0 ≤ z0 + (opL K 36 39 clS g F p w A B).2.1 → seg m I' z0 z' (opL K 36 39 clS g F p w A B).2.2 → Q (nI 1) I' J P) → ((opL K 36 39 clS g F p w A B).1 = false → ∀ I' z', paR p0 z0 I0 I' → paS K (opL K 36 39 clS g F p w A B).2.1 z' I' → z0 ≤ z' → z' + p0 ≤ z0 + (opL K 36 39 clS g F p w A B).2.1 → Q (nI 0) I' J P) → VG Γ 0 0 12 [some (.ref 8), some (.int dep), some (.int (nI 1)), some (.int (nI w)), some (.int (nI n)), x5, x6] [] I J P (Fnl Γ (Qi Q)) := by
  intro F
  induction F with
  | zero =>
    intro p z w n A B I x5 x6 hF hn hp hK
    have := hK.2.2.2.1
    omega
  | succ F ih =>
    intro p z w n A B I x5 x6 hF hn hp hK ha hr hpp hb hs hw h1 h0
    have hK' := hK
    obtain ⟨k1, k2, k3, k4, k5⟩ := hK'
    have kp := (k1 p hp).2
    have ha' := ha
    obtain ⟨ha1, ha2, ha3⟩ := ha'
    have hw49 : w < 49 := by omega
    have hzz := hs.1
    rw [opL] at h1 h0
    by_cases hop : 36 ≤ K p ∧ K p ≤ 39
    · have hpM := K_lt2 k5 hp (by omega)
      rw [if_pos hop] at h1 h0
      obtain ⟨b1, b2, b3⟩ := hgB (p + 1) (by omega)
      have contT : clS (K p) = true → VG Γ 0 0 69 [some (.ref 8), some (.int dep), some (.int (nI 1)), some (.int (nI w)), some (.int (nI n)), some (.int (nI (K p))), some (.int (nI 1))] [] I J P (Fnl Γ (Qi Q)) := by
        intro hcl
        rw [if_pos hcl, if_pos hcl, if_pos hcl] at h1
        rw [if_pos hcl, if_pos hcl, if_pos hcl] at h0
        refine g_iload_6 h dX4_sumAt_69 ?_
        refine g_if_ne h 90 dX4_sumAt_71 rfl (fun _ => ?_) (fun c => absurd c (by decide))
        refine g_iload_6 h dX4_sumAt_90 ?_
        refine g_if_eq h 99 dX4_sumAt_92 rfl (fun c => absurd c (by decide)) (fun _ => ?_)
        refine g_iload_3 h dX4_sumAt_95 ?_
        refine g_goto h 101 dX4_sumAt_96 rfl ?_
        refine g_istore_3 h dX4_sumAt_101 (by decide) rfl ?_
        refine g_aload_0 h dX4_sumAt_102 ?_
        refine g_iload_5 h dX4_sumAt_103 ?_
        refine g_cVi1 h rok0 mi_X4_take dX4_sumAt_105 ml_X4_45 rfl rfl rfl (Nat.le_of_ble_eq_true rfl) (Nat.le_of_ble_eq_true rfl) (sp_X4_take hK hP ha hp (by omega) (fun e1 I1 r1 a1 n1 => ?_) (fun e => absurd rfl e))
        · have hK1 := hK
          refine g_if_eq h 123 dX4_sumAt_108 rfl (fun c => absurd c (by decide)) (fun _ => ?_)
          refine g_aload_0 h dX4_sumAt_111 ?_
          refine g_iload_1 h dX4_sumAt_112 ?_
          refine g_cVi1 h rok0 mi_X4_valueAt dX4_sumAt_113 ml_X4_65 rfl rfl rfl (Nat.le_of_ble_eq_true rfl) (Nat.le_of_ble_eq_true rfl) (hV (p + 1) z I1 J P (r1.ps hK1) hP a1 (by omega) (by omega) _ (fun e2 I2 z2 r2 a2 l1 l2 s2 => ?_) (fun e2 I2 z2 r2 a2 l1 l2 => ?_))
          · have b4 := b3 e2
            rw [if_pos e2] at h1 h0
            have rr := r1.tr r2 (by omega) (by omega)
            refine g_if_eq h 123 dX4_sumAt_116 rfl (fun c => absurd c (by decide)) (fun _ => ?_)
            refine g_iconst h dX4_sumAt_119 (v := nI 1) rfl ?_
            refine g_goto h 124 dX4_sumAt_120 rfl ?_
            refine g_istore_2 h dX4_sumAt_124 (by decide) rfl ?_
            refine g_iload_6 h dX4_sumAt_125 ?_
            refine g_if_eq h 141 dX4_sumAt_127 rfl (fun c => absurd c (by decide)) (fun _ => ?_)
            refine g_aload_0 h dX4_sumAt_130 ?_
            refine g_getP h fl_X4_28 dX4_sumAt_131 rfl rfl (by assumption) ?_
            refine g_iload_5 h dX4_sumAt_134 ?_
            refine g_iconst h dX4_sumAt_136 (v := nI 0) rfl ?_
            refine g_cVi2 h rok0 mi_X1_append dX4_sumAt_137 ml_X4_61 rfl rfl rfl (Nat.le_of_ble_eq_true rfl) (Nat.le_of_ble_eq_true rfl) (sp_X1_append a2 (by omega) (fun I3 r3 a3 s3 s4 => ?_))
            · refine g_pop h dX4_sumAt_140 rfl ?_
              refine g_iinc_4 h dX4_sumAt_141 (inc1 _) (by decide) rfl ?_
              refine g_goto h 12 dX4_sumAt_144 rfl ?_
              refine ih (g (p + 1)).2.1 (z2 + 1) w (n + 1) A (joE (K p) B (g (p + 1)).2.2) I3 _ _ (by omega) (by omega) b2 ((rr.tr r3 (by omega) (by omega)).ps hK) a3 (hr.tr (rr.tr r3 (by omega) (by omega)) (by omega) (by omega)) (by omega) (by omega) ?_ hw h1 h0
              exact wt_cl ((rr.tr r3 (by omega) (by omega)).sg hs (by omega)) (r3.sg s2 (by omega)) (Or.inr (by omega)) s3
          · rw [if_neg (by rw [e2]; decide)] at h1 h0
            have rr := r1.tr r2 (by omega) (by omega)
            refine g_if_eq h 123 dX4_sumAt_116 rfl (fun _ => ?_) (fun c => absurd c (by decide))
            refine g_iconst h dX4_sumAt_123 (v := nI 0) rfl ?_
            refine g_istore_2 h dX4_sumAt_124 (by decide) rfl ?_
            refine g_iload_6 h dX4_sumAt_125 ?_
            refine g_if_eq h 141 dX4_sumAt_127 rfl (fun c => absurd c (by decide)) (fun _ => ?_)
            refine g_aload_0 h dX4_sumAt_130 ?_
            refine g_getP h fl_X4_28 dX4_sumAt_131 rfl rfl (by assumption) ?_
            refine g_iload_5 h dX4_sumAt_134 ?_
            refine g_iconst h dX4_sumAt_136 (v := nI 0) rfl ?_
            refine g_cVi2 h rok0 mi_X1_append dX4_sumAt_137 ml_X4_61 rfl rfl rfl (Nat.le_of_ble_eq_true rfl) (Nat.le_of_ble_eq_true rfl) (sp_X1_append a2 (by omega) (fun I3 r3 a3 s3 s4 => ?_))
            · refine g_pop h dX4_sumAt_140 rfl ?_
              refine g_iinc_4 h dX4_sumAt_141 (inc1 _) (by decide) rfl ?_
              refine g_goto h 12 dX4_sumAt_144 rfl ?_
              refine g_iload_4 h dX4_sumAt_12 ?_
              refine g_sipush h dX4_sumAt_14 (v := nI 400) rfl ?_
              refine g_icmp_ge h 147 dX4_sumAt_17 rfl (fun c17 => ?_) (fun c17 => ?_)
              · refine ex_sumAt rfl hP a3 hw49 (fun q => by rw [if_neg q] at hb; omega) (fun q => ?_) (fun q I9 r9 a9 s9 => ?_) h
                · exact h0 rfl I3 (z2 + 1) (hr.tr (rr.tr r3 (by omega) (by omega)) (by omega) (by omega)) a3 (by omega) (by rw [if_pos q] at hb; show (z2 + 1) + p0 ≤ z0 + (g (p + 1)).2.1; omega)
                · exact h0 rfl I9 ((z2 + 1) + 1) ((hr.tr (rr.tr r3 (by omega) (by omega)) (by omega) (by omega)).tr r9 (by omega) (by omega)) a9 (by omega) (by rw [if_neg q] at hb; show (z2 + 1) + 1 + p0 ≤ z0 + (g (p + 1)).2.1; omega)
              · refine g_iload_2 h dX4_sumAt_20 ?_
                refine g_if_eq h 147 dX4_sumAt_21 rfl (fun _ => ?_) (fun c => absurd c (by decide))
                refine ex_sumAt rfl hP a3 hw49 (fun q => by rw [if_neg q] at hb; omega) (fun q => ?_) (fun q I9 r9 a9 s9 => ?_) h
                · exact h0 rfl I3 (z2 + 1) (hr.tr (rr.tr r3 (by omega) (by omega)) (by omega) (by omega)) a3 (by omega) (by rw [if_pos q] at hb; show (z2 + 1) + p0 ≤ z0 + (g (p + 1)).2.1; omega)
                · exact h0 rfl I9 ((z2 + 1) + 1) ((hr.tr (rr.tr r3 (by omega) (by omega)) (by omega) (by omega)).tr r9 (by omega) (by omega)) a9 (by omega) (by rw [if_neg q] at hb; show (z2 + 1) + 1 + p0 ≤ z0 + (g (p + 1)).2.1; omega)
      have contF : clS (K p) = false → VG Γ 0 0 69 [some (.ref 8), some (.int dep), some (.int (nI 1)), some (.int (nI w)), some (.int (nI n)), some (.int (nI (K p))), some (.int (nI 0))] [] I J P (Fnl Γ (Qi Q)) := by
        intro hcl
        have hcl' : ¬ clS (K p) = true := by rw [hcl]; decide
        rw [if_neg hcl', if_neg hcl', if_neg hcl'] at h1
        rw [if_neg hcl', if_neg hcl', if_neg hcl'] at h0
        have key : ∀ (z1 : Nat) (I1 : MI), paS K p z1 I1 → paR p z I I1 → z ≤ z1 → z1 + p0 ≤ z0 + p → seg m I1 z0 z1 (wtE w A B) → VG Γ 0 0 90 [some (.ref 8), some (.int dep), some (.int (nI 1)), some (.int (nI w)), some (.int (nI n)), some (.int (nI (K p))), some (.int (nI 0))] [] I1 J P (Fnl Γ (Qi Q)) := by
          intro z1 I0 ha0 r0 hzl hzb hsg
          have hK0 := r0.ps hK
          refine g_iload_6 h dX4_sumAt_90 ?_
          refine g_if_eq h 99 dX4_sumAt_92 rfl (fun _ => ?_) (fun c => absurd c (by decide))
          refine g_iload_5 h dX4_sumAt_99 ?_
          refine g_istore_3 h dX4_sumAt_101 (by decide) rfl ?_
          refine g_aload_0 h dX4_sumAt_102 ?_
          refine g_iload_5 h dX4_sumAt_103 ?_
          refine g_cVi1 h rok0 mi_X4_take dX4_sumAt_105 ml_X4_45 rfl rfl rfl (Nat.le_of_ble_eq_true rfl) (Nat.le_of_ble_eq_true rfl) (sp_X4_take hK0 hP ha0 hp (by omega) (fun e1 I1 r1 a1 n1 => ?_) (fun e => absurd rfl e))
          · have hK1 := hK0
            refine g_if_eq h 123 dX4_sumAt_108 rfl (fun c => absurd c (by decide)) (fun _ => ?_)
            refine g_aload_0 h dX4_sumAt_111 ?_
            refine g_iload_1 h dX4_sumAt_112 ?_
            refine g_cVi1 h rok0 mi_X4_valueAt dX4_sumAt_113 ml_X4_65 rfl rfl rfl (Nat.le_of_ble_eq_true rfl) (Nat.le_of_ble_eq_true rfl) (hV (p + 1) z1 I1 J P (r1.ps hK1) hP a1 (by omega) (by omega) _ (fun e2 I2 z2 r2 a2 l1 l2 s2 => ?_) (fun e2 I2 z2 r2 a2 l1 l2 => ?_))
            · have b4 := b3 e2
              rw [if_pos e2] at h1 h0
              have rr := r1.tr r2 (by omega) (by omega)
              refine g_if_eq h 123 dX4_sumAt_116 rfl (fun c => absurd c (by decide)) (fun _ => ?_)
              refine g_iconst h dX4_sumAt_119 (v := nI 1) rfl ?_
              refine g_goto h 124 dX4_sumAt_120 rfl ?_
              refine g_istore_2 h dX4_sumAt_124 (by decide) rfl ?_
              refine g_iload_6 h dX4_sumAt_125 ?_
              refine g_if_eq h 141 dX4_sumAt_127 rfl (fun _ => ?_) (fun c => absurd c (by decide))
              refine g_iinc_4 h dX4_sumAt_141 (inc1 _) (by decide) rfl ?_
              refine g_goto h 12 dX4_sumAt_144 rfl ?_
              refine ih (g (p + 1)).2.1 z2 (K p) (n + 1) (wtE w A B) (g (p + 1)).2.2 I2 _ _ (by omega) (by omega) b2 (rr.ps hK0) a2 (hr.tr (r0.tr rr (by omega) (by omega)) (by omega) (by omega)) (by omega) (by rw [if_neg (by omega)]; omega) ?_ (Or.inr hop) h1 h0
              exact wt_op (rr.sg hsg (by omega)) s2 (by omega)
            · rw [if_neg (by rw [e2]; decide)] at h1 h0
              have rr := r1.tr r2 (by omega) (by omega)
              refine g_if_eq h 123 dX4_sumAt_116 rfl (fun _ => ?_) (fun c => absurd c (by decide))
              refine g_iconst h dX4_sumAt_123 (v := nI 0) rfl ?_
              refine g_istore_2 h dX4_sumAt_124 (by decide) rfl ?_
              refine g_iload_6 h dX4_sumAt_125 ?_
              refine g_if_eq h 141 dX4_sumAt_127 rfl (fun _ => ?_) (fun c => absurd c (by decide))
              refine g_iinc_4 h dX4_sumAt_141 (inc1 _) (by decide) rfl ?_
              refine g_goto h 12 dX4_sumAt_144 rfl ?_
              refine g_iload_4 h dX4_sumAt_12 ?_
              refine g_sipush h dX4_sumAt_14 (v := nI 400) rfl ?_
              refine g_icmp_ge h 147 dX4_sumAt_17 rfl (fun c17 => ?_) (fun c17 => ?_)
              · refine ex_sumAt rfl hP a2 (by omega) (fun q => by omega) (fun q => absurd q (by omega)) (fun q I9 r9 a9 s9 => ?_) h
                exact h0 rfl I9 (z2 + 1) ((hr.tr (r0.tr rr (by omega) (by omega)) (by omega) (by omega)).tr r9 (by omega) (by omega)) a9 (by omega) (by show z2 + 1 + p0 ≤ z0 + (g (p + 1)).2.1; omega)
              · refine g_iload_2 h dX4_sumAt_20 ?_
                refine g_if_eq h 147 dX4_sumAt_21 rfl (fun _ => ?_) (fun c => absurd c (by decide))
                refine ex_sumAt rfl hP a2 (by omega) (fun q => by omega) (fun q => absurd q (by omega)) (fun q I9 r9 a9 s9 => ?_) h
                exact h0 rfl I9 (z2 + 1) ((hr.tr (r0.tr rr (by omega) (by omega)) (by omega) (by omega)).tr r9 (by omega) (by omega)) a9 (by omega) (by show z2 + 1 + p0 ≤ z0 + (g (p + 1)).2.1; omega)
        refine g_iload_6 h dX4_sumAt_69 ?_
        refine g_if_ne h 90 dX4_sumAt_71 rfl (fun c => absurd c (by decide)) (fun _ => ?_)
        refine g_iload_3 h dX4_sumAt_74 ?_
        refine g_bipush h dX4_sumAt_75 (v := nI 48) rfl ?_
        refine g_icmp_eq h 90 dX4_sumAt_77 rfl (fun c77 => ?_) (fun c77 => ?_)
        · have w8 : w = 48 := eqN c77 (by omega) (by decide)
          exact key z I ha paR.rf (Nat.le_refl _) (by rw [if_pos w8] at hb; omega) (wt_48 hs w8)
        · have w8 : ¬ w = 48 := fun q => c77 (by rw [q])
          refine g_aload_0 h dX4_sumAt_80 ?_
          refine g_getP h fl_X4_28 dX4_sumAt_81 rfl rfl (by assumption) ?_
          refine g_iload_3 h dX4_sumAt_84 ?_
          refine g_iconst h dX4_sumAt_85 (v := nI 0) rfl ?_
          refine g_cVi2 h rok0 mi_X1_append dX4_sumAt_86 ml_X4_61 rfl rfl rfl (Nat.le_of_ble_eq_true rfl) (Nat.le_of_ble_eq_true rfl) (sp_X1_append ha (by rw [if_neg w8] at hb; omega) (fun I3 r3 a3 s3 s4 => ?_))
          · refine g_pop h dX4_sumAt_89 rfl ?_
            exact key (z + 1) I3 a3 r3 (by omega) (by rw [if_neg w8] at hb; omega) (wt_jo (r3.sg hs (by omega)) w8 (Or.inr (by omega)) s3)
      refine g_iload_4 h dX4_sumAt_12 ?_
      refine g_sipush h dX4_sumAt_14 (v := nI 400) rfl ?_
      refine g_icmp_ge h 147 dX4_sumAt_17 rfl (fun c => absurd c (nI_ge (by omega) (by decide))) (fun _ => ?_)
      refine g_iload_2 h dX4_sumAt_20 ?_
      refine g_if_eq h 147 dX4_sumAt_21 rfl (fun c => absurd c (by decide)) (fun _ => ?_)
      refine g_aload_0 h dX4_sumAt_24 ?_
      refine g_getI h fl_X4_17 dX4_sumAt_25 rfl rfl ?_
      refine g_bipush h dX4_sumAt_28 (v := nI 36) rfl ?_
      refine g_icmp_lt h 147 dX4_sumAt_30 rfl (fun c => absurd (by rw [← ha1]; exact c) (nI_nlt hop.1 (by omega))) (fun _ => ?_)
      refine g_aload_0 h dX4_sumAt_33 ?_
      refine g_getI h fl_X4_17 dX4_sumAt_34 rfl rfl ?_
      refine g_bipush h dX4_sumAt_37 (v := nI 39) rfl ?_
      refine g_icmp_gt h 147 dX4_sumAt_39 rfl (fun c => absurd (by rw [← ha1]; exact c) (nI_nlt hop.2 (by omega))) (fun _ => ?_)
      refine g_aload_0 h dX4_sumAt_42 ?_
      refine g_getI h fl_X4_17 dX4_sumAt_43 rfl rfl ?_
      refine g_istore_5 h dX4_sumAt_46 (by decide) rfl ?_
      rw [ha1]
      refine g_iload_5 h dX4_sumAt_48 ?_
      refine g_bipush h dX4_sumAt_50 (v := nI 38) rfl ?_
      refine g_icmp_eq h 62 dX4_sumAt_52 rfl (fun c52 => ?_) (fun c52 => ?_)
      · refine g_iconst h dX4_sumAt_62 (v := nI 1) rfl ?_
        refine g_goto h 67 dX4_sumAt_63 rfl ?_
        refine g_istore_6 h dX4_sumAt_67 (by decide) rfl ?_
        first
          | exact contT (by have := eqN c52 (by omega) (by decide); simp [clS, this])
          | exact contT (by have := eqN c59 (by omega) (by decide); simp [clS, this])
          | exact contF (by
              have q1 : ¬ K p = 38 := fun q => c52 (by rw [q])
              have q2 : ¬ K p = 39 := fun q => c59 (by rw [q])
              simp [clS]
              omega)
      · refine g_iload_5 h dX4_sumAt_55 ?_
        refine g_bipush h dX4_sumAt_57 (v := nI 39) rfl ?_
        refine g_icmp_ne h 66 dX4_sumAt_59 rfl (fun c59 => ?_) (fun c59 => ?_)
        · refine g_iconst h dX4_sumAt_66 (v := nI 0) rfl ?_
          refine g_istore_6 h dX4_sumAt_67 (by decide) rfl ?_
          first
            | exact contT (by have := eqN c52 (by omega) (by decide); simp [clS, this])
            | exact contT (by have := eqN c59 (by omega) (by decide); simp [clS, this])
            | exact contF (by
                have q1 : ¬ K p = 38 := fun q => c52 (by rw [q])
                have q2 : ¬ K p = 39 := fun q => c59 (by rw [q])
                simp [clS]
                omega)
        · refine g_iconst h dX4_sumAt_62 (v := nI 1) rfl ?_
          refine g_goto h 67 dX4_sumAt_63 rfl ?_
          refine g_istore_6 h dX4_sumAt_67 (by decide) rfl ?_
          first
            | exact contT (by have := eqN c52 (by omega) (by decide); simp [clS, this])
            | exact contT (by have := eqN c59 (by omega) (by decide); simp [clS, this])
            | exact contF (by
                have q1 : ¬ K p = 38 := fun q => c52 (by rw [q])
                have q2 : ¬ K p = 39 := fun q => c59 (by rw [q])
                simp [clS]
                omega)
    · rw [if_neg hop] at h1 h0
      have EX : VG Γ 0 0 147 [some (.ref 8), some (.int dep), some (.int (nI 1)), some (.int (nI w)), some (.int (nI n)), x5, x6] [] I J P (Fnl Γ (Qi Q)) := by
        refine ex_sumAt rfl hP ha hw49 (fun q => by rw [if_neg q] at hb; omega) (fun q => ?_) (fun q I9 r9 a9 s9 => ?_) h
        · exact h1 rfl I z hr ha (by omega) (by rw [if_pos q] at hb; show z + p0 ≤ z0 + p; omega) (wt_48 hs q)
        · exact h1 rfl I9 (z + 1) (hr.tr r9 (by omega) (by omega)) a9 (by omega) (by rw [if_neg q] at hb; show z + 1 + p0 ≤ z0 + p; omega) (wt_jo (r9.sg hs (by omega)) q (Or.inr (by omega)) s9)
      refine g_iload_4 h dX4_sumAt_12 ?_
      refine g_sipush h dX4_sumAt_14 (v := nI 400) rfl ?_
      refine g_icmp_ge h 147 dX4_sumAt_17 rfl (fun c17 => ?_) (fun c17 => ?_)
      · exact EX
      · refine g_iload_2 h dX4_sumAt_20 ?_
        refine g_if_eq h 147 dX4_sumAt_21 rfl (fun c => absurd c (by decide)) (fun _ => ?_)
        refine g_aload_0 h dX4_sumAt_24 ?_
        refine g_getI h fl_X4_17 dX4_sumAt_25 rfl rfl ?_
        refine g_bipush h dX4_sumAt_28 (v := nI 36) rfl ?_
        refine g_icmp_lt h 147 dX4_sumAt_30 rfl (fun c30 => ?_) (fun c30 => ?_)
        · exact EX
        · refine g_aload_0 h dX4_sumAt_33 ?_
          refine g_getI h fl_X4_17 dX4_sumAt_34 rfl rfl ?_
          refine g_bipush h dX4_sumAt_37 (v := nI 39) rfl ?_
          refine g_icmp_gt h 147 dX4_sumAt_39 rfl (fun c39 => ?_) (fun c39 => ?_)
          · exact EX
          · exact absurd ⟨leN (show nI 36 ≤ nI (K p) by rw [← ha1]; exact Int32.not_lt.mp c30) (by decide) (by omega), leN (show nI (K p) ≤ nI 39 by rw [← ha1]; exact Int32.not_lt.mp c39) (by omega) (by decide)⟩ hop
set_option maxRecDepth 100000 in
set_option maxHeartbeats 8000000 in
theorem cs_sumAt {K : Nat → Nat} {V m : Nat → Int32} {M D : Nat} {dep : Int32} {g : Nat → PRs} (hgB : gB M g) (hV : cP K V m M yX4_valueAt cX4_valueAt 3 D dep g) : cP K V m M yX4_sumAt cX4_sumAt 7 (D + 1) dep (opS K 36 39 clS g) := by
  intro p z I J P hK hP ha hp hz Q h1 h0 Γ h
  obtain ⟨b1, b2, b3⟩ := hgB p hp
  unfold opS at h1 h0
  show VG Γ 0 0 0 [some (.ref 8), some (.int dep), none, none, none, none, none] [] _ _ _ _
  refine g_aload_0 h dX4_sumAt_0 ?_
  refine g_iload_1 h dX4_sumAt_1 ?_
  refine g_cVi1 h rok0 mi_X4_valueAt dX4_sumAt_2 ml_X4_65 rfl rfl rfl (Nat.le_of_ble_eq_true rfl) (Nat.le_of_ble_eq_true rfl) (hV p z I J P hK hP ha hp hz _ (fun e2 I2 z2 r2 a2 l1 l2 s2 => ?_) (fun e2 I2 z2 r2 a2 l1 l2 => ?_))
  · have b4 := b3 e2
    rw [if_pos e2] at h1 h0
    refine g_istore_2 h dX4_sumAt_5 (by decide) rfl ?_
    refine g_bipush h dX4_sumAt_6 (v := nI 48) rfl ?_
    refine g_istore_3 h dX4_sumAt_8 (by decide) rfl ?_
    refine g_iconst h dX4_sumAt_9 (v := nI 0) rfl ?_
    refine g_istore_4 h dX4_sumAt_10 (by decide) rfl ?_
    exact lp_sumAt hgB hz hP hV h 401 (g p).2.1 z2 48 0 zE (g p).2.2 I2 _ _ (by omega) (by omega) b2 (r2.ps hK) a2 r2 (by omega) (by rw [if_pos rfl]; omega) (wt_0 s2) (Or.inl rfl) h1 h0
  · rw [if_neg (by rw [e2]; decide)] at h1 h0
    refine g_istore_2 h dX4_sumAt_5 (by decide) rfl ?_
    refine g_bipush h dX4_sumAt_6 (v := nI 48) rfl ?_
    refine g_istore_3 h dX4_sumAt_8 (by decide) rfl ?_
    refine g_iconst h dX4_sumAt_9 (v := nI 0) rfl ?_
    refine g_istore_4 h dX4_sumAt_10 (by decide) rfl ?_
    refine g_iload_4 h dX4_sumAt_12 ?_
    refine g_sipush h dX4_sumAt_14 (v := nI 400) rfl ?_
    refine g_icmp_ge h 147 dX4_sumAt_17 rfl (fun c17 => ?_) (fun c17 => ?_)
    · exact ex_sumAt rfl hP a2 (by decide) (fun q => absurd rfl q) (fun q => h0 rfl I2 z2 r2 a2 l1 (by show z2 + p ≤ z + (g p).2.1; omega)) (fun q => absurd rfl q) h
    · refine g_iload_2 h dX4_sumAt_20 ?_
      refine g_if_eq h 147 dX4_sumAt_21 rfl (fun _ => ?_) (fun c => absurd c (by decide))
      exact ex_sumAt rfl hP a2 (by decide) (fun q => absurd rfl q) (fun q => h0 rfl I2 z2 r2 a2 l1 (by show z2 + p ≤ z + (g p).2.1; omega)) (fun q => absurd rfl q) h
set_option maxRecDepth 100000 in
set_option maxHeartbeats 8000000 in
theorem ex_testAt {Γ : Cx} {d p z : Nat} {w : Bool} {K : Nat → Nat} {I : MI} {J : MJ} {P : MP} {dep x : Int32} {x4 x5 : Option Value} (hx : narrow .boolean (.int x) = .int x) (hP : P 8 2 = some 77) (ha : paS K p z I) (hz : w = true → z < 400) {Q : Int32 → MI → MJ → MP → Prop} (h48 : w = false → Q x I J P) (hne : w = true → ∀ I', paR p z I I' → paS K p (z + 1) I' → I' 78 z = nI 25 → Q x I' J P) (h : Vc RX4 cX4_testAt 6 (some .boolean) (d + 1) Γ) : VG Γ 0 0 133 [some (.ref 8), some (.int dep), some (.int x), some (.int (b2i w)), x4, x5] [] I J P (Fnl Γ (Qi Q)) := by
  refine g_iload_3 h dX4_testAt_133 ?_
  refine g_if_eq h 148 dX4_testAt_134 rfl (fun c134 => ?_) (fun c134 => ?_)
  · refine g_iload_2 h dX4_testAt_148 ?_
    refine g_zret h dX4_testAt_149 hx ?_
    exact h48 (b2i_0.mp c134)
  · have w8 : w = true := b2i_n0.mp c134
    refine g_aload_0 h dX4_testAt_137 ?_
    refine g_getP h fl_X4_28 dX4_testAt_138 rfl rfl (by assumption) ?_
    refine g_bipush h dX4_testAt_141 (v := nI 25) rfl ?_
    refine g_iconst h dX4_testAt_143 (v := nI 0) rfl ?_
    refine g_cVi2 h rok0 mi_X1_append dX4_testAt_144 ml_X4_61 rfl rfl rfl (Nat.le_of_ble_eq_true rfl) (Nat.le_of_ble_eq_true rfl) (sp_X1_append ha (hz w8) (fun I1 r1 a1 s1 s2 => ?_))
    · refine g_pop h dX4_testAt_147 rfl ?_
      refine g_iload_2 h dX4_testAt_148 ?_
      refine g_zret h dX4_testAt_149 hx ?_
      exact hne w8 I1 r1 a1 s1
set_option maxRecDepth 100000 in
set_option maxHeartbeats 8000000 in
theorem lp_testAt {Γ : Cx} {K : Nat → Nat} {V m : Nat → Int32} {M D p0 z0 : Nat} {dep : Int32} {g : Nat → PRs} (hgB : gB M g) (hz0 : z0 ≤ p0) {I0 : MI} {J : MJ} {P : MP} (hP : P 8 2 = some 77) (hV : cP K V m M yX4_singleAt cX4_singleAt 3 D dep g) {Q : Int32 → MI → MJ → MP → Prop} (h : Vc RX4 cX4_testAt 6 (some .boolean) (D + 1) Γ) : ∀ (F p z n : Nat) (w : Bool) (A B : EX) (I : MI) (x5 : Option Value), 401 ≤ p + F → n ≤ p → p ≤ M → psO K V M I J → paS K p z I → paR p0 z0 I0 I → p0 ≤ p → z + (if w then 1 else 0) + p0 ≤ z0 + p → rnC m I z0 z (wtF (if w then 25 else 48) A B) → ((opL K 24 25 clT g F p (if w then 25 else 48) A B).1 = true → ∀ I' z', paR p0 z0 I0 I' → paS K (opL K 24 25 clT g F p (if w then 25 else 48) A B).2.1 z' I' → z0 ≤ z' → z' + p0 ≤ z0 + (opL K 24 25 clT g F p (if w then 25 else 48) A B).2.1 → seg m I' z0 z' (opL K 24 25 clT g F p (if w then 25 else 48) A B).2.2 → Q (nI 1) I' J P) → ((opL K 24 25 clT g F p (if w then 25 else 48) A B).1 = false → ∀ I' z', paR p0 z0 I0 I' → paS K (opL K 24 25 clT g F p (if w then 25 else 48) A B).2.1 z' I' → z0 ≤ z' → z' + p0 ≤ z0 + (opL K 24 25 clT g F p (if w then 25 else 48) A B).2.1 → Q (nI 0) I' J P) → VG Γ 0 0 11 [some (.ref 8), some (.int dep), some (.int (nI 1)), some (.int (b2i w)), some (.int (nI n)), x5] [] I J P (Fnl Γ (Qi Q)) := by
  intro F
  induction F with
  | zero =>
    intro p z n w A B I x5 hF hn hp hK
    have := hK.2.2.2.1
    omega
  | succ F ih =>
    intro p z n w A B I x5 hF hn hp hK ha hr hpp hb hs h1 h0
    have hK' := hK
    obtain ⟨k1, k2, k3, k4, k5⟩ := hK'
    have kp := (k1 p hp).2
    have ha' := ha
    obtain ⟨ha1, ha2, ha3⟩ := ha'
    have hzz := hs.1
    rw [opL] at h1 h0
    by_cases hop : 24 ≤ K p ∧ K p ≤ 25
    · have hpM := K_lt2 k5 hp (by omega)
      rw [if_pos hop] at h1 h0
      obtain ⟨b1, b2, b3⟩ := hgB (p + 1) (by omega)
      rcases (show K p = 24 ∨ K p = 25 by omega) with ek | ek
      · have hcl : clT (K p) = true := by rw [ek]; rfl
        rw [if_pos hcl, if_pos hcl, if_pos hcl] at h1
        rw [if_pos hcl, if_pos hcl, if_pos hcl] at h0
        rw [ek] at h1 h0
        have ha1 : I 8 3 = nI 24 := by rw [ha1, ek]
        refine g_iload_4 h dX4_testAt_11 ?_
        refine g_sipush h dX4_testAt_13 (v := nI 400) rfl ?_
        refine g_icmp_ge h 133 dX4_testAt_16 rfl (fun c => absurd c (nI_ge (by omega) (by decide))) (fun _ => ?_)
        refine g_iload_2 h dX4_testAt_19 ?_
        refine g_if_eq h 133 dX4_testAt_20 rfl (fun c => absurd c (by decide)) (fun _ => ?_)
        refine g_aload_0 h dX4_testAt_23 ?_
        refine g_getI h fl_X4_17 dX4_testAt_24 rfl rfl ?_
        refine g_bipush h dX4_testAt_27 (v := nI 24) rfl ?_
        refine g_icmp_eq h 41 dX4_testAt_29 rfl (fun _ => ?_) (fun c => absurd ha1 c)
        refine g_aload_0 h dX4_testAt_41 ?_
        refine g_getI h fl_X4_17 dX4_testAt_42 rfl rfl ?_
        refine g_istore_5 h dX4_testAt_45 (by decide) rfl ?_
        rw [ha1]
        refine g_iload_5 h dX4_testAt_47 ?_
        refine g_bipush h dX4_testAt_49 (v := nI 25) rfl ?_
        refine g_icmp_ne h 69 dX4_testAt_51 rfl (fun _ => ?_) (fun c => absurd c (by decide))
        have key : VG Γ 0 0 85 [some (.ref 8), some (.int dep), some (.int (nI 1)), some (.int (b2i w)), some (.int (nI n)), some (.int (nI 24))] [.int (b2i w)] I J P (Fnl Γ (Qi Q)) := by
          refine g_istore_3 h dX4_testAt_85 (by decide) rfl ?_
          refine g_aload_0 h dX4_testAt_86 ?_
          refine g_iload_5 h dX4_testAt_87 ?_
          refine g_cVi1 h rok0 mi_X4_take dX4_testAt_89 ml_X4_45 rfl rfl rfl (Nat.le_of_ble_eq_true rfl) (Nat.le_of_ble_eq_true rfl) (sp_X4_take (k := 24) hK hP ha hp (by omega) (fun e1 I1 r1 a1 n1 => ?_) (fun e => absurd ek e))
          · refine g_if_eq h 107 dX4_testAt_92 rfl (fun c => absurd c (by decide)) (fun _ => ?_)
            refine g_aload_0 h dX4_testAt_95 ?_
            refine g_iload_1 h dX4_testAt_96 ?_
            refine g_cVi1 h rok0 mi_X4_singleAt dX4_testAt_97 ml_X4_58 rfl rfl rfl (Nat.le_of_ble_eq_true rfl) (Nat.le_of_ble_eq_true rfl) (hV (p + 1) z I1 J P (r1.ps hK) hP a1 (by omega) (by omega) _ (fun e2 I2 z2 r2 a2 l1 l2 s2 => ?_) (fun e2 I2 z2 r2 a2 l1 l2 => ?_))
            · have b4 := b3 e2
              rw [if_pos e2] at h1 h0
              have rr := r1.tr r2 (by omega) (by omega)
              refine g_if_eq h 107 dX4_testAt_100 rfl (fun c => absurd c (by decide)) (fun _ => ?_)
              refine g_iconst h dX4_testAt_103 (v := nI 1) rfl ?_
              refine g_goto h 108 dX4_testAt_104 rfl ?_
              refine g_istore_2 h dX4_testAt_108 (by decide) rfl ?_
              refine g_iload_5 h dX4_testAt_109 ?_
              refine g_bipush h dX4_testAt_111 (v := nI 24) rfl ?_
              refine g_icmp_ne h 127 dX4_testAt_113 rfl (fun c => absurd c (by decide)) (fun _ => ?_)
              refine g_aload_0 h dX4_testAt_116 ?_
              refine g_getP h fl_X4_28 dX4_testAt_117 rfl rfl (by assumption) ?_
              refine g_bipush h dX4_testAt_120 (v := nI 24) rfl ?_
              refine g_iconst h dX4_testAt_122 (v := nI 0) rfl ?_
              refine g_cVi2 h rok0 mi_X1_append dX4_testAt_123 ml_X4_61 rfl rfl rfl (Nat.le_of_ble_eq_true rfl) (Nat.le_of_ble_eq_true rfl) (sp_X1_append a2 (by omega) (fun I3 r3 a3 s3 s4 => ?_))
              · refine g_pop h dX4_testAt_126 rfl ?_
                refine g_iinc_4 h dX4_testAt_127 (inc1 _) (by decide) rfl ?_
                refine g_goto h 11 dX4_testAt_130 rfl ?_
                refine ih (g (p + 1)).2.1 (z2 + 1) (n + 1) w A (joE 24 B (g (p + 1)).2.2) I3 _ (by omega) (by omega) b2 ((rr.tr r3 (by omega) (by omega)).ps hK) a3 (hr.tr (rr.tr r3 (by omega) (by omega)) (by omega) (by omega)) (by omega) (by omega) ?_ h1 h0
                exact wt_cl ((rr.tr r3 (by omega) (by omega)).sg hs (by omega)) (r3.sg s2 (by omega)) (Or.inl (by omega)) s3
            · rw [if_neg (by rw [e2]; decide)] at h1 h0
              have rr := r1.tr r2 (by omega) (by omega)
              refine g_if_eq h 107 dX4_testAt_100 rfl (fun _ => ?_) (fun c => absurd c (by decide))
              refine g_iconst h dX4_testAt_107 (v := nI 0) rfl ?_
              refine g_istore_2 h dX4_testAt_108 (by decide) rfl ?_
              refine g_iload_5 h dX4_testAt_109 ?_
              refine g_bipush h dX4_testAt_111 (v := nI 24) rfl ?_
              refine g_icmp_ne h 127 dX4_testAt_113 rfl (fun c => absurd c (by decide)) (fun _ => ?_)
              refine g_aload_0 h dX4_testAt_116 ?_
              refine g_getP h fl_X4_28 dX4_testAt_117 rfl rfl (by assumption) ?_
              refine g_bipush h dX4_testAt_120 (v := nI 24) rfl ?_
              refine g_iconst h dX4_testAt_122 (v := nI 0) rfl ?_
              refine g_cVi2 h rok0 mi_X1_append dX4_testAt_123 ml_X4_61 rfl rfl rfl (Nat.le_of_ble_eq_true rfl) (Nat.le_of_ble_eq_true rfl) (sp_X1_append a2 (by omega) (fun I3 r3 a3 s3 s4 => ?_))
              · refine g_pop h dX4_testAt_126 rfl ?_
                refine g_iinc_4 h dX4_testAt_127 (inc1 _) (by decide) rfl ?_
                refine g_goto h 11 dX4_testAt_130 rfl ?_
                refine g_iload_4 h dX4_testAt_11 ?_
                refine g_sipush h dX4_testAt_13 (v := nI 400) rfl ?_
                refine g_icmp_ge h 133 dX4_testAt_16 rfl (fun c16 => ?_) (fun c16 => ?_)
                · refine ex_testAt rfl hP a3 (fun q => by rw [if_pos q] at hb; omega) (fun q => ?_) (fun q I9 r9 a9 s9 => ?_) h
                  · exact h0 rfl I3 (z2 + 1) (hr.tr (rr.tr r3 (by omega) (by omega)) (by omega) (by omega)) a3 (by omega) (by show z2 + 1 + p0 ≤ z0 + (g (p + 1)).2.1; omega)
                  · exact h0 rfl I9 (z2 + 1 + 1) ((hr.tr (rr.tr r3 (by omega) (by omega)) (by omega) (by omega)).tr r9 (by omega) (by omega)) a9 (by omega) (by rw [if_pos q] at hb; show z2 + 1 + 1 + p0 ≤ z0 + (g (p + 1)).2.1; omega)
                · refine g_iload_2 h dX4_testAt_19 ?_
                  refine g_if_eq h 133 dX4_testAt_20 rfl (fun _ => ?_) (fun c => absurd c (by decide))
                  refine ex_testAt rfl hP a3 (fun q => by rw [if_pos q] at hb; omega) (fun q => ?_) (fun q I9 r9 a9 s9 => ?_) h
                  · exact h0 rfl I3 (z2 + 1) (hr.tr (rr.tr r3 (by omega) (by omega)) (by omega) (by omega)) a3 (by omega) (by show z2 + 1 + p0 ≤ z0 + (g (p + 1)).2.1; omega)
                  · exact h0 rfl I9 (z2 + 1 + 1) ((hr.tr (rr.tr r3 (by omega) (by omega)) (by omega) (by omega)).tr r9 (by omega) (by omega)) a9 (by omega) (by rw [if_pos q] at hb; show z2 + 1 + 1 + p0 ≤ z0 + (g (p + 1)).2.1; omega)
        refine g_iload_3 h dX4_testAt_69 ?_
        refine g_if_ne h 80 dX4_testAt_70 rfl (fun c70 => ?_) (fun c70 => ?_)
        · refine g_iconst h dX4_testAt_80 (v := nI 1) rfl ?_
          refine g_goto h 85 dX4_testAt_81 rfl ?_
          first
            | (have w8 : w = true := b2i_n0.mp c70
               rw [w8] at key ⊢
               exact key)
            | (have w8 : w = false := b2i_0.mp (Classical.not_not.mp c70)
               rw [w8] at key ⊢
               exact key)
            | (have w8 : w = false := by cases w with | false => rfl | true => exact absurd (show b2i true = 0 from c70) (by decide)
               rw [w8] at key ⊢
               exact key)
        · refine g_iload_5 h dX4_testAt_73 ?_
          refine g_bipush h dX4_testAt_75 (v := nI 25) rfl ?_
          refine g_icmp_ne h 84 dX4_testAt_77 rfl (fun _ => ?_) (fun c => absurd c (by decide))
          refine g_iconst h dX4_testAt_84 (v := nI 0) rfl ?_
          first
            | (have w8 : w = true := b2i_n0.mp c70
               rw [w8] at key ⊢
               exact key)
            | (have w8 : w = false := b2i_0.mp (Classical.not_not.mp c70)
               rw [w8] at key ⊢
               exact key)
            | (have w8 : w = false := by cases w with | false => rfl | true => exact absurd (show b2i true = 0 from c70) (by decide)
               rw [w8] at key ⊢
               exact key)
      · have hcl : ¬ clT (K p) = true := by rw [ek]; decide
        rw [if_neg hcl, if_neg hcl, if_neg hcl] at h1
        rw [if_neg hcl, if_neg hcl, if_neg hcl] at h0
        rw [ek] at h1 h0
        have ha1 : I 8 3 = nI 25 := by rw [ha1, ek]
        have key : ∀ (z1 : Nat) (I1 : MI), paS K p z1 I1 → paR p z I I1 → z ≤ z1 → z1 + p0 ≤ z0 + p → seg m I1 z0 z1 (wtE (if w then 25 else 48) A B) → VG Γ 0 0 85 [some (.ref 8), some (.int dep), some (.int (nI 1)), some (.int (b2i w)), some (.int (nI n)), some (.int (nI 25))] [.int (nI 1)] I1 J P (Fnl Γ (Qi Q)) := by
          intro z1 I0 ha0 r0 hzl hzb hsg
          have hK0 := r0.ps hK
          refine g_istore_3 h dX4_testAt_85 (by decide) rfl ?_
          refine g_aload_0 h dX4_testAt_86 ?_
          refine g_iload_5 h dX4_testAt_87 ?_
          refine g_cVi1 h rok0 mi_X4_take dX4_testAt_89 ml_X4_45 rfl rfl rfl (Nat.le_of_ble_eq_true rfl) (Nat.le_of_ble_eq_true rfl) (sp_X4_take (k := 25) hK0 hP ha0 hp (by omega) (fun e1 I1 r1 a1 n1 => ?_) (fun e => absurd ek e))
          · refine g_if_eq h 107 dX4_testAt_92 rfl (fun c => absurd c (by decide)) (fun _ => ?_)
            refine g_aload_0 h dX4_testAt_95 ?_
            refine g_iload_1 h dX4_testAt_96 ?_
            refine g_cVi1 h rok0 mi_X4_singleAt dX4_testAt_97 ml_X4_58 rfl rfl rfl (Nat.le_of_ble_eq_true rfl) (Nat.le_of_ble_eq_true rfl) (hV (p + 1) z1 I1 J P (r1.ps hK0) hP a1 (by omega) (by omega) _ (fun e2 I2 z2 r2 a2 l1 l2 s2 => ?_) (fun e2 I2 z2 r2 a2 l1 l2 => ?_))
            · have b4 := b3 e2
              rw [if_pos e2] at h1 h0
              have rr := r1.tr r2 (by omega) (by omega)
              refine g_if_eq h 107 dX4_testAt_100 rfl (fun c => absurd c (by decide)) (fun _ => ?_)
              refine g_iconst h dX4_testAt_103 (v := nI 1) rfl ?_
              refine g_goto h 108 dX4_testAt_104 rfl ?_
              refine g_istore_2 h dX4_testAt_108 (by decide) rfl ?_
              refine g_iload_5 h dX4_testAt_109 ?_
              refine g_bipush h dX4_testAt_111 (v := nI 24) rfl ?_
              refine g_icmp_ne h 127 dX4_testAt_113 rfl (fun _ => ?_) (fun c => absurd c (by decide))
              refine g_iinc_4 h dX4_testAt_127 (inc1 _) (by decide) rfl ?_
              refine g_goto h 11 dX4_testAt_130 rfl ?_
              refine ih (g (p + 1)).2.1 z2 (n + 1) true (wtE (if w then 25 else 48) A B) (g (p + 1)).2.2 I2 _ (by omega) (by omega) b2 (rr.ps hK0) a2 (hr.tr (r0.tr rr (by omega) (by omega)) (by omega) (by omega)) (by omega) (by rw [if_pos rfl]; omega) ?_ h1 h0
              exact wt_op (rr.sg hsg (by omega)) s2 (by decide)
            · rw [if_neg (by rw [e2]; decide)] at h1 h0
              have rr := r1.tr r2 (by omega) (by omega)
              refine g_if_eq h 107 dX4_testAt_100 rfl (fun _ => ?_) (fun c => absurd c (by decide))
              refine g_iconst h dX4_testAt_107 (v := nI 0) rfl ?_
              refine g_istore_2 h dX4_testAt_108 (by decide) rfl ?_
              refine g_iload_5 h dX4_testAt_109 ?_
              refine g_bipush h dX4_testAt_111 (v := nI 24) rfl ?_
              refine g_icmp_ne h 127 dX4_testAt_113 rfl (fun _ => ?_) (fun c => absurd c (by decide))
              refine g_iinc_4 h dX4_testAt_127 (inc1 _) (by decide) rfl ?_
              refine g_goto h 11 dX4_testAt_130 rfl ?_
              refine g_iload_4 h dX4_testAt_11 ?_
              refine g_sipush h dX4_testAt_13 (v := nI 400) rfl ?_
              refine g_icmp_ge h 133 dX4_testAt_16 rfl (fun c16 => ?_) (fun c16 => ?_)
              · refine ex_testAt (w := true) rfl hP a2 (fun q => by omega) (fun q => Bool.noConfusion q) (fun q I9 r9 a9 s9 => ?_) h
                exact h0 rfl I9 (z2 + 1) ((hr.tr (r0.tr rr (by omega) (by omega)) (by omega) (by omega)).tr r9 (by omega) (by omega)) a9 (by omega) (by show z2 + 1 + p0 ≤ z0 + (g (p + 1)).2.1; omega)
              · refine g_iload_2 h dX4_testAt_19 ?_
                refine g_if_eq h 133 dX4_testAt_20 rfl (fun _ => ?_) (fun c => absurd c (by decide))
                refine ex_testAt (w := true) rfl hP a2 (fun q => by omega) (fun q => Bool.noConfusion q) (fun q I9 r9 a9 s9 => ?_) h
                exact h0 rfl I9 (z2 + 1) ((hr.tr (r0.tr rr (by omega) (by omega)) (by omega) (by omega)).tr r9 (by omega) (by omega)) a9 (by omega) (by show z2 + 1 + p0 ≤ z0 + (g (p + 1)).2.1; omega)
        refine g_iload_4 h dX4_testAt_11 ?_
        refine g_sipush h dX4_testAt_13 (v := nI 400) rfl ?_
        refine g_icmp_ge h 133 dX4_testAt_16 rfl (fun c => absurd c (nI_ge (by omega) (by decide))) (fun _ => ?_)
        refine g_iload_2 h dX4_testAt_19 ?_
        refine g_if_eq h 133 dX4_testAt_20 rfl (fun c => absurd c (by decide)) (fun _ => ?_)
        refine g_aload_0 h dX4_testAt_23 ?_
        refine g_getI h fl_X4_17 dX4_testAt_24 rfl rfl ?_
        refine g_bipush h dX4_testAt_27 (v := nI 24) rfl ?_
        refine g_icmp_eq h 41 dX4_testAt_29 rfl (fun c => absurd (show nI 25 = nI 24 by rw [← ha1]; exact c) (by decide)) (fun _ => ?_)
        refine g_aload_0 h dX4_testAt_32 ?_
        refine g_getI h fl_X4_17 dX4_testAt_33 rfl rfl ?_
        refine g_bipush h dX4_testAt_36 (v := nI 25) rfl ?_
        refine g_icmp_ne h 133 dX4_testAt_38 rfl (fun c => absurd ha1 c) (fun _ => ?_)
        refine g_aload_0 h dX4_testAt_41 ?_
        refine g_getI h fl_X4_17 dX4_testAt_42 rfl rfl ?_
        refine g_istore_5 h dX4_testAt_45 (by decide) rfl ?_
        rw [ha1]
        refine g_iload_5 h dX4_testAt_47 ?_
        refine g_bipush h dX4_testAt_49 (v := nI 25) rfl ?_
        refine g_icmp_ne h 69 dX4_testAt_51 rfl (fun c => absurd rfl c) (fun _ => ?_)
        refine g_iload_3 h dX4_testAt_54 ?_
        refine g_if_eq h 69 dX4_testAt_55 rfl (fun c55 => ?_) (fun c55 => ?_)
        · refine g_iload_3 h dX4_testAt_69 ?_
          refine g_if_ne h 80 dX4_testAt_70 rfl (fun c70 => ?_) (fun c70 => ?_)
          · refine g_iconst h dX4_testAt_80 (v := nI 1) rfl ?_
            refine g_goto h 85 dX4_testAt_81 rfl ?_
            have w8 : w = false := b2i_0.mp c55
            exact key z I ha paR.rf (Nat.le_refl _) (by rw [if_neg (by rw [w8]; decide)] at hb; omega) (wt_48 hs (by rw [w8]; rfl))
          · refine g_iload_5 h dX4_testAt_73 ?_
            refine g_bipush h dX4_testAt_75 (v := nI 25) rfl ?_
            refine g_icmp_ne h 84 dX4_testAt_77 rfl (fun c => absurd rfl c) (fun _ => ?_)
            refine g_iconst h dX4_testAt_80 (v := nI 1) rfl ?_
            refine g_goto h 85 dX4_testAt_81 rfl ?_
            have w8 : w = false := b2i_0.mp c55
            exact key z I ha paR.rf (Nat.le_refl _) (by rw [if_neg (by rw [w8]; decide)] at hb; omega) (wt_48 hs (by rw [w8]; rfl))
        · have w8 : w = true := b2i_n0.mp c55
          refine g_aload_0 h dX4_testAt_58 ?_
          refine g_getP h fl_X4_28 dX4_testAt_59 rfl rfl (by assumption) ?_
          refine g_bipush h dX4_testAt_62 (v := nI 25) rfl ?_
          refine g_iconst h dX4_testAt_64 (v := nI 0) rfl ?_
          refine g_cVi2 h rok0 mi_X1_append dX4_testAt_65 ml_X4_61 rfl rfl rfl (Nat.le_of_ble_eq_true rfl) (Nat.le_of_ble_eq_true rfl) (sp_X1_append ha (by rw [if_pos w8] at hb; omega) (fun I3 r3 a3 s3 s4 => ?_))
          · refine g_pop h dX4_testAt_68 rfl ?_
            refine g_iload_3 h dX4_testAt_69 ?_
            refine g_if_ne h 80 dX4_testAt_70 rfl (fun c70 => ?_) (fun c70 => ?_)
            · refine g_iconst h dX4_testAt_80 (v := nI 1) rfl ?_
              refine g_goto h 85 dX4_testAt_81 rfl ?_
              exact key (z + 1) I3 a3 r3 (by omega) (by rw [if_pos w8] at hb; omega) (wt_jo (r3.sg hs (by omega)) (by rw [if_pos w8]; decide) (by rw [if_pos w8]; exact Or.inl (by decide)) (by rw [if_pos w8]; exact s3))
            · refine g_iload_5 h dX4_testAt_73 ?_
              refine g_bipush h dX4_testAt_75 (v := nI 25) rfl ?_
              refine g_icmp_ne h 84 dX4_testAt_77 rfl (fun c => absurd rfl c) (fun _ => ?_)
              refine g_iconst h dX4_testAt_80 (v := nI 1) rfl ?_
              refine g_goto h 85 dX4_testAt_81 rfl ?_
              exact key (z + 1) I3 a3 r3 (by omega) (by rw [if_pos w8] at hb; omega) (wt_jo (r3.sg hs (by omega)) (by rw [if_pos w8]; decide) (by rw [if_pos w8]; exact Or.inl (by decide)) (by rw [if_pos w8]; exact s3))
    · rw [if_neg hop] at h1 h0
      have EX : VG Γ 0 0 133 [some (.ref 8), some (.int dep), some (.int (nI 1)), some (.int (b2i w)), some (.int (nI n)), x5] [] I J P (Fnl Γ (Qi Q)) := by
        refine ex_testAt rfl hP ha (fun q => by rw [if_pos q] at hb; omega) (fun q => ?_) (fun q I9 r9 a9 s9 => ?_) h
        · exact h1 rfl I z hr ha (by omega) (by show z + p0 ≤ z0 + p; omega) (wt_48 hs (by rw [q]; rfl))
        · exact h1 rfl I9 (z + 1) (hr.tr r9 (by omega) (by omega)) a9 (by omega) (by rw [if_pos q] at hb; show z + 1 + p0 ≤ z0 + p; omega) (wt_jo (r9.sg hs (by omega)) (by rw [if_pos q]; decide) (by rw [if_pos q]; exact Or.inl (by decide)) (by rw [if_pos q]; exact s9))
      refine g_iload_4 h dX4_testAt_11 ?_
      refine g_sipush h dX4_testAt_13 (v := nI 400) rfl ?_
      refine g_icmp_ge h 133 dX4_testAt_16 rfl (fun c16 => ?_) (fun c16 => ?_)
      · exact EX
      · refine g_iload_2 h dX4_testAt_19 ?_
        refine g_if_eq h 133 dX4_testAt_20 rfl (fun c => absurd c (by decide)) (fun _ => ?_)
        refine g_aload_0 h dX4_testAt_23 ?_
        refine g_getI h fl_X4_17 dX4_testAt_24 rfl rfl ?_
        refine g_bipush h dX4_testAt_27 (v := nI 24) rfl ?_
        refine g_icmp_eq h 41 dX4_testAt_29 rfl (fun c29 => ?_) (fun c29 => ?_)
        · exact absurd ⟨by have := eqN (show nI (K p) = nI 24 by rw [← ha1]; exact c29) (by omega) (by decide); omega, by have := eqN (show nI (K p) = nI 24 by rw [← ha1]; exact c29) (by omega) (by decide); omega⟩ hop
        · refine g_aload_0 h dX4_testAt_32 ?_
          refine g_getI h fl_X4_17 dX4_testAt_33 rfl rfl ?_
          refine g_bipush h dX4_testAt_36 (v := nI 25) rfl ?_
          refine g_icmp_ne h 133 dX4_testAt_38 rfl (fun c38 => ?_) (fun c38 => ?_)
          · exact EX
          · exact absurd ⟨by have := eqN (show nI (K p) = nI 25 by rw [← ha1]; first | exact c38 | exact Classical.not_not.mp c38) (by omega) (by decide); omega, by have := eqN (show nI (K p) = nI 25 by rw [← ha1]; first | exact c38 | exact Classical.not_not.mp c38) (by omega) (by decide); omega⟩ hop
set_option maxRecDepth 100000 in
set_option maxHeartbeats 8000000 in
theorem cs_testAt {K : Nat → Nat} {V m : Nat → Int32} {M D : Nat} {dep : Int32} {g : Nat → PRs} (hgB : gB M g) (hV : cP K V m M yX4_singleAt cX4_singleAt 3 D dep g) : cP K V m M yX4_testAt cX4_testAt 6 (D + 1) dep (opS K 24 25 clT g) := by
  intro p z I J P hK hP ha hp hz Q h1 h0 Γ h
  obtain ⟨b1, b2, b3⟩ := hgB p hp
  unfold opS at h1 h0
  show VG Γ 0 0 0 [some (.ref 8), some (.int dep), none, none, none, none] [] _ _ _ _
  refine g_aload_0 h dX4_testAt_0 ?_
  refine g_iload_1 h dX4_testAt_1 ?_
  refine g_cVi1 h rok0 mi_X4_singleAt dX4_testAt_2 ml_X4_58 rfl rfl rfl (Nat.le_of_ble_eq_true rfl) (Nat.le_of_ble_eq_true rfl) (hV p z I J P hK hP ha hp hz _ (fun e2 I2 z2 r2 a2 l1 l2 s2 => ?_) (fun e2 I2 z2 r2 a2 l1 l2 => ?_))
  · have b4 := b3 e2
    rw [if_pos e2] at h1 h0
    refine g_istore_2 h dX4_testAt_5 (by decide) rfl ?_
    refine g_iconst h dX4_testAt_6 (v := nI 0) rfl ?_
    refine g_istore_3 h dX4_testAt_7 (by decide) rfl ?_
    refine g_iconst h dX4_testAt_8 (v := nI 0) rfl ?_
    refine g_istore_4 h dX4_testAt_9 (by decide) rfl ?_
    exact lp_testAt hgB hz hP hV h 401 (g p).2.1 z2 0 false zE (g p).2.2 I2 _ (by omega) (by omega) b2 (r2.ps hK) a2 r2 (by omega) (by rw [if_neg (by decide)]; omega) (wt_0 s2) h1 h0
  · rw [if_neg (by rw [e2]; decide)] at h1 h0
    refine g_istore_2 h dX4_testAt_5 (by decide) rfl ?_
    refine g_iconst h dX4_testAt_6 (v := nI 0) rfl ?_
    refine g_istore_3 h dX4_testAt_7 (by decide) rfl ?_
    refine g_iconst h dX4_testAt_8 (v := nI 0) rfl ?_
    refine g_istore_4 h dX4_testAt_9 (by decide) rfl ?_
    refine g_iload_4 h dX4_testAt_11 ?_
    refine g_sipush h dX4_testAt_13 (v := nI 400) rfl ?_
    refine g_icmp_ge h 133 dX4_testAt_16 rfl (fun c16 => ?_) (fun c16 => ?_)
    · exact ex_testAt (w := false) rfl hP a2 (fun q => Bool.noConfusion q) (fun q => h0 rfl I2 z2 r2 a2 l1 (by show z2 + p ≤ z + (g p).2.1; omega)) (fun q => Bool.noConfusion q) h
    · refine g_iload_2 h dX4_testAt_19 ?_
      refine g_if_eq h 133 dX4_testAt_20 rfl (fun _ => ?_) (fun c => absurd c (by decide))
      exact ex_testAt (w := false) rfl hP a2 (fun q => Bool.noConfusion q) (fun q => h0 rfl I2 z2 r2 a2 l1 (by show z2 + p ≤ z + (g p).2.1; omega)) (fun q => Bool.noConfusion q) h
