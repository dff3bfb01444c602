/-! The class's tokens -/
theorem lc_X8_48 : Cond.constantLong RX8 48 37 ∈ bigW := bw_in (tb_3 (List.mem_of_getElem? (i := 129) rfl)) rfl
theorem lc_X8_83 : Cond.constantLong RX8 83 10 ∈ bigW := bw_in (tb_5 (List.mem_of_getElem? (i := 164) rfl)) rfl
theorem lc_X8_85 : Cond.constantLong RX8 85 48 ∈ bigW := bw_in (tb_5 (List.mem_of_getElem? (i := 165) rfl)) rfl
theorem lc_X10_255 : Cond.constantLong RX10 255 877 ∈ bigW := bw_in (tb_2 (List.mem_of_getElem? (i := 134) rfl)) rfl
theorem lc_X10_257 : Cond.constantLong RX10 257 31 ∈ bigW := bw_in (tb_2 (List.mem_of_getElem? (i := 135) rfl)) rfl
theorem l_sub {a b : Nat} (h : b ≤ a) : lN a - lN b = lN (a - b) := by
  have e := l_add (a - b) b
  rw [Nat.sub_add_cancel h] at e
  rw [← e, Int64.add_sub_cancel]
theorem i2c_n {c : Nat} (h : c < 65536) : ((nI c).toUInt32 % 65536).toInt32 = nI c := by
  rw [pk_char, pk_tn (by omega), Nat.mod_eq_of_lt h]
theorem sgT_in {T : Nat → Nat} {L p : Nat} (h : p < L) : sgT T L p = nI (T p) := if_pos h
theorem sgT_61 {T : Nat → Nat} {L p : Nat} (h : p < L → T p < 256) : sgT T L p = nI 61 ↔ p < L ∧ T p = 61 := by
  unfold sgT
  by_cases hl : p < L
  · have := h hl
    rw [if_pos hl]
    exact ⟨fun q => ⟨hl, eqN q (by omega) (by decide)⟩, fun q => by rw [q.2]⟩
  · rw [if_neg hl]
    exact ⟨fun q => absurd q (by decide), fun q => absurd q.1 hl⟩
theorem sgT_neg {T : Nat → Nat} {L p : Nat} (h : p < L → T p < 256) : sgT T L p < 0 ↔ ¬ p < L := by
  unfold sgT
  by_cases hl : p < L
  · have := h hl
    rw [if_pos hl]
    exact ⟨fun q => absurd q (nI_pos (by omega)), fun q => absurd hl q⟩
  · rw [if_neg hl]
    exact ⟨fun _ => hl, fun _ => by decide⟩
set_option maxRecDepth 100000 in
set_option maxHeartbeats 8000000 in
theorem lp_kindOfWord1 {Γ : Cx} {T : Nat → Nat} {L : Nat} {d p e : Nat} {I : MI} {J : MJ} {P : MP} (hT : tpO T L I) {Φ : State → Prop} {x5 : Option Value} (h : Vc RX8 cX8_kindOfWord 6 (some .int) (d + 2) Γ) (k : ∀ (J1 : MJ) (x4 : Int32), tkG J J1 → J1 3 5 = lN (cdW T (e - p) p 0) → p ≤ e → e ≤ L → VG Γ 0 0 66 [some (.ref 3), some (.ref 1), some (.int (nI p)), some (.int (nI (e - p))), some (.int x4), x5] [] I J1 P Φ) : ∀ (f n : Nat) (J1 : MJ), n + f = 2000 → p + n ≤ L → wdE T L f (p + n) = e → tkG J J1 → J1 3 5 = lN (cdW T n p 0) → VG Γ 0 0 9 [some (.ref 3), some (.ref 1), some (.int (nI p)), some (.int (nI n)), some (.int (sgT T L (p + n))), x5] [] I J1 P Φ := by
  obtain ⟨t1, t2, t3⟩ := id hT
  intro f
  induction f with
  | zero =>
    intro n J1 hn hl he hj hc
    obtain rfl : n = 2000 := by omega
    refine g_iload_3 h dX8_kindOfWord_9 ?_
    refine g_sipush h dX8_kindOfWord_10 (v := nI 2000) rfl ?_
    refine g_icmp_ge h 66 dX8_kindOfWord_13 rfl (fun _ => ?_) (fun c => absurd (nI_le (Nat.le_refl 2000) (by decide)) c)
    have e1 : p + 2000 = e := he
    have kk := k J1 (sgT T L (p + 2000)) hj (by rw [show e - p = 2000 by omega]; exact hc) (by omega) (by omega)
    rw [show e - p = 2000 by omega] at kk
    exact kk
  | succ f ih =>
    intro n J1 hn hl he hj hc
    have t4 : p + n < L → T (p + n) < 256 := fun q => (t3 _ q).2
    rw [wdE] at he
    refine g_iload_3 h dX8_kindOfWord_9 ?_
    refine g_sipush h dX8_kindOfWord_10 (v := nI 2000) rfl ?_
    refine g_icmp_ge h 66 dX8_kindOfWord_13 rfl (fun c => absurd c (nI_ge (by omega) (by decide))) (fun _ => ?_)
    refine g_iload_4 h dX8_kindOfWord_16 ?_
    refine g_cSi1 h rok0 mi_X8_isLetter dX8_kindOfWord_18 ml_X8_66 (Nat.le_of_ble_eq_true rfl) (Nat.le_of_ble_eq_true rfl) (sp_X8_isLetter ?_)
    refine g_if_ne h 32 dX8_kindOfWord_21 rfl (fun c21 => ?_) (fun c21 => ?_)
    · have hw : (ltB T L (p + n) || dgB T L (p + n)) = true := by
        first
          | (have q := b2i_n0.mp c21; rw [isLx_s t4] at q; rw [q]; rfl)
          | (have q := b2i_n0.mp c29; rw [isDx_s t4] at q; rw [q, Bool.or_true])
      rw [if_pos hw] at he
      have hlt : p + n < L := by
        rcases Bool.or_eq_true_iff.mp hw with q | q
        · exact (ltB_lt q).1
        · exact (dgB_lt q).1
      have w1 : 48 ≤ T (p + n) := by
        rcases Bool.or_eq_true_iff.mp hw with q | q
        · have := ltB_lt q; omega
        · exact (dgB_lt q).2.1
      have w2 : T (p + n) ≤ 122 := by
        rcases Bool.or_eq_true_iff.mp hw with q | q
        · exact (ltB_lt q).2.2
        · have := dgB_lt q; omega
      rw [sgT_in hlt]
      refine g_aload_0 h dX8_kindOfWord_32 ?_
      refine g_aload_0 h dX8_kindOfWord_33 ?_
      refine g_getJ h fl_X8_29 dX8_kindOfWord_34 rfl rfl ?_
      refine g_ldc2 h dX8_kindOfWord_37 lc_X8_48 ?_
      refine g_lmul h dX8_kindOfWord_40 ?_
      refine g_iload_4 h dX8_kindOfWord_41 ?_
      refine g_cSi1 h rok0 mi_X8_numberOfSign dX8_kindOfWord_43 ml_X8_50 (Nat.le_of_ble_eq_true rfl) (Nat.le_of_ble_eq_true rfl) (sp_X8_numberOfSign w1 w2 ?_)
      refine g_i2l h dX8_kindOfWord_46 ?_
      refine g_ladd h dX8_kindOfWord_47 ?_
      refine g_putJ h fp_X8_29 dX8_kindOfWord_48 rfl rfl ?_
      refine g_iinc_3 h dX8_kindOfWord_51 (inc1 _) (by decide) rfl ?_
      refine g_aload_1 h dX8_kindOfWord_54 ?_
      refine g_iload_2 h dX8_kindOfWord_55 ?_
      refine g_iload_3 h dX8_kindOfWord_56 ?_
      refine g_iadd h dX8_kindOfWord_57 ?_
      rw [nI_add]
      refine g_cVi1 h rok0 mi_X6_signAt dX8_kindOfWord_58 ml_X8_63 rfl rfl rfl (Nat.le_of_ble_eq_true rfl) (Nat.le_of_ble_eq_true rfl) (sp_X6_signAt (by omega) hT ?_)
      refine g_istore_4 h dX8_kindOfWord_61 (by decide) rfl ?_
      refine g_goto h 9 dX8_kindOfWord_63 rfl ?_
      refine ih (n + 1) _ (by omega) (by omega) (by rw [show p + (n + 1) = p + n + 1 by omega]; exact he) hj.up ?_
      have s1 : sgN (T (p + n)) < 2 ^ 31 := by have := (sgN_run hw).1; omega
      rw [up2_s, hc, nI_l s1, show (37 : Int64) = lN 37 from rfl, l_mul, l_add, cdW_s]
    · refine g_iload_4 h dX8_kindOfWord_24 ?_
      refine g_cSi1 h rok0 mi_X8_isDigit dX8_kindOfWord_26 ml_X8_73 (Nat.le_of_ble_eq_true rfl) (Nat.le_of_ble_eq_true rfl) (sp_X8_isDigit ?_)
      refine g_if_eq h 66 dX8_kindOfWord_29 rfl (fun c29 => ?_) (fun c29 => ?_)
      · have q1 := b2i_0.mp c21
        have q2 := b2i_0.mp c29
        rw [isLx_s t4] at q1
        rw [isDx_s t4] at q2
        rw [if_neg (by rw [q1, q2]; decide)] at he
        have kk := k J1 (sgT T L (p + n)) hj (by rw [show e - p = n by omega]; exact hc) (by omega) (by omega)
        rw [show e - p = n by omega] at kk
        exact kk
      · have hw : (ltB T L (p + n) || dgB T L (p + n)) = true := by
          first
            | (have q := b2i_n0.mp c21; rw [isLx_s t4] at q; rw [q]; rfl)
            | (have q := b2i_n0.mp c29; rw [isDx_s t4] at q; rw [q, Bool.or_true])
        rw [if_pos hw] at he
        have hlt : p + n < L := by
          rcases Bool.or_eq_true_iff.mp hw with q | q
          · exact (ltB_lt q).1
          · exact (dgB_lt q).1
        have w1 : 48 ≤ T (p + n) := by
          rcases Bool.or_eq_true_iff.mp hw with q | q
          · have := ltB_lt q; omega
          · exact (dgB_lt q).2.1
        have w2 : T (p + n) ≤ 122 := by
          rcases Bool.or_eq_true_iff.mp hw with q | q
          · exact (ltB_lt q).2.2
          · have := dgB_lt q; omega
        rw [sgT_in hlt]
        refine g_aload_0 h dX8_kindOfWord_32 ?_
        refine g_aload_0 h dX8_kindOfWord_33 ?_
        refine g_getJ h fl_X8_29 dX8_kindOfWord_34 rfl rfl ?_
        refine g_ldc2 h dX8_kindOfWord_37 lc_X8_48 ?_
        refine g_lmul h dX8_kindOfWord_40 ?_
        refine g_iload_4 h dX8_kindOfWord_41 ?_
        refine g_cSi1 h rok0 mi_X8_numberOfSign dX8_kindOfWord_43 ml_X8_50 (Nat.le_of_ble_eq_true rfl) (Nat.le_of_ble_eq_true rfl) (sp_X8_numberOfSign w1 w2 ?_)
        refine g_i2l h dX8_kindOfWord_46 ?_
        refine g_ladd h dX8_kindOfWord_47 ?_
        refine g_putJ h fp_X8_29 dX8_kindOfWord_48 rfl rfl ?_
        refine g_iinc_3 h dX8_kindOfWord_51 (inc1 _) (by decide) rfl ?_
        refine g_aload_1 h dX8_kindOfWord_54 ?_
        refine g_iload_2 h dX8_kindOfWord_55 ?_
        refine g_iload_3 h dX8_kindOfWord_56 ?_
        refine g_iadd h dX8_kindOfWord_57 ?_
        rw [nI_add]
        refine g_cVi1 h rok0 mi_X6_signAt dX8_kindOfWord_58 ml_X8_63 rfl rfl rfl (Nat.le_of_ble_eq_true rfl) (Nat.le_of_ble_eq_true rfl) (sp_X6_signAt (by omega) hT ?_)
        refine g_istore_4 h dX8_kindOfWord_61 (by decide) rfl ?_
        refine g_goto h 9 dX8_kindOfWord_63 rfl ?_
        refine ih (n + 1) _ (by omega) (by omega) (by rw [show p + (n + 1) = p + n + 1 by omega]; exact he) hj.up ?_
        have s1 : sgN (T (p + n)) < 2 ^ 31 := by have := (sgN_run hw).1; omega
        rw [up2_s, hc, nI_l s1, show (37 : Int64) = lN 37 from rfl, l_mul, l_add, cdW_s]
set_option maxRecDepth 100000 in
set_option maxHeartbeats 8000000 in
theorem lp_kindOfWord2 {Γ : Cx} {d n p c : Nat} (hc : c < 2 ^ 63) {I : MI} {J : MJ} {P : MP} (hkw : kwO J) (hf : J 3 5 = lN c) {x4 : Int32} {Q : Int32 → MI → MJ → MP → Prop} (h : Vc RX8 cX8_kindOfWord 6 (some .int) (d) Γ) : ∀ (f i : Nat), i + f = 28 → Q (nI (kwI c f i)) I J P → VG Γ 0 0 85 [some (.ref 3), some (.ref 1), some (.int (nI p)), some (.int (nI n)), some (.int x4), some (.int (nI i))] [] I J P (Fnl Γ (Qi Q)) := by
  intro f
  induction f with
  | zero =>
    intro i hi hQ
    obtain rfl : i = 28 := by omega
    refine g_iload_5 h dX8_kindOfWord_85 ?_
    refine g_aload_0 h dX8_kindOfWord_87 ?_
    refine g_getC h fl_X8_22 dX8_kindOfWord_88 rfl rfl ?_
    refine g_alen h dX8_kindOfWord_91 rfl (by decide) ?_
    refine g_icmp_ge h 119 dX8_kindOfWord_92 rfl (fun _ => ?_) (fun c => absurd (nI_le (Nat.le_refl 28) (by decide)) c)
    refine g_bipush h dX8_kindOfWord_119 (v := nI 28) rfl ?_
    refine g_iret h dX8_kindOfWord_121 ?_
    exact hQ
  | succ f ih =>
    intro i hi hQ
    rw [kwI] at hQ
    refine g_iload_5 h dX8_kindOfWord_85 ?_
    refine g_aload_0 h dX8_kindOfWord_87 ?_
    refine g_getC h fl_X8_22 dX8_kindOfWord_88 rfl rfl ?_
    refine g_alen h dX8_kindOfWord_91 rfl (by decide) ?_
    refine g_icmp_ge h 119 dX8_kindOfWord_92 rfl (fun c => absurd c (nI_ge (by omega) (by decide))) (fun _ => ?_)
    refine g_aload_0 h dX8_kindOfWord_95 ?_
    refine g_getC h fl_X8_22 dX8_kindOfWord_96 rfl rfl ?_
    refine g_iload_5 h dX8_kindOfWord_99 ?_
    refine g_lald h i dX8_kindOfWord_101 rfl rfl (by omega) ?_
    refine g_aload_0 h dX8_kindOfWord_102 ?_
    refine g_getJ h fl_X8_29 dX8_kindOfWord_103 rfl rfl ?_
    refine g_lcmp h dX8_kindOfWord_106 ?_
    refine g_if_ne h 113 dX8_kindOfWord_107 rfl (fun c107 => ?_) (fun c107 => ?_)
    · refine g_iinc_5 h dX8_kindOfWord_113 (inc1 _) (by decide) rfl ?_
      refine g_goto h 85 dX8_kindOfWord_116 rfl ?_
      rw [if_neg (fun q => c107 (cmp_eq.mpr (by rw [hkw i (by omega), hf, q])))] at hQ
      exact ih (i + 1) (by omega) hQ
    · refine g_iload_5 h dX8_kindOfWord_110 ?_
      refine g_iret h dX8_kindOfWord_112 ?_
      have q : kwC i = c := lN_inj (kwC_lt i (by omega)) hc (by rw [← hkw i (by omega), ← hf]; exact cmp_eq.mp (by first | exact c107 | exact Classical.not_not.mp c107))
      rw [if_pos q] at hQ
      exact hQ
set_option maxRecDepth 100000 in
set_option maxHeartbeats 8000000 in
theorem sp_X8_kindOfWord {T : Nat → Nat} {L : Nat} {d p : Nat} (hp : p ≤ L) {I : MI} {J : MJ} {P : MP} (hT : tpO T L I) (hkw : kwO J) (hf : J 3 5 = lN 0) {Q : Int32 → MI → MJ → MP → Prop} (hQ : ∀ I' J', tkF I I' → tkG J J' → I' 3 6 = nI (wdE T L 2000 p) → J' 3 5 = lN (cdW T (wdE T L 2000 p - p) p 0) → Q (nI (if 10 < wdE T L 2000 p - p then 46 else kwI (cdW T (wdE T L 2000 p - p) p 0) 28 0)) I' J' P) : Sp yX8_kindOfWord cX8_kindOfWord 6 (some .int) (d + 2) [.ref 3, .ref 1, .int (nI p)] I J P (Qi Q) := by
  obtain ⟨t1, t2, t3⟩ := id hT
  intro Γ h
  show VG Γ 0 0 0 [some (.ref 3), some (.ref 1), some (.int (nI p)), none, none, none] [] _ _ _ _
  refine g_iconst h dX8_kindOfWord_0 (v := nI 0) rfl ?_
  refine g_istore_3 h dX8_kindOfWord_1 (by decide) rfl ?_
  refine g_aload_1 h dX8_kindOfWord_2 ?_
  refine g_iload_2 h dX8_kindOfWord_3 ?_
  refine g_cVi1 h rok0 mi_X6_signAt dX8_kindOfWord_4 ml_X8_63 rfl rfl rfl (Nat.le_of_ble_eq_true rfl) (Nat.le_of_ble_eq_true rfl) (sp_X6_signAt (by omega) hT ?_)
  refine g_istore_4 h dX8_kindOfWord_7 (by decide) rfl ?_
  refine lp_kindOfWord1 (e := wdE T L 2000 p) hT h (fun J1 x4 hj hc he hl => ?_) 2000 0 J rfl hp rfl tkG.rf hf
  have hkw1 : kwO J1 := fun i hi => (hj 7 i (Or.inl (by decide))).trans (hkw i hi)
  refine g_aload_0 h dX8_kindOfWord_66 ?_
  refine g_iload_2 h dX8_kindOfWord_67 ?_
  refine g_iload_3 h dX8_kindOfWord_68 ?_
  refine g_iadd h dX8_kindOfWord_69 ?_
  rw [nI_add, Nat.add_sub_cancel' he]
  refine g_putI h fp_X8_33 dX8_kindOfWord_70 rfl rfl ?_
  refine g_iload_3 h dX8_kindOfWord_73 ?_
  refine g_bipush h dX8_kindOfWord_74 (v := nI 10) rfl ?_
  refine g_icmp_le h 82 dX8_kindOfWord_76 rfl (fun c76 => ?_) (fun c76 => ?_)
  · refine g_iconst h dX8_kindOfWord_82 (v := nI 0) rfl ?_
    refine g_istore_5 h dX8_kindOfWord_83 (by decide) rfl ?_
    have q : ¬ 10 < wdE T L 2000 p - p := fun q => absurd c76 (nI_ge q (by omega))
    have hb : cdW T (wdE T L 2000 p - p) p 0 < 2 ^ 63 := by
      have h1 := cdW_lt T (wdE T L 2000 p - p) p (fun j hj => (sgN_run (wd_run (T := T) (L := L) 2000 p (p + j) (by omega) (by omega))).1)
      have h2 : 37 ^ (wdE T L 2000 p - p) ≤ 37 ^ 10 := Nat.pow_le_pow_right (by decide) (by omega)
      exact Nat.lt_of_lt_of_le h1 (Nat.le_trans h2 (by decide))
    refine lp_kindOfWord2 hb hkw1 hc h 28 0 rfl ?_
    have := hQ (up2 I 3 6 (nI (wdE T L 2000 p))) J1 tkF.rf.up hj up2_s hc
    rw [if_neg q] at this
    exact this
  · refine g_bipush h dX8_kindOfWord_79 (v := nI 46) rfl ?_
    refine g_iret h dX8_kindOfWord_81 ?_
    have q : 10 < wdE T L 2000 p - p := Nat.lt_of_not_le (fun q => c76 (nI_le q (by decide)))
    exact q_i (by rw [if_pos q]) (hQ _ J1 tkF.rf.up hj up2_s hc)
set_option maxRecDepth 100000 in
set_option maxHeartbeats 8000000 in
theorem lp_kindOfNumber {Γ : Cx} {T : Nat → Nat} {L : Nat} {d p e : Nat} {I : MI} {J : MJ} {P : MP} (hT : tpO T L I) {Φ : State → Prop} (h : Vc RX8 cX8_kindOfNumber 5 (some .int) (d + 1) Γ) (k : ∀ (J1 : MJ) (x4 : Option Value), tkG J J1 → J1 3 5 = lN (cdN T (e - p) p 0) → p ≤ e → e ≤ L → VG Γ 0 0 59 [some (.ref 3), some (.ref 1), some (.int (nI p)), some (.int (nI (e - p))), x4] [] I J1 P Φ) : ∀ (f n : Nat) (J1 : MJ), n + f = 2000 → p + n ≤ L → nuE T L f (p + n) = e → tkG J J1 → J1 3 5 = lN (cdN T n p 0) → VG Γ 0 0 9 [some (.ref 3), some (.ref 1), some (.int (nI p)), some (.int (nI n)), some (.int (sgT T L (p + n)))] [] I J1 P Φ := by
  obtain ⟨t1, t2, t3⟩ := id hT
  intro f
  induction f with
  | zero =>
    intro n J1 hn hl he hj hc
    obtain rfl : n = 2000 := by omega
    refine g_iload_3 h dX8_kindOfNumber_9 ?_
    refine g_sipush h dX8_kindOfNumber_10 (v := nI 2000) rfl ?_
    refine g_icmp_ge h 59 dX8_kindOfNumber_13 rfl (fun _ => ?_) (fun c => absurd (nI_le (Nat.le_refl 2000) (by decide)) c)
    have e1 : p + 2000 = e := he
    have kk := k J1 (some (.int (sgT T L (p + 2000)))) hj (by rw [show e - p = 2000 by omega]; exact hc) (by omega) (by omega)
    rw [show e - p = 2000 by omega] at kk
    exact kk
  | succ f ih =>
    intro n J1 hn hl he hj hc
    have t4 : p + n < L → T (p + n) < 256 := fun q => (t3 _ q).2
    rw [nuE] at he
    refine g_iload_3 h dX8_kindOfNumber_9 ?_
    refine g_sipush h dX8_kindOfNumber_10 (v := nI 2000) rfl ?_
    refine g_icmp_ge h 59 dX8_kindOfNumber_13 rfl (fun c => absurd c (nI_ge (by omega) (by decide))) (fun _ => ?_)
    refine g_iload_4 h dX8_kindOfNumber_16 ?_
    refine g_cSi1 h rok0 mi_X8_isDigit dX8_kindOfNumber_18 ml_X8_73 (Nat.le_of_ble_eq_true rfl) (Nat.le_of_ble_eq_true rfl) (sp_X8_isDigit ?_)
    refine g_if_eq h 59 dX8_kindOfNumber_21 rfl (fun c21 => ?_) (fun c21 => ?_)
    · have q2 := b2i_0.mp c21
      rw [isDx_s t4] at q2
      rw [if_neg (by rw [q2]; decide)] at he
      have kk := k J1 (some (.int (sgT T L (p + n)))) hj (by rw [show e - p = n by omega]; exact hc) (by omega) (by omega)
      rw [show e - p = n by omega] at kk
      exact kk
    · have hw : dgB T L (p + n) = true := by have q := b2i_n0.mp c21; rw [isDx_s t4] at q; exact q
      rw [if_pos hw] at he
      have w1 := dgB_lt hw
      have hlt := w1.1
      rw [sgT_in hlt]
      refine g_aload_0 h dX8_kindOfNumber_24 ?_
      refine g_aload_0 h dX8_kindOfNumber_25 ?_
      refine g_getJ h fl_X8_29 dX8_kindOfNumber_26 rfl rfl ?_
      refine g_ldc2 h dX8_kindOfNumber_29 lc_X8_83 ?_
      refine g_lmul h dX8_kindOfNumber_32 ?_
      refine g_iload_4 h dX8_kindOfNumber_33 ?_
      refine g_i2l h dX8_kindOfNumber_35 ?_
      refine g_ladd h dX8_kindOfNumber_36 ?_
      refine g_ldc2 h dX8_kindOfNumber_37 lc_X8_85 ?_
      refine g_lsub h dX8_kindOfNumber_40 ?_
      refine g_putJ h fp_X8_29 dX8_kindOfNumber_41 rfl rfl ?_
      refine g_iinc_3 h dX8_kindOfNumber_44 (inc1 _) (by decide) rfl ?_
      refine g_aload_1 h dX8_kindOfNumber_47 ?_
      refine g_iload_2 h dX8_kindOfNumber_48 ?_
      refine g_iload_3 h dX8_kindOfNumber_49 ?_
      refine g_iadd h dX8_kindOfNumber_50 ?_
      rw [nI_add]
      refine g_cVi1 h rok0 mi_X6_signAt dX8_kindOfNumber_51 ml_X8_63 rfl rfl rfl (Nat.le_of_ble_eq_true rfl) (Nat.le_of_ble_eq_true rfl) (sp_X6_signAt (by omega) hT ?_)
      refine g_istore_4 h dX8_kindOfNumber_54 (by decide) rfl ?_
      refine g_goto h 9 dX8_kindOfNumber_56 rfl ?_
      refine ih (n + 1) _ (by omega) (by omega) (by rw [show p + (n + 1) = p + n + 1 by omega]; exact he) hj.up ?_
      rw [up2_s, hc, nI_l (by omega), show (10 : Int64) = lN 10 from rfl, show (48 : Int64) = lN 48 from rfl, l_mul, l_add, l_sub (by omega), cdN_s, Nat.add_sub_assoc w1.2.1]
set_option maxRecDepth 100000 in
set_option maxHeartbeats 8000000 in
theorem sp_X8_kindOfNumber {T : Nat → Nat} {L : Nat} {d p : Nat} (hp : p ≤ L) {I : MI} {J : MJ} {P : MP} (hT : tpO T L I) (hf : J 3 5 = lN 0) {Q : Int32 → MI → MJ → MP → Prop} (hQ : ∀ I' J', tkF I I' → tkG J J' → I' 3 6 = nI (nuE T L 2000 p) → J' 3 5 = lN (cdN T (nuE T L 2000 p - p) p 0) → Q (nI (if 6 < nuE T L 2000 p - p then 46 else 29)) I' J' P) : Sp yX8_kindOfNumber cX8_kindOfNumber 5 (some .int) (d + 1) [.ref 3, .ref 1, .int (nI p)] I J P (Qi Q) := by
  obtain ⟨t1, t2, t3⟩ := id hT
  intro Γ h
  show VG Γ 0 0 0 [some (.ref 3), some (.ref 1), some (.int (nI p)), none, none] [] _ _ _ _
  refine g_iconst h dX8_kindOfNumber_0 (v := nI 0) rfl ?_
  refine g_istore_3 h dX8_kindOfNumber_1 (by decide) rfl ?_
  refine g_aload_1 h dX8_kindOfNumber_2 ?_
  refine g_iload_2 h dX8_kindOfNumber_3 ?_
  refine g_cVi1 h rok0 mi_X6_signAt dX8_kindOfNumber_4 ml_X8_63 rfl rfl rfl (Nat.le_of_ble_eq_true rfl) (Nat.le_of_ble_eq_true rfl) (sp_X6_signAt (by omega) hT ?_)
  refine g_istore_4 h dX8_kindOfNumber_7 (by decide) rfl ?_
  refine lp_kindOfNumber (e := nuE T L 2000 p) hT h (fun J1 x4 hj hc he hl => ?_) 2000 0 J rfl hp rfl tkG.rf hf
  refine g_aload_0 h dX8_kindOfNumber_59 ?_
  refine g_iload_2 h dX8_kindOfNumber_60 ?_
  refine g_iload_3 h dX8_kindOfNumber_61 ?_
  refine g_iadd h dX8_kindOfNumber_62 ?_
  rw [nI_add, Nat.add_sub_cancel' he]
  refine g_putI h fp_X8_33 dX8_kindOfNumber_63 rfl rfl ?_
  refine g_iload_3 h dX8_kindOfNumber_66 ?_
  refine g_bipush h dX8_kindOfNumber_67 (v := nI 6) rfl ?_
  refine g_icmp_le h 77 dX8_kindOfNumber_69 rfl (fun c69 => ?_) (fun c69 => ?_)
  · refine g_bipush h dX8_kindOfNumber_77 (v := nI 29) rfl ?_
    refine g_iret h dX8_kindOfNumber_79 ?_
    first
      | (have q : ¬ 6 < nuE T L 2000 p - p := fun q => absurd c69 (nI_ge q (by omega))
         have hq := hQ _ J1 tkF.rf.up hj up2_s hc
         rw [if_neg q] at hq
         exact hq)
      | (have q : 6 < nuE T L 2000 p - p := Nat.lt_of_not_le (fun q => c69 (nI_le q (by decide)))
         have hq := hQ _ J1 tkF.rf.up hj up2_s hc
         rw [if_pos q] at hq
         exact hq)
  · refine g_bipush h dX8_kindOfNumber_72 (v := nI 46) rfl ?_
    refine g_goto h 79 dX8_kindOfNumber_74 rfl ?_
    refine g_iret h dX8_kindOfNumber_79 ?_
    first
      | (have q : ¬ 6 < nuE T L 2000 p - p := fun q => absurd c69 (nI_ge q (by omega))
         have hq := hQ _ J1 tkF.rf.up hj up2_s hc
         rw [if_neg q] at hq
         exact hq)
      | (have q : 6 < nuE T L 2000 p - p := Nat.lt_of_not_le (fun q => c69 (nI_le q (by decide)))
         have hq := hQ _ J1 tkF.rf.up hj up2_s hc
         rw [if_pos q] at hq
         exact hq)
set_option maxRecDepth 100000 in
set_option maxHeartbeats 8000000 in
theorem sp_X8_kindOfSymbol {T : Nat → Nat} {L : Nat} {d p : Nat} (hp : p < L) {I : MI} {J : MJ} {P : MP} (hT : tpO T L I) {Q : Int32 → MI → MJ → MP → Prop} (hQ : ∀ I', tkF I I' → I' 3 6 = nI (if (T p = 60 ∨ T p = 62) ∧ p + 1 < L ∧ T (p + 1) = 61 then (if T p = 60 then 43 else 44, p + 2, 0) else (symK (T p), p + 1, 0) : TR).2.1 → Q (nI (if (T p = 60 ∨ T p = 62) ∧ p + 1 < L ∧ T (p + 1) = 61 then (if T p = 60 then 43 else 44, p + 2, 0) else (symK (T p), p + 1, 0) : TR).1) I' J P) : Sp yX8_kindOfSymbol cX8_kindOfSymbol 5 (some .int) (d + 4) [.ref 3, .ref 1, .int (nI p), .int (nI (T p))] I J P (Qi Q) := by
  obtain ⟨t1, t2, t3⟩ := id hT
  have t4 := (t3 p hp).2
  have t5 : p + 1 < L → T (p + 1) < 256 := fun q => (t3 _ q).2
  intro Γ h
  show VG Γ 0 0 0 [some (.ref 3), some (.ref 1), some (.int (nI p)), some (.int (nI (T p))), none] [] _ _ _ _
  have tail : ¬ ((T p = 60 ∨ T p = 62) ∧ p + 1 < L ∧ T (p + 1) = 61) → VG Γ 0 0 45 [some (.ref 3), some (.ref 1), some (.int (nI p)), some (.int (nI (T p))), none] [] I J P (Fnl Γ (Qi Q)) := by
    intro hno
    rw [if_neg hno] at hQ
    refine g_aload_0 h dX8_kindOfSymbol_45 ?_
    refine g_iload_2 h dX8_kindOfSymbol_46 ?_
    refine g_iconst h dX8_kindOfSymbol_47 (v := nI 1) rfl ?_
    refine g_iadd h dX8_kindOfSymbol_48 ?_
    refine g_putI h fp_X8_33 dX8_kindOfSymbol_49 rfl rfl ?_
    refine g_ldcY h dX8_kindOfSymbol_52 ?_
    refine g_iload_3 h dX8_kindOfSymbol_54 ?_
    refine g_i2c h dX8_kindOfSymbol_55 ?_
    rw [i2c_n (by omega)]
    refine g_cTi1 h rok0 mi_J0_indexOf_0f7a4 dX8_kindOfSymbol_56 ml_X8_89 29 (by decide) rfl rfl (Nat.le_of_ble_eq_true rfl) (Nat.le_of_ble_eq_true rfl) (sp_J0_indexOf t4 ?_)
    refine g_istore_4 h dX8_kindOfSymbol_59 (by decide) rfl ?_
    refine g_iload_4 h dX8_kindOfSymbol_61 ?_
    refine g_if_ge h 71 dX8_kindOfSymbol_63 rfl (fun c63 => ?_) (fun c63 => ?_)
    · refine g_bipush h dX8_kindOfSymbol_71 (v := nI 30) rfl ?_
      refine g_iload_4 h dX8_kindOfSymbol_73 ?_
      refine g_iadd h dX8_kindOfSymbol_75 ?_
      refine g_iret h dX8_kindOfSymbol_76 ?_
      have q2 := hQ (up2 I 3 6 (nI p + nI 1)) tkF.rf.up (by rw [up2_s]; exact nI_1 p)
      refine q_i ?_ q2
      show _ = nI (symK (T p))
      rw [← symK_ok _ t4]
      first
        | rw [if_pos (show syI (T p) < 0 from c63)]
        | rw [if_neg (Int32.not_lt.mpr c63)]
        | rw [if_pos (Int32.not_le.mp c63)]
        | rw [if_neg c63]
    · refine g_bipush h dX8_kindOfSymbol_66 (v := nI 46) rfl ?_
      refine g_goto h 76 dX8_kindOfSymbol_68 rfl ?_
      refine g_iret h dX8_kindOfSymbol_76 ?_
      have q2 := hQ (up2 I 3 6 (nI p + nI 1)) tkF.rf.up (by rw [up2_s]; exact nI_1 p)
      refine q_i ?_ q2
      show _ = nI (symK (T p))
      rw [← symK_ok _ t4]
      first
        | rw [if_pos (show syI (T p) < 0 from c63)]
        | rw [if_neg (Int32.not_lt.mpr c63)]
        | rw [if_pos (Int32.not_le.mp c63)]
        | rw [if_neg c63]
  refine g_iload_3 h dX8_kindOfSymbol_0 ?_
  refine g_bipush h dX8_kindOfSymbol_1 (v := nI 60) rfl ?_
  refine g_icmp_eq h 12 dX8_kindOfSymbol_3 rfl (fun c3 => ?_) (fun c3 => ?_)
  · refine g_aload_1 h dX8_kindOfSymbol_12 ?_
    refine g_iload_2 h dX8_kindOfSymbol_13 ?_
    refine g_iconst h dX8_kindOfSymbol_14 (v := nI 1) rfl ?_
    refine g_iadd h dX8_kindOfSymbol_15 ?_
    rw [show nI p + nI 1 = nI (p + 1) from nI_1 p]
    refine g_cVi1 h rok0 mi_X6_signAt dX8_kindOfSymbol_16 ml_X8_63 rfl rfl rfl (Nat.le_of_ble_eq_true rfl) (Nat.le_of_ble_eq_true rfl) (sp_X6_signAt (by omega) hT ?_)
    refine g_bipush h dX8_kindOfSymbol_19 (v := nI 61) rfl ?_
    refine g_icmp_ne h 45 dX8_kindOfSymbol_21 rfl (fun c21 => ?_) (fun c21 => ?_)
    · first
        | exact tail (fun q => c21 ((sgT_61 t5).mpr q.2))
        | exact tail (fun q => q.1.elim (fun r => c3 (by rw [r])) (fun r => c9 (by rw [r])))
    · have q1 := (sgT_61 t5).mp (by first | exact c21 | exact Classical.not_not.mp c21)
      have q0 : T p = 60 ∨ T p = 62 := by
        first
          | exact Or.inl (eqN c3 (by omega) (by decide))
          | exact Or.inr (eqN (by first | exact c9 | exact Classical.not_not.mp c9) (by omega) (by decide))
      rw [if_pos ⟨q0, q1⟩] at hQ
      refine g_aload_0 h dX8_kindOfSymbol_24 ?_
      refine g_iload_2 h dX8_kindOfSymbol_25 ?_
      refine g_iconst h dX8_kindOfSymbol_26 (v := nI 2) rfl ?_
      refine g_iadd h dX8_kindOfSymbol_27 ?_
      refine g_putI h fp_X8_33 dX8_kindOfSymbol_28 rfl rfl ?_
      refine g_iload_3 h dX8_kindOfSymbol_31 ?_
      refine g_bipush h dX8_kindOfSymbol_32 (v := nI 60) rfl ?_
      refine g_icmp_ne h 42 dX8_kindOfSymbol_34 rfl (fun c34 => ?_) (fun c34 => ?_)
      · refine g_bipush h dX8_kindOfSymbol_42 (v := nI 44) rfl ?_
        refine g_iret h dX8_kindOfSymbol_44 ?_
        first
          | (have q2 : T p = 60 := eqN (by first | exact c34 | exact Classical.not_not.mp c34) (by omega) (by decide)
             have q3 := hQ (up2 I 3 6 (nI p + nI 2)) tkF.rf.up (by rw [up2_s]; exact nI_add p 2)
             refine q_i ?_ q3
             show _ = nI (if T p = 60 then 43 else 44)
             rw [if_pos q2])
          | (have q2 : ¬ T p = 60 := fun q => c34 (by rw [q])
             have q3 := hQ (up2 I 3 6 (nI p + nI 2)) tkF.rf.up (by rw [up2_s]; exact nI_add p 2)
             refine q_i ?_ q3
             show _ = nI (if T p = 60 then 43 else 44)
             rw [if_neg q2])
      · refine g_bipush h dX8_kindOfSymbol_37 (v := nI 43) rfl ?_
        refine g_goto h 44 dX8_kindOfSymbol_39 rfl ?_
        refine g_iret h dX8_kindOfSymbol_44 ?_
        first
          | (have q2 : T p = 60 := eqN (by first | exact c34 | exact Classical.not_not.mp c34) (by omega) (by decide)
             have q3 := hQ (up2 I 3 6 (nI p + nI 2)) tkF.rf.up (by rw [up2_s]; exact nI_add p 2)
             refine q_i ?_ q3
             show _ = nI (if T p = 60 then 43 else 44)
             rw [if_pos q2])
          | (have q2 : ¬ T p = 60 := fun q => c34 (by rw [q])
             have q3 := hQ (up2 I 3 6 (nI p + nI 2)) tkF.rf.up (by rw [up2_s]; exact nI_add p 2)
             refine q_i ?_ q3
             show _ = nI (if T p = 60 then 43 else 44)
             rw [if_neg q2])
  · refine g_iload_3 h dX8_kindOfSymbol_6 ?_
    refine g_bipush h dX8_kindOfSymbol_7 (v := nI 62) rfl ?_
    refine g_icmp_ne h 45 dX8_kindOfSymbol_9 rfl (fun c9 => ?_) (fun c9 => ?_)
    · first
        | exact tail (fun q => c21 ((sgT_61 t5).mpr q.2))
        | exact tail (fun q => q.1.elim (fun r => c3 (by rw [r])) (fun r => c9 (by rw [r])))
    · refine g_aload_1 h dX8_kindOfSymbol_12 ?_
      refine g_iload_2 h dX8_kindOfSymbol_13 ?_
      refine g_iconst h dX8_kindOfSymbol_14 (v := nI 1) rfl ?_
      refine g_iadd h dX8_kindOfSymbol_15 ?_
      rw [show nI p + nI 1 = nI (p + 1) from nI_1 p]
      refine g_cVi1 h rok0 mi_X6_signAt dX8_kindOfSymbol_16 ml_X8_63 rfl rfl rfl (Nat.le_of_ble_eq_true rfl) (Nat.le_of_ble_eq_true rfl) (sp_X6_signAt (by omega) hT ?_)
      refine g_bipush h dX8_kindOfSymbol_19 (v := nI 61) rfl ?_
      refine g_icmp_ne h 45 dX8_kindOfSymbol_21 rfl (fun c21 => ?_) (fun c21 => ?_)
      · first
          | exact tail (fun q => c21 ((sgT_61 t5).mpr q.2))
          | exact tail (fun q => q.1.elim (fun r => c3 (by rw [r])) (fun r => c9 (by rw [r])))
      · have q1 := (sgT_61 t5).mp (by first | exact c21 | exact Classical.not_not.mp c21)
        have q0 : T p = 60 ∨ T p = 62 := by
          first
            | exact Or.inl (eqN c3 (by omega) (by decide))
            | exact Or.inr (eqN (by first | exact c9 | exact Classical.not_not.mp c9) (by omega) (by decide))
        rw [if_pos ⟨q0, q1⟩] at hQ
        refine g_aload_0 h dX8_kindOfSymbol_24 ?_
        refine g_iload_2 h dX8_kindOfSymbol_25 ?_
        refine g_iconst h dX8_kindOfSymbol_26 (v := nI 2) rfl ?_
        refine g_iadd h dX8_kindOfSymbol_27 ?_
        refine g_putI h fp_X8_33 dX8_kindOfSymbol_28 rfl rfl ?_
        refine g_iload_3 h dX8_kindOfSymbol_31 ?_
        refine g_bipush h dX8_kindOfSymbol_32 (v := nI 60) rfl ?_
        refine g_icmp_ne h 42 dX8_kindOfSymbol_34 rfl (fun c34 => ?_) (fun c34 => ?_)
        · refine g_bipush h dX8_kindOfSymbol_42 (v := nI 44) rfl ?_
          refine g_iret h dX8_kindOfSymbol_44 ?_
          first
            | (have q2 : T p = 60 := eqN (by first | exact c34 | exact Classical.not_not.mp c34) (by omega) (by decide)
               have q3 := hQ (up2 I 3 6 (nI p + nI 2)) tkF.rf.up (by rw [up2_s]; exact nI_add p 2)
               refine q_i ?_ q3
               show _ = nI (if T p = 60 then 43 else 44)
               rw [if_pos q2])
            | (have q2 : ¬ T p = 60 := fun q => c34 (by rw [q])
               have q3 := hQ (up2 I 3 6 (nI p + nI 2)) tkF.rf.up (by rw [up2_s]; exact nI_add p 2)
               refine q_i ?_ q3
               show _ = nI (if T p = 60 then 43 else 44)
               rw [if_neg q2])
        · refine g_bipush h dX8_kindOfSymbol_37 (v := nI 43) rfl ?_
          refine g_goto h 44 dX8_kindOfSymbol_39 rfl ?_
          refine g_iret h dX8_kindOfSymbol_44 ?_
          first
            | (have q2 : T p = 60 := eqN (by first | exact c34 | exact Classical.not_not.mp c34) (by omega) (by decide)
               have q3 := hQ (up2 I 3 6 (nI p + nI 2)) tkF.rf.up (by rw [up2_s]; exact nI_add p 2)
               refine q_i ?_ q3
               show _ = nI (if T p = 60 then 43 else 44)
               rw [if_pos q2])
            | (have q2 : ¬ T p = 60 := fun q => c34 (by rw [q])
               have q3 := hQ (up2 I 3 6 (nI p + nI 2)) tkF.rf.up (by rw [up2_s]; exact nI_add p 2)
               refine q_i ?_ q3
               show _ = nI (if T p = 60 then 43 else 44)
               rw [if_neg q2])
set_option maxRecDepth 100000 in
set_option maxHeartbeats 8000000 in
theorem sp_X8_kindOfNext {T : Nat → Nat} {L : Nat} {d p : Nat} (hp : p ≤ L) {I : MI} {J : MJ} {P : MP} (hT : tpO T L I) (hkw : kwO J) {Q : Int32 → MI → MJ → MP → Prop} (hQ : ∀ I' J', tkF I I' → tkG J J' → I' 3 6 = nI (tkR T L p).2.1 → J' 3 5 = lN (tkR T L p).2.2 → Q (nI (tkR T L p).1) I' J' P) : Sp yX8_kindOfNext cX8_kindOfNext 4 (some .int) (d + 5) [.ref 3, .ref 1, .int (nI p)] I J P (Qi Q) := by
  obtain ⟨t1, t2, t3⟩ := id hT
  have t4 : p < L → T p < 256 := fun q => (t3 p q).2
  intro Γ h
  show VG Γ 0 0 0 [some (.ref 3), some (.ref 1), some (.int (nI p)), none] [] _ _ _ _
  refine g_aload_0 h dX8_kindOfNext_0 ?_
  refine g_lconst h dX8_kindOfNext_1 (v := 0) rfl ?_
  refine g_putJ h fp_X8_29 dX8_kindOfNext_2 rfl rfl ?_
  refine g_aload_0 h dX8_kindOfNext_5 ?_
  refine g_iload_2 h dX8_kindOfNext_6 ?_
  refine g_putI h fp_X8_33 dX8_kindOfNext_7 rfl rfl ?_
  have F1 : tkF I (up2 I 3 6 (nI p)) := tkF.rf.up
  have G1 : tkG J (up2 J 3 5 0) := tkG.rf.up
  have hT1 := F1.tp hT
  have hkw1 : kwO (up2 J 3 5 0) := fun i hi => (G1 7 i (Or.inl (by decide))).trans (hkw i hi)
  refine g_aload_1 h dX8_kindOfNext_10 ?_
  refine g_iload_2 h dX8_kindOfNext_11 ?_
  refine g_cVi1 h rok0 mi_X6_signAt dX8_kindOfNext_12 ml_X8_63 rfl rfl rfl (Nat.le_of_ble_eq_true rfl) (Nat.le_of_ble_eq_true rfl) (sp_X6_signAt (by omega) hT1 ?_)
  refine g_istore_3 h dX8_kindOfNext_15 (by decide) rfl ?_
  refine g_iload_3 h dX8_kindOfNext_16 ?_
  refine g_if_ge h 23 dX8_kindOfNext_17 rfl (fun c17 => ?_) (fun c17 => ?_)
  · have hl : p < L := Classical.not_not.mp (fun q => absurd ((sgT_neg t4).mpr q) (Int32.not_lt.mpr c17))
    refine g_iload_3 h dX8_kindOfNext_23 ?_
    refine g_cSi1 h rok0 mi_X8_isLetter dX8_kindOfNext_24 ml_X8_66 (Nat.le_of_ble_eq_true rfl) (Nat.le_of_ble_eq_true rfl) (sp_X8_isLetter ?_)
    refine g_if_eq h 37 dX8_kindOfNext_27 rfl (fun c27 => ?_) (fun c27 => ?_)
    · have q1 := b2i_0.mp c27
      rw [isLx_s t4] at q1
      have q1' : ¬ ltB T L p = true := by rw [q1]; decide
      refine g_iload_3 h dX8_kindOfNext_37 ?_
      refine g_cSi1 h rok0 mi_X8_isDigit dX8_kindOfNext_38 ml_X8_73 (Nat.le_of_ble_eq_true rfl) (Nat.le_of_ble_eq_true rfl) (sp_X8_isDigit ?_)
      refine g_if_eq h 53 dX8_kindOfNext_41 rfl (fun c41 => ?_) (fun c41 => ?_)
      · have q2 := b2i_0.mp c41
        rw [isDx_s t4] at q2
        have q2' : ¬ dgB T L p = true := by rw [q2]; decide
        rw [tkR, if_neg (not_not_intro hl), if_neg q1', if_neg q2'] at hQ
        rw [sgT_in hl]
        refine g_aload_0 h dX8_kindOfNext_53 ?_
        refine g_aload_1 h dX8_kindOfNext_54 ?_
        refine g_iload_2 h dX8_kindOfNext_55 ?_
        refine g_iload_3 h dX8_kindOfNext_56 ?_
        refine g_cVi3 h rok0 mi_X8_kindOfSymbol dX8_kindOfNext_57 ml_X8_79 rfl rfl rfl (Nat.le_of_ble_eq_true rfl) (Nat.le_of_ble_eq_true rfl) (sp_X8_kindOfSymbol hl hT1 (fun I2 f2 b2 => ?_))
        · refine g_iret h dX8_kindOfNext_60 ?_
          refine hQ I2 _ (fun a j q => (f2 a j q).trans (F1 a j q)) G1 b2 ?_
          rw [up2_s]
          split <;> rfl
      · have q2 := b2i_n0.mp c41
        rw [isDx_s t4] at q2
        rw [tkR, if_neg (not_not_intro hl), if_neg q1', if_pos q2] at hQ
        refine g_aload_0 h dX8_kindOfNext_44 ?_
        refine g_aload_1 h dX8_kindOfNext_45 ?_
        refine g_iload_2 h dX8_kindOfNext_46 ?_
        refine g_cVi2 h rok0 mi_X8_kindOfNumber dX8_kindOfNext_47 ml_X8_76 rfl rfl rfl (Nat.le_of_ble_eq_true rfl) (Nat.le_of_ble_eq_true rfl) (sp_X8_kindOfNumber hp hT1 up2_s (fun I2 J2 f2 g2 b2 c2 => ?_))
        · refine g_goto h 60 dX8_kindOfNext_50 rfl ?_
          refine g_iret h dX8_kindOfNext_60 ?_
          exact hQ I2 J2 (fun a j q => (f2 a j q).trans (F1 a j q)) (fun a j q => (g2 a j q).trans (G1 a j q)) b2 c2
    · have q1 := b2i_n0.mp c27
      rw [isLx_s t4] at q1
      rw [tkR, if_neg (not_not_intro hl), if_pos q1] at hQ
      refine g_aload_0 h dX8_kindOfNext_30 ?_
      refine g_aload_1 h dX8_kindOfNext_31 ?_
      refine g_iload_2 h dX8_kindOfNext_32 ?_
      refine g_cVi2 h rok0 mi_X8_kindOfWord dX8_kindOfNext_33 ml_X8_70 rfl rfl rfl (Nat.le_of_ble_eq_true rfl) (Nat.le_of_ble_eq_true rfl) (sp_X8_kindOfWord hp hT1 hkw1 up2_s (fun I2 J2 f2 g2 b2 c2 => ?_))
      · refine g_iret h dX8_kindOfNext_36 ?_
        exact hQ I2 J2 (fun a j q => (f2 a j q).trans (F1 a j q)) (fun a j q => (g2 a j q).trans (G1 a j q)) b2 c2
  · refine g_bipush h dX8_kindOfNext_20 (v := nI 45) rfl ?_
    refine g_iret h dX8_kindOfNext_22 ?_
    have q : ¬ p < L := (sgT_neg t4).mp (Int32.not_le.mp c17)
    rw [tkR, if_pos q] at hQ
    exact hQ _ _ F1 G1 up2_s up2_s
set_option maxRecDepth 100000 in
set_option maxHeartbeats 8000000 in
theorem sp_X8_length {d : Nat} {I : MI} {J : MJ} {P : MP} {Q : Int32 → MI → MJ → MP → Prop} (hQ : Q (I 3 4) I J P) : Sp yX8_length cX8_length 1 (some .int) (d) [.ref 3] I J P (Qi Q) := by
  intro Γ h
  show VG Γ 0 0 0 [some (.ref 3)] [] _ _ _ _
  refine g_aload_0 h dX8_length_0 ?_
  refine g_getI h fl_X8_25 dX8_length_1 rfl rfl ?_
  refine g_iret h dX8_length_4 ?_
  exact hQ
set_option maxRecDepth 100000 in
set_option maxHeartbeats 8000000 in
theorem sp_X8_positionOf {d t n : Nat} (ht : t < n) (hn : n ≤ 401) {I : MI} {J : MJ} {P : MP} (hs : I 3 4 = nI n) {Q : Int32 → MI → MJ → MP → Prop} (hQ : Q (I 6 t) I J P) : Sp yX8_positionOf cX8_positionOf 2 (some .int) (d) [.ref 3, .int (nI t)] I J P (Qi Q) := by
  intro Γ h
  show VG Γ 0 0 0 [some (.ref 3), some (.int (nI t))] [] _ _ _ _
  refine g_iload_1 h dX8_positionOf_0 ?_
  refine g_if_lt h 12 dX8_positionOf_1 rfl (fun c => absurd c (nI_pos (by omega))) (fun _ => ?_)
  refine g_iload_1 h dX8_positionOf_4 ?_
  refine g_aload_0 h dX8_positionOf_5 ?_
  refine g_getI h fl_X8_25 dX8_positionOf_6 rfl rfl ?_
  refine g_icmp_lt h 16 dX8_positionOf_9 rfl (fun _ => ?_) (fun c => absurd (by rw [hs]; exact nI_lt ht (by omega)) c)
  refine g_aload_0 h dX8_positionOf_16 ?_
  refine g_getC h fl_X8_17 dX8_positionOf_17 rfl rfl ?_
  refine g_iload_1 h dX8_positionOf_20 ?_
  refine g_iald h t dX8_positionOf_21 rfl rfl (by omega) ?_
  refine g_iret h dX8_positionOf_22 ?_
  exact hQ
set_option maxRecDepth 100000 in
set_option maxHeartbeats 8000000 in
theorem sp_X8_positionOfM {d : Nat} {I : MI} {J : MJ} {P : MP} {Q : Int32 → MI → MJ → MP → Prop} (hQ : Q (-1) I J P) : Sp yX8_positionOf cX8_positionOf 2 (some .int) (d) [.ref 3, .int (-1)] I J P (Qi Q) := by
  intro Γ h
  show VG Γ 0 0 0 [some (.ref 3), some (.int (-1))] [] _ _ _ _
  refine g_iload_1 h dX8_positionOf_0 ?_
  refine g_if_lt h 12 dX8_positionOf_1 rfl (fun _ => ?_) (fun c => absurd c (by decide))
  refine g_iconst h dX8_positionOf_12 (v := (-1)) rfl ?_
  refine g_goto h 22 dX8_positionOf_13 rfl ?_
  refine g_iret h dX8_positionOf_22 ?_
  exact hQ
def raF (I I' : MI) : Prop := ∀ a, a ≠ 3 → a ≠ 4 → a ≠ 6 → I' a = I a
def raG (J J' : MJ) : Prop := ∀ a, a ≠ 3 → a ≠ 5 → J' a = J a
def tkAt (T : Nat → Nat) (L : Nat) (I : MI) (J : MJ) (n : Nat) : Prop := I 4 n = nI (tK T L n) ∧ I 6 n = nI (tB T L n) ∧ J 5 n = lN (tC T L n)
theorem raF.tp {T : Nat → Nat} {L : Nat} {I I' : MI} (h : raF I I') (k : tpO T L I) : tpO T L I' := by
  rw [tpO, h 1 (by decide) (by decide) (by decide), h 2 (by decide) (by decide) (by decide)]
  exact k
theorem raG.kw {J J' : MJ} (h : raG J J') (k : kwO J) : kwO J' := by
  unfold kwO
  rw [h 7 (by decide) (by decide)]
  exact k
set_option maxRecDepth 100000 in
set_option maxHeartbeats 8000000 in
theorem lp_readAll {Γ : Cx} {T : Nat → Nat} {L : Nat} {d : Nat} {I0 : MI} {J0 : MJ} {P : MP} (hT0 : tpO T L I0) (hkw0 : kwO J0) {Q : MI → MJ → MP → Prop} (hQ : ∀ I' J', raF I0 I' → raG J0 J' → (∀ n, n ≤ tM T L → tkAt T L I' J' n) → I' 3 4 = nI (tM T L + 1) → Q I' J' P) (h : Vc RX8 cX8_readAll 6 none (d + 6) Γ) : ∀ (f n : Nat) (I : MI) (J : MJ) (x4 x5 : Option Value), n + f = 401 → n ≤ tM T L → raF I0 I → raG J0 J → (∀ j, j < n → tkAt T L I J j) → I 3 6 = nI (bhT T L n) → VG Γ 0 0 14 [some (.ref 3), some (.ref 1), some (.int (nI 1)), some (.int (nI n)), x4, x5] [] I J P (Fnl Γ (Qv Q)) := by
  obtain ⟨m1, m2, m3⟩ := tM_ok (T := T) (L := L)
  intro f
  induction f with
  | zero =>
    intro n I J x4 x5 hn hm
    omega
  | succ f ih =>
    intro n I J x4 x5 hn hm hF hG hA hb
    have hT := hF.tp hT0
    have hkw := hG.kw hkw0
    have hLL := hT.2.1
    have hbB := bhT_B (T := T) (L := L) n
    have htB := tB_B (T := T) (L := L) n
    have k47 := (tkR_B (T := T) htB).2.2
    have key : ∀ (I2 : MI) (J2 : MJ), tkF I I2 → tkG J J2 → I2 3 6 = nI (bhT T L (n + 1)) → J2 3 5 = lN (tC T L n) → VG Γ 0 0 62 [some (.ref 3), some (.ref 1), some (.int (nI 1)), some (.int (nI n)), some (.int (nI (tB T L n))), some (.int (nI (tK T L n)))] [] I2 J2 P (Fnl Γ (Qv Q)) := by
      intro I2 J2 f2 g2 b2 c2
      refine g_aload_0 h dX8_readAll_62 ?_
      refine g_getC h fl_X8_9 dX8_readAll_63 rfl rfl ?_
      refine g_iload_3 h dX8_readAll_66 ?_
      refine g_iload_5 h dX8_readAll_67 ?_
      refine g_iast h n dX8_readAll_69 rfl rfl (by omega) ?_
      refine g_aload_0 h dX8_readAll_70 ?_
      refine g_getC h fl_X8_13 dX8_readAll_71 rfl rfl ?_
      refine g_iload_3 h dX8_readAll_74 ?_
      refine g_aload_0 h dX8_readAll_75 ?_
      refine g_getJ h fl_X8_29 dX8_readAll_76 rfl rfl ?_
      refine g_last h n dX8_readAll_79 rfl rfl (by omega) ?_
      refine g_aload_0 h dX8_readAll_80 ?_
      refine g_getC h fl_X8_17 dX8_readAll_81 rfl rfl ?_
      refine g_iload_3 h dX8_readAll_84 ?_
      refine g_iload_4 h dX8_readAll_85 ?_
      refine g_iast h n dX8_readAll_87 rfl rfl (by omega) ?_
      refine g_aload_0 h dX8_readAll_88 ?_
      have eA : ∀ j, j < n + 1 → tkAt T L (up2 (up2 I2 4 n (nI (tK T L n))) 6 n (nI (tB T L n))) (up2 J2 5 n (J2 3 5)) j := by
        intro j hj
        rcases Nat.lt_or_ge j n with q | q
        · have := hA j q
          refine ⟨?_, ?_, ?_⟩
          · simp [up2, Nat.ne_of_lt q, f2 4 j (Or.inl (by decide)), this.1]
          · simp [up2, Nat.ne_of_lt q, f2 6 j (Or.inl (by decide)), this.2.1]
          · simp [up2, Nat.ne_of_lt q, g2 5 j (Or.inl (by decide)), this.2.2]
        · obtain rfl : j = n := by omega
          exact ⟨by simp [up2], by simp [up2], by simp [up2, c2]⟩
      have eB : ∀ (v : Int32) j, tkAt T L (up2 (up2 I2 4 n (nI (tK T L n))) 6 n (nI (tB T L n))) (up2 J2 5 n (J2 3 5)) j → tkAt T L (up2 (up2 (up2 I2 4 n (nI (tK T L n))) 6 n (nI (tB T L n))) 3 4 v) (up2 J2 5 n (J2 3 5)) j := by
        intro v j q
        refine ⟨?_, ?_, q.2.2⟩
        · rw [up2_o (by decide)]; exact q.1
        · rw [up2_o (by decide)]; exact q.2.1
      have eF : ∀ v, raF I0 (up2 (up2 (up2 I2 4 n (nI (tK T L n))) 6 n (nI (tB T L n))) 3 4 v) := by
        intro v a a1 a2 a3
        rw [up2_o a1, up2_o a3, up2_o a2]
        funext j
        rw [f2 a j (Or.inl a1), hF a a1 a2 a3]
      have eG : raG J0 (up2 J2 5 n (J2 3 5)) := by
        intro a a1 a2
        rw [up2_o a2]
        funext j
        rw [g2 a j (Or.inl a1), hG a a1 a2]
      refine g_iload_3 h dX8_readAll_89 ?_
      refine g_iconst h dX8_readAll_90 (v := nI 1) rfl ?_
      refine g_iadd h dX8_readAll_91 ?_
      refine g_putI h fp_X8_25 dX8_readAll_92 rfl rfl ?_
      refine g_iload_5 h dX8_readAll_95 ?_
      refine g_bipush h dX8_readAll_97 (v := nI 45) rfl ?_
      refine g_icmp_eq h 113 dX8_readAll_99 rfl (fun c99 => ?_) (fun c99 => ?_)
      · have hk9 : 45 ≤ tK T L n := by
          have k9 := tK_lt (T := T) (L := L) n
          first
            | (have := eqN c99 (by omega) (by decide); omega)
            | (have := eqN c106 (by omega) (by decide); omega)
        refine g_iconst h dX8_readAll_113 (v := nI 0) rfl ?_
        refine g_istore_2 h dX8_readAll_114 (by decide) rfl ?_
        refine g_iinc_3 h dX8_readAll_115 (inc1 _) (by decide) rfl ?_
        refine g_goto h 14 dX8_readAll_118 rfl ?_
        refine g_iload_3 h dX8_readAll_14 ?_
        refine g_sipush h dX8_readAll_15 (v := nI 400) rfl ?_
        refine g_icmp_gt h 121 dX8_readAll_18 rfl (fun c18 => ?_) (fun c18 => ?_)
        · refine g_vret h dX8_readAll_121 ?_
          have hM : n = tM T L := by
            rcases Nat.lt_or_ge n (tM T L) with q | q
            · have := m3 n q
              omega
            · omega
          refine hQ _ _ (eF _) eG (fun j hj => eB _ j (eA j (by omega))) ?_
          rw [up2_s, ← hM]
          exact nI_1 n
        · refine g_iload_2 h dX8_readAll_21 ?_
          refine g_if_eq h 121 dX8_readAll_22 rfl (fun _ => ?_) (fun c => absurd c (by decide))
          refine g_vret h dX8_readAll_121 ?_
          have hM : n = tM T L := by
            rcases Nat.lt_or_ge n (tM T L) with q | q
            · have := m3 n q
              omega
            · omega
          refine hQ _ _ (eF _) eG (fun j hj => eB _ j (eA j (by omega))) ?_
          rw [up2_s, ← hM]
          exact nI_1 n
      · refine g_iload_5 h dX8_readAll_102 ?_
        refine g_bipush h dX8_readAll_104 (v := nI 46) rfl ?_
        refine g_icmp_eq h 113 dX8_readAll_106 rfl (fun c106 => ?_) (fun c106 => ?_)
        · have hk9 : 45 ≤ tK T L n := by
            have k9 := tK_lt (T := T) (L := L) n
            first
              | (have := eqN c99 (by omega) (by decide); omega)
              | (have := eqN c106 (by omega) (by decide); omega)
          refine g_iconst h dX8_readAll_113 (v := nI 0) rfl ?_
          refine g_istore_2 h dX8_readAll_114 (by decide) rfl ?_
          refine g_iinc_3 h dX8_readAll_115 (inc1 _) (by decide) rfl ?_
          refine g_goto h 14 dX8_readAll_118 rfl ?_
          refine g_iload_3 h dX8_readAll_14 ?_
          refine g_sipush h dX8_readAll_15 (v := nI 400) rfl ?_
          refine g_icmp_gt h 121 dX8_readAll_18 rfl (fun c18 => ?_) (fun c18 => ?_)
          · refine g_vret h dX8_readAll_121 ?_
            have hM : n = tM T L := by
              rcases Nat.lt_or_ge n (tM T L) with q | q
              · have := m3 n q
                omega
              · omega
            refine hQ _ _ (eF _) eG (fun j hj => eB _ j (eA j (by omega))) ?_
            rw [up2_s, ← hM]
            exact nI_1 n
          · refine g_iload_2 h dX8_readAll_21 ?_
            refine g_if_eq h 121 dX8_readAll_22 rfl (fun _ => ?_) (fun c => absurd c (by decide))
            refine g_vret h dX8_readAll_121 ?_
            have hM : n = tM T L := by
              rcases Nat.lt_or_ge n (tM T L) with q | q
              · have := m3 n q
                omega
              · omega
            refine hQ _ _ (eF _) eG (fun j hj => eB _ j (eA j (by omega))) ?_
            rw [up2_s, ← hM]
            exact nI_1 n
        · refine g_iconst h dX8_readAll_109 (v := nI 1) rfl ?_
          refine g_goto h 114 dX8_readAll_110 rfl ?_
          refine g_istore_2 h dX8_readAll_114 (by decide) rfl ?_
          refine g_iinc_3 h dX8_readAll_115 (inc1 _) (by decide) rfl ?_
          refine g_goto h 14 dX8_readAll_118 rfl ?_
          have hk9 : tK T L n < 45 := by
            have k9 := tK_lt (T := T) (L := L) n
            have q1 : ¬ tK T L n = 45 := fun q => c99 (by rw [q])
            have q2 : ¬ tK T L n = 46 := fun q => c106 (by rw [q])
            omega
          have hlt : n < tM T L := by
            rcases Nat.lt_or_ge n (tM T L) with q | q
            · exact q
            · obtain rfl : n = tM T L := by omega
              omega
          refine ih (n + 1) _ _ _ _ (by omega) hlt (eF _) eG (fun j hj => eB _ j (eA j hj)) ?_
          simp [up2, b2]
    refine g_iload_3 h dX8_readAll_14 ?_
    refine g_sipush h dX8_readAll_15 (v := nI 400) rfl ?_
    refine g_icmp_gt h 121 dX8_readAll_18 rfl (fun c => absurd c (nI_nlt (by omega) (by decide))) (fun _ => ?_)
    refine g_iload_2 h dX8_readAll_21 ?_
    refine g_if_eq h 121 dX8_readAll_22 rfl (fun c => absurd c (by decide)) (fun _ => ?_)
    refine g_aload_1 h dX8_readAll_25 ?_
    refine g_aload_0 h dX8_readAll_26 ?_
    refine g_getI h fl_X8_33 dX8_readAll_27 rfl rfl ?_
    rw [hb]
    refine g_cVi1 h rok0 mi_X6_behindBlanks dX8_readAll_30 ml_X8_54 rfl rfl rfl (Nat.le_of_ble_eq_true rfl) (Nat.le_of_ble_eq_true rfl) (sp_X6_behindBlanks hbB hT ?_)
    refine g_istore_4 h dX8_readAll_33 (by decide) rfl ?_
    refine g_aload_0 h dX8_readAll_35 ?_
    refine g_aload_1 h dX8_readAll_36 ?_
    refine g_iload_4 h dX8_readAll_37 ?_
    refine g_cVi2 h rok0 mi_X8_kindOfNext dX8_readAll_39 ml_X8_59 rfl rfl rfl (Nat.le_of_ble_eq_true rfl) (Nat.le_of_ble_eq_true rfl) (sp_X8_kindOfNext htB hT hkw (fun I2 J2 f2 g2 b2 c2 => ?_))
    · refine g_istore_5 h dX8_readAll_42 (by decide) rfl ?_
      refine g_iload_3 h dX8_readAll_44 ?_
      refine g_sipush h dX8_readAll_45 (v := nI 400) rfl ?_
      refine g_icmp_ne h 62 dX8_readAll_48 rfl (fun c48 => ?_) (fun c48 => ?_)
      · first
          | (have e4 : n = 400 := eqN (by first | exact c48 | exact Classical.not_not.mp c48) (by omega) (by decide)
             have e5 : ¬ (tkR T L (tB T L n)).1 = 45 := fun q => c55 (by rw [q])
             have kk := key I2 J2 f2 g2 b2 c2
             rw [show tK T L n = 46 from if_pos ⟨e4, e5⟩] at kk
             exact kk)
          | (have e5 : (tkR T L (tB T L n)).1 = 45 := eqN c55 (by omega) (by decide)
             have kk := key I2 J2 f2 g2 b2 c2
             rw [show tK T L n = (tkR T L (tB T L n)).1 from if_neg (fun q => q.2 e5)] at kk
             exact kk)
          | (have e4 : ¬ n = 400 := fun q => c48 (by rw [q])
             have kk := key I2 J2 f2 g2 b2 c2
             rw [show tK T L n = (tkR T L (tB T L n)).1 from if_neg (fun q => e4 q.1)] at kk
             exact kk)
      · refine g_iload_5 h dX8_readAll_51 ?_
        refine g_bipush h dX8_readAll_53 (v := nI 45) rfl ?_
        refine g_icmp_eq h 62 dX8_readAll_55 rfl (fun c55 => ?_) (fun c55 => ?_)
        · first
            | (have e4 : n = 400 := eqN (by first | exact c48 | exact Classical.not_not.mp c48) (by omega) (by decide)
               have e5 : ¬ (tkR T L (tB T L n)).1 = 45 := fun q => c55 (by rw [q])
               have kk := key I2 J2 f2 g2 b2 c2
               rw [show tK T L n = 46 from if_pos ⟨e4, e5⟩] at kk
               exact kk)
            | (have e5 : (tkR T L (tB T L n)).1 = 45 := eqN c55 (by omega) (by decide)
               have kk := key I2 J2 f2 g2 b2 c2
               rw [show tK T L n = (tkR T L (tB T L n)).1 from if_neg (fun q => q.2 e5)] at kk
               exact kk)
            | (have e4 : ¬ n = 400 := fun q => c48 (by rw [q])
               have kk := key I2 J2 f2 g2 b2 c2
               rw [show tK T L n = (tkR T L (tB T L n)).1 from if_neg (fun q => e4 q.1)] at kk
               exact kk)
        · refine g_bipush h dX8_readAll_58 (v := nI 46) rfl ?_
          refine g_istore_5 h dX8_readAll_60 (by decide) rfl ?_
          first
            | (have e4 : n = 400 := eqN (by first | exact c48 | exact Classical.not_not.mp c48) (by omega) (by decide)
               have e5 : ¬ (tkR T L (tB T L n)).1 = 45 := fun q => c55 (by rw [q])
               have kk := key I2 J2 f2 g2 b2 c2
               rw [show tK T L n = 46 from if_pos ⟨e4, e5⟩] at kk
               exact kk)
            | (have e5 : (tkR T L (tB T L n)).1 = 45 := eqN c55 (by omega) (by decide)
               have kk := key I2 J2 f2 g2 b2 c2
               rw [show tK T L n = (tkR T L (tB T L n)).1 from if_neg (fun q => q.2 e5)] at kk
               exact kk)
            | (have e4 : ¬ n = 400 := fun q => c48 (by rw [q])
               have kk := key I2 J2 f2 g2 b2 c2
               rw [show tK T L n = (tkR T L (tB T L n)).1 from if_neg (fun q => e4 q.1)] at kk
               exact kk)
set_option maxRecDepth 100000 in
set_option maxHeartbeats 8000000 in
theorem sp_X8_readAll {T : Nat → Nat} {L : Nat} {d : Nat} {I : MI} {J : MJ} {P : MP} (hT : tpO T L I) (hkw : kwO J) {Q : MI → MJ → MP → Prop} (hQ : ∀ I' J', raF I I' → raG J J' → (∀ n, n ≤ tM T L → tkAt T L I' J' n) → I' 3 4 = nI (tM T L + 1) → Q I' J' P) : Sp yX8_readAll cX8_readAll 6 none (d + 6) [.ref 3, .ref 1] I J P (Qv Q) := by
  intro Γ h
  show VG Γ 0 0 0 [some (.ref 3), some (.ref 1), none, none, none, none] [] _ _ _ _
  refine g_aload_0 h dX8_readAll_0 ?_
  refine g_iconst h dX8_readAll_1 (v := nI 0) rfl ?_
  refine g_putI h fp_X8_25 dX8_readAll_2 rfl rfl ?_
  refine g_aload_0 h dX8_readAll_5 ?_
  refine g_iconst h dX8_readAll_6 (v := nI 0) rfl ?_
  refine g_putI h fp_X8_33 dX8_readAll_7 rfl rfl ?_
  refine g_iconst h dX8_readAll_10 (v := nI 1) rfl ?_
  refine g_istore_2 h dX8_readAll_11 (by decide) rfl ?_
  refine g_iconst h dX8_readAll_12 (v := nI 0) rfl ?_
  refine g_istore_3 h dX8_readAll_13 (by decide) rfl ?_
  exact lp_readAll hT hkw hQ h 401 0 _ _ _ _ rfl (Nat.zero_le _) (fun a a1 a2 a3 => by rw [up2_o a1, up2_o a1]) (fun a _ _ => rfl) (fun j hj => absurd hj (Nat.not_lt_zero j)) up2_s
