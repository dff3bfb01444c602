/-! The class: what would be -/
def out28 (I I' : MI) : Prop := ∀ a, a ≠ 17 → a ≠ 18 → ¬ (28 ≤ a ∧ a < 36) → I' a = I a
def tri (I S : MI) : Prop := (∀ j, (j = 1 ∨ j = 2 ∨ j = 3) → S 0 j = I 20 j) ∧ (∀ k j, 1 ≤ k → k ≤ 4 → j < 16 → S k j = I (20 + k) j) ∧ (∀ j, j < 6 → S 5 j = I 25 j) ∧ (∀ j, j < 5 → S 6 j = I 26 j) ∧ (∀ j, j < 5 → S 7 j = I 27 j)
def wrC (D S : MI) : Int32 := sumF (fun i => b2i (wrgB (S 5 i) (cnb (nN D) (S 4) (D (7 + i)) (zS D i)))) (nT D) 0 (nI 0)
def cntS (D S : MI) : Nat → Int32
  | 6 => sumF (fun i => S 3 i) (nN D) 0 (nI 0)
  | 7 => sumF (fun i => kno (S 3 i)) (nN D) 0 (nI 0)
  | 8 => sumF (fun i => tur (S 3 i)) (nN D) 0 (nI 0)
  | 9 => wrC D S
  | 10 => S 0 2
  | _ => S 0 3
def unC (D : MI) (a : Nat) : Nat → Nat → MI → Int32
  | 0, _, _ => -1
  | f + 1, k, S => if wrgB (S 5 a) (cnb (nN D) (S 4) (D (7 + a)) (zS D a)) = true then nI k else unC D a f (k + 1) (psF D 1 S)
theorem out28.dv {I I' : MI} (h : out28 I I') : dv I' = dv I := funext fun k => h (36 + k) (by omega) (by omega) (by omega)
theorem out28.st {I I1 I2 S : MI} (h : out28 I I1) (h2 : stS 28 I1 I2 S) : out28 I I2 := fun a a1 a2 a3 => (h2.2 a a1 a2 (by omega)).trans (h a a1 a2 a3)
theorem out28.up {I I1 : MI} {k : Nat} {v : Int32} (h : out28 I I1) : out28 I (up2 I1 34 k v) := fun a a1 a2 a3 => (up2_o (by omega)).trans (h a a1 a2 a3)
theorem out28.tr {I I1 I2 : MI} (h : out28 I I1) (h2 : out28 I1 I2) : out28 I I2 := fun a a1 a2 a3 => (h2 a a1 a2 a3).trans (h a a1 a2 a3)
theorem tri_o {I I1 S : MI} (h : out28 I I1) (t : tri I1 S) : tri I S := by
  obtain ⟨t1, t2, t3, t4, t5⟩ := t
  refine ⟨fun j hj => (t1 j hj).trans (congrFun (h 20 (by decide) (by decide) (by decide)) j), fun k j a b c => (t2 k j a b c).trans (congrFun (h (20 + k) (by omega) (by omega) (by omega)) j), fun j hj => (t3 j hj).trans (congrFun (h 25 (by decide) (by decide) (by decide)) j), fun j hj => (t4 j hj).trans (congrFun (h 26 (by decide) (by decide) (by decide)) j), fun j hj => (t5 j hj).trans (congrFun (h 27 (by decide) (by decide) (by decide)) j)⟩
theorem sv_up34 {I : MI} {k : Nat} {v : Int32} : sv 28 (up2 I 34 k v) = setRow (sv 28 I) 6 (upd (sv 28 I 6) k v) := by
  funext b j
  by_cases hb : b < 8
  · by_cases h6 : b = 6
    · subst h6
      rw [setRow_s]
      show up2 I 34 k v 34 j = upd (I 34) k v j
      rw [up2_row, setRow_s]
    · rw [setRow_o h6]
      show (if b < 8 then up2 I 34 k v (28 + b) else fun _ => 0) j = (if b < 8 then I (28 + b) else fun _ => 0) j
      rw [if_pos hb, if_pos hb, up2_o (by omega)]
  · rw [setRow_o (by omega)]
    show (if b < 8 then up2 I 34 k v (28 + b) else fun _ => 0) j = (if b < 8 then I (28 + b) else fun _ => 0) j
    rw [if_neg hb, if_neg hb]
theorem sp_cpy {d : Nat} {I : MI} {J : MJ} {P : MP} (hT : P 20 0 = some 36) {Q : MI → MJ → MP → Prop} (hQ : ∀ I', tri I (sv 28 I') → out28 I I' → Q I' J (up2 P 28 0 (some 36))) : Sp yX5_copyFrom cX5_copyFrom 2 none (d + 1) [.ref 28, .ref 20] I J P (Qv Q) := by
  refine sp_X5_copyFrom hT (fun I' c1 c2 c3 c4 c5 c6 => hQ I' ⟨c1, ?_, c3, c4, c5⟩ (fun a _ _ a3 => c6 a a3))
  intro k j k1 k2 hj
  rw [sv, if_pos (by omega)]
  exact c2 k j k1 k2 hj
theorem wrg_eq {o : Nat} {D I2 : MI} (hd : dv I2 = D) (i : Nat) : b2i (wrgB (I2 (o + 5) i) (cnb (nN D) (I2 (o + 4)) (I2 (43 + i)) (zS D i))) = b2i (wrgB (sv o I2 5 i) (cnb (nN D) (sv o I2 4) (D (7 + i)) (zS D i))) := by
  rw [show 43 + i = 36 + (7 + i) by omega, ← show dv I2 (7 + i) = I2 (36 + (7 + i)) from rfl, hd]
  rfl
theorem wrC_eq {o : Nat} {D I2 : MI} (hd : dv I2 = D) : sumF (fun i => b2i (wrgB (I2 (o + 5) i) (cnb (nN D) (I2 (o + 4)) (I2 (43 + i)) (zS D i)))) (nT D) 0 (nI 0) = wrC D (sv o I2) := by
  rw [wrC, show (fun i => b2i (wrgB (I2 (o + 5) i) (cnb (nN D) (I2 (o + 4)) (I2 (43 + i)) (zS D i)))) = _ from funext (wrg_eq hd)]
theorem cnt_eq {o : Nat} {D I2 : MI} (hd : dv I2 = D) {w : Nat} (h6 : 6 ≤ w) (h11 : w ≤ 11) : cntT I2 o (nN D) (nT D) (zS D) w = cntS D (sv o I2) w := by
  rcases (show w = 6 ∨ w = 7 ∨ w = 8 ∨ w = 9 ∨ w = 10 ∨ w = 11 by omega) with rfl | rfl | rfl | rfl | rfl | rfl
  · rfl
  · rfl
  · rfl
  · exact wrC_eq hd
  · rfl
  · rfl
theorem p28_o {P : MP} {a j : Nat} {v : Option Nat} (h : a ≠ 28) : up2 P 28 0 v a j = P a j := congrFun (up2_o h) j
theorem p28_2 {P : MP} {v : Option Nat} : up2 (up2 P 28 0 v) 28 0 v = up2 P 28 0 v := by
  funext a j
  by_cases ha : a = 28
  · subst ha
    by_cases hj : j = 0
    · subst hj
      rw [up2_s, up2_s]
    · rw [up2_n hj]
  · rw [up2_o ha]
set_option maxRecDepth 100000 in
set_option maxHeartbeats 4000000 in
theorem sp_X10_wrongBehind {d n : Nat} (hn : n < 1000) {y : Int32} {F : MI → MI} {I : MI} {J : MJ} {P : MP} (hT : P 20 0 = some 36) (h0 : P 0 0 = some 36) (hD : tdOK (dv I)) (hy : ((¬ ∃ k, k < nK (dv I) ∧ y = nI k) ∧ F = fun S => S) ∨ ∃ k, k < nK (dv I) ∧ y = nI k ∧ F = fun S => setRow S 6 (upd (S 6) k (nI 0))) {Q : Int32 → MI → MJ → MP → Prop} (hQ : ∀ S I', tri I S → out28 I I' → Q (wrC (dv I) (psF (dv I) n (F S))) I' J (up2 P 28 0 (some 36))) : Sp yX10_wrongBehind cX10_wrongBehind 3 (some .int) (d + 6) [.ref 0, .int (nI n), .int y] I J P (Qi Q) := by
  intro Γ h
  show VG Γ 0 0 0 [some (.ref 0), some (.int (nI n)), some (.int y)] [] _ _ _ _
  obtain ⟨eC, lC⟩ := td_C hD
  obtain ⟨eN, lN⟩ := td_N hD
  obtain ⟨eT, lT⟩ := td_T hD
  obtain ⟨eK, lK⟩ := td_K hD
  have eS := td_S hD
  refine g_aload_0 h dX10_wrongBehind_0 ?_
  refine g_getC h fl_X10_62 dX10_wrongBehind_1 rfl rfl ?_
  refine g_aload_0 h dX10_wrongBehind_4 ?_
  refine g_getC h fl_X10_58 dX10_wrongBehind_5 rfl rfl ?_
  refine g_cVv1 h rok0 mi_X5_copyFrom dX10_wrongBehind_8 ml_X10_236 rfl rfl rfl (Nat.le_of_ble_eq_true rfl) (Nat.le_of_ble_eq_true rfl) (sp_cpy hT (fun I1 t1 o1 => ?_))
  refine g_aload_0 h dX10_wrongBehind_11 ?_
  refine g_getP h fl_X10_10 dX10_wrongBehind_12 rfl rfl (by assumption) ?_
  refine g_iload_2 h dX10_wrongBehind_15 ?_
  refine g_cVi1 h rok0 mi_X9_hasKeeper dX10_wrongBehind_16 ml_X10_168 rfl rfl rfl (Nat.le_of_ble_eq_true rfl) (Nat.le_of_ble_eq_true rfl) (sp_X9_hasKeeper (Or.inl rfl) ?_)
  rw [o1 36 (by decide) (by decide) (by decide), eK]
  refine g_if_eq h 32 dX10_wrongBehind_19 rfl (fun c19 => ?_) (fun c19 => ?_)
  · obtain ⟨q1, rfl⟩ | ⟨k', k3, k4, rfl⟩ := hy
    case inr => exact (hasNo c19 (by decide) lK k3 k4).elim
    have O := o1
    refine g_aload_0 h dX10_wrongBehind_32 ?_
    refine g_getC h fl_X10_68 dX10_wrongBehind_33 rfl rfl ?_
    refine g_aload_0 h dX10_wrongBehind_36 ?_
    refine g_getC h fl_X10_62 dX10_wrongBehind_37 rfl rfl ?_
    refine g_iload_1 h dX10_wrongBehind_40 ?_
    refine g_cVv2 h rok0 mi_X0_letPass dX10_wrongBehind_41 ml_X10_230 rfl rfl rfl (Nat.le_of_ble_eq_true rfl) (Nat.le_of_ble_eq_true rfl) (sp_X0_letPass_28 hn up2_s (by rw [O.dv]; exact hD) (fun I2 s2 => ?_))
    have O2 := O.st s2
    rw [O.dv] at s2
    refine g_aload_0 h dX10_wrongBehind_44 ?_
    refine g_getC h fl_X10_62 dX10_wrongBehind_45 rfl rfl ?_
    refine g_cVi0 h rok0 mi_X5_wrongTops dX10_wrongBehind_48 ml_X10_268 rfl rfl rfl (Nat.le_of_ble_eq_true rfl) (Nat.le_of_ble_eq_true rfl) (sp_X5_wrongTops_28 (N := nN (dv I)) (Tn := nT (dv I)) (sz := zS (dv I)) up2_s (by rw [O2 36 (by decide) (by decide) (by decide)]; exact eN) lN (by rw [O2 36 (by decide) (by decide) (by decide)]; exact eT) lT (fun a ha => by rw [O2 41 (by decide) (by decide) (by decide)]; exact eS a ha) ?_)
    refine g_iret h dX10_wrongBehind_51 ?_
    refine q_i ?_ (hQ _ I2 t1 O2)
    rw [← s2.1]
    exact wrC_eq (o := 28) O2.dv
  · skip
    obtain ⟨k, k1, k2⟩ := hasYes c19 (by decide) lK
    subst k2
    obtain ⟨q1, -⟩ | ⟨k', k3, k4, rfl⟩ := hy
    · exact absurd ⟨k, k1, rfl⟩ q1
    obtain rfl : k = k' := eqN k4 (by omega) (by omega)
    have O : out28 I (up2 I1 34 k (nI 0)) := o1.up
    have hF := sv_up34 (I := I1) (k := k) (v := nI 0)
    skip
    refine g_aload_0 h dX10_wrongBehind_22 ?_
    refine g_getC h fl_X10_62 dX10_wrongBehind_23 rfl rfl ?_
    refine g_getC h fl_X10_200 dX10_wrongBehind_26 rfl rfl ?_
    refine g_iload_2 h dX10_wrongBehind_29 ?_
    refine g_iconst h dX10_wrongBehind_30 (v := nI 0) rfl ?_
    refine g_iast h k dX10_wrongBehind_31 rfl rfl (by omega) ?_
    refine g_aload_0 h dX10_wrongBehind_32 ?_
    refine g_getC h fl_X10_68 dX10_wrongBehind_33 rfl rfl ?_
    refine g_aload_0 h dX10_wrongBehind_36 ?_
    refine g_getC h fl_X10_62 dX10_wrongBehind_37 rfl rfl ?_
    refine g_iload_1 h dX10_wrongBehind_40 ?_
    refine g_cVv2 h rok0 mi_X0_letPass dX10_wrongBehind_41 ml_X10_230 rfl rfl rfl (Nat.le_of_ble_eq_true rfl) (Nat.le_of_ble_eq_true rfl) (sp_X0_letPass_28 hn up2_s (by rw [O.dv]; exact hD) (fun I2 s2 => ?_))
    have O2 := O.st s2
    rw [O.dv, hF] at s2
    refine g_aload_0 h dX10_wrongBehind_44 ?_
    refine g_getC h fl_X10_62 dX10_wrongBehind_45 rfl rfl ?_
    refine g_cVi0 h rok0 mi_X5_wrongTops dX10_wrongBehind_48 ml_X10_268 rfl rfl rfl (Nat.le_of_ble_eq_true rfl) (Nat.le_of_ble_eq_true rfl) (sp_X5_wrongTops_28 (N := nN (dv I)) (Tn := nT (dv I)) (sz := zS (dv I)) up2_s (by rw [O2 36 (by decide) (by decide) (by decide)]; exact eN) lN (by rw [O2 36 (by decide) (by decide) (by decide)]; exact eT) lT (fun a ha => by rw [O2 41 (by decide) (by decide) (by decide)]; exact eS a ha) ?_)
    refine g_iret h dX10_wrongBehind_51 ?_
    refine q_i ?_ (hQ _ I2 t1 O2)
    rw [← s2.1]
    exact wrC_eq (o := 28) O2.dv
theorem rngL {y : Int32} {a m : Nat} (h1 : ¬ y < nI a) (h2 : y ≤ nI m) (hm : m < 2 ^ 31) (ha : a < 2 ^ 31 := by decide) : ∃ w, a ≤ w ∧ w ≤ m ∧ y = nI w := by
  obtain ⟨j, hj, rfl⟩ := nI_of (x := y) (fun r => h1 (Int32.lt_of_lt_of_le r (nI_le (Nat.zero_le a) ha)))
  refine ⟨j, ?_, leN h2 hj hm, rfl⟩
  exact leN (Int32.not_lt.mp h1) ha hj
theorem rngK {y : Int32} {a m w : Nat} (hy : y = nI w) (h1 : a ≤ w) (hw : w ≤ m) (hm : m < 2 ^ 31) (c : y < nI a ∨ ¬ y ≤ nI m) : False := by
  subst hy
  rcases c with c | c
  · exact absurd (nI_le h1 (by omega)) (Int32.not_le.mpr c)
  · exact c (nI_le hw (by omega))
set_option maxRecDepth 100000 in
set_option maxHeartbeats 4000000 in
theorem sp_X10_foresee {d : Nat} {x y : Int32} {I : MI} {J : MJ} {P : MP} (hT : P 20 0 = some 36) (hD : tdOK (dv I)) {Q : Int32 → MI → MJ → MP → Prop} (hQ : ∀ n w, 1 ≤ n → n ≤ 120 → 6 ≤ w → w ≤ 11 → x = nI n → y = nI w → ∀ S I', tri I S → out28 I I' → Q (cntS (dv I) (psF (dv I) n S) w) I' J (up2 P 28 0 (some 36))) (hX1 : (¬ ∃ n, 1 ≤ n ∧ n ≤ 120 ∧ x = nI n) → False) (hX2 : (∃ n, 1 ≤ n ∧ n ≤ 120 ∧ x = nI n) → (¬ ∃ w, 6 ≤ w ∧ w ≤ 11 ∧ y = nI w) → False) : Sp yX10_foresee cX10_foresee 3 (some .int) (d + 8) [.ref 0, .int x, .int y] I J P (Qi Q) := by
  intro Γ h
  show VG Γ 0 0 0 [some (.ref 0), some (.int x), some (.int y)] [] _ _ _ _
  obtain ⟨eC, lC⟩ := td_C hD
  obtain ⟨eN, lN⟩ := td_N hD
  obtain ⟨eT, lT⟩ := td_T hD
  obtain ⟨eK, lK⟩ := td_K hD
  have eS := td_S hD
  refine g_iload_1 h dX10_foresee_0 ?_
  refine g_iconst h dX10_foresee_1 (v := nI 1) rfl ?_
  refine g_icmp_lt h 11 dX10_foresee_2 rfl (fun c2 => ?_) (fun c2 => ?_)
  · refine False.elim ?_
    first
      | exact hX1 (fun ⟨w, w0, w1, w2⟩ => rngM w2 w0 w1 (by decide) (Or.inl c2))
      | exact hX1 (fun ⟨w, w0, w1, w2⟩ => rngM w2 w0 w1 (by decide) (Or.inr c8))
  · refine g_iload_1 h dX10_foresee_5 ?_
    refine g_bipush h dX10_foresee_6 (v := nI 120) rfl ?_
    refine g_icmp_le h 21 dX10_foresee_8 rfl (fun c8 => ?_) (fun c8 => ?_)
    · obtain ⟨n, n1, n2, n3⟩ := rngJ c2 c8 (by decide)
      refine g_iload_2 h dX10_foresee_21 ?_
      refine g_bipush h dX10_foresee_22 (v := nI 6) rfl ?_
      refine g_icmp_lt h 33 dX10_foresee_24 rfl (fun c24 => ?_) (fun c24 => ?_)
      · refine False.elim ?_
        first
          | exact hX2 ⟨n, n1, n2, n3⟩ (fun ⟨w, w0, w1, w2⟩ => rngK w2 w0 w1 (by decide) (Or.inl c24))
          | exact hX2 ⟨n, n1, n2, n3⟩ (fun ⟨w, w0, w1, w2⟩ => rngK w2 w0 w1 (by decide) (Or.inr c30))
      · refine g_iload_2 h dX10_foresee_27 ?_
        refine g_bipush h dX10_foresee_28 (v := nI 11) rfl ?_
        refine g_icmp_le h 43 dX10_foresee_30 rfl (fun c30 => ?_) (fun c30 => ?_)
        · obtain ⟨w, w1, w2, w3⟩ := rngL c24 c30 (by decide)
          subst n3
          subst w3
          refine g_aload_0 h dX10_foresee_43 ?_
          refine g_getC h fl_X10_62 dX10_foresee_44 rfl rfl ?_
          refine g_aload_0 h dX10_foresee_47 ?_
          refine g_getC h fl_X10_58 dX10_foresee_48 rfl rfl ?_
          refine g_cVv1 h rok0 mi_X5_copyFrom dX10_foresee_51 ml_X10_236 rfl rfl rfl (Nat.le_of_ble_eq_true rfl) (Nat.le_of_ble_eq_true rfl) (sp_cpy hT (fun I1 t1 o1 => ?_))
          refine g_aload_0 h dX10_foresee_54 ?_
          refine g_getC h fl_X10_68 dX10_foresee_55 rfl rfl ?_
          refine g_aload_0 h dX10_foresee_58 ?_
          refine g_getC h fl_X10_62 dX10_foresee_59 rfl rfl ?_
          refine g_iload_1 h dX10_foresee_62 ?_
          refine g_cVv2 h rok0 mi_X0_letPass dX10_foresee_63 ml_X10_230 rfl rfl rfl (Nat.le_of_ble_eq_true rfl) (Nat.le_of_ble_eq_true rfl) (sp_X0_letPass_28 (by omega) up2_s (by rw [o1.dv]; exact hD) (fun I2 s2 => ?_))
          have O2 := o1.st s2
          rw [o1.dv] at s2
          refine g_aload_0 h dX10_foresee_66 ?_
          refine g_getC h fl_X10_62 dX10_foresee_67 rfl rfl ?_
          refine g_iload_2 h dX10_foresee_70 ?_
          refine g_cVi1 h rok0 mi_X5_countTells dX10_foresee_71 ml_X10_129 rfl rfl rfl (Nat.le_of_ble_eq_true rfl) (Nat.le_of_ble_eq_true rfl) (sp_X5_countTells_28 (N := nN (dv I)) (Tn := nT (dv I)) (sz := zS (dv I)) up2_s (by rw [O2 36 (by decide) (by decide) (by decide)]; exact eN) lN (by rw [O2 36 (by decide) (by decide) (by decide)]; exact eT) lT (fun a ha => by rw [O2 41 (by decide) (by decide) (by decide)]; exact eS a ha) (show w < 12 by omega) ?_)
          refine g_iret h dX10_foresee_74 ?_
          refine q_i ?_ (hQ n w n1 n2 w1 w2 rfl rfl _ I2 t1 O2)
          rw [← s2.1]
          exact cnt_eq (o := 28) O2.dv w1 w2
        · refine False.elim ?_
          first
            | exact hX2 ⟨n, n1, n2, n3⟩ (fun ⟨w, w0, w1, w2⟩ => rngK w2 w0 w1 (by decide) (Or.inl c24))
            | exact hX2 ⟨n, n1, n2, n3⟩ (fun ⟨w, w0, w1, w2⟩ => rngK w2 w0 w1 (by decide) (Or.inr c30))
    · refine False.elim ?_
      first
        | exact hX1 (fun ⟨w, w0, w1, w2⟩ => rngM w2 w0 w1 (by decide) (Or.inl c2))
        | exact hX1 (fun ⟨w, w0, w1, w2⟩ => rngM w2 w0 w1 (by decide) (Or.inr c8))
set_option maxRecDepth 100000 in
set_option maxHeartbeats 4000000 in
theorem lp_X10_until {Γ : Cx} {d a : Nat} {I0 : MI} {J : MJ} {P0 : MP} (hD : tdOK (dv I0)) (ha : a < nT (dv I0)) {v : Int32} {Q : Int32 → MI → MJ → MP → Prop} (hQ : ∀ I', out28 I0 I' → Q v I' J (up2 P0 28 0 (some 36))) (h : Vc RX10 cX10_until 3 (some .int) (d + 8) Γ) : ∀ (f k : Nat) (I : MI), k + f = 150 → out28 I0 I → unC (dv I0) a (f + 1) k (sv 28 I) = v → VG Γ 0 0 34 [some (.ref 0), some (.int (nI a)), some (.int (nI k))] [] I J (up2 P0 28 0 (some 36)) (Fnl Γ (Qi Q)) := by
  obtain ⟨eC, lC⟩ := td_C hD
  obtain ⟨eN, lN⟩ := td_N hD
  obtain ⟨eT, lT⟩ := td_T hD
  obtain ⟨eK, lK⟩ := td_K hD
  have eS := td_S hD
  intro f
  induction f with
  | zero =>
    intro k I hk o hv
    obtain rfl : k = 150 := by omega
    have e1 := wrg_eq (o := 28) o.dv a
    rw [unC] at hv
    refine g_iload_2 h dX10_until_34 ?_
    refine g_sipush h dX10_until_35 (v := nI 150) rfl ?_
    refine g_icmp_ge h 72 dX10_until_38 rfl (fun _ => ?_) (fun c => absurd (nI_le (by omega) (by decide)) c)
    refine g_aload_0 h dX10_until_72 ?_
    refine g_getC h fl_X10_62 dX10_until_73 rfl rfl ?_
    refine g_iload_1 h dX10_until_76 ?_
    refine g_cVi1 h rok0 mi_X5_isWrong dX10_until_77 ml_X10_240 rfl rfl rfl (Nat.le_of_ble_eq_true rfl) (Nat.le_of_ble_eq_true rfl) (sp_X5_isWrong_28 (N := nN (dv I0)) (z := zS (dv I0) a) up2_s (by rw [o 36 (by decide) (by decide) (by decide)]; exact eN) lN (by omega) (by rw [o 41 (by decide) (by decide) (by decide)]; exact (eS a ha).1) (eS a ha).2 ?_)
    rw [e1]
    refine g_if_eq h 89 dX10_until_80 rfl (fun c80 => ?_) (fun c80 => ?_)
    · refine g_iconst h dX10_until_89 (v := (-1)) rfl ?_
      refine g_iret h dX10_until_90 ?_
      first
        | exact q_i (by rw [if_pos (b2i_n0.mp c80)] at hv; exact hv) (hQ I o)
        | exact q_i (by rw [if_neg (fun q => by rw [b2i_0.mp c80] at q; exact absurd q (by decide))] at hv; exact hv) (hQ I o)
    · refine g_sipush h dX10_until_83 (v := nI 150) rfl ?_
      refine g_goto h 90 dX10_until_86 rfl ?_
      refine g_iret h dX10_until_90 ?_
      first
        | exact q_i (by rw [if_pos (b2i_n0.mp c80)] at hv; exact hv) (hQ I o)
        | exact q_i (by rw [if_neg (fun q => by rw [b2i_0.mp c80] at q; exact absurd q (by decide))] at hv; exact hv) (hQ I o)
  | succ f ih =>
    intro k I hk o hv
    have e1 := wrg_eq (o := 28) o.dv a
    rw [unC] at hv
    refine g_iload_2 h dX10_until_34 ?_
    refine g_sipush h dX10_until_35 (v := nI 150) rfl ?_
    refine g_icmp_ge h 72 dX10_until_38 rfl (fun c => absurd (leN c (by decide) (by omega)) (by omega)) (fun _ => ?_)
    refine g_aload_0 h dX10_until_41 ?_
    refine g_getC h fl_X10_62 dX10_until_42 rfl rfl ?_
    refine g_iload_1 h dX10_until_45 ?_
    refine g_cVi1 h rok0 mi_X5_isWrong dX10_until_46 ml_X10_240 rfl rfl rfl (Nat.le_of_ble_eq_true rfl) (Nat.le_of_ble_eq_true rfl) (sp_X5_isWrong_28 (N := nN (dv I0)) (z := zS (dv I0) a) up2_s (by rw [o 36 (by decide) (by decide) (by decide)]; exact eN) lN (by omega) (by rw [o 41 (by decide) (by decide) (by decide)]; exact (eS a ha).1) (eS a ha).2 ?_)
    rw [e1]
    refine g_if_eq h 54 dX10_until_49 rfl (fun c49 => ?_) (fun c49 => ?_)
    · refine g_aload_0 h dX10_until_54 ?_
      refine g_getC h fl_X10_68 dX10_until_55 rfl rfl ?_
      refine g_aload_0 h dX10_until_58 ?_
      refine g_getC h fl_X10_62 dX10_until_59 rfl rfl ?_
      refine g_iconst h dX10_until_62 (v := nI 1) rfl ?_
      refine g_cVv2 h rok0 mi_X0_letPass dX10_until_63 ml_X10_230 rfl rfl rfl (Nat.le_of_ble_eq_true rfl) (Nat.le_of_ble_eq_true rfl) (sp_X0_letPass_28 (m := 1) (by decide) up2_s (by rw [o.dv]; exact hD) (fun I2 s2 => ?_))
      refine g_iinc_2 h dX10_until_66 (inc1 _) (by decide) rfl ?_
      refine g_goto h 34 dX10_until_69 rfl ?_
      have O2 := o.st s2
      rw [o.dv] at s2
      refine ih (k + 1) I2 (by omega) O2 ?_
      rw [if_neg (fun q => by rw [b2i_0.mp c49] at q; exact absurd q (by decide)), ← s2.1] at hv
      exact hv
    · refine g_iload_2 h dX10_until_52 ?_
      refine g_iret h dX10_until_53 ?_
      exact q_i (by rw [if_pos (b2i_n0.mp c49)] at hv; exact hv) (hQ I o)
set_option maxRecDepth 100000 in
set_option maxHeartbeats 4000000 in
theorem sp_X10_until {d : Nat} {x : Int32} {I : MI} {J : MJ} {P : MP} (hT : P 20 0 = some 36) (h0 : P 0 0 = some 36) (hD : tdOK (dv I)) {Q : Int32 → MI → MJ → MP → Prop} (hQ : ∀ a, a < nT (dv I) → x = nI a → ∀ S I', tri I S → out28 I I' → Q (unC (dv I) a 151 0 S) I' J (up2 P 28 0 (some 36))) (hX : (¬ ∃ a, a < nT (dv I) ∧ x = nI a) → False) : Sp yX10_until cX10_until 3 (some .int) (d + 8) [.ref 0, .int x] I J P (Qi Q) := by
  intro Γ h
  show VG Γ 0 0 0 [some (.ref 0), some (.int x), none] [] _ _ _ _
  obtain ⟨eC, lC⟩ := td_C hD
  obtain ⟨eN, lN⟩ := td_N hD
  obtain ⟨eT, lT⟩ := td_T hD
  obtain ⟨eK, lK⟩ := td_K hD
  have eS := td_S hD
  refine g_aload_0 h dX10_until_0 ?_
  refine g_getP h fl_X10_10 dX10_until_1 rfl rfl (by assumption) ?_
  refine g_iload_1 h dX10_until_4 ?_
  refine g_cVi1 h rok0 mi_X9_hasTop dX10_until_5 ml_X10_160 rfl rfl rfl (Nat.le_of_ble_eq_true rfl) (Nat.le_of_ble_eq_true rfl) (sp_X9_hasTop (Or.inl rfl) ?_)
  rw [eT]
  refine g_if_ne h 21 dX10_until_8 rfl (fun c8 => ?_) (fun c8 => ?_)
  · obtain ⟨a, a1, a2⟩ := hasYes c8 (by decide) lT
    subst a2
    refine g_aload_0 h dX10_until_21 ?_
    refine g_getC h fl_X10_62 dX10_until_22 rfl rfl ?_
    refine g_aload_0 h dX10_until_25 ?_
    refine g_getC h fl_X10_58 dX10_until_26 rfl rfl ?_
    refine g_cVv1 h rok0 mi_X5_copyFrom dX10_until_29 ml_X10_236 rfl rfl rfl (Nat.le_of_ble_eq_true rfl) (Nat.le_of_ble_eq_true rfl) (sp_cpy hT (fun I1 t1 o1 => ?_))
    refine g_iconst h dX10_until_32 (v := nI 0) rfl ?_
    refine g_istore_2 h dX10_until_33 (by decide) rfl ?_
    exact lp_X10_until (d := d) hD a1 (fun I' o' => hQ a a1 rfl (sv 28 I1) I' t1 o') h 150 0 I1 (by omega) o1 rfl
  · refine False.elim ?_
    exact hX (fun ⟨a, a1, a2⟩ => hasNo c8 (by decide) lT a1 a2)
set_option maxRecDepth 100000 in
set_option maxHeartbeats 4000000 in
theorem lp_X10_advise {Γ : Cx} {d n : Nat} (hn : n < 1000) {I0 : MI} {J : MJ} {P0 : MP} (hT : P0 20 0 = some 36) (h0 : P0 0 0 = some 36) (hD : tdOK (dv I0)) {wk : Nat → Int32} (hwk : ∀ k, k < nK (dv I0) → ∀ S, tri I0 S → wrC (dv I0) (psF (dv I0) n (setRow S 6 (upd (S 6) k (nI 0)))) = wk k) {v : Int32} {Q : Int32 → MI → MJ → MP → Prop} (hQ : ∀ I', out28 I0 I' → Q v I' J (up2 P0 28 0 (some 36))) (h : Vc RX10 cX10_advise 6 (some .int) (d + 8) Γ) : ∀ (f k : Nat) (I : MI) (be le : Int32) (x5 : Option Value), k + f = nK (dv I0) → out28 I0 I → adF wk f k be le = v → VG Γ 0 0 33 [some (.ref 0), some (.int (nI n)), some (.int be), some (.int le), some (.int (nI k)), x5] [] I J (up2 P0 28 0 (some 36)) (Fnl Γ (Qi Q)) := by
  obtain ⟨eC, lC⟩ := td_C hD
  obtain ⟨eN, lN⟩ := td_N hD
  obtain ⟨eT, lT⟩ := td_T hD
  obtain ⟨eK, lK⟩ := td_K hD
  have eS := td_S hD
  have hT1 : up2 P0 28 0 (some 36) 20 0 = some 36 := (p28_o (by decide)).trans hT
  have h01 : up2 P0 28 0 (some 36) 0 0 = some 36 := (p28_o (by decide)).trans h0
  intro f
  induction f with
  | zero =>
    intro k I be le x5 hk o hv
    have e36 : I 36 3 = nI (nK (dv I0)) := by rw [o 36 (by decide) (by decide) (by decide)]; exact eK
    refine g_iload_4 h dX10_advise_33 ?_
    refine g_aload_0 h dX10_advise_35 ?_
    refine g_getP h fl_X10_10 dX10_advise_36 rfl rfl (by assumption) ?_
    refine g_getI h fl_X10_246 dX10_advise_39 rfl rfl ?_
    rw [e36]
    refine g_icmp_ge h 72 dX10_advise_42 rfl (fun _ => ?_) (fun c => absurd (nI_le (by omega) (by omega)) c)
    refine g_iload_2 h dX10_advise_72 ?_
    refine g_iret h dX10_advise_73 ?_
    exact q_i hv (hQ I o)
  | succ f ih =>
    intro k I be le x5 hk o hv
    have e36 : I 36 3 = nI (nK (dv I0)) := by rw [o 36 (by decide) (by decide) (by decide)]; exact eK
    rw [adF] at hv
    have hdv := o.dv
    refine g_iload_4 h dX10_advise_33 ?_
    refine g_aload_0 h dX10_advise_35 ?_
    refine g_getP h fl_X10_10 dX10_advise_36 rfl rfl (by assumption) ?_
    refine g_getI h fl_X10_246 dX10_advise_39 rfl rfl ?_
    rw [e36]
    refine g_icmp_ge h 72 dX10_advise_42 rfl (fun c => absurd (leN c (by omega) (by omega)) (by omega)) (fun _ => ?_)
    refine g_aload_0 h dX10_advise_45 ?_
    refine g_iload_1 h dX10_advise_46 ?_
    refine g_iload_4 h dX10_advise_47 ?_
    refine g_cVi2 h rok0 mi_X10_wrongBehind dX10_advise_49 ml_X10_243 rfl rfl rfl (Nat.le_of_ble_eq_true rfl) (Nat.le_of_ble_eq_true rfl) (sp_X10_wrongBehind hn hT1 h01 (by rw [hdv]; exact hD) (Or.inr ⟨k, by rw [hdv]; omega, rfl, rfl⟩) (fun S I1 t1 o1 => ?_))
    rw [hdv, hwk k (by omega) S (tri_o o t1), p28_2]
    have o2 := o.tr o1
    refine g_istore_5 h dX10_advise_52 (by decide) rfl ?_
    refine g_iload_5 h dX10_advise_54 ?_
    refine g_iload_3 h dX10_advise_56 ?_
    refine g_icmp_ge h 66 dX10_advise_57 rfl (fun c57 => ?_) (fun c57 => ?_)
    · refine g_iinc_4 h dX10_advise_66 (inc1 _) (by decide) rfl ?_
      refine g_goto h 33 dX10_advise_69 rfl ?_
      first
        | exact ih (k + 1) I1 _ _ _ (by omega) o2 (by rw [if_pos (show wk k < le by first | exact c57 | exact Int32.not_le.mp c57)] at hv; exact hv)
        | exact ih (k + 1) I1 _ _ _ (by omega) o2 (by rw [if_neg (show ¬ wk k < le from Int32.not_lt.mpr c57)] at hv; exact hv)
    · refine g_iload_5 h dX10_advise_60 ?_
      refine g_istore_3 h dX10_advise_62 (by decide) rfl ?_
      refine g_iload_4 h dX10_advise_63 ?_
      refine g_istore_2 h dX10_advise_65 (by decide) rfl ?_
      refine g_iinc_4 h dX10_advise_66 (inc1 _) (by decide) rfl ?_
      refine g_goto h 33 dX10_advise_69 rfl ?_
      first
        | exact ih (k + 1) I1 _ _ _ (by omega) o2 (by rw [if_pos (show wk k < le by first | exact c57 | exact Int32.not_le.mp c57)] at hv; exact hv)
        | exact ih (k + 1) I1 _ _ _ (by omega) o2 (by rw [if_neg (show ¬ wk k < le from Int32.not_lt.mpr c57)] at hv; exact hv)
set_option maxRecDepth 100000 in
set_option maxHeartbeats 4000000 in
theorem sp_X10_advise {d : Nat} {x : Int32} {I : MI} {J : MJ} {P : MP} (hT : P 20 0 = some 36) (h0 : P 0 0 = some 36) (hD : tdOK (dv I)) {w0 : Nat → Int32} {wk : Nat → Nat → Int32} (hw0 : ∀ n, n ≤ 90 → ∀ S, tri I S → wrC (dv I) (psF (dv I) n S) = w0 n) (hwk : ∀ n, n ≤ 90 → ∀ k, k < nK (dv I) → ∀ S, tri I S → wrC (dv I) (psF (dv I) n (setRow S 6 (upd (S 6) k (nI 0)))) = wk n k) {Q : Int32 → MI → MJ → MP → Prop} (hQ : ∀ n, 1 ≤ n → n ≤ 90 → x = nI n → ∀ I', out28 I I' → Q (adF (wk n) (nK (dv I)) 0 (-1) (w0 n)) I' J (up2 P 28 0 (some 36))) (hX : (¬ ∃ n, 1 ≤ n ∧ n ≤ 90 ∧ x = nI n) → False) : Sp yX10_advise cX10_advise 6 (some .int) (d + 8) [.ref 0, .int x] I J P (Qi Q) := by
  intro Γ h
  show VG Γ 0 0 0 [some (.ref 0), some (.int x), none, none, none, none] [] _ _ _ _
  obtain ⟨eC, lC⟩ := td_C hD
  obtain ⟨eN, lN⟩ := td_N hD
  obtain ⟨eT, lT⟩ := td_T hD
  obtain ⟨eK, lK⟩ := td_K hD
  have eS := td_S hD
  refine g_iload_1 h dX10_advise_0 ?_
  refine g_iconst h dX10_advise_1 (v := nI 1) rfl ?_
  refine g_icmp_lt h 11 dX10_advise_2 rfl (fun c2 => ?_) (fun c2 => ?_)
  · refine False.elim ?_
    first
      | exact hX (fun ⟨w, w0, w1, w2⟩ => rngM w2 w0 w1 (by decide) (Or.inl c2))
      | exact hX (fun ⟨w, w0, w1, w2⟩ => rngM w2 w0 w1 (by decide) (Or.inr c8))
  · refine g_iload_1 h dX10_advise_5 ?_
    refine g_bipush h dX10_advise_6 (v := nI 90) rfl ?_
    refine g_icmp_le h 21 dX10_advise_8 rfl (fun c8 => ?_) (fun c8 => ?_)
    · obtain ⟨n, n1, n2, n3⟩ := rngJ c2 c8 (by decide)
      subst n3
      refine g_iconst h dX10_advise_21 (v := (-1)) rfl ?_
      refine g_istore_2 h dX10_advise_22 (by decide) rfl ?_
      refine g_aload_0 h dX10_advise_23 ?_
      refine g_iload_1 h dX10_advise_24 ?_
      refine g_iconst h dX10_advise_25 (v := (-1)) rfl ?_
      refine g_cVi2 h rok0 mi_X10_wrongBehind dX10_advise_26 ml_X10_243 rfl rfl rfl (Nat.le_of_ble_eq_true rfl) (Nat.le_of_ble_eq_true rfl) (sp_X10_wrongBehind (n := n) (F := fun S => S) (by omega) hT h0 hD (Or.inl ⟨fun ⟨k, k1, k2⟩ => absurd k2 (fun q => nI_pos (n := k) (by omega) (q ▸ (by decide : (-1 : Int32) < 0))), rfl⟩) (fun S I1 t1 o1 => ?_))
      rw [hw0 n n2 S t1]
      refine g_istore_3 h dX10_advise_29 (by decide) rfl ?_
      refine g_iconst h dX10_advise_30 (v := nI 0) rfl ?_
      refine g_istore_4 h dX10_advise_31 (by decide) rfl ?_
      exact lp_X10_advise (d := d) (by omega) hT h0 hD (hwk n n2) (hQ n n1 n2 rfl) h (nK (dv I)) 0 I1 _ _ _ (by omega) o1 rfl
    · refine False.elim ?_
      first
        | exact hX (fun ⟨w, w0, w1, w2⟩ => rngM w2 w0 w1 (by decide) (Or.inl c2))
        | exact hX (fun ⟨w, w0, w1, w2⟩ => rngM w2 w0 w1 (by decide) (Or.inr c8))
