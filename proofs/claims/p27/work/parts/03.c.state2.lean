theorem hasCjC {n c : Int32} {N : Nat} (hn : n = nI N) (hN : N ≤ 6) (h : ¬ b2i (has n c (nI 6)) = 0) : ∃ j, j < N ∧ c = nI j := by
  subst hn
  exact (has_t (by decide) hN).mp (b2i_n0.mp h)
theorem hasCjK {n c : Int32} {N : Nat} (hn : n = nI N) (hN : N ≤ 5) (h : ¬ b2i (has n c (nI 5)) = 0) : ∃ j, j < N ∧ c = nI j := by
  subst hn
  exact (has_t (by decide) hN).mp (b2i_n0.mp h)
theorem b2i_1 {b : Bool} (h : ¬ b2i b = 0) : b2i b = nI 1 := by rw [b2i_n0.mp h]; rfl
theorem b2i_00 {b : Bool} (h : b2i b = 0) : b2i b = nI 0 := by rw [b2i_0.mp h]; rfl
theorem add0 (x : Int32) : x + nI 0 = x := Int32.add_zero x
def anyB (p : Nat → Bool) : Nat → Nat → Bool
  | 0, _ => false
  | n + 1, i => if p i then true else anyB p n (i + 1)
theorem shp43 {a : Nat} (h : a < 6) : shp (43 + a) = .inr (0, 8) := by
  rcases (show a = 0 ∨ a = 1 ∨ a = 2 ∨ a = 3 ∨ a = 4 ∨ a = 5 by omega) with rfl | rfl | rfl | rfl | rfl | rfl <;> rfl
theorem shp65 {a : Nat} (h : a < 6) : shp (65 + a) = .inr (0, 8) := by
  rcases (show a = 0 ∨ a = 1 ∨ a = 2 ∨ a = 3 ∨ a = 4 ∨ a = 5 by omega) with rfl | rfl | rfl | rfl | rfl | rfl <;> rfl
def wrgB (r c : Int32) : Bool := !decide (r = c)
def tooB (t c : Int32) : Bool := decide (nI 5 * c < t)
set_option maxHeartbeats 4000000 in
theorem lp_X9_isOver_36 {Γ : Cx} {d a z : Nat} {I : MI} {J : MJ} {P : MP} (ha : a < 6) (hz : I 41 a = nI z) (hz8 : z ≤ 8) {x : Int32} {Q : Int32 → MI → MJ → MP → Prop} (h : Vc RX9 cX9_isOver 4 (some .boolean) (d) Γ) : ∀ (f n : Nat), n + f = z → Q (b2i (anyB (fun n => decide (I (43 + a) n = x)) f n)) I J P → VG Γ 0 0 2 [some (.ref 36), some (.int (nI a)), some (.int x), some (.int (nI n))] [] I J P (Fnl Γ (Qi Q)) := by
  intro f
  induction f with
  | zero =>
    intro n hn hQ
    refine g_iload_3 h dX9_isOver_2 ?_
    refine g_aload_0 h dX9_isOver_3 ?_
    refine g_getC h fl_X9_38 dX9_isOver_4 rfl rfl ?_
    refine g_iload_1 h dX9_isOver_7 ?_
    refine g_iald h a dX9_isOver_8 rfl rfl ha ?_
    refine g_icmp_ge h 32 dX9_isOver_9 rfl (fun c9 => ?_) (fun c9 => ?_)
    · refine g_iconst h dX9_isOver_32 (v := nI 0) rfl ?_
      refine g_zret h dX9_isOver_33 (by first | rfl | exact nar_b2i _) ?_
      exact hQ
    · exact absurd (by rw [hz]; exact nI_le (by omega) (by omega)) c9
  | succ f ih =>
    intro n hn hQ
    refine g_iload_3 h dX9_isOver_2 ?_
    refine g_aload_0 h dX9_isOver_3 ?_
    refine g_getC h fl_X9_38 dX9_isOver_4 rfl rfl ?_
    refine g_iload_1 h dX9_isOver_7 ?_
    refine g_iald h a dX9_isOver_8 rfl rfl ha ?_
    refine g_icmp_ge h 32 dX9_isOver_9 rfl (fun c9 => ?_) (fun c9 => ?_)
    · exact absurd (leN (by simpa only [hz] using c9) (by omega) (by omega)) (by omega)
    · refine g_aload_0 h dX9_isOver_12 ?_
      refine g_getC h fl_X9_43 dX9_isOver_13 rfl rfl ?_
      refine g_iload_1 h dX9_isOver_16 ?_
      refine g_aald h a dX9_isOver_17 rfl rfl ha ?_
      refine g_iload_3 h dX9_isOver_18 ?_
      refine g_iald h n dX9_isOver_19 (shp43 ha) rfl (by omega) ?_
      refine g_iload_2 h dX9_isOver_20 ?_
      refine g_icmp_ne h 26 dX9_isOver_21 rfl (fun c21 => ?_) (fun c21 => ?_)
      · refine g_iinc_3 h dX9_isOver_26 (inc1 _) (by decide) rfl ?_
        refine g_goto h 2 dX9_isOver_29 rfl ?_
        exact ih (n + 1) (by omega) (q_i (by simp [anyB, c21]) hQ)
      · refine g_iconst h dX9_isOver_24 (v := nI 1) rfl ?_
        refine g_zret h dX9_isOver_25 (by first | rfl | exact nar_b2i _) ?_
        exact q_i (by simp [anyB, c21, b2i]) hQ
set_option maxRecDepth 100000 in
set_option maxHeartbeats 4000000 in
theorem sp_X9_isOver_36 {d a z : Nat} {I : MI} {J : MJ} {P : MP} (ha : a < 6) (hz : I 41 a = nI z) (hz8 : z ≤ 8) {x : Int32} {Q : Int32 → MI → MJ → MP → Prop} (hQ : Q (b2i (anyB (fun n => decide (I (43 + a) n = x)) z 0)) I J P) : Sp yX9_isOver cX9_isOver 4 (some .boolean) (d) [.ref 36, .int (nI a), .int x] I J P (Qi Q) := by
  intro Γ h
  show VG Γ 0 0 0 [some (.ref 36), some (.int (nI a)), some (.int x), none] [] _ _ _ _
  refine g_iconst h dX9_isOver_0 (v := nI 0) rfl ?_
  refine g_istore_3 h dX9_isOver_1 (by decide) rfl ?_
  exact lp_X9_isOver_36 ha hz hz8 h z 0 (by omega) hQ
set_option maxHeartbeats 4000000 in
theorem lp_X9_isOver_58 {Γ : Cx} {d a z : Nat} {I : MI} {J : MJ} {P : MP} (ha : a < 6) (hz : I 63 a = nI z) (hz8 : z ≤ 8) {x : Int32} {Q : Int32 → MI → MJ → MP → Prop} (h : Vc RX9 cX9_isOver 4 (some .boolean) (d) Γ) : ∀ (f n : Nat), n + f = z → Q (b2i (anyB (fun n => decide (I (65 + a) n = x)) f n)) I J P → VG Γ 0 0 2 [some (.ref 58), some (.int (nI a)), some (.int x), some (.int (nI n))] [] I J P (Fnl Γ (Qi Q)) := by
  intro f
  induction f with
  | zero =>
    intro n hn hQ
    refine g_iload_3 h dX9_isOver_2 ?_
    refine g_aload_0 h dX9_isOver_3 ?_
    refine g_getC h fl_X9_38 dX9_isOver_4 rfl rfl ?_
    refine g_iload_1 h dX9_isOver_7 ?_
    refine g_iald h a dX9_isOver_8 rfl rfl ha ?_
    refine g_icmp_ge h 32 dX9_isOver_9 rfl (fun c9 => ?_) (fun c9 => ?_)
    · refine g_iconst h dX9_isOver_32 (v := nI 0) rfl ?_
      refine g_zret h dX9_isOver_33 (by first | rfl | exact nar_b2i _) ?_
      exact hQ
    · exact absurd (by rw [hz]; exact nI_le (by omega) (by omega)) c9
  | succ f ih =>
    intro n hn hQ
    refine g_iload_3 h dX9_isOver_2 ?_
    refine g_aload_0 h dX9_isOver_3 ?_
    refine g_getC h fl_X9_38 dX9_isOver_4 rfl rfl ?_
    refine g_iload_1 h dX9_isOver_7 ?_
    refine g_iald h a dX9_isOver_8 rfl rfl ha ?_
    refine g_icmp_ge h 32 dX9_isOver_9 rfl (fun c9 => ?_) (fun c9 => ?_)
    · exact absurd (leN (by simpa only [hz] using c9) (by omega) (by omega)) (by omega)
    · refine g_aload_0 h dX9_isOver_12 ?_
      refine g_getC h fl_X9_43 dX9_isOver_13 rfl rfl ?_
      refine g_iload_1 h dX9_isOver_16 ?_
      refine g_aald h a dX9_isOver_17 rfl rfl ha ?_
      refine g_iload_3 h dX9_isOver_18 ?_
      refine g_iald h n dX9_isOver_19 (shp65 ha) rfl (by omega) ?_
      refine g_iload_2 h dX9_isOver_20 ?_
      refine g_icmp_ne h 26 dX9_isOver_21 rfl (fun c21 => ?_) (fun c21 => ?_)
      · refine g_iinc_3 h dX9_isOver_26 (inc1 _) (by decide) rfl ?_
        refine g_goto h 2 dX9_isOver_29 rfl ?_
        exact ih (n + 1) (by omega) (q_i (by simp [anyB, c21]) hQ)
      · refine g_iconst h dX9_isOver_24 (v := nI 1) rfl ?_
        refine g_zret h dX9_isOver_25 (by first | rfl | exact nar_b2i _) ?_
        exact q_i (by simp [anyB, c21, b2i]) hQ
set_option maxRecDepth 100000 in
set_option maxHeartbeats 4000000 in
theorem sp_X9_isOver_58 {d a z : Nat} {I : MI} {J : MJ} {P : MP} (ha : a < 6) (hz : I 63 a = nI z) (hz8 : z ≤ 8) {x : Int32} {Q : Int32 → MI → MJ → MP → Prop} (hQ : Q (b2i (anyB (fun n => decide (I (65 + a) n = x)) z 0)) I J P) : Sp yX9_isOver cX9_isOver 4 (some .boolean) (d) [.ref 58, .int (nI a), .int x] I J P (Qi Q) := by
  intro Γ h
  show VG Γ 0 0 0 [some (.ref 58), some (.int (nI a)), some (.int x), none] [] _ _ _ _
  refine g_iconst h dX9_isOver_0 (v := nI 0) rfl ?_
  refine g_istore_3 h dX9_isOver_1 (by decide) rfl ?_
  exact lp_X9_isOver_58 ha hz hz8 h z 0 (by omega) hQ
set_option maxRecDepth 100000 in
set_option maxHeartbeats 4000000 in
theorem sp_X5_rankOf_20 {d C i : Nat} {I : MI} {J : MJ} {P : MP} (hT : P 20 0 = some 36) (hC : I 36 0 = nI C) (hC6 : C ≤ 6) (hi : i < 16) {Q : Int32 → MI → MJ → MP → Prop} (hQ : Q (rnk (I 37) (I 21) C i) I J P) : Sp yX5_rankOf cX5_rankOf 3 (some .int) (d + 1) [.ref 20, .int (nI i)] I J P (Qi Q) := by
  intro Γ h
  show VG Γ 0 0 0 [some (.ref 20), some (.int (nI i)), none] [] _ _ _ _
  refine g_aload_0 h dX5_rankOf_0 ?_
  refine g_getC h fl_X5_21 dX5_rankOf_1 rfl rfl ?_
  refine g_iload_1 h dX5_rankOf_4 ?_
  refine g_iald h i dX5_rankOf_5 rfl rfl hi ?_
  refine g_istore_2 h dX5_rankOf_6 (by decide) rfl ?_
  refine g_aload_0 h dX5_rankOf_7 ?_
  refine g_getP h fl_X5_43 dX5_rankOf_8 rfl rfl (by assumption) ?_
  refine g_iload_2 h dX5_rankOf_11 ?_
  refine g_cVi1 h rok0 mi_X9_hasColour dX5_rankOf_12 ml_X5_99 rfl rfl rfl (Nat.le_of_ble_eq_true rfl) (Nat.le_of_ble_eq_true rfl) (sp_X9_hasColour (Or.inl rfl) ?_)
  refine g_if_eq h 30 dX5_rankOf_15 rfl (fun c15 => ?_) (fun c15 => ?_)
  · refine g_iconst h dX5_rankOf_30 (v := nI 0) rfl ?_
    refine g_iret h dX5_rankOf_31 ?_
    first
      | exact q_i (by rw [rnk, ← hC, hasT c15, if_pos rfl, ej, ix_n (by omega)]) hQ
      | exact q_i (by rw [rnk, ← hC, hasF c15, if_neg Bool.false_ne_true]) hQ
  · obtain ⟨j, hj, ej⟩ := hasCjC hC hC6 c15
    refine g_aload_0 h dX5_rankOf_18 ?_
    refine g_getP h fl_X5_43 dX5_rankOf_19 rfl rfl (by assumption) ?_
    refine g_getC h fl_X5_102 dX5_rankOf_22 rfl rfl ?_
    refine g_iload_2 h dX5_rankOf_25 ?_
    refine g_iald h j dX5_rankOf_26 rfl ej (by omega) ?_
    refine g_goto h 31 dX5_rankOf_27 rfl ?_
    refine g_iret h dX5_rankOf_31 ?_
    first
      | exact q_i (by rw [rnk, ← hC, hasT c15, if_pos rfl, ej, ix_n (by omega)]) hQ
      | exact q_i (by rw [rnk, ← hC, hasF c15, if_neg Bool.false_ne_true]) hQ
set_option maxRecDepth 100000 in
set_option maxHeartbeats 4000000 in
theorem sp_X5_standsAhead_20 {d C i k : Nat} {I : MI} {J : MJ} {P : MP} (hT : P 20 0 = some 36) (hC : I 36 0 = nI C) (hC6 : C ≤ 6) (hi : i < 16) (hk : k < 16) {Q : Int32 → MI → MJ → MP → Prop} (hQ : Q (b2i (ahd (I 37) (I 21) C (I 24) i k)) I J P) : Sp yX5_standsAhead cX5_standsAhead 5 (some .boolean) (d + 2) [.ref 20, .int (nI i), .int (nI k)] I J P (Qi Q) := by
  intro Γ h
  show VG Γ 0 0 0 [some (.ref 20), some (.int (nI i)), some (.int (nI k)), none, none] [] _ _ _ _
  refine g_aload_0 h dX5_standsAhead_0 ?_
  refine g_iload_1 h dX5_standsAhead_1 ?_
  refine g_cVi1 h rok0 mi_X5_rankOf dX5_standsAhead_2 ml_X5_96 rfl rfl rfl (Nat.le_of_ble_eq_true rfl) (Nat.le_of_ble_eq_true rfl) (sp_X5_rankOf_20 hT hC hC6 (by omega) ?_)
  refine g_istore_3 h dX5_standsAhead_5 (by decide) rfl ?_
  refine g_aload_0 h dX5_standsAhead_6 ?_
  refine g_iload_2 h dX5_standsAhead_7 ?_
  refine g_cVi1 h rok0 mi_X5_rankOf dX5_standsAhead_8 ml_X5_96 rfl rfl rfl (Nat.le_of_ble_eq_true rfl) (Nat.le_of_ble_eq_true rfl) (sp_X5_rankOf_20 hT hC hC6 (by omega) ?_)
  refine g_istore_4 h dX5_standsAhead_11 (by decide) rfl ?_
  refine g_iload_3 h dX5_standsAhead_13 ?_
  refine g_iload_4 h dX5_standsAhead_14 ?_
  refine g_icmp_eq h 31 dX5_standsAhead_16 rfl (fun c16 => ?_) (fun c16 => ?_)
  · refine g_aload_0 h dX5_standsAhead_31 ?_
    refine g_getC h fl_X5_31 dX5_standsAhead_32 rfl rfl ?_
    refine g_iload_1 h dX5_standsAhead_35 ?_
    refine g_iald h i dX5_standsAhead_36 rfl rfl hi ?_
    refine g_aload_0 h dX5_standsAhead_37 ?_
    refine g_getC h fl_X5_31 dX5_standsAhead_38 rfl rfl ?_
    refine g_iload_2 h dX5_standsAhead_41 ?_
    refine g_iald h k dX5_standsAhead_42 rfl rfl hk ?_
    refine g_icmp_eq h 69 dX5_standsAhead_43 rfl (fun c43 => ?_) (fun c43 => ?_)
    · refine g_iload_1 h dX5_standsAhead_69 ?_
      refine g_iload_2 h dX5_standsAhead_70 ?_
      refine g_icmp_ge h 78 dX5_standsAhead_71 rfl (fun c71 => ?_) (fun c71 => ?_)
      · refine g_iconst h dX5_standsAhead_78 (v := nI 0) rfl ?_
        refine g_zret h dX5_standsAhead_79 (by first | rfl | exact nar_b2i _) ?_
        first
          | exact q_i (by rw [ahd, if_pos c16, if_neg c43, decide_eq_true (Int32.not_le.mp c58)]; rfl) hQ
          | exact q_i (by rw [ahd, if_pos c16, if_neg c43, decide_eq_false (Int32.not_lt.mpr c58)]; rfl) hQ
          | exact q_i (by rw [ahd, if_pos c16, if_pos c43, decide_eq_true (Nat.lt_of_not_le (fun q => c71 (nI_le q (by omega))))]; rfl) hQ
          | exact q_i (by rw [ahd, if_pos c16, if_pos c43, decide_eq_false (Nat.not_lt.mpr (leN c71 (by omega) (by omega)))]; rfl) hQ
      · refine g_iconst h dX5_standsAhead_74 (v := nI 1) rfl ?_
        refine g_goto h 79 dX5_standsAhead_75 rfl ?_
        refine g_zret h dX5_standsAhead_79 (by first | rfl | exact nar_b2i _) ?_
        first
          | exact q_i (by rw [ahd, if_pos c16, if_neg c43, decide_eq_true (Int32.not_le.mp c58)]; rfl) hQ
          | exact q_i (by rw [ahd, if_pos c16, if_neg c43, decide_eq_false (Int32.not_lt.mpr c58)]; rfl) hQ
          | exact q_i (by rw [ahd, if_pos c16, if_pos c43, decide_eq_true (Nat.lt_of_not_le (fun q => c71 (nI_le q (by omega))))]; rfl) hQ
          | exact q_i (by rw [ahd, if_pos c16, if_pos c43, decide_eq_false (Nat.not_lt.mpr (leN c71 (by omega) (by omega)))]; rfl) hQ
    · refine g_aload_0 h dX5_standsAhead_46 ?_
      refine g_getC h fl_X5_31 dX5_standsAhead_47 rfl rfl ?_
      refine g_iload_1 h dX5_standsAhead_50 ?_
      refine g_iald h i dX5_standsAhead_51 rfl rfl hi ?_
      refine g_aload_0 h dX5_standsAhead_52 ?_
      refine g_getC h fl_X5_31 dX5_standsAhead_53 rfl rfl ?_
      refine g_iload_2 h dX5_standsAhead_56 ?_
      refine g_iald h k dX5_standsAhead_57 rfl rfl hk ?_
      refine g_icmp_le h 65 dX5_standsAhead_58 rfl (fun c58 => ?_) (fun c58 => ?_)
      · refine g_iconst h dX5_standsAhead_65 (v := nI 0) rfl ?_
        refine g_goto h 79 dX5_standsAhead_66 rfl ?_
        refine g_zret h dX5_standsAhead_79 (by first | rfl | exact nar_b2i _) ?_
        first
          | exact q_i (by rw [ahd, if_pos c16, if_neg c43, decide_eq_true (Int32.not_le.mp c58)]; rfl) hQ
          | exact q_i (by rw [ahd, if_pos c16, if_neg c43, decide_eq_false (Int32.not_lt.mpr c58)]; rfl) hQ
          | exact q_i (by rw [ahd, if_pos c16, if_pos c43, decide_eq_true (Nat.lt_of_not_le (fun q => c71 (nI_le q (by omega))))]; rfl) hQ
          | exact q_i (by rw [ahd, if_pos c16, if_pos c43, decide_eq_false (Nat.not_lt.mpr (leN c71 (by omega) (by omega)))]; rfl) hQ
      · refine g_iconst h dX5_standsAhead_61 (v := nI 1) rfl ?_
        refine g_goto h 79 dX5_standsAhead_62 rfl ?_
        refine g_zret h dX5_standsAhead_79 (by first | rfl | exact nar_b2i _) ?_
        first
          | exact q_i (by rw [ahd, if_pos c16, if_neg c43, decide_eq_true (Int32.not_le.mp c58)]; rfl) hQ
          | exact q_i (by rw [ahd, if_pos c16, if_neg c43, decide_eq_false (Int32.not_lt.mpr c58)]; rfl) hQ
          | exact q_i (by rw [ahd, if_pos c16, if_pos c43, decide_eq_true (Nat.lt_of_not_le (fun q => c71 (nI_le q (by omega))))]; rfl) hQ
          | exact q_i (by rw [ahd, if_pos c16, if_pos c43, decide_eq_false (Nat.not_lt.mpr (leN c71 (by omega) (by omega)))]; rfl) hQ
  · refine g_iload_3 h dX5_standsAhead_19 ?_
    refine g_iload_4 h dX5_standsAhead_20 ?_
    refine g_icmp_ge h 29 dX5_standsAhead_22 rfl (fun c22 => ?_) (fun c22 => ?_)
    · refine g_iconst h dX5_standsAhead_29 (v := nI 0) rfl ?_
      refine g_zret h dX5_standsAhead_30 (by first | rfl | exact nar_b2i _) ?_
      first
        | exact q_i (by rw [ahd, if_neg c16, decide_eq_true (Int32.not_le.mp c22)]; rfl) hQ
        | exact q_i (by rw [ahd, if_neg c16, decide_eq_false (Int32.not_lt.mpr c22)]; rfl) hQ
    · refine g_iconst h dX5_standsAhead_25 (v := nI 1) rfl ?_
      refine g_goto h 30 dX5_standsAhead_26 rfl ?_
      refine g_zret h dX5_standsAhead_30 (by first | rfl | exact nar_b2i _) ?_
      first
        | exact q_i (by rw [ahd, if_neg c16, decide_eq_true (Int32.not_le.mp c22)]; rfl) hQ
        | exact q_i (by rw [ahd, if_neg c16, decide_eq_false (Int32.not_lt.mpr c22)]; rfl) hQ
set_option maxHeartbeats 4000000 in
theorem lq_X5_cordInPlace_20 {Γ : Cx} {d N C i : Nat} {I : MI} {J : MJ} {P : MP} (hT : P 20 0 = some 36) (hN : I 36 1 = nI N) (hN16 : N ≤ 16) (hC : I 36 0 = nI C) (hC6 : C ≤ 6) (hi : i < N) {x : Int32} {Φ : State → Prop} (h : Vc RX5 cX5_cordInPlace 5 (some .int) (d + 3) Γ) : ∀ (f j : Nat) (a : Int32), j + f = N → (∀ a', a' = sumF (fun k => b2i (ahd (I 37) (I 21) C (I 24) k i)) f j a → VG Γ 0 0 54 [some (.ref 20), some (.int x), some (.int (nI i)), some (.int a'), some (.int (nI N))] [] I J P Φ) → VG Γ 0 0 18 [some (.ref 20), some (.int x), some (.int (nI i)), some (.int a), some (.int (nI j))] [] I J P Φ := by
  intro f
  induction f with
  | zero =>
    intro j a hj K
    obtain rfl : j = N := by omega
    refine g_iload_4 h dX5_cordInPlace_18 ?_
    refine g_aload_0 h dX5_cordInPlace_20 ?_
    refine g_getP h fl_X5_43 dX5_cordInPlace_21 rfl rfl (by assumption) ?_
    refine g_getI h fl_X5_53 dX5_cordInPlace_24 rfl rfl ?_
    refine g_icmp_ge h 54 dX5_cordInPlace_27 rfl (fun c27 => ?_) (fun c27 => ?_)
    · exact K _ rfl
    · exact absurd (by rw [hN]; exact nI_le (by omega) (by omega)) c27
  | succ f ih =>
    intro j a hj K
    refine g_iload_4 h dX5_cordInPlace_18 ?_
    refine g_aload_0 h dX5_cordInPlace_20 ?_
    refine g_getP h fl_X5_43 dX5_cordInPlace_21 rfl rfl (by assumption) ?_
    refine g_getI h fl_X5_53 dX5_cordInPlace_24 rfl rfl ?_
    refine g_icmp_ge h 54 dX5_cordInPlace_27 rfl (fun c27 => ?_) (fun c27 => ?_)
    · exact absurd (leN (by simpa only [hN] using c27) (by omega) (by omega)) (by omega)
    · refine g_iload_3 h dX5_cordInPlace_30 ?_
      refine g_aload_0 h dX5_cordInPlace_31 ?_
      refine g_iload_4 h dX5_cordInPlace_32 ?_
      refine g_iload_2 h dX5_cordInPlace_34 ?_
      refine g_cVi2 h rok0 mi_X5_standsAhead dX5_cordInPlace_35 ml_X5_93 rfl rfl rfl (Nat.le_of_ble_eq_true rfl) (Nat.le_of_ble_eq_true rfl) (sp_X5_standsAhead_20 hT hC hC6 (by omega) (by omega) ?_)
      refine g_if_eq h 45 dX5_cordInPlace_38 rfl (fun c38 => ?_) (fun c38 => ?_)
      · refine g_iconst h dX5_cordInPlace_45 (v := nI 0) rfl ?_
        refine g_iadd h dX5_cordInPlace_46 ?_
        refine g_istore_3 h dX5_cordInPlace_47 (by decide) rfl ?_
        refine g_iinc_4 h dX5_cordInPlace_48 (inc1 _) (by decide) rfl ?_
        refine g_goto h 18 dX5_cordInPlace_51 rfl ?_
        first
          | exact ih (j + 1) _ (by omega) (fun a' e => K a' (e.trans (by simp only [sumF]; rw [b2i_1 c38])))
          | exact ih (j + 1) _ (by omega) (fun a' e => K a' (e.trans (by simp only [sumF]; rw [b2i_00 c38])))
      · refine g_iconst h dX5_cordInPlace_41 (v := nI 1) rfl ?_
        refine g_goto h 46 dX5_cordInPlace_42 rfl ?_
        refine g_iadd h dX5_cordInPlace_46 ?_
        refine g_istore_3 h dX5_cordInPlace_47 (by decide) rfl ?_
        refine g_iinc_4 h dX5_cordInPlace_48 (inc1 _) (by decide) rfl ?_
        refine g_goto h 18 dX5_cordInPlace_51 rfl ?_
        first
          | exact ih (j + 1) _ (by omega) (fun a' e => K a' (e.trans (by simp only [sumF]; rw [b2i_1 c38])))
          | exact ih (j + 1) _ (by omega) (fun a' e => K a' (e.trans (by simp only [sumF]; rw [b2i_00 c38])))
set_option maxHeartbeats 4000000 in
theorem lp_X5_cordInPlace_20 {Γ : Cx} {d N C : Nat} {I : MI} {J : MJ} {P : MP} (hT : P 20 0 = some 36) (hN : I 36 1 = nI N) (hN16 : N ≤ 16) (hC : I 36 0 = nI C) (hC6 : C ≤ 6) {x : Int32} {Q : Int32 → MI → MJ → MP → Prop} (h : Vc RX5 cX5_cordInPlace 5 (some .int) (d + 3) Γ) : ∀ (f i : Nat) (x3 x4 : Option Value), i + f = N → Q (frst (fun i => decide (sumF (fun k => b2i (ahd (I 37) (I 21) C (I 24) k i)) N 0 (nI 0) = x)) f i) I J P → VG Γ 0 0 2 [some (.ref 20), some (.int x), some (.int (nI i)), x3, x4] [] I J P (Fnl Γ (Qi Q)) := by
  intro f
  induction f with
  | zero =>
    intro i x3 x4 hi hQ
    refine g_iload_2 h dX5_cordInPlace_2 ?_
    refine g_aload_0 h dX5_cordInPlace_3 ?_
    refine g_getP h fl_X5_43 dX5_cordInPlace_4 rfl rfl (by assumption) ?_
    refine g_getI h fl_X5_53 dX5_cordInPlace_7 rfl rfl ?_
    refine g_icmp_ge h 67 dX5_cordInPlace_10 rfl (fun c10 => ?_) (fun c10 => ?_)
    · refine g_iconst h dX5_cordInPlace_67 (v := (-1)) rfl ?_
      refine g_iret h dX5_cordInPlace_68 ?_
      exact hQ
    · exact absurd (by rw [hN]; exact nI_le (by omega) (by omega)) c10
  | succ f ih =>
    intro i x3 x4 hi hQ
    refine g_iload_2 h dX5_cordInPlace_2 ?_
    refine g_aload_0 h dX5_cordInPlace_3 ?_
    refine g_getP h fl_X5_43 dX5_cordInPlace_4 rfl rfl (by assumption) ?_
    refine g_getI h fl_X5_53 dX5_cordInPlace_7 rfl rfl ?_
    refine g_icmp_ge h 67 dX5_cordInPlace_10 rfl (fun c10 => ?_) (fun c10 => ?_)
    · exact absurd (leN (by simpa only [hN] using c10) (by omega) (by omega)) (by omega)
    · refine g_iconst h dX5_cordInPlace_13 (v := nI 0) rfl ?_
      refine g_istore_3 h dX5_cordInPlace_14 (by decide) rfl ?_
      refine g_iconst h dX5_cordInPlace_15 (v := nI 0) rfl ?_
      refine g_istore_4 h dX5_cordInPlace_16 (by decide) rfl ?_
      refine lq_X5_cordInPlace_20 hT hN hN16 hC hC6 (by omega) h N 0 _ (by omega) (fun a ea => ?_)
      refine g_iload_3 h dX5_cordInPlace_54 ?_
      refine g_iload_1 h dX5_cordInPlace_55 ?_
      refine g_icmp_ne h 61 dX5_cordInPlace_56 rfl (fun c56 => ?_) (fun c56 => ?_)
      · refine g_iinc_2 h dX5_cordInPlace_61 (inc1 _) (by decide) rfl ?_
        refine g_goto h 2 dX5_cordInPlace_64 rfl ?_
        exact ih (i + 1) _ _ (by omega) (q_i (by simp only [frst]; rw [if_neg (by rw [decide_eq_false (fun q => c56 (ea.trans q))]; exact Bool.false_ne_true)]) hQ)
      · refine g_iload_2 h dX5_cordInPlace_59 ?_
        refine g_iret h dX5_cordInPlace_60 ?_
        exact q_i (by simp only [frst]; rw [if_pos (decide_eq_true (ea.symm.trans c56))]) hQ
set_option maxRecDepth 100000 in
set_option maxHeartbeats 4000000 in
theorem sp_X5_cordInPlace_20 {d N C : Nat} {I : MI} {J : MJ} {P : MP} (hT : P 20 0 = some 36) (hN : I 36 1 = nI N) (hN16 : N ≤ 16) (hC : I 36 0 = nI C) (hC6 : C ≤ 6) {x : Int32} {Q : Int32 → MI → MJ → MP → Prop} (hQ : Q (frst (fun i => decide (sumF (fun k => b2i (ahd (I 37) (I 21) C (I 24) k i)) N 0 (nI 0) = x)) N 0) I J P) : Sp yX5_cordInPlace cX5_cordInPlace 5 (some .int) (d + 3) [.ref 20, .int x] I J P (Qi Q) := by
  intro Γ h
  show VG Γ 0 0 0 [some (.ref 20), some (.int x), none, none, none] [] _ _ _ _
  refine g_iconst h dX5_cordInPlace_0 (v := nI 0) rfl ?_
  refine g_istore_2 h dX5_cordInPlace_1 (by decide) rfl ?_
  exact lp_X5_cordInPlace_20 hT hN hN16 hC hC6 h N 0 _ _ (by omega) hQ
set_option maxHeartbeats 4000000 in
theorem lp_X5_cordsUnder_20 {Γ : Cx} {d N : Nat} {I : MI} {J : MJ} {P : MP} (hT : P 20 0 = some 36) (hN : I 36 1 = nI N) (hN16 : N ≤ 16) {x : Int32} {Q : Int32 → MI → MJ → MP → Prop} (h : Vc RX5 cX5_cordsUnder 4 (some .int) (d) Γ) : ∀ (f i : Nat) (a : Int32), i + f = N → Q (sumF (fun i => if I 22 i = x then nI 1 else nI 0) f i a) I J P → VG Γ 0 0 4 [some (.ref 20), some (.int x), some (.int a), some (.int (nI i))] [] I J P (Fnl Γ (Qi Q)) := by
  intro f
  induction f with
  | zero =>
    intro i a hi hQ
    refine g_iload_3 h dX5_cordsUnder_4 ?_
    refine g_aload_0 h dX5_cordsUnder_5 ?_
    refine g_getP h fl_X5_43 dX5_cordsUnder_6 rfl rfl (by assumption) ?_
    refine g_getI h fl_X5_53 dX5_cordsUnder_9 rfl rfl ?_
    refine g_icmp_ge h 39 dX5_cordsUnder_12 rfl (fun c12 => ?_) (fun c12 => ?_)
    · refine g_iload_2 h dX5_cordsUnder_39 ?_
      refine g_iret h dX5_cordsUnder_40 ?_
      exact hQ
    · exact absurd (by rw [hN]; exact nI_le (by omega) (by omega)) c12
  | succ f ih =>
    intro i a hi hQ
    refine g_iload_3 h dX5_cordsUnder_4 ?_
    refine g_aload_0 h dX5_cordsUnder_5 ?_
    refine g_getP h fl_X5_43 dX5_cordsUnder_6 rfl rfl (by assumption) ?_
    refine g_getI h fl_X5_53 dX5_cordsUnder_9 rfl rfl ?_
    refine g_icmp_ge h 39 dX5_cordsUnder_12 rfl (fun c12 => ?_) (fun c12 => ?_)
    · exact absurd (leN (by simpa only [hN] using c12) (by omega) (by omega)) (by omega)
    · refine g_iload_2 h dX5_cordsUnder_15 ?_
      refine g_aload_0 h dX5_cordsUnder_16 ?_
      refine g_getC h fl_X5_25 dX5_cordsUnder_17 rfl rfl ?_
      refine g_iload_3 h dX5_cordsUnder_20 ?_
      refine g_iald h i dX5_cordsUnder_21 rfl rfl (by omega) ?_
      refine g_iload_1 h dX5_cordsUnder_22 ?_
      refine g_icmp_ne h 30 dX5_cordsUnder_23 rfl (fun c23 => ?_) (fun c23 => ?_)
      · refine g_iconst h dX5_cordsUnder_30 (v := nI 0) rfl ?_
        refine g_iadd h dX5_cordsUnder_31 ?_
        refine g_istore_2 h dX5_cordsUnder_32 (by decide) rfl ?_
        refine g_iinc_3 h dX5_cordsUnder_33 (inc1 _) (by decide) rfl ?_
        refine g_goto h 4 dX5_cordsUnder_36 rfl ?_
        exact ih (i + 1) _ (by omega) (q_i (by simp [sumF, c23]) hQ)
      · refine g_iconst h dX5_cordsUnder_26 (v := nI 1) rfl ?_
        refine g_goto h 31 dX5_cordsUnder_27 rfl ?_
        refine g_iadd h dX5_cordsUnder_31 ?_
        refine g_istore_2 h dX5_cordsUnder_32 (by decide) rfl ?_
        refine g_iinc_3 h dX5_cordsUnder_33 (inc1 _) (by decide) rfl ?_
        refine g_goto h 4 dX5_cordsUnder_36 rfl ?_
        exact ih (i + 1) _ (by omega) (q_i (by simp [sumF, c23]) hQ)
set_option maxRecDepth 100000 in
set_option maxHeartbeats 4000000 in
theorem sp_X5_cordsUnder_20 {d N : Nat} {I : MI} {J : MJ} {P : MP} (hT : P 20 0 = some 36) (hN : I 36 1 = nI N) (hN16 : N ≤ 16) {x : Int32} {Q : Int32 → MI → MJ → MP → Prop} (hQ : Q (sumF (fun i => if I 22 i = x then nI 1 else nI 0) N 0 (nI 0)) I J P) : Sp yX5_cordsUnder cX5_cordsUnder 4 (some .int) (d) [.ref 20, .int x] I J P (Qi Q) := by
  intro Γ h
  show VG Γ 0 0 0 [some (.ref 20), some (.int x), none, none] [] _ _ _ _
  refine g_iconst h dX5_cordsUnder_0 (v := nI 0) rfl ?_
  refine g_istore_2 h dX5_cordsUnder_1 (by decide) rfl ?_
  refine g_iconst h dX5_cordsUnder_2 (v := nI 0) rfl ?_
  refine g_istore_3 h dX5_cordsUnder_3 (by decide) rfl ?_
  exact lp_X5_cordsUnder_20 hT hN hN16 h N 0 _ (by omega) hQ
set_option maxHeartbeats 4000000 in
theorem lp_X5_cordWithSum_20 {Γ : Cx} {d N : Nat} {I : MI} {J : MJ} {P : MP} (hT : P 20 0 = some 36) (hN : I 36 1 = nI N) (hN16 : N ≤ 16) {x : Int32} {Q : Int32 → MI → MJ → MP → Prop} (h : Vc RX5 cX5_cordWithSum 3 (some .int) (d) Γ) : ∀ (f i : Nat), i + f = N → Q (frst (fun i => decide (I 24 i = x)) f i) I J P → VG Γ 0 0 2 [some (.ref 20), some (.int x), some (.int (nI i))] [] I J P (Fnl Γ (Qi Q)) := by
  intro f
  induction f with
  | zero =>
    intro i hi hQ
    refine g_iload_2 h dX5_cordWithSum_2 ?_
    refine g_aload_0 h dX5_cordWithSum_3 ?_
    refine g_getP h fl_X5_43 dX5_cordWithSum_4 rfl rfl (by assumption) ?_
    refine g_getI h fl_X5_53 dX5_cordWithSum_7 rfl rfl ?_
    refine g_icmp_ge h 31 dX5_cordWithSum_10 rfl (fun c10 => ?_) (fun c10 => ?_)
    · refine g_iconst h dX5_cordWithSum_31 (v := (-1)) rfl ?_
      refine g_iret h dX5_cordWithSum_32 ?_
      exact hQ
    · exact absurd (by rw [hN]; exact nI_le (by omega) (by omega)) c10
  | succ f ih =>
    intro i hi hQ
    refine g_iload_2 h dX5_cordWithSum_2 ?_
    refine g_aload_0 h dX5_cordWithSum_3 ?_
    refine g_getP h fl_X5_43 dX5_cordWithSum_4 rfl rfl (by assumption) ?_
    refine g_getI h fl_X5_53 dX5_cordWithSum_7 rfl rfl ?_
    refine g_icmp_ge h 31 dX5_cordWithSum_10 rfl (fun c10 => ?_) (fun c10 => ?_)
    · exact absurd (leN (by simpa only [hN] using c10) (by omega) (by omega)) (by omega)
    · refine g_aload_0 h dX5_cordWithSum_13 ?_
      refine g_getC h fl_X5_31 dX5_cordWithSum_14 rfl rfl ?_
      refine g_iload_2 h dX5_cordWithSum_17 ?_
      refine g_iald h i dX5_cordWithSum_18 rfl rfl (by omega) ?_
      refine g_iload_1 h dX5_cordWithSum_19 ?_
      refine g_icmp_ne h 25 dX5_cordWithSum_20 rfl (fun c20 => ?_) (fun c20 => ?_)
      · refine g_iinc_2 h dX5_cordWithSum_25 (inc1 _) (by decide) rfl ?_
        refine g_goto h 2 dX5_cordWithSum_28 rfl ?_
        exact ih (i + 1) (by omega) (q_i (by simp [frst, c20]) hQ)
      · refine g_iload_2 h dX5_cordWithSum_23 ?_
        refine g_iret h dX5_cordWithSum_24 ?_
        exact q_i (by simp [frst, c20]) hQ
set_option maxRecDepth 100000 in
set_option maxHeartbeats 4000000 in
theorem sp_X5_cordWithSum_20 {d N : Nat} {I : MI} {J : MJ} {P : MP} (hT : P 20 0 = some 36) (hN : I 36 1 = nI N) (hN16 : N ≤ 16) {x : Int32} {Q : Int32 → MI → MJ → MP → Prop} (hQ : Q (frst (fun i => decide (I 24 i = x)) N 0) I J P) : Sp yX5_cordWithSum cX5_cordWithSum 3 (some .int) (d) [.ref 20, .int x] I J P (Qi Q) := by
  intro Γ h
  show VG Γ 0 0 0 [some (.ref 20), some (.int x), none] [] _ _ _ _
  refine g_iconst h dX5_cordWithSum_0 (v := nI 0) rfl ?_
  refine g_istore_2 h dX5_cordWithSum_1 (by decide) rfl ?_
  exact lp_X5_cordWithSum_20 hT hN hN16 h N 0 (by omega) hQ
set_option maxHeartbeats 4000000 in
theorem lp_X5_neighbourAhead_20 {Γ : Cx} {d i : Nat} {I : MI} {J : MJ} {P : MP} (hi : i < 16) {Q : Int32 → MI → MJ → MP → Prop} (h : Vc RX5 cX5_neighbourAhead 3 (some .int) (d) Γ) : ∀ (k : Nat) (y : Int32), k ≤ i → y = nI k - nI 1 → Q (nbr (I 22) (I 22 i) k) I J P → VG Γ 0 0 4 [some (.ref 20), some (.int (nI i)), some (.int y)] [] I J P (Fnl Γ (Qi Q)) := by
  intro k
  induction k with
  | zero =>
    intro y hk hy hQ
    rw [nI_0s1] at hy
    subst hy
    refine g_iload_2 h dX5_neighbourAhead_4 ?_
    refine g_if_lt h 31 dX5_neighbourAhead_5 rfl (fun c5 => ?_) (fun c5 => ?_)
    · refine g_iconst h dX5_neighbourAhead_31 (v := (-1)) rfl ?_
      refine g_iret h dX5_neighbourAhead_32 ?_
      exact hQ
    · exact absurd (by decide) c5
  | succ k ih =>
    intro y hk hy hQ
    rw [nI_sub1] at hy
    subst hy
    refine g_iload_2 h dX5_neighbourAhead_4 ?_
    refine g_if_lt h 31 dX5_neighbourAhead_5 rfl (fun c5 => ?_) (fun c5 => ?_)
    · exact absurd c5 (nI_pos (by omega))
    · refine g_aload_0 h dX5_neighbourAhead_8 ?_
      refine g_getC h fl_X5_25 dX5_neighbourAhead_9 rfl rfl ?_
      refine g_iload_2 h dX5_neighbourAhead_12 ?_
      refine g_iald h k dX5_neighbourAhead_13 rfl rfl (by omega) ?_
      refine g_aload_0 h dX5_neighbourAhead_14 ?_
      refine g_getC h fl_X5_25 dX5_neighbourAhead_15 rfl rfl ?_
      refine g_iload_1 h dX5_neighbourAhead_18 ?_
      refine g_iald h i dX5_neighbourAhead_19 rfl rfl (by omega) ?_
      refine g_icmp_ne h 25 dX5_neighbourAhead_20 rfl (fun c20 => ?_) (fun c20 => ?_)
      · refine g_iinc_2 h dX5_neighbourAhead_25 (nI_dec k) (by decide) rfl ?_
        refine g_goto h 4 dX5_neighbourAhead_28 rfl ?_
        exact ih _ (by omega) rfl (q_i (by simp [nbr, c20]) hQ)
      · refine g_iload_2 h dX5_neighbourAhead_23 ?_
        refine g_iret h dX5_neighbourAhead_24 ?_
        exact q_i (by simp [nbr, c20]) hQ
set_option maxRecDepth 100000 in
set_option maxHeartbeats 4000000 in
theorem sp_X5_neighbourAhead_20 {d i : Nat} {I : MI} {J : MJ} {P : MP} (hi : i < 16) {Q : Int32 → MI → MJ → MP → Prop} (hQ : Q (nbr (I 22) (I 22 i) i) I J P) : Sp yX5_neighbourAhead cX5_neighbourAhead 3 (some .int) (d) [.ref 20, .int (nI i)] I J P (Qi Q) := by
  intro Γ h
  show VG Γ 0 0 0 [some (.ref 20), some (.int (nI i)), none] [] _ _ _ _
  refine g_iload_1 h dX5_neighbourAhead_0 ?_
  refine g_iconst h dX5_neighbourAhead_1 (v := nI 1) rfl ?_
  refine g_isub h dX5_neighbourAhead_2 ?_
  refine g_istore_2 h dX5_neighbourAhead_3 (by decide) rfl ?_
  exact lp_X5_neighbourAhead_20 hi h i _ (Nat.le_refl _) rfl hQ
set_option maxHeartbeats 4000000 in
theorem lp_X5_cordsOutOfOrder_20 {Γ : Cx} {d N C : Nat} {I : MI} {J : MJ} {P : MP} (hT : P 20 0 = some 36) (hN : I 36 1 = nI N) (hN16 : N ≤ 16) (hC : I 36 0 = nI C) (hC6 : C ≤ 6)  {Q : Int32 → MI → MJ → MP → Prop} (h : Vc RX5 cX5_cordsOutOfOrder 5 (some .int) (d + 2) Γ) : ∀ (f i : Nat) (a : Int32) (x3 x4 : Option Value), i + f = N → Q (sumF (fun i => b2i (oor (I 37) (I 21) C (I 22) i)) f i a) I J P → VG Γ 0 0 4 [some (.ref 20), some (.int a), some (.int (nI i)), x3, x4] [] I J P (Fnl Γ (Qi Q)) := by
  intro f
  induction f with
  | zero =>
    intro i a x3 x4 hi hQ
    refine g_iload_2 h dX5_cordsOutOfOrder_4 ?_
    refine g_aload_0 h dX5_cordsOutOfOrder_5 ?_
    refine g_getP h fl_X5_43 dX5_cordsOutOfOrder_6 rfl rfl (by assumption) ?_
    refine g_getI h fl_X5_53 dX5_cordsOutOfOrder_9 rfl rfl ?_
    refine g_icmp_ge h 64 dX5_cordsOutOfOrder_12 rfl (fun c12 => ?_) (fun c12 => ?_)
    · refine g_iload_1 h dX5_cordsOutOfOrder_64 ?_
      refine g_iret h dX5_cordsOutOfOrder_65 ?_
      exact hQ
    · exact absurd (by rw [hN]; exact nI_le (by omega) (by omega)) c12
  | succ f ih =>
    intro i a x3 x4 hi hQ
    refine g_iload_2 h dX5_cordsOutOfOrder_4 ?_
    refine g_aload_0 h dX5_cordsOutOfOrder_5 ?_
    refine g_getP h fl_X5_43 dX5_cordsOutOfOrder_6 rfl rfl (by assumption) ?_
    refine g_getI h fl_X5_53 dX5_cordsOutOfOrder_9 rfl rfl ?_
    refine g_icmp_ge h 64 dX5_cordsOutOfOrder_12 rfl (fun c12 => ?_) (fun c12 => ?_)
    · exact absurd (leN (by simpa only [hN] using c12) (by omega) (by omega)) (by omega)
    · refine g_aload_0 h dX5_cordsOutOfOrder_15 ?_
      refine g_iload_2 h dX5_cordsOutOfOrder_16 ?_
      refine g_cVi1 h rok0 mi_X5_neighbourAhead dX5_cordsOutOfOrder_17 ml_X5_105 rfl rfl rfl (Nat.le_of_ble_eq_true rfl) (Nat.le_of_ble_eq_true rfl) (sp_X5_neighbourAhead_20 (by omega) ?_)
      refine g_istore_3 h dX5_cordsOutOfOrder_20 (by decide) rfl ?_
      refine g_iload_3 h dX5_cordsOutOfOrder_21 ?_
      refine g_if_lt h 42 dX5_cordsOutOfOrder_22 rfl (fun c22 => ?_) (fun c22 => ?_)
      · refine g_iconst h dX5_cordsOutOfOrder_42 (v := nI 0) rfl ?_
        refine g_istore_4 h dX5_cordsOutOfOrder_43 (by decide) rfl ?_
        refine g_iload_1 h dX5_cordsOutOfOrder_45 ?_
        refine g_iload_4 h dX5_cordsOutOfOrder_46 ?_
        refine g_if_eq h 55 dX5_cordsOutOfOrder_48 rfl (fun c48 => ?_) (fun c48 => ?_)
        · refine g_iconst h dX5_cordsOutOfOrder_55 (v := nI 0) rfl ?_
          refine g_iadd h dX5_cordsOutOfOrder_56 ?_
          refine g_istore_1 h dX5_cordsOutOfOrder_57 (by decide) rfl ?_
          refine g_iinc_2 h dX5_cordsOutOfOrder_58 (inc1 _) (by decide) rfl ?_
          refine g_goto h 4 dX5_cordsOutOfOrder_61 rfl ?_
          first
            | exact absurd c48 (by decide)
            | exact ih (i + 1) _ _ _ (by omega) (q_i (by simp only [sumF, oor]; rw [if_pos c22]; rfl) hQ)
            | exact ih (i + 1) _ _ _ (by omega) (q_i (by simp only [sumF, oor]; rw [if_neg c22, ek, ix_n (by omega), decide_eq_true (Int32.not_le.mp c35)]; rfl) hQ)
            | exact ih (i + 1) _ _ _ (by omega) (q_i (by simp only [sumF, oor]; rw [if_neg c22, ek, ix_n (by omega), decide_eq_false (Int32.not_lt.mpr c35)]; rfl) hQ)
        · refine g_iconst h dX5_cordsOutOfOrder_51 (v := nI 1) rfl ?_
          refine g_goto h 56 dX5_cordsOutOfOrder_52 rfl ?_
          refine g_iadd h dX5_cordsOutOfOrder_56 ?_
          refine g_istore_1 h dX5_cordsOutOfOrder_57 (by decide) rfl ?_
          refine g_iinc_2 h dX5_cordsOutOfOrder_58 (inc1 _) (by decide) rfl ?_
          refine g_goto h 4 dX5_cordsOutOfOrder_61 rfl ?_
          first
            | exact absurd c48 (by decide)
            | exact ih (i + 1) _ _ _ (by omega) (q_i (by simp only [sumF, oor]; rw [if_pos c22]; rfl) hQ)
            | exact ih (i + 1) _ _ _ (by omega) (q_i (by simp only [sumF, oor]; rw [if_neg c22, ek, ix_n (by omega), decide_eq_true (Int32.not_le.mp c35)]; rfl) hQ)
            | exact ih (i + 1) _ _ _ (by omega) (q_i (by simp only [sumF, oor]; rw [if_neg c22, ek, ix_n (by omega), decide_eq_false (Int32.not_lt.mpr c35)]; rfl) hQ)
      · obtain ⟨k, hk, ek⟩ : ∃ k, k < i ∧ nbr (I 22) (I 22 i) i = nI k := (nbr_in (I 22) (I 22 i) i (by omega)).elim (fun q => absurd (by rw [q]; decide) c22) id
        rw [ek]
        refine g_aload_0 h dX5_cordsOutOfOrder_25 ?_
        refine g_iload_2 h dX5_cordsOutOfOrder_26 ?_
        refine g_cVi1 h rok0 mi_X5_rankOf dX5_cordsOutOfOrder_27 ml_X5_96 rfl rfl rfl (Nat.le_of_ble_eq_true rfl) (Nat.le_of_ble_eq_true rfl) (sp_X5_rankOf_20 hT hC hC6 (by omega) ?_)
        refine g_aload_0 h dX5_cordsOutOfOrder_30 ?_
        refine g_iload_3 h dX5_cordsOutOfOrder_31 ?_
        refine g_cVi1 h rok0 mi_X5_rankOf dX5_cordsOutOfOrder_32 ml_X5_96 rfl rfl rfl (Nat.le_of_ble_eq_true rfl) (Nat.le_of_ble_eq_true rfl) (sp_X5_rankOf_20 hT hC hC6 (by omega) ?_)
        refine g_icmp_ge h 42 dX5_cordsOutOfOrder_35 rfl (fun c35 => ?_) (fun c35 => ?_)
        · refine g_iconst h dX5_cordsOutOfOrder_42 (v := nI 0) rfl ?_
          refine g_istore_4 h dX5_cordsOutOfOrder_43 (by decide) rfl ?_
          refine g_iload_1 h dX5_cordsOutOfOrder_45 ?_
          refine g_iload_4 h dX5_cordsOutOfOrder_46 ?_
          refine g_if_eq h 55 dX5_cordsOutOfOrder_48 rfl (fun c48 => ?_) (fun c48 => ?_)
          · refine g_iconst h dX5_cordsOutOfOrder_55 (v := nI 0) rfl ?_
            refine g_iadd h dX5_cordsOutOfOrder_56 ?_
            refine g_istore_1 h dX5_cordsOutOfOrder_57 (by decide) rfl ?_
            refine g_iinc_2 h dX5_cordsOutOfOrder_58 (inc1 _) (by decide) rfl ?_
            refine g_goto h 4 dX5_cordsOutOfOrder_61 rfl ?_
            first
              | exact absurd c48 (by decide)
              | exact ih (i + 1) _ _ _ (by omega) (q_i (by simp only [sumF, oor]; rw [if_pos c22]; rfl) hQ)
              | exact ih (i + 1) _ _ _ (by omega) (q_i (by simp only [sumF, oor]; rw [if_neg c22, ek, ix_n (by omega), decide_eq_true (Int32.not_le.mp c35)]; rfl) hQ)
              | exact ih (i + 1) _ _ _ (by omega) (q_i (by simp only [sumF, oor]; rw [if_neg c22, ek, ix_n (by omega), decide_eq_false (Int32.not_lt.mpr c35)]; rfl) hQ)
          · refine g_iconst h dX5_cordsOutOfOrder_51 (v := nI 1) rfl ?_
            refine g_goto h 56 dX5_cordsOutOfOrder_52 rfl ?_
            refine g_iadd h dX5_cordsOutOfOrder_56 ?_
            refine g_istore_1 h dX5_cordsOutOfOrder_57 (by decide) rfl ?_
            refine g_iinc_2 h dX5_cordsOutOfOrder_58 (inc1 _) (by decide) rfl ?_
            refine g_goto h 4 dX5_cordsOutOfOrder_61 rfl ?_
            first
              | exact absurd c48 (by decide)
              | exact ih (i + 1) _ _ _ (by omega) (q_i (by simp only [sumF, oor]; rw [if_pos c22]; rfl) hQ)
              | exact ih (i + 1) _ _ _ (by omega) (q_i (by simp only [sumF, oor]; rw [if_neg c22, ek, ix_n (by omega), decide_eq_true (Int32.not_le.mp c35)]; rfl) hQ)
              | exact ih (i + 1) _ _ _ (by omega) (q_i (by simp only [sumF, oor]; rw [if_neg c22, ek, ix_n (by omega), decide_eq_false (Int32.not_lt.mpr c35)]; rfl) hQ)
        · refine g_iconst h dX5_cordsOutOfOrder_38 (v := nI 1) rfl ?_
          refine g_goto h 43 dX5_cordsOutOfOrder_39 rfl ?_
          refine g_istore_4 h dX5_cordsOutOfOrder_43 (by decide) rfl ?_
          refine g_iload_1 h dX5_cordsOutOfOrder_45 ?_
          refine g_iload_4 h dX5_cordsOutOfOrder_46 ?_
          refine g_if_eq h 55 dX5_cordsOutOfOrder_48 rfl (fun c48 => ?_) (fun c48 => ?_)
          · refine g_iconst h dX5_cordsOutOfOrder_55 (v := nI 0) rfl ?_
            refine g_iadd h dX5_cordsOutOfOrder_56 ?_
            refine g_istore_1 h dX5_cordsOutOfOrder_57 (by decide) rfl ?_
            refine g_iinc_2 h dX5_cordsOutOfOrder_58 (inc1 _) (by decide) rfl ?_
            refine g_goto h 4 dX5_cordsOutOfOrder_61 rfl ?_
            first
              | exact absurd c48 (by decide)
              | exact ih (i + 1) _ _ _ (by omega) (q_i (by simp only [sumF, oor]; rw [if_pos c22]; rfl) hQ)
              | exact ih (i + 1) _ _ _ (by omega) (q_i (by simp only [sumF, oor]; rw [if_neg c22, ek, ix_n (by omega), decide_eq_true (Int32.not_le.mp c35)]; rfl) hQ)
              | exact ih (i + 1) _ _ _ (by omega) (q_i (by simp only [sumF, oor]; rw [if_neg c22, ek, ix_n (by omega), decide_eq_false (Int32.not_lt.mpr c35)]; rfl) hQ)
          · refine g_iconst h dX5_cordsOutOfOrder_51 (v := nI 1) rfl ?_
            refine g_goto h 56 dX5_cordsOutOfOrder_52 rfl ?_
            refine g_iadd h dX5_cordsOutOfOrder_56 ?_
            refine g_istore_1 h dX5_cordsOutOfOrder_57 (by decide) rfl ?_
            refine g_iinc_2 h dX5_cordsOutOfOrder_58 (inc1 _) (by decide) rfl ?_
            refine g_goto h 4 dX5_cordsOutOfOrder_61 rfl ?_
            first
              | exact absurd c48 (by decide)
              | exact ih (i + 1) _ _ _ (by omega) (q_i (by simp only [sumF, oor]; rw [if_pos c22]; rfl) hQ)
              | exact ih (i + 1) _ _ _ (by omega) (q_i (by simp only [sumF, oor]; rw [if_neg c22, ek, ix_n (by omega), decide_eq_true (Int32.not_le.mp c35)]; rfl) hQ)
              | exact ih (i + 1) _ _ _ (by omega) (q_i (by simp only [sumF, oor]; rw [if_neg c22, ek, ix_n (by omega), decide_eq_false (Int32.not_lt.mpr c35)]; rfl) hQ)
set_option maxRecDepth 100000 in
set_option maxHeartbeats 4000000 in
theorem sp_X5_cordsOutOfOrder_20 {d N C : Nat} {I : MI} {J : MJ} {P : MP} (hT : P 20 0 = some 36) (hN : I 36 1 = nI N) (hN16 : N ≤ 16) (hC : I 36 0 = nI C) (hC6 : C ≤ 6)  {Q : Int32 → MI → MJ → MP → Prop} (hQ : Q (sumF (fun i => b2i (oor (I 37) (I 21) C (I 22) i)) N 0 (nI 0)) I J P) : Sp yX5_cordsOutOfOrder cX5_cordsOutOfOrder 5 (some .int) (d + 2) [.ref 20] I J P (Qi Q) := by
  intro Γ h
  show VG Γ 0 0 0 [some (.ref 20), none, none, none, none] [] _ _ _ _
  refine g_iconst h dX5_cordsOutOfOrder_0 (v := nI 0) rfl ?_
  refine g_istore_1 h dX5_cordsOutOfOrder_1 (by decide) rfl ?_
  refine g_iconst h dX5_cordsOutOfOrder_2 (v := nI 0) rfl ?_
  refine g_istore_2 h dX5_cordsOutOfOrder_3 (by decide) rfl ?_
  exact lp_X5_cordsOutOfOrder_20 hT hN hN16 hC hC6 h N 0 _ _ _ (by omega) hQ
set_option maxHeartbeats 4000000 in
theorem lp_X5_countedBelow_20 {Γ : Cx} {d N a0 z : Nat} {I : MI} {J : MJ} {P : MP} (hT : P 20 0 = some 36) (hN : I 36 1 = nI N) (hN16 : N ≤ 16) (ha : a0 < 6) (hz : I 41 a0 = nI z) (hz8 : z ≤ 8)  {Q : Int32 → MI → MJ → MP → Prop} (h : Vc RX5 cX5_countedBelow 5 (some .int) (d + 1) Γ) : ∀ (f i : Nat) (a : Int32) (x4 : Option Value), i + f = z → Q (sumF (fun n => if has (nI N) (I (43 + a0) n) (nI 16) then I 24 (ix (I (43 + a0) n)) else nI 0) f i a) I J P → VG Γ 0 0 4 [some (.ref 20), some (.int (nI a0)), some (.int a), some (.int (nI i)), x4] [] I J P (Fnl Γ (Qi Q)) := by
  intro f
  induction f with
  | zero =>
    intro i a x4 hi hQ
    refine g_iload_3 h dX5_countedBelow_4 ?_
    refine g_aload_0 h dX5_countedBelow_5 ?_
    refine g_getP h fl_X5_43 dX5_countedBelow_6 rfl rfl (by assumption) ?_
    refine g_getC h fl_X5_108 dX5_countedBelow_9 rfl rfl ?_
    refine g_iload_1 h dX5_countedBelow_12 ?_
    refine g_iald h a0 dX5_countedBelow_13 rfl rfl ha ?_
    refine g_icmp_ge h 62 dX5_countedBelow_14 rfl (fun c14 => ?_) (fun c14 => ?_)
    · refine g_iload_2 h dX5_countedBelow_62 ?_
      refine g_iret h dX5_countedBelow_63 ?_
      exact hQ
    · exact absurd (by rw [hz]; exact nI_le (by omega) (by omega)) c14
  | succ f ih =>
    intro i a x4 hi hQ
    refine g_iload_3 h dX5_countedBelow_4 ?_
    refine g_aload_0 h dX5_countedBelow_5 ?_
    refine g_getP h fl_X5_43 dX5_countedBelow_6 rfl rfl (by assumption) ?_
    refine g_getC h fl_X5_108 dX5_countedBelow_9 rfl rfl ?_
    refine g_iload_1 h dX5_countedBelow_12 ?_
    refine g_iald h a0 dX5_countedBelow_13 rfl rfl ha ?_
    refine g_icmp_ge h 62 dX5_countedBelow_14 rfl (fun c14 => ?_) (fun c14 => ?_)
    · exact absurd (leN (by simpa only [hz] using c14) (by omega) (by omega)) (by omega)
    · refine g_aload_0 h dX5_countedBelow_17 ?_
      refine g_getP h fl_X5_43 dX5_countedBelow_18 rfl rfl (by assumption) ?_
      refine g_getC h fl_X5_111 dX5_countedBelow_21 rfl rfl ?_
      refine g_iload_1 h dX5_countedBelow_24 ?_
      refine g_aald h a0 dX5_countedBelow_25 rfl rfl ha ?_
      refine g_iload_3 h dX5_countedBelow_26 ?_
      refine g_iald h i dX5_countedBelow_27 (shp43 ha) rfl (by omega) ?_
      refine g_istore_4 h dX5_countedBelow_28 (by decide) rfl ?_
      refine g_iload_2 h dX5_countedBelow_30 ?_
      refine g_aload_0 h dX5_countedBelow_31 ?_
      refine g_getP h fl_X5_43 dX5_countedBelow_32 rfl rfl (by assumption) ?_
      refine g_iload_4 h dX5_countedBelow_35 ?_
      refine g_cVi1 h rok0 mi_X9_hasCord dX5_countedBelow_37 ml_X5_72 rfl rfl rfl (Nat.le_of_ble_eq_true rfl) (Nat.le_of_ble_eq_true rfl) (sp_X9_hasCord (Or.inl rfl) ?_)
      refine g_if_eq h 53 dX5_countedBelow_40 rfl (fun c40 => ?_) (fun c40 => ?_)
      · refine g_iconst h dX5_countedBelow_53 (v := nI 0) rfl ?_
        refine g_iadd h dX5_countedBelow_54 ?_
        refine g_istore_2 h dX5_countedBelow_55 (by decide) rfl ?_
        refine g_iinc_3 h dX5_countedBelow_56 (inc1 _) (by decide) rfl ?_
        refine g_goto h 4 dX5_countedBelow_59 rfl ?_
        first
          | exact ih (i + 1) _ _ (by omega) (q_i (by simp only [sumF]; rw [← hN, hasT c40, if_pos rfl, ej, ix_n (by omega)]) hQ)
          | exact ih (i + 1) _ _ (by omega) (q_i (by simp only [sumF]; rw [← hN, hasF c40, if_neg Bool.false_ne_true]) hQ)
      · obtain ⟨j, hj, ej⟩ := hasCj hN hN16 c40
        refine g_aload_0 h dX5_countedBelow_43 ?_
        refine g_getC h fl_X5_31 dX5_countedBelow_44 rfl rfl ?_
        refine g_iload_4 h dX5_countedBelow_47 ?_
        refine g_iald h j dX5_countedBelow_49 rfl ej (by omega) ?_
        refine g_goto h 54 dX5_countedBelow_50 rfl ?_
        refine g_iadd h dX5_countedBelow_54 ?_
        refine g_istore_2 h dX5_countedBelow_55 (by decide) rfl ?_
        refine g_iinc_3 h dX5_countedBelow_56 (inc1 _) (by decide) rfl ?_
        refine g_goto h 4 dX5_countedBelow_59 rfl ?_
        first
          | exact ih (i + 1) _ _ (by omega) (q_i (by simp only [sumF]; rw [← hN, hasT c40, if_pos rfl, ej, ix_n (by omega)]) hQ)
          | exact ih (i + 1) _ _ (by omega) (q_i (by simp only [sumF]; rw [← hN, hasF c40, if_neg Bool.false_ne_true]) hQ)
set_option maxRecDepth 100000 in
set_option maxHeartbeats 4000000 in
theorem sp_X5_countedBelow_20 {d N a0 z : Nat} {I : MI} {J : MJ} {P : MP} (hT : P 20 0 = some 36) (hN : I 36 1 = nI N) (hN16 : N ≤ 16) (ha : a0 < 6) (hz : I 41 a0 = nI z) (hz8 : z ≤ 8)  {Q : Int32 → MI → MJ → MP → Prop} (hQ : Q (sumF (fun n => if has (nI N) (I (43 + a0) n) (nI 16) then I 24 (ix (I (43 + a0) n)) else nI 0) z 0 (nI 0)) I J P) : Sp yX5_countedBelow cX5_countedBelow 5 (some .int) (d + 1) [.ref 20, .int (nI a0)] I J P (Qi Q) := by
  intro Γ h
  show VG Γ 0 0 0 [some (.ref 20), some (.int (nI a0)), none, none, none] [] _ _ _ _
  refine g_iconst h dX5_countedBelow_0 (v := nI 0) rfl ?_
  refine g_istore_2 h dX5_countedBelow_1 (by decide) rfl ?_
  refine g_iconst h dX5_countedBelow_2 (v := nI 0) rfl ?_
  refine g_istore_3 h dX5_countedBelow_3 (by decide) rfl ?_
  exact lp_X5_countedBelow_20 hT hN hN16 ha hz hz8 h z 0 _ _ (by omega) hQ
set_option maxRecDepth 100000 in
set_option maxHeartbeats 4000000 in
theorem sp_X5_isWrong_20 {d N a0 z : Nat} {I : MI} {J : MJ} {P : MP} (hT : P 20 0 = some 36) (hN : I 36 1 = nI N) (hN16 : N ≤ 16) (ha : a0 < 6) (hz : I 41 a0 = nI z) (hz8 : z ≤ 8) {Q : Int32 → MI → MJ → MP → Prop} (hQ : Q (b2i (wrgB (I 25 a0) (cnb N (I 24) (I (43 + a0)) (z)))) I J P) : Sp yX5_isWrong cX5_isWrong 2 (some .boolean) (d + 2) [.ref 20, .int (nI a0)] I J P (Qi Q) := by
  intro Γ h
  show VG Γ 0 0 0 [some (.ref 20), some (.int (nI a0))] [] _ _ _ _
  refine g_aload_0 h dX5_isWrong_0 ?_
  refine g_getC h fl_X5_34 dX5_isWrong_1 rfl rfl ?_
  refine g_iload_1 h dX5_isWrong_4 ?_
  refine g_iald h a0 dX5_isWrong_5 rfl rfl ha ?_
  refine g_aload_0 h dX5_isWrong_6 ?_
  refine g_iload_1 h dX5_isWrong_7 ?_
  refine g_cVi1 h rok0 mi_X5_countedBelow dX5_isWrong_8 ml_X5_115 rfl rfl rfl (Nat.le_of_ble_eq_true rfl) (Nat.le_of_ble_eq_true rfl) (sp_X5_countedBelow_20 hT hN hN16 ha hz hz8 ?_)
  refine g_icmp_eq h 18 dX5_isWrong_11 rfl (fun c11 => ?_) (fun c11 => ?_)
  · refine g_iconst h dX5_isWrong_18 (v := nI 0) rfl ?_
    refine g_zret h dX5_isWrong_19 (by first | rfl | exact nar_b2i _) ?_
    first
      | exact q_i (by rw [wrgB, cnb, decide_eq_true c11]; rfl) hQ
      | exact q_i (by rw [wrgB, cnb, decide_eq_false c11]; rfl) hQ
  · refine g_iconst h dX5_isWrong_14 (v := nI 1) rfl ?_
    refine g_goto h 19 dX5_isWrong_15 rfl ?_
    refine g_zret h dX5_isWrong_19 (by first | rfl | exact nar_b2i _) ?_
    first
      | exact q_i (by rw [wrgB, cnb, decide_eq_true c11]; rfl) hQ
      | exact q_i (by rw [wrgB, cnb, decide_eq_false c11]; rfl) hQ
set_option maxHeartbeats 4000000 in
theorem lp_X5_wrongTops_20 {Γ : Cx} {d N Tn : Nat} {sz : Nat → Nat} {I : MI} {J : MJ} {P : MP} (hT : P 20 0 = some 36) (hN : I 36 1 = nI N) (hN16 : N ≤ 16) (hTp : I 36 2 = nI Tn) (hT6 : Tn ≤ 6) (hsz : ∀ a, a < Tn → I 41 a = nI (sz a) ∧ sz a ≤ 8)  {Q : Int32 → MI → MJ → MP → Prop} (h : Vc RX5 cX5_wrongTops 3 (some .int) (d + 3) Γ) : ∀ (f i : Nat) (a : Int32), i + f = Tn → Q (sumF (fun i => b2i (wrgB (I 25 i) (cnb N (I 24) (I (43 + i)) (sz i)))) f i a) I J P → VG Γ 0 0 4 [some (.ref 20), some (.int a), some (.int (nI i))] [] I J P (Fnl Γ (Qi Q)) := by
  intro f
  induction f with
  | zero =>
    intro i a hi hQ
    refine g_iload_2 h dX5_wrongTops_4 ?_
    refine g_aload_0 h dX5_wrongTops_5 ?_
    refine g_getP h fl_X5_43 dX5_wrongTops_6 rfl rfl (by assumption) ?_
    refine g_getI h fl_X5_118 dX5_wrongTops_9 rfl rfl ?_
    refine g_icmp_ge h 37 dX5_wrongTops_12 rfl (fun c12 => ?_) (fun c12 => ?_)
    · refine g_iload_1 h dX5_wrongTops_37 ?_
      refine g_iret h dX5_wrongTops_38 ?_
      exact hQ
    · exact absurd (by rw [hTp]; exact nI_le (by omega) (by omega)) c12
  | succ f ih =>
    intro i a hi hQ
    refine g_iload_2 h dX5_wrongTops_4 ?_
    refine g_aload_0 h dX5_wrongTops_5 ?_
    refine g_getP h fl_X5_43 dX5_wrongTops_6 rfl rfl (by assumption) ?_
    refine g_getI h fl_X5_118 dX5_wrongTops_9 rfl rfl ?_
    refine g_icmp_ge h 37 dX5_wrongTops_12 rfl (fun c12 => ?_) (fun c12 => ?_)
    · exact absurd (leN (by simpa only [hTp] using c12) (by omega) (by omega)) (by omega)
    · refine g_iload_1 h dX5_wrongTops_15 ?_
      refine g_aload_0 h dX5_wrongTops_16 ?_
      refine g_iload_2 h dX5_wrongTops_17 ?_
      refine g_cVi1 h rok0 mi_X5_isWrong dX5_wrongTops_18 ml_X5_121 rfl rfl rfl (Nat.le_of_ble_eq_true rfl) (Nat.le_of_ble_eq_true rfl) (sp_X5_isWrong_20 hT hN hN16 (by omega) (hsz i (by omega)).1 (hsz i (by omega)).2 ?_)
      refine g_if_eq h 28 dX5_wrongTops_21 rfl (fun c21 => ?_) (fun c21 => ?_)
      · refine g_iconst h dX5_wrongTops_28 (v := nI 0) rfl ?_
        refine g_iadd h dX5_wrongTops_29 ?_
        refine g_istore_1 h dX5_wrongTops_30 (by decide) rfl ?_
        refine g_iinc_2 h dX5_wrongTops_31 (inc1 _) (by decide) rfl ?_
        refine g_goto h 4 dX5_wrongTops_34 rfl ?_
        first
          | exact ih (i + 1) _ (by omega) (q_i (by simp only [sumF]; rw [b2i_1 c21]) hQ)
          | exact ih (i + 1) _ (by omega) (q_i (by simp only [sumF]; rw [b2i_00 c21]) hQ)
      · refine g_iconst h dX5_wrongTops_24 (v := nI 1) rfl ?_
        refine g_goto h 29 dX5_wrongTops_25 rfl ?_
        refine g_iadd h dX5_wrongTops_29 ?_
        refine g_istore_1 h dX5_wrongTops_30 (by decide) rfl ?_
        refine g_iinc_2 h dX5_wrongTops_31 (inc1 _) (by decide) rfl ?_
        refine g_goto h 4 dX5_wrongTops_34 rfl ?_
        first
          | exact ih (i + 1) _ (by omega) (q_i (by simp only [sumF]; rw [b2i_1 c21]) hQ)
          | exact ih (i + 1) _ (by omega) (q_i (by simp only [sumF]; rw [b2i_00 c21]) hQ)
set_option maxRecDepth 100000 in
set_option maxHeartbeats 4000000 in
theorem sp_X5_wrongTops_20 {d N Tn : Nat} {sz : Nat → Nat} {I : MI} {J : MJ} {P : MP} (hT : P 20 0 = some 36) (hN : I 36 1 = nI N) (hN16 : N ≤ 16) (hTp : I 36 2 = nI Tn) (hT6 : Tn ≤ 6) (hsz : ∀ a, a < Tn → I 41 a = nI (sz a) ∧ sz a ≤ 8)  {Q : Int32 → MI → MJ → MP → Prop} (hQ : Q (sumF (fun i => b2i (wrgB (I 25 i) (cnb N (I 24) (I (43 + i)) (sz i)))) Tn 0 (nI 0)) I J P) : Sp yX5_wrongTops cX5_wrongTops 3 (some .int) (d + 3) [.ref 20] I J P (Qi Q) := by
  intro Γ h
  show VG Γ 0 0 0 [some (.ref 20), none, none] [] _ _ _ _
  refine g_iconst h dX5_wrongTops_0 (v := nI 0) rfl ?_
  refine g_istore_1 h dX5_wrongTops_1 (by decide) rfl ?_
  refine g_iconst h dX5_wrongTops_2 (v := nI 0) rfl ?_
  refine g_istore_2 h dX5_wrongTops_3 (by decide) rfl ?_
  exact lp_X5_wrongTops_20 hT hN hN16 hTp hT6 hsz h Tn 0 _ (by omega) hQ
set_option maxRecDepth 100000 in
set_option maxHeartbeats 4000000 in
theorem sp_X5_isTooTired_20 {d k : Nat} {I : MI} {J : MJ} {P : MP} (hT : P 20 0 = some 36) (hk : k < 5) {Q : Int32 → MI → MJ → MP → Prop} (hQ : Q (b2i (tooB (I 26 k) (I 49 k))) I J P) : Sp yX5_isTooTired cX5_isTooTired 2 (some .boolean) (d) [.ref 20, .int (nI k)] I J P (Qi Q) := by
  intro Γ h
  show VG Γ 0 0 0 [some (.ref 20), some (.int (nI k))] [] _ _ _ _
  refine g_aload_0 h dX5_isTooTired_0 ?_
  refine g_getC h fl_X5_37 dX5_isTooTired_1 rfl rfl ?_
  refine g_iload_1 h dX5_isTooTired_4 ?_
  refine g_iald h k dX5_isTooTired_5 rfl rfl hk ?_
  refine g_iconst h dX5_isTooTired_6 (v := nI 5) rfl ?_
  refine g_aload_0 h dX5_isTooTired_7 ?_
  refine g_getP h fl_X5_43 dX5_isTooTired_8 rfl rfl (by assumption) ?_
  refine g_getC h fl_X5_124 dX5_isTooTired_11 rfl rfl ?_
  refine g_iload_1 h dX5_isTooTired_14 ?_
  refine g_iald h k dX5_isTooTired_15 rfl rfl hk ?_
  refine g_imul h dX5_isTooTired_16 ?_
  refine g_icmp_le h 24 dX5_isTooTired_17 rfl (fun c17 => ?_) (fun c17 => ?_)
  · refine g_iconst h dX5_isTooTired_24 (v := nI 0) rfl ?_
    refine g_zret h dX5_isTooTired_25 (by first | rfl | exact nar_b2i _) ?_
    first
      | exact q_i (by rw [tooB, decide_eq_true (Int32.not_le.mp c17)]; rfl) hQ
      | exact q_i (by rw [tooB, decide_eq_false (Int32.not_lt.mpr c17)]; rfl) hQ
  · refine g_iconst h dX5_isTooTired_20 (v := nI 1) rfl ?_
    refine g_goto h 25 dX5_isTooTired_21 rfl ?_
    refine g_zret h dX5_isTooTired_25 (by first | rfl | exact nar_b2i _) ?_
    first
      | exact q_i (by rw [tooB, decide_eq_true (Int32.not_le.mp c17)]; rfl) hQ
      | exact q_i (by rw [tooB, decide_eq_false (Int32.not_lt.mpr c17)]; rfl) hQ
set_option maxHeartbeats 4000000 in
theorem lp_X5_valuesOfAll_20 {Γ : Cx} {d N : Nat} {I : MI} {J : MJ} {P : MP} (hT : P 20 0 = some 36) (hN : I 36 1 = nI N) (hN16 : N ≤ 16)  {Q : Int32 → MI → MJ → MP → Prop} (h : Vc RX5 cX5_valuesOfAll 3 (some .int) (d) Γ) : ∀ (f i : Nat) (a : Int32), i + f = N → Q (sumF (fun i => I 23 i) f i a) I J P → VG Γ 0 0 4 [some (.ref 20), some (.int a), some (.int (nI i))] [] I J P (Fnl Γ (Qi Q)) := by
  intro f
  induction f with
  | zero =>
    intro i a hi hQ
    refine g_iload_2 h dX5_valuesOfAll_4 ?_
    refine g_aload_0 h dX5_valuesOfAll_5 ?_
    refine g_getP h fl_X5_43 dX5_valuesOfAll_6 rfl rfl (by assumption) ?_
    refine g_getI h fl_X5_53 dX5_valuesOfAll_9 rfl rfl ?_
    refine g_icmp_ge h 30 dX5_valuesOfAll_12 rfl (fun c12 => ?_) (fun c12 => ?_)
    · refine g_iload_1 h dX5_valuesOfAll_30 ?_
      refine g_iret h dX5_valuesOfAll_31 ?_
      exact hQ
    · exact absurd (by rw [hN]; exact nI_le (by omega) (by omega)) c12
  | succ f ih =>
    intro i a hi hQ
    refine g_iload_2 h dX5_valuesOfAll_4 ?_
    refine g_aload_0 h dX5_valuesOfAll_5 ?_
    refine g_getP h fl_X5_43 dX5_valuesOfAll_6 rfl rfl (by assumption) ?_
    refine g_getI h fl_X5_53 dX5_valuesOfAll_9 rfl rfl ?_
    refine g_icmp_ge h 30 dX5_valuesOfAll_12 rfl (fun c12 => ?_) (fun c12 => ?_)
    · exact absurd (leN (by simpa only [hN] using c12) (by omega) (by omega)) (by omega)
    · refine g_iload_1 h dX5_valuesOfAll_15 ?_
      refine g_aload_0 h dX5_valuesOfAll_16 ?_
      refine g_getC h fl_X5_28 dX5_valuesOfAll_17 rfl rfl ?_
      refine g_iload_2 h dX5_valuesOfAll_20 ?_
      refine g_iald h i dX5_valuesOfAll_21 rfl rfl (by omega) ?_
      refine g_iadd h dX5_valuesOfAll_22 ?_
      refine g_istore_1 h dX5_valuesOfAll_23 (by decide) rfl ?_
      refine g_iinc_2 h dX5_valuesOfAll_24 (inc1 _) (by decide) rfl ?_
      refine g_goto h 4 dX5_valuesOfAll_27 rfl ?_
      exact ih (i + 1) _ (by omega) (q_i (by simp only [sumF]) hQ)
set_option maxRecDepth 100000 in
set_option maxHeartbeats 4000000 in
theorem sp_X5_valuesOfAll_20 {d N : Nat} {I : MI} {J : MJ} {P : MP} (hT : P 20 0 = some 36) (hN : I 36 1 = nI N) (hN16 : N ≤ 16)  {Q : Int32 → MI → MJ → MP → Prop} (hQ : Q (sumF (fun i => I 23 i) N 0 (nI 0)) I J P) : Sp yX5_valuesOfAll cX5_valuesOfAll 3 (some .int) (d) [.ref 20] I J P (Qi Q) := by
  intro Γ h
  show VG Γ 0 0 0 [some (.ref 20), none, none] [] _ _ _ _
  refine g_iconst h dX5_valuesOfAll_0 (v := nI 0) rfl ?_
  refine g_istore_1 h dX5_valuesOfAll_1 (by decide) rfl ?_
  refine g_iconst h dX5_valuesOfAll_2 (v := nI 0) rfl ?_
  refine g_istore_2 h dX5_valuesOfAll_3 (by decide) rfl ?_
  exact lp_X5_valuesOfAll_20 hT hN hN16 h N 0 _ (by omega) hQ
set_option maxHeartbeats 4000000 in
theorem lp_X5_knotsOfAll_20 {Γ : Cx} {d N : Nat} {I : MI} {J : MJ} {P : MP} (hT : P 20 0 = some 36) (hN : I 36 1 = nI N) (hN16 : N ≤ 16)  {Q : Int32 → MI → MJ → MP → Prop} (h : Vc RX5 cX5_knotsOfAll 3 (some .int) (d + 2) Γ) : ∀ (f i : Nat) (a : Int32), i + f = N → Q (sumF (fun i => kno (I 23 i)) f i a) I J P → VG Γ 0 0 4 [some (.ref 20), some (.int a), some (.int (nI i))] [] I J P (Fnl Γ (Qi Q)) := by
  intro f
  induction f with
  | zero =>
    intro i a hi hQ
    refine g_iload_2 h dX5_knotsOfAll_4 ?_
    refine g_aload_0 h dX5_knotsOfAll_5 ?_
    refine g_getP h fl_X5_43 dX5_knotsOfAll_6 rfl rfl (by assumption) ?_
    refine g_getI h fl_X5_53 dX5_knotsOfAll_9 rfl rfl ?_
    refine g_icmp_ge h 33 dX5_knotsOfAll_12 rfl (fun c12 => ?_) (fun c12 => ?_)
    · refine g_iload_1 h dX5_knotsOfAll_33 ?_
      refine g_iret h dX5_knotsOfAll_34 ?_
      exact hQ
    · exact absurd (by rw [hN]; exact nI_le (by omega) (by omega)) c12
  | succ f ih =>
    intro i a hi hQ
    refine g_iload_2 h dX5_knotsOfAll_4 ?_
    refine g_aload_0 h dX5_knotsOfAll_5 ?_
    refine g_getP h fl_X5_43 dX5_knotsOfAll_6 rfl rfl (by assumption) ?_
    refine g_getI h fl_X5_53 dX5_knotsOfAll_9 rfl rfl ?_
    refine g_icmp_ge h 33 dX5_knotsOfAll_12 rfl (fun c12 => ?_) (fun c12 => ?_)
    · exact absurd (leN (by simpa only [hN] using c12) (by omega) (by omega)) (by omega)
    · refine g_iload_1 h dX5_knotsOfAll_15 ?_
      refine g_aload_0 h dX5_knotsOfAll_16 ?_
      refine g_getC h fl_X5_28 dX5_knotsOfAll_17 rfl rfl ?_
      refine g_iload_2 h dX5_knotsOfAll_20 ?_
      refine g_iald h i dX5_knotsOfAll_21 rfl rfl (by omega) ?_
      refine g_cSi1 h rok0 mi_X3_knotsOf dX5_knotsOfAll_22 ml_X5_149 (Nat.le_of_ble_eq_true rfl) (Nat.le_of_ble_eq_true rfl) (sp_X3_knotsOf ?_)
      refine g_iadd h dX5_knotsOfAll_25 ?_
      refine g_istore_1 h dX5_knotsOfAll_26 (by decide) rfl ?_
      refine g_iinc_2 h dX5_knotsOfAll_27 (inc1 _) (by decide) rfl ?_
      refine g_goto h 4 dX5_knotsOfAll_30 rfl ?_
      exact ih (i + 1) _ (by omega) (q_i (by simp only [sumF]) hQ)
set_option maxRecDepth 100000 in
set_option maxHeartbeats 4000000 in
theorem sp_X5_knotsOfAll_20 {d N : Nat} {I : MI} {J : MJ} {P : MP} (hT : P 20 0 = some 36) (hN : I 36 1 = nI N) (hN16 : N ≤ 16)  {Q : Int32 → MI → MJ → MP → Prop} (hQ : Q (sumF (fun i => kno (I 23 i)) N 0 (nI 0)) I J P) : Sp yX5_knotsOfAll cX5_knotsOfAll 3 (some .int) (d + 2) [.ref 20] I J P (Qi Q) := by
  intro Γ h
  show VG Γ 0 0 0 [some (.ref 20), none, none] [] _ _ _ _
  refine g_iconst h dX5_knotsOfAll_0 (v := nI 0) rfl ?_
  refine g_istore_1 h dX5_knotsOfAll_1 (by decide) rfl ?_
  refine g_iconst h dX5_knotsOfAll_2 (v := nI 0) rfl ?_
  refine g_istore_2 h dX5_knotsOfAll_3 (by decide) rfl ?_
  exact lp_X5_knotsOfAll_20 hT hN hN16 h N 0 _ (by omega) hQ
set_option maxHeartbeats 4000000 in
theorem lp_X5_turnsOfAll_20 {Γ : Cx} {d N : Nat} {I : MI} {J : MJ} {P : MP} (hT : P 20 0 = some 36) (hN : I 36 1 = nI N) (hN16 : N ≤ 16)  {Q : Int32 → MI → MJ → MP → Prop} (h : Vc RX5 cX5_turnsOfAll 3 (some .int) (d + 2) Γ) : ∀ (f i : Nat) (a : Int32), i + f = N → Q (sumF (fun i => tur (I 23 i)) f i a) I J P → VG Γ 0 0 4 [some (.ref 20), some (.int a), some (.int (nI i))] [] I J P (Fnl Γ (Qi Q)) := by
  intro f
  induction f with
  | zero =>
    intro i a hi hQ
    refine g_iload_2 h dX5_turnsOfAll_4 ?_
    refine g_aload_0 h dX5_turnsOfAll_5 ?_
    refine g_getP h fl_X5_43 dX5_turnsOfAll_6 rfl rfl (by assumption) ?_
    refine g_getI h fl_X5_53 dX5_turnsOfAll_9 rfl rfl ?_
    refine g_icmp_ge h 33 dX5_turnsOfAll_12 rfl (fun c12 => ?_) (fun c12 => ?_)
    · refine g_iload_1 h dX5_turnsOfAll_33 ?_
      refine g_iret h dX5_turnsOfAll_34 ?_
      exact hQ
    · exact absurd (by rw [hN]; exact nI_le (by omega) (by omega)) c12
  | succ f ih =>
    intro i a hi hQ
    refine g_iload_2 h dX5_turnsOfAll_4 ?_
    refine g_aload_0 h dX5_turnsOfAll_5 ?_
    refine g_getP h fl_X5_43 dX5_turnsOfAll_6 rfl rfl (by assumption) ?_
    refine g_getI h fl_X5_53 dX5_turnsOfAll_9 rfl rfl ?_
    refine g_icmp_ge h 33 dX5_turnsOfAll_12 rfl (fun c12 => ?_) (fun c12 => ?_)
    · exact absurd (leN (by simpa only [hN] using c12) (by omega) (by omega)) (by omega)
    · refine g_iload_1 h dX5_turnsOfAll_15 ?_
      refine g_aload_0 h dX5_turnsOfAll_16 ?_
      refine g_getC h fl_X5_28 dX5_turnsOfAll_17 rfl rfl ?_
      refine g_iload_2 h dX5_turnsOfAll_20 ?_
      refine g_iald h i dX5_turnsOfAll_21 rfl rfl (by omega) ?_
      refine g_cSi1 h rok0 mi_X3_turnsOf dX5_turnsOfAll_22 ml_X5_160 (Nat.le_of_ble_eq_true rfl) (Nat.le_of_ble_eq_true rfl) (sp_X3_turnsOf ?_)
      refine g_iadd h dX5_turnsOfAll_25 ?_
      refine g_istore_1 h dX5_turnsOfAll_26 (by decide) rfl ?_
      refine g_iinc_2 h dX5_turnsOfAll_27 (inc1 _) (by decide) rfl ?_
      refine g_goto h 4 dX5_turnsOfAll_30 rfl ?_
      exact ih (i + 1) _ (by omega) (q_i (by simp only [sumF]) hQ)
set_option maxRecDepth 100000 in
set_option maxHeartbeats 4000000 in
theorem sp_X5_turnsOfAll_20 {d N : Nat} {I : MI} {J : MJ} {P : MP} (hT : P 20 0 = some 36) (hN : I 36 1 = nI N) (hN16 : N ≤ 16)  {Q : Int32 → MI → MJ → MP → Prop} (hQ : Q (sumF (fun i => tur (I 23 i)) N 0 (nI 0)) I J P) : Sp yX5_turnsOfAll cX5_turnsOfAll 3 (some .int) (d + 2) [.ref 20] I J P (Qi Q) := by
  intro Γ h
  show VG Γ 0 0 0 [some (.ref 20), none, none] [] _ _ _ _
  refine g_iconst h dX5_turnsOfAll_0 (v := nI 0) rfl ?_
  refine g_istore_1 h dX5_turnsOfAll_1 (by decide) rfl ?_
  refine g_iconst h dX5_turnsOfAll_2 (v := nI 0) rfl ?_
  refine g_istore_2 h dX5_turnsOfAll_3 (by decide) rfl ?_
  exact lp_X5_turnsOfAll_20 hT hN hN16 h N 0 _ (by omega) hQ
def cntT (I : MI) (o N Tn : Nat) (sz : Nat → Nat) : Nat → Int32
  | 0 => I o 1
  | 1 => I 36 0
  | 2 => I 36 1
  | 3 => I 36 2
  | 4 => I 36 3
  | 5 => I 36 4
  | 6 => sumF (fun i => I (o + 3) i) N 0 (nI 0)
  | 7 => sumF (fun i => kno (I (o + 3) i)) N 0 (nI 0)
  | 8 => sumF (fun i => tur (I (o + 3) i)) N 0 (nI 0)
  | 9 => sumF (fun i => b2i (wrgB (I (o + 5) i) (cnb N (I (o + 4)) (I (43 + i)) (sz i)))) Tn 0 (nI 0)
  | 10 => I o 2
  | _ => I o 3
set_option maxHeartbeats 4000000 in
theorem sp_X5_countTells_20 {d N Tn w : Nat} {sz : Nat → Nat} {I : MI} {J : MJ} {P : MP} (hT : P 20 0 = some 36) (hN : I 36 1 = nI N) (hN16 : N ≤ 16) (hTp : I 36 2 = nI Tn) (hT6 : Tn ≤ 6) (hsz : ∀ a, a < Tn → I 41 a = nI (sz a) ∧ sz a ≤ 8) (hw : w < 12) {Q : Int32 → MI → MJ → MP → Prop} (hQ : Q (cntT I 20 N Tn sz w) I J P) : Sp yX5_countTells cX5_countTells 2 (some .int) (d + 4) [.ref 20, .int (nI w)] I J P (Qi Q) := by
  intro Γ h
  show VG Γ 0 0 0 [some (.ref 20), some (.int (nI w))] [] _ _ _ _
  rcases (show w = 0 ∨ w = 1 ∨ w = 2 ∨ w = 3 ∨ w = 4 ∨ w = 5 ∨ w = 6 ∨ w = 7 ∨ w = 8 ∨ w = 9 ∨ w = 10 ∨ w = 11 by omega) with rfl | rfl | rfl | rfl | rfl | rfl | rfl | rfl | rfl | rfl | rfl | rfl
  · refine g_iload_1 h dX5_countTells_0 ?_
    · refine g_tsIn h 60 dX5_countTells_1 (by decide) (by decide) rfl rfl ?_
      refine g_aload_0 h dX5_countTells_60 ?_
      refine g_getI h fl_X5_7 dX5_countTells_61 rfl rfl ?_
      refine g_iret h dX5_countTells_64 ?_
      exact hQ
  · refine g_iload_1 h dX5_countTells_0 ?_
    · refine g_tsIn h 65 dX5_countTells_1 (by decide) (by decide) rfl rfl ?_
      refine g_aload_0 h dX5_countTells_65 ?_
      refine g_getP h fl_X5_43 dX5_countTells_66 rfl rfl (by assumption) ?_
      refine g_getI h fl_X5_165 dX5_countTells_69 rfl rfl ?_
      refine g_iret h dX5_countTells_72 ?_
      exact hQ
  · refine g_iload_1 h dX5_countTells_0 ?_
    · refine g_tsIn h 73 dX5_countTells_1 (by decide) (by decide) rfl rfl ?_
      refine g_aload_0 h dX5_countTells_73 ?_
      refine g_getP h fl_X5_43 dX5_countTells_74 rfl rfl (by assumption) ?_
      refine g_getI h fl_X5_53 dX5_countTells_77 rfl rfl ?_
      refine g_iret h dX5_countTells_80 ?_
      exact hQ
  · refine g_iload_1 h dX5_countTells_0 ?_
    · refine g_tsIn h 81 dX5_countTells_1 (by decide) (by decide) rfl rfl ?_
      refine g_aload_0 h dX5_countTells_81 ?_
      refine g_getP h fl_X5_43 dX5_countTells_82 rfl rfl (by assumption) ?_
      refine g_getI h fl_X5_118 dX5_countTells_85 rfl rfl ?_
      refine g_iret h dX5_countTells_88 ?_
      exact hQ
  · refine g_iload_1 h dX5_countTells_0 ?_
    · refine g_tsIn h 89 dX5_countTells_1 (by decide) (by decide) rfl rfl ?_
      refine g_aload_0 h dX5_countTells_89 ?_
      refine g_getP h fl_X5_43 dX5_countTells_90 rfl rfl (by assumption) ?_
      refine g_getI h fl_X5_154 dX5_countTells_93 rfl rfl ?_
      refine g_iret h dX5_countTells_96 ?_
      exact hQ
  · refine g_iload_1 h dX5_countTells_0 ?_
    · refine g_tsIn h 97 dX5_countTells_1 (by decide) (by decide) rfl rfl ?_
      refine g_aload_0 h dX5_countTells_97 ?_
      refine g_getP h fl_X5_43 dX5_countTells_98 rfl rfl (by assumption) ?_
      refine g_getI h fl_X5_168 dX5_countTells_101 rfl rfl ?_
      refine g_iret h dX5_countTells_104 ?_
      exact hQ
  · refine g_iload_1 h dX5_countTells_0 ?_
    · refine g_tsIn h 105 dX5_countTells_1 (by decide) (by decide) rfl rfl ?_
      refine g_aload_0 h dX5_countTells_105 ?_
      refine g_cVi0 h rok0 mi_X5_valuesOfAll dX5_countTells_106 ml_X5_171 rfl rfl rfl (Nat.le_of_ble_eq_true rfl) (Nat.le_of_ble_eq_true rfl) (sp_X5_valuesOfAll_20 hT hN hN16 ?_)
      refine g_iret h dX5_countTells_109 ?_
      exact hQ
  · refine g_iload_1 h dX5_countTells_0 ?_
    · refine g_tsIn h 110 dX5_countTells_1 (by decide) (by decide) rfl rfl ?_
      refine g_aload_0 h dX5_countTells_110 ?_
      refine g_cVi0 h rok0 mi_X5_knotsOfAll dX5_countTells_111 ml_X5_175 rfl rfl rfl (Nat.le_of_ble_eq_true rfl) (Nat.le_of_ble_eq_true rfl) (sp_X5_knotsOfAll_20 hT hN hN16 ?_)
      refine g_iret h dX5_countTells_114 ?_
      exact hQ
  · refine g_iload_1 h dX5_countTells_0 ?_
    · refine g_tsIn h 115 dX5_countTells_1 (by decide) (by decide) rfl rfl ?_
      refine g_aload_0 h dX5_countTells_115 ?_
      refine g_cVi0 h rok0 mi_X5_turnsOfAll dX5_countTells_116 ml_X5_178 rfl rfl rfl (Nat.le_of_ble_eq_true rfl) (Nat.le_of_ble_eq_true rfl) (sp_X5_turnsOfAll_20 hT hN hN16 ?_)
      refine g_iret h dX5_countTells_119 ?_
      exact hQ
  · refine g_iload_1 h dX5_countTells_0 ?_
    · refine g_tsIn h 120 dX5_countTells_1 (by decide) (by decide) rfl rfl ?_
      refine g_aload_0 h dX5_countTells_120 ?_
      refine g_cVi0 h rok0 mi_X5_wrongTops dX5_countTells_121 ml_X5_181 rfl rfl rfl (Nat.le_of_ble_eq_true rfl) (Nat.le_of_ble_eq_true rfl) (sp_X5_wrongTops_20 hT hN hN16 hTp hT6 hsz ?_)
      refine g_iret h dX5_countTells_124 ?_
      exact hQ
  · refine g_iload_1 h dX5_countTells_0 ?_
    · refine g_tsIn h 125 dX5_countTells_1 (by decide) (by decide) rfl rfl ?_
      refine g_aload_0 h dX5_countTells_125 ?_
      refine g_getI h fl_X5_13 dX5_countTells_126 rfl rfl ?_
      refine g_iret h dX5_countTells_129 ?_
      exact hQ
  · refine g_iload_1 h dX5_countTells_0 ?_
    · refine g_tsOut h 130 dX5_countTells_1 (by decide) rfl ?_
      refine g_aload_0 h dX5_countTells_130 ?_
      refine g_getI h fl_X5_16 dX5_countTells_131 rfl rfl ?_
      refine g_iret h dX5_countTells_134 ?_
      exact hQ
set_option maxHeartbeats 4000000 in
theorem lp_X5_colourTells_20 {Γ : Cx} {d N : Nat} {I : MI} {J : MJ} {P : MP} (hT : P 20 0 = some 36) (hN : I 36 1 = nI N) (hN16 : N ≤ 16) {x w : Int32} {Φ : State → Prop} (h : Vc RX5 cX5_colourTells 6 (some .int) (d) Γ) : ∀ (f i : Nat) (a b : Int32), i + f = N → (∀ a' b', a' = sumF (fun i => if I 21 i = x then nI 1 else nI 0) f i a → b' = sumF (fun i => if I 21 i = x then I 23 i else nI 0) f i b → VG Γ 0 0 66 [some (.ref 20), some (.int x), some (.int w), some (.int a'), some (.int b'), some (.int (nI N))] [] I J P Φ) → VG Γ 0 0 22 [some (.ref 20), some (.int x), some (.int w), some (.int a), some (.int b), some (.int (nI i))] [] I J P Φ := by
  intro f
  induction f with
  | zero =>
    intro i a b hi K
    obtain rfl : i = N := by omega
    refine g_iload_5 h dX5_colourTells_22 ?_
    refine g_aload_0 h dX5_colourTells_24 ?_
    refine g_getP h fl_X5_43 dX5_colourTells_25 rfl rfl (by assumption) ?_
    refine g_getI h fl_X5_53 dX5_colourTells_28 rfl rfl ?_
    refine g_icmp_ge h 66 dX5_colourTells_31 rfl (fun c31 => ?_) (fun c31 => ?_)
    · exact K _ _ rfl rfl
    · exact absurd (by rw [hN]; exact nI_le (by omega) (by omega)) c31
  | succ f ih =>
    intro i a b hi K
    refine g_iload_5 h dX5_colourTells_22 ?_
    refine g_aload_0 h dX5_colourTells_24 ?_
    refine g_getP h fl_X5_43 dX5_colourTells_25 rfl rfl (by assumption) ?_
    refine g_getI h fl_X5_53 dX5_colourTells_28 rfl rfl ?_
    refine g_icmp_ge h 66 dX5_colourTells_31 rfl (fun c31 => ?_) (fun c31 => ?_)
    · exact absurd (leN (by simpa only [hN] using c31) (by omega) (by omega)) (by omega)
    · refine g_aload_0 h dX5_colourTells_34 ?_
      refine g_getC h fl_X5_21 dX5_colourTells_35 rfl rfl ?_
      refine g_iload_5 h dX5_colourTells_38 ?_
      refine g_iald h i dX5_colourTells_40 rfl rfl (by omega) ?_
      refine g_iload_1 h dX5_colourTells_41 ?_
      refine g_icmp_ne h 60 dX5_colourTells_42 rfl (fun c42 => ?_) (fun c42 => ?_)
      · refine g_iinc_5 h dX5_colourTells_60 (inc1 _) (by decide) rfl ?_
        refine g_goto h 22 dX5_colourTells_63 rfl ?_
        exact ih (i + 1) _ _ (by omega) (fun a' b' e1 e2 => K a' b' (e1.trans (by simp [sumF, c42, add0])) (e2.trans (by simp [sumF, c42, add0])))
      · refine g_iinc_3 h dX5_colourTells_45 (v := a + nI 1) rfl (by decide) rfl ?_
        refine g_iload_4 h dX5_colourTells_48 ?_
        refine g_aload_0 h dX5_colourTells_50 ?_
        refine g_getC h fl_X5_28 dX5_colourTells_51 rfl rfl ?_
        refine g_iload_5 h dX5_colourTells_54 ?_
        refine g_iald h i dX5_colourTells_56 rfl rfl (by omega) ?_
        refine g_iadd h dX5_colourTells_57 ?_
        refine g_istore_4 h dX5_colourTells_58 (by decide) rfl ?_
        refine g_iinc_5 h dX5_colourTells_60 (inc1 _) (by decide) rfl ?_
        refine g_goto h 22 dX5_colourTells_63 rfl ?_
        exact ih (i + 1) _ _ (by omega) (fun a' b' e1 e2 => K a' b' (e1.trans (by simp [sumF, c42, add0])) (e2.trans (by simp [sumF, c42, add0])))
def colT (I : MI) (N : Nat) (a : Nat) : Nat → Int32
  | 0 => I 37 a
  | 1 => sumF (fun i => if I 21 i = nI a then nI 1 else nI 0) N 0 (nI 0)
  | _ => sumF (fun i => if I 21 i = nI a then I 23 i else nI 0) N 0 (nI 0)
set_option maxHeartbeats 4000000 in
theorem sp_X5_colourTells_20 {d N a w : Nat} {I : MI} {J : MJ} {P : MP} (hT : P 20 0 = some 36) (hN : I 36 1 = nI N) (hN16 : N ≤ 16) (ha : a < 6) (hw : w < 3) {Q : Int32 → MI → MJ → MP → Prop} (hQ : Q (colT I N a w) I J P) : Sp yX5_colourTells cX5_colourTells 6 (some .int) d [.ref 20, .int (nI a), .int (nI w)] I J P (Qi Q) := by
  intro Γ h
  show VG Γ 0 0 0 [some (.ref 20), some (.int (nI a)), some (.int (nI w)), none, none, none] [] _ _ _ _
  rcases (show w = 0 ∨ w = 1 ∨ w = 2 by omega) with rfl | rfl | rfl
  · refine g_iload_2 h dX5_colourTells_0 ?_
    refine g_if_ne h 14 dX5_colourTells_1 rfl (fun c1 => ?_) (fun c1 => ?_)
    · exact absurd c1 (by decide)
    · refine g_aload_0 h dX5_colourTells_4 ?_
      refine g_getP h fl_X5_43 dX5_colourTells_5 rfl rfl (by assumption) ?_
      refine g_getC h fl_X5_102 dX5_colourTells_8 rfl rfl ?_
      refine g_iload_1 h dX5_colourTells_11 ?_
      refine g_iald h a dX5_colourTells_12 rfl rfl ha ?_
      refine g_iret h dX5_colourTells_13 ?_
      exact hQ
  · refine g_iload_2 h dX5_colourTells_0 ?_
    refine g_if_ne h 14 dX5_colourTells_1 rfl (fun c1 => ?_) (fun c1 => ?_)
    · refine g_iconst h dX5_colourTells_14 (v := nI 0) rfl ?_
      refine g_istore_3 h dX5_colourTells_15 (by decide) rfl ?_
      refine g_iconst h dX5_colourTells_16 (v := nI 0) rfl ?_
      refine g_istore_4 h dX5_colourTells_17 (by decide) rfl ?_
      refine g_iconst h dX5_colourTells_19 (v := nI 0) rfl ?_
      refine g_istore_5 h dX5_colourTells_20 (by decide) rfl ?_
      refine lp_X5_colourTells_20 hT hN hN16 h N 0 _ _ (by omega) (fun a1 b1 e1 e2 => ?_)
      refine g_iload_2 h dX5_colourTells_66 ?_
      refine g_iconst h dX5_colourTells_67 (v := nI 1) rfl ?_
      refine g_icmp_ne h 75 dX5_colourTells_68 rfl (fun c68 => ?_) (fun c68 => ?_)
      · exact absurd c68 (by decide)
      · refine g_iload_3 h dX5_colourTells_71 ?_
        refine g_goto h 77 dX5_colourTells_72 rfl ?_
        refine g_iret h dX5_colourTells_77 ?_
        exact q_i (e1.trans rfl) hQ
    · exact absurd c1 (by decide)
  · refine g_iload_2 h dX5_colourTells_0 ?_
    refine g_if_ne h 14 dX5_colourTells_1 rfl (fun c1 => ?_) (fun c1 => ?_)
    · refine g_iconst h dX5_colourTells_14 (v := nI 0) rfl ?_
      refine g_istore_3 h dX5_colourTells_15 (by decide) rfl ?_
      refine g_iconst h dX5_colourTells_16 (v := nI 0) rfl ?_
      refine g_istore_4 h dX5_colourTells_17 (by decide) rfl ?_
      refine g_iconst h dX5_colourTells_19 (v := nI 0) rfl ?_
      refine g_istore_5 h dX5_colourTells_20 (by decide) rfl ?_
      refine lp_X5_colourTells_20 hT hN hN16 h N 0 _ _ (by omega) (fun a1 b1 e1 e2 => ?_)
      refine g_iload_2 h dX5_colourTells_66 ?_
      refine g_iconst h dX5_colourTells_67 (v := nI 1) rfl ?_
      refine g_icmp_ne h 75 dX5_colourTells_68 rfl (fun c68 => ?_) (fun c68 => ?_)
      · refine g_iload_4 h dX5_colourTells_75 ?_
        refine g_iret h dX5_colourTells_77 ?_
        exact q_i (e2.trans rfl) hQ
      · exact absurd c68 (by decide)
    · exact absurd c1 (by decide)
set_option maxHeartbeats 4000000 in
theorem lp_X5_topsOver_20 {Γ : Cx} {d Tn : Nat} {sz : Nat → Nat} {I : MI} {J : MJ} {P : MP} (hT : P 20 0 = some 36) (hTp : I 36 2 = nI Tn) (hT6 : Tn ≤ 6) (hsz : ∀ a, a < Tn → I 41 a = nI (sz a) ∧ sz a ≤ 8) {x : Int32} {Q : Int32 → MI → MJ → MP → Prop} (h : Vc RX5 cX5_topsOver 4 (some .int) (d + 1) Γ) : ∀ (f i : Nat) (a : Int32), i + f = Tn → Q (sumF (fun i => b2i (anyB (fun n => decide (I (43 + i) n = x)) (sz i) 0)) f i a) I J P → VG Γ 0 0 4 [some (.ref 20), some (.int x), some (.int a), some (.int (nI i))] [] I J P (Fnl Γ (Qi Q)) := by
  intro f
  induction f with
  | zero =>
    intro i a hi hQ
    refine g_iload_3 h dX5_topsOver_4 ?_
    refine g_aload_0 h dX5_topsOver_5 ?_
    refine g_getP h fl_X5_43 dX5_topsOver_6 rfl rfl (by assumption) ?_
    refine g_getI h fl_X5_118 dX5_topsOver_9 rfl rfl ?_
    refine g_icmp_ge h 41 dX5_topsOver_12 rfl (fun c12 => ?_) (fun c12 => ?_)
    · refine g_iload_2 h dX5_topsOver_41 ?_
      refine g_iret h dX5_topsOver_42 ?_
      exact hQ
    · exact absurd (by rw [hTp]; exact nI_le (by omega) (by omega)) c12
  | succ f ih =>
    intro i a hi hQ
    refine g_iload_3 h dX5_topsOver_4 ?_
    refine g_aload_0 h dX5_topsOver_5 ?_
    refine g_getP h fl_X5_43 dX5_topsOver_6 rfl rfl (by assumption) ?_
    refine g_getI h fl_X5_118 dX5_topsOver_9 rfl rfl ?_
    refine g_icmp_ge h 41 dX5_topsOver_12 rfl (fun c12 => ?_) (fun c12 => ?_)
    · exact absurd (leN (by simpa only [hTp] using c12) (by omega) (by omega)) (by omega)
    · refine g_iload_2 h dX5_topsOver_15 ?_
      refine g_aload_0 h dX5_topsOver_16 ?_
      refine g_getP h fl_X5_43 dX5_topsOver_17 rfl rfl (by assumption) ?_
      refine g_iload_3 h dX5_topsOver_20 ?_
      refine g_iload_1 h dX5_topsOver_21 ?_
      refine g_cVi2 h rok0 mi_X9_isOver dX5_topsOver_22 ml_X5_190 rfl rfl rfl (Nat.le_of_ble_eq_true rfl) (Nat.le_of_ble_eq_true rfl) (sp_X9_isOver_36 (by omega) (hsz i (by omega)).1 (hsz i (by omega)).2 ?_)
      refine g_if_eq h 32 dX5_topsOver_25 rfl (fun c25 => ?_) (fun c25 => ?_)
      · refine g_iconst h dX5_topsOver_32 (v := nI 0) rfl ?_
        refine g_iadd h dX5_topsOver_33 ?_
        refine g_istore_2 h dX5_topsOver_34 (by decide) rfl ?_
        refine g_iinc_3 h dX5_topsOver_35 (inc1 _) (by decide) rfl ?_
        refine g_goto h 4 dX5_topsOver_38 rfl ?_
        first
          | exact ih (i + 1) _ (by omega) (q_i (by simp only [sumF]; rw [b2i_1 c25]) hQ)
          | exact ih (i + 1) _ (by omega) (q_i (by simp only [sumF]; rw [b2i_00 c25]) hQ)
      · refine g_iconst h dX5_topsOver_28 (v := nI 1) rfl ?_
        refine g_goto h 33 dX5_topsOver_29 rfl ?_
        refine g_iadd h dX5_topsOver_33 ?_
        refine g_istore_2 h dX5_topsOver_34 (by decide) rfl ?_
        refine g_iinc_3 h dX5_topsOver_35 (inc1 _) (by decide) rfl ?_
        refine g_goto h 4 dX5_topsOver_38 rfl ?_
        first
          | exact ih (i + 1) _ (by omega) (q_i (by simp only [sumF]; rw [b2i_1 c25]) hQ)
          | exact ih (i + 1) _ (by omega) (q_i (by simp only [sumF]; rw [b2i_00 c25]) hQ)
set_option maxRecDepth 100000 in
set_option maxHeartbeats 4000000 in
theorem sp_X5_topsOver_20 {d Tn : Nat} {sz : Nat → Nat} {I : MI} {J : MJ} {P : MP} (hT : P 20 0 = some 36) (hTp : I 36 2 = nI Tn) (hT6 : Tn ≤ 6) (hsz : ∀ a, a < Tn → I 41 a = nI (sz a) ∧ sz a ≤ 8) {x : Int32} {Q : Int32 → MI → MJ → MP → Prop} (hQ : Q (sumF (fun i => b2i (anyB (fun n => decide (I (43 + i) n = x)) (sz i) 0)) Tn 0 (nI 0)) I J P) : Sp yX5_topsOver cX5_topsOver 4 (some .int) (d + 1) [.ref 20, .int x] I J P (Qi Q) := by
  intro Γ h
  show VG Γ 0 0 0 [some (.ref 20), some (.int x), none, none] [] _ _ _ _
  refine g_iconst h dX5_topsOver_0 (v := nI 0) rfl ?_
  refine g_istore_2 h dX5_topsOver_1 (by decide) rfl ?_
  refine g_iconst h dX5_topsOver_2 (v := nI 0) rfl ?_
  refine g_istore_3 h dX5_topsOver_3 (by decide) rfl ?_
  exact lp_X5_topsOver_20 hT hTp hT6 hsz h Tn 0 _ (by omega) hQ
def corT (I : MI) (N Tn : Nat) (sz : Nat → Nat) (c : Nat) : Nat → Int32
  | 0 => I 21 c
  | 1 => I 22 c
  | 2 => nI (dep (I 22) N 4 (nI c))
  | 3 => I 23 c
  | 4 => I 24 c
  | 5 => kno (I 23 c)
  | 6 => tur (I 23 c)
  | 7 => sumF (fun i => if I 22 i = nI c then nI 1 else nI 0) N 0 (nI 0)
  | _ => sumF (fun i => b2i (anyB (fun n => decide (I (43 + i) n = nI c)) (sz i) 0)) Tn 0 (nI 0)
set_option maxHeartbeats 4000000 in
theorem sp_X5_cordTells_20 {d N Tn c w : Nat} {sz : Nat → Nat} {I : MI} {J : MJ} {P : MP} (hT : P 20 0 = some 36) (hN : I 36 1 = nI N) (hN16 : N ≤ 16) (hTp : I 36 2 = nI Tn) (hT6 : Tn ≤ 6) (hsz : ∀ a, a < Tn → I 41 a = nI (sz a) ∧ sz a ≤ 8) (hc : c < 16) (hw : w < 9) {Q : Int32 → MI → MJ → MP → Prop} (hQ : Q (corT I N Tn sz c w) I J P) : Sp yX5_cordTells cX5_cordTells 3 (some .int) (d + 2) [.ref 20, .int (nI c), .int (nI w)] I J P (Qi Q) := by
  intro Γ h
  show VG Γ 0 0 0 [some (.ref 20), some (.int (nI c)), some (.int (nI w))] [] _ _ _ _
  rcases (show w = 0 ∨ w = 1 ∨ w = 2 ∨ w = 3 ∨ w = 4 ∨ w = 5 ∨ w = 6 ∨ w = 7 ∨ w = 8 by omega) with rfl | rfl | rfl | rfl | rfl | rfl | rfl | rfl | rfl
  · refine g_iload_2 h dX5_cordTells_0 ?_
    · refine g_tsIn h 48 dX5_cordTells_1 (by decide) (by decide) rfl rfl ?_
      refine g_aload_0 h dX5_cordTells_48 ?_
      refine g_getC h fl_X5_21 dX5_cordTells_49 rfl rfl ?_
      refine g_iload_1 h dX5_cordTells_52 ?_
      refine g_iald h c dX5_cordTells_53 rfl rfl hc ?_
      refine g_iret h dX5_cordTells_54 ?_
      exact hQ
  · refine g_iload_2 h dX5_cordTells_0 ?_
    · refine g_tsIn h 55 dX5_cordTells_1 (by decide) (by decide) rfl rfl ?_
      refine g_aload_0 h dX5_cordTells_55 ?_
      refine g_getC h fl_X5_25 dX5_cordTells_56 rfl rfl ?_
      refine g_iload_1 h dX5_cordTells_59 ?_
      refine g_iald h c dX5_cordTells_60 rfl rfl hc ?_
      refine g_iret h dX5_cordTells_61 ?_
      exact hQ
  · refine g_iload_2 h dX5_cordTells_0 ?_
    · refine g_tsIn h 62 dX5_cordTells_1 (by decide) (by decide) rfl rfl ?_
      refine g_aload_0 h dX5_cordTells_62 ?_
      refine g_iload_1 h dX5_cordTells_63 ?_
      refine g_cVi1 h rok0 mi_X5_depthOf dX5_cordTells_64 ml_X5_80 rfl rfl rfl (Nat.le_of_ble_eq_true rfl) (Nat.le_of_ble_eq_true rfl) (sp_X5_depthOf_20 hT hN hN16 ?_)
      refine g_iret h dX5_cordTells_67 ?_
      exact hQ
  · refine g_iload_2 h dX5_cordTells_0 ?_
    · refine g_tsIn h 68 dX5_cordTells_1 (by decide) (by decide) rfl rfl ?_
      refine g_aload_0 h dX5_cordTells_68 ?_
      refine g_getC h fl_X5_28 dX5_cordTells_69 rfl rfl ?_
      refine g_iload_1 h dX5_cordTells_72 ?_
      refine g_iald h c dX5_cordTells_73 rfl rfl hc ?_
      refine g_iret h dX5_cordTells_74 ?_
      exact hQ
  · refine g_iload_2 h dX5_cordTells_0 ?_
    · refine g_tsIn h 75 dX5_cordTells_1 (by decide) (by decide) rfl rfl ?_
      refine g_aload_0 h dX5_cordTells_75 ?_
      refine g_getC h fl_X5_31 dX5_cordTells_76 rfl rfl ?_
      refine g_iload_1 h dX5_cordTells_79 ?_
      refine g_iald h c dX5_cordTells_80 rfl rfl hc ?_
      refine g_iret h dX5_cordTells_81 ?_
      exact hQ
  · refine g_iload_2 h dX5_cordTells_0 ?_
    · refine g_tsIn h 82 dX5_cordTells_1 (by decide) (by decide) rfl rfl ?_
      refine g_aload_0 h dX5_cordTells_82 ?_
      refine g_getC h fl_X5_28 dX5_cordTells_83 rfl rfl ?_
      refine g_iload_1 h dX5_cordTells_86 ?_
      refine g_iald h c dX5_cordTells_87 rfl rfl hc ?_
      refine g_cSi1 h rok0 mi_X3_knotsOf dX5_cordTells_88 ml_X5_149 (Nat.le_of_ble_eq_true rfl) (Nat.le_of_ble_eq_true rfl) (sp_X3_knotsOf ?_)
      refine g_iret h dX5_cordTells_91 ?_
      exact hQ
  · refine g_iload_2 h dX5_cordTells_0 ?_
    · refine g_tsIn h 92 dX5_cordTells_1 (by decide) (by decide) rfl rfl ?_
      refine g_aload_0 h dX5_cordTells_92 ?_
      refine g_getC h fl_X5_28 dX5_cordTells_93 rfl rfl ?_
      refine g_iload_1 h dX5_cordTells_96 ?_
      refine g_iald h c dX5_cordTells_97 rfl rfl hc ?_
      refine g_cSi1 h rok0 mi_X3_turnsOf dX5_cordTells_98 ml_X5_160 (Nat.le_of_ble_eq_true rfl) (Nat.le_of_ble_eq_true rfl) (sp_X3_turnsOf ?_)
      refine g_iret h dX5_cordTells_101 ?_
      exact hQ
  · refine g_iload_2 h dX5_cordTells_0 ?_
    · refine g_tsIn h 102 dX5_cordTells_1 (by decide) (by decide) rfl rfl ?_
      refine g_aload_0 h dX5_cordTells_102 ?_
      refine g_iload_1 h dX5_cordTells_103 ?_
      refine g_cVi1 h rok0 mi_X5_cordsUnder dX5_cordTells_104 ml_X5_184 rfl rfl rfl (Nat.le_of_ble_eq_true rfl) (Nat.le_of_ble_eq_true rfl) (sp_X5_cordsUnder_20 hT hN hN16 ?_)
      refine g_iret h dX5_cordTells_107 ?_
      exact hQ
  · refine g_iload_2 h dX5_cordTells_0 ?_
    · refine g_tsOut h 108 dX5_cordTells_1 (by decide) rfl ?_
      refine g_aload_0 h dX5_cordTells_108 ?_
      refine g_iload_1 h dX5_cordTells_109 ?_
      refine g_cVi1 h rok0 mi_X5_topsOver dX5_cordTells_110 ml_X5_187 rfl rfl rfl (Nat.le_of_ble_eq_true rfl) (Nat.le_of_ble_eq_true rfl) (sp_X5_topsOver_20 hT hTp hT6 hsz ?_)
      refine g_iret h dX5_cordTells_113 ?_
      exact hQ
def topT (I : MI) (N : Nat) (a z : Nat) : Nat → Int32
  | 0 => I 41 a
  | 1 => I 25 a
  | 2 => cnb N (I 24) (I (43 + a)) (z)
  | _ => b2i (wrgB (I 25 a) (cnb N (I 24) (I (43 + a)) (z)))
set_option maxHeartbeats 4000000 in
theorem sp_X5_topTells_20 {d N a0 z w : Nat} {I : MI} {J : MJ} {P : MP} (hT : P 20 0 = some 36) (hN : I 36 1 = nI N) (hN16 : N ≤ 16) (ha : a0 < 6) (hz : I 41 a0 = nI z) (hz8 : z ≤ 8) (hw : w < 4) {Q : Int32 → MI → MJ → MP → Prop} (hQ : Q (topT I N a0 z w) I J P) : Sp yX5_topTells cX5_topTells 3 (some .int) (d + 3) [.ref 20, .int (nI a0), .int (nI w)] I J P (Qi Q) := by
  intro Γ h
  show VG Γ 0 0 0 [some (.ref 20), some (.int (nI a0)), some (.int (nI w))] [] _ _ _ _
  rcases (show w = 0 ∨ w = 1 ∨ w = 2 ∨ w = 3 by omega) with rfl | rfl | rfl | rfl
  · refine g_iload_2 h dX5_topTells_0 ?_
    · refine g_tsIn h 28 dX5_topTells_1 (by decide) (by decide) rfl rfl ?_
      refine g_aload_0 h dX5_topTells_28 ?_
      refine g_getP h fl_X5_43 dX5_topTells_29 rfl rfl (by assumption) ?_
      refine g_getC h fl_X5_108 dX5_topTells_32 rfl rfl ?_
      refine g_iload_1 h dX5_topTells_35 ?_
      refine g_iald h a0 dX5_topTells_36 rfl rfl ha ?_
      refine g_iret h dX5_topTells_37 ?_
      exact hQ
  · refine g_iload_2 h dX5_topTells_0 ?_
    · refine g_tsIn h 38 dX5_topTells_1 (by decide) (by decide) rfl rfl ?_
      refine g_aload_0 h dX5_topTells_38 ?_
      refine g_getC h fl_X5_34 dX5_topTells_39 rfl rfl ?_
      refine g_iload_1 h dX5_topTells_42 ?_
      refine g_iald h a0 dX5_topTells_43 rfl rfl ha ?_
      refine g_iret h dX5_topTells_44 ?_
      exact hQ
  · refine g_iload_2 h dX5_topTells_0 ?_
    · refine g_tsIn h 45 dX5_topTells_1 (by decide) (by decide) rfl rfl ?_
      refine g_aload_0 h dX5_topTells_45 ?_
      refine g_iload_1 h dX5_topTells_46 ?_
      refine g_cVi1 h rok0 mi_X5_countedBelow dX5_topTells_47 ml_X5_115 rfl rfl rfl (Nat.le_of_ble_eq_true rfl) (Nat.le_of_ble_eq_true rfl) (sp_X5_countedBelow_20 hT hN hN16 ha hz hz8 ?_)
      refine g_iret h dX5_topTells_50 ?_
      exact hQ
  · refine g_iload_2 h dX5_topTells_0 ?_
    · refine g_tsOut h 51 dX5_topTells_1 (by decide) rfl ?_
      refine g_aload_0 h dX5_topTells_51 ?_
      refine g_iload_1 h dX5_topTells_52 ?_
      refine g_cVi1 h rok0 mi_X5_isWrong dX5_topTells_53 ml_X5_121 rfl rfl rfl (Nat.le_of_ble_eq_true rfl) (Nat.le_of_ble_eq_true rfl) (sp_X5_isWrong_20 hT hN hN16 ha hz hz8 ?_)
      refine g_if_eq h 63 dX5_topTells_56 rfl (fun c56 => ?_) (fun c56 => ?_)
      · refine g_iconst h dX5_topTells_63 (v := nI 0) rfl ?_
        refine g_iret h dX5_topTells_64 ?_
        first
          | exact q_i (b2i_1 c56).symm hQ
          | exact q_i (b2i_00 c56).symm hQ
      · refine g_iconst h dX5_topTells_59 (v := nI 1) rfl ?_
        refine g_goto h 64 dX5_topTells_60 rfl ?_
        refine g_iret h dX5_topTells_64 ?_
        first
          | exact q_i (b2i_1 c56).symm hQ
          | exact q_i (b2i_00 c56).symm hQ
def keeT (I : MI) (k : Nat) : Nat → Int32
  | 0 => I 49 k
  | 1 => I 26 k
  | 2 => I 27 k
  | _ => b2i (tooB (I 26 k) (I 49 k))
set_option maxHeartbeats 4000000 in
theorem sp_X5_keeperTells_20 {d k w : Nat} {I : MI} {J : MJ} {P : MP} (hT : P 20 0 = some 36) (hk : k < 5) (hw : w < 4) {Q : Int32 → MI → MJ → MP → Prop} (hQ : Q (keeT I k w) I J P) : Sp yX5_keeperTells cX5_keeperTells 3 (some .int) (d + 1) [.ref 20, .int (nI k), .int (nI w)] I J P (Qi Q) := by
  intro Γ h
  show VG Γ 0 0 0 [some (.ref 20), some (.int (nI k)), some (.int (nI w))] [] _ _ _ _
  rcases (show w = 0 ∨ w = 1 ∨ w = 2 ∨ w = 3 by omega) with rfl | rfl | rfl | rfl
  · refine g_iload_2 h dX5_keeperTells_0 ?_
    · refine g_tsIn h 28 dX5_keeperTells_1 (by decide) (by decide) rfl rfl ?_
      refine g_aload_0 h dX5_keeperTells_28 ?_
      refine g_getP h fl_X5_43 dX5_keeperTells_29 rfl rfl (by assumption) ?_
      refine g_getC h fl_X5_124 dX5_keeperTells_32 rfl rfl ?_
      refine g_iload_1 h dX5_keeperTells_35 ?_
      refine g_iald h k dX5_keeperTells_36 rfl rfl hk ?_
      refine g_iret h dX5_keeperTells_37 ?_
      exact hQ
  · refine g_iload_2 h dX5_keeperTells_0 ?_
    · refine g_tsIn h 38 dX5_keeperTells_1 (by decide) (by decide) rfl rfl ?_
      refine g_aload_0 h dX5_keeperTells_38 ?_
      refine g_getC h fl_X5_37 dX5_keeperTells_39 rfl rfl ?_
      refine g_iload_1 h dX5_keeperTells_42 ?_
      refine g_iald h k dX5_keeperTells_43 rfl rfl hk ?_
      refine g_iret h dX5_keeperTells_44 ?_
      exact hQ
  · refine g_iload_2 h dX5_keeperTells_0 ?_
    · refine g_tsIn h 45 dX5_keeperTells_1 (by decide) (by decide) rfl rfl ?_
      refine g_aload_0 h dX5_keeperTells_45 ?_
      refine g_getC h fl_X5_40 dX5_keeperTells_46 rfl rfl ?_
      refine g_iload_1 h dX5_keeperTells_49 ?_
      refine g_iald h k dX5_keeperTells_50 rfl rfl hk ?_
      refine g_iret h dX5_keeperTells_51 ?_
      exact hQ
  · refine g_iload_2 h dX5_keeperTells_0 ?_
    · refine g_tsOut h 52 dX5_keeperTells_1 (by decide) rfl ?_
      refine g_aload_0 h dX5_keeperTells_52 ?_
      refine g_iload_1 h dX5_keeperTells_53 ?_
      refine g_cVi1 h rok0 mi_X5_isTooTired dX5_keeperTells_54 ml_X5_146 rfl rfl rfl (Nat.le_of_ble_eq_true rfl) (Nat.le_of_ble_eq_true rfl) (sp_X5_isTooTired_20 hT hk ?_)
      refine g_if_eq h 64 dX5_keeperTells_57 rfl (fun c57 => ?_) (fun c57 => ?_)
      · refine g_iconst h dX5_keeperTells_64 (v := nI 0) rfl ?_
        refine g_iret h dX5_keeperTells_65 ?_
        first
          | exact q_i (b2i_1 c57).symm hQ
          | exact q_i (b2i_00 c57).symm hQ
      · refine g_iconst h dX5_keeperTells_60 (v := nI 1) rfl ?_
        refine g_goto h 65 dX5_keeperTells_61 rfl ?_
        refine g_iret h dX5_keeperTells_65 ?_
        first
          | exact q_i (b2i_1 c57).symm hQ
          | exact q_i (b2i_00 c57).symm hQ
set_option maxHeartbeats 4000000 in
theorem lp_X5_countedBelow_28 {Γ : Cx} {d N a0 z : Nat} {I : MI} {J : MJ} {P : MP} (hT : P 28 0 = some 36) (hN : I 36 1 = nI N) (hN16 : N ≤ 16) (ha : a0 < 6) (hz : I 41 a0 = nI z) (hz8 : z ≤ 8)  {Q : Int32 → MI → MJ → MP → Prop} (h : Vc RX5 cX5_countedBelow 5 (some .int) (d + 1) Γ) : ∀ (f i : Nat) (a : Int32) (x4 : Option Value), i + f = z → Q (sumF (fun n => if has (nI N) (I (43 + a0) n) (nI 16) then I 32 (ix (I (43 + a0) n)) else nI 0) f i a) I J P → VG Γ 0 0 4 [some (.ref 28), some (.int (nI a0)), some (.int a), some (.int (nI i)), x4] [] I J P (Fnl Γ (Qi Q)) := by
  intro f
  induction f with
  | zero =>
    intro i a x4 hi hQ
    refine g_iload_3 h dX5_countedBelow_4 ?_
    refine g_aload_0 h dX5_countedBelow_5 ?_
    refine g_getP h fl_X5_43 dX5_countedBelow_6 rfl rfl (by assumption) ?_
    refine g_getC h fl_X5_108 dX5_countedBelow_9 rfl rfl ?_
    refine g_iload_1 h dX5_countedBelow_12 ?_
    refine g_iald h a0 dX5_countedBelow_13 rfl rfl ha ?_
    refine g_icmp_ge h 62 dX5_countedBelow_14 rfl (fun c14 => ?_) (fun c14 => ?_)
    · refine g_iload_2 h dX5_countedBelow_62 ?_
      refine g_iret h dX5_countedBelow_63 ?_
      exact hQ
    · exact absurd (by rw [hz]; exact nI_le (by omega) (by omega)) c14
  | succ f ih =>
    intro i a x4 hi hQ
    refine g_iload_3 h dX5_countedBelow_4 ?_
    refine g_aload_0 h dX5_countedBelow_5 ?_
    refine g_getP h fl_X5_43 dX5_countedBelow_6 rfl rfl (by assumption) ?_
    refine g_getC h fl_X5_108 dX5_countedBelow_9 rfl rfl ?_
    refine g_iload_1 h dX5_countedBelow_12 ?_
    refine g_iald h a0 dX5_countedBelow_13 rfl rfl ha ?_
    refine g_icmp_ge h 62 dX5_countedBelow_14 rfl (fun c14 => ?_) (fun c14 => ?_)
    · exact absurd (leN (by simpa only [hz] using c14) (by omega) (by omega)) (by omega)
    · refine g_aload_0 h dX5_countedBelow_17 ?_
      refine g_getP h fl_X5_43 dX5_countedBelow_18 rfl rfl (by assumption) ?_
      refine g_getC h fl_X5_111 dX5_countedBelow_21 rfl rfl ?_
      refine g_iload_1 h dX5_countedBelow_24 ?_
      refine g_aald h a0 dX5_countedBelow_25 rfl rfl ha ?_
      refine g_iload_3 h dX5_countedBelow_26 ?_
      refine g_iald h i dX5_countedBelow_27 (shp43 ha) rfl (by omega) ?_
      refine g_istore_4 h dX5_countedBelow_28 (by decide) rfl ?_
      refine g_iload_2 h dX5_countedBelow_30 ?_
      refine g_aload_0 h dX5_countedBelow_31 ?_
      refine g_getP h fl_X5_43 dX5_countedBelow_32 rfl rfl (by assumption) ?_
      refine g_iload_4 h dX5_countedBelow_35 ?_
      refine g_cVi1 h rok0 mi_X9_hasCord dX5_countedBelow_37 ml_X5_72 rfl rfl rfl (Nat.le_of_ble_eq_true rfl) (Nat.le_of_ble_eq_true rfl) (sp_X9_hasCord (Or.inl rfl) ?_)
      refine g_if_eq h 53 dX5_countedBelow_40 rfl (fun c40 => ?_) (fun c40 => ?_)
      · refine g_iconst h dX5_countedBelow_53 (v := nI 0) rfl ?_
        refine g_iadd h dX5_countedBelow_54 ?_
        refine g_istore_2 h dX5_countedBelow_55 (by decide) rfl ?_
        refine g_iinc_3 h dX5_countedBelow_56 (inc1 _) (by decide) rfl ?_
        refine g_goto h 4 dX5_countedBelow_59 rfl ?_
        first
          | exact ih (i + 1) _ _ (by omega) (q_i (by simp only [sumF]; rw [← hN, hasT c40, if_pos rfl, ej, ix_n (by omega)]) hQ)
          | exact ih (i + 1) _ _ (by omega) (q_i (by simp only [sumF]; rw [← hN, hasF c40, if_neg Bool.false_ne_true]) hQ)
      · obtain ⟨j, hj, ej⟩ := hasCj hN hN16 c40
        refine g_aload_0 h dX5_countedBelow_43 ?_
        refine g_getC h fl_X5_31 dX5_countedBelow_44 rfl rfl ?_
        refine g_iload_4 h dX5_countedBelow_47 ?_
        refine g_iald h j dX5_countedBelow_49 rfl ej (by omega) ?_
        refine g_goto h 54 dX5_countedBelow_50 rfl ?_
        refine g_iadd h dX5_countedBelow_54 ?_
        refine g_istore_2 h dX5_countedBelow_55 (by decide) rfl ?_
        refine g_iinc_3 h dX5_countedBelow_56 (inc1 _) (by decide) rfl ?_
        refine g_goto h 4 dX5_countedBelow_59 rfl ?_
        first
          | exact ih (i + 1) _ _ (by omega) (q_i (by simp only [sumF]; rw [← hN, hasT c40, if_pos rfl, ej, ix_n (by omega)]) hQ)
          | exact ih (i + 1) _ _ (by omega) (q_i (by simp only [sumF]; rw [← hN, hasF c40, if_neg Bool.false_ne_true]) hQ)
set_option maxRecDepth 100000 in
set_option maxHeartbeats 4000000 in
theorem sp_X5_countedBelow_28 {d N a0 z : Nat} {I : MI} {J : MJ} {P : MP} (hT : P 28 0 = some 36) (hN : I 36 1 = nI N) (hN16 : N ≤ 16) (ha : a0 < 6) (hz : I 41 a0 = nI z) (hz8 : z ≤ 8)  {Q : Int32 → MI → MJ → MP → Prop} (hQ : Q (sumF (fun n => if has (nI N) (I (43 + a0) n) (nI 16) then I 32 (ix (I (43 + a0) n)) else nI 0) z 0 (nI 0)) I J P) : Sp yX5_countedBelow cX5_countedBelow 5 (some .int) (d + 1) [.ref 28, .int (nI a0)] I J P (Qi Q) := by
  intro Γ h
  show VG Γ 0 0 0 [some (.ref 28), some (.int (nI a0)), none, none, none] [] _ _ _ _
  refine g_iconst h dX5_countedBelow_0 (v := nI 0) rfl ?_
  refine g_istore_2 h dX5_countedBelow_1 (by decide) rfl ?_
  refine g_iconst h dX5_countedBelow_2 (v := nI 0) rfl ?_
  refine g_istore_3 h dX5_countedBelow_3 (by decide) rfl ?_
  exact lp_X5_countedBelow_28 hT hN hN16 ha hz hz8 h z 0 _ _ (by omega) hQ
set_option maxRecDepth 100000 in
set_option maxHeartbeats 4000000 in
theorem sp_X5_isWrong_28 {d N a0 z : Nat} {I : MI} {J : MJ} {P : MP} (hT : P 28 0 = some 36) (hN : I 36 1 = nI N) (hN16 : N ≤ 16) (ha : a0 < 6) (hz : I 41 a0 = nI z) (hz8 : z ≤ 8) {Q : Int32 → MI → MJ → MP → Prop} (hQ : Q (b2i (wrgB (I 33 a0) (cnb N (I 32) (I (43 + a0)) (z)))) I J P) : Sp yX5_isWrong cX5_isWrong 2 (some .boolean) (d + 2) [.ref 28, .int (nI a0)] I J P (Qi Q) := by
  intro Γ h
  show VG Γ 0 0 0 [some (.ref 28), some (.int (nI a0))] [] _ _ _ _
  refine g_aload_0 h dX5_isWrong_0 ?_
  refine g_getC h fl_X5_34 dX5_isWrong_1 rfl rfl ?_
  refine g_iload_1 h dX5_isWrong_4 ?_
  refine g_iald h a0 dX5_isWrong_5 rfl rfl ha ?_
  refine g_aload_0 h dX5_isWrong_6 ?_
  refine g_iload_1 h dX5_isWrong_7 ?_
  refine g_cVi1 h rok0 mi_X5_countedBelow dX5_isWrong_8 ml_X5_115 rfl rfl rfl (Nat.le_of_ble_eq_true rfl) (Nat.le_of_ble_eq_true rfl) (sp_X5_countedBelow_28 hT hN hN16 ha hz hz8 ?_)
  refine g_icmp_eq h 18 dX5_isWrong_11 rfl (fun c11 => ?_) (fun c11 => ?_)
  · refine g_iconst h dX5_isWrong_18 (v := nI 0) rfl ?_
    refine g_zret h dX5_isWrong_19 (by first | rfl | exact nar_b2i _) ?_
    first
      | exact q_i (by rw [wrgB, cnb, decide_eq_true c11]; rfl) hQ
      | exact q_i (by rw [wrgB, cnb, decide_eq_false c11]; rfl) hQ
  · refine g_iconst h dX5_isWrong_14 (v := nI 1) rfl ?_
    refine g_goto h 19 dX5_isWrong_15 rfl ?_
    refine g_zret h dX5_isWrong_19 (by first | rfl | exact nar_b2i _) ?_
    first
      | exact q_i (by rw [wrgB, cnb, decide_eq_true c11]; rfl) hQ
      | exact q_i (by rw [wrgB, cnb, decide_eq_false c11]; rfl) hQ
set_option maxHeartbeats 4000000 in
theorem lp_X5_wrongTops_28 {Γ : Cx} {d N Tn : Nat} {sz : Nat → Nat} {I : MI} {J : MJ} {P : MP} (hT : P 28 0 = some 36) (hN : I 36 1 = nI N) (hN16 : N ≤ 16) (hTp : I 36 2 = nI Tn) (hT6 : Tn ≤ 6) (hsz : ∀ a, a < Tn → I 41 a = nI (sz a) ∧ sz a ≤ 8)  {Q : Int32 → MI → MJ → MP → Prop} (h : Vc RX5 cX5_wrongTops 3 (some .int) (d + 3) Γ) : ∀ (f i : Nat) (a : Int32), i + f = Tn → Q (sumF (fun i => b2i (wrgB (I 33 i) (cnb N (I 32) (I (43 + i)) (sz i)))) f i a) I J P → VG Γ 0 0 4 [some (.ref 28), some (.int a), some (.int (nI i))] [] I J P (Fnl Γ (Qi Q)) := by
  intro f
  induction f with
  | zero =>
    intro i a hi hQ
    refine g_iload_2 h dX5_wrongTops_4 ?_
    refine g_aload_0 h dX5_wrongTops_5 ?_
    refine g_getP h fl_X5_43 dX5_wrongTops_6 rfl rfl (by assumption) ?_
    refine g_getI h fl_X5_118 dX5_wrongTops_9 rfl rfl ?_
    refine g_icmp_ge h 37 dX5_wrongTops_12 rfl (fun c12 => ?_) (fun c12 => ?_)
    · refine g_iload_1 h dX5_wrongTops_37 ?_
      refine g_iret h dX5_wrongTops_38 ?_
      exact hQ
    · exact absurd (by rw [hTp]; exact nI_le (by omega) (by omega)) c12
  | succ f ih =>
    intro i a hi hQ
    refine g_iload_2 h dX5_wrongTops_4 ?_
    refine g_aload_0 h dX5_wrongTops_5 ?_
    refine g_getP h fl_X5_43 dX5_wrongTops_6 rfl rfl (by assumption) ?_
    refine g_getI h fl_X5_118 dX5_wrongTops_9 rfl rfl ?_
    refine g_icmp_ge h 37 dX5_wrongTops_12 rfl (fun c12 => ?_) (fun c12 => ?_)
    · exact absurd (leN (by simpa only [hTp] using c12) (by omega) (by omega)) (by omega)
    · refine g_iload_1 h dX5_wrongTops_15 ?_
      refine g_aload_0 h dX5_wrongTops_16 ?_
      refine g_iload_2 h dX5_wrongTops_17 ?_
      refine g_cVi1 h rok0 mi_X5_isWrong dX5_wrongTops_18 ml_X5_121 rfl rfl rfl (Nat.le_of_ble_eq_true rfl) (Nat.le_of_ble_eq_true rfl) (sp_X5_isWrong_28 hT hN hN16 (by omega) (hsz i (by omega)).1 (hsz i (by omega)).2 ?_)
      refine g_if_eq h 28 dX5_wrongTops_21 rfl (fun c21 => ?_) (fun c21 => ?_)
      · refine g_iconst h dX5_wrongTops_28 (v := nI 0) rfl ?_
        refine g_iadd h dX5_wrongTops_29 ?_
        refine g_istore_1 h dX5_wrongTops_30 (by decide) rfl ?_
        refine g_iinc_2 h dX5_wrongTops_31 (inc1 _) (by decide) rfl ?_
        refine g_goto h 4 dX5_wrongTops_34 rfl ?_
        first
          | exact ih (i + 1) _ (by omega) (q_i (by simp only [sumF]; rw [b2i_1 c21]) hQ)
          | exact ih (i + 1) _ (by omega) (q_i (by simp only [sumF]; rw [b2i_00 c21]) hQ)
      · refine g_iconst h dX5_wrongTops_24 (v := nI 1) rfl ?_
        refine g_goto h 29 dX5_wrongTops_25 rfl ?_
        refine g_iadd h dX5_wrongTops_29 ?_
        refine g_istore_1 h dX5_wrongTops_30 (by decide) rfl ?_
        refine g_iinc_2 h dX5_wrongTops_31 (inc1 _) (by decide) rfl ?_
        refine g_goto h 4 dX5_wrongTops_34 rfl ?_
        first
          | exact ih (i + 1) _ (by omega) (q_i (by simp only [sumF]; rw [b2i_1 c21]) hQ)
          | exact ih (i + 1) _ (by omega) (q_i (by simp only [sumF]; rw [b2i_00 c21]) hQ)
set_option maxRecDepth 100000 in
set_option maxHeartbeats 4000000 in
theorem sp_X5_wrongTops_28 {d N Tn : Nat} {sz : Nat → Nat} {I : MI} {J : MJ} {P : MP} (hT : P 28 0 = some 36) (hN : I 36 1 = nI N) (hN16 : N ≤ 16) (hTp : I 36 2 = nI Tn) (hT6 : Tn ≤ 6) (hsz : ∀ a, a < Tn → I 41 a = nI (sz a) ∧ sz a ≤ 8)  {Q : Int32 → MI → MJ → MP → Prop} (hQ : Q (sumF (fun i => b2i (wrgB (I 33 i) (cnb N (I 32) (I (43 + i)) (sz i)))) Tn 0 (nI 0)) I J P) : Sp yX5_wrongTops cX5_wrongTops 3 (some .int) (d + 3) [.ref 28] I J P (Qi Q) := by
  intro Γ h
  show VG Γ 0 0 0 [some (.ref 28), none, none] [] _ _ _ _
  refine g_iconst h dX5_wrongTops_0 (v := nI 0) rfl ?_
  refine g_istore_1 h dX5_wrongTops_1 (by decide) rfl ?_
  refine g_iconst h dX5_wrongTops_2 (v := nI 0) rfl ?_
  refine g_istore_2 h dX5_wrongTops_3 (by decide) rfl ?_
  exact lp_X5_wrongTops_28 hT hN hN16 hTp hT6 hsz h Tn 0 _ (by omega) hQ
set_option maxRecDepth 100000 in
set_option maxHeartbeats 4000000 in
theorem sp_X5_isTooTired_28 {d k : Nat} {I : MI} {J : MJ} {P : MP} (hT : P 28 0 = some 36) (hk : k < 5) {Q : Int32 → MI → MJ → MP → Prop} (hQ : Q (b2i (tooB (I 34 k) (I 49 k))) I J P) : Sp yX5_isTooTired cX5_isTooTired 2 (some .boolean) (d) [.ref 28, .int (nI k)] I J P (Qi Q) := by
  intro Γ h
  show VG Γ 0 0 0 [some (.ref 28), some (.int (nI k))] [] _ _ _ _
  refine g_aload_0 h dX5_isTooTired_0 ?_
  refine g_getC h fl_X5_37 dX5_isTooTired_1 rfl rfl ?_
  refine g_iload_1 h dX5_isTooTired_4 ?_
  refine g_iald h k dX5_isTooTired_5 rfl rfl hk ?_
  refine g_iconst h dX5_isTooTired_6 (v := nI 5) rfl ?_
  refine g_aload_0 h dX5_isTooTired_7 ?_
  refine g_getP h fl_X5_43 dX5_isTooTired_8 rfl rfl (by assumption) ?_
  refine g_getC h fl_X5_124 dX5_isTooTired_11 rfl rfl ?_
  refine g_iload_1 h dX5_isTooTired_14 ?_
  refine g_iald h k dX5_isTooTired_15 rfl rfl hk ?_
  refine g_imul h dX5_isTooTired_16 ?_
  refine g_icmp_le h 24 dX5_isTooTired_17 rfl (fun c17 => ?_) (fun c17 => ?_)
  · refine g_iconst h dX5_isTooTired_24 (v := nI 0) rfl ?_
    refine g_zret h dX5_isTooTired_25 (by first | rfl | exact nar_b2i _) ?_
    first
      | exact q_i (by rw [tooB, decide_eq_true (Int32.not_le.mp c17)]; rfl) hQ
      | exact q_i (by rw [tooB, decide_eq_false (Int32.not_lt.mpr c17)]; rfl) hQ
  · refine g_iconst h dX5_isTooTired_20 (v := nI 1) rfl ?_
    refine g_goto h 25 dX5_isTooTired_21 rfl ?_
    refine g_zret h dX5_isTooTired_25 (by first | rfl | exact nar_b2i _) ?_
    first
      | exact q_i (by rw [tooB, decide_eq_true (Int32.not_le.mp c17)]; rfl) hQ
      | exact q_i (by rw [tooB, decide_eq_false (Int32.not_lt.mpr c17)]; rfl) hQ
set_option maxHeartbeats 4000000 in
theorem lp_X5_valuesOfAll_28 {Γ : Cx} {d N : Nat} {I : MI} {J : MJ} {P : MP} (hT : P 28 0 = some 36) (hN : I 36 1 = nI N) (hN16 : N ≤ 16)  {Q : Int32 → MI → MJ → MP → Prop} (h : Vc RX5 cX5_valuesOfAll 3 (some .int) (d) Γ) : ∀ (f i : Nat) (a : Int32), i + f = N → Q (sumF (fun i => I 31 i) f i a) I J P → VG Γ 0 0 4 [some (.ref 28), some (.int a), some (.int (nI i))] [] I J P (Fnl Γ (Qi Q)) := by
  intro f
  induction f with
  | zero =>
    intro i a hi hQ
    refine g_iload_2 h dX5_valuesOfAll_4 ?_
    refine g_aload_0 h dX5_valuesOfAll_5 ?_
    refine g_getP h fl_X5_43 dX5_valuesOfAll_6 rfl rfl (by assumption) ?_
    refine g_getI h fl_X5_53 dX5_valuesOfAll_9 rfl rfl ?_
    refine g_icmp_ge h 30 dX5_valuesOfAll_12 rfl (fun c12 => ?_) (fun c12 => ?_)
    · refine g_iload_1 h dX5_valuesOfAll_30 ?_
      refine g_iret h dX5_valuesOfAll_31 ?_
      exact hQ
    · exact absurd (by rw [hN]; exact nI_le (by omega) (by omega)) c12
  | succ f ih =>
    intro i a hi hQ
    refine g_iload_2 h dX5_valuesOfAll_4 ?_
    refine g_aload_0 h dX5_valuesOfAll_5 ?_
    refine g_getP h fl_X5_43 dX5_valuesOfAll_6 rfl rfl (by assumption) ?_
    refine g_getI h fl_X5_53 dX5_valuesOfAll_9 rfl rfl ?_
    refine g_icmp_ge h 30 dX5_valuesOfAll_12 rfl (fun c12 => ?_) (fun c12 => ?_)
    · exact absurd (leN (by simpa only [hN] using c12) (by omega) (by omega)) (by omega)
    · refine g_iload_1 h dX5_valuesOfAll_15 ?_
      refine g_aload_0 h dX5_valuesOfAll_16 ?_
      refine g_getC h fl_X5_28 dX5_valuesOfAll_17 rfl rfl ?_
      refine g_iload_2 h dX5_valuesOfAll_20 ?_
      refine g_iald h i dX5_valuesOfAll_21 rfl rfl (by omega) ?_
      refine g_iadd h dX5_valuesOfAll_22 ?_
      refine g_istore_1 h dX5_valuesOfAll_23 (by decide) rfl ?_
      refine g_iinc_2 h dX5_valuesOfAll_24 (inc1 _) (by decide) rfl ?_
      refine g_goto h 4 dX5_valuesOfAll_27 rfl ?_
      exact ih (i + 1) _ (by omega) (q_i (by simp only [sumF]) hQ)
set_option maxRecDepth 100000 in
set_option maxHeartbeats 4000000 in
theorem sp_X5_valuesOfAll_28 {d N : Nat} {I : MI} {J : MJ} {P : MP} (hT : P 28 0 = some 36) (hN : I 36 1 = nI N) (hN16 : N ≤ 16)  {Q : Int32 → MI → MJ → MP → Prop} (hQ : Q (sumF (fun i => I 31 i) N 0 (nI 0)) I J P) : Sp yX5_valuesOfAll cX5_valuesOfAll 3 (some .int) (d) [.ref 28] I J P (Qi Q) := by
  intro Γ h
  show VG Γ 0 0 0 [some (.ref 28), none, none] [] _ _ _ _
  refine g_iconst h dX5_valuesOfAll_0 (v := nI 0) rfl ?_
  refine g_istore_1 h dX5_valuesOfAll_1 (by decide) rfl ?_
  refine g_iconst h dX5_valuesOfAll_2 (v := nI 0) rfl ?_
  refine g_istore_2 h dX5_valuesOfAll_3 (by decide) rfl ?_
  exact lp_X5_valuesOfAll_28 hT hN hN16 h N 0 _ (by omega) hQ
set_option maxHeartbeats 4000000 in
theorem lp_X5_knotsOfAll_28 {Γ : Cx} {d N : Nat} {I : MI} {J : MJ} {P : MP} (hT : P 28 0 = some 36) (hN : I 36 1 = nI N) (hN16 : N ≤ 16)  {Q : Int32 → MI → MJ → MP → Prop} (h : Vc RX5 cX5_knotsOfAll 3 (some .int) (d + 2) Γ) : ∀ (f i : Nat) (a : Int32), i + f = N → Q (sumF (fun i => kno (I 31 i)) f i a) I J P → VG Γ 0 0 4 [some (.ref 28), some (.int a), some (.int (nI i))] [] I J P (Fnl Γ (Qi Q)) := by
  intro f
  induction f with
  | zero =>
    intro i a hi hQ
    refine g_iload_2 h dX5_knotsOfAll_4 ?_
    refine g_aload_0 h dX5_knotsOfAll_5 ?_
    refine g_getP h fl_X5_43 dX5_knotsOfAll_6 rfl rfl (by assumption) ?_
    refine g_getI h fl_X5_53 dX5_knotsOfAll_9 rfl rfl ?_
    refine g_icmp_ge h 33 dX5_knotsOfAll_12 rfl (fun c12 => ?_) (fun c12 => ?_)
    · refine g_iload_1 h dX5_knotsOfAll_33 ?_
      refine g_iret h dX5_knotsOfAll_34 ?_
      exact hQ
    · exact absurd (by rw [hN]; exact nI_le (by omega) (by omega)) c12
  | succ f ih =>
    intro i a hi hQ
    refine g_iload_2 h dX5_knotsOfAll_4 ?_
    refine g_aload_0 h dX5_knotsOfAll_5 ?_
    refine g_getP h fl_X5_43 dX5_knotsOfAll_6 rfl rfl (by assumption) ?_
    refine g_getI h fl_X5_53 dX5_knotsOfAll_9 rfl rfl ?_
    refine g_icmp_ge h 33 dX5_knotsOfAll_12 rfl (fun c12 => ?_) (fun c12 => ?_)
    · exact absurd (leN (by simpa only [hN] using c12) (by omega) (by omega)) (by omega)
    · refine g_iload_1 h dX5_knotsOfAll_15 ?_
      refine g_aload_0 h dX5_knotsOfAll_16 ?_
      refine g_getC h fl_X5_28 dX5_knotsOfAll_17 rfl rfl ?_
      refine g_iload_2 h dX5_knotsOfAll_20 ?_
      refine g_iald h i dX5_knotsOfAll_21 rfl rfl (by omega) ?_
      refine g_cSi1 h rok0 mi_X3_knotsOf dX5_knotsOfAll_22 ml_X5_149 (Nat.le_of_ble_eq_true rfl) (Nat.le_of_ble_eq_true rfl) (sp_X3_knotsOf ?_)
      refine g_iadd h dX5_knotsOfAll_25 ?_
      refine g_istore_1 h dX5_knotsOfAll_26 (by decide) rfl ?_
      refine g_iinc_2 h dX5_knotsOfAll_27 (inc1 _) (by decide) rfl ?_
      refine g_goto h 4 dX5_knotsOfAll_30 rfl ?_
      exact ih (i + 1) _ (by omega) (q_i (by simp only [sumF]) hQ)
set_option maxRecDepth 100000 in
set_option maxHeartbeats 4000000 in
theorem sp_X5_knotsOfAll_28 {d N : Nat} {I : MI} {J : MJ} {P : MP} (hT : P 28 0 = some 36) (hN : I 36 1 = nI N) (hN16 : N ≤ 16)  {Q : Int32 → MI → MJ → MP → Prop} (hQ : Q (sumF (fun i => kno (I 31 i)) N 0 (nI 0)) I J P) : Sp yX5_knotsOfAll cX5_knotsOfAll 3 (some .int) (d + 2) [.ref 28] I J P (Qi Q) := by
  intro Γ h
  show VG Γ 0 0 0 [some (.ref 28), none, none] [] _ _ _ _
  refine g_iconst h dX5_knotsOfAll_0 (v := nI 0) rfl ?_
  refine g_istore_1 h dX5_knotsOfAll_1 (by decide) rfl ?_
  refine g_iconst h dX5_knotsOfAll_2 (v := nI 0) rfl ?_
  refine g_istore_2 h dX5_knotsOfAll_3 (by decide) rfl ?_
  exact lp_X5_knotsOfAll_28 hT hN hN16 h N 0 _ (by omega) hQ
set_option maxHeartbeats 4000000 in
theorem lp_X5_turnsOfAll_28 {Γ : Cx} {d N : Nat} {I : MI} {J : MJ} {P : MP} (hT : P 28 0 = some 36) (hN : I 36 1 = nI N) (hN16 : N ≤ 16)  {Q : Int32 → MI → MJ → MP → Prop} (h : Vc RX5 cX5_turnsOfAll 3 (some .int) (d + 2) Γ) : ∀ (f i : Nat) (a : Int32), i + f = N → Q (sumF (fun i => tur (I 31 i)) f i a) I J P → VG Γ 0 0 4 [some (.ref 28), some (.int a), some (.int (nI i))] [] I J P (Fnl Γ (Qi Q)) := by
  intro f
  induction f with
  | zero =>
    intro i a hi hQ
    refine g_iload_2 h dX5_turnsOfAll_4 ?_
    refine g_aload_0 h dX5_turnsOfAll_5 ?_
    refine g_getP h fl_X5_43 dX5_turnsOfAll_6 rfl rfl (by assumption) ?_
    refine g_getI h fl_X5_53 dX5_turnsOfAll_9 rfl rfl ?_
    refine g_icmp_ge h 33 dX5_turnsOfAll_12 rfl (fun c12 => ?_) (fun c12 => ?_)
    · refine g_iload_1 h dX5_turnsOfAll_33 ?_
      refine g_iret h dX5_turnsOfAll_34 ?_
      exact hQ
    · exact absurd (by rw [hN]; exact nI_le (by omega) (by omega)) c12
  | succ f ih =>
    intro i a hi hQ
    refine g_iload_2 h dX5_turnsOfAll_4 ?_
    refine g_aload_0 h dX5_turnsOfAll_5 ?_
    refine g_getP h fl_X5_43 dX5_turnsOfAll_6 rfl rfl (by assumption) ?_
    refine g_getI h fl_X5_53 dX5_turnsOfAll_9 rfl rfl ?_
    refine g_icmp_ge h 33 dX5_turnsOfAll_12 rfl (fun c12 => ?_) (fun c12 => ?_)
    · exact absurd (leN (by simpa only [hN] using c12) (by omega) (by omega)) (by omega)
    · refine g_iload_1 h dX5_turnsOfAll_15 ?_
      refine g_aload_0 h dX5_turnsOfAll_16 ?_
      refine g_getC h fl_X5_28 dX5_turnsOfAll_17 rfl rfl ?_
      refine g_iload_2 h dX5_turnsOfAll_20 ?_
      refine g_iald h i dX5_turnsOfAll_21 rfl rfl (by omega) ?_
      refine g_cSi1 h rok0 mi_X3_turnsOf dX5_turnsOfAll_22 ml_X5_160 (Nat.le_of_ble_eq_true rfl) (Nat.le_of_ble_eq_true rfl) (sp_X3_turnsOf ?_)
      refine g_iadd h dX5_turnsOfAll_25 ?_
      refine g_istore_1 h dX5_turnsOfAll_26 (by decide) rfl ?_
      refine g_iinc_2 h dX5_turnsOfAll_27 (inc1 _) (by decide) rfl ?_
      refine g_goto h 4 dX5_turnsOfAll_30 rfl ?_
      exact ih (i + 1) _ (by omega) (q_i (by simp only [sumF]) hQ)
set_option maxRecDepth 100000 in
set_option maxHeartbeats 4000000 in
theorem sp_X5_turnsOfAll_28 {d N : Nat} {I : MI} {J : MJ} {P : MP} (hT : P 28 0 = some 36) (hN : I 36 1 = nI N) (hN16 : N ≤ 16)  {Q : Int32 → MI → MJ → MP → Prop} (hQ : Q (sumF (fun i => tur (I 31 i)) N 0 (nI 0)) I J P) : Sp yX5_turnsOfAll cX5_turnsOfAll 3 (some .int) (d + 2) [.ref 28] I J P (Qi Q) := by
  intro Γ h
  show VG Γ 0 0 0 [some (.ref 28), none, none] [] _ _ _ _
  refine g_iconst h dX5_turnsOfAll_0 (v := nI 0) rfl ?_
  refine g_istore_1 h dX5_turnsOfAll_1 (by decide) rfl ?_
  refine g_iconst h dX5_turnsOfAll_2 (v := nI 0) rfl ?_
  refine g_istore_2 h dX5_turnsOfAll_3 (by decide) rfl ?_
  exact lp_X5_turnsOfAll_28 hT hN hN16 h N 0 _ (by omega) hQ
set_option maxHeartbeats 4000000 in
theorem sp_X5_countTells_28 {d N Tn w : Nat} {sz : Nat → Nat} {I : MI} {J : MJ} {P : MP} (hT : P 28 0 = some 36) (hN : I 36 1 = nI N) (hN16 : N ≤ 16) (hTp : I 36 2 = nI Tn) (hT6 : Tn ≤ 6) (hsz : ∀ a, a < Tn → I 41 a = nI (sz a) ∧ sz a ≤ 8) (hw : w < 12) {Q : Int32 → MI → MJ → MP → Prop} (hQ : Q (cntT I 28 N Tn sz w) I J P) : Sp yX5_countTells cX5_countTells 2 (some .int) (d + 4) [.ref 28, .int (nI w)] I J P (Qi Q) := by
  intro Γ h
  show VG Γ 0 0 0 [some (.ref 28), some (.int (nI w))] [] _ _ _ _
  rcases (show w = 0 ∨ w = 1 ∨ w = 2 ∨ w = 3 ∨ w = 4 ∨ w = 5 ∨ w = 6 ∨ w = 7 ∨ w = 8 ∨ w = 9 ∨ w = 10 ∨ w = 11 by omega) with rfl | rfl | rfl | rfl | rfl | rfl | rfl | rfl | rfl | rfl | rfl | rfl
  · refine g_iload_1 h dX5_countTells_0 ?_
    · refine g_tsIn h 60 dX5_countTells_1 (by decide) (by decide) rfl rfl ?_
      refine g_aload_0 h dX5_countTells_60 ?_
      refine g_getI h fl_X5_7 dX5_countTells_61 rfl rfl ?_
      refine g_iret h dX5_countTells_64 ?_
      exact hQ
  · refine g_iload_1 h dX5_countTells_0 ?_
    · refine g_tsIn h 65 dX5_countTells_1 (by decide) (by decide) rfl rfl ?_
      refine g_aload_0 h dX5_countTells_65 ?_
      refine g_getP h fl_X5_43 dX5_countTells_66 rfl rfl (by assumption) ?_
      refine g_getI h fl_X5_165 dX5_countTells_69 rfl rfl ?_
      refine g_iret h dX5_countTells_72 ?_
      exact hQ
  · refine g_iload_1 h dX5_countTells_0 ?_
    · refine g_tsIn h 73 dX5_countTells_1 (by decide) (by decide) rfl rfl ?_
      refine g_aload_0 h dX5_countTells_73 ?_
      refine g_getP h fl_X5_43 dX5_countTells_74 rfl rfl (by assumption) ?_
      refine g_getI h fl_X5_53 dX5_countTells_77 rfl rfl ?_
      refine g_iret h dX5_countTells_80 ?_
      exact hQ
  · refine g_iload_1 h dX5_countTells_0 ?_
    · refine g_tsIn h 81 dX5_countTells_1 (by decide) (by decide) rfl rfl ?_
      refine g_aload_0 h dX5_countTells_81 ?_
      refine g_getP h fl_X5_43 dX5_countTells_82 rfl rfl (by assumption) ?_
      refine g_getI h fl_X5_118 dX5_countTells_85 rfl rfl ?_
      refine g_iret h dX5_countTells_88 ?_
      exact hQ
  · refine g_iload_1 h dX5_countTells_0 ?_
    · refine g_tsIn h 89 dX5_countTells_1 (by decide) (by decide) rfl rfl ?_
      refine g_aload_0 h dX5_countTells_89 ?_
      refine g_getP h fl_X5_43 dX5_countTells_90 rfl rfl (by assumption) ?_
      refine g_getI h fl_X5_154 dX5_countTells_93 rfl rfl ?_
      refine g_iret h dX5_countTells_96 ?_
      exact hQ
  · refine g_iload_1 h dX5_countTells_0 ?_
    · refine g_tsIn h 97 dX5_countTells_1 (by decide) (by decide) rfl rfl ?_
      refine g_aload_0 h dX5_countTells_97 ?_
      refine g_getP h fl_X5_43 dX5_countTells_98 rfl rfl (by assumption) ?_
      refine g_getI h fl_X5_168 dX5_countTells_101 rfl rfl ?_
      refine g_iret h dX5_countTells_104 ?_
      exact hQ
  · refine g_iload_1 h dX5_countTells_0 ?_
    · refine g_tsIn h 105 dX5_countTells_1 (by decide) (by decide) rfl rfl ?_
      refine g_aload_0 h dX5_countTells_105 ?_
      refine g_cVi0 h rok0 mi_X5_valuesOfAll dX5_countTells_106 ml_X5_171 rfl rfl rfl (Nat.le_of_ble_eq_true rfl) (Nat.le_of_ble_eq_true rfl) (sp_X5_valuesOfAll_28 hT hN hN16 ?_)
      refine g_iret h dX5_countTells_109 ?_
      exact hQ
  · refine g_iload_1 h dX5_countTells_0 ?_
    · refine g_tsIn h 110 dX5_countTells_1 (by decide) (by decide) rfl rfl ?_
      refine g_aload_0 h dX5_countTells_110 ?_
      refine g_cVi0 h rok0 mi_X5_knotsOfAll dX5_countTells_111 ml_X5_175 rfl rfl rfl (Nat.le_of_ble_eq_true rfl) (Nat.le_of_ble_eq_true rfl) (sp_X5_knotsOfAll_28 hT hN hN16 ?_)
      refine g_iret h dX5_countTells_114 ?_
      exact hQ
  · refine g_iload_1 h dX5_countTells_0 ?_
    · refine g_tsIn h 115 dX5_countTells_1 (by decide) (by decide) rfl rfl ?_
      refine g_aload_0 h dX5_countTells_115 ?_
      refine g_cVi0 h rok0 mi_X5_turnsOfAll dX5_countTells_116 ml_X5_178 rfl rfl rfl (Nat.le_of_ble_eq_true rfl) (Nat.le_of_ble_eq_true rfl) (sp_X5_turnsOfAll_28 hT hN hN16 ?_)
      refine g_iret h dX5_countTells_119 ?_
      exact hQ
  · refine g_iload_1 h dX5_countTells_0 ?_
    · refine g_tsIn h 120 dX5_countTells_1 (by decide) (by decide) rfl rfl ?_
      refine g_aload_0 h dX5_countTells_120 ?_
      refine g_cVi0 h rok0 mi_X5_wrongTops dX5_countTells_121 ml_X5_181 rfl rfl rfl (Nat.le_of_ble_eq_true rfl) (Nat.le_of_ble_eq_true rfl) (sp_X5_wrongTops_28 hT hN hN16 hTp hT6 hsz ?_)
      refine g_iret h dX5_countTells_124 ?_
      exact hQ
  · refine g_iload_1 h dX5_countTells_0 ?_
    · refine g_tsIn h 125 dX5_countTells_1 (by decide) (by decide) rfl rfl ?_
      refine g_aload_0 h dX5_countTells_125 ?_
      refine g_getI h fl_X5_13 dX5_countTells_126 rfl rfl ?_
      refine g_iret h dX5_countTells_129 ?_
      exact hQ
  · refine g_iload_1 h dX5_countTells_0 ?_
    · refine g_tsOut h 130 dX5_countTells_1 (by decide) rfl ?_
      refine g_aload_0 h dX5_countTells_130 ?_
      refine g_getI h fl_X5_16 dX5_countTells_131 rfl rfl ?_
      refine g_iret h dX5_countTells_134 ?_
      exact hQ
