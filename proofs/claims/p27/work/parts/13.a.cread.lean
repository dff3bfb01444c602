/-! The class: its public methods that read -/
theorem rngI {y : Int32} {m : Nat} (h1 : ¬ y < nI 0) (h2 : y ≤ nI m) (hm : m < 2 ^ 31) : ∃ w, w < m + 1 ∧ y = nI w := by
  obtain ⟨j, hj, rfl⟩ := nI_of h1
  exact ⟨j, Nat.lt_succ_of_le (leN h2 hj hm), rfl⟩
theorem rngN {y : Int32} {m w : Nat} (hy : y = nI w) (hw : w < m) (hm : m < 2 ^ 31) (c : y < nI 0 ∨ ¬ y ≤ nI (m - 1)) : False := by
  subst hy
  rcases c with c | c
  · exact nI_pos (by omega) c
  · exact c (nI_le (by omega) (by omega))
theorem hasNo {N M a : Nat} {x : Int32} (c : b2i (has (nI N) x (nI M)) = 0) (hM : M < 2 ^ 31) (hN : N ≤ M) (ha : a < N) (hx : x = nI a) : False := by
  rw [(has_t hM hN).mpr ⟨a, ha, hx⟩] at c
  exact absurd c (by decide)
theorem hasYes {N M : Nat} {x : Int32} (c : ¬ b2i (has (nI N) x (nI M)) = 0) (hM : M < 2 ^ 31) (hN : N ≤ M) : ∃ a, a < N ∧ x = nI a := (has_t hM hN).mp (b2i_n0.mp c)
set_option maxRecDepth 100000 in
set_option maxHeartbeats 4000000 in
theorem sp_X10_find {d : Nat} {x : Int32} {I : MI} {J : MJ} {P : MP} (hT : P 20 0 = some 36) (hD : tdOK (dv I)) {Q : Int32 → MI → MJ → MP → Prop} (hQ : Q (frst (fun i => decide (I 24 i = x)) (nN (dv I)) 0) I J P) : Sp yX10_find cX10_find 2 (some .int) (d + 8) [.ref 0, .int x] I J P (Qi Q) := by
  intro Γ h
  show VG Γ 0 0 0 [some (.ref 0), some (.int x)] [] _ _ _ _
  obtain ⟨eC, lC⟩ := td_C hD
  obtain ⟨eN, lN⟩ := td_N hD
  obtain ⟨eT, lT⟩ := td_T hD
  obtain ⟨eK, lK⟩ := td_K hD
  have eS := td_S hD
  refine g_aload_0 h dX10_find_0 ?_
  refine g_getC h fl_X10_58 dX10_find_1 rfl rfl ?_
  refine g_iload_1 h dX10_find_4 ?_
  refine g_cVi1 h rok0 mi_X5_cordWithSum dX10_find_5 ml_X10_186 rfl rfl rfl (Nat.le_of_ble_eq_true rfl) (Nat.le_of_ble_eq_true rfl) (sp_X5_cordWithSum_20 hT eN lN ?_)
  refine g_iret h dX10_find_8 ?_
  exact hQ
set_option maxRecDepth 100000 in
set_option maxHeartbeats 4000000 in
theorem sp_X10_colour {d : Nat} {x y : Int32} {I : MI} {J : MJ} {P : MP} (hT : P 20 0 = some 36) (h0 : P 0 0 = some 36) (hD : tdOK (dv I)) {Q : Int32 → MI → MJ → MP → Prop} (hQ : ∀ a w, a < nC (dv I) → w < 3 → x = nI a → y = nI w → Q (colT I (nN (dv I)) a w) I J P) (hX : (¬ ((∃ a, a < nC (dv I) ∧ x = nI a) ∧ ∃ w, w < 3 ∧ y = nI w)) → False) : Sp yX10_colour cX10_colour 3 (some .int) (d + 8) [.ref 0, .int x, .int y] I J P (Qi Q) := by
  intro Γ h
  show VG Γ 0 0 0 [some (.ref 0), some (.int x), some (.int y)] [] _ _ _ _
  obtain ⟨eC, lC⟩ := td_C hD
  obtain ⟨eN, lN⟩ := td_N hD
  obtain ⟨eT, lT⟩ := td_T hD
  obtain ⟨eK, lK⟩ := td_K hD
  have eS := td_S hD
  refine g_aload_0 h dX10_colour_0 ?_
  refine g_getP h fl_X10_10 dX10_colour_1 rfl rfl (by assumption) ?_
  refine g_iload_1 h dX10_colour_4 ?_
  refine g_cVi1 h rok0 mi_X9_hasColour dX10_colour_5 ml_X10_132 rfl rfl rfl (Nat.le_of_ble_eq_true rfl) (Nat.le_of_ble_eq_true rfl) (sp_X9_hasColour (Or.inl rfl) ?_)
  rw [eC]
  refine g_if_eq h 20 dX10_colour_8 rfl (fun c8 => ?_) (fun c8 => ?_)
  · refine False.elim ?_
    first
      | exact hX (fun ⟨⟨a, a1, a2⟩, _⟩ => hasNo c8 (by decide) lC a1 a2)
      | exact hX (fun ⟨_, w, w1, w2⟩ => rngN w2 w1 (by decide) (Or.inl c12))
      | exact hX (fun ⟨_, w, w1, w2⟩ => rngN w2 w1 (by decide) (Or.inr c17))
  · refine g_iload_2 h dX10_colour_11 ?_
    refine g_if_lt h 20 dX10_colour_12 rfl (fun c12 => ?_) (fun c12 => ?_)
    · refine False.elim ?_
      first
        | exact hX (fun ⟨⟨a, a1, a2⟩, _⟩ => hasNo c8 (by decide) lC a1 a2)
        | exact hX (fun ⟨_, w, w1, w2⟩ => rngN w2 w1 (by decide) (Or.inl c12))
        | exact hX (fun ⟨_, w, w1, w2⟩ => rngN w2 w1 (by decide) (Or.inr c17))
    · refine g_iload_2 h dX10_colour_15 ?_
      refine g_iconst h dX10_colour_16 (v := nI 2) rfl ?_
      refine g_icmp_le h 30 dX10_colour_17 rfl (fun c17 => ?_) (fun c17 => ?_)
      · obtain ⟨a, a1, a2⟩ := hasYes c8 (by decide) lC
        obtain ⟨w, w1, w2⟩ := rngI c12 c17 (by decide)
        subst a2
        subst w2
        refine g_aload_0 h dX10_colour_30 ?_
        refine g_getC h fl_X10_58 dX10_colour_31 rfl rfl ?_
        refine g_iload_1 h dX10_colour_34 ?_
        refine g_iload_2 h dX10_colour_35 ?_
        refine g_cVi2 h rok0 mi_X5_colourTells dX10_colour_36 ml_X10_138 rfl rfl rfl (Nat.le_of_ble_eq_true rfl) (Nat.le_of_ble_eq_true rfl) (sp_X5_colourTells_20 hT eN lN (by omega) (by omega) ?_)
        refine g_iret h dX10_colour_39 ?_
        exact hQ a w a1 w1 rfl rfl
      · refine False.elim ?_
        first
          | exact hX (fun ⟨⟨a, a1, a2⟩, _⟩ => hasNo c8 (by decide) lC a1 a2)
          | exact hX (fun ⟨_, w, w1, w2⟩ => rngN w2 w1 (by decide) (Or.inl c12))
          | exact hX (fun ⟨_, w, w1, w2⟩ => rngN w2 w1 (by decide) (Or.inr c17))
set_option maxRecDepth 100000 in
set_option maxHeartbeats 4000000 in
theorem sp_X10_cord {d : Nat} {x y : Int32} {I : MI} {J : MJ} {P : MP} (hT : P 20 0 = some 36) (h0 : P 0 0 = some 36) (hD : tdOK (dv I)) {Q : Int32 → MI → MJ → MP → Prop} (hQ : ∀ a w, a < nN (dv I) → w < 9 → x = nI a → y = nI w → Q (corT I (nN (dv I)) (nT (dv I)) (zS (dv I)) a w) I J P) (hX : (¬ ((∃ a, a < nN (dv I) ∧ x = nI a) ∧ ∃ w, w < 9 ∧ y = nI w)) → False) : Sp yX10_cord cX10_cord 3 (some .int) (d + 8) [.ref 0, .int x, .int y] I J P (Qi Q) := by
  intro Γ h
  show VG Γ 0 0 0 [some (.ref 0), some (.int x), some (.int y)] [] _ _ _ _
  obtain ⟨eC, lC⟩ := td_C hD
  obtain ⟨eN, lN⟩ := td_N hD
  obtain ⟨eT, lT⟩ := td_T hD
  obtain ⟨eK, lK⟩ := td_K hD
  have eS := td_S hD
  refine g_aload_0 h dX10_cord_0 ?_
  refine g_getP h fl_X10_10 dX10_cord_1 rfl rfl (by assumption) ?_
  refine g_iload_1 h dX10_cord_4 ?_
  refine g_cVi1 h rok0 mi_X9_hasCord dX10_cord_5 ml_X10_142 rfl rfl rfl (Nat.le_of_ble_eq_true rfl) (Nat.le_of_ble_eq_true rfl) (sp_X9_hasCord (Or.inl rfl) ?_)
  rw [eN]
  refine g_if_eq h 21 dX10_cord_8 rfl (fun c8 => ?_) (fun c8 => ?_)
  · refine False.elim ?_
    first
      | exact hX (fun ⟨⟨a, a1, a2⟩, _⟩ => hasNo c8 (by decide) lN a1 a2)
      | exact hX (fun ⟨_, w, w1, w2⟩ => rngN w2 w1 (by decide) (Or.inl c12))
      | exact hX (fun ⟨_, w, w1, w2⟩ => rngN w2 w1 (by decide) (Or.inr c18))
  · refine g_iload_2 h dX10_cord_11 ?_
    refine g_if_lt h 21 dX10_cord_12 rfl (fun c12 => ?_) (fun c12 => ?_)
    · refine False.elim ?_
      first
        | exact hX (fun ⟨⟨a, a1, a2⟩, _⟩ => hasNo c8 (by decide) lN a1 a2)
        | exact hX (fun ⟨_, w, w1, w2⟩ => rngN w2 w1 (by decide) (Or.inl c12))
        | exact hX (fun ⟨_, w, w1, w2⟩ => rngN w2 w1 (by decide) (Or.inr c18))
    · refine g_iload_2 h dX10_cord_15 ?_
      refine g_bipush h dX10_cord_16 (v := nI 8) rfl ?_
      refine g_icmp_le h 31 dX10_cord_18 rfl (fun c18 => ?_) (fun c18 => ?_)
      · obtain ⟨a, a1, a2⟩ := hasYes c8 (by decide) lN
        obtain ⟨w, w1, w2⟩ := rngI c12 c18 (by decide)
        subst a2
        subst w2
        refine g_aload_0 h dX10_cord_31 ?_
        refine g_getC h fl_X10_58 dX10_cord_32 rfl rfl ?_
        refine g_iload_1 h dX10_cord_35 ?_
        refine g_iload_2 h dX10_cord_36 ?_
        refine g_cVi2 h rok0 mi_X5_cordTells dX10_cord_37 ml_X10_147 rfl rfl rfl (Nat.le_of_ble_eq_true rfl) (Nat.le_of_ble_eq_true rfl) (sp_X5_cordTells_20 hT eN lN eT lT eS (by omega) (by omega) ?_)
        refine g_iret h dX10_cord_40 ?_
        exact hQ a w a1 w1 rfl rfl
      · refine False.elim ?_
        first
          | exact hX (fun ⟨⟨a, a1, a2⟩, _⟩ => hasNo c8 (by decide) lN a1 a2)
          | exact hX (fun ⟨_, w, w1, w2⟩ => rngN w2 w1 (by decide) (Or.inl c12))
          | exact hX (fun ⟨_, w, w1, w2⟩ => rngN w2 w1 (by decide) (Or.inr c18))
set_option maxRecDepth 100000 in
set_option maxHeartbeats 4000000 in
theorem sp_X10_top {d : Nat} {x y : Int32} {I : MI} {J : MJ} {P : MP} (hT : P 20 0 = some 36) (h0 : P 0 0 = some 36) (hD : tdOK (dv I)) {Q : Int32 → MI → MJ → MP → Prop} (hQ : ∀ a w, a < nT (dv I) → w < 4 → x = nI a → y = nI w → Q (topT I (nN (dv I)) a (zS (dv I) a) w) I J P) (hX : (¬ ((∃ a, a < nT (dv I) ∧ x = nI a) ∧ ∃ w, w < 4 ∧ y = nI w)) → False) : Sp yX10_top cX10_top 3 (some .int) (d + 8) [.ref 0, .int x, .int y] I J P (Qi Q) := by
  intro Γ h
  show VG Γ 0 0 0 [some (.ref 0), some (.int x), some (.int y)] [] _ _ _ _
  obtain ⟨eC, lC⟩ := td_C hD
  obtain ⟨eN, lN⟩ := td_N hD
  obtain ⟨eT, lT⟩ := td_T hD
  obtain ⟨eK, lK⟩ := td_K hD
  have eS := td_S hD
  refine g_aload_0 h dX10_top_0 ?_
  refine g_getP h fl_X10_10 dX10_top_1 rfl rfl (by assumption) ?_
  refine g_iload_1 h dX10_top_4 ?_
  refine g_cVi1 h rok0 mi_X9_hasTop dX10_top_5 ml_X10_160 rfl rfl rfl (Nat.le_of_ble_eq_true rfl) (Nat.le_of_ble_eq_true rfl) (sp_X9_hasTop (Or.inl rfl) ?_)
  rw [eT]
  refine g_if_eq h 20 dX10_top_8 rfl (fun c8 => ?_) (fun c8 => ?_)
  · refine False.elim ?_
    first
      | exact hX (fun ⟨⟨a, a1, a2⟩, _⟩ => hasNo c8 (by decide) lT a1 a2)
      | exact hX (fun ⟨_, w, w1, w2⟩ => rngN w2 w1 (by decide) (Or.inl c12))
      | exact hX (fun ⟨_, w, w1, w2⟩ => rngN w2 w1 (by decide) (Or.inr c17))
  · refine g_iload_2 h dX10_top_11 ?_
    refine g_if_lt h 20 dX10_top_12 rfl (fun c12 => ?_) (fun c12 => ?_)
    · refine False.elim ?_
      first
        | exact hX (fun ⟨⟨a, a1, a2⟩, _⟩ => hasNo c8 (by decide) lT a1 a2)
        | exact hX (fun ⟨_, w, w1, w2⟩ => rngN w2 w1 (by decide) (Or.inl c12))
        | exact hX (fun ⟨_, w, w1, w2⟩ => rngN w2 w1 (by decide) (Or.inr c17))
    · refine g_iload_2 h dX10_top_15 ?_
      refine g_iconst h dX10_top_16 (v := nI 3) rfl ?_
      refine g_icmp_le h 30 dX10_top_17 rfl (fun c17 => ?_) (fun c17 => ?_)
      · obtain ⟨a, a1, a2⟩ := hasYes c8 (by decide) lT
        obtain ⟨w, w1, w2⟩ := rngI c12 c17 (by decide)
        subst a2
        subst w2
        refine g_aload_0 h dX10_top_30 ?_
        refine g_getC h fl_X10_58 dX10_top_31 rfl rfl ?_
        refine g_iload_1 h dX10_top_34 ?_
        refine g_iload_2 h dX10_top_35 ?_
        refine g_cVi2 h rok0 mi_X5_topTells dX10_top_36 ml_X10_165 rfl rfl rfl (Nat.le_of_ble_eq_true rfl) (Nat.le_of_ble_eq_true rfl) (sp_X5_topTells_20 hT eN lN (by omega) (eS a a1).1 (eS a a1).2 (by omega) ?_)
        refine g_iret h dX10_top_39 ?_
        exact hQ a w a1 w1 rfl rfl
      · refine False.elim ?_
        first
          | exact hX (fun ⟨⟨a, a1, a2⟩, _⟩ => hasNo c8 (by decide) lT a1 a2)
          | exact hX (fun ⟨_, w, w1, w2⟩ => rngN w2 w1 (by decide) (Or.inl c12))
          | exact hX (fun ⟨_, w, w1, w2⟩ => rngN w2 w1 (by decide) (Or.inr c17))
set_option maxRecDepth 100000 in
set_option maxHeartbeats 4000000 in
theorem sp_X10_keeper {d : Nat} {x y : Int32} {I : MI} {J : MJ} {P : MP} (hT : P 20 0 = some 36) (h0 : P 0 0 = some 36) (hD : tdOK (dv I)) {Q : Int32 → MI → MJ → MP → Prop} (hQ : ∀ a w, a < nK (dv I) → w < 4 → x = nI a → y = nI w → Q (keeT I a w) I J P) (hX : (¬ ((∃ a, a < nK (dv I) ∧ x = nI a) ∧ ∃ w, w < 4 ∧ y = nI w)) → False) : Sp yX10_keeper cX10_keeper 3 (some .int) (d + 8) [.ref 0, .int x, .int y] I J P (Qi Q) := by
  intro Γ h
  show VG Γ 0 0 0 [some (.ref 0), some (.int x), some (.int y)] [] _ _ _ _
  obtain ⟨eC, lC⟩ := td_C hD
  obtain ⟨eN, lN⟩ := td_N hD
  obtain ⟨eT, lT⟩ := td_T hD
  obtain ⟨eK, lK⟩ := td_K hD
  have eS := td_S hD
  refine g_aload_0 h dX10_keeper_0 ?_
  refine g_getP h fl_X10_10 dX10_keeper_1 rfl rfl (by assumption) ?_
  refine g_iload_1 h dX10_keeper_4 ?_
  refine g_cVi1 h rok0 mi_X9_hasKeeper dX10_keeper_5 ml_X10_168 rfl rfl rfl (Nat.le_of_ble_eq_true rfl) (Nat.le_of_ble_eq_true rfl) (sp_X9_hasKeeper (Or.inl rfl) ?_)
  rw [eK]
  refine g_if_eq h 20 dX10_keeper_8 rfl (fun c8 => ?_) (fun c8 => ?_)
  · refine False.elim ?_
    first
      | exact hX (fun ⟨⟨a, a1, a2⟩, _⟩ => hasNo c8 (by decide) lK a1 a2)
      | exact hX (fun ⟨_, w, w1, w2⟩ => rngN w2 w1 (by decide) (Or.inl c12))
      | exact hX (fun ⟨_, w, w1, w2⟩ => rngN w2 w1 (by decide) (Or.inr c17))
  · refine g_iload_2 h dX10_keeper_11 ?_
    refine g_if_lt h 20 dX10_keeper_12 rfl (fun c12 => ?_) (fun c12 => ?_)
    · refine False.elim ?_
      first
        | exact hX (fun ⟨⟨a, a1, a2⟩, _⟩ => hasNo c8 (by decide) lK a1 a2)
        | exact hX (fun ⟨_, w, w1, w2⟩ => rngN w2 w1 (by decide) (Or.inl c12))
        | exact hX (fun ⟨_, w, w1, w2⟩ => rngN w2 w1 (by decide) (Or.inr c17))
    · refine g_iload_2 h dX10_keeper_15 ?_
      refine g_iconst h dX10_keeper_16 (v := nI 3) rfl ?_
      refine g_icmp_le h 30 dX10_keeper_17 rfl (fun c17 => ?_) (fun c17 => ?_)
      · obtain ⟨a, a1, a2⟩ := hasYes c8 (by decide) lK
        obtain ⟨w, w1, w2⟩ := rngI c12 c17 (by decide)
        subst a2
        subst w2
        refine g_aload_0 h dX10_keeper_30 ?_
        refine g_getC h fl_X10_58 dX10_keeper_31 rfl rfl ?_
        refine g_iload_1 h dX10_keeper_34 ?_
        refine g_iload_2 h dX10_keeper_35 ?_
        refine g_cVi2 h rok0 mi_X5_keeperTells dX10_keeper_36 ml_X10_173 rfl rfl rfl (Nat.le_of_ble_eq_true rfl) (Nat.le_of_ble_eq_true rfl) (sp_X5_keeperTells_20 hT (by omega) (by omega) ?_)
        refine g_iret h dX10_keeper_39 ?_
        exact hQ a w a1 w1 rfl rfl
      · refine False.elim ?_
        first
          | exact hX (fun ⟨⟨a, a1, a2⟩, _⟩ => hasNo c8 (by decide) lK a1 a2)
          | exact hX (fun ⟨_, w, w1, w2⟩ => rngN w2 w1 (by decide) (Or.inl c12))
          | exact hX (fun ⟨_, w, w1, w2⟩ => rngN w2 w1 (by decide) (Or.inr c17))
set_option maxRecDepth 100000 in
set_option maxHeartbeats 4000000 in
theorem sp_X10_digit {d : Nat} {x y : Int32} {I : MI} {J : MJ} {P : MP} (hT : P 20 0 = some 36) (h0 : P 0 0 = some 36) (hD : tdOK (dv I)) {Q : Int32 → MI → MJ → MP → Prop} (hQ : ∀ a w, a < nN (dv I) → w < 4 → x = nI a → y = nI w → Q (dgt w (I 23 a)) I J P) (hX : (¬ ((∃ a, a < nN (dv I) ∧ x = nI a) ∧ ∃ w, w < 4 ∧ y = nI w)) → False) : Sp yX10_digit cX10_digit 3 (some .int) (d + 8) [.ref 0, .int x, .int y] I J P (Qi Q) := by
  intro Γ h
  show VG Γ 0 0 0 [some (.ref 0), some (.int x), some (.int y)] [] _ _ _ _
  obtain ⟨eC, lC⟩ := td_C hD
  obtain ⟨eN, lN⟩ := td_N hD
  obtain ⟨eT, lT⟩ := td_T hD
  obtain ⟨eK, lK⟩ := td_K hD
  have eS := td_S hD
  refine g_aload_0 h dX10_digit_0 ?_
  refine g_getP h fl_X10_10 dX10_digit_1 rfl rfl (by assumption) ?_
  refine g_iload_1 h dX10_digit_4 ?_
  refine g_cVi1 h rok0 mi_X9_hasCord dX10_digit_5 ml_X10_142 rfl rfl rfl (Nat.le_of_ble_eq_true rfl) (Nat.le_of_ble_eq_true rfl) (sp_X9_hasCord (Or.inl rfl) ?_)
  rw [eN]
  refine g_if_eq h 20 dX10_digit_8 rfl (fun c8 => ?_) (fun c8 => ?_)
  · refine False.elim ?_
    first
      | exact hX (fun ⟨⟨a, a1, a2⟩, _⟩ => hasNo c8 (by decide) lN a1 a2)
      | exact hX (fun ⟨_, w, w1, w2⟩ => rngN w2 w1 (by decide) (Or.inl c12))
      | exact hX (fun ⟨_, w, w1, w2⟩ => rngN w2 w1 (by decide) (Or.inr c17))
  · refine g_iload_2 h dX10_digit_11 ?_
    refine g_if_lt h 20 dX10_digit_12 rfl (fun c12 => ?_) (fun c12 => ?_)
    · refine False.elim ?_
      first
        | exact hX (fun ⟨⟨a, a1, a2⟩, _⟩ => hasNo c8 (by decide) lN a1 a2)
        | exact hX (fun ⟨_, w, w1, w2⟩ => rngN w2 w1 (by decide) (Or.inl c12))
        | exact hX (fun ⟨_, w, w1, w2⟩ => rngN w2 w1 (by decide) (Or.inr c17))
    · refine g_iload_2 h dX10_digit_15 ?_
      refine g_iconst h dX10_digit_16 (v := nI 3) rfl ?_
      refine g_icmp_le h 30 dX10_digit_17 rfl (fun c17 => ?_) (fun c17 => ?_)
      · obtain ⟨a, a1, a2⟩ := hasYes c8 (by decide) lN
        obtain ⟨w, w1, w2⟩ := rngI c12 c17 (by decide)
        subst a2
        subst w2
        refine g_aload_0 h dX10_digit_30 ?_
        refine g_getC h fl_X10_58 dX10_digit_31 rfl rfl ?_
        refine g_getC h fl_X10_152 dX10_digit_34 rfl rfl ?_
        refine g_iload_1 h dX10_digit_37 ?_
        refine g_iald h a dX10_digit_38 rfl rfl (by omega) ?_
        refine g_iload_2 h dX10_digit_39 ?_
        refine g_cSi2 h rok0 mi_X3_digitOf dX10_digit_40 ml_X10_155 (Nat.le_of_ble_eq_true rfl) (Nat.le_of_ble_eq_true rfl) (sp_X3_digitOf (by omega) ?_)
        refine g_iret h dX10_digit_43 ?_
        exact hQ a w a1 w1 rfl rfl
      · refine False.elim ?_
        first
          | exact hX (fun ⟨⟨a, a1, a2⟩, _⟩ => hasNo c8 (by decide) lN a1 a2)
          | exact hX (fun ⟨_, w, w1, w2⟩ => rngN w2 w1 (by decide) (Or.inl c12))
          | exact hX (fun ⟨_, w, w1, w2⟩ => rngN w2 w1 (by decide) (Or.inr c17))
set_option maxRecDepth 100000 in
set_option maxHeartbeats 4000000 in
theorem sp_X10_apart {d : Nat} {x y : Int32} {I : MI} {J : MJ} {P : MP} (hT : P 20 0 = some 36) (h0 : P 0 0 = some 36) (hD : tdOK (dv I)) {Q : Int32 → MI → MJ → MP → Prop} (hQ : ∀ a b, a < nN (dv I) → b < nN (dv I) → x = nI a → y = nI b → Q (nI (stpF (I 22) (nN (dv I)) 8 x y)) I J P) (hX : (¬ ((∃ a, a < nN (dv I) ∧ x = nI a) ∧ ∃ b, b < nN (dv I) ∧ y = nI b)) → False) : Sp yX10_apart cX10_apart 3 (some .int) (d + 8) [.ref 0, .int x, .int y] I J P (Qi Q) := by
  intro Γ h
  show VG Γ 0 0 0 [some (.ref 0), some (.int x), some (.int y)] [] _ _ _ _
  obtain ⟨eC, lC⟩ := td_C hD
  obtain ⟨eN, lN⟩ := td_N hD
  obtain ⟨eT, lT⟩ := td_T hD
  obtain ⟨eK, lK⟩ := td_K hD
  have eS := td_S hD
  refine g_aload_0 h dX10_apart_0 ?_
  refine g_getP h fl_X10_10 dX10_apart_1 rfl rfl (by assumption) ?_
  refine g_iload_1 h dX10_apart_4 ?_
  refine g_cVi1 h rok0 mi_X9_hasCord dX10_apart_5 ml_X10_142 rfl rfl rfl (Nat.le_of_ble_eq_true rfl) (Nat.le_of_ble_eq_true rfl) (sp_X9_hasCord (Or.inl rfl) ?_)
  rw [eN]
  refine g_if_eq h 22 dX10_apart_8 rfl (fun c8 => ?_) (fun c8 => ?_)
  · refine False.elim ?_
    first
      | exact hX (fun ⟨⟨a, a1, a2⟩, _⟩ => hasNo c8 (by decide) lN a1 a2)
      | exact hX (fun ⟨_, b, b1, b2⟩ => hasNo c19 (by decide) lN b1 b2)
  · refine g_aload_0 h dX10_apart_11 ?_
    refine g_getP h fl_X10_10 dX10_apart_12 rfl rfl (by assumption) ?_
    refine g_iload_2 h dX10_apart_15 ?_
    refine g_cVi1 h rok0 mi_X9_hasCord dX10_apart_16 ml_X10_142 rfl rfl rfl (Nat.le_of_ble_eq_true rfl) (Nat.le_of_ble_eq_true rfl) (sp_X9_hasCord (Or.inl rfl) ?_)
    rw [eN]
    refine g_if_ne h 32 dX10_apart_19 rfl (fun c19 => ?_) (fun c19 => ?_)
    · obtain ⟨a, a1, a2⟩ := hasYes c8 (by decide) lN
      obtain ⟨b, b1, b2⟩ := hasYes c19 (by decide) lN
      refine g_aload_0 h dX10_apart_32 ?_
      refine g_getC h fl_X10_58 dX10_apart_33 rfl rfl ?_
      refine g_iload_1 h dX10_apart_36 ?_
      refine g_iload_2 h dX10_apart_37 ?_
      refine g_cVi2 h rok0 mi_X5_stepsBetween dX10_apart_38 ml_X10_178 rfl rfl rfl (Nat.le_of_ble_eq_true rfl) (Nat.le_of_ble_eq_true rfl) (sp_X5_stepsBetween_20 hT eN lN ?_)
      refine g_iret h dX10_apart_41 ?_
      exact hQ a b a1 b1 a2 b2
    · refine False.elim ?_
      first
        | exact hX (fun ⟨⟨a, a1, a2⟩, _⟩ => hasNo c8 (by decide) lN a1 a2)
        | exact hX (fun ⟨_, b, b1, b2⟩ => hasNo c19 (by decide) lN b1 b2)
set_option maxRecDepth 100000 in
set_option maxHeartbeats 4000000 in
theorem sp_X10_order {d : Nat} {x : Int32} {I : MI} {J : MJ} {P : MP} (hT : P 20 0 = some 36) (h0 : P 0 0 = some 36) (hD : tdOK (dv I)) {Q : Int32 → MI → MJ → MP → Prop} (hQ : ∀ a, a < nN (dv I) → x = nI a → Q (frst (fun i => decide (sumF (fun k => b2i (ahd (I 37) (I 21) (nC (dv I)) (I 24) k i)) (nN (dv I)) 0 (nI 0) = x)) (nN (dv I)) 0) I J P) (hX : (¬ ∃ a, a < nN (dv I) ∧ x = nI a) → False) : Sp yX10_order cX10_order 2 (some .int) (d + 8) [.ref 0, .int x] I J P (Qi Q) := by
  intro Γ h
  show VG Γ 0 0 0 [some (.ref 0), some (.int x)] [] _ _ _ _
  obtain ⟨eC, lC⟩ := td_C hD
  obtain ⟨eN, lN⟩ := td_N hD
  obtain ⟨eT, lT⟩ := td_T hD
  obtain ⟨eK, lK⟩ := td_K hD
  have eS := td_S hD
  refine g_aload_0 h dX10_order_0 ?_
  refine g_getP h fl_X10_10 dX10_order_1 rfl rfl (by assumption) ?_
  refine g_iload_1 h dX10_order_4 ?_
  refine g_cVi1 h rok0 mi_X9_hasCord dX10_order_5 ml_X10_142 rfl rfl rfl (Nat.le_of_ble_eq_true rfl) (Nat.le_of_ble_eq_true rfl) (sp_X9_hasCord (Or.inl rfl) ?_)
  rw [eN]
  refine g_if_ne h 21 dX10_order_8 rfl (fun c8 => ?_) (fun c8 => ?_)
  · obtain ⟨a, a1, a2⟩ := hasYes c8 (by decide) lN
    refine g_aload_0 h dX10_order_21 ?_
    refine g_getC h fl_X10_58 dX10_order_22 rfl rfl ?_
    refine g_iload_1 h dX10_order_25 ?_
    refine g_cVi1 h rok0 mi_X5_cordInPlace dX10_order_26 ml_X10_183 rfl rfl rfl (Nat.le_of_ble_eq_true rfl) (Nat.le_of_ble_eq_true rfl) (sp_X5_cordInPlace_20 hT eN lN eC lC ?_)
    refine g_iret h dX10_order_29 ?_
    exact hQ a a1 a2
  · refine False.elim ?_
    exact hX (fun ⟨a, a1, a2⟩ => hasNo c8 (by decide) lN a1 a2)
def cntC (I : MI) : Nat → Int32 := fun w => if w = 12 then I 1 1 else cntT I 20 (nN (dv I)) (nT (dv I)) (zS (dv I)) w
set_option maxRecDepth 100000 in
set_option maxHeartbeats 4000000 in
theorem sp_X10_count {d : Nat} {x : Int32} {I : MI} {J : MJ} {P : MP} (hT : P 20 0 = some 36) (hD : tdOK (dv I)) {Q : Int32 → MI → MJ → MP → Prop} (hQ : ∀ w, w < 13 → x = nI w → Q (cntC I w) I J P) (hX : (¬ ∃ w, w < 13 ∧ x = nI w) → False) : Sp yX10_count cX10_count 2 (some .int) (d + 8) [.ref 0, .int x] I J P (Qi Q) := by
  intro Γ h
  show VG Γ 0 0 0 [some (.ref 0), some (.int x)] [] _ _ _ _
  obtain ⟨eC, lC⟩ := td_C hD
  obtain ⟨eN, lN⟩ := td_N hD
  obtain ⟨eT, lT⟩ := td_T hD
  obtain ⟨eK, lK⟩ := td_K hD
  have eS := td_S hD
  refine g_iload_1 h dX10_count_0 ?_
  refine g_if_lt h 10 dX10_count_1 rfl (fun c1 => ?_) (fun c1 => ?_)
  · refine False.elim ?_
    first
      | exact hX (fun ⟨w, w1, w2⟩ => rngN w2 w1 (by decide) (Or.inl c1))
      | exact hX (fun ⟨w, w1, w2⟩ => rngN w2 w1 (by decide) (Or.inr c7))
  · refine g_iload_1 h dX10_count_4 ?_
    refine g_bipush h dX10_count_5 (v := nI 12) rfl ?_
    refine g_icmp_le h 20 dX10_count_7 rfl (fun c7 => ?_) (fun c7 => ?_)
    · obtain ⟨w, w1, w2⟩ := rngI c1 c7 (by decide)
      subst w2
      refine g_iload_1 h dX10_count_20 ?_
      refine g_bipush h dX10_count_21 (v := nI 12) rfl ?_
      refine g_icmp_ne h 36 dX10_count_23 rfl (fun c23 => ?_) (fun c23 => ?_)
      · have hw12 : ¬ w = 12 := fun q => c23 (by rw [q])
        refine g_aload_0 h dX10_count_36 ?_
        refine g_getC h fl_X10_58 dX10_count_37 rfl rfl ?_
        refine g_iload_1 h dX10_count_40 ?_
        refine g_cVi1 h rok0 mi_X5_countTells dX10_count_41 ml_X10_129 rfl rfl rfl (Nat.le_of_ble_eq_true rfl) (Nat.le_of_ble_eq_true rfl) (sp_X5_countTells_20 hT eN lN eT lT eS (show w < 12 by omega) ?_)
        refine g_iret h dX10_count_44 ?_
        first
          | exact q_i (by rw [cntC, if_pos hw12]) (hQ w w1 rfl)
          | exact q_i (by rw [cntC, if_neg hw12]) (hQ w w1 rfl)
      · have hw12 : w = 12 := eqN (by first | exact c23 | exact Classical.not_not.mp c23) (by omega) (by decide)
        refine g_aload_0 h dX10_count_26 ?_
        refine g_getC h fl_X10_22 dX10_count_27 rfl rfl ?_
        refine g_cVi0 h rok0 mi_X6_length dX10_count_30 ml_X10_76 rfl rfl rfl (Nat.le_of_ble_eq_true rfl) (Nat.le_of_ble_eq_true rfl) (sp_X6_length ?_)
        refine g_goto h 44 dX10_count_33 rfl ?_
        refine g_iret h dX10_count_44 ?_
        first
          | exact q_i (by rw [cntC, if_pos hw12]) (hQ w w1 rfl)
          | exact q_i (by rw [cntC, if_neg hw12]) (hQ w w1 rfl)
    · refine False.elim ?_
      first
        | exact hX (fun ⟨w, w1, w2⟩ => rngN w2 w1 (by decide) (Or.inl c1))
        | exact hX (fun ⟨w, w1, w2⟩ => rngN w2 w1 (by decide) (Or.inr c7))
