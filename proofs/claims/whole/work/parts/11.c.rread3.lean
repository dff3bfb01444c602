/-! The reference: order, neighbours, ways; by hand -/
def rkR (B : MI) (k : Nat) : Int32 := B 1 (ix (B 2 k))
def smB (B : MI) (row : Nat → Int32) (k : Nat) : Int32 := smR (B 3) (rv row) (nN B) 4 k
def ahR (B : MI) (row : Nat → Int32) (i k : Nat) : Bool := if rkR B i = rkR B k then (if smB B row i = smB B row k then decide (i < k) else decide (smB B row k < smB B row i)) else decide (rkR B i < rkR B k)
def jmR (B : MI) (i : Nat) : Bool := if nbr (B 3) (B 3 i) i < 0 then false else decide (rkR B i < rkR B (ix (nbr (B 3) (B 3 i) i)))
def lst (p : Nat → Bool) : Nat → Nat → Int32 → Int32
  | 0, _, b => b
  | f + 1, i, b => lst p f (i + 1) (if p i then nI i else b)
theorem inB_f {x a b : Int32} {p : Prop} (h : inB x a b = true ↔ p) (hp : ¬ p) : inB x a b = false := by
  cases q : inB x a b with
  | false => rfl
  | true => exact absurd (h.mp q) hp
set_option maxRecDepth 100000 in
set_option maxHeartbeats 4000000 in
theorem sp_rank {d k : Nat} {I : MI} {J : MJ} {P : MP} (hB : P 80 8 = some 93) (hK : bkOK (bv I)) (hk : k < nN (bv I)) {Q : Int32 → MI → MJ → MP → Prop} (hQ : Q (rkR (bv I) k) I J P) : Sp yX12_rankOf cX12_rankOf 2 (some .int) d [.ref 80, .int (nI k)] I J P (Qi Q) := by
  obtain ⟨j, j1, j2⟩ := bk_d hK k hk
  have c6 := (bk_C hK).2
  have n16 := (bk_N hK).2
  refine sp_X12_rankOf hB (by omega) j2 (by omega) (q_i ?_ hQ)
  show I 94 j = I 94 (ix (I 95 k))
  rw [j2, ix_n (by omega)]
set_option maxRecDepth 100000 in
set_option maxHeartbeats 4000000 in
theorem sp_X12_isAhead {d i k : Nat} {I : MI} {J : MJ} {P : MP} (hB : P 80 8 = some 93) (hK : bkOK (bv I)) (hi : i < nN (bv I)) (hk : k < nN (bv I)) {Q : Int32 → MI → MJ → MP → Prop} (hQ : Q (b2i (ahR (bv I) (I 91) i k)) I J P) : Sp yX12_isAhead cX12_isAhead 5 (some .boolean) (d + 5) [.ref 80, .int (nI i), .int (nI k)] I J P (Qi Q) := by
  intro Γ h
  show VG Γ 0 0 0 [some (.ref 80), some (.int (nI i)), some (.int (nI k)), none, none] [] _ _ _ _
  have n16 := (bk_N hK).2
  refine g_aload_0 h dX12_isAhead_0 ?_
  refine g_iload_1 h dX12_isAhead_1 ?_
  refine g_cVi1 h rok0 mi_X12_rankOf dX12_isAhead_2 ml_X12_390 rfl rfl rfl (Nat.le_of_ble_eq_true rfl) (Nat.le_of_ble_eq_true rfl) (sp_rank hB hK hi ?_)
  refine g_aload_0 h dX12_isAhead_5 ?_
  refine g_iload_2 h dX12_isAhead_6 ?_
  refine g_cVi1 h rok0 mi_X12_rankOf dX12_isAhead_7 ml_X12_390 rfl rfl rfl (Nat.le_of_ble_eq_true rfl) (Nat.le_of_ble_eq_true rfl) (sp_rank hB hK hk ?_)
  refine g_icmp_eq h 32 dX12_isAhead_10 rfl (fun c10 => ?_) (fun c10 => ?_)
  · refine g_aload_0 h dX12_isAhead_32 ?_
    refine g_aload_0 h dX12_isAhead_33 ?_
    refine g_getC h fl_X12_109 dX12_isAhead_34 rfl rfl ?_
    refine g_iload_1 h dX12_isAhead_37 ?_
    refine g_cVi2 h rok0 mi_X12_sumOf dX12_isAhead_38 ml_X12_287 rfl rfl rfl (Nat.le_of_ble_eq_true rfl) (Nat.le_of_ble_eq_true rfl) (sp_X12_sumOf (Or.inl rfl) hB (bk_N hK).1 (bk_N hK).2 4 _ i (by omega) (bk_t hK i hi) ?_)
    refine g_istore_3 h dX12_isAhead_41 (by decide) rfl ?_
    refine g_aload_0 h dX12_isAhead_42 ?_
    refine g_aload_0 h dX12_isAhead_43 ?_
    refine g_getC h fl_X12_109 dX12_isAhead_44 rfl rfl ?_
    refine g_iload_2 h dX12_isAhead_47 ?_
    refine g_cVi2 h rok0 mi_X12_sumOf dX12_isAhead_48 ml_X12_287 rfl rfl rfl (Nat.le_of_ble_eq_true rfl) (Nat.le_of_ble_eq_true rfl) (sp_X12_sumOf (Or.inl rfl) hB (bk_N hK).1 (bk_N hK).2 4 _ k (by omega) (bk_t hK k hk) ?_)
    refine g_istore_4 h dX12_isAhead_51 (by decide) rfl ?_
    refine g_iload_3 h dX12_isAhead_53 ?_
    refine g_iload_4 h dX12_isAhead_54 ?_
    refine g_icmp_eq h 73 dX12_isAhead_56 rfl (fun c56 => ?_) (fun c56 => ?_)
    · refine g_iload_1 h dX12_isAhead_73 ?_
      refine g_iload_2 h dX12_isAhead_74 ?_
      refine g_icmp_ge h 82 dX12_isAhead_75 rfl (fun c75 => ?_) (fun c75 => ?_)
      · refine g_iconst h dX12_isAhead_82 (v := nI 0) rfl ?_
        refine g_zret h dX12_isAhead_83 (by first | rfl | exact nar_b2i _) ?_
        have c10' : rkR (bv I) i = rkR (bv I) k := by first | exact c10 | exact Classical.not_not.mp c10
        first
          | exact q_i (by rw [ahR, if_pos c10', if_neg (show ¬ smB (bv I) (I 91) i = smB (bv I) (I 91) k from c56), decide_eq_false (show ¬ smB (bv I) (I 91) k < smB (bv I) (I 91) i from Int32.not_lt.mpr c62)]; rfl) hQ
          | exact q_i (by rw [ahR, if_pos c10', if_neg (show ¬ smB (bv I) (I 91) i = smB (bv I) (I 91) k from c56), decide_eq_true (show smB (bv I) (I 91) k < smB (bv I) (I 91) i from Int32.not_le.mp c62)]; rfl) hQ
          | exact q_i (by rw [ahR, if_pos c10', if_pos (show smB (bv I) (I 91) i = smB (bv I) (I 91) k from c56), decide_eq_true (Nat.lt_of_not_le (fun q => c75 (nI_le q (by omega))))]; rfl) hQ
          | exact q_i (by rw [ahR, if_pos c10', if_pos (show smB (bv I) (I 91) i = smB (bv I) (I 91) k from c56), decide_eq_false (Nat.not_lt.mpr (leN c75 (by omega) (by omega)))]; rfl) hQ
      · refine g_iconst h dX12_isAhead_78 (v := nI 1) rfl ?_
        refine g_goto h 83 dX12_isAhead_79 rfl ?_
        refine g_zret h dX12_isAhead_83 (by first | rfl | exact nar_b2i _) ?_
        have c10' : rkR (bv I) i = rkR (bv I) k := by first | exact c10 | exact Classical.not_not.mp c10
        first
          | exact q_i (by rw [ahR, if_pos c10', if_neg (show ¬ smB (bv I) (I 91) i = smB (bv I) (I 91) k from c56), decide_eq_false (show ¬ smB (bv I) (I 91) k < smB (bv I) (I 91) i from Int32.not_lt.mpr c62)]; rfl) hQ
          | exact q_i (by rw [ahR, if_pos c10', if_neg (show ¬ smB (bv I) (I 91) i = smB (bv I) (I 91) k from c56), decide_eq_true (show smB (bv I) (I 91) k < smB (bv I) (I 91) i from Int32.not_le.mp c62)]; rfl) hQ
          | exact q_i (by rw [ahR, if_pos c10', if_pos (show smB (bv I) (I 91) i = smB (bv I) (I 91) k from c56), decide_eq_true (Nat.lt_of_not_le (fun q => c75 (nI_le q (by omega))))]; rfl) hQ
          | exact q_i (by rw [ahR, if_pos c10', if_pos (show smB (bv I) (I 91) i = smB (bv I) (I 91) k from c56), decide_eq_false (Nat.not_lt.mpr (leN c75 (by omega) (by omega)))]; rfl) hQ
    · refine g_iload_3 h dX12_isAhead_59 ?_
      refine g_iload_4 h dX12_isAhead_60 ?_
      refine g_icmp_le h 69 dX12_isAhead_62 rfl (fun c62 => ?_) (fun c62 => ?_)
      · refine g_iconst h dX12_isAhead_69 (v := nI 0) rfl ?_
        refine g_goto h 83 dX12_isAhead_70 rfl ?_
        refine g_zret h dX12_isAhead_83 (by first | rfl | exact nar_b2i _) ?_
        have c10' : rkR (bv I) i = rkR (bv I) k := by first | exact c10 | exact Classical.not_not.mp c10
        first
          | exact q_i (by rw [ahR, if_pos c10', if_neg (show ¬ smB (bv I) (I 91) i = smB (bv I) (I 91) k from c56), decide_eq_false (show ¬ smB (bv I) (I 91) k < smB (bv I) (I 91) i from Int32.not_lt.mpr c62)]; rfl) hQ
          | exact q_i (by rw [ahR, if_pos c10', if_neg (show ¬ smB (bv I) (I 91) i = smB (bv I) (I 91) k from c56), decide_eq_true (show smB (bv I) (I 91) k < smB (bv I) (I 91) i from Int32.not_le.mp c62)]; rfl) hQ
          | exact q_i (by rw [ahR, if_pos c10', if_pos (show smB (bv I) (I 91) i = smB (bv I) (I 91) k from c56), decide_eq_true (Nat.lt_of_not_le (fun q => c75 (nI_le q (by omega))))]; rfl) hQ
          | exact q_i (by rw [ahR, if_pos c10', if_pos (show smB (bv I) (I 91) i = smB (bv I) (I 91) k from c56), decide_eq_false (Nat.not_lt.mpr (leN c75 (by omega) (by omega)))]; rfl) hQ
      · refine g_iconst h dX12_isAhead_65 (v := nI 1) rfl ?_
        refine g_goto h 83 dX12_isAhead_66 rfl ?_
        refine g_zret h dX12_isAhead_83 (by first | rfl | exact nar_b2i _) ?_
        have c10' : rkR (bv I) i = rkR (bv I) k := by first | exact c10 | exact Classical.not_not.mp c10
        first
          | exact q_i (by rw [ahR, if_pos c10', if_neg (show ¬ smB (bv I) (I 91) i = smB (bv I) (I 91) k from c56), decide_eq_false (show ¬ smB (bv I) (I 91) k < smB (bv I) (I 91) i from Int32.not_lt.mpr c62)]; rfl) hQ
          | exact q_i (by rw [ahR, if_pos c10', if_neg (show ¬ smB (bv I) (I 91) i = smB (bv I) (I 91) k from c56), decide_eq_true (show smB (bv I) (I 91) k < smB (bv I) (I 91) i from Int32.not_le.mp c62)]; rfl) hQ
          | exact q_i (by rw [ahR, if_pos c10', if_pos (show smB (bv I) (I 91) i = smB (bv I) (I 91) k from c56), decide_eq_true (Nat.lt_of_not_le (fun q => c75 (nI_le q (by omega))))]; rfl) hQ
          | exact q_i (by rw [ahR, if_pos c10', if_pos (show smB (bv I) (I 91) i = smB (bv I) (I 91) k from c56), decide_eq_false (Nat.not_lt.mpr (leN c75 (by omega) (by omega)))]; rfl) hQ
  · refine g_aload_0 h dX12_isAhead_13 ?_
    refine g_iload_1 h dX12_isAhead_14 ?_
    refine g_cVi1 h rok0 mi_X12_rankOf dX12_isAhead_15 ml_X12_390 rfl rfl rfl (Nat.le_of_ble_eq_true rfl) (Nat.le_of_ble_eq_true rfl) (sp_rank hB hK hi ?_)
    refine g_aload_0 h dX12_isAhead_18 ?_
    refine g_iload_2 h dX12_isAhead_19 ?_
    refine g_cVi1 h rok0 mi_X12_rankOf dX12_isAhead_20 ml_X12_390 rfl rfl rfl (Nat.le_of_ble_eq_true rfl) (Nat.le_of_ble_eq_true rfl) (sp_rank hB hK hk ?_)
    refine g_icmp_ge h 30 dX12_isAhead_23 rfl (fun c23 => ?_) (fun c23 => ?_)
    · refine g_iconst h dX12_isAhead_30 (v := nI 0) rfl ?_
      refine g_zret h dX12_isAhead_31 (by first | rfl | exact nar_b2i _) ?_
      first
        | exact q_i (by rw [ahR, if_neg c10, decide_eq_false (Int32.not_lt.mpr c23)]; rfl) hQ
        | exact q_i (by rw [ahR, if_neg c10, decide_eq_true (Int32.not_le.mp c23)]; rfl) hQ
    · refine g_iconst h dX12_isAhead_26 (v := nI 1) rfl ?_
      refine g_goto h 31 dX12_isAhead_27 rfl ?_
      refine g_zret h dX12_isAhead_31 (by first | rfl | exact nar_b2i _) ?_
      first
        | exact q_i (by rw [ahR, if_neg c10, decide_eq_false (Int32.not_lt.mpr c23)]; rfl) hQ
        | exact q_i (by rw [ahR, if_neg c10, decide_eq_true (Int32.not_le.mp c23)]; rfl) hQ
set_option maxRecDepth 100000 in
set_option maxHeartbeats 4000000 in
theorem lq_X12_order {Γ : Cx} {d k : Nat} {I : MI} {J : MJ} {P : MP} (hB : P 80 8 = some 93) (hK : bkOK (bv I)) (hk : k < nN (bv I)) {x b : Int32} {Φ : State → Prop} (h : Vc RX12 cX12_order 6 (some .int) (d + 6) Γ) : ∀ (f j : Nat) (a : Int32), j + f = nN (bv I) → (∀ a' x5, a' = sumF (fun i => if i = k then nI 0 else b2i (ahR (bv I) (I 91) i k)) f j a → VG Γ 0 0 93 [some (.ref 80), some (.int x), some (.int b), some (.int (nI k)), some (.int a'), x5] [] I J P Φ) → VG Γ 0 0 49 [some (.ref 80), some (.int x), some (.int b), some (.int (nI k)), some (.int a), some (.int (nI j))] [] I J P Φ := by
  have hN := (bk_N hK).1
  have n16 := (bk_N hK).2
  intro f
  induction f with
  | zero =>
    intro j a hj K
    refine g_iload_5 h dX12_order_49 ?_
    refine g_aload_0 h dX12_order_51 ?_
    refine g_getP h fl_X12_87 dX12_order_52 rfl rfl (by assumption) ?_
    refine g_getI h fl_X12_161 dX12_order_55 rfl rfl ?_
    refine g_icmp_ge h 93 dX12_order_58 rfl (fun c58 => ?_) (fun c58 => ?_)
    · exact K _ _ rfl
    · exact absurd (by rw [hN]; exact nI_le (by omega) (by omega)) c58
  | succ f ih =>
    intro j a hj K
    refine g_iload_5 h dX12_order_49 ?_
    refine g_aload_0 h dX12_order_51 ?_
    refine g_getP h fl_X12_87 dX12_order_52 rfl rfl (by assumption) ?_
    refine g_getI h fl_X12_161 dX12_order_55 rfl rfl ?_
    refine g_icmp_ge h 93 dX12_order_58 rfl (fun c58 => ?_) (fun c58 => ?_)
    · exact absurd (leN (by simpa only [hN] using c58) (by omega) (by omega)) (by omega)
    · refine g_iload_4 h dX12_order_61 ?_
      refine g_iload_5 h dX12_order_63 ?_
      refine g_iload_3 h dX12_order_65 ?_
      refine g_icmp_eq h 83 dX12_order_66 rfl (fun c66 => ?_) (fun c66 => ?_)
      · refine g_iconst h dX12_order_83 (v := nI 0) rfl ?_
        refine g_iadd h dX12_order_84 ?_
        refine g_istore_4 h dX12_order_85 (by decide) rfl ?_
        refine g_iinc_5 h dX12_order_87 (inc1 _) (by decide) rfl ?_
        refine g_goto h 49 dX12_order_90 rfl ?_
        first
          | exact ih (j + 1) _ (by omega) (fun a' x5 e => K a' x5 (e.trans (by simp only [sumF]; rw [if_pos (eqN (by first | exact c66 | exact Classical.not_not.mp c66) (by omega) (by omega))])))
          | exact ih (j + 1) _ (by omega) (fun a' x5 e => K a' x5 (e.trans (by simp only [sumF]; rw [if_neg (fun q => c66 (by rw [q])), b2i_1 c76])))
          | exact ih (j + 1) _ (by omega) (fun a' x5 e => K a' x5 (e.trans (by simp only [sumF]; rw [if_neg (fun q => c66 (by rw [q])), b2i_00 c76])))
      · refine g_aload_0 h dX12_order_69 ?_
        refine g_iload_5 h dX12_order_70 ?_
        refine g_iload_3 h dX12_order_72 ?_
        refine g_cVi2 h rok0 mi_X12_isAhead dX12_order_73 ml_X12_393 rfl rfl rfl (Nat.le_of_ble_eq_true rfl) (Nat.le_of_ble_eq_true rfl) (sp_X12_isAhead hB hK (by omega) (by omega) ?_)
        refine g_if_eq h 83 dX12_order_76 rfl (fun c76 => ?_) (fun c76 => ?_)
        · refine g_iconst h dX12_order_83 (v := nI 0) rfl ?_
          refine g_iadd h dX12_order_84 ?_
          refine g_istore_4 h dX12_order_85 (by decide) rfl ?_
          refine g_iinc_5 h dX12_order_87 (inc1 _) (by decide) rfl ?_
          refine g_goto h 49 dX12_order_90 rfl ?_
          first
            | exact ih (j + 1) _ (by omega) (fun a' x5 e => K a' x5 (e.trans (by simp only [sumF]; rw [if_pos (eqN (by first | exact c66 | exact Classical.not_not.mp c66) (by omega) (by omega))])))
            | exact ih (j + 1) _ (by omega) (fun a' x5 e => K a' x5 (e.trans (by simp only [sumF]; rw [if_neg (fun q => c66 (by rw [q])), b2i_1 c76])))
            | exact ih (j + 1) _ (by omega) (fun a' x5 e => K a' x5 (e.trans (by simp only [sumF]; rw [if_neg (fun q => c66 (by rw [q])), b2i_00 c76])))
        · refine g_iconst h dX12_order_79 (v := nI 1) rfl ?_
          refine g_goto h 84 dX12_order_80 rfl ?_
          refine g_iadd h dX12_order_84 ?_
          refine g_istore_4 h dX12_order_85 (by decide) rfl ?_
          refine g_iinc_5 h dX12_order_87 (inc1 _) (by decide) rfl ?_
          refine g_goto h 49 dX12_order_90 rfl ?_
          first
            | exact ih (j + 1) _ (by omega) (fun a' x5 e => K a' x5 (e.trans (by simp only [sumF]; rw [if_pos (eqN (by first | exact c66 | exact Classical.not_not.mp c66) (by omega) (by omega))])))
            | exact ih (j + 1) _ (by omega) (fun a' x5 e => K a' x5 (e.trans (by simp only [sumF]; rw [if_neg (fun q => c66 (by rw [q])), b2i_1 c76])))
            | exact ih (j + 1) _ (by omega) (fun a' x5 e => K a' x5 (e.trans (by simp only [sumF]; rw [if_neg (fun q => c66 (by rw [q])), b2i_00 c76])))
set_option maxRecDepth 100000 in
set_option maxHeartbeats 4000000 in
theorem lp_X12_order {Γ : Cx} {d : Nat} {I : MI} {J : MJ} {P : MP} (hB : P 80 8 = some 93) (hK : bkOK (bv I)) {x : Int32} {Q : Int32 → MI → MJ → MP → Prop} (h : Vc RX12 cX12_order 6 (some .int) (d + 6) Γ) : ∀ (f k : Nat) (b : Int32) (x4 x5 : Option Value), k + f = nN (bv I) → Q (lst (fun k => decide (sumF (fun i => if i = k then nI 0 else b2i (ahR (bv I) (I 91) i k)) (nN (bv I)) 0 (nI 0) = x)) f k b) I J P → VG Γ 0 0 32 [some (.ref 80), some (.int x), some (.int b), some (.int (nI k)), x4, x5] [] I J P (Fnl Γ (Qi Q)) := by
  have hN := (bk_N hK).1
  have n16 := (bk_N hK).2
  intro f
  induction f with
  | zero =>
    intro k b x4 x5 hk hQ
    refine g_iload_3 h dX12_order_32 ?_
    refine g_aload_0 h dX12_order_33 ?_
    refine g_getP h fl_X12_87 dX12_order_34 rfl rfl (by assumption) ?_
    refine g_getI h fl_X12_161 dX12_order_37 rfl rfl ?_
    refine g_icmp_ge h 107 dX12_order_40 rfl (fun c40 => ?_) (fun c40 => ?_)
    · refine g_iload_2 h dX12_order_107 ?_
      refine g_iret h dX12_order_108 ?_
      exact hQ
    · exact absurd (by rw [hN]; exact nI_le (by omega) (by omega)) c40
  | succ f ih =>
    intro k b x4 x5 hk hQ
    refine g_iload_3 h dX12_order_32 ?_
    refine g_aload_0 h dX12_order_33 ?_
    refine g_getP h fl_X12_87 dX12_order_34 rfl rfl (by assumption) ?_
    refine g_getI h fl_X12_161 dX12_order_37 rfl rfl ?_
    refine g_icmp_ge h 107 dX12_order_40 rfl (fun c40 => ?_) (fun c40 => ?_)
    · exact absurd (leN (by simpa only [hN] using c40) (by omega) (by omega)) (by omega)
    · refine g_iconst h dX12_order_43 (v := nI 0) rfl ?_
      refine g_istore_4 h dX12_order_44 (by decide) rfl ?_
      refine g_iconst h dX12_order_46 (v := nI 0) rfl ?_
      refine g_istore_5 h dX12_order_47 (by decide) rfl ?_
      refine lq_X12_order hB hK (by omega) h (nN (bv I)) 0 _ (by omega) (fun a1 x5 ea => ?_)
      refine g_iload_4 h dX12_order_93 ?_
      refine g_iload_1 h dX12_order_95 ?_
      refine g_icmp_ne h 101 dX12_order_96 rfl (fun c96 => ?_) (fun c96 => ?_)
      · refine g_iinc_3 h dX12_order_101 (inc1 _) (by decide) rfl ?_
        refine g_goto h 32 dX12_order_104 rfl ?_
        first
          | exact ih (k + 1) _ _ _ (by omega) (q_i (by rw [lst, if_neg (by rw [decide_eq_false (fun q => c96 (ea.trans q))]; exact Bool.false_ne_true)]) hQ)
          | exact ih (k + 1) _ _ _ (by omega) (q_i (by rw [lst, if_pos (decide_eq_true (ea.symm.trans (by first | exact c96 | exact Classical.not_not.mp c96)))]) hQ)
      · refine g_iload_3 h dX12_order_99 ?_
        refine g_istore_2 h dX12_order_100 (by decide) rfl ?_
        refine g_iinc_3 h dX12_order_101 (inc1 _) (by decide) rfl ?_
        refine g_goto h 32 dX12_order_104 rfl ?_
        first
          | exact ih (k + 1) _ _ _ (by omega) (q_i (by rw [lst, if_neg (by rw [decide_eq_false (fun q => c96 (ea.trans q))]; exact Bool.false_ne_true)]) hQ)
          | exact ih (k + 1) _ _ _ (by omega) (q_i (by rw [lst, if_pos (decide_eq_true (ea.symm.trans (by first | exact c96 | exact Classical.not_not.mp c96)))]) hQ)
set_option maxRecDepth 100000 in
set_option maxHeartbeats 4000000 in
theorem sp_X12_order {d : Nat} {x : Int32} {I : MI} {J : MJ} {P : MP} (hB : P 80 8 = some 93) (hK : bkOK (bv I)) {Q : Int32 → MI → MJ → MP → Prop} (hQ1 : ∀ a, a < nN (bv I) → x = nI a → Q (lst (fun k => decide (sumF (fun i => if i = k then nI 0 else b2i (ahR (bv I) (I 91) i k)) (nN (bv I)) 0 (nI 0) = x)) (nN (bv I)) 0 (-1)) (up2 I 80 0 (nI 0)) J P) (hQ0 : (¬ ∃ a, a < nN (bv I) ∧ x = nI a) → Q (nI 0) (up2 (up2 I 80 0 (nI 0)) 80 0 (nI 1)) J P) : Sp yX12_order cX12_order 6 (some .int) (d + 6) [.ref 80, .int x] I J P (Qi Q) := by
  intro Γ h
  show VG Γ 0 0 0 [some (.ref 80), some (.int x), none, none, none, none] [] _ _ _ _
  have hB1 : P 80 8 = some 93 := hB
  have hK1 : bkOK (bv (up2 I 80 0 (nI 0))) := by rw [bv80]; exact hK
  have e91 : up2 I 80 0 (nI 0) 91 = I 91 := up2_o (by decide)
  have e93 : up2 I 80 0 (nI 0) 93 = I 93 := up2_o (by decide)
  have e80 : up2 I 80 0 (nI 0) 80 2 = I 80 2 := up2_n (by decide)
  have hcn : I 93 1 = nI (nN (bv I)) ∧ nN (bv I) ≤ 16 := bk_N hK
  have hi1 := inB_c (x := x) (N := nN (bv I)) (by omega)
  by_cases h1 : ∃ a, a < nN (bv I) ∧ x = nI a
  · refine g_aload_0 h dX12_order_0 ?_
    refine g_iconst h dX12_order_1 (v := nI 0) rfl ?_
    refine g_putI h fp_X12_1 dX12_order_2 rfl rfl ?_
    refine g_iload_1 h dX12_order_5 ?_
    refine g_iconst h dX12_order_6 (v := nI 0) rfl ?_
    refine g_aload_0 h dX12_order_7 ?_
    refine g_getP h fl_X12_87 dX12_order_8 rfl rfl (by assumption) ?_
    refine g_getI h fl_X12_161 dX12_order_11 rfl rfl ?_
    refine g_iconst h dX12_order_14 (v := nI 1) rfl ?_
    refine g_isub h dX12_order_15 ?_
    refine g_cSi3 h rok0 mi_X12_isIn dX12_order_16 ml_X12_22 (Nat.le_of_ble_eq_true rfl) (Nat.le_of_ble_eq_true rfl) (sp_X12_isIn ?_)
    rw [show up2 I 80 0 (nI 0) 93 1 = nI (nN (bv I)) by rw [e93]; exact hcn.1, show inB x (nI 0) (nI (nN (bv I)) - nI 1) = true from hi1.mpr h1]
    refine g_if_ne h 28 dX12_order_19 rfl (fun _ => ?_) (fun c => absurd c (by decide))
    refine g_iconst h dX12_order_28 (v := (-1)) rfl ?_
    refine g_istore_2 h dX12_order_29 (by decide) rfl ?_
    refine g_iconst h dX12_order_30 (v := nI 0) rfl ?_
    refine g_istore_3 h dX12_order_31 (by decide) rfl ?_
    obtain ⟨a, a1, a2⟩ := h1
    refine lp_X12_order (d := d) hB1 hK1 h (nN (bv (up2 I 80 0 (nI 0)))) 0 _ _ _ (by omega) ?_
    rw [bv80, e91]
    exact hQ1 a a1 a2
  · refine g_aload_0 h dX12_order_0 ?_
    refine g_iconst h dX12_order_1 (v := nI 0) rfl ?_
    refine g_putI h fp_X12_1 dX12_order_2 rfl rfl ?_
    refine g_iload_1 h dX12_order_5 ?_
    refine g_iconst h dX12_order_6 (v := nI 0) rfl ?_
    refine g_aload_0 h dX12_order_7 ?_
    refine g_getP h fl_X12_87 dX12_order_8 rfl rfl (by assumption) ?_
    refine g_getI h fl_X12_161 dX12_order_11 rfl rfl ?_
    refine g_iconst h dX12_order_14 (v := nI 1) rfl ?_
    refine g_isub h dX12_order_15 ?_
    refine g_cSi3 h rok0 mi_X12_isIn dX12_order_16 ml_X12_22 (Nat.le_of_ble_eq_true rfl) (Nat.le_of_ble_eq_true rfl) (sp_X12_isIn ?_)
    rw [show up2 I 80 0 (nI 0) 93 1 = nI (nN (bv I)) by rw [e93]; exact hcn.1, show inB x (nI 0) (nI (nN (bv I)) - nI 1) = false from inB_f hi1 h1]
    refine g_if_ne h 28 dX12_order_19 rfl (fun c => absurd rfl c) (fun _ => ?_)
    refine g_aload_0 h dX12_order_22 ?_
    refine g_iconst h dX12_order_23 (v := nI 1) rfl ?_
    refine g_cVi1 h rok0 mi_X12_no dX12_order_24 ml_X12_10 rfl rfl rfl (Nat.le_of_ble_eq_true rfl) (Nat.le_of_ble_eq_true rfl) (sp_X12_no ?_)
    refine g_iret h dX12_order_27 ?_
    exact hQ0 h1
set_option maxRecDepth 100000 in
set_option maxHeartbeats 4000000 in
theorem lp_X12_find_ {Γ : Cx} {d : Nat} {I : MI} {J : MJ} {P : MP} (hB : P 80 8 = some 93) (hK : bkOK (bv I)) {x : Int32} {Q : Int32 → MI → MJ → MP → Prop} (h : Vc RX12 cX12_find_ 3 (some .int) (d + 5) Γ) : ∀ (f i : Nat), i + f = nN (bv I) → Q (frst (fun i => decide (smB (bv I) (I 91) i = x)) f i) I J P → VG Γ 0 0 7 [some (.ref 80), some (.int x), some (.int (nI i))] [] I J P (Fnl Γ (Qi Q)) := by
  have hN := (bk_N hK).1
  have n16 := (bk_N hK).2
  intro f
  induction f with
  | zero =>
    intro i hi hQ
    refine g_iload_2 h dX12_find__7 ?_
    refine g_aload_0 h dX12_find__8 ?_
    refine g_getP h fl_X12_87 dX12_find__9 rfl rfl (by assumption) ?_
    refine g_getI h fl_X12_161 dX12_find__12 rfl rfl ?_
    refine g_icmp_ge h 39 dX12_find__15 rfl (fun c15 => ?_) (fun c15 => ?_)
    · refine g_iconst h dX12_find__39 (v := (-1)) rfl ?_
      refine g_iret h dX12_find__40 ?_
      exact hQ
    · exact absurd (by rw [hN]; exact nI_le (by omega) (by omega)) c15
  | succ f ih =>
    intro i hi hQ
    refine g_iload_2 h dX12_find__7 ?_
    refine g_aload_0 h dX12_find__8 ?_
    refine g_getP h fl_X12_87 dX12_find__9 rfl rfl (by assumption) ?_
    refine g_getI h fl_X12_161 dX12_find__12 rfl rfl ?_
    refine g_icmp_ge h 39 dX12_find__15 rfl (fun c15 => ?_) (fun c15 => ?_)
    · exact absurd (leN (by simpa only [hN] using c15) (by omega) (by omega)) (by omega)
    · refine g_aload_0 h dX12_find__18 ?_
      refine g_aload_0 h dX12_find__19 ?_
      refine g_getC h fl_X12_109 dX12_find__20 rfl rfl ?_
      refine g_iload_2 h dX12_find__23 ?_
      refine g_cVi2 h rok0 mi_X12_sumOf dX12_find__24 ml_X12_287 rfl rfl rfl (Nat.le_of_ble_eq_true rfl) (Nat.le_of_ble_eq_true rfl) (sp_X12_sumOf (Or.inl rfl) hB (bk_N hK).1 (bk_N hK).2 4 _ i (by omega) (bk_t hK i (by omega)) ?_)
      refine g_iload_1 h dX12_find__27 ?_
      refine g_icmp_ne h 33 dX12_find__28 rfl (fun c28 => ?_) (fun c28 => ?_)
      · refine g_iinc_2 h dX12_find__33 (inc1 _) (by decide) rfl ?_
        refine g_goto h 7 dX12_find__36 rfl ?_
        exact ih (i + 1) (by omega) (q_i (by rw [frst, if_neg (by rw [decide_eq_false (show ¬ smB (bv I) (I 91) i = x from c28)]; exact Bool.false_ne_true)]) hQ)
      · refine g_iload_2 h dX12_find__31 ?_
        refine g_iret h dX12_find__32 ?_
        exact q_i (by rw [frst, if_pos (decide_eq_true (show smB (bv I) (I 91) i = x by first | exact c28 | exact Classical.not_not.mp c28))]) hQ
set_option maxRecDepth 100000 in
set_option maxHeartbeats 4000000 in
theorem sp_X12_find_ {d : Nat} {x : Int32} {I : MI} {J : MJ} {P : MP} (hB : P 80 8 = some 93) (hK : bkOK (bv I)) {Q : Int32 → MI → MJ → MP → Prop} (hQ : Q (frst (fun i => decide (smB (bv I) (I 91) i = x)) (nN (bv I)) 0) (up2 I 80 0 (nI 0)) J P) : Sp yX12_find_ cX12_find_ 3 (some .int) (d + 5) [.ref 80, .int x] I J P (Qi Q) := by
  intro Γ h
  show VG Γ 0 0 0 [some (.ref 80), some (.int x), none] [] _ _ _ _
  have hB1 : P 80 8 = some 93 := hB
  have hK1 : bkOK (bv (up2 I 80 0 (nI 0))) := by rw [bv80]; exact hK
  have e91 : up2 I 80 0 (nI 0) 91 = I 91 := up2_o (by decide)
  have e93 : up2 I 80 0 (nI 0) 93 = I 93 := up2_o (by decide)
  have e80 : up2 I 80 0 (nI 0) 80 2 = I 80 2 := up2_n (by decide)
  refine g_aload_0 h dX12_find__0 ?_
  refine g_iconst h dX12_find__1 (v := nI 0) rfl ?_
  refine g_putI h fp_X12_1 dX12_find__2 rfl rfl ?_
  refine g_iconst h dX12_find__5 (v := nI 0) rfl ?_
  refine g_istore_2 h dX12_find__6 (by decide) rfl ?_
  refine lp_X12_find_ (d := d) hB1 hK1 h (nN (bv (up2 I 80 0 (nI 0)))) 0 (by omega) ?_
  rw [bv80, e91]
  exact hQ
set_option maxRecDepth 100000 in
set_option maxHeartbeats 4000000 in
theorem lq_X12_jumble {Γ : Cx} {d i : Nat} {I : MI} {J : MJ} {P : MP} (hB : P 80 8 = some 93) (hi : i < 16) {a : Int32} {Φ : State → Prop} (h : Vc RX12 cX12_jumble 4 (some .int) (d) Γ) : ∀ (k : Nat) (y : Int32), k ≤ i → y = nI k - nI 1 → VG Γ 0 0 50 [some (.ref 80), some (.int a), some (.int (nI i)), some (.int (nbr (I 96) (I 96 i) k))] [] I J P Φ → VG Γ 0 0 19 [some (.ref 80), some (.int a), some (.int (nI i)), some (.int y)] [] I J P Φ := by
  intro k
  induction k with
  | zero =>
    intro y hk hy K
    rw [nI_0s1] at hy
    subst hy
    refine g_iload_3 h dX12_jumble_19 ?_
    refine g_if_lt h 50 dX12_jumble_20 rfl (fun _ => ?_) (fun c => absurd (by decide) c)
    exact K
  | succ k ih =>
    intro y hk hy K
    rw [nI_sub1] at hy
    subst hy
    rw [nbr] at K
    refine g_iload_3 h dX12_jumble_19 ?_
    refine g_if_lt h 50 dX12_jumble_20 rfl (fun c => absurd c (nI_pos (by omega))) (fun _ => ?_)
    refine g_aload_0 h dX12_jumble_23 ?_
    refine g_getP h fl_X12_87 dX12_jumble_24 rfl rfl (by assumption) ?_
    refine g_getC h fl_X12_248 dX12_jumble_27 rfl rfl ?_
    refine g_iload_3 h dX12_jumble_30 ?_
    refine g_iald h k dX12_jumble_31 rfl rfl (by omega) ?_
    refine g_aload_0 h dX12_jumble_32 ?_
    refine g_getP h fl_X12_87 dX12_jumble_33 rfl rfl (by assumption) ?_
    refine g_getC h fl_X12_248 dX12_jumble_36 rfl rfl ?_
    refine g_iload_2 h dX12_jumble_39 ?_
    refine g_iald h i dX12_jumble_40 rfl rfl (by omega) ?_
    refine g_icmp_eq h 50 dX12_jumble_41 rfl (fun c41 => ?_) (fun c41 => ?_)
    · rw [if_pos (by first | exact c41 | exact Classical.not_not.mp c41)] at K
      exact K
    · refine g_iinc_3 h dX12_jumble_44 (nI_dec k) (by decide) rfl ?_
      refine g_goto h 19 dX12_jumble_47 rfl ?_
      rw [if_neg c41] at K
      exact ih _ (by omega) rfl K
set_option maxRecDepth 100000 in
set_option maxHeartbeats 4000000 in
theorem lp_X12_jumble {Γ : Cx} {d : Nat} {I : MI} {J : MJ} {P : MP} (hB : P 80 8 = some 93) (hK : bkOK (bv I)) {Q : Int32 → MI → MJ → MP → Prop} (h : Vc RX12 cX12_jumble 4 (some .int) (d + 1) Γ) : ∀ (f i : Nat) (a : Int32) (x3 : Option Value), i + f = nN (bv I) → Q (sumF (fun i => b2i (jmR (bv I) i)) f i a) I J P → VG Γ 0 0 4 [some (.ref 80), some (.int a), some (.int (nI i)), x3] [] I J P (Fnl Γ (Qi Q)) := by
  have hN := (bk_N hK).1
  have n16 := (bk_N hK).2
  intro f
  induction f with
  | zero =>
    intro i a x3 hi hQ
    refine g_iload_2 h dX12_jumble_4 ?_
    refine g_aload_0 h dX12_jumble_5 ?_
    refine g_getP h fl_X12_87 dX12_jumble_6 rfl rfl (by assumption) ?_
    refine g_getI h fl_X12_161 dX12_jumble_9 rfl rfl ?_
    refine g_icmp_ge h 81 dX12_jumble_12 rfl (fun c12 => ?_) (fun c12 => ?_)
    · refine g_iload_1 h dX12_jumble_81 ?_
      refine g_iret h dX12_jumble_82 ?_
      exact hQ
    · exact absurd (by rw [hN]; exact nI_le (by omega) (by omega)) c12
  | succ f ih =>
    intro i a x3 hi hQ
    refine g_iload_2 h dX12_jumble_4 ?_
    refine g_aload_0 h dX12_jumble_5 ?_
    refine g_getP h fl_X12_87 dX12_jumble_6 rfl rfl (by assumption) ?_
    refine g_getI h fl_X12_161 dX12_jumble_9 rfl rfl ?_
    refine g_icmp_ge h 81 dX12_jumble_12 rfl (fun c12 => ?_) (fun c12 => ?_)
    · exact absurd (leN (by simpa only [hN] using c12) (by omega) (by omega)) (by omega)
    · refine g_iload_2 h dX12_jumble_15 ?_
      refine g_iconst h dX12_jumble_16 (v := nI 1) rfl ?_
      refine g_isub h dX12_jumble_17 ?_
      refine g_istore_3 h dX12_jumble_18 (by decide) rfl ?_
      refine lq_X12_jumble (d := d + 1) hB (by omega) h i _ (Nat.le_refl _) rfl ?_
      refine g_iload_1 h dX12_jumble_50 ?_
      refine g_iload_3 h dX12_jumble_51 ?_
      refine g_if_lt h 72 dX12_jumble_52 rfl (fun c52 => ?_) (fun c52 => ?_)
      · refine g_iconst h dX12_jumble_72 (v := nI 0) rfl ?_
        refine g_iadd h dX12_jumble_73 ?_
        refine g_istore_1 h dX12_jumble_74 (by decide) rfl ?_
        refine g_iinc_2 h dX12_jumble_75 (inc1 _) (by decide) rfl ?_
        refine g_goto h 4 dX12_jumble_78 rfl ?_
        first
          | exact ih (i + 1) _ _ (by omega) (q_i (by simp only [sumF]; rw [jmR, if_pos (show nbr (bv I 3) (bv I 3 i) i < 0 from c52)]; rfl) hQ)
          | exact ih (i + 1) _ _ (by omega) (q_i (by simp only [sumF]; rw [jmR, if_neg (show ¬ nbr (bv I 3) (bv I 3 i) i < 0 from c52), show nbr (bv I 3) (bv I 3 i) i = nI k from ek, ix_n (by omega), decide_eq_false (Int32.not_lt.mpr c65)]; rfl) hQ)
          | exact ih (i + 1) _ _ (by omega) (q_i (by simp only [sumF]; rw [jmR, if_neg (show ¬ nbr (bv I 3) (bv I 3 i) i < 0 from c52), show nbr (bv I 3) (bv I 3 i) i = nI k from ek, ix_n (by omega), decide_eq_true (Int32.not_le.mp c65)]; rfl) hQ)
      · refine g_aload_0 h dX12_jumble_55 ?_
        refine g_iload_2 h dX12_jumble_56 ?_
        refine g_cVi1 h rok0 mi_X12_rankOf dX12_jumble_57 ml_X12_390 rfl rfl rfl (Nat.le_of_ble_eq_true rfl) (Nat.le_of_ble_eq_true rfl) (sp_rank hB hK (by omega) ?_)
        obtain ⟨k, hk, ek⟩ : ∃ k, k < i ∧ nbr (I 96) (I 96 i) i = nI k := (nbr_in (I 96) (I 96 i) i (by omega)).elim (fun q => absurd (by rw [q]; decide) c52) id
        rw [ek]
        refine g_aload_0 h dX12_jumble_60 ?_
        refine g_iload_3 h dX12_jumble_61 ?_
        refine g_cVi1 h rok0 mi_X12_rankOf dX12_jumble_62 ml_X12_390 rfl rfl rfl (Nat.le_of_ble_eq_true rfl) (Nat.le_of_ble_eq_true rfl) (sp_rank hB hK (by omega) ?_)
        refine g_icmp_ge h 72 dX12_jumble_65 rfl (fun c65 => ?_) (fun c65 => ?_)
        · refine g_iconst h dX12_jumble_72 (v := nI 0) rfl ?_
          refine g_iadd h dX12_jumble_73 ?_
          refine g_istore_1 h dX12_jumble_74 (by decide) rfl ?_
          refine g_iinc_2 h dX12_jumble_75 (inc1 _) (by decide) rfl ?_
          refine g_goto h 4 dX12_jumble_78 rfl ?_
          first
            | exact ih (i + 1) _ _ (by omega) (q_i (by simp only [sumF]; rw [jmR, if_pos (show nbr (bv I 3) (bv I 3 i) i < 0 from c52)]; rfl) hQ)
            | exact ih (i + 1) _ _ (by omega) (q_i (by simp only [sumF]; rw [jmR, if_neg (show ¬ nbr (bv I 3) (bv I 3 i) i < 0 from c52), show nbr (bv I 3) (bv I 3 i) i = nI k from ek, ix_n (by omega), decide_eq_false (Int32.not_lt.mpr c65)]; rfl) hQ)
            | exact ih (i + 1) _ _ (by omega) (q_i (by simp only [sumF]; rw [jmR, if_neg (show ¬ nbr (bv I 3) (bv I 3 i) i < 0 from c52), show nbr (bv I 3) (bv I 3 i) i = nI k from ek, ix_n (by omega), decide_eq_true (Int32.not_le.mp c65)]; rfl) hQ)
        · refine g_iconst h dX12_jumble_68 (v := nI 1) rfl ?_
          refine g_goto h 73 dX12_jumble_69 rfl ?_
          refine g_iadd h dX12_jumble_73 ?_
          refine g_istore_1 h dX12_jumble_74 (by decide) rfl ?_
          refine g_iinc_2 h dX12_jumble_75 (inc1 _) (by decide) rfl ?_
          refine g_goto h 4 dX12_jumble_78 rfl ?_
          first
            | exact ih (i + 1) _ _ (by omega) (q_i (by simp only [sumF]; rw [jmR, if_pos (show nbr (bv I 3) (bv I 3 i) i < 0 from c52)]; rfl) hQ)
            | exact ih (i + 1) _ _ (by omega) (q_i (by simp only [sumF]; rw [jmR, if_neg (show ¬ nbr (bv I 3) (bv I 3 i) i < 0 from c52), show nbr (bv I 3) (bv I 3 i) i = nI k from ek, ix_n (by omega), decide_eq_false (Int32.not_lt.mpr c65)]; rfl) hQ)
            | exact ih (i + 1) _ _ (by omega) (q_i (by simp only [sumF]; rw [jmR, if_neg (show ¬ nbr (bv I 3) (bv I 3 i) i < 0 from c52), show nbr (bv I 3) (bv I 3 i) i = nI k from ek, ix_n (by omega), decide_eq_true (Int32.not_le.mp c65)]; rfl) hQ)
set_option maxRecDepth 100000 in
set_option maxHeartbeats 4000000 in
theorem sp_X12_jumble {d : Nat} {I : MI} {J : MJ} {P : MP} (hB : P 80 8 = some 93) (hK : bkOK (bv I)) {Q : Int32 → MI → MJ → MP → Prop} (hQ : Q (sumF (fun i => b2i (jmR (bv I) i)) (nN (bv I)) 0 (nI 0)) I J P) : Sp yX12_jumble cX12_jumble 4 (some .int) (d + 1) [.ref 80] I J P (Qi Q) := by
  intro Γ h
  show VG Γ 0 0 0 [some (.ref 80), none, none, none] [] _ _ _ _
  refine g_iconst h dX12_jumble_0 (v := nI 0) rfl ?_
  refine g_istore_1 h dX12_jumble_1 (by decide) rfl ?_
  refine g_iconst h dX12_jumble_2 (v := nI 0) rfl ?_
  refine g_istore_2 h dX12_jumble_3 (by decide) rfl ?_
  exact lp_X12_jumble hB hK h (nN (bv I)) 0 _ _ (by omega) hQ
set_option maxRecDepth 100000 in
set_option maxHeartbeats 4000000 in
theorem sp_X12_disorder {d : Nat} {I : MI} {J : MJ} {P : MP} (hB : P 80 8 = some 93) (hK : bkOK (bv I)) {Q : Int32 → MI → MJ → MP → Prop} (hQ : Q (sumF (fun i => b2i (jmR (bv I) i)) (nN (bv I)) 0 (nI 0)) (up2 I 80 0 (nI 0)) J P) : Sp yX12_disorder cX12_disorder 1 (some .int) (d + 2) [.ref 80] I J P (Qi Q) := by
  intro Γ h
  show VG Γ 0 0 0 [some (.ref 80)] [] _ _ _ _
  have hK1 : bkOK (bv (up2 I 80 0 (nI 0))) := by rw [bv80]; exact hK
  refine g_aload_0 h dX12_disorder_0 ?_
  refine g_iconst h dX12_disorder_1 (v := nI 0) rfl ?_
  refine g_putI h fp_X12_1 dX12_disorder_2 rfl rfl ?_
  refine g_aload_0 h dX12_disorder_5 ?_
  refine g_cVi0 h rok0 mi_X12_jumble dX12_disorder_6 ml_X12_396 rfl rfl rfl (Nat.le_of_ble_eq_true rfl) (Nat.le_of_ble_eq_true rfl) (sp_X12_jumble hB hK1 ?_)
  refine g_iret h dX12_disorder_9 ?_
  rw [bv80]
  exact hQ
