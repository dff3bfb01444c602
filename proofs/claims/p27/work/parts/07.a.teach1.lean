/-! The class's teacher: its small methods -/
theorem up2_id {α : Type} {f : Nat → Nat → α} {a k : Nat} {v : α} (h : f a k = v) : up2 f a k v = f := by
  funext x j
  unfold up2
  by_cases hx : x = a
  · rw [if_pos hx]
    by_cases hj : j = k
    · rw [if_pos hj, hx, hj, h]
    · rw [if_neg hj]
  · rw [if_neg hx]
theorem frst_in (p : Nat → Bool) : ∀ f i, frst p f i = -1 ∨ ∃ j, i ≤ j ∧ j < i + f ∧ p j = true ∧ frst p f i = nI j := by
  intro f
  induction f with
  | zero => exact fun i => Or.inl rfl
  | succ f ih =>
    intro i
    rw [frst]
    by_cases h : p i = true
    · rw [if_pos h]
      exact Or.inr ⟨i, Nat.le_refl _, by omega, h, rfl⟩
    · rw [if_neg h]
      rcases ih (i + 1) with q | ⟨j, a, b, c, e⟩
      · exact Or.inl q
      · exact Or.inr ⟨j, by omega, by omega, c, e⟩
theorem frst_ext {p q : Nat → Bool} : ∀ f i, (∀ j, i ≤ j → j < i + f → p j = q j) → frst p f i = frst q f i := by
  intro f
  induction f with
  | zero => exact fun i _ => rfl
  | succ f ih =>
    intro i h
    rw [frst, frst, h i (Nat.le_refl _) (by omega), ih (i + 1) (fun j a b => h j (by omega) (by omega))]
def tbI (k : Nat) : Nat := if k = 0 ∨ k = 3 then 0 else if k = 7 ∨ k = 14 ∨ k = 20 ∨ k = 22 then 2 else if k = 9 ∨ k = 12 ∨ k = 21 then 3 else 1
theorem tbI_lt (k : Nat) : tbI k < 4 := by unfold tbI; repeat' split
                                           all_goals decide
def plJ (J : MJ) (a N : Nat) (x : Int64) : Int32 := frst (fun j => decide (J a j = x)) N 0
theorem plJ_neg {J : MJ} {a N : Nat} {x : Int64} (hN : N < 2 ^ 31) : plJ J a N x < 0 ↔ plJ J a N x = -1 := by
  constructor
  · intro h
    rcases frst_in (fun j => decide (J a j = x)) N 0 with q | ⟨j, _, b, _, e⟩
    · exact q
    · rw [show plJ J a N x = nI j from e] at h
      exact absurd h (nI_pos (by omega))
  · intro h
    rw [h]
    decide
set_option maxRecDepth 100000 in
set_option maxHeartbeats 8000000 in
theorem sp_X9_clear58 {d : Nat} {I : MI} {J : MJ} {P : MP} {Q : MI → MJ → MP → Prop} (hQ : Q (up2 (up2 (up2 (up2 (up2 I 58 0 (nI 0)) 58 1 (nI 0)) 58 2 (nI 0)) 58 3 (nI 0)) 58 4 (nI 0)) J P) : Sp yX9_clear cX9_clear 1 none (d) [.ref 58] I J P (Qv Q) := by
  intro Γ h
  show VG Γ 0 0 0 [some (.ref 58)] [] _ _ _ _
  refine g_aload_0 h dX9_clear_0 ?_
  refine g_iconst h dX9_clear_1 (v := nI 0) rfl ?_
  refine g_putI h fp_X9_7 dX9_clear_2 rfl rfl ?_
  refine g_aload_0 h dX9_clear_5 ?_
  refine g_iconst h dX9_clear_6 (v := nI 0) rfl ?_
  refine g_putI h fp_X9_13 dX9_clear_7 rfl rfl ?_
  refine g_aload_0 h dX9_clear_10 ?_
  refine g_iconst h dX9_clear_11 (v := nI 0) rfl ?_
  refine g_putI h fp_X9_16 dX9_clear_12 rfl rfl ?_
  refine g_aload_0 h dX9_clear_15 ?_
  refine g_iconst h dX9_clear_16 (v := nI 0) rfl ?_
  refine g_putI h fp_X9_19 dX9_clear_17 rfl rfl ?_
  refine g_aload_0 h dX9_clear_20 ?_
  refine g_iconst h dX9_clear_21 (v := nI 0) rfl ?_
  refine g_putI h fp_X9_22 dX9_clear_22 rfl rfl ?_
  refine g_vret h dX9_clear_25 ?_
  exact hQ
set_option maxRecDepth 100000 in
set_option maxHeartbeats 8000000 in
theorem lp_placeOf {Γ : Cx} {d a N len : Nat} (hs : shp a = .inr (3, len)) (hN : N ≤ len) {x : Int64} {I : MI} {J : MJ} {P : MP} {Q : Int32 → MI → MJ → MP → Prop} (h : Vc RX7 cX7_placeOf 5 (some .int) (d) Γ) : ∀ (f i : Nat), i + f = N → Q (frst (fun j => decide (J a j = x)) f i) I J P → VG Γ 0 0 3 [some (.long x), none, some (.ref a), some (.int (nI N)), some (.int (nI i))] [] I J P (Fnl Γ (Qi Q)) := by
  have hle := shp_le hs
  intro f
  induction f with
  | zero =>
    intro i hi hQ
    obtain rfl : i = N := by omega
    refine g_iload_4 h dX7_placeOf_3 ?_
    refine g_iload_3 h dX7_placeOf_5 ?_
    refine g_icmp_ge h 34 dX7_placeOf_6 rfl (fun _ => ?_) (fun c => absurd (nI_le (Nat.le_refl _) (by omega)) c)
    refine g_iconst h dX7_placeOf_34 (v := (-1)) rfl ?_
    refine g_iret h dX7_placeOf_35 ?_
    exact hQ
  | succ f ih =>
    intro i hi hQ
    rw [frst] at hQ
    refine g_iload_4 h dX7_placeOf_3 ?_
    refine g_iload_3 h dX7_placeOf_5 ?_
    refine g_icmp_ge h 34 dX7_placeOf_6 rfl (fun c => absurd c (nI_ge (by omega) (by omega))) (fun _ => ?_)
    refine g_iload_4 h dX7_placeOf_9 ?_
    refine g_aload_2 h dX7_placeOf_11 ?_
    refine g_alen h dX7_placeOf_12 hs (by decide) ?_
    refine g_icmp_ge h 34 dX7_placeOf_13 rfl (fun c => absurd c (nI_ge (by omega) (by omega))) (fun _ => ?_)
    refine g_aload_2 h dX7_placeOf_16 ?_
    refine g_iload_4 h dX7_placeOf_17 ?_
    refine g_lald h i dX7_placeOf_19 hs rfl (by omega) ?_
    refine g_lload_0 h dX7_placeOf_20 ?_
    refine g_lcmp h dX7_placeOf_21 ?_
    refine g_if_ne h 28 dX7_placeOf_22 rfl (fun c22 => ?_) (fun c22 => ?_)
    · refine g_iinc_4 h dX7_placeOf_28 (inc1 _) (by decide) rfl ?_
      refine g_goto h 3 dX7_placeOf_31 rfl ?_
      have q : ¬ decide (J a i = x) = true := fun q => c22 (cmp_eq.mpr (of_decide_eq_true q))
      rw [if_neg q] at hQ
      exact ih (i + 1) (by omega) hQ
    · refine g_iload_4 h dX7_placeOf_25 ?_
      refine g_iret h dX7_placeOf_27 ?_
      have q : J a i = x := cmp_eq.mp (by first | exact c22 | exact Classical.not_not.mp c22)
      rw [if_pos (decide_eq_true q)] at hQ
      exact hQ
set_option maxRecDepth 100000 in
set_option maxHeartbeats 8000000 in
theorem sp_X7_placeOf {d a N len : Nat} (hs : shp a = .inr (3, len)) (hN : N ≤ len) {x : Int64} {I : MI} {J : MJ} {P : MP} {Q : Int32 → MI → MJ → MP → Prop} (hQ : Q (plJ J a N x) I J P) : Sp yX7_placeOf cX7_placeOf 5 (some .int) (d) [.long x, .ref a, .int (nI N)] I J P (Qi Q) := by
  intro Γ h
  show VG Γ 0 0 0 [some (.long x), none, some (.ref a), some (.int (nI N)), none] [] _ _ _ _
  refine g_iconst h dX7_placeOf_0 (v := nI 0) rfl ?_
  refine g_istore_4 h dX7_placeOf_1 (by decide) rfl ?_
  exact lp_placeOf hs hN h N 0 (by omega) hQ
def ctO (n : Nat → Nat) (I : MI) : Prop := (I 58 0 = nI (n 0) ∧ n 0 ≤ 6) ∧ (I 58 1 = nI (n 1) ∧ n 1 ≤ 16) ∧ (I 58 2 = nI (n 2) ∧ n 2 ≤ 6) ∧ (I 58 3 = nI (n 3) ∧ n 3 ≤ 5)
set_option maxRecDepth 100000 in
set_option maxHeartbeats 8000000 in
theorem sp_X7_toldAhead {d k : Nat} {n : Nat → Nat} (kp : k < 49) {I : MI} {J : MJ} {P : MP} (hk : I 10 8 = nI k) (hc : ctO n I) {x : Int64} {Q : Int32 → MI → MJ → MP → Prop} (hQ : Q (plJ J (11 + tbI k) (n (tbI k)) x) I J P) : Sp yX7_toldAhead cX7_toldAhead 4 (some .int) (d + 1) [.ref 10, .ref 58, .long x] I J P (Qi Q) := by
  intro Γ h
  show VG Γ 0 0 0 [some (.ref 10), some (.ref 58), some (.long x), none] [] _ _ _ _
  obtain ⟨c0, c1, c2, c3⟩ := hc
  refine g_aload_0 h dX7_toldAhead_0 ?_
  refine g_getI h fl_X7_42 dX7_toldAhead_1 rfl rfl ?_
  rcases (show (k = 0 ∨ k = 3) ∨ (k = 7 ∨ k = 14 ∨ k = 20 ∨ k = 22) ∨ (k = 9 ∨ k = 12 ∨ k = 21) ∨ (¬ (k = 0 ∨ k = 3) ∧ ¬ (k = 7 ∨ k = 14 ∨ k = 20 ∨ k = 22) ∧ ¬ (k = 9 ∨ k = 12 ∨ k = 21)) by omega) with e | e | e | e
  · refine g_ts h k 112 dX7_toldAhead_4 hk (by omega) (by decide) ((by decide : ∀ k, k < 49 → (k = 0 ∨ k = 3) → tsO 147 0 22 #[108, 147, 147, 108, 147, 147, 147, 121, 147, 134, 147, 147, 134, 147, 121, 147, 147, 147, 147, 147, 121, 134, 121] k = 108) _ kp e) rfl ?_
    refine g_lload_2 h dX7_toldAhead_112 ?_
    refine g_aload_0 h dX7_toldAhead_113 ?_
    refine g_getC h fl_X7_15 dX7_toldAhead_114 rfl rfl ?_
    refine g_aload_1 h dX7_toldAhead_117 ?_
    refine g_getI h fl_X7_100 dX7_toldAhead_118 rfl rfl ?_
    rw [c0.1]
    refine g_cSi3 h rok0 mi_X7_placeOf dX7_toldAhead_121 ml_X7_118 (Nat.le_of_ble_eq_true rfl) (Nat.le_of_ble_eq_true rfl) (sp_X7_placeOf (a := 11) (len := 6) rfl c0.2 ?_)
    refine g_iret h dX7_toldAhead_124 ?_
    rw [(by decide : ∀ k, k < 49 → (k = 0 ∨ k = 3) → tbI k = 0) _ kp e] at hQ
    exact hQ
  · refine g_ts h k 125 dX7_toldAhead_4 hk (by omega) (by decide) ((by decide : ∀ k, k < 49 → (k = 7 ∨ k = 14 ∨ k = 20 ∨ k = 22) → tsO 147 0 22 #[108, 147, 147, 108, 147, 147, 147, 121, 147, 134, 147, 147, 134, 147, 121, 147, 147, 147, 147, 147, 121, 134, 121] k = 121) _ kp e) rfl ?_
    refine g_lload_2 h dX7_toldAhead_125 ?_
    refine g_aload_0 h dX7_toldAhead_126 ?_
    refine g_getC h fl_X7_22 dX7_toldAhead_127 rfl rfl ?_
    refine g_aload_1 h dX7_toldAhead_130 ?_
    refine g_getI h fl_X7_122 dX7_toldAhead_131 rfl rfl ?_
    rw [c2.1]
    refine g_cSi3 h rok0 mi_X7_placeOf dX7_toldAhead_134 ml_X7_118 (Nat.le_of_ble_eq_true rfl) (Nat.le_of_ble_eq_true rfl) (sp_X7_placeOf (a := 13) (len := 6) rfl c2.2 ?_)
    refine g_iret h dX7_toldAhead_137 ?_
    rw [(by decide : ∀ k, k < 49 → (k = 7 ∨ k = 14 ∨ k = 20 ∨ k = 22) → tbI k = 2) _ kp e] at hQ
    exact hQ
  · refine g_ts h k 138 dX7_toldAhead_4 hk (by omega) (by decide) ((by decide : ∀ k, k < 49 → (k = 9 ∨ k = 12 ∨ k = 21) → tsO 147 0 22 #[108, 147, 147, 108, 147, 147, 147, 121, 147, 134, 147, 147, 134, 147, 121, 147, 147, 147, 147, 147, 121, 134, 121] k = 134) _ kp e) rfl ?_
    refine g_lload_2 h dX7_toldAhead_138 ?_
    refine g_aload_0 h dX7_toldAhead_139 ?_
    refine g_getC h fl_X7_25 dX7_toldAhead_140 rfl rfl ?_
    refine g_aload_1 h dX7_toldAhead_143 ?_
    refine g_getI h fl_X7_112 dX7_toldAhead_144 rfl rfl ?_
    rw [c3.1]
    refine g_cSi3 h rok0 mi_X7_placeOf dX7_toldAhead_147 ml_X7_118 (Nat.le_of_ble_eq_true rfl) (Nat.le_of_ble_eq_true rfl) (sp_X7_placeOf (a := 14) (len := 5) rfl c3.2 ?_)
    refine g_iret h dX7_toldAhead_150 ?_
    rw [(by decide : ∀ k, k < 49 → (k = 9 ∨ k = 12 ∨ k = 21) → tbI k = 3) _ kp e] at hQ
    exact hQ
  · refine g_ts h k 151 dX7_toldAhead_4 hk (by omega) (by decide) ((by decide : ∀ k, k < 49 → (¬ (k = 0 ∨ k = 3) ∧ ¬ (k = 7 ∨ k = 14 ∨ k = 20 ∨ k = 22) ∧ ¬ (k = 9 ∨ k = 12 ∨ k = 21)) → tsO 147 0 22 #[108, 147, 147, 108, 147, 147, 147, 121, 147, 134, 147, 147, 134, 147, 121, 147, 147, 147, 147, 147, 121, 134, 121] k = 147) _ kp e) rfl ?_
    refine g_lload_2 h dX7_toldAhead_151 ?_
    refine g_aload_0 h dX7_toldAhead_152 ?_
    refine g_getC h fl_X7_19 dX7_toldAhead_153 rfl rfl ?_
    refine g_aload_1 h dX7_toldAhead_156 ?_
    refine g_getI h fl_X7_106 dX7_toldAhead_157 rfl rfl ?_
    rw [c1.1]
    refine g_cSi3 h rok0 mi_X7_placeOf dX7_toldAhead_160 ml_X7_118 (Nat.le_of_ble_eq_true rfl) (Nat.le_of_ble_eq_true rfl) (sp_X7_placeOf (a := 12) (len := 16) rfl c1.2 ?_)
    refine g_iret h dX7_toldAhead_163 ?_
    rw [(by decide : ∀ k, k < 49 → (¬ (k = 0 ∨ k = 3) ∧ ¬ (k = 7 ∨ k = 14 ∨ k = 20 ∨ k = 22) ∧ ¬ (k = 9 ∨ k = 12 ∨ k = 21)) → tbI k = 1) _ kp e] at hQ
    exact hQ
set_option maxRecDepth 100000 in
set_option maxHeartbeats 8000000 in
theorem sp_X7_errorOfNewName {d a N len : Nat} (hs : shp a = .inr (3, len)) (hN : N ≤ len) (hl : len < 100) {pl : Int32} {x : Int64} {I : MI} {J : MJ} {P : MP} {Q : Int32 → MI → MJ → MP → Prop} (h2 : ¬ pl < 0 → Q (nI 2) I J P) (h4 : pl < 0 → len ≤ N → Q (nI 4) I J P) (h0 : pl < 0 → N < len → Q (nI 0) I (up2 J a N x) P) : Sp yX7_errorOfNewName cX7_errorOfNewName 5 (some .int) (d) [.int pl, .long x, .ref a, .int (nI N)] I J P (Qi Q) := by
  intro Γ h
  show VG Γ 0 0 0 [some (.int pl), some (.long x), none, some (.ref a), some (.int (nI N))] [] _ _ _ _
  refine g_iload_0 h dX7_errorOfNewName_0 ?_
  refine g_if_lt h 6 dX7_errorOfNewName_1 rfl (fun c1 => ?_) (fun c1 => ?_)
  · refine g_iload_4 h dX7_errorOfNewName_6 ?_
    refine g_if_lt h 18 dX7_errorOfNewName_8 rfl (fun c => absurd c (nI_pos (by omega))) (fun _ => ?_)
    refine g_iload_4 h dX7_errorOfNewName_11 ?_
    refine g_aload_3 h dX7_errorOfNewName_13 ?_
    refine g_alen h dX7_errorOfNewName_14 hs (by decide) ?_
    refine g_icmp_lt h 20 dX7_errorOfNewName_15 rfl (fun c15 => ?_) (fun c15 => ?_)
    · have q : N < len := ltN c15 (by omega) (by omega)
      refine g_aload_3 h dX7_errorOfNewName_20 ?_
      refine g_iload_4 h dX7_errorOfNewName_21 ?_
      refine g_lload_1 h dX7_errorOfNewName_23 ?_
      refine g_last h N dX7_errorOfNewName_24 hs rfl q ?_
      refine g_iconst h dX7_errorOfNewName_25 (v := nI 0) rfl ?_
      refine g_iret h dX7_errorOfNewName_26 ?_
      exact h0 c1 q
    · refine g_iconst h dX7_errorOfNewName_18 (v := nI 4) rfl ?_
      refine g_iret h dX7_errorOfNewName_19 ?_
      exact h4 c1 (Nat.le_of_not_lt (fun q => c15 (nI_lt q (by omega))))
  · refine g_iconst h dX7_errorOfNewName_4 (v := nI 2) rfl ?_
    refine g_iret h dX7_errorOfNewName_5 ?_
    exact h2 c1
set_option maxRecDepth 100000 in
set_option maxHeartbeats 8000000 in
theorem sp_X7_errorOfNewCord {d N : Nat} (hN : N ≤ 16) {pl : Int32} {x : Int64} {I : MI} {J : MJ} {P : MP} (hc : I 58 1 = nI N) {Q : Int32 → MI → MJ → MP → Prop} (hB : ∀ I', (I' = I ∨ I' = (up2 (up2 (up2 I 61 N (-1)) 62 N (nI 0)) 15 N (nI 1))) → (¬ pl < 0 → Q (nI 2) I' J P) ∧ (pl < 0 → 16 ≤ N → Q (nI 4) I' J P)) (h0 : pl < 0 → N < 16 → Q (nI 0) (up2 (up2 (up2 I 61 N (-1)) 62 N (nI 0)) 15 N (nI 1)) (up2 J 12 N x) P) : Sp yX7_errorOfNewCord cX7_errorOfNewCord 6 (some .int) (d + 1) [.ref 10, .ref 58, .int pl, .long x] I J P (Qi Q) := by
  intro Γ h
  show VG Γ 0 0 0 [some (.ref 10), some (.ref 58), some (.int pl), some (.long x), none, none] [] _ _ _ _
  refine g_aload_1 h dX7_errorOfNewCord_0 ?_
  refine g_getI h fl_X7_106 dX7_errorOfNewCord_1 rfl rfl ?_
  rw [hc]
  refine g_istore_5 h dX7_errorOfNewCord_4 (by decide) rfl ?_
  refine g_iload_5 h dX7_errorOfNewCord_6 ?_
  refine g_bipush h dX7_errorOfNewCord_8 (v := nI 16) rfl ?_
  refine g_icmp_ge h 37 dX7_errorOfNewCord_10 rfl (fun c10 => ?_) (fun c10 => ?_)
  · refine g_iload_2 h dX7_errorOfNewCord_37 ?_
    refine g_lload_3 h dX7_errorOfNewCord_38 ?_
    refine g_aload_0 h dX7_errorOfNewCord_39 ?_
    refine g_getC h fl_X7_19 dX7_errorOfNewCord_40 rfl rfl ?_
    refine g_iload_5 h dX7_errorOfNewCord_43 ?_
    refine g_cSi4 h rok0 mi_X7_errorOfNewName dX7_errorOfNewCord_45 ml_X7_125 (Nat.le_of_ble_eq_true rfl) (Nat.le_of_ble_eq_true rfl) (sp_X7_errorOfNewName (a := 12) (len := 16) rfl hN (by decide) (fun q2 => ?_) (fun q2 q3 => ?_) (fun q2 q3 => ?_))
    · refine g_iret h dX7_errorOfNewCord_48 ?_
      first
        | exact (hB _ (Or.inl rfl)).1 q2
        | exact (hB _ (Or.inr rfl)).1 q2
    · refine g_iret h dX7_errorOfNewCord_48 ?_
      first
        | exact (hB _ (Or.inl rfl)).2 q2 q3
        | exact (hB _ (Or.inr rfl)).2 q2 q3
    · refine g_iret h dX7_errorOfNewCord_48 ?_
      first
        | exact h0 q2 q3
        | exact absurd (nI_le (leN c10 (by decide) (by omega)) (by omega)) (nI_ge q3 (by decide))
  · have q : N < 16 := ltN (Int32.not_le.mp c10) (by omega) (by omega)
    refine g_aload_1 h dX7_errorOfNewCord_13 ?_
    refine g_getC h fl_X7_138 dX7_errorOfNewCord_14 rfl rfl ?_
    refine g_iload_5 h dX7_errorOfNewCord_17 ?_
    refine g_iconst h dX7_errorOfNewCord_19 (v := (-1)) rfl ?_
    refine g_iast h N dX7_errorOfNewCord_20 rfl rfl q ?_
    refine g_aload_1 h dX7_errorOfNewCord_21 ?_
    refine g_getC h fl_X7_109 dX7_errorOfNewCord_22 rfl rfl ?_
    refine g_iload_5 h dX7_errorOfNewCord_25 ?_
    refine g_iconst h dX7_errorOfNewCord_27 (v := nI 0) rfl ?_
    refine g_iast h N dX7_errorOfNewCord_28 rfl rfl q ?_
    refine g_aload_0 h dX7_errorOfNewCord_29 ?_
    refine g_getC h fl_X7_28 dX7_errorOfNewCord_30 rfl rfl ?_
    refine g_iload_5 h dX7_errorOfNewCord_33 ?_
    refine g_iconst h dX7_errorOfNewCord_35 (v := nI 1) rfl ?_
    refine g_iast h N dX7_errorOfNewCord_36 rfl rfl q ?_
    refine g_iload_2 h dX7_errorOfNewCord_37 ?_
    refine g_lload_3 h dX7_errorOfNewCord_38 ?_
    refine g_aload_0 h dX7_errorOfNewCord_39 ?_
    refine g_getC h fl_X7_19 dX7_errorOfNewCord_40 rfl rfl ?_
    refine g_iload_5 h dX7_errorOfNewCord_43 ?_
    refine g_cSi4 h rok0 mi_X7_errorOfNewName dX7_errorOfNewCord_45 ml_X7_125 (Nat.le_of_ble_eq_true rfl) (Nat.le_of_ble_eq_true rfl) (sp_X7_errorOfNewName (a := 12) (len := 16) rfl hN (by decide) (fun q2 => ?_) (fun q2 q3 => ?_) (fun q2 q3 => ?_))
    · refine g_iret h dX7_errorOfNewCord_48 ?_
      first
        | exact (hB _ (Or.inl rfl)).1 q2
        | exact (hB _ (Or.inr rfl)).1 q2
    · refine g_iret h dX7_errorOfNewCord_48 ?_
      first
        | exact (hB _ (Or.inl rfl)).2 q2 q3
        | exact (hB _ (Or.inr rfl)).2 q2 q3
    · refine g_iret h dX7_errorOfNewCord_48 ?_
      first
        | exact h0 q2 q3
        | exact absurd (nI_le (leN c10 (by decide) (by omega)) (by omega)) (nI_ge q3 (by decide))
set_option maxRecDepth 100000 in
set_option maxHeartbeats 8000000 in
theorem sp_X7_errorOfHanging {d N j dj : Nat} (hN : N < 16) (hj : j < N) (hdj : dj ≤ 16) {I : MI} {J : MJ} {P : MP} (hc : I 58 1 = nI N) (hd : I 15 j = nI dj) {Q : Int32 → MI → MJ → MP → Prop} (h5 : 4 ≤ dj → Q (nI 5) I J P) (h0 : dj < 4 → Q (nI 0) (up2 (up2 I 61 N (nI j)) 15 N (nI (dj + 1))) J P) : Sp yX7_errorOfHanging cX7_errorOfHanging 4 (some .int) (d + 1) [.ref 10, .ref 58, .int (nI j)] I J P (Qi Q) := by
  intro Γ h
  show VG Γ 0 0 0 [some (.ref 10), some (.ref 58), some (.int (nI j)), none] [] _ _ _ _
  refine g_aload_1 h dX7_errorOfHanging_0 ?_
  refine g_getI h fl_X7_106 dX7_errorOfHanging_1 rfl rfl ?_
  rw [hc]
  refine g_istore_3 h dX7_errorOfHanging_4 (by decide) rfl ?_
  refine g_aload_1 h dX7_errorOfHanging_5 ?_
  refine g_iload_2 h dX7_errorOfHanging_6 ?_
  refine g_cVi1 h rok0 mi_X9_hasCord dX7_errorOfHanging_7 ml_X7_156 rfl rfl rfl (Nat.le_of_ble_eq_true rfl) (Nat.le_of_ble_eq_true rfl) (sp_X9_hasCord (Or.inr rfl) ?_)
  rw [hc, show has (nI N) (nI j) (nI 16) = true from has_j hj (by decide) (by omega)]
  refine g_if_eq h 29 dX7_errorOfHanging_10 rfl (fun c => absurd c (by decide)) (fun _ => ?_)
  refine g_iload_3 h dX7_errorOfHanging_13 ?_
  refine g_bipush h dX7_errorOfHanging_14 (v := nI 16) rfl ?_
  refine g_icmp_ge h 29 dX7_errorOfHanging_16 rfl (fun c => absurd c (nI_ge hN (by decide))) (fun _ => ?_)
  refine g_aload_0 h dX7_errorOfHanging_19 ?_
  refine g_getC h fl_X7_28 dX7_errorOfHanging_20 rfl rfl ?_
  refine g_iload_2 h dX7_errorOfHanging_23 ?_
  refine g_iald h j dX7_errorOfHanging_24 rfl rfl (by omega) ?_
  rw [hd]
  refine g_iconst h dX7_errorOfHanging_25 (v := nI 4) rfl ?_
  refine g_icmp_lt h 31 dX7_errorOfHanging_26 rfl (fun c26 => ?_) (fun c26 => ?_)
  · refine g_aload_1 h dX7_errorOfHanging_31 ?_
    refine g_getC h fl_X7_138 dX7_errorOfHanging_32 rfl rfl ?_
    refine g_iload_3 h dX7_errorOfHanging_35 ?_
    refine g_iload_2 h dX7_errorOfHanging_36 ?_
    refine g_iast h N dX7_errorOfHanging_37 rfl rfl hN ?_
    refine g_aload_0 h dX7_errorOfHanging_38 ?_
    refine g_getC h fl_X7_28 dX7_errorOfHanging_39 rfl rfl ?_
    refine g_iload_3 h dX7_errorOfHanging_42 ?_
    refine g_aload_0 h dX7_errorOfHanging_43 ?_
    refine g_getC h fl_X7_28 dX7_errorOfHanging_44 rfl rfl ?_
    refine g_iload_2 h dX7_errorOfHanging_47 ?_
    refine g_iald h j dX7_errorOfHanging_48 rfl rfl (by omega) ?_
    rw [show up2 I 61 N (nI j) 15 j = nI dj by rw [up2_o (by decide)]; exact hd]
    refine g_iconst h dX7_errorOfHanging_49 (v := nI 1) rfl ?_
    refine g_iadd h dX7_errorOfHanging_50 ?_
    refine g_iast h N dX7_errorOfHanging_51 rfl rfl hN ?_
    refine g_iconst h dX7_errorOfHanging_52 (v := nI 0) rfl ?_
    refine g_iret h dX7_errorOfHanging_53 ?_
    have q : dj < 4 := ltN c26 (by omega) (by decide)
    rw [show nI dj + nI 1 = nI (dj + 1) from nI_1 dj]
    exact h0 q
  · refine g_iconst h dX7_errorOfHanging_29 (v := nI 5) rfl ?_
    refine g_iret h dX7_errorOfHanging_30 ?_
    exact h5 (Nat.le_of_not_lt (fun q => c26 (nI_lt q (by decide))))
set_option maxRecDepth 100000 in
set_option maxHeartbeats 8000000 in
theorem sp_X7_errorOfTopCord {d N z : Nat} (hN : N < 6) (hz8 : z ≤ 8) {x : Int32} {I : MI} {J : MJ} {P : MP} (hc : I 58 2 = nI N) (hz : I 63 N = nI z) {Q : Int32 → MI → MJ → MP → Prop} (h4 : z = 8 → Q (nI 4) I J P) (h5 : z < 8 → anyB (fun n => decide (I (65 + N) n = x)) z 0 = true → Q (nI 5) I J P) (h0 : z < 8 → anyB (fun n => decide (I (65 + N) n = x)) z 0 = false → Q (nI 0) (up2 (up2 I (65 + N) z x) 63 N (nI (z + 1))) J P) : Sp yX7_errorOfTopCord cX7_errorOfTopCord 3 (some .int) (d + 1) [.ref 58, .int x] I J P (Qi Q) := by
  intro Γ h
  show VG Γ 0 0 0 [some (.ref 58), some (.int x), none] [] _ _ _ _
  refine g_aload_0 h dX7_errorOfTopCord_0 ?_
  refine g_getI h fl_X7_122 dX7_errorOfTopCord_1 rfl rfl ?_
  rw [hc]
  refine g_istore_2 h dX7_errorOfTopCord_4 (by decide) rfl ?_
  refine g_iload_2 h dX7_errorOfTopCord_5 ?_
  refine g_bipush h dX7_errorOfTopCord_6 (v := nI 6) rfl ?_
  refine g_icmp_ge h 22 dX7_errorOfTopCord_8 rfl (fun c => absurd c (nI_ge hN (by decide))) (fun _ => ?_)
  refine g_aload_0 h dX7_errorOfTopCord_11 ?_
  refine g_getC h fl_X7_132 dX7_errorOfTopCord_12 rfl rfl ?_
  refine g_iload_2 h dX7_errorOfTopCord_15 ?_
  refine g_iald h N dX7_errorOfTopCord_16 rfl rfl hN ?_
  rw [hz]
  refine g_bipush h dX7_errorOfTopCord_17 (v := nI 8) rfl ?_
  refine g_icmp_lt h 24 dX7_errorOfTopCord_19 rfl (fun c19 => ?_) (fun c19 => ?_)
  · refine g_aload_0 h dX7_errorOfTopCord_24 ?_
    refine g_iload_2 h dX7_errorOfTopCord_25 ?_
    refine g_iload_1 h dX7_errorOfTopCord_26 ?_
    refine g_cVi2 h rok0 mi_X9_isOver dX7_errorOfTopCord_27 ml_X7_160 rfl rfl rfl (Nat.le_of_ble_eq_true rfl) (Nat.le_of_ble_eq_true rfl) (sp_X9_isOver_58 hN hz hz8 ?_)
    refine g_if_eq h 35 dX7_errorOfTopCord_30 rfl (fun c30 => ?_) (fun c30 => ?_)
    · have hz9 : z < 8 := ltN c19 (by omega) (by decide)
      refine g_aload_0 h dX7_errorOfTopCord_35 ?_
      refine g_getC h fl_X7_164 dX7_errorOfTopCord_36 rfl rfl ?_
      refine g_iload_2 h dX7_errorOfTopCord_39 ?_
      refine g_aald h N dX7_errorOfTopCord_40 rfl rfl hN ?_
      refine g_aload_0 h dX7_errorOfTopCord_41 ?_
      refine g_getC h fl_X7_132 dX7_errorOfTopCord_42 rfl rfl ?_
      refine g_iload_2 h dX7_errorOfTopCord_45 ?_
      refine g_iald h N dX7_errorOfTopCord_46 rfl rfl hN ?_
      rw [hz]
      refine g_iload_1 h dX7_errorOfTopCord_47 ?_
      refine g_iast h z dX7_errorOfTopCord_48 (shp65 hN) rfl (by omega) ?_
      refine g_aload_0 h dX7_errorOfTopCord_49 ?_
      refine g_getC h fl_X7_132 dX7_errorOfTopCord_50 rfl rfl ?_
      refine g_iload_2 h dX7_errorOfTopCord_53 ?_
      refine g_dup2 h dX7_errorOfTopCord_54 rfl rfl ?_
      refine g_iald h N dX7_errorOfTopCord_55 rfl rfl hN ?_
      rw [show up2 I (65 + N) z x 63 N = nI z by rw [up2_o (by omega)]; exact hz]
      refine g_iconst h dX7_errorOfTopCord_56 (v := nI 1) rfl ?_
      refine g_iadd h dX7_errorOfTopCord_57 ?_
      refine g_iast h N dX7_errorOfTopCord_58 rfl rfl hN ?_
      refine g_iconst h dX7_errorOfTopCord_59 (v := nI 0) rfl ?_
      refine g_iret h dX7_errorOfTopCord_60 ?_
      rw [show nI z + nI 1 = nI (z + 1) from nI_1 z]
      exact h0 (ltN c19 (by omega) (by decide)) (b2i_0.mp c30)
    · refine g_iconst h dX7_errorOfTopCord_33 (v := nI 5) rfl ?_
      refine g_iret h dX7_errorOfTopCord_34 ?_
      exact h5 (ltN c19 (by omega) (by decide)) (b2i_n0.mp c30)
  · refine g_iconst h dX7_errorOfTopCord_22 (v := nI 4) rfl ?_
    refine g_iret h dX7_errorOfTopCord_23 ?_
    exact h4 (by have := Nat.le_of_not_lt (fun q => c19 (nI_lt q (by decide))); omega)
set_option maxRecDepth 100000 in
set_option maxHeartbeats 8000000 in
theorem sp_X7_use3 {d N q : Nat} (hN : N < 16) {pl : Int32} {I : MI} {J : MJ} {P : MP} (hc1 : I 58 1 = nI N) (hc4 : I 58 4 = nI q) (hk : I 10 8 = nI 3) {Q : Int32 → MI → MJ → MP → Prop} (hQ : Q (nI 0) (up2 I 60 N pl) J P) : Sp yX7_errorOfUse cX7_errorOfUse 5 (some .int) (d + 2) [.ref 10, .ref 58, .int pl] I J P (Qi Q) := by
  intro Γ h
  show VG Γ 0 0 0 [some (.ref 10), some (.ref 58), some (.int pl), none, none] [] _ _ _ _
  refine g_aload_1 h dX7_errorOfUse_0 ?_
  refine g_getI h fl_X7_106 dX7_errorOfUse_1 rfl rfl ?_
  rw [hc1]
  refine g_istore_3 h dX7_errorOfUse_4 (by decide) rfl ?_
  refine g_aload_1 h dX7_errorOfUse_5 ?_
  refine g_getI h fl_X7_90 dX7_errorOfUse_6 rfl rfl ?_
  rw [hc4]
  refine g_istore_4 h dX7_errorOfUse_9 (by decide) rfl ?_
  refine g_aload_0 h dX7_errorOfUse_11 ?_
  refine g_getI h fl_X7_42 dX7_errorOfUse_12 rfl rfl ?_
  · refine g_ts h 3 76 dX7_errorOfUse_15 hk (by decide) (by decide) ((by decide : tsO 123 3 14 #[61, 76, 123, 123, 123, 83, 123, 123, 89, 106, 123, 89] 3 = 61)) rfl ?_
    refine g_iload_3 h dX7_errorOfUse_76 ?_
    refine g_bipush h dX7_errorOfUse_77 (v := nI 16) rfl ?_
    refine g_icmp_ge h 89 dX7_errorOfUse_79 rfl (fun c => absurd c (nI_ge hN (by decide))) (fun _ => ?_)
    refine g_aload_1 h dX7_errorOfUse_82 ?_
    refine g_getC h fl_X7_141 dX7_errorOfUse_83 rfl rfl ?_
    refine g_iload_3 h dX7_errorOfUse_86 ?_
    refine g_iload_2 h dX7_errorOfUse_87 ?_
    refine g_iast h N dX7_errorOfUse_88 rfl rfl hN ?_
    refine g_iconst h dX7_errorOfUse_89 (v := nI 0) rfl ?_
    refine g_iret h dX7_errorOfUse_90 ?_
    exact hQ
set_option maxRecDepth 100000 in
set_option maxHeartbeats 8000000 in
theorem sp_X7_use4 {d N q j dj : Nat} (hN : N < 16) (hj : j < N) (hdj : dj ≤ 16) {I : MI} {J : MJ} {P : MP} (hc1 : I 58 1 = nI N) (hc4 : I 58 4 = nI q) (hd : I 15 j = nI dj) (hk : I 10 8 = nI 4) {Q : Int32 → MI → MJ → MP → Prop} (h5 : 4 ≤ dj → Q (nI 5) I J P) (h0 : dj < 4 → Q (nI 0) (up2 (up2 I 61 N (nI j)) 15 N (nI (dj + 1))) J P) : Sp yX7_errorOfUse cX7_errorOfUse 5 (some .int) (d + 2) [.ref 10, .ref 58, .int (nI j)] I J P (Qi Q) := by
  intro Γ h
  show VG Γ 0 0 0 [some (.ref 10), some (.ref 58), some (.int (nI j)), none, none] [] _ _ _ _
  refine g_aload_1 h dX7_errorOfUse_0 ?_
  refine g_getI h fl_X7_106 dX7_errorOfUse_1 rfl rfl ?_
  rw [hc1]
  refine g_istore_3 h dX7_errorOfUse_4 (by decide) rfl ?_
  refine g_aload_1 h dX7_errorOfUse_5 ?_
  refine g_getI h fl_X7_90 dX7_errorOfUse_6 rfl rfl ?_
  rw [hc4]
  refine g_istore_4 h dX7_errorOfUse_9 (by decide) rfl ?_
  refine g_aload_0 h dX7_errorOfUse_11 ?_
  refine g_getI h fl_X7_42 dX7_errorOfUse_12 rfl rfl ?_
  · refine g_ts h 4 91 dX7_errorOfUse_15 hk (by decide) (by decide) ((by decide : tsO 123 3 14 #[61, 76, 123, 123, 123, 83, 123, 123, 89, 106, 123, 89] 4 = 76)) rfl ?_
    refine g_aload_0 h dX7_errorOfUse_91 ?_
    refine g_aload_1 h dX7_errorOfUse_92 ?_
    refine g_iload_2 h dX7_errorOfUse_93 ?_
    refine g_cVi2 h rok0 mi_X7_errorOfHanging dX7_errorOfUse_94 ml_X7_144 rfl rfl rfl (Nat.le_of_ble_eq_true rfl) (Nat.le_of_ble_eq_true rfl) (sp_X7_errorOfHanging hN hj hdj hc1 hd (fun q => ?_) (fun q => ?_))
    · refine g_iret h dX7_errorOfUse_97 ?_
      exact h5 q
    · refine g_iret h dX7_errorOfUse_97 ?_
      exact h0 q
set_option maxRecDepth 100000 in
set_option maxHeartbeats 8000000 in
theorem sp_X7_use8 {d N q T z : Nat} (hT : T < 6) (hz8 : z ≤ 8) {pl : Int32} {I : MI} {J : MJ} {P : MP} (hc1 : I 58 1 = nI N) (hc4 : I 58 4 = nI q) (hc2 : I 58 2 = nI T) (hz : I 63 T = nI z) (hk : I 10 8 = nI 8) {Q : Int32 → MI → MJ → MP → Prop} (h4 : z = 8 → Q (nI 4) I J P) (h5 : z < 8 → anyB (fun n => decide (I (65 + T) n = pl)) z 0 = true → Q (nI 5) I J P) (h0 : z < 8 → anyB (fun n => decide (I (65 + T) n = pl)) z 0 = false → Q (nI 0) (up2 (up2 I (65 + T) z pl) 63 T (nI (z + 1))) J P) : Sp yX7_errorOfUse cX7_errorOfUse 5 (some .int) (d + 2) [.ref 10, .ref 58, .int pl] I J P (Qi Q) := by
  intro Γ h
  show VG Γ 0 0 0 [some (.ref 10), some (.ref 58), some (.int pl), none, none] [] _ _ _ _
  refine g_aload_1 h dX7_errorOfUse_0 ?_
  refine g_getI h fl_X7_106 dX7_errorOfUse_1 rfl rfl ?_
  rw [hc1]
  refine g_istore_3 h dX7_errorOfUse_4 (by decide) rfl ?_
  refine g_aload_1 h dX7_errorOfUse_5 ?_
  refine g_getI h fl_X7_90 dX7_errorOfUse_6 rfl rfl ?_
  rw [hc4]
  refine g_istore_4 h dX7_errorOfUse_9 (by decide) rfl ?_
  refine g_aload_0 h dX7_errorOfUse_11 ?_
  refine g_getI h fl_X7_42 dX7_errorOfUse_12 rfl rfl ?_
  · refine g_ts h 8 98 dX7_errorOfUse_15 hk (by decide) (by decide) ((by decide : tsO 123 3 14 #[61, 76, 123, 123, 123, 83, 123, 123, 89, 106, 123, 89] 8 = 83)) rfl ?_
    refine g_aload_1 h dX7_errorOfUse_98 ?_
    refine g_iload_2 h dX7_errorOfUse_99 ?_
    refine g_cSi2 h rok0 mi_X7_errorOfTopCord dX7_errorOfUse_100 ml_X7_147 (Nat.le_of_ble_eq_true rfl) (Nat.le_of_ble_eq_true rfl) (sp_X7_errorOfTopCord hT hz8 hc2 hz (fun q => ?_) (fun q q2 => ?_) (fun q q2 => ?_))
    · refine g_iret h dX7_errorOfUse_103 ?_
      exact h4 q
    · refine g_iret h dX7_errorOfUse_103 ?_
      exact h5 q q2
    · refine g_iret h dX7_errorOfUse_103 ?_
      exact h0 q q2
set_option maxRecDepth 100000 in
set_option maxHeartbeats 8000000 in
theorem sp_X7_use11 {d N q : Nat} (hq : q < 20) {pl : Int32} {I : MI} {J : MJ} {P : MP} (hc1 : I 58 1 = nI N) (hc4 : I 58 4 = nI q) (hk : I 10 8 = nI 11) {Q : Int32 → MI → MJ → MP → Prop} (hQ : Q (nI 0) (up2 I 73 q pl) J P) : Sp yX7_errorOfUse cX7_errorOfUse 5 (some .int) (d + 2) [.ref 10, .ref 58, .int pl] I J P (Qi Q) := by
  intro Γ h
  show VG Γ 0 0 0 [some (.ref 10), some (.ref 58), some (.int pl), none, none] [] _ _ _ _
  refine g_aload_1 h dX7_errorOfUse_0 ?_
  refine g_getI h fl_X7_106 dX7_errorOfUse_1 rfl rfl ?_
  rw [hc1]
  refine g_istore_3 h dX7_errorOfUse_4 (by decide) rfl ?_
  refine g_aload_1 h dX7_errorOfUse_5 ?_
  refine g_getI h fl_X7_90 dX7_errorOfUse_6 rfl rfl ?_
  rw [hc4]
  refine g_istore_4 h dX7_errorOfUse_9 (by decide) rfl ?_
  refine g_aload_0 h dX7_errorOfUse_11 ?_
  refine g_getI h fl_X7_42 dX7_errorOfUse_12 rfl rfl ?_
  · refine g_ts h 11 104 dX7_errorOfUse_15 hk (by decide) (by decide) ((by decide : tsO 123 3 14 #[61, 76, 123, 123, 123, 83, 123, 123, 89, 106, 123, 89] 11 = 89)) rfl ?_
    refine g_iload_4 h dX7_errorOfUse_104 ?_
    refine g_bipush h dX7_errorOfUse_106 (v := nI 20) rfl ?_
    refine g_icmp_ge h 119 dX7_errorOfUse_108 rfl (fun c => absurd c (nI_ge hq (by decide))) (fun _ => ?_)
    refine g_aload_1 h dX7_errorOfUse_111 ?_
    refine g_getC h fl_X7_150 dX7_errorOfUse_112 rfl rfl ?_
    refine g_iload_4 h dX7_errorOfUse_115 ?_
    refine g_iload_2 h dX7_errorOfUse_117 ?_
    refine g_iast h q dX7_errorOfUse_118 rfl rfl hq ?_
    refine g_iconst h dX7_errorOfUse_119 (v := nI 0) rfl ?_
    refine g_iret h dX7_errorOfUse_120 ?_
    exact hQ
set_option maxRecDepth 100000 in
set_option maxHeartbeats 8000000 in
theorem sp_X7_use14 {d N q : Nat} (hq : q < 20) {pl : Int32} {I : MI} {J : MJ} {P : MP} (hc1 : I 58 1 = nI N) (hc4 : I 58 4 = nI q) (hk : I 10 8 = nI 14) {Q : Int32 → MI → MJ → MP → Prop} (hQ : Q (nI 0) (up2 I 73 q pl) J P) : Sp yX7_errorOfUse cX7_errorOfUse 5 (some .int) (d + 2) [.ref 10, .ref 58, .int pl] I J P (Qi Q) := by
  intro Γ h
  show VG Γ 0 0 0 [some (.ref 10), some (.ref 58), some (.int pl), none, none] [] _ _ _ _
  refine g_aload_1 h dX7_errorOfUse_0 ?_
  refine g_getI h fl_X7_106 dX7_errorOfUse_1 rfl rfl ?_
  rw [hc1]
  refine g_istore_3 h dX7_errorOfUse_4 (by decide) rfl ?_
  refine g_aload_1 h dX7_errorOfUse_5 ?_
  refine g_getI h fl_X7_90 dX7_errorOfUse_6 rfl rfl ?_
  rw [hc4]
  refine g_istore_4 h dX7_errorOfUse_9 (by decide) rfl ?_
  refine g_aload_0 h dX7_errorOfUse_11 ?_
  refine g_getI h fl_X7_42 dX7_errorOfUse_12 rfl rfl ?_
  · refine g_ts h 14 104 dX7_errorOfUse_15 hk (by decide) (by decide) ((by decide : tsO 123 3 14 #[61, 76, 123, 123, 123, 83, 123, 123, 89, 106, 123, 89] 14 = 89)) rfl ?_
    refine g_iload_4 h dX7_errorOfUse_104 ?_
    refine g_bipush h dX7_errorOfUse_106 (v := nI 20) rfl ?_
    refine g_icmp_ge h 119 dX7_errorOfUse_108 rfl (fun c => absurd c (nI_ge hq (by decide))) (fun _ => ?_)
    refine g_aload_1 h dX7_errorOfUse_111 ?_
    refine g_getC h fl_X7_150 dX7_errorOfUse_112 rfl rfl ?_
    refine g_iload_4 h dX7_errorOfUse_115 ?_
    refine g_iload_2 h dX7_errorOfUse_117 ?_
    refine g_iast h q dX7_errorOfUse_118 rfl rfl hq ?_
    refine g_iconst h dX7_errorOfUse_119 (v := nI 0) rfl ?_
    refine g_iret h dX7_errorOfUse_120 ?_
    exact hQ
set_option maxRecDepth 100000 in
set_option maxHeartbeats 8000000 in
theorem sp_X7_use12 {d N q : Nat} (hq : q < 20) {pl : Int32} {I : MI} {J : MJ} {P : MP} (hc1 : I 58 1 = nI N) (hc4 : I 58 4 = nI q) (hk : I 10 8 = nI 12) {Q : Int32 → MI → MJ → MP → Prop} (hQ : Q (nI 0) (up2 I 74 q pl) J P) : Sp yX7_errorOfUse cX7_errorOfUse 5 (some .int) (d + 2) [.ref 10, .ref 58, .int pl] I J P (Qi Q) := by
  intro Γ h
  show VG Γ 0 0 0 [some (.ref 10), some (.ref 58), some (.int pl), none, none] [] _ _ _ _
  refine g_aload_1 h dX7_errorOfUse_0 ?_
  refine g_getI h fl_X7_106 dX7_errorOfUse_1 rfl rfl ?_
  rw [hc1]
  refine g_istore_3 h dX7_errorOfUse_4 (by decide) rfl ?_
  refine g_aload_1 h dX7_errorOfUse_5 ?_
  refine g_getI h fl_X7_90 dX7_errorOfUse_6 rfl rfl ?_
  rw [hc4]
  refine g_istore_4 h dX7_errorOfUse_9 (by decide) rfl ?_
  refine g_aload_0 h dX7_errorOfUse_11 ?_
  refine g_getI h fl_X7_42 dX7_errorOfUse_12 rfl rfl ?_
  · refine g_ts h 12 121 dX7_errorOfUse_15 hk (by decide) (by decide) ((by decide : tsO 123 3 14 #[61, 76, 123, 123, 123, 83, 123, 123, 89, 106, 123, 89] 12 = 106)) rfl ?_
    refine g_iload_4 h dX7_errorOfUse_121 ?_
    refine g_bipush h dX7_errorOfUse_123 (v := nI 20) rfl ?_
    refine g_icmp_ge h 136 dX7_errorOfUse_125 rfl (fun c => absurd c (nI_ge hq (by decide))) (fun _ => ?_)
    refine g_aload_1 h dX7_errorOfUse_128 ?_
    refine g_getC h fl_X7_153 dX7_errorOfUse_129 rfl rfl ?_
    refine g_iload_4 h dX7_errorOfUse_132 ?_
    refine g_iload_2 h dX7_errorOfUse_134 ?_
    refine g_iast h q dX7_errorOfUse_135 rfl rfl hq ?_
    refine g_iconst h dX7_errorOfUse_136 (v := nI 0) rfl ?_
    refine g_iret h dX7_errorOfUse_137 ?_
    exact hQ
set_option maxRecDepth 100000 in
set_option maxHeartbeats 8000000 in
theorem sp_X7_useD {d N q k : Nat} (kp : k < 49) (k2 : 17 ≤ k ∧ k ≤ 22) {pl : Int32} {I : MI} {J : MJ} {P : MP} (hc1 : I 58 1 = nI N) (hc4 : I 58 4 = nI q) (hk : I 10 8 = nI k) {Q : Int32 → MI → MJ → MP → Prop} (hQ : Q (nI 0) I J P) : Sp yX7_errorOfUse cX7_errorOfUse 5 (some .int) (d + 2) [.ref 10, .ref 58, .int pl] I J P (Qi Q) := by
  intro Γ h
  show VG Γ 0 0 0 [some (.ref 10), some (.ref 58), some (.int pl), none, none] [] _ _ _ _
  refine g_aload_1 h dX7_errorOfUse_0 ?_
  refine g_getI h fl_X7_106 dX7_errorOfUse_1 rfl rfl ?_
  rw [hc1]
  refine g_istore_3 h dX7_errorOfUse_4 (by decide) rfl ?_
  refine g_aload_1 h dX7_errorOfUse_5 ?_
  refine g_getI h fl_X7_90 dX7_errorOfUse_6 rfl rfl ?_
  rw [hc4]
  refine g_istore_4 h dX7_errorOfUse_9 (by decide) rfl ?_
  refine g_aload_0 h dX7_errorOfUse_11 ?_
  refine g_getI h fl_X7_42 dX7_errorOfUse_12 rfl rfl ?_
  · refine g_ts h k 138 dX7_errorOfUse_15 hk (by omega) (by decide) ((by decide : ∀ k, k < 49 → (17 ≤ k ∧ k ≤ 22) → tsO 123 3 14 #[61, 76, 123, 123, 123, 83, 123, 123, 89, 106, 123, 89] k = 123) _ kp k2) rfl ?_
    refine g_iconst h dX7_errorOfUse_138 (v := nI 0) rfl ?_
    refine g_iret h dX7_errorOfUse_139 ?_
    exact hQ
set_option maxRecDepth 100000 in
set_option maxHeartbeats 8000000 in
theorem sp_X7_name0 {d N : Nat} (hN : N ≤ 6) {pl : Int32} {x : Int64} {I : MI} {J : MJ} {P : MP} (hk : I 10 8 = nI 0) (hc : I 58 0 = nI N) {Q : Int32 → MI → MJ → MP → Prop} (h2 : ¬ pl < 0 → Q (nI 2) I J P) (h4 : pl < 0 → 6 ≤ N → Q (nI 4) I J P) (h0 : pl < 0 → N < 6 → Q (nI 0) I (up2 J 11 N x) P) : Sp yX7_errorOfName cX7_errorOfName 5 (some .int) (d + 1) [.ref 10, .ref 58, .int pl, .long x] I J P (Qi Q) := by
  intro Γ h
  show VG Γ 0 0 0 [some (.ref 10), some (.ref 58), some (.int pl), some (.long x), none] [] _ _ _ _
  refine g_aload_0 h dX7_errorOfName_0 ?_
  refine g_getI h fl_X7_42 dX7_errorOfName_1 rfl rfl ?_
  · refine g_ts h 0 60 dX7_errorOfName_4 hk (by decide) (by decide) (by decide : tsO 125 0 9 #[56, 125, 70, 125, 125, 125, 125, 78, 125, 111] 0 = 56) rfl ?_
    refine g_iload_2 h dX7_errorOfName_60 ?_
    refine g_lload_3 h dX7_errorOfName_61 ?_
    refine g_aload_0 h dX7_errorOfName_62 ?_
    refine g_getC h fl_X7_15 dX7_errorOfName_63 rfl rfl ?_
    refine g_aload_1 h dX7_errorOfName_66 ?_
    refine g_getI h fl_X7_100 dX7_errorOfName_67 rfl rfl ?_
    rw [hc]
    refine g_cSi4 h rok0 mi_X7_errorOfNewName dX7_errorOfName_70 ml_X7_125 (Nat.le_of_ble_eq_true rfl) (Nat.le_of_ble_eq_true rfl) (sp_X7_errorOfNewName (a := 11) (len := 6) rfl hN (by decide) (fun q2 => ?_) (fun q2 q3 => ?_) (fun q2 q3 => ?_))
    · refine g_iret h dX7_errorOfName_73 ?_
      exact h2 q2
    · refine g_iret h dX7_errorOfName_73 ?_
      exact h4 q2 q3
    · refine g_iret h dX7_errorOfName_73 ?_
      exact h0 q2 q3
set_option maxRecDepth 100000 in
set_option maxHeartbeats 8000000 in
theorem sp_X7_name9 {d N : Nat} (hN : N ≤ 5) {pl : Int32} {x : Int64} {I : MI} {J : MJ} {P : MP} (hk : I 10 8 = nI 9) (hc : I 58 3 = nI N) {Q : Int32 → MI → MJ → MP → Prop} (h2 : ¬ pl < 0 → Q (nI 2) I J P) (h4 : pl < 0 → 5 ≤ N → Q (nI 4) I J P) (h0 : pl < 0 → N < 5 → Q (nI 0) I (up2 J 14 N x) P) : Sp yX7_errorOfName cX7_errorOfName 5 (some .int) (d + 1) [.ref 10, .ref 58, .int pl, .long x] I J P (Qi Q) := by
  intro Γ h
  show VG Γ 0 0 0 [some (.ref 10), some (.ref 58), some (.int pl), some (.long x), none] [] _ _ _ _
  refine g_aload_0 h dX7_errorOfName_0 ?_
  refine g_getI h fl_X7_42 dX7_errorOfName_1 rfl rfl ?_
  · refine g_ts h 9 115 dX7_errorOfName_4 hk (by decide) (by decide) (by decide : tsO 125 0 9 #[56, 125, 70, 125, 125, 125, 125, 78, 125, 111] 9 = 111) rfl ?_
    refine g_iload_2 h dX7_errorOfName_115 ?_
    refine g_lload_3 h dX7_errorOfName_116 ?_
    refine g_aload_0 h dX7_errorOfName_117 ?_
    refine g_getC h fl_X7_25 dX7_errorOfName_118 rfl rfl ?_
    refine g_aload_1 h dX7_errorOfName_121 ?_
    refine g_getI h fl_X7_112 dX7_errorOfName_122 rfl rfl ?_
    rw [hc]
    refine g_cSi4 h rok0 mi_X7_errorOfNewName dX7_errorOfName_125 ml_X7_125 (Nat.le_of_ble_eq_true rfl) (Nat.le_of_ble_eq_true rfl) (sp_X7_errorOfNewName (a := 14) (len := 5) rfl hN (by decide) (fun q2 => ?_) (fun q2 q3 => ?_) (fun q2 q3 => ?_))
    · refine g_iret h dX7_errorOfName_128 ?_
      exact h2 q2
    · refine g_iret h dX7_errorOfName_128 ?_
      exact h4 q2 q3
    · refine g_iret h dX7_errorOfName_128 ?_
      exact h0 q2 q3
set_option maxRecDepth 100000 in
set_option maxHeartbeats 8000000 in
theorem sp_X7_name2 {d N : Nat} (hN : N ≤ 16) {pl : Int32} {x : Int64} {I : MI} {J : MJ} {P : MP} (hk : I 10 8 = nI 2) (hc : I 58 1 = nI N) {Q : Int32 → MI → MJ → MP → Prop} (hB : ∀ I', (I' = I ∨ I' = (up2 (up2 (up2 I 61 N (-1)) 62 N (nI 0)) 15 N (nI 1))) → (¬ pl < 0 → Q (nI 2) I' J P) ∧ (pl < 0 → 16 ≤ N → Q (nI 4) I' J P)) (h0 : pl < 0 → N < 16 → Q (nI 0) (up2 (up2 (up2 I 61 N (-1)) 62 N (nI 0)) 15 N (nI 1)) (up2 J 12 N x) P)  : Sp yX7_errorOfName cX7_errorOfName 5 (some .int) (d + 2) [.ref 10, .ref 58, .int pl, .long x] I J P (Qi Q) := by
  intro Γ h
  show VG Γ 0 0 0 [some (.ref 10), some (.ref 58), some (.int pl), some (.long x), none] [] _ _ _ _
  refine g_aload_0 h dX7_errorOfName_0 ?_
  refine g_getI h fl_X7_42 dX7_errorOfName_1 rfl rfl ?_
  · refine g_ts h 2 74 dX7_errorOfName_4 hk (by decide) (by decide) (by decide : tsO 125 0 9 #[56, 125, 70, 125, 125, 125, 125, 78, 125, 111] 2 = 70) rfl ?_
    refine g_aload_0 h dX7_errorOfName_74 ?_
    refine g_aload_1 h dX7_errorOfName_75 ?_
    refine g_iload_2 h dX7_errorOfName_76 ?_
    refine g_lload_3 h dX7_errorOfName_77 ?_
    refine g_cVi3 h rok0 mi_X7_errorOfNewCord dX7_errorOfName_78 ml_X7_129 rfl rfl rfl (Nat.le_of_ble_eq_true rfl) (Nat.le_of_ble_eq_true rfl) (sp_X7_errorOfNewCord hN hc (fun I' hI => ⟨fun q => ?_, fun q q2 => ?_⟩) (fun q q2 => ?_))
    · refine g_iret h dX7_errorOfName_81 ?_
      exact (hB _ hI).1 q
    · refine g_iret h dX7_errorOfName_81 ?_
      exact (hB _ hI).2 q q2
    · refine g_iret h dX7_errorOfName_81 ?_
      exact h0 q q2
set_option maxRecDepth 100000 in
set_option maxHeartbeats 8000000 in
theorem sp_X7_name7 {d N : Nat} (hN : N ≤ 6) {pl : Int32} {x : Int64} {I : MI} {J : MJ} {P : MP} (hk : I 10 8 = nI 7) (hc : I 58 2 = nI N) {Q : Int32 → MI → MJ → MP → Prop} (hB : ∀ I', (I' = I ∨ I' = (up2 I 63 N (nI 0))) → (¬ pl < 0 → Q (nI 2) I' J P) ∧ (pl < 0 → 6 ≤ N → Q (nI 4) I' J P)) (h0 : pl < 0 → N < 6 → Q (nI 0) (up2 I 63 N (nI 0)) (up2 J 13 N x) P)  : Sp yX7_errorOfName cX7_errorOfName 5 (some .int) (d + 1) [.ref 10, .ref 58, .int pl, .long x] I J P (Qi Q) := by
  intro Γ h
  show VG Γ 0 0 0 [some (.ref 10), some (.ref 58), some (.int pl), some (.long x), none] [] _ _ _ _
  refine g_aload_0 h dX7_errorOfName_0 ?_
  refine g_getI h fl_X7_42 dX7_errorOfName_1 rfl rfl ?_
  · refine g_ts h 7 82 dX7_errorOfName_4 hk (by decide) (by decide) (by decide : tsO 125 0 9 #[56, 125, 70, 125, 125, 125, 125, 78, 125, 111] 7 = 78) rfl ?_
    refine g_aload_1 h dX7_errorOfName_82 ?_
    refine g_getI h fl_X7_122 dX7_errorOfName_83 rfl rfl ?_
    rw [hc]
    refine g_bipush h dX7_errorOfName_86 (v := nI 6) rfl ?_
    refine g_icmp_ge h 101 dX7_errorOfName_88 rfl (fun c88 => ?_) (fun c88 => ?_)
    · refine g_iload_2 h dX7_errorOfName_101 ?_
      refine g_lload_3 h dX7_errorOfName_102 ?_
      refine g_aload_0 h dX7_errorOfName_103 ?_
      refine g_getC h fl_X7_22 dX7_errorOfName_104 rfl rfl ?_
      refine g_aload_1 h dX7_errorOfName_107 ?_
      refine g_getI h fl_X7_122 dX7_errorOfName_108 rfl rfl ?_
      try rw [up2_o (by decide)]
      rw [hc]
      refine g_cSi4 h rok0 mi_X7_errorOfNewName dX7_errorOfName_111 ml_X7_125 (Nat.le_of_ble_eq_true rfl) (Nat.le_of_ble_eq_true rfl) (sp_X7_errorOfNewName (a := 13) (len := 6) rfl hN (by decide) (fun q2 => ?_) (fun q2 q3 => ?_) (fun q2 q3 => ?_))
      · refine g_iret h dX7_errorOfName_114 ?_
        first
          | exact (hB _ (Or.inl rfl)).1 q2
          | exact (hB _ (Or.inr rfl)).1 q2
      · refine g_iret h dX7_errorOfName_114 ?_
        first
          | exact (hB _ (Or.inl rfl)).2 q2 q3
          | exact (hB _ (Or.inr rfl)).2 q2 q3
      · refine g_iret h dX7_errorOfName_114 ?_
        first
          | exact h0 q2 q3
          | exact absurd (nI_le (leN c88 (by decide) (by omega)) (by omega)) (nI_ge q3 (by decide))
    · have q : N < 6 := ltN (Int32.not_le.mp c88) (by omega) (by omega)
      refine g_aload_1 h dX7_errorOfName_91 ?_
      refine g_getC h fl_X7_132 dX7_errorOfName_92 rfl rfl ?_
      refine g_aload_1 h dX7_errorOfName_95 ?_
      refine g_getI h fl_X7_122 dX7_errorOfName_96 rfl rfl ?_
      rw [hc]
      refine g_iconst h dX7_errorOfName_99 (v := nI 0) rfl ?_
      refine g_iast h N dX7_errorOfName_100 rfl rfl q ?_
      refine g_iload_2 h dX7_errorOfName_101 ?_
      refine g_lload_3 h dX7_errorOfName_102 ?_
      refine g_aload_0 h dX7_errorOfName_103 ?_
      refine g_getC h fl_X7_22 dX7_errorOfName_104 rfl rfl ?_
      refine g_aload_1 h dX7_errorOfName_107 ?_
      refine g_getI h fl_X7_122 dX7_errorOfName_108 rfl rfl ?_
      try rw [up2_o (by decide)]
      rw [hc]
      refine g_cSi4 h rok0 mi_X7_errorOfNewName dX7_errorOfName_111 ml_X7_125 (Nat.le_of_ble_eq_true rfl) (Nat.le_of_ble_eq_true rfl) (sp_X7_errorOfNewName (a := 13) (len := 6) rfl hN (by decide) (fun q2 => ?_) (fun q2 q3 => ?_) (fun q2 q3 => ?_))
      · refine g_iret h dX7_errorOfName_114 ?_
        first
          | exact (hB _ (Or.inl rfl)).1 q2
          | exact (hB _ (Or.inr rfl)).1 q2
      · refine g_iret h dX7_errorOfName_114 ?_
        first
          | exact (hB _ (Or.inl rfl)).2 q2 q3
          | exact (hB _ (Or.inr rfl)).2 q2 q3
      · refine g_iret h dX7_errorOfName_114 ?_
        first
          | exact h0 q2 q3
          | exact absurd (nI_le (leN c88 (by decide) (by omega)) (by omega)) (nI_ge q3 (by decide))
set_option maxRecDepth 100000 in
set_option maxHeartbeats 8000000 in
theorem sp_X7_name3 {d k : Nat} (kp : k < 49) (k2 : ¬ k = 0 ∧ ¬ k = 2 ∧ ¬ k = 7 ∧ ¬ k = 9) {pl : Int32} (hpl : pl < 0) {x : Int64} {I : MI} {J : MJ} {P : MP} (hk : I 10 8 = nI k) {Q : Int32 → MI → MJ → MP → Prop} (hQ : Q (nI 3) I J P) : Sp yX7_errorOfName cX7_errorOfName 5 (some .int) (d) [.ref 10, .ref 58, .int pl, .long x] I J P (Qi Q) := by
  intro Γ h
  show VG Γ 0 0 0 [some (.ref 10), some (.ref 58), some (.int pl), some (.long x), none] [] _ _ _ _
  refine g_aload_0 h dX7_errorOfName_0 ?_
  refine g_getI h fl_X7_42 dX7_errorOfName_1 rfl rfl ?_
  · refine g_ts h k 129 dX7_errorOfName_4 hk (by omega) (by decide) ((by decide : ∀ k, k < 49 → (¬ k = 0 ∧ ¬ k = 2 ∧ ¬ k = 7 ∧ ¬ k = 9) → tsO 125 0 9 #[56, 125, 70, 125, 125, 125, 125, 78, 125, 111] k = 125) _ kp k2) rfl ?_
    refine g_iload_2 h dX7_errorOfName_129 ?_
    refine g_if_ge h 137 dX7_errorOfName_130 rfl (fun c => absurd hpl (Int32.not_lt.mpr c)) (fun _ => ?_)
    refine g_iconst h dX7_errorOfName_133 (v := nI 3) rfl ?_
    refine g_goto h 143 dX7_errorOfName_134 rfl ?_
    refine g_iret h dX7_errorOfName_143 ?_
    exact hQ
set_option maxRecDepth 100000 in
set_option maxHeartbeats 8000000 in
theorem sp_X7_nOf {d N q : Nat} (hN : N < 16) {pl : Int32} (hpl : 0 ≤ pl) {x : Int64} {I : MI} {J : MJ} {P : MP} (hc1 : I 58 1 = nI N) (hc4 : I 58 4 = nI q) (hk : I 10 8 = nI 3) {Q : Int32 → MI → MJ → MP → Prop} (hQ : Q (nI 0) (up2 I 60 N pl) J P) : Sp yX7_errorOfName cX7_errorOfName 5 (some .int) (d + 3) [.ref 10, .ref 58, .int pl, .long x] I J P (Qi Q) := by
  intro Γ h
  show VG Γ 0 0 0 [some (.ref 10), some (.ref 58), some (.int pl), some (.long x), none] [] _ _ _ _
  refine g_aload_0 h dX7_errorOfName_0 ?_
  refine g_getI h fl_X7_42 dX7_errorOfName_1 rfl rfl ?_
  · refine g_ts h 3 129 dX7_errorOfName_4 hk (by decide) (by decide) (by decide : tsO 125 0 9 #[56, 125, 70, 125, 125, 125, 125, 78, 125, 111] 3 = 125) rfl ?_
    refine g_iload_2 h dX7_errorOfName_129 ?_
    refine g_if_ge h 137 dX7_errorOfName_130 rfl (fun _ => ?_) (fun c => absurd hpl c)
    refine g_aload_0 h dX7_errorOfName_137 ?_
    refine g_aload_1 h dX7_errorOfName_138 ?_
    refine g_iload_2 h dX7_errorOfName_139 ?_
    refine g_cVi2 h rok0 mi_X7_errorOfUse dX7_errorOfName_140 ml_X7_135 rfl rfl rfl (Nat.le_of_ble_eq_true rfl) (Nat.le_of_ble_eq_true rfl) (sp_X7_use3 hN hc1 hc4 hk ?_)
    · refine g_iret h dX7_errorOfName_143 ?_
      exact hQ
set_option maxRecDepth 100000 in
set_option maxHeartbeats 8000000 in
theorem sp_X7_nUnder {d N q j dj : Nat} (hN : N < 16) (hj : j < N) (hdj : dj ≤ 16) {x : Int64} {I : MI} {J : MJ} {P : MP} (hc1 : I 58 1 = nI N) (hc4 : I 58 4 = nI q) (hd : I 15 j = nI dj) (hk : I 10 8 = nI 4) {Q : Int32 → MI → MJ → MP → Prop} (h5 : 4 ≤ dj → Q (nI 5) I J P) (h0 : dj < 4 → Q (nI 0) (up2 (up2 I 61 N (nI j)) 15 N (nI (dj + 1))) J P) : Sp yX7_errorOfName cX7_errorOfName 5 (some .int) (d + 3) [.ref 10, .ref 58, .int (nI j), .long x] I J P (Qi Q) := by
  intro Γ h
  show VG Γ 0 0 0 [some (.ref 10), some (.ref 58), some (.int (nI j)), some (.long x), none] [] _ _ _ _
  refine g_aload_0 h dX7_errorOfName_0 ?_
  refine g_getI h fl_X7_42 dX7_errorOfName_1 rfl rfl ?_
  · refine g_ts h 4 129 dX7_errorOfName_4 hk (by decide) (by decide) (by decide : tsO 125 0 9 #[56, 125, 70, 125, 125, 125, 125, 78, 125, 111] 4 = 125) rfl ?_
    refine g_iload_2 h dX7_errorOfName_129 ?_
    refine g_if_ge h 137 dX7_errorOfName_130 rfl (fun _ => ?_) (fun c => absurd (nI_pos' (show j < 2 ^ 31 by omega)) c)
    refine g_aload_0 h dX7_errorOfName_137 ?_
    refine g_aload_1 h dX7_errorOfName_138 ?_
    refine g_iload_2 h dX7_errorOfName_139 ?_
    refine g_cVi2 h rok0 mi_X7_errorOfUse dX7_errorOfName_140 ml_X7_135 rfl rfl rfl (Nat.le_of_ble_eq_true rfl) (Nat.le_of_ble_eq_true rfl) (sp_X7_use4 hN hj hdj hc1 hc4 hd hk (fun q => ?_) (fun q => ?_))
    · refine g_iret h dX7_errorOfName_143 ?_
      exact h5 q
    · refine g_iret h dX7_errorOfName_143 ?_
      exact h0 q
set_option maxRecDepth 100000 in
set_option maxHeartbeats 8000000 in
theorem sp_X7_nOver {d N q T z : Nat} (hT : T < 6) (hz8 : z ≤ 8) {pl : Int32} (hpl : 0 ≤ pl) {x : Int64} {I : MI} {J : MJ} {P : MP} (hc1 : I 58 1 = nI N) (hc4 : I 58 4 = nI q) (hc2 : I 58 2 = nI T) (hz : I 63 T = nI z) (hk : I 10 8 = nI 8) {Q : Int32 → MI → MJ → MP → Prop} (h4 : z = 8 → Q (nI 4) I J P) (h5 : z < 8 → anyB (fun n => decide (I (65 + T) n = pl)) z 0 = true → Q (nI 5) I J P) (h0 : z < 8 → anyB (fun n => decide (I (65 + T) n = pl)) z 0 = false → Q (nI 0) (up2 (up2 I (65 + T) z pl) 63 T (nI (z + 1))) J P) : Sp yX7_errorOfName cX7_errorOfName 5 (some .int) (d + 3) [.ref 10, .ref 58, .int pl, .long x] I J P (Qi Q) := by
  intro Γ h
  show VG Γ 0 0 0 [some (.ref 10), some (.ref 58), some (.int pl), some (.long x), none] [] _ _ _ _
  refine g_aload_0 h dX7_errorOfName_0 ?_
  refine g_getI h fl_X7_42 dX7_errorOfName_1 rfl rfl ?_
  · refine g_ts h 8 129 dX7_errorOfName_4 hk (by decide) (by decide) (by decide : tsO 125 0 9 #[56, 125, 70, 125, 125, 125, 125, 78, 125, 111] 8 = 125) rfl ?_
    refine g_iload_2 h dX7_errorOfName_129 ?_
    refine g_if_ge h 137 dX7_errorOfName_130 rfl (fun _ => ?_) (fun c => absurd hpl c)
    refine g_aload_0 h dX7_errorOfName_137 ?_
    refine g_aload_1 h dX7_errorOfName_138 ?_
    refine g_iload_2 h dX7_errorOfName_139 ?_
    refine g_cVi2 h rok0 mi_X7_errorOfUse dX7_errorOfName_140 ml_X7_135 rfl rfl rfl (Nat.le_of_ble_eq_true rfl) (Nat.le_of_ble_eq_true rfl) (sp_X7_use8 hT hz8 hc1 hc4 hc2 hz hk (fun q => ?_) (fun q q2 => ?_) (fun q q2 => ?_))
    · refine g_iret h dX7_errorOfName_143 ?_
      exact h4 q
    · refine g_iret h dX7_errorOfName_143 ?_
      exact h5 q q2
    · refine g_iret h dX7_errorOfName_143 ?_
      exact h0 q q2
set_option maxRecDepth 100000 in
set_option maxHeartbeats 8000000 in
theorem sp_X7_nOrd11 {d N q : Nat} (hq : q < 20) {pl : Int32} (hpl : 0 ≤ pl) {x : Int64} {I : MI} {J : MJ} {P : MP} (hc1 : I 58 1 = nI N) (hc4 : I 58 4 = nI q) (hk : I 10 8 = nI 11) {Q : Int32 → MI → MJ → MP → Prop} (hQ : Q (nI 0) (up2 I 73 q pl) J P) : Sp yX7_errorOfName cX7_errorOfName 5 (some .int) (d + 3) [.ref 10, .ref 58, .int pl, .long x] I J P (Qi Q) := by
  intro Γ h
  show VG Γ 0 0 0 [some (.ref 10), some (.ref 58), some (.int pl), some (.long x), none] [] _ _ _ _
  refine g_aload_0 h dX7_errorOfName_0 ?_
  refine g_getI h fl_X7_42 dX7_errorOfName_1 rfl rfl ?_
  · refine g_ts h 11 129 dX7_errorOfName_4 hk (by decide) (by decide) (by decide : tsO 125 0 9 #[56, 125, 70, 125, 125, 125, 125, 78, 125, 111] 11 = 125) rfl ?_
    refine g_iload_2 h dX7_errorOfName_129 ?_
    refine g_if_ge h 137 dX7_errorOfName_130 rfl (fun _ => ?_) (fun c => absurd hpl c)
    refine g_aload_0 h dX7_errorOfName_137 ?_
    refine g_aload_1 h dX7_errorOfName_138 ?_
    refine g_iload_2 h dX7_errorOfName_139 ?_
    refine g_cVi2 h rok0 mi_X7_errorOfUse dX7_errorOfName_140 ml_X7_135 rfl rfl rfl (Nat.le_of_ble_eq_true rfl) (Nat.le_of_ble_eq_true rfl) (sp_X7_use11 hq hc1 hc4 hk ?_)
    · refine g_iret h dX7_errorOfName_143 ?_
      exact hQ
set_option maxRecDepth 100000 in
set_option maxHeartbeats 8000000 in
theorem sp_X7_nOrd14 {d N q : Nat} (hq : q < 20) {pl : Int32} (hpl : 0 ≤ pl) {x : Int64} {I : MI} {J : MJ} {P : MP} (hc1 : I 58 1 = nI N) (hc4 : I 58 4 = nI q) (hk : I 10 8 = nI 14) {Q : Int32 → MI → MJ → MP → Prop} (hQ : Q (nI 0) (up2 I 73 q pl) J P) : Sp yX7_errorOfName cX7_errorOfName 5 (some .int) (d + 3) [.ref 10, .ref 58, .int pl, .long x] I J P (Qi Q) := by
  intro Γ h
  show VG Γ 0 0 0 [some (.ref 10), some (.ref 58), some (.int pl), some (.long x), none] [] _ _ _ _
  refine g_aload_0 h dX7_errorOfName_0 ?_
  refine g_getI h fl_X7_42 dX7_errorOfName_1 rfl rfl ?_
  · refine g_ts h 14 129 dX7_errorOfName_4 hk (by decide) (by decide) (by decide : tsO 125 0 9 #[56, 125, 70, 125, 125, 125, 125, 78, 125, 111] 14 = 125) rfl ?_
    refine g_iload_2 h dX7_errorOfName_129 ?_
    refine g_if_ge h 137 dX7_errorOfName_130 rfl (fun _ => ?_) (fun c => absurd hpl c)
    refine g_aload_0 h dX7_errorOfName_137 ?_
    refine g_aload_1 h dX7_errorOfName_138 ?_
    refine g_iload_2 h dX7_errorOfName_139 ?_
    refine g_cVi2 h rok0 mi_X7_errorOfUse dX7_errorOfName_140 ml_X7_135 rfl rfl rfl (Nat.le_of_ble_eq_true rfl) (Nat.le_of_ble_eq_true rfl) (sp_X7_use14 hq hc1 hc4 hk ?_)
    · refine g_iret h dX7_errorOfName_143 ?_
      exact hQ
set_option maxRecDepth 100000 in
set_option maxHeartbeats 8000000 in
theorem sp_X7_nBy {d N q : Nat} (hq : q < 20) {pl : Int32} (hpl : 0 ≤ pl) {x : Int64} {I : MI} {J : MJ} {P : MP} (hc1 : I 58 1 = nI N) (hc4 : I 58 4 = nI q) (hk : I 10 8 = nI 12) {Q : Int32 → MI → MJ → MP → Prop} (hQ : Q (nI 0) (up2 I 74 q pl) J P) : Sp yX7_errorOfName cX7_errorOfName 5 (some .int) (d + 3) [.ref 10, .ref 58, .int pl, .long x] I J P (Qi Q) := by
  intro Γ h
  show VG Γ 0 0 0 [some (.ref 10), some (.ref 58), some (.int pl), some (.long x), none] [] _ _ _ _
  refine g_aload_0 h dX7_errorOfName_0 ?_
  refine g_getI h fl_X7_42 dX7_errorOfName_1 rfl rfl ?_
  · refine g_ts h 12 129 dX7_errorOfName_4 hk (by decide) (by decide) (by decide : tsO 125 0 9 #[56, 125, 70, 125, 125, 125, 125, 78, 125, 111] 12 = 125) rfl ?_
    refine g_iload_2 h dX7_errorOfName_129 ?_
    refine g_if_ge h 137 dX7_errorOfName_130 rfl (fun _ => ?_) (fun c => absurd hpl c)
    refine g_aload_0 h dX7_errorOfName_137 ?_
    refine g_aload_1 h dX7_errorOfName_138 ?_
    refine g_iload_2 h dX7_errorOfName_139 ?_
    refine g_cVi2 h rok0 mi_X7_errorOfUse dX7_errorOfName_140 ml_X7_135 rfl rfl rfl (Nat.le_of_ble_eq_true rfl) (Nat.le_of_ble_eq_true rfl) (sp_X7_use12 hq hc1 hc4 hk ?_)
    · refine g_iret h dX7_errorOfName_143 ?_
      exact hQ
set_option maxRecDepth 100000 in
set_option maxHeartbeats 8000000 in
theorem sp_X7_nVal {d N q k : Nat} (kp : k < 49) (k2 : 17 ≤ k ∧ k ≤ 22) {pl : Int32} (hpl : 0 ≤ pl) {x : Int64} {I : MI} {J : MJ} {P : MP} (hc1 : I 58 1 = nI N) (hc4 : I 58 4 = nI q) (hk : I 10 8 = nI k) {Q : Int32 → MI → MJ → MP → Prop} (hQ : Q (nI 0) I J P) : Sp yX7_errorOfName cX7_errorOfName 5 (some .int) (d + 3) [.ref 10, .ref 58, .int pl, .long x] I J P (Qi Q) := by
  intro Γ h
  show VG Γ 0 0 0 [some (.ref 10), some (.ref 58), some (.int pl), some (.long x), none] [] _ _ _ _
  refine g_aload_0 h dX7_errorOfName_0 ?_
  refine g_getI h fl_X7_42 dX7_errorOfName_1 rfl rfl ?_
  · refine g_ts h k 129 dX7_errorOfName_4 hk (by omega) (by decide) ((by decide : ∀ k, k < 49 → (17 ≤ k ∧ k ≤ 22) → tsO 125 0 9 #[56, 125, 70, 125, 125, 125, 125, 78, 125, 111] k = 125) _ kp k2) rfl ?_
    refine g_iload_2 h dX7_errorOfName_129 ?_
    refine g_if_ge h 137 dX7_errorOfName_130 rfl (fun _ => ?_) (fun c => absurd hpl c)
    refine g_aload_0 h dX7_errorOfName_137 ?_
    refine g_aload_1 h dX7_errorOfName_138 ?_
    refine g_iload_2 h dX7_errorOfName_139 ?_
    refine g_cVi2 h rok0 mi_X7_errorOfUse dX7_errorOfName_140 ml_X7_135 rfl rfl rfl (Nat.le_of_ble_eq_true rfl) (Nat.le_of_ble_eq_true rfl) (sp_X7_useD kp k2 hc1 hc4 hk ?_)
    · refine g_iret h dX7_errorOfName_143 ?_
      exact hQ
