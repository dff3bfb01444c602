/-! Tokens: the tape's bytes T up to L -/
def ltB (T : Nat → Nat) (L p : Nat) : Bool := decide (p < L) && (decide (97 ≤ T p) && decide (T p ≤ 122))
def dgB (T : Nat → Nat) (L p : Nat) : Bool := decide (p < L) && (decide (48 ≤ T p) && decide (T p ≤ 57))
def blk (T : Nat → Nat) (L : Nat) : Nat → Nat → Nat
  | 0, p => p
  | f + 1, p => if p < L ∧ (T p = 32 ∨ T p = 10) then blk T L f (p + 1) else p
def wdE (T : Nat → Nat) (L : Nat) : Nat → Nat → Nat
  | 0, p => p
  | f + 1, p => if (ltB T L p || dgB T L p) = true then wdE T L f (p + 1) else p
def nuE (T : Nat → Nat) (L : Nat) : Nat → Nat → Nat
  | 0, p => p
  | f + 1, p => if dgB T L p = true then nuE T L f (p + 1) else p
def sgN (c : Nat) : Nat := if 97 ≤ c then c - 96 else c - 21
def cdW (T : Nat → Nat) : Nat → Nat → Nat → Nat
  | 0, _, a => a
  | f + 1, p, a => cdW T f (p + 1) (a * 37 + sgN (T p))
def cdN (T : Nat → Nat) : Nat → Nat → Nat → Nat
  | 0, _, a => a
  | f + 1, p, a => cdN T f (p + 1) (a * 10 + (T p - 48))
def kwL : List Nat := [236773452, 913652, 173164, 561, 40072202, 660205, 6411565, 27951, 790116, 772429704, 153999, 27718, 99, 56, 37550770, 1176170, 25143802, 41299405, 26801, 21346207, 1257735195, 37963928, 44038517, 19741, 1891, 573, 18144, 17858]
def kwC (k : Nat) : Nat := kwL.getD k 0
def kwI (c : Nat) : Nat → Nat → Nat
  | 0, _ => 28
  | f + 1, i => if kwC i = c then i else kwI c f (i + 1)
abbrev TR : Type := Nat × Nat × Nat
def tkR (T : Nat → Nat) (L p : Nat) : TR :=
  if ¬ p < L then (45, p, 0)
  else if ltB T L p = true then (if 10 < wdE T L 2000 p - p then 46 else kwI (cdW T (wdE T L 2000 p - p) p 0) 28 0, wdE T L 2000 p, cdW T (wdE T L 2000 p - p) p 0)
  else if dgB T L p = true then (if 6 < nuE T L 2000 p - p then 46 else 29, nuE T L 2000 p, cdN T (nuE T L 2000 p - p) p 0)
  else if (T p = 60 ∨ T p = 62) ∧ p + 1 < L ∧ T (p + 1) = 61 then (if T p = 60 then 43 else 44, p + 2, 0)
  else (symK (T p), p + 1, 0)
def bhT (T : Nat → Nat) (L : Nat) : Nat → Nat
  | 0 => 0
  | n + 1 => (tkR T L (blk T L 2000 (bhT T L n))).2.1
def tB (T : Nat → Nat) (L n : Nat) : Nat := blk T L 2000 (bhT T L n)
def tK (T : Nat → Nat) (L n : Nat) : Nat := if n = 400 ∧ ¬ (tkR T L (tB T L n)).1 = 45 then 46 else (tkR T L (tB T L n)).1
def tC (T : Nat → Nat) (L n : Nat) : Nat := (tkR T L (tB T L n)).2.2
def fsM (T : Nat → Nat) (L : Nat) : Nat → Nat → Nat
  | 0, n => n
  | f + 1, n => if 45 ≤ tK T L n then n else fsM T L f (n + 1)
def tM (T : Nat → Nat) (L : Nat) : Nat := fsM T L 400 0
theorem blk_B {T : Nat → Nat} {L : Nat} : ∀ f p, p ≤ L → p ≤ blk T L f p ∧ blk T L f p ≤ L := by
  intro f
  induction f with
  | zero => exact fun p hp => ⟨Nat.le_refl _, hp⟩
  | succ f ih =>
    intro p hp
    rw [blk]
    by_cases h : p < L ∧ (T p = 32 ∨ T p = 10)
    · rw [if_pos h]
      obtain ⟨a, b⟩ := ih (p + 1) (by omega)
      exact ⟨by omega, b⟩
    · rw [if_neg h]
      exact ⟨Nat.le_refl _, hp⟩
theorem ltB_lt {T : Nat → Nat} {L p : Nat} (h : ltB T L p = true) : p < L ∧ 97 ≤ T p ∧ T p ≤ 122 := by simpa [ltB] using h
theorem dgB_lt {T : Nat → Nat} {L p : Nat} (h : dgB T L p = true) : p < L ∧ 48 ≤ T p ∧ T p ≤ 57 := by simpa [dgB] using h
theorem wdE_B {T : Nat → Nat} {L : Nat} : ∀ f p, p ≤ L → p ≤ wdE T L f p ∧ wdE T L f p ≤ L := by
  intro f
  induction f with
  | zero => exact fun p hp => ⟨Nat.le_refl _, hp⟩
  | succ f ih =>
    intro p hp
    rw [wdE]
    by_cases h : (ltB T L p || dgB T L p) = true
    · have : p < L := by
        rcases Bool.or_eq_true_iff.mp h with q | q
        · exact (ltB_lt q).1
        · exact (dgB_lt q).1
      rw [if_pos h]
      obtain ⟨a, b⟩ := ih (p + 1) (by omega)
      exact ⟨by omega, b⟩
    · rw [if_neg h]
      exact ⟨Nat.le_refl _, hp⟩
theorem nuE_B {T : Nat → Nat} {L : Nat} : ∀ f p, p ≤ L → p ≤ nuE T L f p ∧ nuE T L f p ≤ L := by
  intro f
  induction f with
  | zero => exact fun p hp => ⟨Nat.le_refl _, hp⟩
  | succ f ih =>
    intro p hp
    rw [nuE]
    by_cases h : dgB T L p = true
    · have := (dgB_lt h).1
      rw [if_pos h]
      obtain ⟨a, b⟩ := ih (p + 1) (by omega)
      exact ⟨by omega, b⟩
    · rw [if_neg h]
      exact ⟨Nat.le_refl _, hp⟩
theorem kwI_lt (c : Nat) : ∀ f i, i + f = 28 → kwI c f i < 29 := by
  intro f
  induction f with
  | zero => exact fun i _ => by rw [kwI]; decide
  | succ f ih =>
    intro i hi
    rw [kwI]
    by_cases h : kwC i = c
    · rw [if_pos h]; omega
    · rw [if_neg h]; exact ih (i + 1) (by omega)
theorem tkR_B {T : Nat → Nat} {L p : Nat} (hp : p ≤ L) : p ≤ (tkR T L p).2.1 ∧ (tkR T L p).2.1 ≤ L ∧ (tkR T L p).1 < 47 := by
  unfold tkR
  by_cases h1 : ¬ p < L
  · rw [if_pos h1]
    exact ⟨Nat.le_refl _, hp, (by decide : 45 < 47)⟩
  rw [if_neg h1]
  by_cases h2 : ltB T L p = true
  · rw [if_pos h2]
    refine ⟨(wdE_B 2000 p hp).1, (wdE_B 2000 p hp).2, ?_⟩
    have := kwI_lt (cdW T (wdE T L 2000 p - p) p 0) 28 0 rfl
    show (if 10 < wdE T L 2000 p - p then 46 else kwI (cdW T (wdE T L 2000 p - p) p 0) 28 0) < 47
    split <;> omega
  rw [if_neg h2]
  by_cases h3 : dgB T L p = true
  · rw [if_pos h3]
    refine ⟨(nuE_B 2000 p hp).1, (nuE_B 2000 p hp).2, ?_⟩
    show (if 6 < nuE T L 2000 p - p then 46 else 29) < 47
    split <;> omega
  rw [if_neg h3]
  by_cases h4 : (T p = 60 ∨ T p = 62) ∧ p + 1 < L ∧ T (p + 1) = 61
  · rw [if_pos h4]
    have := h4.2.1
    refine ⟨by show p ≤ p + 2; omega, by show p + 2 ≤ L; omega, ?_⟩
    show (if T p = 60 then 43 else 44) < 47
    split <;> omega
  rw [if_neg h4]
  exact ⟨by show p ≤ p + 1; omega, by show p + 1 ≤ L; omega, (symK_lt _).2⟩
theorem bhT_B {T : Nat → Nat} {L : Nat} : ∀ n, bhT T L n ≤ L := by
  intro n
  induction n with
  | zero => exact Nat.zero_le _
  | succ n ih => exact (tkR_B (blk_B 2000 _ ih).2).2.1
theorem tB_B {T : Nat → Nat} {L : Nat} (n : Nat) : tB T L n ≤ L := (blk_B 2000 _ (bhT_B n)).2
theorem tK_lt {T : Nat → Nat} {L : Nat} (n : Nat) : tK T L n < 47 := by
  unfold tK
  have := (tkR_B (T := T) (tB_B (T := T) (L := L) n)).2.2
  split <;> omega
theorem fsM_ok {T : Nat → Nat} {L : Nat} : ∀ f n, n + f = 400 → (∀ j, j < n → tK T L j < 45) → 45 ≤ tK T L (fsM T L f n) ∧ fsM T L f n ≤ 400 ∧ ∀ j, j < fsM T L f n → tK T L j < 45 := by
  intro f
  induction f with
  | zero =>
    intro n hn hj
    obtain rfl : n = 400 := by omega
    refine ⟨?_, Nat.le_refl _, hj⟩
    rw [fsM, tK]
    split
    · decide
    · rename_i h
      have : (tkR T L (tB T L 400)).1 = 45 := Classical.not_not.mp (fun q => h ⟨rfl, q⟩)
      omega
  | succ f ih =>
    intro n hn hj
    rw [fsM]
    by_cases h : 45 ≤ tK T L n
    · rw [if_pos h]
      exact ⟨h, by omega, hj⟩
    · rw [if_neg h]
      exact ih (n + 1) (by omega) (fun j hj' => by
        rcases Nat.lt_or_ge j n with q | q
        · exact hj j q
        · obtain rfl : j = n := by omega
          omega)
theorem tM_ok {T : Nat → Nat} {L : Nat} : 45 ≤ tK T L (tM T L) ∧ tM T L ≤ 400 ∧ ∀ j, j < tM T L → tK T L j < 45 := fsM_ok 400 0 rfl (fun j h => absurd h (Nat.not_lt_zero j))
/-! the class's tape -/
def tpO (T : Nat → Nat) (L : Nat) (I : MI) : Prop := I 1 1 = nI L ∧ L ≤ 2000 ∧ ∀ j, j < L → I 2 j = (nI (T j)).toInt8.toInt32 ∧ T j < 256
def sgT (T : Nat → Nat) (L p : Nat) : Int32 := if p < L then nI (T p) else -1
set_option maxRecDepth 100000 in
set_option maxHeartbeats 8000000 in
theorem sp_X6_length {d : Nat} {I : MI} {J : MJ} {P : MP} {Q : Int32 → MI → MJ → MP → Prop} (hQ : Q (I 1 1) I J P) : Sp yX6_length cX6_length 1 (some .int) (d) [.ref 1] I J P (Qi Q) := by
  intro Γ h
  show VG Γ 0 0 0 [some (.ref 1)] [] _ _ _ _
  refine g_aload_0 h dX6_length_0 ?_
  refine g_getI h fl_X6_13 dX6_length_1 rfl rfl ?_
  refine g_iret h dX6_length_4 ?_
  exact hQ
set_option maxRecDepth 100000 in
set_option maxHeartbeats 8000000 in
theorem sp_X6_cut {d : Nat} {n : Int32} {I : MI} {J : MJ} {P : MP} {Q : MI → MJ → MP → Prop} (hQ : Q (up2 I 1 1 n) J P) : Sp yX6_cut cX6_cut 2 none (d) [.ref 1, .int n] I J P (Qv Q) := by
  intro Γ h
  show VG Γ 0 0 0 [some (.ref 1), some (.int n)] [] _ _ _ _
  refine g_aload_0 h dX6_cut_0 ?_
  refine g_iload_1 h dX6_cut_1 ?_
  refine g_putI h fp_X6_13 dX6_cut_2 rfl rfl ?_
  refine g_vret h dX6_cut_5 ?_
  exact hQ
set_option maxRecDepth 100000 in
set_option maxHeartbeats 8000000 in
theorem sp_X6_signAt {T : Nat → Nat} {L : Nat} {d p : Nat} (hp : p < 2 ^ 31) {I : MI} {J : MJ} {P : MP} (hT : tpO T L I) {Q : Int32 → MI → MJ → MP → Prop} (hQ : Q (sgT T L p) I J P) : Sp yX6_signAt cX6_signAt 2 (some .int) (d) [.ref 1, .int (nI p)] I J P (Qi Q) := by
  intro Γ h
  show VG Γ 0 0 0 [some (.ref 1), some (.int (nI p))] [] _ _ _ _
  obtain ⟨t1, t2, t3⟩ := hT
  refine g_iload_1 h dX6_signAt_0 ?_
  refine g_if_lt h 12 dX6_signAt_1 rfl (fun c => absurd c (nI_pos (by omega))) (fun _ => ?_)
  refine g_iload_1 h dX6_signAt_4 ?_
  refine g_aload_0 h dX6_signAt_5 ?_
  refine g_getI h fl_X6_13 dX6_signAt_6 rfl rfl ?_
  refine g_icmp_lt h 16 dX6_signAt_9 rfl (fun c9 => ?_) (fun c9 => ?_)
  · have hl : p < L := ltN (by rw [← t1]; exact c9) (by omega) (by omega)
    refine g_aload_0 h dX6_signAt_16 ?_
    refine g_getC h fl_X6_9 dX6_signAt_17 rfl rfl ?_
    refine g_iload_1 h dX6_signAt_20 ?_
    refine g_bald h p dX6_signAt_21 rfl rfl (by omega) ?_
    refine g_sipush h dX6_signAt_22 (v := nI 255) rfl ?_
    refine g_iand h dX6_signAt_25 ?_
    refine g_iret h dX6_signAt_26 ?_
    first
      | (have hl : p < L := ltN (by rw [← t1]; exact c9) (by omega) (by omega)
         refine q_i ?_ hQ
         rw [(t3 p hl).1, sgT, if_pos hl]
         exact sc_k8 _ (t3 p hl).2)
      | (have hl : ¬ p < L := fun q => c9 (by rw [t1]; exact nI_lt q (by omega))
         refine q_i ?_ hQ
         rw [sgT, if_neg hl])
  · refine g_iconst h dX6_signAt_12 (v := (-1)) rfl ?_
    refine g_goto h 26 dX6_signAt_13 rfl ?_
    refine g_iret h dX6_signAt_26 ?_
    first
      | (have hl : p < L := ltN (by rw [← t1]; exact c9) (by omega) (by omega)
         refine q_i ?_ hQ
         rw [(t3 p hl).1, sgT, if_pos hl]
         exact sc_k8 _ (t3 p hl).2)
      | (have hl : ¬ p < L := fun q => c9 (by rw [t1]; exact nI_lt q (by omega))
         refine q_i ?_ hQ
         rw [sgT, if_neg hl])
set_option maxRecDepth 100000 in
set_option maxHeartbeats 8000000 in
theorem lp_X6_behindBlanks {Γ : Cx} {T : Nat → Nat} {L : Nat} {d p0 : Nat} {I : MI} {J : MJ} {P : MP} (hT : tpO T L I) {Q : Int32 → MI → MJ → MP → Prop} (h : Vc RX6 cX6_behindBlanks 3 (some .int) (d + 1) Γ) : ∀ (f p : Nat), p ≤ L → 2000 ≤ p + f → Q (nI (blk T L f p)) I J P → VG Γ 0 0 2 [some (.ref 1), some (.int (nI p0)), some (.int (nI p))] [] I J P (Fnl Γ (Qi Q)) := by
  obtain ⟨t1, t2, t3⟩ := id hT
  intro f
  induction f with
  | zero =>
    intro p hp hf hQ
    refine g_iload_2 h dX6_behindBlanks_2 ?_
    refine g_aload_0 h dX6_behindBlanks_3 ?_
    refine g_getI h fl_X6_13 dX6_behindBlanks_4 rfl rfl ?_
    refine g_icmp_ge h 36 dX6_behindBlanks_7 rfl (fun _ => ?_) (fun c => absurd (by rw [t1]; exact nI_le (by omega) (by omega)) c)
    refine g_iload_2 h dX6_behindBlanks_36 ?_
    refine g_iret h dX6_behindBlanks_37 ?_
    exact hQ
  | succ f ih =>
    intro p hp hf hQ
    rw [blk] at hQ
    refine g_iload_2 h dX6_behindBlanks_2 ?_
    refine g_aload_0 h dX6_behindBlanks_3 ?_
    refine g_getI h fl_X6_13 dX6_behindBlanks_4 rfl rfl ?_
    refine g_icmp_ge h 36 dX6_behindBlanks_7 rfl (fun c7 => ?_) (fun c7 => ?_)
    · refine g_iload_2 h dX6_behindBlanks_36 ?_
      refine g_iret h dX6_behindBlanks_37 ?_
      first
        | (rw [if_neg (fun q => absurd (by rw [t1]; exact nI_lt q.1 (by omega)) (Int32.not_lt.mpr c7))] at hQ
           exact hQ)
        | (rw [if_neg (fun q => q.2.elim (fun r => c17 (by rw [es, r])) (fun r => c27 (by rw [es, r])))] at hQ
           exact hQ)
    · have hl : p < L := ltN (by rw [← t1]; exact Int32.not_le.mp c7) (by omega) (by omega)
      have es : sgT T L p = nI (T p) := if_pos hl
      have t4 := (t3 p hl).2
      refine g_aload_0 h dX6_behindBlanks_10 ?_
      refine g_iload_2 h dX6_behindBlanks_11 ?_
      refine g_cVi1 h rok0 mi_X6_signAt dX6_behindBlanks_12 ml_X6_17 rfl rfl rfl (Nat.le_of_ble_eq_true rfl) (Nat.le_of_ble_eq_true rfl) (sp_X6_signAt (by omega) hT ?_)
      refine g_bipush h dX6_behindBlanks_15 (v := nI 32) rfl ?_
      refine g_icmp_eq h 30 dX6_behindBlanks_17 rfl (fun c17 => ?_) (fun c17 => ?_)
      · refine g_iinc_2 h dX6_behindBlanks_30 (inc1 _) (by decide) rfl ?_
        refine g_goto h 2 dX6_behindBlanks_33 rfl ?_
        have eb : T p = 32 ∨ T p = 10 := by
          first
            | exact Or.inl (eqN (by rw [← es]; exact c17) (by omega) (by decide))
            | exact Or.inr (eqN (by rw [← es]; first | exact c27 | exact Classical.not_not.mp c27) (by omega) (by decide))
        rw [if_pos ⟨hl, eb⟩] at hQ
        exact ih (p + 1) hl (by omega) hQ
      · refine g_aload_0 h dX6_behindBlanks_20 ?_
        refine g_iload_2 h dX6_behindBlanks_21 ?_
        refine g_cVi1 h rok0 mi_X6_signAt dX6_behindBlanks_22 ml_X6_17 rfl rfl rfl (Nat.le_of_ble_eq_true rfl) (Nat.le_of_ble_eq_true rfl) (sp_X6_signAt (by omega) hT ?_)
        refine g_bipush h dX6_behindBlanks_25 (v := nI 10) rfl ?_
        refine g_icmp_ne h 36 dX6_behindBlanks_27 rfl (fun c27 => ?_) (fun c27 => ?_)
        · refine g_iload_2 h dX6_behindBlanks_36 ?_
          refine g_iret h dX6_behindBlanks_37 ?_
          first
            | (rw [if_neg (fun q => absurd (by rw [t1]; exact nI_lt q.1 (by omega)) (Int32.not_lt.mpr c7))] at hQ
               exact hQ)
            | (rw [if_neg (fun q => q.2.elim (fun r => c17 (by rw [es, r])) (fun r => c27 (by rw [es, r])))] at hQ
               exact hQ)
        · refine g_iinc_2 h dX6_behindBlanks_30 (inc1 _) (by decide) rfl ?_
          refine g_goto h 2 dX6_behindBlanks_33 rfl ?_
          have eb : T p = 32 ∨ T p = 10 := by
            first
              | exact Or.inl (eqN (by rw [← es]; exact c17) (by omega) (by decide))
              | exact Or.inr (eqN (by rw [← es]; first | exact c27 | exact Classical.not_not.mp c27) (by omega) (by decide))
          rw [if_pos ⟨hl, eb⟩] at hQ
          exact ih (p + 1) hl (by omega) hQ
set_option maxRecDepth 100000 in
set_option maxHeartbeats 8000000 in
theorem sp_X6_behindBlanks {T : Nat → Nat} {L : Nat} {d p : Nat} (hp : p ≤ L) {I : MI} {J : MJ} {P : MP} (hT : tpO T L I) {Q : Int32 → MI → MJ → MP → Prop} (hQ : Q (nI (blk T L 2000 p)) I J P) : Sp yX6_behindBlanks cX6_behindBlanks 3 (some .int) (d + 1) [.ref 1, .int (nI p)] I J P (Qi Q) := by
  intro Γ h
  show VG Γ 0 0 0 [some (.ref 1), some (.int (nI p)), none] [] _ _ _ _
  refine g_iload_1 h dX6_behindBlanks_0 ?_
  refine g_istore_2 h dX6_behindBlanks_1 (by decide) rfl ?_
  exact lp_X6_behindBlanks hT h 2000 p hp (by omega) hQ
def isLx (x : Int32) : Bool := decide (nI 97 ≤ x) && decide (x ≤ nI 122)
def isDx (x : Int32) : Bool := decide (nI 48 ≤ x) && decide (x ≤ nI 57)
theorem dec_i {a b : Nat} (ha : a < 2 ^ 31) (hb : b < 2 ^ 31) : decide (nI a ≤ nI b) = decide (a ≤ b) := by
  by_cases h : a ≤ b
  · rw [decide_eq_true h, decide_eq_true (nI_le h hb)]
  · rw [decide_eq_false h, decide_eq_false (fun q => h (leN q ha hb))]
theorem isLx_s {T : Nat → Nat} {L p : Nat} (h : p < L → T p < 256) : isLx (sgT T L p) = ltB T L p := by
  unfold isLx sgT ltB
  by_cases hl : p < L
  · have := h hl
    rw [if_pos hl, dec_i (by decide) (by omega), dec_i (by omega) (by decide), decide_eq_true hl, Bool.true_and]
  · rw [if_neg hl, decide_eq_false hl, Bool.false_and]
    decide
theorem isDx_s {T : Nat → Nat} {L p : Nat} (h : p < L → T p < 256) : isDx (sgT T L p) = dgB T L p := by
  unfold isDx sgT dgB
  by_cases hl : p < L
  · have := h hl
    rw [if_pos hl, dec_i (by decide) (by omega), dec_i (by omega) (by decide), decide_eq_true hl, Bool.true_and]
  · rw [if_neg hl, decide_eq_false hl, Bool.false_and]
    decide
set_option maxRecDepth 100000 in
set_option maxHeartbeats 8000000 in
theorem sp_X8_isLetter {d : Nat} {x : Int32} {I : MI} {J : MJ} {P : MP} {Q : Int32 → MI → MJ → MP → Prop} (hQ : Q (b2i (isLx x)) I J P) : Sp yX8_isLetter cX8_isLetter 1 (some .boolean) (d) [.int x] I J P (Qi Q) := by
  intro Γ h
  show VG Γ 0 0 0 [some (.int x)] [] _ _ _ _
  refine g_iload_0 h dX8_isLetter_0 ?_
  refine g_bipush h dX8_isLetter_1 (v := nI 97) rfl ?_
  refine g_icmp_lt h 16 dX8_isLetter_3 rfl (fun c3 => ?_) (fun c3 => ?_)
  · refine g_iconst h dX8_isLetter_16 (v := nI 0) rfl ?_
    refine g_zret h dX8_isLetter_17 rfl ?_
    first
      | exact q_i (by rw [isLx, decide_eq_false (Int32.not_le.mpr c3)]; rfl) hQ
      | exact q_i (by rw [isLx, decide_eq_true (Int32.not_lt.mp c3), decide_eq_false (Int32.not_le.mpr c9)]; rfl) hQ
      | exact q_i (by rw [isLx, decide_eq_true (Int32.not_lt.mp c3), decide_eq_true (Int32.not_lt.mp c9)]; rfl) hQ
  · refine g_iload_0 h dX8_isLetter_6 ?_
    refine g_bipush h dX8_isLetter_7 (v := nI 122) rfl ?_
    refine g_icmp_gt h 16 dX8_isLetter_9 rfl (fun c9 => ?_) (fun c9 => ?_)
    · refine g_iconst h dX8_isLetter_16 (v := nI 0) rfl ?_
      refine g_zret h dX8_isLetter_17 rfl ?_
      first
        | exact q_i (by rw [isLx, decide_eq_false (Int32.not_le.mpr c3)]; rfl) hQ
        | exact q_i (by rw [isLx, decide_eq_true (Int32.not_lt.mp c3), decide_eq_false (Int32.not_le.mpr c9)]; rfl) hQ
        | exact q_i (by rw [isLx, decide_eq_true (Int32.not_lt.mp c3), decide_eq_true (Int32.not_lt.mp c9)]; rfl) hQ
    · refine g_iconst h dX8_isLetter_12 (v := nI 1) rfl ?_
      refine g_goto h 17 dX8_isLetter_13 rfl ?_
      refine g_zret h dX8_isLetter_17 rfl ?_
      first
        | exact q_i (by rw [isLx, decide_eq_false (Int32.not_le.mpr c3)]; rfl) hQ
        | exact q_i (by rw [isLx, decide_eq_true (Int32.not_lt.mp c3), decide_eq_false (Int32.not_le.mpr c9)]; rfl) hQ
        | exact q_i (by rw [isLx, decide_eq_true (Int32.not_lt.mp c3), decide_eq_true (Int32.not_lt.mp c9)]; rfl) hQ
set_option maxRecDepth 100000 in
set_option maxHeartbeats 8000000 in
theorem sp_X8_isDigit {d : Nat} {x : Int32} {I : MI} {J : MJ} {P : MP} {Q : Int32 → MI → MJ → MP → Prop} (hQ : Q (b2i (isDx x)) I J P) : Sp yX8_isDigit cX8_isDigit 1 (some .boolean) (d) [.int x] I J P (Qi Q) := by
  intro Γ h
  show VG Γ 0 0 0 [some (.int x)] [] _ _ _ _
  refine g_iload_0 h dX8_isDigit_0 ?_
  refine g_bipush h dX8_isDigit_1 (v := nI 48) rfl ?_
  refine g_icmp_lt h 16 dX8_isDigit_3 rfl (fun c3 => ?_) (fun c3 => ?_)
  · refine g_iconst h dX8_isDigit_16 (v := nI 0) rfl ?_
    refine g_zret h dX8_isDigit_17 rfl ?_
    first
      | exact q_i (by rw [isDx, decide_eq_false (Int32.not_le.mpr c3)]; rfl) hQ
      | exact q_i (by rw [isDx, decide_eq_true (Int32.not_lt.mp c3), decide_eq_false (Int32.not_le.mpr c9)]; rfl) hQ
      | exact q_i (by rw [isDx, decide_eq_true (Int32.not_lt.mp c3), decide_eq_true (Int32.not_lt.mp c9)]; rfl) hQ
  · refine g_iload_0 h dX8_isDigit_6 ?_
    refine g_bipush h dX8_isDigit_7 (v := nI 57) rfl ?_
    refine g_icmp_gt h 16 dX8_isDigit_9 rfl (fun c9 => ?_) (fun c9 => ?_)
    · refine g_iconst h dX8_isDigit_16 (v := nI 0) rfl ?_
      refine g_zret h dX8_isDigit_17 rfl ?_
      first
        | exact q_i (by rw [isDx, decide_eq_false (Int32.not_le.mpr c3)]; rfl) hQ
        | exact q_i (by rw [isDx, decide_eq_true (Int32.not_lt.mp c3), decide_eq_false (Int32.not_le.mpr c9)]; rfl) hQ
        | exact q_i (by rw [isDx, decide_eq_true (Int32.not_lt.mp c3), decide_eq_true (Int32.not_lt.mp c9)]; rfl) hQ
    · refine g_iconst h dX8_isDigit_12 (v := nI 1) rfl ?_
      refine g_goto h 17 dX8_isDigit_13 rfl ?_
      refine g_zret h dX8_isDigit_17 rfl ?_
      first
        | exact q_i (by rw [isDx, decide_eq_false (Int32.not_le.mpr c3)]; rfl) hQ
        | exact q_i (by rw [isDx, decide_eq_true (Int32.not_lt.mp c3), decide_eq_false (Int32.not_le.mpr c9)]; rfl) hQ
        | exact q_i (by rw [isDx, decide_eq_true (Int32.not_lt.mp c3), decide_eq_true (Int32.not_lt.mp c9)]; rfl) hQ
set_option maxRecDepth 100000 in
set_option maxHeartbeats 8000000 in
theorem sp_X8_numberOfSign {d c : Nat} (hc1 : 48 ≤ c) (hc2 : c ≤ 122) {I : MI} {J : MJ} {P : MP} {Q : Int32 → MI → MJ → MP → Prop} (hQ : Q (nI (sgN c)) I J P) : Sp yX8_numberOfSign cX8_numberOfSign 1 (some .int) (d + 1) [.int (nI c)] I J P (Qi Q) := by
  intro Γ h
  show VG Γ 0 0 0 [some (.int (nI c))] [] _ _ _ _
  refine g_iload_0 h dX8_numberOfSign_0 ?_
  refine g_cSi1 h rok0 mi_X8_isLetter dX8_numberOfSign_1 ml_X8_66 (Nat.le_of_ble_eq_true rfl) (Nat.le_of_ble_eq_true rfl) (sp_X8_isLetter ?_)
  refine g_if_eq h 16 dX8_numberOfSign_4 rfl (fun c4 => ?_) (fun c4 => ?_)
  · refine g_iload_0 h dX8_numberOfSign_16 ?_
    refine g_bipush h dX8_numberOfSign_17 (v := nI 48) rfl ?_
    refine g_isub h dX8_numberOfSign_19 ?_
    refine g_bipush h dX8_numberOfSign_20 (v := nI 27) rfl ?_
    refine g_iadd h dX8_numberOfSign_22 ?_
    refine g_iret h dX8_numberOfSign_23 ?_
    first
      | (have q1 : isLx (nI c) = true := b2i_n0.mp c4
         have q2 : 97 ≤ c := by
           have q3 := (Bool.and_eq_true_iff.mp q1).1
           exact leN (of_decide_eq_true q3) (by decide) (by omega)
         refine q_i ?_ hQ
         rw [pk_sub q2, nI_add, sgN, if_pos q2]
         exact congrArg nI (by omega))
      | (have q1 : isLx (nI c) = false := b2i_0.mp c4
         have q2 : ¬ 97 ≤ c := fun q => by
           rw [isLx, decide_eq_true (nI_le q (by omega)), decide_eq_true (nI_le hc2 (by decide))] at q1
           exact Bool.noConfusion q1
         refine q_i ?_ hQ
         rw [pk_sub hc1, nI_add, sgN, if_neg q2]
         exact congrArg nI (by omega))
  · refine g_iload_0 h dX8_numberOfSign_7 ?_
    refine g_bipush h dX8_numberOfSign_8 (v := nI 97) rfl ?_
    refine g_isub h dX8_numberOfSign_10 ?_
    refine g_iconst h dX8_numberOfSign_11 (v := nI 1) rfl ?_
    refine g_iadd h dX8_numberOfSign_12 ?_
    refine g_goto h 23 dX8_numberOfSign_13 rfl ?_
    refine g_iret h dX8_numberOfSign_23 ?_
    first
      | (have q1 : isLx (nI c) = true := b2i_n0.mp c4
         have q2 : 97 ≤ c := by
           have q3 := (Bool.and_eq_true_iff.mp q1).1
           exact leN (of_decide_eq_true q3) (by decide) (by omega)
         refine q_i ?_ hQ
         rw [pk_sub q2, nI_add, sgN, if_pos q2]
         exact congrArg nI (by omega))
      | (have q1 : isLx (nI c) = false := b2i_0.mp c4
         have q2 : ¬ 97 ≤ c := fun q => by
           rw [isLx, decide_eq_true (nI_le q (by omega)), decide_eq_true (nI_le hc2 (by decide))] at q1
           exact Bool.noConfusion q1
         refine q_i ?_ hQ
         rw [pk_sub hc1, nI_add, sgN, if_neg q2]
         exact congrArg nI (by omega))
/-- what only tokens' two fields differ in -/
def tkF (I I' : MI) : Prop := ∀ a j, (a ≠ 3 ∨ j ≠ 6) → I' a j = I a j
def tkG (J J' : MJ) : Prop := ∀ a j, (a ≠ 3 ∨ j ≠ 5) → J' a j = J a j
theorem tkF.up {I I' : MI} {v : Int32} (h : tkF I I') : tkF I (up2 I' 3 6 v) := fun a j hj => by
  rw [show up2 I' 3 6 v a j = I' a j by unfold up2; by_cases e : a = 3 <;> simp [e] at hj ⊢; exact fun q => absurd q hj]
  exact h a j hj
theorem tkG.up {J J' : MJ} {v : Int64} (h : tkG J J') : tkG J (up2 J' 3 5 v) := fun a j hj => by
  rw [show up2 J' 3 5 v a j = J' a j by unfold up2; by_cases e : a = 3 <;> simp [e] at hj ⊢; exact fun q => absurd q hj]
  exact h a j hj
theorem tkF.rf {I : MI} : tkF I I := fun _ _ _ => rfl
theorem tkG.rf {J : MJ} : tkG J J := fun _ _ _ => rfl
theorem tkF.tp {T : Nat → Nat} {L : Nat} {I I' : MI} (h : tkF I I') (k : tpO T L I) : tpO T L I' := ⟨(h 1 1 (Or.inl (by decide))).trans k.1, k.2.1, fun j hj => ⟨(h 2 j (Or.inl (by decide))).trans (k.2.2 j hj).1, (k.2.2 j hj).2⟩⟩
theorem l_add (a b : Nat) : lN a + lN b = lN (a + b) := (Int64.ofNat_add a b).symm
theorem l_mul (a b : Nat) : lN a * lN b = lN (a * b) := (Int64.ofNat_mul a b).symm
def kwO (J : MJ) : Prop := ∀ i, i < 28 → J 7 i = lN (kwC i)
theorem kwC_lt : ∀ i, i < 28 → kwC i < 2 ^ 63 := by decide +kernel
theorem cdW_s (T : Nat → Nat) : ∀ (f p a : Nat), cdW T (f + 1) p a = cdW T f p a * 37 + sgN (T (p + f)) := by
  intro f
  induction f with
  | zero => intro p a; rfl
  | succ f ih =>
    intro p a
    rw [cdW, ih, show p + 1 + f = p + (f + 1) by omega]
    rfl
theorem cdN_s (T : Nat → Nat) : ∀ (f p a : Nat), cdN T (f + 1) p a = cdN T f p a * 10 + (T (p + f) - 48) := by
  intro f
  induction f with
  | zero => intro p a; rfl
  | succ f ih =>
    intro p a
    rw [cdN, ih, show p + 1 + f = p + (f + 1) by omega]
    rfl
theorem sgN_lt {c : Nat} (h : c ≤ 122) : sgN c < 37 ∨ ¬ (97 ≤ c ∨ c ≤ 57) := by unfold sgN; split <;> omega
theorem cdW_lt (T : Nat → Nat) : ∀ (f p : Nat), (∀ j, j < f → sgN (T (p + j)) < 37) → cdW T f p 0 < 37 ^ f := by
  intro f
  induction f with
  | zero => intro p _; exact (show 0 < 37 ^ 0 by decide)
  | succ f ih =>
    intro p h
    rw [cdW_s, Nat.pow_succ]
    have h1 := ih p (fun j hj => h j (by omega))
    have h2 := h f (by omega)
    omega
theorem lN_inj {a b : Nat} (ha : a < 2 ^ 63) (hb : b < 2 ^ 63) (h : lN a = lN b) : a = b := by
  have e : (lN a).toInt = (lN b).toInt := by rw [h]
  rw [show lN a = Int64.ofNat a from rfl, show lN b = Int64.ofNat b from rfl, Int64.toInt_ofNat_of_lt ha, Int64.toInt_ofNat_of_lt hb] at e
  omega
theorem cmp_eq {x y : Int64} : lg_cmp x y = 0 ↔ x = y := by
  unfold lg_cmp
  by_cases h1 : x > y
  · rw [if_pos h1]
    exact ⟨fun q => absurd q (by decide), fun q => absurd (q ▸ h1) (Int64.lt_irrefl)⟩
  · rw [if_neg h1]
    by_cases h2 : x = y
    · rw [if_pos h2]
      exact ⟨fun _ => h2, fun _ => rfl⟩
    · rw [if_neg h2]
      exact ⟨fun q => absurd q (by decide), fun q => absurd q h2⟩
theorem wd_run {T : Nat → Nat} {L : Nat} : ∀ f p j, p ≤ j → j < wdE T L f p → (ltB T L j || dgB T L j) = true := by
  intro f
  induction f with
  | zero => intro p j h1 h2; exact absurd h2 (by show ¬ j < p; omega)
  | succ f ih =>
    intro p j h1 h2
    rw [wdE] at h2
    by_cases h : (ltB T L p || dgB T L p) = true
    · rw [if_pos h] at h2
      rcases Nat.lt_or_ge p j with q | q
      · exact ih (p + 1) j q h2
      · obtain rfl : j = p := by omega
        exact h
    · rw [if_neg h] at h2
      omega
theorem nu_run {T : Nat → Nat} {L : Nat} : ∀ f p j, p ≤ j → j < nuE T L f p → dgB T L j = true := by
  intro f
  induction f with
  | zero => intro p j h1 h2; exact absurd h2 (by show ¬ j < p; omega)
  | succ f ih =>
    intro p j h1 h2
    rw [nuE] at h2
    by_cases h : dgB T L p = true
    · rw [if_pos h] at h2
      rcases Nat.lt_or_ge p j with q | q
      · exact ih (p + 1) j q h2
      · obtain rfl : j = p := by omega
        exact h
    · rw [if_neg h] at h2
      omega
theorem sgN_run {T : Nat → Nat} {L j : Nat} (h : (ltB T L j || dgB T L j) = true) : sgN (T j) < 37 ∧ 0 < sgN (T j) := by
  unfold sgN
  rcases Bool.or_eq_true_iff.mp h with q | q
  · have := ltB_lt q
    split <;> omega
  · have := dgB_lt q
    split <;> omega
