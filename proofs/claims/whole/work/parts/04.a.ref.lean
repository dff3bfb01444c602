/-! The reference: reading -/
theorem shpR {r : Nat} (hr : r = 91 ∨ r = 92) : shp r = .inr (0, 35) := by rcases hr with rfl | rfl <;> rfl
def dgF : Nat → Int32 → Int32 → Int32
  | 0, a, _ => a
  | f + 1, a, x => if x ≤ 0 then a else dgF f (a + rem10 x) (x / nI 10)
def dgs (x : Int32) : Int32 := dgF 10 (nI 0) x
def knR (x : Int32) : Int32 := dgs (x / nI 10) + (if rem10 x ≤ 0 then nI 0 else nI 1)
def tuR (x : Int32) : Int32 := dgs (x / nI 10) + (if rem10 x = nI 1 then nI 2 else rem10 x)
def smR (u v : Nat → Int32) (N : Nat) : Nat → Nat → Int32
  | 0, _ => nI 0
  | f + 1, c => sumF (fun k => if u k = nI c then smR u v N f k else nI 0) N 0 (v c)
def tal (u : Nat → Int32) (N : Nat) : Nat → Nat → Prop
  | 0, _ => False
  | f + 1, c => ∀ k, k < N → u k = nI c → tal u N f k
def rv (row : Nat → Int32) : Nat → Int32 := fun k => row (3 + k)
def dueR (u row tp : Nat → Int32) (N a z : Nat) : Int32 := sumF (fun n => smR u (rv row) N 4 (ix (tp (9 * a + 1 + n)))) z 0 (nI 0)
def ptR (a b : Int32) : Int32 := if b = 0 then nI 0 else if b = -1 then -a else a / b
theorem nI_of0 {x : Int32} (h : ¬ x ≤ 0) : ∃ j : Nat, j < 2 ^ 31 ∧ x = nI j := nI_of (fun q => h (Int32.le_of_lt q))
theorem add_nI0 (a : Int32) : a + nI 0 = a := Int32.add_zero a
def inB (v a b : Int32) : Bool := decide (a ≤ v) && decide (v ≤ b)
set_option maxRecDepth 100000 in
set_option maxHeartbeats 4000000 in
theorem sp_X12_isIn {d : Nat} {v a b : Int32} {I : MI} {J : MJ} {P : MP} {Q : Int32 → MI → MJ → MP → Prop} (hQ : Q (b2i (inB v a b)) I J P) : Sp yX12_isIn cX12_isIn 3 (some .boolean) (d) [.int v, .int a, .int b] I J P (Qi Q) := by
  intro Γ h
  show VG Γ 0 0 0 [some (.int v), some (.int a), some (.int b)] [] _ _ _ _
  refine g_iload_0 h dX12_isIn_0 ?_
  refine g_iload_1 h dX12_isIn_1 ?_
  refine g_icmp_lt h 14 dX12_isIn_2 rfl (fun c2 => ?_) (fun c2 => ?_)
  · refine g_iconst h dX12_isIn_14 (v := nI 0) rfl ?_
    refine g_zret h dX12_isIn_15 (by first | rfl | exact nar_b2i _) ?_
    first
      | exact q_i (by rw [inB, decide_eq_true c2, decide_eq_true c7]; rfl) hQ
      | exact q_i (by rw [inB, decide_eq_false (Int32.not_le.mpr c2)]; rfl) hQ
      | exact q_i (by rw [inB, decide_eq_true (Int32.not_lt.mp c2), decide_eq_true (Int32.not_lt.mp c7)]; rfl) hQ
      | exact q_i (by rw [inB, decide_eq_true (Int32.not_lt.mp c2), decide_eq_false (Int32.not_le.mpr c7)]; rfl) hQ
  · refine g_iload_0 h dX12_isIn_5 ?_
    refine g_iload_2 h dX12_isIn_6 ?_
    refine g_icmp_gt h 14 dX12_isIn_7 rfl (fun c7 => ?_) (fun c7 => ?_)
    · refine g_iconst h dX12_isIn_14 (v := nI 0) rfl ?_
      refine g_zret h dX12_isIn_15 (by first | rfl | exact nar_b2i _) ?_
      first
        | exact q_i (by rw [inB, decide_eq_true c2, decide_eq_true c7]; rfl) hQ
        | exact q_i (by rw [inB, decide_eq_false (Int32.not_le.mpr c2)]; rfl) hQ
        | exact q_i (by rw [inB, decide_eq_true (Int32.not_lt.mp c2), decide_eq_true (Int32.not_lt.mp c7)]; rfl) hQ
        | exact q_i (by rw [inB, decide_eq_true (Int32.not_lt.mp c2), decide_eq_false (Int32.not_le.mpr c7)]; rfl) hQ
    · refine g_iconst h dX12_isIn_10 (v := nI 1) rfl ?_
      refine g_goto h 15 dX12_isIn_11 rfl ?_
      refine g_zret h dX12_isIn_15 (by first | rfl | exact nar_b2i _) ?_
      first
        | exact q_i (by rw [inB, decide_eq_true c2, decide_eq_true c7]; rfl) hQ
        | exact q_i (by rw [inB, decide_eq_false (Int32.not_le.mpr c2)]; rfl) hQ
        | exact q_i (by rw [inB, decide_eq_true (Int32.not_lt.mp c2), decide_eq_true (Int32.not_lt.mp c7)]; rfl) hQ
        | exact q_i (by rw [inB, decide_eq_true (Int32.not_lt.mp c2), decide_eq_false (Int32.not_le.mpr c7)]; rfl) hQ
set_option maxHeartbeats 4000000 in
theorem lp_X12_digits {Γ : Cx} {d : Nat} {I : MI} {J : MJ} {P : MP} {y : Int32} {Q : Int32 → MI → MJ → MP → Prop} (h : Vc RX12 cX12_digits 3 (some .int) (d) Γ) : ∀ (f : Nat) (a x : Int32), (x ≤ 0 ∨ ∃ j, j < 10 ^ f ∧ j < 2 ^ 31 ∧ x = nI j) → Q (dgF f a x) I J P → VG Γ 0 0 4 [some (.int y), some (.int a), some (.int x)] [] I J P (Fnl Γ (Qi Q)) := by
  intro f
  induction f with
  | zero =>
    intro a x hx hQ
    refine g_iload_2 h dX12_digits_4 ?_
    refine g_if_le h 23 dX12_digits_5 rfl (fun c5 => ?_) (fun c5 => ?_)
    · refine g_iload_1 h dX12_digits_23 ?_
      refine g_iret h dX12_digits_24 ?_
      exact hQ
    · exact absurd (hx.elim id (fun ⟨j, h1, _, h2⟩ => by rw [h2, show j = 0 by simpa using h1]; decide)) c5
  | succ f ih =>
    intro a x hx hQ
    refine g_iload_2 h dX12_digits_4 ?_
    refine g_if_le h 23 dX12_digits_5 rfl (fun c5 => ?_) (fun c5 => ?_)
    · refine g_iload_1 h dX12_digits_23 ?_
      refine g_iret h dX12_digits_24 ?_
      exact q_i (by rw [dgF, if_pos c5]) hQ
    · refine g_iload_1 h dX12_digits_8 ?_
      refine g_iload_2 h dX12_digits_9 ?_
      refine g_bipush h dX12_digits_10 (v := nI 10) rfl ?_
      refine g_irem h dX12_digits_12 (by decide) ?_
      refine g_iadd h dX12_digits_13 ?_
      refine g_istore_1 h dX12_digits_14 (by decide) rfl ?_
      refine g_iload_2 h dX12_digits_15 ?_
      refine g_bipush h dX12_digits_16 (v := nI 10) rfl ?_
      refine g_idiv h dX12_digits_18 (by decide) ?_
      refine g_istore_2 h dX12_digits_19 (by decide) rfl ?_
      refine g_goto h 4 dX12_digits_20 rfl ?_
      refine ih _ _ ?_ (q_i (by rw [dgF, if_neg c5]; rfl) hQ)
      rcases hx with hx | ⟨j, h1, h3, h2⟩
      · exact absurd hx c5
      · refine Or.inr ⟨j / 10, Nat.div_lt_of_lt_mul (by rw [Nat.mul_comm, ← Nat.pow_succ]; exact h1), by omega, ?_⟩
        rw [h2]
        exact pk_div h3 (by decide) (by decide)
set_option maxRecDepth 100000 in
set_option maxHeartbeats 4000000 in
theorem sp_X12_digits {d : Nat} {x : Int32} {I : MI} {J : MJ} {P : MP} {Q : Int32 → MI → MJ → MP → Prop} (hQ : Q (dgs x) I J P) : Sp yX12_digits cX12_digits 3 (some .int) (d) [.int x] I J P (Qi Q) := by
  intro Γ h
  show VG Γ 0 0 0 [some (.int x), none, none] [] _ _ _ _
  refine g_iconst h dX12_digits_0 (v := nI 0) rfl ?_
  refine g_istore_1 h dX12_digits_1 (by decide) rfl ?_
  refine g_iload_0 h dX12_digits_2 ?_
  refine g_istore_2 h dX12_digits_3 (by decide) rfl ?_
  refine lp_X12_digits h 10 _ _ ?_ hQ
  by_cases q : x ≤ 0
  · exact Or.inl q
  · obtain ⟨j, h1, h2⟩ := nI_of0 q
    exact Or.inr ⟨j, Nat.lt_trans h1 (by decide), h1, h2⟩
set_option maxRecDepth 100000 in
set_option maxHeartbeats 4000000 in
theorem sp_X12_knots {d : Nat} {x : Int32} {I : MI} {J : MJ} {P : MP} {Q : Int32 → MI → MJ → MP → Prop} (hQ : Q (knR x) I J P) : Sp yX12_knots cX12_knots 1 (some .int) (d + 1) [.int x] I J P (Qi Q) := by
  intro Γ h
  show VG Γ 0 0 0 [some (.int x)] [] _ _ _ _
  refine g_iload_0 h dX12_knots_0 ?_
  refine g_bipush h dX12_knots_1 (v := nI 10) rfl ?_
  refine g_idiv h dX12_knots_3 (by decide) ?_
  refine g_cSi1 h rok0 mi_X12_digits dX12_knots_4 ml_X12_284 (Nat.le_of_ble_eq_true rfl) (Nat.le_of_ble_eq_true rfl) (sp_X12_digits ?_)
  refine g_iload_0 h dX12_knots_7 ?_
  refine g_bipush h dX12_knots_8 (v := nI 10) rfl ?_
  refine g_irem h dX12_knots_10 (by decide) ?_
  refine g_if_le h 18 dX12_knots_11 rfl (fun c11 => ?_) (fun c11 => ?_)
  · refine g_iconst h dX12_knots_18 (v := nI 0) rfl ?_
    refine g_iadd h dX12_knots_19 ?_
    refine g_iret h dX12_knots_20 ?_
    first
      | exact q_i (by rw [knR, if_pos (show rem10 x ≤ 0 from c11)]) hQ
      | exact q_i (by rw [knR, if_neg (show ¬ rem10 x ≤ 0 from c11)]) hQ
  · refine g_iconst h dX12_knots_14 (v := nI 1) rfl ?_
    refine g_goto h 19 dX12_knots_15 rfl ?_
    refine g_iadd h dX12_knots_19 ?_
    refine g_iret h dX12_knots_20 ?_
    first
      | exact q_i (by rw [knR, if_pos (show rem10 x ≤ 0 from c11)]) hQ
      | exact q_i (by rw [knR, if_neg (show ¬ rem10 x ≤ 0 from c11)]) hQ
set_option maxRecDepth 100000 in
set_option maxHeartbeats 4000000 in
theorem sp_X12_turns {d : Nat} {x : Int32} {I : MI} {J : MJ} {P : MP} {Q : Int32 → MI → MJ → MP → Prop} (hQ : Q (tuR x) I J P) : Sp yX12_turns cX12_turns 1 (some .int) (d + 1) [.int x] I J P (Qi Q) := by
  intro Γ h
  show VG Γ 0 0 0 [some (.int x)] [] _ _ _ _
  refine g_iload_0 h dX12_turns_0 ?_
  refine g_bipush h dX12_turns_1 (v := nI 10) rfl ?_
  refine g_idiv h dX12_turns_3 (by decide) ?_
  refine g_cSi1 h rok0 mi_X12_digits dX12_turns_4 ml_X12_284 (Nat.le_of_ble_eq_true rfl) (Nat.le_of_ble_eq_true rfl) (sp_X12_digits ?_)
  refine g_iload_0 h dX12_turns_7 ?_
  refine g_bipush h dX12_turns_8 (v := nI 10) rfl ?_
  refine g_irem h dX12_turns_10 (by decide) ?_
  refine g_iconst h dX12_turns_11 (v := nI 1) rfl ?_
  refine g_icmp_ne h 19 dX12_turns_12 rfl (fun c12 => ?_) (fun c12 => ?_)
  · refine g_iload_0 h dX12_turns_19 ?_
    refine g_bipush h dX12_turns_20 (v := nI 10) rfl ?_
    refine g_irem h dX12_turns_22 (by decide) ?_
    refine g_iadd h dX12_turns_23 ?_
    refine g_iret h dX12_turns_24 ?_
    first
      | exact q_i (by rw [tuR, if_neg (show ¬ rem10 x = nI 1 from c12)]; rfl) hQ
      | exact q_i (by rw [tuR, if_pos (show rem10 x = nI 1 from c12)]) hQ
      | exact q_i (by rw [tuR, if_pos (show rem10 x = nI 1 from Classical.not_not.mp c12)]) hQ
  · refine g_iconst h dX12_turns_15 (v := nI 2) rfl ?_
    refine g_goto h 23 dX12_turns_16 rfl ?_
    refine g_iadd h dX12_turns_23 ?_
    refine g_iret h dX12_turns_24 ?_
    first
      | exact q_i (by rw [tuR, if_neg (show ¬ rem10 x = nI 1 from c12)]; rfl) hQ
      | exact q_i (by rw [tuR, if_pos (show rem10 x = nI 1 from c12)]) hQ
      | exact q_i (by rw [tuR, if_pos (show rem10 x = nI 1 from Classical.not_not.mp c12)]) hQ
set_option maxHeartbeats 4000000 in
theorem lp_X12_sumOf {Γ : Cx} {d N c r : Nat} {gg : Nat → Int32} {I : MI} {J : MJ} {P : MP} (hB : P 80 8 = some 93) (hN : I 93 1 = nI N) (hN16 : N ≤ 16) (hrec : ∀ k, k < N → I 96 k = nI c → ∀ Q : Int32 → MI → MJ → MP → Prop, Q (gg k) I J P → Sp yX12_sumOf cX12_sumOf 5 (some .int) d [.ref 80, .ref r, .int (nI k)] I J P (Qi Q)) {Q : Int32 → MI → MJ → MP → Prop} (h : Vc RX12 cX12_sumOf 5 (some .int) (d + 1) Γ) : ∀ (f i : Nat) (a : Int32), i + f = N → Q (sumF (fun k => if I 96 k = nI c then gg k else nI 0) f i a) I J P → VG Γ 0 0 9 [some (.ref 80), some (.ref r), some (.int (nI c)), some (.int a), some (.int (nI i))] [] I J P (Fnl Γ (Qi Q)) := by
  intro f
  induction f with
  | zero =>
    intro i a hi hQ
    refine g_iload_4 h dX12_sumOf_9 ?_
    refine g_aload_0 h dX12_sumOf_11 ?_
    refine g_getP h fl_X12_87 dX12_sumOf_12 rfl rfl (by assumption) ?_
    refine g_getI h fl_X12_161 dX12_sumOf_15 rfl rfl ?_
    refine g_icmp_ge h 51 dX12_sumOf_18 rfl (fun c18 => ?_) (fun c18 => ?_)
    · refine g_iload_3 h dX12_sumOf_51 ?_
      refine g_iret h dX12_sumOf_52 ?_
      exact hQ
    · exact absurd (by rw [hN]; exact nI_le (by omega) (by omega)) c18
  | succ f ih =>
    intro i a hi hQ
    refine g_iload_4 h dX12_sumOf_9 ?_
    refine g_aload_0 h dX12_sumOf_11 ?_
    refine g_getP h fl_X12_87 dX12_sumOf_12 rfl rfl (by assumption) ?_
    refine g_getI h fl_X12_161 dX12_sumOf_15 rfl rfl ?_
    refine g_icmp_ge h 51 dX12_sumOf_18 rfl (fun c18 => ?_) (fun c18 => ?_)
    · exact absurd (leN (by simpa only [hN] using c18) (by omega) (by omega)) (by omega)
    · refine g_aload_0 h dX12_sumOf_21 ?_
      refine g_getP h fl_X12_87 dX12_sumOf_22 rfl rfl (by assumption) ?_
      refine g_getC h fl_X12_248 dX12_sumOf_25 rfl rfl ?_
      refine g_iload_4 h dX12_sumOf_28 ?_
      refine g_iald h i dX12_sumOf_30 rfl rfl (by omega) ?_
      refine g_iload_2 h dX12_sumOf_31 ?_
      refine g_icmp_ne h 45 dX12_sumOf_32 rfl (fun c32 => ?_) (fun c32 => ?_)
      · refine g_iinc_4 h dX12_sumOf_45 (inc1 _) (by decide) rfl ?_
        refine g_goto h 9 dX12_sumOf_48 rfl ?_
        first
          | exact ih (i + 1) _ (by omega) (q_i (by simp only [sumF]; rw [if_neg c32, add_nI0]) hQ)
          | exact ih (i + 1) _ (by omega) (q_i (by simp only [sumF]; rw [if_pos (show I 96 i = nI c from by first | exact c32 | exact Classical.not_not.mp c32)]) hQ)
      · refine g_iload_3 h dX12_sumOf_35 ?_
        refine g_aload_0 h dX12_sumOf_36 ?_
        refine g_aload_1 h dX12_sumOf_37 ?_
        refine g_iload_4 h dX12_sumOf_38 ?_
        refine g_cVi2 h rok0 mi_X12_sumOf dX12_sumOf_40 ml_X12_287 rfl rfl rfl (Nat.le_of_ble_eq_true rfl) (Nat.le_of_ble_eq_true rfl) (hrec i (by omega) (by first | exact c32 | exact Classical.not_not.mp c32) _ ?_)
        refine g_iadd h dX12_sumOf_43 ?_
        refine g_istore_3 h dX12_sumOf_44 (by decide) rfl ?_
        refine g_iinc_4 h dX12_sumOf_45 (inc1 _) (by decide) rfl ?_
        refine g_goto h 9 dX12_sumOf_48 rfl ?_
        first
          | exact ih (i + 1) _ (by omega) (q_i (by simp only [sumF]; rw [if_neg c32, add_nI0]) hQ)
          | exact ih (i + 1) _ (by omega) (q_i (by simp only [sumF]; rw [if_pos (show I 96 i = nI c from by first | exact c32 | exact Classical.not_not.mp c32)]) hQ)
set_option maxRecDepth 100000 in
set_option maxHeartbeats 4000000 in
theorem sp_X12_sumOf {N r : Nat} (hr : r = 91 ∨ r = 92) {I : MI} {J : MJ} {P : MP} (hB : P 80 8 = some 93) (hN : I 93 1 = nI N) (hN16 : N ≤ 16) : ∀ (f d c : Nat), c < 16 → tal (I 96) N f c → ∀ {Q : Int32 → MI → MJ → MP → Prop}, Q (smR (I 96) (rv (I r)) N f c) I J P → Sp yX12_sumOf cX12_sumOf 5 (some .int) (d + f) [.ref 80, .ref r, .int (nI c)] I J P (Qi Q) := by
  intro f
  induction f with
  | zero => exact fun d c hc ht => absurd ht id
  | succ f ih =>
    intro d c hc ht Q hQ Γ h
    show VG Γ 0 0 0 [some (.ref 80), some (.ref r), some (.int (nI c)), none, none] [] _ _ _ _
    refine g_aload_1 h dX12_sumOf_0 ?_
    refine g_iconst h dX12_sumOf_1 (v := nI 3) rfl ?_
    refine g_iload_2 h dX12_sumOf_2 ?_
    refine g_iadd h dX12_sumOf_3 ?_
    refine g_iald h (3 + c) dX12_sumOf_4 (shpR hr) (nI_add 3 c) (by omega) ?_
    refine g_istore_3 h dX12_sumOf_5 (by decide) rfl ?_
    refine g_iconst h dX12_sumOf_6 (v := nI 0) rfl ?_
    refine g_istore_4 h dX12_sumOf_7 (by decide) rfl ?_
    exact lp_X12_sumOf hB hN hN16 (gg := smR (I 96) (rv (I r)) N f) (fun k hk he Q hq => ih d k (by omega) (ht k hk he) hq) h N 0 _ (by omega) hQ
set_option maxHeartbeats 4000000 in
theorem lp_X12_due {Γ : Cx} {d N a0 z r : Nat} (hr : r = 91 ∨ r = 92) {I : MI} {J : MJ} {P : MP} (hB : P 80 8 = some 93) (hN : I 93 1 = nI N) (hN16 : N ≤ 16) (ht : ∀ j, j < N → tal (I 96) N 4 j) (ha : a0 < 6) (hz : I 98 (9 * a0) = nI z) (hz8 : z ≤ 8) (hm : ∀ n, n < z → ∃ j, j < N ∧ I 98 (9 * a0 + 1 + n) = nI j) {Q : Int32 → MI → MJ → MP → Prop} (h : Vc RX12 cX12_due 5 (some .int) (d + 5) Γ) : ∀ (f i : Nat) (a : Int32), i + f = z → Q (sumF (fun n => smR (I 96) (rv (I r)) N 4 (ix (I 98 (9 * a0 + 1 + n)))) f i a) I J P → VG Γ 0 0 5 [some (.ref 80), some (.ref r), some (.int (nI a0)), some (.int a), some (.int (nI (1 + i)))] [] I J P (Fnl Γ (Qi Q)) := by
  intro f
  induction f with
  | zero =>
    intro i a hi hQ
    refine g_iload_4 h dX12_due_5 ?_
    refine g_aload_0 h dX12_due_7 ?_
    refine g_getP h fl_X12_87 dX12_due_8 rfl rfl (by assumption) ?_
    refine g_getC h fl_X12_260 dX12_due_11 rfl rfl ?_
    refine g_bipush h dX12_due_14 (v := nI 9) rfl ?_
    refine g_iload_2 h dX12_due_16 ?_
    refine g_imul h dX12_due_17 ?_
    refine g_iald h (9 * a0) dX12_due_18 rfl (pk_mul 9 a0) (by omega) ?_
    refine g_icmp_gt h 51 dX12_due_19 rfl (fun c19 => ?_) (fun c19 => ?_)
    · refine g_iload_3 h dX12_due_51 ?_
      refine g_iret h dX12_due_52 ?_
      exact hQ
    · exact absurd (by rw [hz]; exact nI_lt (by omega) (by omega)) c19
  | succ f ih =>
    intro i a hi hQ
    obtain ⟨j, hj, ej⟩ := hm i (by omega)
    refine g_iload_4 h dX12_due_5 ?_
    refine g_aload_0 h dX12_due_7 ?_
    refine g_getP h fl_X12_87 dX12_due_8 rfl rfl (by assumption) ?_
    refine g_getC h fl_X12_260 dX12_due_11 rfl rfl ?_
    refine g_bipush h dX12_due_14 (v := nI 9) rfl ?_
    refine g_iload_2 h dX12_due_16 ?_
    refine g_imul h dX12_due_17 ?_
    refine g_iald h (9 * a0) dX12_due_18 rfl (pk_mul 9 a0) (by omega) ?_
    refine g_icmp_gt h 51 dX12_due_19 rfl (fun c19 => ?_) (fun c19 => ?_)
    · exact absurd (ltN (by simpa only [hz] using c19) (by omega) (by omega)) (by omega)
    · refine g_iload_3 h dX12_due_22 ?_
      refine g_aload_0 h dX12_due_23 ?_
      refine g_aload_1 h dX12_due_24 ?_
      refine g_aload_0 h dX12_due_25 ?_
      refine g_getP h fl_X12_87 dX12_due_26 rfl rfl (by assumption) ?_
      refine g_getC h fl_X12_260 dX12_due_29 rfl rfl ?_
      refine g_bipush h dX12_due_32 (v := nI 9) rfl ?_
      refine g_iload_2 h dX12_due_34 ?_
      refine g_imul h dX12_due_35 ?_
      refine g_iload_4 h dX12_due_36 ?_
      refine g_iadd h dX12_due_38 ?_
      refine g_iald h (9 * a0 + 1 + i) dX12_due_39 rfl (by rw [show nI 9 * nI a0 = nI (9 * a0) from pk_mul 9 a0, nI_add]; congr 1; omega) (by omega) ?_
      rw [ej]
      refine g_cVi2 h rok0 mi_X12_sumOf dX12_due_40 ml_X12_287 rfl rfl rfl (Nat.le_of_ble_eq_true rfl) (Nat.le_of_ble_eq_true rfl) (sp_X12_sumOf hr hB hN hN16 4 (d) _ (by omega) (ht _ hj) ?_)
      refine g_iadd h dX12_due_43 ?_
      refine g_istore_3 h dX12_due_44 (by decide) rfl ?_
      refine g_iinc_4 h dX12_due_45 (inc1 _) (by decide) rfl ?_
      refine g_goto h 5 dX12_due_48 rfl ?_
      refine ih (i + 1) _ (by omega) (q_i (by simp only [sumF]; rw [ej, ix_n (by omega)]) hQ)
set_option maxRecDepth 100000 in
set_option maxHeartbeats 4000000 in
theorem sp_X12_due {d N a0 z r : Nat} (hr : r = 91 ∨ r = 92) {I : MI} {J : MJ} {P : MP} (hB : P 80 8 = some 93) (hN : I 93 1 = nI N) (hN16 : N ≤ 16) (ht : ∀ j, j < N → tal (I 96) N 4 j) (ha : a0 < 6) (hz : I 98 (9 * a0) = nI z) (hz8 : z ≤ 8) (hm : ∀ n, n < z → ∃ j, j < N ∧ I 98 (9 * a0 + 1 + n) = nI j) {Q : Int32 → MI → MJ → MP → Prop} (hQ : Q (dueR (I 96) (I r) (I 98) N a0 z) I J P) : Sp yX12_due cX12_due 5 (some .int) (d + 5) [.ref 80, .ref r, .int (nI a0)] I J P (Qi Q) := by
  intro Γ h
  show VG Γ 0 0 0 [some (.ref 80), some (.ref r), some (.int (nI a0)), none, none] [] _ _ _ _
  refine g_iconst h dX12_due_0 (v := nI 0) rfl ?_
  refine g_istore_3 h dX12_due_1 (by decide) rfl ?_
  refine g_iconst h dX12_due_2 (v := nI 1) rfl ?_
  refine g_istore_4 h dX12_due_3 (by decide) rfl ?_
  exact lp_X12_due hr hB hN hN16 ht ha hz hz8 hm h z 0 _ (by omega) hQ
set_option maxRecDepth 100000 in
set_option maxHeartbeats 4000000 in
theorem sp_X12_isWrong {d N a0 z r : Nat} (hr : r = 91 ∨ r = 92) {I : MI} {J : MJ} {P : MP} (hB : P 80 8 = some 93) (hN : I 93 1 = nI N) (hN16 : N ≤ 16) (ht : ∀ j, j < N → tal (I 96) N 4 j) (ha : a0 < 6) (hz : I 98 (9 * a0) = nI z) (hz8 : z ≤ 8) (hm : ∀ n, n < z → ∃ j, j < N ∧ I 98 (9 * a0 + 1 + n) = nI j) {Q : Int32 → MI → MJ → MP → Prop} (hQ : Q (b2i (wrgB (I r (19 + a0)) (dueR (I 96) (I r) (I 98) N a0 z))) I J P) : Sp yX12_isWrong cX12_isWrong 3 (some .boolean) (d + 6) [.ref 80, .ref r, .int (nI a0)] I J P (Qi Q) := by
  intro Γ h
  show VG Γ 0 0 0 [some (.ref 80), some (.ref r), some (.int (nI a0))] [] _ _ _ _
  refine g_aload_1 h dX12_isWrong_0 ?_
  refine g_bipush h dX12_isWrong_1 (v := nI 19) rfl ?_
  refine g_iload_2 h dX12_isWrong_3 ?_
  refine g_iadd h dX12_isWrong_4 ?_
  refine g_iald h (19 + a0) dX12_isWrong_5 (shpR hr) (nI_add 19 a0) (by omega) ?_
  refine g_aload_0 h dX12_isWrong_6 ?_
  refine g_aload_1 h dX12_isWrong_7 ?_
  refine g_iload_2 h dX12_isWrong_8 ?_
  refine g_cVi2 h rok0 mi_X12_due dX12_isWrong_9 ml_X12_290 rfl rfl rfl (Nat.le_of_ble_eq_true rfl) (Nat.le_of_ble_eq_true rfl) (sp_X12_due hr hB hN hN16 ht ha hz hz8 hm ?_)
  refine g_icmp_eq h 19 dX12_isWrong_12 rfl (fun c12 => ?_) (fun c12 => ?_)
  · refine g_iconst h dX12_isWrong_19 (v := nI 0) rfl ?_
    refine g_zret h dX12_isWrong_20 (by first | rfl | exact nar_b2i _) ?_
    first
      | exact q_i (by rw [wrgB, decide_eq_true c12]; rfl) hQ
      | exact q_i (by rw [wrgB, decide_eq_false c12]; rfl) hQ
  · refine g_iconst h dX12_isWrong_15 (v := nI 1) rfl ?_
    refine g_goto h 20 dX12_isWrong_16 rfl ?_
    refine g_zret h dX12_isWrong_20 (by first | rfl | exact nar_b2i _) ?_
    first
      | exact q_i (by rw [wrgB, decide_eq_true c12]; rfl) hQ
      | exact q_i (by rw [wrgB, decide_eq_false c12]; rfl) hQ
set_option maxRecDepth 100000 in
set_option maxHeartbeats 4000000 in
theorem sp_X12_parts {d : Nat} {x y : Int32} {I : MI} {J : MJ} {P : MP} {Q : Int32 → MI → MJ → MP → Prop} (hQ : Q (ptR x y) I J P) : Sp yX12_parts cX12_parts 2 (some .int) (d) [.int x, .int y] I J P (Qi Q) := by
  intro Γ h
  show VG Γ 0 0 0 [some (.int x), some (.int y)] [] _ _ _ _
  refine g_iload_1 h dX12_parts_0 ?_
  refine g_if_ne h 8 dX12_parts_1 rfl (fun c1 => ?_) (fun c1 => ?_)
  · refine g_iload_1 h dX12_parts_8 ?_
    refine g_iconst h dX12_parts_9 (v := (-1)) rfl ?_
    refine g_icmp_ne h 18 dX12_parts_10 rfl (fun c10 => ?_) (fun c10 => ?_)
    · refine g_iload_0 h dX12_parts_18 ?_
      refine g_iload_1 h dX12_parts_19 ?_
      refine g_idiv h dX12_parts_20 c1 ?_
      refine g_iret h dX12_parts_21 ?_
      first
        | exact q_i (by rw [ptR, if_pos c1]) hQ
        | exact q_i (by rw [ptR, if_pos (Classical.not_not.mp c1)]) hQ
        | exact q_i (by rw [ptR, if_neg c1, if_pos (show y = -1 from c10)]) hQ
        | exact q_i (by rw [ptR, if_neg c1, if_pos (show y = -1 from Classical.not_not.mp c10)]) hQ
        | exact q_i (by rw [ptR, if_neg c1, if_neg (show ¬ y = -1 from c10)]) hQ
    · refine g_iload_0 h dX12_parts_13 ?_
      refine g_ineg h dX12_parts_14 ?_
      refine g_goto h 21 dX12_parts_15 rfl ?_
      refine g_iret h dX12_parts_21 ?_
      first
        | exact q_i (by rw [ptR, if_pos c1]) hQ
        | exact q_i (by rw [ptR, if_pos (Classical.not_not.mp c1)]) hQ
        | exact q_i (by rw [ptR, if_neg c1, if_pos (show y = -1 from c10)]) hQ
        | exact q_i (by rw [ptR, if_neg c1, if_pos (show y = -1 from Classical.not_not.mp c10)]) hQ
        | exact q_i (by rw [ptR, if_neg c1, if_neg (show ¬ y = -1 from c10)]) hQ
  · refine g_iconst h dX12_parts_4 (v := nI 0) rfl ?_
    refine g_goto h 21 dX12_parts_5 rfl ?_
    refine g_iret h dX12_parts_21 ?_
    first
      | exact q_i (by rw [ptR, if_pos c1]) hQ
      | exact q_i (by rw [ptR, if_pos (Classical.not_not.mp c1)]) hQ
      | exact q_i (by rw [ptR, if_neg c1, if_pos (show y = -1 from c10)]) hQ
      | exact q_i (by rw [ptR, if_neg c1, if_pos (show y = -1 from Classical.not_not.mp c10)]) hQ
      | exact q_i (by rw [ptR, if_neg c1, if_neg (show ¬ y = -1 from c10)]) hQ
set_option maxRecDepth 100000 in
set_option maxHeartbeats 4000000 in
theorem sp_X12_isWeary {d k r : Nat} (hr : r = 91 ∨ r = 92) {I : MI} {J : MJ} {P : MP} (hB : P 80 8 = some 93) (hk : k < 5) {Q : Int32 → MI → MJ → MP → Prop} (hQ : Q (b2i (tooB (I r (25 + k)) (I 99 k))) I J P) : Sp yX12_isWeary cX12_isWeary 3 (some .boolean) (d) [.ref 80, .ref r, .int (nI k)] I J P (Qi Q) := by
  intro Γ h
  show VG Γ 0 0 0 [some (.ref 80), some (.ref r), some (.int (nI k))] [] _ _ _ _
  refine g_aload_1 h dX12_isWeary_0 ?_
  refine g_bipush h dX12_isWeary_1 (v := nI 25) rfl ?_
  refine g_iload_2 h dX12_isWeary_3 ?_
  refine g_iadd h dX12_isWeary_4 ?_
  refine g_iald h (25 + k) dX12_isWeary_5 (shpR hr) (nI_add 25 k) (by omega) ?_
  refine g_iconst h dX12_isWeary_6 (v := nI 5) rfl ?_
  refine g_aload_0 h dX12_isWeary_7 ?_
  refine g_getP h fl_X12_87 dX12_isWeary_8 rfl rfl (by assumption) ?_
  refine g_getC h fl_X12_263 dX12_isWeary_11 rfl rfl ?_
  refine g_iload_2 h dX12_isWeary_14 ?_
  refine g_iald h k dX12_isWeary_15 rfl rfl (by omega) ?_
  refine g_imul h dX12_isWeary_16 ?_
  refine g_icmp_le h 24 dX12_isWeary_17 rfl (fun c17 => ?_) (fun c17 => ?_)
  · refine g_iconst h dX12_isWeary_24 (v := nI 0) rfl ?_
    refine g_zret h dX12_isWeary_25 (by first | rfl | exact nar_b2i _) ?_
    first
      | exact q_i (by rw [tooB, decide_eq_true (Int32.not_le.mp c17)]; rfl) hQ
      | exact q_i (by rw [tooB, decide_eq_false (Int32.not_lt.mpr c17)]; rfl) hQ
  · refine g_iconst h dX12_isWeary_20 (v := nI 1) rfl ?_
    refine g_goto h 25 dX12_isWeary_21 rfl ?_
    refine g_zret h dX12_isWeary_25 (by first | rfl | exact nar_b2i _) ?_
    first
      | exact q_i (by rw [tooB, decide_eq_true (Int32.not_le.mp c17)]; rfl) hQ
      | exact q_i (by rw [tooB, decide_eq_false (Int32.not_lt.mpr c17)]; rfl) hQ
