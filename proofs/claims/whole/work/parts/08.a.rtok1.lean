/-! The reference: tape and tokens -/
def kN (k j : Nat) : Nat := ix (kB k j)
theorem kwC_ok : ∀ k, k < 28 → kwC k = cdW (kN k) (kL k) 0 0 ∧ kL k ≤ 6 ∧ ∀ j, j < kL k → (97 ≤ kN k j ∧ kN k j ≤ 122) ∧ kB k j = nI (kN k j) := by decide +kernel
theorem cdW_inj {T S : Nat → Nat} : ∀ f g p q, (∀ j, j < f → (48 ≤ T (p + j) ∧ T (p + j) ≤ 57) ∨ (97 ≤ T (p + j) ∧ T (p + j) ≤ 122)) → (∀ j, j < g → (48 ≤ S (q + j) ∧ S (q + j) ≤ 57) ∨ (97 ≤ S (q + j) ∧ S (q + j) ≤ 122)) → cdW T f p 0 = cdW S g q 0 → f = g ∧ ∀ j, j < f → T (p + j) = S (q + j) := by
  have sg : ∀ c, (48 ≤ c ∧ c ≤ 57) ∨ (97 ≤ c ∧ c ≤ 122) → 0 < sgN c ∧ sgN c < 37 := by intro c h; unfold sgN; split <;> omega
  have si : ∀ c d, (48 ≤ c ∧ c ≤ 57) ∨ (97 ≤ c ∧ c ≤ 122) → (48 ≤ d ∧ d ≤ 57) ∨ (97 ≤ d ∧ d ≤ 122) → sgN c = sgN d → c = d := by
    intro c d h1 h2 h3
    unfold sgN at h3
    split at h3 <;> split at h3 <;> omega
  intro f
  induction f with
  | zero =>
    intro g p q h1 h2 h
    cases g with
    | zero => exact ⟨rfl, fun j hj => absurd hj (Nat.not_lt_zero j)⟩
    | succ g =>
      rw [cdW_s S g] at h
      have := (sg _ (h2 g (by omega))).1
      have h0 : cdW T 0 p 0 = 0 := rfl
      omega
  | succ f ih =>
    intro g p q h1 h2 h
    cases g with
    | zero =>
      rw [cdW_s T f] at h
      have := (sg _ (h1 f (by omega))).1
      have h0 : cdW S 0 q 0 = 0 := rfl
      omega
    | succ g =>
      rw [cdW_s, cdW_s] at h
      have a := sg _ (h1 f (by omega))
      have b := sg _ (h2 g (by omega))
      have e1 : cdW T f p 0 = cdW S g q 0 := by omega
      have e2 : sgN (T (p + f)) = sgN (S (q + g)) := by omega
      obtain ⟨c1, c2⟩ := ih g p q (fun j hj => h1 j (by omega)) (fun j hj => h2 j (by omega)) e1
      subst c1
      refine ⟨rfl, fun j hj => ?_⟩
      rcases Nat.lt_or_ge j f with r | r
      · exact c2 j r
      · obtain rfl : j = f := by omega
        exact si _ _ (h1 j (by omega)) (h2 j (by omega)) e2
theorem kwI_in (c : Nat) : ∀ f i, i + f = 28 → kwI c f i = 28 ∨ (kwI c f i < 28 ∧ kwC (kwI c f i) = c) := by
  intro f
  induction f with
  | zero => exact fun i _ => Or.inl rfl
  | succ f ih =>
    intro i hi
    rw [kwI]
    by_cases h : kwC i = c
    · rw [if_pos h]; exact Or.inr ⟨by omega, h⟩
    · rw [if_neg h]; exact ih (i + 1) (by omega)
theorem kwI_no (c : Nat) : ∀ f i, i + f = 28 → kwI c f i = 28 → ∀ k, i ≤ k → k < 28 → ¬ kwC k = c := by
  intro f
  induction f with
  | zero => intro i hi _ k a b; omega
  | succ f ih =>
    intro i hi h k a b
    rw [kwI] at h
    by_cases e : kwC i = c
    · rw [if_pos e] at h; omega
    · rw [if_neg e] at h
      rcases Nat.lt_or_ge i k with r | r
      · exact ih (i + 1) (by omega) h k r b
      · obtain rfl : k = i := by omega
        exact e
theorem kwC_inj : ∀ i, i < 28 → ∀ k, k < 28 → kwC i = kwC k → i = k := by decide +kernel
theorem kwI_iff {c k : Nat} (hk : k < 28) : kwC k = c ↔ kwI c 28 0 = k := by
  rcases kwI_in c 28 0 rfl with q | ⟨q1, q2⟩
  · have := kwI_no c 28 0 rfl q k (Nat.zero_le _) hk
    exact ⟨fun r => absurd r this, fun r => by omega⟩
  · exact ⟨fun r => (kwC_inj _ hk _ q1 (r.trans q2.symm)).symm, fun r => by rw [← r]; exact q2⟩
def alB (p : Nat → Bool) : Nat → Nat → Bool
  | 0, _ => true
  | f + 1, i => if p i then alB p f (i + 1) else false
theorem alB_iff {p : Nat → Bool} : ∀ f i, alB p f i = true ↔ ∀ j, i ≤ j → j < i + f → p j = true := by
  intro f
  induction f with
  | zero => exact fun i => ⟨fun _ j a b => absurd a (by omega), fun _ => rfl⟩
  | succ f ih =>
    intro i
    rw [alB]
    by_cases h : p i = true
    · rw [if_pos h, ih]
      exact ⟨fun q j a b => by
        rcases Nat.lt_or_ge i j with r | r
        · exact q j r (by omega)
        · obtain rfl : j = i := by omega
          exact h, fun q j a b => q j (by omega) (by omega)⟩
    · rw [if_neg h]
      exact ⟨fun q => absurd q (by decide), fun q => absurd (q i (Nat.le_refl _) (by omega)) h⟩
def wEq (T : Nat → Nat) (p n k : Nat) : Bool := if kL k = n then alB (fun j => decide (T (p + j) = kN k j)) n 0 else false
theorem wEq_iff {T : Nat → Nat} {p n k : Nat} (hk : k < 28) (hr : ∀ j, j < n → (48 ≤ T (p + j) ∧ T (p + j) ≤ 57) ∨ (97 ≤ T (p + j) ∧ T (p + j) ≤ 122)) : wEq T p n k = true ↔ kwI (cdW T n p 0) 28 0 = k := by
  obtain ⟨a, b, c⟩ := kwC_ok k hk
  rw [← kwI_iff hk, wEq]
  constructor
  · intro h
    by_cases e : kL k = n
    · rw [if_pos e, alB_iff] at h
      rw [a, e]
      have key : ∀ f p' acc, (∀ j, j < f → kN k (p' + j) = T (p + (p' + j))) → cdW (kN k) f p' acc = cdW T f (p + p') acc := by
        intro f
        induction f with
        | zero => intro p' acc _; rfl
        | succ f ih =>
          intro p' acc hh
          rw [cdW, cdW, show sgN (kN k p') = sgN (T (p + p')) by have := hh 0 (by omega); rw [Nat.add_zero] at this; rw [this], ih (p' + 1) _ (fun j hj => by have := hh (j + 1) (by omega); rw [show p' + 1 + j = p' + (j + 1) by omega]; exact this)]
          rw [show p + (p' + 1) = p + p' + 1 by omega]
      have := key n 0 0 (fun j hj => by rw [Nat.zero_add]; exact (of_decide_eq_true (h j (Nat.zero_le _) (by omega))).symm)
      rw [this, Nat.add_zero]
    · rw [if_neg e] at h; exact Bool.noConfusion h
  · intro h
    rw [a] at h
    obtain ⟨d1, d2⟩ := cdW_inj (kL k) n 0 p (fun j hj => by rw [Nat.zero_add]; exact Or.inr (c j hj).1) hr h
    rw [if_pos d1, alB_iff]
    intro j _ hj
    have := d2 j (by omega)
    rw [Nat.zero_add] at this
    exact decide_eq_true this.symm
theorem wd_ch {T : Nat → Nat} {L j : Nat} (h : (ltB T L j || dgB T L j) = true) : (48 ≤ T j ∧ T j ≤ 57) ∨ (97 ≤ T j ∧ T j ≤ 122) := by
  rcases Bool.or_eq_true_iff.mp h with q | q
  · exact Or.inr (ltB_lt q).2
  · exact Or.inl (dgB_lt q).2
def rtO (T : Nat → Nat) (L : Nat) (I : MI) : Prop := I 80 2 = nI L ∧ L ≤ 2000 ∧ ∀ j, j < L → I 81 j = nI (T j) ∧ T j < 256
def byR (T : Nat → Nat) (L p : Nat) : Int32 := if p < L then nI (T p) else nI 0
theorem byR_n {T : Nat → Nat} {L p : Nat} {I : MI} (h : rtO T L I) : ∃ c, c < 256 ∧ byR T L p = nI c ∧ (p < L → c = T p) ∧ (¬ p < L → c = 0) := by
  by_cases q : p < L
  · exact ⟨T p, (h.2.2 p q).2, if_pos q, fun _ => rfl, fun r => absurd q r⟩
  · exact ⟨0, by decide, if_neg q, fun r => absurd r q, fun _ => rfl⟩
theorem isLx_r {T : Nat → Nat} {L p : Nat} (h : p < L → T p < 256) : isLx (byR T L p) = ltB T L p := by
  by_cases hl : p < L
  · have e : byR T L p = sgT T L p := by rw [byR, sgT, if_pos hl, if_pos hl]
    rw [e, isLx_s h]
  · rw [byR, if_neg hl, ltB, decide_eq_false hl, Bool.false_and]
    decide
theorem isDx_r {T : Nat → Nat} {L p : Nat} (h : p < L → T p < 256) : isDx (byR T L p) = dgB T L p := by
  by_cases hl : p < L
  · have e : byR T L p = sgT T L p := by rw [byR, sgT, if_pos hl, if_pos hl]
    rw [e, isDx_s h]
  · rw [byR, if_neg hl, dgB, decide_eq_false hl, Bool.false_and]
    decide
theorem sizes : shp 81 = .inr (0, 2000) ∧ shp 82 = .inr (0, 402) := ⟨rfl, rfl⟩
set_option maxRecDepth 100000 in
set_option maxHeartbeats 4000000 in
theorem sp_X12_byteAt {T : Nat → Nat} {L : Nat} {d p : Nat} (hp : p < 2 ^ 31) {I : MI} {J : MJ} {P : MP} (hT : rtO T L I) {Q : Int32 → MI → MJ → MP → Prop} (hQ : Q (byR T L p) I J P) : Sp yX12_byteAt cX12_byteAt 2 (some .int) (d) [.ref 80, .int (nI p)] I J P (Qi Q) := by
  intro Γ h
  show VG Γ 0 0 0 [some (.ref 80), some (.int (nI p))] [] _ _ _ _
  obtain ⟨t1, t2, t3⟩ := hT
  refine g_iload_1 h dX12_byteAt_0 ?_
  refine g_aload_0 h dX12_byteAt_1 ?_
  refine g_getI h fl_X12_7 dX12_byteAt_2 rfl rfl ?_
  refine g_icmp_ge h 17 dX12_byteAt_5 rfl (fun c5 => ?_) (fun c5 => ?_)
  · refine g_iconst h dX12_byteAt_17 (v := nI 0) rfl ?_
    refine g_iret h dX12_byteAt_18 ?_
    first
      | (have hl : p < L := ltN (by rw [← t1]; exact Int32.not_le.mp c5) (by omega) (by omega)
         exact q_i (by rw [(t3 p hl).1, byR, if_pos hl]) hQ)
      | (have hl : ¬ p < L := fun q => nI_ge q (by omega) (by rw [← t1]; exact c5)
         exact q_i (by rw [byR, if_neg hl]) hQ)
  · have hl : p < L := ltN (by rw [← t1]; exact Int32.not_le.mp c5) (by omega) (by omega)
    refine g_aload_0 h dX12_byteAt_8 ?_
    refine g_getC h fl_X12_18 dX12_byteAt_9 rfl rfl ?_
    refine g_iload_1 h dX12_byteAt_12 ?_
    refine g_iald h p dX12_byteAt_13 rfl rfl (by omega) ?_
    refine g_goto h 18 dX12_byteAt_14 rfl ?_
    refine g_iret h dX12_byteAt_18 ?_
    first
      | (have hl : p < L := ltN (by rw [← t1]; exact Int32.not_le.mp c5) (by omega) (by omega)
         exact q_i (by rw [(t3 p hl).1, byR, if_pos hl]) hQ)
      | (have hl : ¬ p < L := fun q => nI_ge q (by omega) (by rw [← t1]; exact c5)
         exact q_i (by rw [byR, if_neg hl]) hQ)
set_option maxRecDepth 100000 in
set_option maxHeartbeats 4000000 in
theorem sp_X12_isLetter {d : Nat} {x : Int32} {I : MI} {J : MJ} {P : MP} {Q : Int32 → MI → MJ → MP → Prop} (hQ : Q (b2i (isLx x)) I J P) : Sp yX12_isLetter cX12_isLetter 1 (some .boolean) (d) [.int x] I J P (Qi Q) := by
  intro Γ h
  show VG Γ 0 0 0 [some (.int x)] [] _ _ _ _
  refine g_iload_0 h dX12_isLetter_0 ?_
  refine g_bipush h dX12_isLetter_1 (v := nI 97) rfl ?_
  refine g_icmp_lt h 16 dX12_isLetter_3 rfl (fun c3 => ?_) (fun c3 => ?_)
  · refine g_iconst h dX12_isLetter_16 (v := nI 0) rfl ?_
    refine g_zret h dX12_isLetter_17 rfl ?_
    first
      | exact q_i (by rw [isLx, decide_eq_false (Int32.not_le.mpr c3)]; rfl) hQ
      | exact q_i (by rw [isLx, decide_eq_true (Int32.not_lt.mp c3), decide_eq_false (Int32.not_le.mpr c9)]; rfl) hQ
      | exact q_i (by rw [isLx, decide_eq_true (Int32.not_lt.mp c3), decide_eq_true (Int32.not_lt.mp c9)]; rfl) hQ
  · refine g_iload_0 h dX12_isLetter_6 ?_
    refine g_bipush h dX12_isLetter_7 (v := nI 122) rfl ?_
    refine g_icmp_gt h 16 dX12_isLetter_9 rfl (fun c9 => ?_) (fun c9 => ?_)
    · refine g_iconst h dX12_isLetter_16 (v := nI 0) rfl ?_
      refine g_zret h dX12_isLetter_17 rfl ?_
      first
        | exact q_i (by rw [isLx, decide_eq_false (Int32.not_le.mpr c3)]; rfl) hQ
        | exact q_i (by rw [isLx, decide_eq_true (Int32.not_lt.mp c3), decide_eq_false (Int32.not_le.mpr c9)]; rfl) hQ
        | exact q_i (by rw [isLx, decide_eq_true (Int32.not_lt.mp c3), decide_eq_true (Int32.not_lt.mp c9)]; rfl) hQ
    · refine g_iconst h dX12_isLetter_12 (v := nI 1) rfl ?_
      refine g_goto h 17 dX12_isLetter_13 rfl ?_
      refine g_zret h dX12_isLetter_17 rfl ?_
      first
        | exact q_i (by rw [isLx, decide_eq_false (Int32.not_le.mpr c3)]; rfl) hQ
        | exact q_i (by rw [isLx, decide_eq_true (Int32.not_lt.mp c3), decide_eq_false (Int32.not_le.mpr c9)]; rfl) hQ
        | exact q_i (by rw [isLx, decide_eq_true (Int32.not_lt.mp c3), decide_eq_true (Int32.not_lt.mp c9)]; rfl) hQ
set_option maxRecDepth 100000 in
set_option maxHeartbeats 4000000 in
theorem sp_X12_isDigit {d : Nat} {x : Int32} {I : MI} {J : MJ} {P : MP} {Q : Int32 → MI → MJ → MP → Prop} (hQ : Q (b2i (isDx x)) I J P) : Sp yX12_isDigit cX12_isDigit 1 (some .boolean) (d) [.int x] I J P (Qi Q) := by
  intro Γ h
  show VG Γ 0 0 0 [some (.int x)] [] _ _ _ _
  refine g_iload_0 h dX12_isDigit_0 ?_
  refine g_bipush h dX12_isDigit_1 (v := nI 48) rfl ?_
  refine g_icmp_lt h 16 dX12_isDigit_3 rfl (fun c3 => ?_) (fun c3 => ?_)
  · refine g_iconst h dX12_isDigit_16 (v := nI 0) rfl ?_
    refine g_zret h dX12_isDigit_17 rfl ?_
    first
      | exact q_i (by rw [isDx, decide_eq_false (Int32.not_le.mpr c3)]; rfl) hQ
      | exact q_i (by rw [isDx, decide_eq_true (Int32.not_lt.mp c3), decide_eq_false (Int32.not_le.mpr c9)]; rfl) hQ
      | exact q_i (by rw [isDx, decide_eq_true (Int32.not_lt.mp c3), decide_eq_true (Int32.not_lt.mp c9)]; rfl) hQ
  · refine g_iload_0 h dX12_isDigit_6 ?_
    refine g_bipush h dX12_isDigit_7 (v := nI 57) rfl ?_
    refine g_icmp_gt h 16 dX12_isDigit_9 rfl (fun c9 => ?_) (fun c9 => ?_)
    · refine g_iconst h dX12_isDigit_16 (v := nI 0) rfl ?_
      refine g_zret h dX12_isDigit_17 rfl ?_
      first
        | exact q_i (by rw [isDx, decide_eq_false (Int32.not_le.mpr c3)]; rfl) hQ
        | exact q_i (by rw [isDx, decide_eq_true (Int32.not_lt.mp c3), decide_eq_false (Int32.not_le.mpr c9)]; rfl) hQ
        | exact q_i (by rw [isDx, decide_eq_true (Int32.not_lt.mp c3), decide_eq_true (Int32.not_lt.mp c9)]; rfl) hQ
    · refine g_iconst h dX12_isDigit_12 (v := nI 1) rfl ?_
      refine g_goto h 17 dX12_isDigit_13 rfl ?_
      refine g_zret h dX12_isDigit_17 rfl ?_
      first
        | exact q_i (by rw [isDx, decide_eq_false (Int32.not_le.mpr c3)]; rfl) hQ
        | exact q_i (by rw [isDx, decide_eq_true (Int32.not_lt.mp c3), decide_eq_false (Int32.not_le.mpr c9)]; rfl) hQ
        | exact q_i (by rw [isDx, decide_eq_true (Int32.not_lt.mp c3), decide_eq_true (Int32.not_lt.mp c9)]; rfl) hQ
set_option maxRecDepth 100000 in
set_option maxHeartbeats 4000000 in
theorem lp_isWord {Γ : Cx} {T : Nat → Nat} {L : Nat} {d p n k : Nat} (hk : k < 28) (hn : kL k = n) (hp : p + n ≤ L) {I : MI} {J : MJ} {P : MP} (hT : rtO T L I) {Q : Int32 → MI → MJ → MP → Prop} (h : Vc RX12 cX12_isWord 5 (some .boolean) (d + 4) Γ) : ∀ (f i : Nat), i + f = n → Q (b2i (alB (fun j => decide (T (p + j) = kN k j)) f i)) I J P → VG Γ 0 0 13 [some (.ref 80), some (.int (nI p)), some (.int (nI n)), some (.ref (200 + k)), some (.int (nI i))] [] I J P (Fnl Γ (Qi Q)) := by
  obtain ⟨t1, t2, t3⟩ := hT
  obtain ⟨w1, w2, w3⟩ := kwC_ok k hk
  intro f
  induction f with
  | zero =>
    intro i hi hQ
    obtain rfl : i = n := by omega
    refine g_iload_4 h dX12_isWord_13 ?_
    refine g_iload_2 h dX12_isWord_15 ?_
    refine g_icmp_ge h 45 dX12_isWord_16 rfl (fun _ => ?_) (fun c => absurd (nI_le (Nat.le_refl _) (by omega)) c)
    refine g_iconst h dX12_isWord_45 (v := nI 1) rfl ?_
    refine g_zret h dX12_isWord_46 (by first | rfl | exact nar_b2i _) ?_
    exact hQ
  | succ f ih =>
    intro i hi hQ
    have hlt : p + i < L := by omega
    have t4 := (t3 _ hlt).2
    have w4 := w3 i (by omega)
    rw [alB] at hQ
    refine g_iload_4 h dX12_isWord_13 ?_
    refine g_iload_2 h dX12_isWord_15 ?_
    refine g_icmp_ge h 45 dX12_isWord_16 rfl (fun c => absurd c (nI_ge (by omega) (by omega))) (fun _ => ?_)
    refine g_aload_0 h dX12_isWord_19 ?_
    refine g_getC h fl_X12_18 dX12_isWord_20 rfl rfl ?_
    refine g_iload_1 h dX12_isWord_23 ?_
    refine g_iload_4 h dX12_isWord_24 ?_
    refine g_iadd h dX12_isWord_26 ?_
    refine g_iald h (p + i) dX12_isWord_27 rfl (nI_add p i) (by omega) ?_
    rw [(t3 _ hlt).1]
    refine g_aload_3 h dX12_isWord_28 ?_
    refine g_iload_4 h dX12_isWord_29 ?_
    refine g_cTi1 h rok0 mi_J0_charAt_5068e dX12_isWord_31 ml_X12_71 k (by omega) rfl rfl (Nat.le_of_ble_eq_true rfl) (Nat.le_of_ble_eq_true rfl) (sp_J0_charAt (by omega) (by omega) ?_)
    rw [w4.2]
    refine g_icmp_eq h 39 dX12_isWord_34 rfl (fun c34 => ?_) (fun c34 => ?_)
    · refine g_iinc_4 h dX12_isWord_39 (inc1 _) (by decide) rfl ?_
      refine g_goto h 13 dX12_isWord_42 rfl ?_
      have q : T (p + i) = kN k i := eqN c34 (by omega) (by omega)
      rw [if_pos (by simpa using q)] at hQ
      exact ih (i + 1) (by omega) hQ
    · refine g_iconst h dX12_isWord_37 (v := nI 0) rfl ?_
      refine g_zret h dX12_isWord_38 (by first | rfl | exact nar_b2i _) ?_
      have q : ¬ T (p + i) = kN k i := fun q => c34 (by rw [q])
      rw [if_neg (by simpa using q)] at hQ
      exact hQ
set_option maxRecDepth 100000 in
set_option maxHeartbeats 4000000 in
theorem sp_X12_isWord {T : Nat → Nat} {L : Nat} {d p n k : Nat} (hk : k < 28) (hp : p + n ≤ L) {I : MI} {J : MJ} {P : MP} (hT : rtO T L I) {Q : Int32 → MI → MJ → MP → Prop} (hQ : Q (b2i (wEq T p n k)) I J P) : Sp yX12_isWord cX12_isWord 5 (some .boolean) (d + 4) [.ref 80, .int (nI p), .int (nI n), .ref (200 + k)] I J P (Qi Q) := by
  intro Γ h
  show VG Γ 0 0 0 [some (.ref 80), some (.int (nI p)), some (.int (nI n)), some (.ref (200 + k)), none] [] _ _ _ _
  have w2 := (kwC_ok k hk).2.1
  have t2 := hT.2.1
  refine g_aload_3 h dX12_isWord_0 ?_
  refine g_cTi0 h rok0 mi_J0_length_8abf5 dX12_isWord_1 ml_X12_66 k (by omega) rfl rfl (Nat.le_of_ble_eq_true rfl) (Nat.le_of_ble_eq_true rfl) (sp_J0_length (by omega) ?_)
  refine g_iload_2 h dX12_isWord_4 ?_
  refine g_icmp_eq h 10 dX12_isWord_5 rfl (fun c5 => ?_) (fun c5 => ?_)
  · refine g_iconst h dX12_isWord_10 (v := nI 0) rfl ?_
    refine g_istore_4 h dX12_isWord_11 (by decide) rfl ?_
    have q : kL k = n := eqN c5 (by omega) (by omega)
    rw [wEq, if_pos q] at hQ
    exact lp_isWord hk q hp hT h n 0 (by omega) hQ
  · refine g_iconst h dX12_isWord_8 (v := nI 0) rfl ?_
    refine g_zret h dX12_isWord_9 (by first | rfl | exact nar_b2i _) ?_
    have q : ¬ kL k = n := fun q => c5 (by rw [q])
    rw [wEq, if_neg q] at hQ
    exact hQ
/-- what reading a token changes -/
def rdF (n : Nat) (I I' : MI) : Prop := (∀ a, a ≠ 82 → a ≠ 83 → a ≠ 85 → I' a = I a) ∧ ∀ a j, j ≠ n → I' a j = I a j
theorem rdF.rf {n : Nat} {I : MI} : rdF n I I := ⟨fun _ _ _ _ => rfl, fun _ _ _ => rfl⟩
theorem rdF.up {n a : Nat} {v : Int32} {I I' : MI} (ha : a = 82 ∨ a = 83 ∨ a = 85) (h : rdF n I I') : rdF n I (up2 I' a n v) := by
  refine ⟨fun b b1 b2 b3 => by rw [up2_o (by omega)]; exact h.1 b b1 b2 b3, fun b j hj => ?_⟩
  rw [← h.2 b j hj]
  by_cases e : b = a
  · subst e; exact up2_n hj
  · rw [up2_o e]
theorem rdF.tr {n : Nat} {I I1 I2 : MI} (h : rdF n I I1) (h2 : rdF n I1 I2) : rdF n I I2 := ⟨fun a a1 a2 a3 => (h2.1 a a1 a2 a3).trans (h.1 a a1 a2 a3), fun a j hj => (h2.2 a j hj).trans (h.2 a j hj)⟩
theorem rdF.tp {n : Nat} {T : Nat → Nat} {L : Nat} {I I' : MI} (h : rdF n I I') (k : rtO T L I) : rtO T L I' := by
  unfold rtO
  rw [h.1 80 (by decide) (by decide) (by decide), h.1 81 (by decide) (by decide) (by decide)]
  exact k
set_option maxRecDepth 100000 in
set_option maxHeartbeats 4000000 in
theorem lp_readWord1 {Γ : Cx} {T : Nat → Nat} {L : Nat} {d n p e : Nat} {I : MI} {J : MJ} {P : MP} (hT : rtO T L I) {Φ : State → Prop} {x4 : Option Value} (h : Vc RX12 cX12_readWord 5 none (d + 5) Γ) (k : VG Γ 0 0 30 [some (.ref 80), some (.int (nI n)), some (.int (nI p)), some (.int (nI e)), x4] [] I J P Φ) : ∀ (f q : Nat), p + 2000 ≤ q + f → q ≤ L → wdE T L f q = e → VG Γ 0 0 2 [some (.ref 80), some (.int (nI n)), some (.int (nI p)), some (.int (nI q)), x4] [] I J P Φ := by
  obtain ⟨t1, t2, t3⟩ := id hT
  have t4 : ∀ q, q < L → T q < 256 := fun q hq => (t3 q hq).2
  intro f
  induction f with
  | zero =>
    intro q hq hl he
    have e1 : q = e := he
    have nl : ltB T L q = false := by rw [ltB, decide_eq_false (by omega), Bool.false_and]
    have nd : dgB T L q = false := by rw [dgB, decide_eq_false (by omega), Bool.false_and]
    refine g_aload_0 h dX12_readWord_2 ?_
    refine g_iload_3 h dX12_readWord_3 ?_
    refine g_cVi1 h rok0 mi_X12_byteAt dX12_readWord_4 ml_X12_26 rfl rfl rfl (Nat.le_of_ble_eq_true rfl) (Nat.le_of_ble_eq_true rfl) (sp_X12_byteAt (by omega) hT ?_)
    refine g_cSi1 h rok0 mi_X12_isLetter dX12_readWord_7 ml_X12_45 (Nat.le_of_ble_eq_true rfl) (Nat.le_of_ble_eq_true rfl) (sp_X12_isLetter ?_)
    rw [isLx_r (t4 q), nl]
    refine g_if_ne h 24 dX12_readWord_10 rfl (fun c => absurd c (by decide)) (fun _ => ?_)
    refine g_aload_0 h dX12_readWord_13 ?_
    refine g_iload_3 h dX12_readWord_14 ?_
    refine g_cVi1 h rok0 mi_X12_byteAt dX12_readWord_15 ml_X12_26 rfl rfl rfl (Nat.le_of_ble_eq_true rfl) (Nat.le_of_ble_eq_true rfl) (sp_X12_byteAt (by omega) hT ?_)
    refine g_cSi1 h rok0 mi_X12_isDigit dX12_readWord_18 ml_X12_52 (Nat.le_of_ble_eq_true rfl) (Nat.le_of_ble_eq_true rfl) (sp_X12_isDigit ?_)
    rw [isDx_r (t4 q), nd]
    refine g_if_eq h 30 dX12_readWord_21 rfl (fun _ => ?_) (fun c => absurd c (by decide))
    subst e1
    exact k
  | succ f ih =>
    intro q hq hl he
    rw [wdE] at he
    refine g_aload_0 h dX12_readWord_2 ?_
    refine g_iload_3 h dX12_readWord_3 ?_
    refine g_cVi1 h rok0 mi_X12_byteAt dX12_readWord_4 ml_X12_26 rfl rfl rfl (Nat.le_of_ble_eq_true rfl) (Nat.le_of_ble_eq_true rfl) (sp_X12_byteAt (by omega) hT ?_)
    refine g_cSi1 h rok0 mi_X12_isLetter dX12_readWord_7 ml_X12_45 (Nat.le_of_ble_eq_true rfl) (Nat.le_of_ble_eq_true rfl) (sp_X12_isLetter ?_)
    rw [isLx_r (t4 q)]
    refine g_if_ne h 24 dX12_readWord_10 rfl (fun c10 => ?_) (fun c10 => ?_)
    · refine g_iinc_3 h dX12_readWord_24 (inc1 _) (by decide) rfl ?_
      refine g_goto h 2 dX12_readWord_27 rfl ?_
      have hw : (ltB T L q || dgB T L q) = true := by
        first
          | (have r := b2i_n0.mp c10; rw [r]; rfl)
          | (have r := b2i_n0.mp c21; rw [r, Bool.or_true])
      have hlt : q < L := by
        rcases Bool.or_eq_true_iff.mp hw with r | r
        · exact (ltB_lt r).1
        · exact (dgB_lt r).1
      rw [if_pos hw] at he
      exact ih (q + 1) (by omega) hlt he
    · refine g_aload_0 h dX12_readWord_13 ?_
      refine g_iload_3 h dX12_readWord_14 ?_
      refine g_cVi1 h rok0 mi_X12_byteAt dX12_readWord_15 ml_X12_26 rfl rfl rfl (Nat.le_of_ble_eq_true rfl) (Nat.le_of_ble_eq_true rfl) (sp_X12_byteAt (by omega) hT ?_)
      refine g_cSi1 h rok0 mi_X12_isDigit dX12_readWord_18 ml_X12_52 (Nat.le_of_ble_eq_true rfl) (Nat.le_of_ble_eq_true rfl) (sp_X12_isDigit ?_)
      rw [isDx_r (t4 q)]
      refine g_if_eq h 30 dX12_readWord_21 rfl (fun c21 => ?_) (fun c21 => ?_)
      · have q1 := b2i_0.mp (by first | exact c10 | exact Classical.not_not.mp c10)
        have q2 := b2i_0.mp c21
        rw [if_neg (by rw [q1, q2]; decide)] at he
        subst he
        exact k
      · refine g_iinc_3 h dX12_readWord_24 (inc1 _) (by decide) rfl ?_
        refine g_goto h 2 dX12_readWord_27 rfl ?_
        have hw : (ltB T L q || dgB T L q) = true := by
          first
            | (have r := b2i_n0.mp c10; rw [r]; rfl)
            | (have r := b2i_n0.mp c21; rw [r, Bool.or_true])
        have hlt : q < L := by
          rcases Bool.or_eq_true_iff.mp hw with r | r
          · exact (ltB_lt r).1
          · exact (dgB_lt r).1
        rw [if_pos hw] at he
        exact ih (q + 1) (by omega) hlt he
set_option maxRecDepth 100000 in
set_option maxHeartbeats 4000000 in
theorem lp_readWord2 {Γ : Cx} {T : Nat → Nat} {L : Nat} {d n p e : Nat} (hn : n ≤ 400) (hpe : p ≤ e) (heL : e ≤ L) {J : MJ} {P : MP} (hr : ∀ j, j < e - p → (48 ≤ T (p + j) ∧ T (p + j) ≤ 57) ∨ (97 ≤ T (p + j) ∧ T (p + j) ≤ 122)) {Q : MI → MJ → MP → Prop} (h : Vc RX12 cX12_readWord 5 none (d + 5) Γ) : ∀ (f i : Nat) (I : MI), i + f = 28 → rtO T L I → (¬ kwI (cdW T (e - p) p 0) 28 0 < i → (kwI (cdW T (e - p) p 0) 28 0 = 28 → Q I J P) ∧ (kwI (cdW T (e - p) p 0) 28 0 < 28 → Q (up2 (up2 I 82 n (nI 2)) 83 n (nI (kwI (cdW T (e - p) p 0) 28 0))) J P)) → (kwI (cdW T (e - p) p 0) 28 0 < i → Q I J P) → VG Γ 0 0 61 [some (.ref 80), some (.int (nI n)), some (.int (nI p)), some (.int (nI e)), some (.int (nI i))] [] I J P (Fnl Γ (Qv Q)) := by
  have hm := kwI_lt (cdW T (e - p) p 0) 28 0 rfl
  intro f
  induction f with
  | zero =>
    intro i I hi hT h1 h2
    obtain rfl : i = 28 := by omega
    refine g_iload_4 h dX12_readWord_61 ?_
    refine g_gsK h fw_X12_58 dX12_readWord_63 ?_
    refine g_kLen h dX12_readWord_66 ?_
    refine g_icmp_ge h 111 dX12_readWord_67 rfl (fun _ => ?_) (fun c => absurd (nI_le (Nat.le_refl 28) (by decide)) c)
    refine g_vret h dX12_readWord_111 ?_
    rcases Nat.lt_or_ge (kwI (cdW T (e - p) p 0) 28 0) 28 with q | q
    · exact h2 q
    · exact (h1 (by omega)).1 (by omega)
  | succ f ih =>
    intro i I hi hT h1 h2
    have hw := wEq_iff (k := i) (by omega) hr
    have tL := hT.2.1
    refine g_iload_4 h dX12_readWord_61 ?_
    refine g_gsK h fw_X12_58 dX12_readWord_63 ?_
    refine g_kLen h dX12_readWord_66 ?_
    refine g_icmp_ge h 111 dX12_readWord_67 rfl (fun c => absurd c (nI_ge (by omega) (by decide))) (fun _ => ?_)
    refine g_aload_0 h dX12_readWord_70 ?_
    refine g_iload_2 h dX12_readWord_71 ?_
    refine g_iload_3 h dX12_readWord_72 ?_
    refine g_iload_2 h dX12_readWord_73 ?_
    refine g_isub h dX12_readWord_74 ?_
    rw [show nI e - nI p = nI (e - p) from pk_sub hpe]
    refine g_gsK h fw_X12_58 dX12_readWord_75 ?_
    refine g_iload_4 h dX12_readWord_78 ?_
    refine g_kAt h i dX12_readWord_80 rfl (by omega) ?_
    refine g_cVi3 h rok0 mi_X12_isWord dX12_readWord_81 ml_X12_62 rfl rfl rfl (Nat.le_of_ble_eq_true rfl) (Nat.le_of_ble_eq_true rfl) (sp_X12_isWord (k := i) (by omega) (by omega) hT ?_)
    refine g_if_ne h 90 dX12_readWord_84 rfl (fun c84 => ?_) (fun c84 => ?_)
    · refine g_aload_0 h dX12_readWord_90 ?_
      refine g_getC h fl_X12_36 dX12_readWord_91 rfl rfl ?_
      refine g_iload_1 h dX12_readWord_94 ?_
      refine g_iconst h dX12_readWord_95 (v := nI 2) rfl ?_
      refine g_iast h n dX12_readWord_96 rfl rfl (by omega) ?_
      refine g_aload_0 h dX12_readWord_97 ?_
      refine g_getC h fl_X12_42 dX12_readWord_98 rfl rfl ?_
      refine g_iload_1 h dX12_readWord_101 ?_
      refine g_iload_4 h dX12_readWord_102 ?_
      refine g_iast h n dX12_readWord_104 rfl rfl (by omega) ?_
      refine g_iinc_4 h dX12_readWord_105 (inc1 _) (by decide) rfl ?_
      refine g_goto h 61 dX12_readWord_108 rfl ?_
      first
        | (have q : kwI (cdW T (e - p) p 0) 28 0 = i := hw.mp (b2i_n0.mp c84)
           refine ih (i + 1) _ (by omega) ?_ (fun r => absurd (by omega) r) (fun _ => ?_)
           · exact (rdF.up (n := n) (Or.inr (Or.inl rfl)) (rdF.up (Or.inl rfl) rdF.rf)).tp hT
           · have := (h1 (by omega)).2 (by omega)
             rw [q] at this
             exact this)
        | (have q : ¬ kwI (cdW T (e - p) p 0) 28 0 = i := fun r => by rw [hw.mpr r] at c84; exact absurd c84 (by decide)
           refine ih (i + 1) I (by omega) hT (fun r => h1 (by omega)) (fun r => h2 (by omega)))
    · refine g_goto h 105 dX12_readWord_87 rfl ?_
      refine g_iinc_4 h dX12_readWord_105 (inc1 _) (by decide) rfl ?_
      refine g_goto h 61 dX12_readWord_108 rfl ?_
      first
        | (have q : kwI (cdW T (e - p) p 0) 28 0 = i := hw.mp (b2i_n0.mp c84)
           refine ih (i + 1) _ (by omega) ?_ (fun r => absurd (by omega) r) (fun _ => ?_)
           · exact (rdF.up (n := n) (Or.inr (Or.inl rfl)) (rdF.up (Or.inl rfl) rdF.rf)).tp hT
           · have := (h1 (by omega)).2 (by omega)
             rw [q] at this
             exact this)
        | (have q : ¬ kwI (cdW T (e - p) p 0) 28 0 = i := fun r => by rw [hw.mpr r] at c84; exact absurd c84 (by decide)
           refine ih (i + 1) I (by omega) hT (fun r => h1 (by omega)) (fun r => h2 (by omega)))
set_option maxRecDepth 100000 in
set_option maxHeartbeats 4000000 in
theorem sp_X12_readWord {T : Nat → Nat} {L : Nat} {d n p : Nat} (hn : n ≤ 400) (hp : p ≤ L) {I : MI} {J : MJ} {P : MP} (hT : rtO T L I) {Q : MI → MJ → MP → Prop} (hQ : ∀ I', rdF n I I' → I' 85 n = nI ((wdE T L 2000 p) - p) → I' 82 n = nI (if kwI (cdW T ((wdE T L 2000 p) - p) p 0) 28 0 < 28 then 2 else if 10 < (wdE T L 2000 p) - p then 5 else 1) → (kwI (cdW T ((wdE T L 2000 p) - p) p 0) 28 0 < 28 → I' 83 n = nI (kwI (cdW T ((wdE T L 2000 p) - p) p 0) 28 0)) → Q I' J P) : Sp yX12_readWord cX12_readWord 5 none (d + 5) [.ref 80, .int (nI n), .int (nI p)] I J P (Qv Q) := by
  obtain ⟨t1, t2, t3⟩ := id hT
  obtain ⟨w1, w2⟩ := wdE_B (T := T) 2000 p hp
  have hr : ∀ j, j < (wdE T L 2000 p) - p → (48 ≤ T (p + j) ∧ T (p + j) ≤ 57) ∨ (97 ≤ T (p + j) ∧ T (p + j) ≤ 122) := fun j hj => wd_ch (wd_run (T := T) (L := L) 2000 p (p + j) (by omega) (by omega))
  have hm := kwI_lt (cdW T ((wdE T L 2000 p) - p) p 0) 28 0 rfl
  intro Γ h
  show VG Γ 0 0 0 [some (.ref 80), some (.int (nI n)), some (.int (nI p)), none, none] [] _ _ _ _
  refine g_iload_2 h dX12_readWord_0 ?_
  refine g_istore_3 h dX12_readWord_1 (by decide) rfl ?_
  refine lp_readWord1 (e := (wdE T L 2000 p)) hT h ?_ 2000 p (by omega) hp rfl
  refine g_aload_0 h dX12_readWord_30 ?_
  refine g_getC h fl_X12_39 dX12_readWord_31 rfl rfl ?_
  refine g_iload_1 h dX12_readWord_34 ?_
  refine g_iload_3 h dX12_readWord_35 ?_
  refine g_iload_2 h dX12_readWord_36 ?_
  refine g_isub h dX12_readWord_37 ?_
  rw [pk_sub w1]
  refine g_iast h n dX12_readWord_38 rfl rfl (by omega) ?_
  refine g_aload_0 h dX12_readWord_39 ?_
  refine g_getC h fl_X12_36 dX12_readWord_40 rfl rfl ?_
  refine g_iload_1 h dX12_readWord_43 ?_
  refine g_iload_3 h dX12_readWord_44 ?_
  refine g_iload_2 h dX12_readWord_45 ?_
  refine g_isub h dX12_readWord_46 ?_
  rw [pk_sub w1]
  refine g_bipush h dX12_readWord_47 (v := nI 10) rfl ?_
  refine g_icmp_le h 56 dX12_readWord_49 rfl (fun c49 => ?_) (fun c49 => ?_)
  · refine g_iconst h dX12_readWord_56 (v := nI 1) rfl ?_
    refine g_iast h n dX12_readWord_57 rfl rfl (by omega) ?_
    refine g_iconst h dX12_readWord_58 (v := nI 0) rfl ?_
    refine g_istore_4 h dX12_readWord_59 (by decide) rfl ?_
    first
      | (refine lp_readWord2 (T := T) (L := L) hn w1 w2 hr h 28 0 _ rfl ((rdF.up (n := n) (Or.inl rfl) (rdF.up (Or.inr (Or.inr rfl)) rdF.rf)).tp hT) (fun _ => ⟨fun q => ?_, fun q => ?_⟩) (fun q => absurd q (Nat.not_lt_zero _))
         · refine hQ _ (rdF.up (Or.inl rfl) (rdF.up (Or.inr (Or.inr rfl)) rdF.rf)) (by simp [up2]) ?_ (fun r => absurd r (by omega))
           rw [up2_s, if_neg (by omega), if_neg (fun r => absurd c49 (nI_ge r (by omega)))]
         · refine hQ _ (rdF.up (Or.inr (Or.inl rfl)) (rdF.up (Or.inl rfl) (rdF.up (Or.inl rfl) (rdF.up (Or.inr (Or.inr rfl)) rdF.rf)))) (by simp [up2]) ?_ (fun _ => up2_s)
           rw [up2_o (by decide), up2_s, if_pos q])
      | (refine lp_readWord2 (T := T) (L := L) hn w1 w2 hr h 28 0 _ rfl ((rdF.up (n := n) (Or.inl rfl) (rdF.up (Or.inr (Or.inr rfl)) rdF.rf)).tp hT) (fun _ => ⟨fun q => ?_, fun q => ?_⟩) (fun q => absurd q (Nat.not_lt_zero _))
         · refine hQ _ (rdF.up (Or.inl rfl) (rdF.up (Or.inr (Or.inr rfl)) rdF.rf)) (by simp [up2]) ?_ (fun r => absurd r (by omega))
           rw [up2_s, if_neg (by omega), if_pos (Nat.lt_of_not_le (fun r => c49 (nI_le r (by decide))))]
         · refine hQ _ (rdF.up (Or.inr (Or.inl rfl)) (rdF.up (Or.inl rfl) (rdF.up (Or.inl rfl) (rdF.up (Or.inr (Or.inr rfl)) rdF.rf)))) (by simp [up2]) ?_ (fun _ => up2_s)
           rw [up2_o (by decide), up2_s, if_pos q])
  · refine g_iconst h dX12_readWord_52 (v := nI 5) rfl ?_
    refine g_goto h 57 dX12_readWord_53 rfl ?_
    refine g_iast h n dX12_readWord_57 rfl rfl (by omega) ?_
    refine g_iconst h dX12_readWord_58 (v := nI 0) rfl ?_
    refine g_istore_4 h dX12_readWord_59 (by decide) rfl ?_
    first
      | (refine lp_readWord2 (T := T) (L := L) hn w1 w2 hr h 28 0 _ rfl ((rdF.up (n := n) (Or.inl rfl) (rdF.up (Or.inr (Or.inr rfl)) rdF.rf)).tp hT) (fun _ => ⟨fun q => ?_, fun q => ?_⟩) (fun q => absurd q (Nat.not_lt_zero _))
         · refine hQ _ (rdF.up (Or.inl rfl) (rdF.up (Or.inr (Or.inr rfl)) rdF.rf)) (by simp [up2]) ?_ (fun r => absurd r (by omega))
           rw [up2_s, if_neg (by omega), if_neg (fun r => absurd c49 (nI_ge r (by omega)))]
         · refine hQ _ (rdF.up (Or.inr (Or.inl rfl)) (rdF.up (Or.inl rfl) (rdF.up (Or.inl rfl) (rdF.up (Or.inr (Or.inr rfl)) rdF.rf)))) (by simp [up2]) ?_ (fun _ => up2_s)
           rw [up2_o (by decide), up2_s, if_pos q])
      | (refine lp_readWord2 (T := T) (L := L) hn w1 w2 hr h 28 0 _ rfl ((rdF.up (n := n) (Or.inl rfl) (rdF.up (Or.inr (Or.inr rfl)) rdF.rf)).tp hT) (fun _ => ⟨fun q => ?_, fun q => ?_⟩) (fun q => absurd q (Nat.not_lt_zero _))
         · refine hQ _ (rdF.up (Or.inl rfl) (rdF.up (Or.inr (Or.inr rfl)) rdF.rf)) (by simp [up2]) ?_ (fun r => absurd r (by omega))
           rw [up2_s, if_neg (by omega), if_pos (Nat.lt_of_not_le (fun r => c49 (nI_le r (by decide))))]
         · refine hQ _ (rdF.up (Or.inr (Or.inl rfl)) (rdF.up (Or.inl rfl) (rdF.up (Or.inl rfl) (rdF.up (Or.inr (Or.inr rfl)) rdF.rf)))) (by simp [up2]) ?_ (fun _ => up2_s)
           rw [up2_o (by decide), up2_s, if_pos q])
