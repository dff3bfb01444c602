/-! The class's parser: single tests, lines, the list -/
def eqv (r r' : PRs) : Prop := r.1 = r'.1 ∧ r.2.1 = r'.2.1
theorem opL_st {K : Nat → Nat} {lo hi : Nat} {cl : Nat → Bool} {g : Nat → PRs} {f p w : Nat} {A B : EX} : opL K lo hi cl g (f + 1) p w A B = if lo ≤ K p ∧ K p ≤ hi then (if (g (p + 1)).1 then opL K lo hi cl g f (g (p + 1)).2.1 (if cl (K p) then w else K p) (if cl (K p) then A else wtE w A B) (if cl (K p) then joE (K p) B (g (p + 1)).2.2 else (g (p + 1)).2.2) else (false, (g (p + 1)).2.1, zE)) else (true, p, wtE w A B) := rfl
theorem opL_eqv {K : Nat → Nat} {lo hi : Nat} {cl : Nat → Bool} {g g' : Nat → PRs} (h : ∀ p, eqv (g p) (g' p)) (f : Nat) : ∀ (p w : Nat) (A B A' B' : EX), eqv (opL K lo hi cl g f p w A B) (opL K lo hi cl g' f p w A' B') := by
  induction f with
  | zero =>
    intro p w A B A' B'
    show eqv (true, p, wtE w A B) (true, p, wtE w A' B')
    exact ⟨rfl, rfl⟩
  | succ f ih =>
    intro p w A B A' B'
    obtain ⟨e1, e2⟩ := h (p + 1)
    by_cases hc : lo ≤ K p ∧ K p ≤ hi
    · by_cases h1 : (g' (p + 1)).1 = true
      · rw [opL_st, opL_st, if_pos hc, if_pos hc, if_pos h1, if_pos (e1.trans h1), e2]
        exact ih _ _ _ _ _ _
      · have h2 : ¬ (g (p + 1)).1 = true := by rw [e1]; exact h1
        rw [opL_st, opL_st, if_pos hc, if_pos hc, if_neg h1, if_neg h2]
        exact ⟨rfl, e2⟩
    · rw [opL_st, opL_st, if_neg hc, if_neg hc]
      exact ⟨rfl, rfl⟩
theorem opS_eqv {K : Nat → Nat} {lo hi : Nat} {cl : Nat → Bool} {g g' : Nat → PRs} (h : ∀ p, eqv (g p) (g' p)) (p : Nat) : eqv (opS K lo hi cl g p) (opS K lo hi cl g' p) := by
  unfold opS
  obtain ⟨e1, e2⟩ := h p
  rw [e1]
  by_cases h1 : (g' p).1 = true
  · rw [if_pos h1, if_pos h1, e2]
    exact opL_eqv h _ _ _ _ _ _ _
  · rw [if_neg h1, if_neg h1]
    exact ⟨rfl, e2⟩
theorem cloP_eqv {K : Nat → Nat} {k : Nat} {r r' : PRs} (h : eqv r r') : eqv (cloP K k r) (cloP K k r') := by
  unfold cloP
  obtain ⟨e1, e2⟩ := h
  rw [e1, e2]
  by_cases h1 : r'.1 = true
  · rw [if_pos h1, if_pos h1]
    by_cases h2 : K r'.2.1 = k
    · rw [if_pos h2, if_pos h2]
      exact ⟨rfl, rfl⟩
    · rw [if_neg h2, if_neg h2]
      exact ⟨rfl, rfl⟩
  · rw [if_neg h1, if_neg h1]
    exact ⟨rfl, rfl⟩
theorem pV_eqv {K : Nat → Nat} {V m V' m' : Nat → Int32} : ∀ c p, eqv (pV K V m c p) (pV K V' m' c p) := by
  have key : ∀ (b : Bool) (g g' : Nat → PRs), (∀ p, eqv (g p) (g' p)) → ∀ p, eqv (vS K V m b g p) (vS K V' m' b g' p) := by
    intro b g g' h p
    unfold vS
    by_cases h1 : K p = 29
    · rw [if_pos h1, if_pos h1]; exact ⟨rfl, rfl⟩
    rw [if_neg h1, if_neg h1]
    by_cases h2 : K p = 16
    · rw [if_pos h2, if_pos h2]; exact ⟨rfl, rfl⟩
    rw [if_neg h2, if_neg h2]
    by_cases h3 : 17 ≤ K p ∧ K p ≤ 21
    · rw [if_pos h3, if_pos h3]
      by_cases h4 : K (p + 1) = 28
      · rw [if_pos h4, if_pos h4]; exact ⟨rfl, rfl⟩
      · rw [if_neg h4, if_neg h4]; exact ⟨rfl, rfl⟩
    rw [if_neg h3, if_neg h3]
    by_cases h4 : K p = 37
    · rw [if_pos h4, if_pos h4]
      cases b with
      | true => exact ⟨(h (p + 1)).1, (h (p + 1)).2⟩
      | false => exact ⟨rfl, rfl⟩
    rw [if_neg h4, if_neg h4]
    by_cases h5 : K p = 30
    · rw [if_pos h5, if_pos h5]
      cases b with
      | true => exact cloP_eqv (opS_eqv h _)
      | false => exact ⟨rfl, rfl⟩
    rw [if_neg h5, if_neg h5]
    by_cases h6 : K p = 26 ∨ K p = 27
    · rw [if_pos h6, if_pos h6]
      by_cases h7 : b = true ∧ K (p + 1) = 30
      · rw [if_pos h7, if_pos h7]
        obtain ⟨e1, e2⟩ := cloP_eqv (k := 35) (opS_eqv (lo := 36) (hi := 39) (cl := clS) (K := K) h (p + 2))
        rw [e1, e2]
        by_cases h8 : (cloP K 35 (opS K 36 39 clS g' (p + 2))).1 = true
        · rw [if_pos h8, if_pos h8]
          obtain ⟨e3, e4⟩ := cloP_eqv (k := 31) (opS_eqv (lo := 36) (hi := 39) (cl := clS) (K := K) h (cloP K 35 (opS K 36 39 clS g' (p + 2))).2.1)
          exact ⟨e3, e4⟩
        · rw [if_neg h8, if_neg h8]; exact ⟨rfl, rfl⟩
      · rw [if_neg h7, if_neg h7]; exact ⟨rfl, rfl⟩
    rw [if_neg h6, if_neg h6]
    exact ⟨rfl, rfl⟩
  intro c
  induction c with
  | zero => exact key false _ _ (fun p => ⟨rfl, rfl⟩)
  | succ c ih => exact key true _ _ ih
theorem pS_eqv {K : Nat → Nat} {V m V' m' : Nat → Int32} (c p : Nat) : eqv (pS K V m c p) (pS K V' m' c p) := opS_eqv (pV_eqv c) p
theorem p1_eqv {K : Nat → Nat} {V m V' m' : Nat → Int32} : ∀ c p, eqv (p1 K V m c p) (p1 K V' m' c p) := by
  have key : ∀ (b : Bool) (gs gt sm gs' gt' sm' : Nat → PRs), (∀ p, eqv (gs p) (gs' p)) → (∀ p, eqv (gt p) (gt' p)) → (∀ p, eqv (sm p) (sm' p)) → ∀ p, eqv (sS K m b gs gt sm p) (sS K m' b gs' gt' sm' p) := by
    intro b gs gt sm gs' gt' sm' h h2 h3 p
    unfold sS
    by_cases q1 : K p = 23
    · rw [if_pos q1, if_pos q1]
      cases b with
      | true => exact ⟨(h (p + 1)).1, (h (p + 1)).2⟩
      | false => exact ⟨rfl, rfl⟩
    rw [if_neg q1, if_neg q1]
    by_cases q2 : K p = 32
    · rw [if_pos q2, if_pos q2]
      cases b with
      | true => exact cloP_eqv (h2 _)
      | false => exact ⟨rfl, rfl⟩
    rw [if_neg q2, if_neg q2]
    by_cases q3 : K p = 22
    · rw [if_pos q3, if_pos q3]
      by_cases h4 : K (p + 1) = 28
      · rw [if_pos h4, if_pos h4]; exact ⟨rfl, rfl⟩
      · rw [if_neg h4, if_neg h4]; exact ⟨rfl, rfl⟩
    rw [if_neg q3, if_neg q3]
    obtain ⟨e1, e2⟩ := h3 p
    rw [e1, e2]
    by_cases q4 : (sm' p).1 = true
    · rw [if_pos q4, if_pos q4]
      by_cases q5 : 40 ≤ K (sm' p).2.1 ∧ K (sm' p).2.1 ≤ 44
      · rw [if_pos q5, if_pos q5]
        exact ⟨(h3 _).1, (h3 _).2⟩
      · rw [if_neg q5, if_neg q5]; exact ⟨rfl, rfl⟩
    · rw [if_neg q4, if_neg q4]; exact ⟨rfl, rfl⟩
  intro c
  induction c with
  | zero => exact key false _ _ _ _ _ _ (fun p => ⟨rfl, rfl⟩) (fun p => ⟨rfl, rfl⟩) (pS_eqv 0)
  | succ c ih => exact key true _ _ _ _ _ _ ih (opS_eqv ih) (pS_eqv (c + 1))
theorem pT_eqv {K : Nat → Nat} {V m V' m' : Nat → Int32} (c p : Nat) : eqv (pT K V m c p) (pT K V' m' c p) := opS_eqv (p1_eqv c) p
/-! lines -/
def v0 : Nat → Int32 := fun _ => nI 0
def rtL (q : Nat) : Bool × Nat := (true, q)
def sqK (K : Nat → Nat) : List Nat → Nat → (Nat → Bool × Nat) → Bool × Nat
  | [], p, k => k p
  | a :: r, p, k => if K p = a then sqK K r (p + 1) k else (false, p)
def nms (K : Nat → Nat) : Nat → Nat → Nat
  | 0, p => p
  | f + 1, p => if K p = 28 then nms K f (p + 1) else p
def couL (K : Nat → Nat) (q : Nat) : Bool × Nat := if K q = 6 then sqK K [6, 29, 34] q rtL else sqK K [34] q rtL
def undL (K : Nat → Nat) (q : Nat) : Bool × Nat := if K q = 5 ∨ K q = 28 then couL K (q + 1) else (false, q)
def whnL (K : Nat → Nat) (q : Nat) : Bool × Nat := if K q = 15 then (if (pT K v0 v0 8 (q + 1)).1 then sqK K [34] (pT K v0 v0 8 (q + 1)).2.1 rtL else (false, (pT K v0 v0 8 (q + 1)).2.1)) else sqK K [34] q rtL
def tieL (K : Nat → Nat) (q : Nat) : Bool × Nat := if (pS K v0 v0 8 q).1 then whnL K (pS K v0 v0 8 q).2.1 else (false, (pS K v0 v0 8 q).2.1)
def pL (K : Nat → Nat) (p : Nat) : Bool × Nat :=
  if K p = 0 then sqK K [0, 28, 1, 29, 34] p rtL
  else if K p = 2 then sqK K [2, 28, 3, 28, 4] p (undL K)
  else if K p = 7 then sqK K [7, 28, 8, 28, 28] p (fun q => sqK K [34] (nms K 400 q) rtL)
  else if K p = 9 then sqK K [9, 28, 10, 29, 34] p rtL
  else if K p = 11 then sqK K [11, 28, 12, 28, 13] p (tieL K)
  else if K p = 14 then sqK K [14, 28, 12, 28] p (whnL K)
  else (false, p)
/-- the code of an order's test, and where it stands -/
def tsC (K : Nat → Nat) (V m : Nat → Int32) (I : MI) (e q z1 z' : Nat) : Prop := (q < e ∧ I 9 q = nI z1) ∧ if K q = 15 then seg m I z1 z' (pT K V m 8 (q + 1)).2.2 ∧ (pT K V m 8 (q + 1)).2.1 < e ∧ I 9 (pT K V m 8 (q + 1)).2.1 = nI z' else z' = z1
def lnC (K : Nat → Nat) (V m : Nat → Int32) (p e z z' : Nat) (I : MI) : Prop :=
  if K p = 11 then ∃ z1, seg m I z z1 (pS K V m 8 (p + 5)).2.2 ∧ z1 ≤ z' ∧ tsC K V m I e (pS K V m 8 (p + 5)).2.1 z1 z'
  else if K p = 14 then tsC K V m I e (p + 4) z z' else z' = z
theorem tsC.st {K : Nat → Nat} {V m : Nat → Int32} {I I' : MI} {e q z1 z' : Nat} (h : tsC K V m I e q z1 z') (r : paR e z' I I') : tsC K V m I' e q z1 z' := by
  obtain ⟨⟨a, b⟩, c⟩ := h
  refine ⟨⟨a, (r.2.1 q a).trans b⟩, ?_⟩
  by_cases k : K q = 15
  · rw [if_pos k] at c ⊢
    exact ⟨r.sg c.1 (Nat.le_refl _), c.2.1, (r.2.1 _ c.2.1).trans c.2.2⟩
  · rw [if_neg k] at c ⊢
    exact c
theorem lnC.st {K : Nat → Nat} {V m : Nat → Int32} {I I' : MI} {p e z z' : Nat} (h : lnC K V m p e z z' I) (r : paR e z' I I') : lnC K V m p e z z' I' := by
  unfold lnC at h ⊢
  by_cases k : K p = 11
  · rw [if_pos k] at h ⊢
    obtain ⟨z1, a, b, c⟩ := h
    exact ⟨z1, r.sg a b, b, c.st r⟩
  · rw [if_neg k] at h ⊢
    by_cases k2 : K p = 14
    · rw [if_pos k2] at h ⊢
      exact h.st r
    · rw [if_neg k2] at h ⊢
      exact h
def prG (K : Nat → Nat) : Nat → Nat → Bool × Nat
  | 0, p => (decide (K p = 45), p)
  | f + 1, p => if K p = 45 then (true, p) else if (pL K p).1 then prG K f (pL K p).2 else (false, (pL K p).2)
def lnsC (K : Nat → Nat) (V m : Nat → Int32) (I : MI) : Nat → Nat → Nat → Prop
  | 0, p, z => I 77 2 = nI z ∧ z ≤ p
  | f + 1, p, z => if K p = 45 then I 77 2 = nI z ∧ z ≤ p else ∃ z', z ≤ z' ∧ z' ≤ (pL K p).2 ∧ lnC K V m p (pL K p).2 z z' I ∧ lnsC K V m I f (pL K p).2 z'
theorem nms_B {K : Nat → Nat} {M : Nat} (hM : 45 ≤ K M) : ∀ f p, p ≤ M → p ≤ nms K f p ∧ nms K f p ≤ M := by
  intro f
  induction f with
  | zero => exact fun p hp => ⟨Nat.le_refl _, hp⟩
  | succ f ih =>
    intro p hp
    by_cases h : K p = 28
    · have := K_lt hM hp h (by decide)
      rw [nms, if_pos h]
      obtain ⟨a, b⟩ := ih (p + 1) (by omega)
      exact ⟨by omega, b⟩
    · rw [nms, if_neg h]
      exact ⟨Nat.le_refl _, hp⟩

set_option maxRecDepth 100000 in
set_option maxHeartbeats 8000000 in
theorem cs_singleAt {K : Nat → Nat} {V m : Nat → Int32} {M : Nat} (b : Bool) (gs gt sm : Nat → PRs) (hgs : b = true → gB M gs) (hgt : b = true → gB M gt) (hsm : gB M sm) (D : Nat) (dep : Int32) (hdl : dep ≤ nI 8) (hd8 : nI 8 ≤ dep ↔ b = false) (hG : b = true → cP K V m M yX4_singleAt cX4_singleAt 3 D (dep + nI 1) gs) (hT : b = true → cP K V m M yX4_testAt cX4_testAt 6 D (dep + nI 1) gt) (hS : cP K V m M yX4_sumAt cX4_sumAt 7 D dep sm) : cP K V m M yX4_singleAt cX4_singleAt 3 (D + 1) dep (sS K m b gs gt sm) := by
  intro p z I J P hK hP ha hp hz Q h1 h0 Γ h
  have hK' := hK
  obtain ⟨k1, k2, k3, k4, k5⟩ := hK'
  have kp := (k1 p hp).2
  have ha' := ha
  obtain ⟨ha1, ha2, ha3⟩ := ha'
  have c7 : K p = 23 ∨ K p = 32 ∨ K p = 22 ∨ (¬ K p = 23 ∧ ¬ K p = 32 ∧ ¬ K p = 22) := by omega
  unfold sS at h1 h0
  show VG Γ 0 0 0 [some (.ref 8), some (.int dep), none] [] _ _ _ _
  refine g_iload_1 h dX4_singleAt_0 ?_
  refine g_bipush h dX4_singleAt_1 (v := nI 8) rfl ?_
  refine g_icmp_le h 8 dX4_singleAt_3 rfl (fun _ => ?_) (fun c => absurd hdl c)
  refine g_aload_0 h dX4_singleAt_8 ?_
  refine g_getI h fl_X4_17 dX4_singleAt_9 rfl rfl ?_
  rw [ha1]
  rcases c7 with e23 | e32 | e22 | eo
  · rw [if_pos e23] at h1 h0
    refine g_lk h (K p) 48 dX4_singleAt_12 rfl (by omega) (by decide) ((by decide : ∀ k : Nat, k < 49 → k = 23 → Op.lookupswitch.offset #[(22, 120), (23, 36), (32, 80)].toList 162 (k : Int) = 36) _ kp e23) rfl ?_
    refine g_iload_1 h dX4_singleAt_48 ?_
    refine g_bipush h dX4_singleAt_49 (v := nI 8) rfl ?_
    refine g_icmp_ge h 90 dX4_singleAt_51 rfl (fun c51 => ?_) (fun c51 => ?_)
    · refine g_iconst h dX4_singleAt_90 (v := nI 0) rfl ?_
      refine g_zret h dX4_singleAt_91 (by first | rfl | exact nar_b2i _) ?_
      have hb : b = false := hd8.mp c51
      subst hb
      rw [if_neg (by decide)] at h1 h0
      exact h0 rfl I z paR.rf ha (by omega) (by show z + p ≤ z + p; omega)
    · have hb : b = true := by
        cases b with
        | true => rfl
        | false => exact absurd (hd8.mpr rfl) c51
      subst hb
      rw [if_pos rfl] at h1 h0
      refine g_aload_0 h dX4_singleAt_54 ?_
      refine g_bipush h dX4_singleAt_55 (v := nI 23) rfl ?_
      refine g_cVi1 h rok0 mi_X4_take dX4_singleAt_57 ml_X4_45 rfl rfl rfl (Nat.le_of_ble_eq_true rfl) (Nat.le_of_ble_eq_true rfl) (sp_X4_take (k := 23) hK hP ha hp (by omega) (fun e1 I1 r1 a1 n1 => ?_) (fun e => absurd e23 e))
      · have pM : p < M := K_lt2 k5 hp (by omega)
        refine g_if_eq h 90 dX4_singleAt_60 rfl (fun c => absurd c (by decide)) (fun _ => ?_)
        refine g_aload_0 h dX4_singleAt_63 ?_
        refine g_iload_1 h dX4_singleAt_64 ?_
        refine g_iconst h dX4_singleAt_65 (v := nI 1) rfl ?_
        refine g_iadd h dX4_singleAt_66 ?_
        refine g_cVi1 h rok0 mi_X4_singleAt dX4_singleAt_67 ml_X4_58 rfl rfl rfl (Nat.le_of_ble_eq_true rfl) (Nat.le_of_ble_eq_true rfl) (hG rfl (p + 1) z I1 J P (r1.ps hK) hP a1 (by omega) (by omega) _ (fun e2 I2 z2 r2 a2 l1 l2 s2 => ?_) (fun e2 I2 z2 r2 a2 l1 l2 => ?_))
        · obtain ⟨b1, b2, b3⟩ := hgs rfl (p + 1) (by omega)
          have b4 := b3 e2
          rw [e2] at h1 h0
          refine g_if_eq h 90 dX4_singleAt_70 rfl (fun c => absurd c (by decide)) (fun _ => ?_)
          refine g_aload_0 h dX4_singleAt_73 ?_
          refine g_getP h fl_X4_28 dX4_singleAt_74 rfl rfl (by assumption) ?_
          refine g_bipush h dX4_singleAt_77 (v := nI 23) rfl ?_
          refine g_iconst h dX4_singleAt_79 (v := nI 0) rfl ?_
          refine g_cVi2 h rok0 mi_X1_append dX4_singleAt_80 ml_X4_61 rfl rfl rfl (Nat.le_of_ble_eq_true rfl) (Nat.le_of_ble_eq_true rfl) (sp_X1_append a2 (by omega) (fun I3 r3 a3 s1 s3 => ?_))
          · refine g_if_eq h 90 dX4_singleAt_83 rfl (fun c => absurd c (by decide)) (fun _ => ?_)
            refine g_iconst h dX4_singleAt_86 (v := nI 1) rfl ?_
            refine g_goto h 91 dX4_singleAt_87 rfl ?_
            refine g_zret h dX4_singleAt_91 (by first | rfl | exact nar_b2i _) ?_
            refine h1 rfl I3 (z2 + 1) ((r1.tr r2 (by omega) (by omega)).tr r3 (by omega) (by omega)) a3 (by omega) (by show z2 + 1 + p ≤ z + (gs (p + 1)).2.1; omega) ?_
            exact seg_not (r3.sg s2 (by omega)) s1
        · obtain ⟨b1, b2, b3⟩ := hgs rfl (p + 1) (by omega)
          rw [e2] at h1 h0
          refine g_if_eq h 90 dX4_singleAt_70 rfl (fun _ => ?_) (fun c => absurd c (by decide))
          refine g_iconst h dX4_singleAt_90 (v := nI 0) rfl ?_
          refine g_zret h dX4_singleAt_91 (by first | rfl | exact nar_b2i _) ?_
          exact h0 rfl I2 z2 (r1.tr r2 (by omega) (by omega)) a2 l1 (by show z2 + p ≤ z + (gs (p + 1)).2.1; omega)
  · have e23 : ¬ K p = 23 := by omega
    rw [if_neg e23, if_pos e32] at h1 h0
    refine g_lk h (K p) 92 dX4_singleAt_12 rfl (by omega) (by decide) ((by decide : ∀ k : Nat, k < 49 → k = 32 → Op.lookupswitch.offset #[(22, 120), (23, 36), (32, 80)].toList 162 (k : Int) = 80) _ kp e32) rfl ?_
    refine g_iload_1 h dX4_singleAt_92 ?_
    refine g_bipush h dX4_singleAt_93 (v := nI 8) rfl ?_
    refine g_icmp_ge h 130 dX4_singleAt_95 rfl (fun c95 => ?_) (fun c95 => ?_)
    · refine g_iconst h dX4_singleAt_130 (v := nI 0) rfl ?_
      refine g_zret h dX4_singleAt_131 (by first | rfl | exact nar_b2i _) ?_
      have hb : b = false := hd8.mp c95
      subst hb
      rw [if_neg (by decide)] at h1 h0
      exact h0 rfl I z paR.rf ha (by omega) (by show z + p ≤ z + p; omega)
    · have hb : b = true := by
        cases b with
        | true => rfl
        | false => exact absurd (hd8.mpr rfl) c95
      subst hb
      rw [if_pos rfl] at h1 h0
      refine g_aload_0 h dX4_singleAt_98 ?_
      refine g_bipush h dX4_singleAt_99 (v := nI 32) rfl ?_
      refine g_cVi1 h rok0 mi_X4_take dX4_singleAt_101 ml_X4_45 rfl rfl rfl (Nat.le_of_ble_eq_true rfl) (Nat.le_of_ble_eq_true rfl) (sp_X4_take (k := 32) hK hP ha hp (by omega) (fun e1 I1 r1 a1 n1 => ?_) (fun e => absurd e32 e))
      · have pM : p < M := K_lt2 k5 hp (by omega)
        refine g_if_eq h 130 dX4_singleAt_104 rfl (fun c => absurd c (by decide)) (fun _ => ?_)
        refine g_aload_0 h dX4_singleAt_107 ?_
        refine g_iload_1 h dX4_singleAt_108 ?_
        refine g_iconst h dX4_singleAt_109 (v := nI 1) rfl ?_
        refine g_iadd h dX4_singleAt_110 ?_
        refine g_cVi1 h rok0 mi_X4_testAt dX4_singleAt_111 ml_X4_55 rfl rfl rfl (Nat.le_of_ble_eq_true rfl) (Nat.le_of_ble_eq_true rfl) (hT rfl (p + 1) z I1 J P (r1.ps hK) hP a1 (by omega) (by omega) _ (fun e2 I2 z2 r2 a2 l1 l2 s2 => ?_) (fun e2 I2 z2 r2 a2 l1 l2 => ?_))
        · obtain ⟨b1, b2, b3⟩ := hgt rfl (p + 1) (by omega)
          have b4 := b3 e2
          unfold cloP at h1 h0
          rw [if_pos e2] at h1 h0
          refine g_if_eq h 130 dX4_singleAt_114 rfl (fun c => absurd c (by decide)) (fun _ => ?_)
          refine g_aload_0 h dX4_singleAt_117 ?_
          refine g_bipush h dX4_singleAt_118 (v := nI 33) rfl ?_
          refine g_cVi1 h rok0 mi_X4_take dX4_singleAt_120 ml_X4_45 rfl rfl rfl (Nat.le_of_ble_eq_true rfl) (Nat.le_of_ble_eq_true rfl) (sp_X4_take ((r1.tr r2 (by omega) (by omega)).ps hK) hP a2 b2 (by omega) (fun e3 I3 r3 a3 n3 => ?_) (fun e3 => ?_))
          · rw [if_pos e3] at h1 h0
            refine g_if_eq h 130 dX4_singleAt_123 rfl (fun c => absurd c (by decide)) (fun _ => ?_)
            refine g_iconst h dX4_singleAt_126 (v := nI 1) rfl ?_
            refine g_goto h 131 dX4_singleAt_127 rfl ?_
            refine g_zret h dX4_singleAt_131 (by first | rfl | exact nar_b2i _) ?_
            exact h1 rfl I3 z2 ((r1.tr r2 (by omega) (by omega)).tr r3 (by omega) (by omega)) a3 l1 (by show z2 + p ≤ z + ((gt (p + 1)).2.1 + 1); omega) (r3.sg s2 (by omega))
          · rw [if_neg e3] at h1 h0
            refine g_if_eq h 130 dX4_singleAt_123 rfl (fun _ => ?_) (fun c => absurd c (by decide))
            refine g_iconst h dX4_singleAt_130 (v := nI 0) rfl ?_
            refine g_zret h dX4_singleAt_131 (by first | rfl | exact nar_b2i _) ?_
            exact h0 rfl I2 z2 (r1.tr r2 (by omega) (by omega)) a2 l1 (by show z2 + p ≤ z + (gt (p + 1)).2.1; omega)
        · obtain ⟨b1, b2, b3⟩ := hgt rfl (p + 1) (by omega)
          unfold cloP at h1 h0
          rw [if_neg (by rw [e2]; decide)] at h1 h0
          refine g_if_eq h 130 dX4_singleAt_114 rfl (fun _ => ?_) (fun c => absurd c (by decide))
          refine g_iconst h dX4_singleAt_130 (v := nI 0) rfl ?_
          refine g_zret h dX4_singleAt_131 (by first | rfl | exact nar_b2i _) ?_
          exact h0 rfl I2 z2 (r1.tr r2 (by omega) (by omega)) a2 l1 (by show z2 + p ≤ z + (gt (p + 1)).2.1; omega)
  · have e23 : ¬ K p = 23 := by omega
    have e32 : ¬ K p = 32 := by omega
    rw [if_neg e23, if_neg e32, if_pos e22] at h1 h0
    refine g_lk h (K p) 132 dX4_singleAt_12 rfl (by omega) (by decide) ((by decide : ∀ k : Nat, k < 49 → k = 22 → Op.lookupswitch.offset #[(22, 120), (23, 36), (32, 80)].toList 162 (k : Int) = 120) _ kp e22) rfl ?_
    refine g_aload_0 h dX4_singleAt_132 ?_
    refine g_bipush h dX4_singleAt_133 (v := nI 22) rfl ?_
    refine g_cVi1 h rok0 mi_X4_take dX4_singleAt_135 ml_X4_45 rfl rfl rfl (Nat.le_of_ble_eq_true rfl) (Nat.le_of_ble_eq_true rfl) (sp_X4_take (k := 22) hK hP ha hp (by omega) (fun e1 I1 r1 a1 n1 => ?_) (fun e => absurd e22 e))
    · have pM : p < M := K_lt2 k5 hp (by omega)
      have ez : z < 400 := by omega
      refine g_if_eq h 172 dX4_singleAt_138 rfl (fun c => absurd c (by decide)) (fun _ => ?_)
      refine g_aload_0 h dX4_singleAt_141 ?_
      refine g_bipush h dX4_singleAt_142 (v := nI 28) rfl ?_
      refine g_cVi1 h rok0 mi_X4_take dX4_singleAt_144 ml_X4_45 rfl rfl rfl (Nat.le_of_ble_eq_true rfl) (Nat.le_of_ble_eq_true rfl) (sp_X4_take (k := 28) (r1.ps hK) hP a1 (by omega) (by omega) (fun e2 I2 r2 a2 n2 => ?_) (fun e2 => ?_))
      · rw [if_pos e2] at h1 h0
        refine g_if_eq h 172 dX4_singleAt_147 rfl (fun c => absurd c (by decide)) (fun _ => ?_)
        refine g_aload_0 h dX4_singleAt_150 ?_
        refine g_getP h fl_X4_28 dX4_singleAt_151 rfl rfl (by assumption) ?_
        refine g_bipush h dX4_singleAt_154 (v := nI 22) rfl ?_
        refine g_aload_0 h dX4_singleAt_156 ?_
        refine g_getI h fl_X4_21 dX4_singleAt_157 rfl rfl ?_
        refine g_iconst h dX4_singleAt_160 (v := nI 1) rfl ?_
        refine g_isub h dX4_singleAt_161 ?_
        rw [a2.2.1, show nI (p + 1 + 1) - nI 1 = nI (p + 1) from nI_sub1 (p + 1)]
        refine g_cVi2 h rok0 mi_X1_append dX4_singleAt_162 ml_X4_61 rfl rfl rfl (Nat.le_of_ble_eq_true rfl) (Nat.le_of_ble_eq_true rfl) (sp_X1_append a2 ez (fun I3 r3 a3 s1 s2 => ?_))
        · refine g_if_eq h 172 dX4_singleAt_165 rfl (fun c => absurd c (by decide)) (fun _ => ?_)
          refine g_iconst h dX4_singleAt_168 (v := nI 1) rfl ?_
          refine g_goto h 173 dX4_singleAt_169 rfl ?_
          refine g_zret h dX4_singleAt_173 (by first | rfl | exact nar_b2i _) ?_
          refine h1 rfl I3 (z + 1) ((r1.tr r2 (by omega) (by omega)).tr r3 (by omega) (by omega)) a3 (by omega) (by show z + 1 + p ≤ z + (p + 2); omega) ?_
          refine (seg_leaf s1 (Or.inl (by decide)) s2 (fun a b => ⟨p + 1, by omega, rfl⟩)).eq (fun ev L => ?_)
          show evm m ev 22 (nI (p + 1)) :: L = ev 22 (m (p + 1)) :: L
          rw [evm, if_neg (by omega), if_neg (by omega), ix_n (by omega)]
      · rw [if_neg e2] at h1 h0
        refine g_if_eq h 172 dX4_singleAt_147 rfl (fun _ => ?_) (fun c => absurd c (by decide))
        refine g_iconst h dX4_singleAt_172 (v := nI 0) rfl ?_
        refine g_zret h dX4_singleAt_173 (by first | rfl | exact nar_b2i _) ?_
        exact h0 rfl I1 z r1 a1 (by omega) (by show z + p ≤ z + (p + 1); omega)
  · obtain ⟨e23, e32, e22⟩ := id eo
    rw [if_neg e23, if_neg e32, if_neg e22] at h1 h0
    refine g_lk h (K p) 174 dX4_singleAt_12 rfl (by omega) (by decide) ((by decide : ∀ k : Nat, k < 49 → (¬ k = 23 ∧ ¬ k = 32 ∧ ¬ k = 22) → Op.lookupswitch.offset #[(22, 120), (23, 36), (32, 80)].toList 162 (k : Int) = 162) _ kp eo) rfl ?_
    refine g_aload_0 h dX4_singleAt_174 ?_
    refine g_iload_1 h dX4_singleAt_175 ?_
    refine g_cVi1 h rok0 mi_X4_sumAt dX4_singleAt_176 ml_X4_52 rfl rfl rfl (Nat.le_of_ble_eq_true rfl) (Nat.le_of_ble_eq_true rfl) (hS p z I J P hK hP ha hp hz _ (fun e2 I2 z2 r2 a2 l1 l2 s2 => ?_) (fun e2 I2 z2 r2 a2 l1 l2 => ?_))
    · obtain ⟨b1, b2, b3⟩ := hsm p hp
      have b4 := b3 e2
      rw [if_pos e2] at h1 h0
      have kq := (k1 _ b2).2
      refine g_if_ne h 184 dX4_singleAt_179 rfl (fun _ => ?_) (fun c => absurd c (by decide))
      refine g_aload_0 h dX4_singleAt_184 ?_
      refine g_getI h fl_X4_17 dX4_singleAt_185 rfl rfl ?_
      rw [a2.1]
      refine g_istore_2 h dX4_singleAt_188 (by decide) rfl ?_
      refine g_iload_2 h dX4_singleAt_189 ?_
      refine g_bipush h dX4_singleAt_190 (v := nI 40) rfl ?_
      refine g_icmp_lt h 233 dX4_singleAt_192 rfl (fun c192 => ?_) (fun c192 => ?_)
      · refine g_iconst h dX4_singleAt_233 (v := nI 0) rfl ?_
        refine g_zret h dX4_singleAt_234 (by first | rfl | exact nar_b2i _) ?_
        rw [if_neg (by
          first
            | exact fun q => absurd c192 (nI_nlt q.1 (by omega))
            | exact fun q => absurd c198 (nI_nlt q.2 (by decide)))] at h1 h0
        exact h0 rfl I2 z2 r2 a2 l1 (by show z2 + p ≤ z + (sm p).2.1; omega)
      · refine g_iload_2 h dX4_singleAt_195 ?_
        refine g_bipush h dX4_singleAt_196 (v := nI 44) rfl ?_
        refine g_icmp_gt h 233 dX4_singleAt_198 rfl (fun c198 => ?_) (fun c198 => ?_)
        · refine g_iconst h dX4_singleAt_233 (v := nI 0) rfl ?_
          refine g_zret h dX4_singleAt_234 (by first | rfl | exact nar_b2i _) ?_
          rw [if_neg (by
            first
              | exact fun q => absurd c192 (nI_nlt q.1 (by omega))
              | exact fun q => absurd c198 (nI_nlt q.2 (by decide)))] at h1 h0
          exact h0 rfl I2 z2 r2 a2 l1 (by show z2 + p ≤ z + (sm p).2.1; omega)
        · have eq : 40 ≤ K (sm p).2.1 ∧ K (sm p).2.1 ≤ 44 := ⟨leN (Int32.not_lt.mp c192) (by decide) (by omega), leN (Int32.not_lt.mp c198) (by omega) (by decide)⟩
          rw [if_pos eq] at h1 h0
          have q2M := K_lt2 k5 b2 (by omega)
          refine g_aload_0 h dX4_singleAt_201 ?_
          refine g_iload_2 h dX4_singleAt_202 ?_
          refine g_cVi1 h rok0 mi_X4_take dX4_singleAt_203 ml_X4_45 rfl rfl rfl (Nat.le_of_ble_eq_true rfl) (Nat.le_of_ble_eq_true rfl) (sp_X4_take (k := K (sm p).2.1) (r2.ps hK) hP a2 b2 (by omega) (fun e3 I3 r3 a3 n3 => ?_) (fun e3 => absurd rfl e3))
          · refine g_if_eq h 233 dX4_singleAt_206 rfl (fun c => absurd c (by decide)) (fun _ => ?_)
            refine g_aload_0 h dX4_singleAt_209 ?_
            refine g_iload_1 h dX4_singleAt_210 ?_
            refine g_cVi1 h rok0 mi_X4_sumAt dX4_singleAt_211 ml_X4_52 rfl rfl rfl (Nat.le_of_ble_eq_true rfl) (Nat.le_of_ble_eq_true rfl) (hS ((sm p).2.1 + 1) z2 I3 J P ((r2.tr r3 (by omega) (by omega)).ps hK) hP a3 (by omega) (by omega) _ (fun e4 I4 z4 r4 a4 l3 l4 s4 => ?_) (fun e4 I4 z4 r4 a4 l3 l4 => ?_))
            · have rr := (r2.tr r3 (by omega) (by omega)).tr r4 (by omega) (by omega)
              obtain ⟨d1, d2, d3⟩ := hsm ((sm p).2.1 + 1) (by omega)
              have d4 := d3 e4
              rw [e4] at h1 h0
              refine g_if_eq h 233 dX4_singleAt_214 rfl (fun c => absurd c (by decide)) (fun _ => ?_)
              refine g_aload_0 h dX4_singleAt_217 ?_
              refine g_getP h fl_X4_28 dX4_singleAt_218 rfl rfl (by assumption) ?_
              refine g_iload_2 h dX4_singleAt_221 ?_
              refine g_iconst h dX4_singleAt_222 (v := nI 0) rfl ?_
              refine g_cVi2 h rok0 mi_X1_append dX4_singleAt_223 ml_X4_61 rfl rfl rfl (Nat.le_of_ble_eq_true rfl) (Nat.le_of_ble_eq_true rfl) (sp_X1_append a4 (by omega) (fun I5 r5 a5 s5 s6 => ?_))
              · refine g_if_eq h 233 dX4_singleAt_226 rfl (fun c => absurd c (by decide)) (fun _ => ?_)
                refine g_iconst h dX4_singleAt_229 (v := nI 1) rfl ?_
                refine g_goto h 234 dX4_singleAt_230 rfl ?_
                refine g_zret h dX4_singleAt_234 (by first | rfl | exact nar_b2i _) ?_
                refine h1 rfl I5 (z4 + 1) (rr.tr r5 (by omega) (by omega)) a5 (by omega) (by show z4 + 1 + p ≤ z + (sm ((sm p).2.1 + 1)).2.1; omega) ?_
                exact seg_jo ((r3.tr (r4.tr r5 (by omega) (by omega)) (by omega) (by omega)).sg s2 (by omega)) (r5.sg s4 (by omega)) (Or.inr (by omega)) s5
            · have rr := (r2.tr r3 (by omega) (by omega)).tr r4 (by omega) (by omega)
              obtain ⟨d1, d2, d3⟩ := hsm ((sm p).2.1 + 1) (by omega)
              rw [e4] at h1 h0
              refine g_if_eq h 233 dX4_singleAt_214 rfl (fun _ => ?_) (fun c => absurd c (by decide))
              refine g_iconst h dX4_singleAt_233 (v := nI 0) rfl ?_
              refine g_zret h dX4_singleAt_234 (by first | rfl | exact nar_b2i _) ?_
              exact h0 rfl I4 z4 rr a4 (by omega) (by show z4 + p ≤ z + (sm ((sm p).2.1 + 1)).2.1; omega)
    · rw [if_neg (by rw [e2]; decide)] at h1 h0
      refine g_if_ne h 184 dX4_singleAt_179 rfl (fun c => absurd c (by decide)) (fun _ => ?_)
      refine g_iconst h dX4_singleAt_182 (v := nI 0) rfl ?_
      refine g_zret h dX4_singleAt_183 (by first | rfl | exact nar_b2i _) ?_
      exact h0 rfl I2 z2 r2 a2 l1 (by show z2 + p ≤ z + (sm p).2.1; omega)
theorem cP_D {K : Nat → Nat} {V m : Nat → Int32} {M : Nat} {y : MethodName} {cb : ByteArray} {nL D D' : Nat} {dep dep' : Int32} {g : Nat → PRs} (h : cP K V m M y cb nL D dep g) (e : D = D') (e2 : dep = dep') : cP K V m M y cb nL D' dep' g := e ▸ e2 ▸ h
theorem cs_V {K : Nat → Nat} {V m : Nat → Int32} {M : Nat} (hM : 45 ≤ K M) : ∀ (c d : Nat), c ≤ 8 → cP K V m M yX4_valueAt cX4_valueAt 3 (d + 2 * c + 1) (nI (8 - c)) (pV K V m c) := by
  intro c
  induction c with
  | zero => exact fun d _ => cs_valueAt false _ (fun q => Bool.noConfusion q) (d + 2 * 0) (nI 8) (by decide) ⟨fun _ => rfl, fun _ => by decide⟩ (fun q => Bool.noConfusion q) (fun q => Bool.noConfusion q)
  | succ c ih =>
    intro d hc
    refine cP_D (cs_valueAt true (pV K V m c) (fun _ => pV_B hM c) (d + 2 * c + 2) (nI (8 - (c + 1))) (nI_le (by omega) (by decide)) ⟨fun q => absurd q (nI_ge (by omega) (by decide)), fun q => Bool.noConfusion q⟩ (fun _ => cP_D (ih (d + 1) (by omega)) (by omega) (sub8 hc).symm) (fun _ => cP_D (cs_sumAt (pV_B hM c) (ih d (by omega))) (by omega) (sub8 hc).symm)) (by omega) rfl
theorem cs_S {K : Nat → Nat} {V m : Nat → Int32} {M : Nat} (hM : 45 ≤ K M) (c d : Nat) (hc : c ≤ 8) : cP K V m M yX4_sumAt cX4_sumAt 7 (d + 2 * c + 2) (nI (8 - c)) (pS K V m c) := cs_sumAt (pV_B hM c) (cs_V hM c d hc)
theorem cs_1 {K : Nat → Nat} {V m : Nat → Int32} {M : Nat} (hM : 45 ≤ K M) : ∀ (c d : Nat), c ≤ 8 → cP K V m M yX4_singleAt cX4_singleAt 3 (d + 2 * c + 3) (nI (8 - c)) (p1 K V m c) := by
  intro c
  induction c with
  | zero => exact fun d _ => cs_singleAt false _ _ _ (fun q => Bool.noConfusion q) (fun q => Bool.noConfusion q) (pS_B hM 0) (d + 2 * 0 + 2) (nI 8) (by decide) ⟨fun _ => rfl, fun _ => by decide⟩ (fun q => Bool.noConfusion q) (fun q => Bool.noConfusion q) (cs_S hM 0 d (by decide))
  | succ c ih =>
    intro d hc
    refine cP_D (cs_singleAt true (p1 K V m c) (opS K 24 25 clT (p1 K V m c)) (pS K V m (c + 1)) (fun _ => p1_B hM c) (fun _ => opS_B hM (by decide) (p1_B hM c)) (pS_B hM (c + 1)) (d + 2 * c + 4) (nI (8 - (c + 1))) (nI_le (by omega) (by decide)) ⟨fun q => absurd q (nI_ge (by omega) (by decide)), fun q => Bool.noConfusion q⟩ (fun _ => cP_D (ih (d + 1) (by omega)) (by omega) (sub8 hc).symm) (fun _ => cP_D (cs_testAt (p1_B hM c) (ih d (by omega))) (by omega) (sub8 hc).symm) (cP_D (cs_S hM (c + 1) d hc) (by omega) rfl)) (by omega) rfl
theorem cs_T {K : Nat → Nat} {V m : Nat → Int32} {M : Nat} (hM : 45 ≤ K M) (c d : Nat) (hc : c ≤ 8) : cP K V m M yX4_testAt cX4_testAt 6 (d + 2 * c + 4) (nI (8 - c)) (pT K V m c) := cs_testAt (p1_B hM c) (cs_1 hM c d hc)
