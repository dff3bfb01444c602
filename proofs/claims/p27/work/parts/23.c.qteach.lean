/-! What the lines of the law's text tell -/
def nmB (K : Nat → Nat) (T : MI) : Bool := (List.range 4).all fun i => (List.range (ix (T 0 i))).all fun k => decide (K (ix (T (11 + i) k)) = 28)
def kchk (K : Nat → Nat) (p : Nat) : Bool :=
  if K p = 0 ∨ K p = 9 then decide (K (p + 1) = 28)
  else if K p = 2 then decide (K (p + 1) = 28) && decide (K (p + 3) = 28) && (decide (K (p + 5) = 28) || decide (K (p + 5) = 5))
  else if K p = 7 then decide (K (p + 1) = 28) && (List.range (nms K 400 (p + 5) - (p + 3))).all (fun j => decide (K (p + 3 + j) = 28))
  else true
def V1q : Nat → Int32 := fun _ => nI 1
def smc (K wd : Nat → Nat) : Nat → MI → Nat → Bool
  | 0, _, _ => true
  | f + 1, T, p => if K p = 45 then true else nmB K T && kchk K p && decide (lerr K V1q wd T p = none) && smc K wd f (lsT K V1q wd v0 T p) (pL K p).2
def RT (T T' : MI) : Prop := T 0 = T' 0 ∧ T 3 = T' 3 ∧ T 5 = T' 5 ∧ T 11 = T' 11 ∧ T 12 = T' 12 ∧ T 13 = T' 13 ∧ T 14 = T' 14
def c6T (T : MI) : Prop := ∀ k, k < nK T → ∃ c, c < 2 ^ 30 ∧ T 6 k = nI c
theorem RT.nm {T T' : MI} (h : RT T T') : ∀ i, i < 4 → T (11 + i) = T' (11 + i) := by
  obtain ⟨-, -, -, h1, h2, h3, h4⟩ := h
  intro i hi
  rcases (show i = 0 ∨ i = 1 ∨ i = 2 ∨ i = 3 by omega) with rfl | rfl | rfl | rfl
  · exact h1
  · exact h2
  · exact h3
  · exact h4
theorem iq1 (p : Nat) : inB (V1q p) (nI 0) (nI 99) = true := by
  show inB (nI 1) (nI 0) (nI 99) = true
  decide +kernel
theorem iq2 (p : Nat) : inB (V1q p) (nI 0) (nI 9999) = true := by
  show inB (nI 1) (nI 0) (nI 9999) = true
  decide +kernel
theorem iq3 (p : Nat) : inB (V1q p) (nI 1) (nI 9) = true := by
  show inB (nI 1) (nI 1) (nI 9) = true
  decide +kernel
section QT
variable {K wd wd0 : Nat → Nat} {V : Nat → Int32}
theorem lkT_r (ag : ∀ t, K t = 28 → wd t = wd0 t) {T T' : MI} (h : RT T T') (hn : nmB K T' = true) {i t : Nat} (hi : i < 4) (ht : K t = 28) : lkT wd T i t = lkT wd0 T' i t := by
  unfold lkT lkW
  rw [h.1, h.nm i hi]
  refine frst_ext _ _ (fun j _ hj => ?_)
  have hj : j < ix (T' 0 i) := by omega
  simp only [nmB, List.all_eq_true, List.mem_range, decide_eq_true_eq] at hn
  rw [ag _ (hn i hi j hj), ag t ht]
theorem toE_x {own own' : Nat → Int32} {b : Nat} : ∀ (f s : Nat) (row : Nat → Int32) (many : Nat), (∀ j, j < f → own (s + j) = own' (s + j)) → toE own b f s row many = toE own' b f s row many
  | 0, _, _, _, _ => rfl
  | f + 1, s, row, many, h => by
    have h0 := h 0 (by omega)
    rw [Nat.add_zero] at h0
    have ih : ∀ r m, toE own b f (s + 1) r m = toE own' b f (s + 1) r m := fun r m => toE_x f (s + 1) r m (fun j hj => by rw [show s + 1 + j = s + (j + 1) by omega]; exact h (j + 1) (by omega))
    rw [toE, toE, h0]
    simp only [ih]
theorem toF_x {own own' : Nat → Int32} {b : Nat} : ∀ (f s : Nat) (row : Nat → Int32) (many : Nat), (∀ j, j < f → own (s + j) = own' (s + j)) → toF own b f s row many = toF own' b f s row many
  | 0, _, _, _, _ => rfl
  | f + 1, s, row, many, h => by
    have h0 := h 0 (by omega)
    rw [Nat.add_zero] at h0
    have ih : ∀ r m, toF own b f (s + 1) r m = toF own' b f (s + 1) r m := fun r m => toF_x f (s + 1) r m (fun j hj => by rw [show s + 1 + j = s + (j + 1) by omega]; exact h (j + 1) (by omega))
    rw [toF, toF, h0]
    simp only [ih]
theorem fbd_x {mm mm' : Nat → Int32} (h : ∀ t, K t = 28 → mm t = mm' t) : ∀ f t, fbd K mm f t = fbd K mm' f t
  | 0, _ => rfl
  | f + 1, t => by
    rw [fbd, fbd, fbd_x h f]
    by_cases e : K t = 28
    · rw [h t e]
    · rw [if_neg (fun q => e q.1), if_neg (fun q => e q.1)]
theorem tbI_4 (k : Nat) : tbI k < 4 := by
  unfold tbI
  split
  · decide
  · split
    · decide
    · split <;> decide
theorem lerr_r (ag : ∀ t, K t = 28 → wd t = wd0 t) (v1 : ∀ p, K p = 0 → inB (V (p + 3)) (nI 0) (nI 99) = true) (v2 : ∀ p, K p = 2 → inB (V (p + 7)) (nI 0) (nI 9999) = true) (v3 : ∀ p, K p = 9 → inB (V (p + 3)) (nI 1) (nI 9) = true) {T T' : MI} (h : RT T T') (hn : nmB K T' = true) {p : Nat} (hk : kchk K p = true) : lerr K V wd T p = lerr K V1q wd0 T' p := by
  have e0 : nC T = nC T' := by unfold nC; rw [h.1]
  have e1 : nN T = nN T' := by unfold nN; rw [h.1]
  have e2 : nT T = nT T' := by unfold nT; rw [h.1]
  have e3 : nK T = nK T' := by unfold nK; rw [h.1]
  have e4 : nO T = nO T' := by unfold nO; rw [h.1]
  unfold lerr
  unfold kchk at hk
  by_cases k0 : K p = 0
  · rw [if_pos (Or.inl k0), decide_eq_true_eq] at hk
    rw [if_pos k0, if_pos k0, lkT_r ag h hn (by decide) hk, e0, v1 p k0, iq1]
  rw [if_neg k0, if_neg k0]
  by_cases k2 : K p = 2
  · rw [if_neg (by omega), if_pos k2] at hk
    simp only [Bool.and_eq_true, Bool.or_eq_true, decide_eq_true_eq] at hk
    obtain ⟨⟨a1, a2⟩, a3⟩ := hk
    rw [if_pos k2, if_pos k2, lkT_r ag h hn (by decide) a1, lkT_r ag h hn (by decide) a2, e1, v2 p k2, iq2, h.2.1]
    by_cases k5 : K (p + 5) = 28
    · rw [lkT_r ag h hn (by decide) k5]
    · rw [decide_eq_false k5, Bool.false_and, Bool.false_and, Bool.false_and, Bool.false_and]
  rw [if_neg k2, if_neg k2]
  by_cases k7 : K p = 7
  · rw [if_neg (by omega), if_neg k2, if_pos k7] at hk
    simp only [Bool.and_eq_true, decide_eq_true_eq, List.all_eq_true, List.mem_range] at hk
    rw [if_pos k7, if_pos k7, lkT_r ag h hn (by decide) hk.1, e2, h.2.2.1, toE_x _ _ _ _ (fun j hj => lkT_r ag h hn (by decide) (hk.2 j hj))]
  rw [if_neg k7, if_neg k7]
  by_cases k9 : K p = 9
  · rw [if_pos (Or.inr k9), decide_eq_true_eq] at hk
    rw [if_pos k9, if_pos k9, lkT_r ag h hn (by decide) hk, e3, v3 p k9, iq3]
  rw [if_neg k9, if_neg k9, e4, fbd_x (mm := mT K wd T) (mm' := mT K wd0 T') (fun t ht => lkT_r ag h hn (tbI_4 _) ht)]
theorem lsT_r (ag : ∀ t, K t = 28 → wd t = wd0 t) {ca ca0 : Nat → Int32} {T T' : MI} (h : RT T T') (hn : nmB K T' = true) {p : Nat} (hk : kchk K p = true) : RT (lsT K V wd ca T p) (lsT K V1q wd0 ca0 T' p) := by
  have e0 : nC T = nC T' := by unfold nC; rw [h.1]
  have e1 : nN T = nN T' := by unfold nN; rw [h.1]
  have e2 : nT T = nT T' := by unfold nT; rw [h.1]
  have e3 : nK T = nK T' := by unfold nK; rw [h.1]
  have e4 : nO T = nO T' := by unfold nO; rw [h.1]
  obtain ⟨b0, b3, b5, b11, b12, b13, b14⟩ := id h
  unfold lsT
  unfold kchk at hk
  by_cases k0 : K p = 0
  · rw [if_pos k0, if_pos k0, e0]
    split
    · exact h
    · refine ⟨?_, ?_, ?_, ?_, ?_, ?_, ?_⟩ <;> simp [ctT, setRow, *]
  rw [if_neg k0, if_neg k0]
  by_cases k2 : K p = 2
  · rw [if_neg (by omega), if_pos k2] at hk
    simp only [Bool.and_eq_true, Bool.or_eq_true, decide_eq_true_eq] at hk
    obtain ⟨⟨a1, a2⟩, a3⟩ := hk
    have ea : abT K wd T p = abT K wd0 T' p := by
      unfold abT
      by_cases k5 : K (p + 5) = 5
      · rw [if_pos k5, if_pos k5]
      · rw [if_neg k5, if_neg k5, lkT_r ag h hn (by decide) (a3.resolve_right k5)]
    rw [if_pos k2, if_pos k2, e1, ea]
    split
    · exact h
    · refine ⟨?_, ?_, ?_, ?_, ?_, ?_, ?_⟩ <;> simp [ctT, setRow, *]
  rw [if_neg k2, if_neg k2]
  by_cases k7 : K p = 7
  · rw [if_neg (by omega), if_neg k2, if_pos k7] at hk
    simp only [Bool.and_eq_true, decide_eq_true_eq, List.all_eq_true, List.mem_range] at hk
    have et : toT K wd T p = toT K wd0 T' p := by
      unfold toT
      rw [e2, h.2.2.1]
      exact toF_x _ _ _ _ (fun j hj => lkT_r ag h hn (by decide) (hk.2 j hj))
    rw [if_pos k7, if_pos k7, e2, et]
    split
    · exact h
    · refine ⟨?_, ?_, ?_, ?_, ?_, ?_, ?_⟩ <;> simp [ctT, setRow, *]
  rw [if_neg k7, if_neg k7]
  by_cases k9 : K p = 9
  · rw [if_pos k9, if_pos k9, e3]
    split
    · exact h
    · refine ⟨?_, ?_, ?_, ?_, ?_, ?_, ?_⟩ <;> simp [ctT, setRow, *]
  rw [if_neg k9, if_neg k9, e4]
  split
  · exact h
  · refine ⟨?_, ?_, ?_, ?_, ?_, ?_, ?_⟩ <;> simp [ctT, setRow, *]
theorem lsT_6 {ca : Nat → Int32} (v4 : ∀ p, K p = 9 → ∃ c, c < 2 ^ 30 ∧ V (p + 3) = nI c) {T : MI} (h : c6T T) {p : Nat} : c6T (lsT K V wd ca T p) := by
  have key : ∀ {T' : MI}, T' 6 = T 6 → T' 0 3 = T 0 3 → c6T T' := by
    intro T' a b k hk
    have hk : k < nK T := by unfold nK at hk ⊢; rw [← b]; exact hk
    rw [a]
    exact h k hk
  unfold lsT
  by_cases k0 : K p = 0
  · rw [if_pos k0]
    split
    · exact h
    · exact key (by simp [ctT, setRow]) (by simp [ctT, setRow, upd])
  rw [if_neg k0]
  by_cases k2 : K p = 2
  · rw [if_pos k2]
    split
    · exact h
    · exact key (by simp [ctT, setRow]) (by simp [ctT, setRow, upd])
  rw [if_neg k2]
  by_cases k7 : K p = 7
  · rw [if_pos k7]
    split
    · exact h
    · exact key (by simp [ctT, setRow]) (by simp [ctT, setRow, upd])
  rw [if_neg k7]
  by_cases k9 : K p = 9
  · rw [if_pos k9]
    split
    · exact h
    · rename_i hs
      obtain ⟨c, c1, c2⟩ := v4 p k9
      intro k hk
      have e6 : (ctT (setRow (setRow T 14 (upd (T 14) (nK T) (nI (p + 1)))) 6 (upd (T 6) (nK T) (V (p + 3)))) 3 (nK T + 1)) 6 = upd (T 6) (nK T) (V (p + 3)) := by simp [ctT, setRow]
      rw [e6]
      by_cases q : k = nK T
      · exact ⟨c, c1, by rw [q, upd_s]; exact c2⟩
      · rw [upd_n q]
        refine h k ?_
        have hN : nK T < 2 ^ 31 := by
          show (T 0 3).toInt.toNat < _
          have := (T 0 3).toInt_lt
          omega
        have : nK (ctT (setRow (setRow T 14 (upd (T 14) (nK T) (nI (p + 1)))) 6 (upd (T 6) (nK T) (V (p + 3)))) 3 (nK T + 1)) = ix (nI (nK T + 1)) := by simp [nK, ctT, setRow, upd]
        rw [this] at hk
        rcases Nat.lt_or_ge (nK T + 1) (2 ^ 31) with w | w
        · rw [ix_n w] at hk; omega
        · have : nK T + 1 = 2 ^ 31 := by omega
          rw [this] at hk
          exact absurd hk (by rw [show ix (nI (2 ^ 31)) = 0 by decide +kernel]; omega)
  rw [if_neg k9]
  split
  · exact h
  · exact key (by simp [ctT, setRow]) (by simp [ctT, setRow, upd])
theorem smc_ok (ag : ∀ t, K t = 28 → wd t = wd0 t) (v1 : ∀ p, K p = 0 → inB (V (p + 3)) (nI 0) (nI 99) = true) (v2 : ∀ p, K p = 2 → inB (V (p + 7)) (nI 0) (nI 9999) = true) (v3 : ∀ p, K p = 9 → inB (V (p + 3)) (nI 1) (nI 9) = true) (v4 : ∀ p, K p = 9 → ∃ c, c < 2 ^ 30 ∧ V (p + 3) = nI c) {ca : Nat → Int32} : ∀ (f : Nat) (T T' : MI) (p : Nat), RT T T' → c6T T → smc K wd0 f T' p = true → smE K V wd ca f T p = none ∧ RT (smT K V wd ca f T p) (smT K V1q wd0 v0 f T' p) ∧ c6T (smT K V wd ca f T p)
  | 0, _, _, _, h, h6, _ => ⟨rfl, h, h6⟩
  | f + 1, T, T', p, h, h6, hc => by
    rw [smc] at hc
    rw [smE, smT, smT]
    by_cases e : K p = 45
    · rw [if_pos e, if_pos e, if_pos e]
      exact ⟨rfl, h, h6⟩
    · rw [if_neg e] at hc
      simp only [Bool.and_eq_true, decide_eq_true_eq] at hc
      obtain ⟨⟨⟨c1, c2⟩, c3⟩, c4⟩ := hc
      rw [if_neg e, if_neg e, if_neg e]
      obtain ⟨d1, d2, d3⟩ := smc_ok ag v1 v2 v3 v4 (ca := ca) f _ _ _ (lsT_r (V := V) (ca := ca) (ca0 := v0) ag h c1 c2) (lsT_6 (wd := wd) (ca := ca) v4 h6) c4
      rw [lerr_r ag v1 v2 v3 h c1 c2, c3, d1]
      exact ⟨rfl, d2, d3⟩
end QT
theorem q_prG : (prG Kq 400 0).1 = true := by decide +kernel
theorem q_smc : smc Kq W0q 400 T00 0 = true := by decide +kernel
theorem q_cnt : nC (smT Kq V1q W0q v0 400 T00 0) = 3 ∧ nN (smT Kq V1q W0q v0 400 T00 0) = 5 ∧ nT (smT Kq V1q W0q v0 400 T00 0) = 2 ∧ nK (smT Kq V1q W0q v0 400 T00 0) = 2 := by decide +kernel
theorem inB_n {a b c : Nat} (h1 : b ≤ a) (h2 : a ≤ c) (hc : c < 2 ^ 31) : inB (nI a) (nI b) (nI c) = true := by
  unfold inB
  rw [decide_eq_true, decide_eq_true]
  · rfl
  · exact (nI_leI (by omega) hc).mpr h2
  · exact (nI_leI (by omega) (by omega)).mpr h1
theorem q_teach {v : Nat → Nat} (h : ∀ i, v i < 10000) (hr : ∀ i, i < 3 → v i ≤ 99) (hk : ∀ i, i = 8 ∨ i = 9 → 1 ≤ v i ∧ v i ≤ 9) {T : Nat → Nat} {L : Nat} (ha : AtT T L 0 (flP (qP v))) {ca : Nat → Int32} : tcE (tK T L) (tV T L) (tC T L) ca = none ∧ nC (smN (tK T L) (tV T L) (tC T L) ca) = 3 ∧ nN (smN (tK T L) (tV T L) (tC T L) ca) = 5 ∧ nT (smN (tK T L) (tV T L) (tC T L) ca) = 2 ∧ nK (smN (tK T L) (tV T L) (tC T L) ca) = 2 ∧ c6T (smN (tK T L) (tV T L) (tC T L) ca) := by
  have eK : tK T L = Kq := by
    rw [tK_p (qP_ok h) ha (by rw [qP_len]; decide), qP_K]
  have eC : tC T L = Wq v := by
    rw [tC_p (qP_ok h) ha, qP_C]
  have eV : tV T L = Vq v := by
    unfold tV
    rw [eC]
  have key := smc_ok (K := Kq) (wd := Wq v) (wd0 := W0q) (V := Vq v) (fun t ht => Wq_ag v ht)
    (fun p hp => by
      rcases Kq_0 hp with rfl | rfl | rfl
      · exact inB_n (Nat.zero_le _) (hr 0 (by decide)) (by decide)
      · exact inB_n (Nat.zero_le _) (hr 1 (by decide)) (by decide)
      · exact inB_n (Nat.zero_le _) (hr 2 (by decide)) (by decide))
    (fun p hp => by
      rcases Kq_2 hp with rfl | rfl | rfl | rfl | rfl
      · exact inB_n (Nat.zero_le _) (Nat.le_of_lt_succ (h 3)) (by decide)
      · exact inB_n (Nat.zero_le _) (Nat.le_of_lt_succ (h 4)) (by decide)
      · exact inB_n (Nat.zero_le _) (Nat.le_of_lt_succ (h 5)) (by decide)
      · exact inB_n (Nat.zero_le _) (Nat.le_of_lt_succ (h 6)) (by decide)
      · exact inB_n (Nat.zero_le _) (Nat.le_of_lt_succ (h 7)) (by decide))
    (fun p hp => by
      rcases Kq_9 hp with rfl | rfl
      · exact inB_n (hk 8 (Or.inl rfl)).1 (hk 8 (Or.inl rfl)).2 (by decide)
      · exact inB_n (hk 9 (Or.inr rfl)).1 (hk 9 (Or.inr rfl)).2 (by decide))
    (fun p hp => by
      rcases Kq_9 hp with rfl | rfl
      · exact ⟨v 8, by have := h 8; omega, rfl⟩
      · exact ⟨v 9, by have := h 9; omega, rfl⟩)
    (ca := ca) 400 T00 T00 0 ⟨rfl, rfl, rfl, rfl, rfl, rfl, rfl⟩ (fun k hk => absurd hk (by show ¬ k < ix (nI 0); rw [ixz]; omega)) q_smc
  rw [eK, eC, eV]
  obtain ⟨k1, k2, k3⟩ := key
  obtain ⟨c0, c1, c2, c3⟩ := q_cnt
  refine ⟨?_, ?_, ?_, ?_, ?_, k3⟩
  · unfold tcE
    rw [if_pos q_prG]
    exact k1
  · rw [← c0]; unfold smN nC; rw [k2.1]
  · rw [← c1]; unfold smN nN; rw [k2.1]
  · rw [← c2]; unfold smN nT; rw [k2.1]
  · rw [← c3]; unfold smN nK; rw [k2.1]
