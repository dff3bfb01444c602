/-! What lines tell. T's rows: 0 how many (0 colours, 1 cords, 2 top cords, 3 keepers, 4 orders); 1 ranks; 2 dyes; 3 from which cords hang; 4 values; 5 top cords (9 a: how many cords, then these); 6 cares; 7 orders (5 q: their sort, what, who); 8, 9 where the code of tests begins and ends; 10 where their lines begin; 11 to 14 names, by their tokens -/
def lkW (wd : Nat → Nat) (nm : Nat → Int32) (N t : Nat) : Int32 := frst (fun k => decide (wd (ix (nm k)) = wd t)) N 0
def lkT (wd : Nat → Nat) (T : MI) (i t : Nat) : Int32 := lkW wd (T (11 + i)) (ix (T 0 i)) t
def mT (K wd : Nat → Nat) (T : MI) (t : Nat) : Int32 := lkT wd T (tbI (K (t - 1))) t
def er : List (Bool × Nat × Nat) → Option (Nat × Nat) → Option (Nat × Nat)
  | [], o => o
  | x :: r, o => if x.1 = true then some (x.2.1, x.2.2) else er r o
def dpt (u : Nat → Int32) : Nat → Int32 → Nat
  | 0, _ => 0
  | f + 1, c => if c = -1 then 0 else dpt u f (u (ix c)) + 1
def dupB (row : Nat → Int32) (b many : Nat) (x : Int32) : Bool := anyB (fun n => decide (row (b + n) = x)) many 0
def toF (own : Nat → Int32) (b : Nat) : Nat → Nat → (Nat → Int32) → Nat → (Nat → Int32) × Nat
  | 0, _, row, many => (row, many)
  | f + 1, s, row, many => if many = 8 then toF own b f (s + 1) row many else toF own b f (s + 1) (upd row (b + many) (own s)) (many + 1)
def toE (own : Nat → Int32) (b : Nat) : Nat → Nat → (Nat → Int32) → Nat → Option (Nat × Nat)
  | 0, _, _, _ => none
  | f + 1, s, row, many => if own s = -1 then some (3, s) else if many = 8 then some (4, s) else if dupB row b many (own s) = true then some (5, s) else toE own b f (s + 1) (upd row (b + many) (own s)) (many + 1)
def fbd (K : Nat → Nat) (mm : Nat → Int32) : Nat → Nat → Option (Nat × Nat)
  | 0, _ => none
  | f + 1, t => if K t = 28 ∧ mm t = -1 then some (3, t) else fbd K mm f (t + 1)
/-- where an order's sum ends -/
def q1L (K : Nat → Nat) (p : Nat) : Nat := if K p = 11 then (pS K v0 v0 8 (p + 5)).2.1 else p + 4
def lerr (K : Nat → Nat) (V : Nat → Int32) (wd : Nat → Nat) (T : MI) (p : Nat) : Option (Nat × Nat) :=
  if K p = 0 then er [(!decide (lkT wd T 0 (p + 1) = -1), 2, p + 1), (decide (nC T = 6), 4, p + 1), (!inB (V (p + 3)) (nI 0) (nI 99), 5, p + 3)] none
  else if K p = 2 then er [(!decide (lkT wd T 1 (p + 1) = -1), 2, p + 1), (decide (nN T = 16), 4, p + 1), (decide (lkT wd T 0 (p + 3) = -1), 3, p + 3), (decide (K (p + 5) = 28) && decide (lkT wd T 1 (p + 5) = -1), 3, p + 5), (decide (K (p + 5) = 28) && decide (dpt (T 3) 17 (lkT wd T 1 (p + 5)) = 4), 5, p + 5), (decide (K (p + 6) = 6) && !inB (V (p + 7)) (nI 0) (nI 9999), 5, p + 7)] none
  else if K p = 7 then er [(!decide (lkT wd T 2 (p + 1) = -1), 2, p + 1), (decide (nT T = 6), 4, p + 1)] (toE (lkT wd T 1) (9 * nT T + 1) (nms K 400 (p + 5) - (p + 3)) (p + 3) (T 5) 0)
  else if K p = 9 then er [(!decide (lkT wd T 3 (p + 1) = -1), 2, p + 1), (decide (nK T = 5), 4, p + 1), (!inB (V (p + 3)) (nI 1) (nI 9), 5, p + 3)] none
  else er [(decide (nO T = 20), 4, p)] (fbd K (mT K wd T) ((pL K p).2 - (p + 1)) (p + 1))
def ctT (T : MI) (i n : Nat) : MI := setRow T 0 (upd (T 0) i (nI n))
def abT (K : Nat → Nat) (wd : Nat → Nat) (T : MI) (p : Nat) : Int32 := if K (p + 5) = 5 then -1 else lkT wd T 1 (p + 5)
def tdT (K : Nat → Nat) (V : Nat → Int32) (p : Nat) : Int32 := if K (p + 6) = 6 then V (p + 7) else nI 0
def toT (K : Nat → Nat) (wd : Nat → Nat) (T : MI) (p : Nat) : (Nat → Int32) × Nat := toF (lkT wd T 1) (9 * nT T + 1) (nms K 400 (p + 5) - (p + 3)) (p + 3) (T 5) 0
def lsT (K : Nat → Nat) (V : Nat → Int32) (wd : Nat → Nat) (ca : Nat → Int32) (T : MI) (p : Nat) : MI :=
  if K p = 0 then (if nC T = 6 then T else ctT (setRow (setRow T 11 (upd (T 11) (nC T) (nI (p + 1)))) 1 (upd (T 1) (nC T) (V (p + 3)))) 0 (nC T + 1))
  else if K p = 2 then (if nN T = 16 then T else ctT (setRow (setRow (setRow (setRow T 12 (upd (T 12) (nN T) (nI (p + 1)))) 2 (upd (T 2) (nN T) (lkT wd T 0 (p + 3)))) 3 (upd (T 3) (nN T) (abT K wd T p))) 4 (upd (T 4) (nN T) (tdT K V p))) 1 (nN T + 1))
  else if K p = 7 then (if nT T = 6 then T else ctT (setRow (setRow T 5 (upd (toT K wd T p).1 (9 * nT T) (nI (toT K wd T p).2))) 13 (upd (T 13) (nT T) (nI (p + 1)))) 2 (nT T + 1))
  else if K p = 9 then (if nK T = 5 then T else ctT (setRow (setRow T 14 (upd (T 14) (nK T) (nI (p + 1)))) 6 (upd (T 6) (nK T) (V (p + 3)))) 3 (nK T + 1))
  else (if nO T = 20 then T else ctT (setRow (setRow (setRow (setRow T 7 (upd (upd (upd (T 7) (5 * nO T) (nI (K p))) (5 * nO T + 1) (mT K wd T (p + 1))) (5 * nO T + 2) (mT K wd T (p + 3)))) 8 (upd (T 8) (nO T) (ca (q1L K p)))) 9 (upd (T 9) (nO T) (ca ((pL K p).2 - 1)))) 10 (upd (T 10) (nO T) (nI p))) 4 (nO T + 1))
/-! the class's draft holds it -/
def pC (wd : Nat → Nat) (n : Nat) (i0 : Int32) (a : Nat → Int32) (j : Nat → Int64) (t tn : Nat → Int32) : Prop := (i0 = nI n ∧ n ≤ 6) ∧ ∀ k, k < n → a k = t k ∧ j k = lN (wd (ix (tn k)))
def pN (wd : Nat → Nat) (n : Nat) (i0 : Int32) (a b c dd : Nat → Int32) (j : Nat → Int64) (t2 t3 t4 tn : Nat → Int32) : Prop := (i0 = nI n ∧ n ≤ 16) ∧ ∀ k, k < n → (a k = t2 k ∧ b k = t3 k ∧ c k = t4 k) ∧ j k = lN (wd (ix (tn k))) ∧ dd k = nI (dpt t3 17 (nI k)) ∧ dpt t3 17 (nI k) ≤ 4 ∧ (t3 k = -1 ∨ ∃ i, i < k ∧ t3 k = nI i)
def pT2 (wd : Nat → Nat) (n : Nat) (i0 : Int32) (a : Nat → Int32) (rows : MI) (j : Nat → Int64) (t5 tn : Nat → Int32) : Prop := (i0 = nI n ∧ n ≤ 6) ∧ ∀ k, k < n → j k = lN (wd (ix (tn k))) ∧ ∃ z, z ≤ 8 ∧ a k = nI z ∧ t5 (9 * k) = nI z ∧ ∀ i, i < z → rows (65 + k) i = t5 (9 * k + 1 + i)
def pK (wd : Nat → Nat) (n : Nat) (i0 : Int32) (a : Nat → Int32) (j : Nat → Int64) (t tn : Nat → Int32) : Prop := (i0 = nI n ∧ n ≤ 5) ∧ ∀ k, k < n → a k = t k ∧ j k = lN (wd (ix (tn k)))
def pO (n : Nat) (i0 : Int32) (a b c d e t7 t8 t9 : Nat → Int32) : Prop := (i0 = nI n ∧ n ≤ 20) ∧ ∀ q, q < n → a q = b2i (decide (t7 (5 * q) = nI 11)) ∧ b q = t7 (5 * q + 1) ∧ c q = t7 (5 * q + 2) ∧ d q = t8 q ∧ e q = t9 q
def tcl (wd : Nat → Nat) (T I : MI) (J : MJ) : Prop :=
  pC wd (nC T) (I 58 0) (I 59) (J 11) (T 1) (T 11) ∧ pN wd (nN T) (I 58 1) (I 60) (I 61) (I 62) (I 15) (J 12) (T 2) (T 3) (T 4) (T 12) ∧ pT2 wd (nT T) (I 58 2) (I 63) I (J 13) (T 5) (T 13) ∧ pK wd (nK T) (I 58 3) (I 71) (J 14) (T 6) (T 14) ∧ pO (nO T) (I 58 4) (I 72) (I 73) (I 74) (I 75) (I 76) (T 7) (T 8) (T 9)
/-- names are names' tokens -/
def nmO (K : Nat → Nat) (M : Nat) (T : MI) : Prop := ∀ i, i < 4 → ∀ k, k < ix (T 0 i) → ∃ t, t ≤ M ∧ K t = 28 ∧ T (11 + i) k = nI t
def FR (I : MI) (J : MJ) (I' : MI) (J' : MJ) : Prop := (∀ a, a ≠ 10 → a ≠ 15 → a ≠ 16 → ¬ (58 ≤ a ∧ a ≤ 76) → I' a = I a) ∧ ∀ a, ¬ (11 ≤ a ∧ a ≤ 14) → J' a = J a
theorem FR.rf {I : MI} {J : MJ} : FR I J I J := ⟨fun _ _ _ _ _ => rfl, fun _ _ => rfl⟩
theorem FR.tr {I I1 I2 : MI} {J J1 J2 : MJ} (h : FR I J I1 J1) (h2 : FR I1 J1 I2 J2) : FR I J I2 J2 := ⟨fun a a1 a2 a3 a4 => (h2.1 a a1 a2 a3 a4).trans (h.1 a a1 a2 a3 a4), fun a a1 => (h2.2 a a1).trans (h.2 a a1)⟩
theorem FR.up {I I' : MI} {J J' : MJ} {b k : Nat} {v : Int32} (hb : b = 10 ∨ b = 15 ∨ b = 16 ∨ (58 ≤ b ∧ b ≤ 76)) (h : FR I J I' J') : FR I J (up2 I' b k v) J' := ⟨fun a a1 a2 a3 a4 => by rw [up2_o (by omega)]; exact h.1 a a1 a2 a3 a4, h.2⟩
theorem FR.upJ {I I' : MI} {J J' : MJ} {b k : Nat} {v : Int64} (hb : 11 ≤ b ∧ b ≤ 14) (h : FR I J I' J') : FR I J I' (up2 J' b k v) := ⟨h.1, fun a a1 => by rw [up2_o (by omega)]; exact h.2 a a1⟩
theorem FR.ps {K : Nat → Nat} {V : Nat → Int32} {M : Nat} {I I' : MI} {J J' : MJ} (h : FR I J I' J') (k : psO K V M I J) : psO K V M I' J' := by
  obtain ⟨k1, k2, k3, k4, k5⟩ := k
  rw [psO, h.1 4 (by decide) (by decide) (by decide) (by decide), h.1 3 (by decide) (by decide) (by decide) (by decide), h.2 5 (by decide)]
  exact ⟨k1, k2, k3, k4, k5⟩
theorem FR.wd {K : Nat → Nat} {wd : Nat → Nat} {M : Nat} {I I' : MI} {J J' : MJ} (h : FR I J I' J') (k : wdO K wd M J) : wdO K wd M J' := by
  unfold wdO
  rw [h.2 5 (by decide)]
  exact k
def nT4 (T : MI) (i : Nat) : Nat := ix (T 0 i)
theorem tcl.ct {wd : Nat → Nat} {T I : MI} {J : MJ} (h : tcl wd T I J) : ctO (nT4 T) I := ⟨h.1.1, h.2.1.1, h.2.2.1.1, h.2.2.2.1.1⟩
theorem ctO.o {n : Nat → Nat} {I I' : MI} (h : ctO n I) (e : ∀ i, i < 4 → I' 58 i = I 58 i) : ctO n I' := by
  unfold ctO
  rw [e 0 (by decide), e 1 (by decide), e 2 (by decide), e 3 (by decide)]
  exact h
theorem lk_ok {K wd : Nat → Nat} {M : Nat} {T I : MI} {J J' : MJ} (h : tcl wd T I J) (hn : nmO K M T) (hw : wdO K wd M J) (e : ∀ i, i < 4 → ∀ j, j < nT4 T i → J' (11 + i) j = J (11 + i) j) {i t : Nat} (hM : M ≤ 400) (hi : i < 4) (ht : t ≤ M) (hk : K t = 28) : plJ J' (11 + i) (nT4 T i) (lN (wd t)) = lkT wd T i t := by
  refine frst_ext _ _ (fun j _ hj => ?_)
  have hj : j < nT4 T i := by omega
  rw [e i hi j hj]
  have hwt := (hw t ht hk).2
  obtain ⟨s, s1, s2, s3⟩ := hn i hi j hj
  have key : J (11 + i) j = lN (wd (ix (T (11 + i) j))) ∧ wd (ix (T (11 + i) j)) < 2 ^ 63 → decide (J (11 + i) j = lN (wd t)) = decide (wd (ix (T (11 + i) j)) = wd t) := by
    rintro ⟨a, b⟩
    by_cases q : wd (ix (T (11 + i) j)) = wd t
    · rw [decide_eq_true q, a, q, decide_eq_true rfl]
    · rw [decide_eq_false q, a, decide_eq_false (fun r => q (lN_inj b hwt r))]
  apply key
  have hjj : J (11 + i) j = lN (wd (ix (T (11 + i) j))) := by
    rcases (show i = 0 ∨ i = 1 ∨ i = 2 ∨ i = 3 by omega) with rfl | rfl | rfl | rfl
    · exact (h.1.2 j hj).2
    · exact (h.2.1.2 j hj).2.1
    · exact (h.2.2.1.2 j hj).1
    · exact (h.2.2.2.1.2 j hj).2
  refine ⟨hjj, ?_⟩
  rw [s3, ix_n (by omega)]
  exact (hw s s1 s2).2
theorem lkT_in {wd : Nat → Nat} {T : MI} {i t : Nat} : lkT wd T i t = -1 ∨ ∃ j, j < nT4 T i ∧ lkT wd T i t = nI j := by
  rcases frst_in (fun k => decide (wd (ix (T (11 + i) k)) = wd t)) (ix (T 0 i)) 0 with q | ⟨j, _, a, _, b⟩
  · exact Or.inl q
  · exact Or.inr ⟨j, by unfold nT4; omega, b⟩
theorem lkT_neg {wd : Nat → Nat} {T : MI} {i t : Nat} (hb : nT4 T i ≤ 16) : lkT wd T i t < 0 ↔ lkT wd T i t = -1 := by
  rcases lkT_in (wd := wd) (T := T) (i := i) (t := t) with q | ⟨j, a, b⟩
  · rw [q]; exact ⟨fun _ => rfl, fun _ => by decide⟩
  · rw [b]
    exact ⟨fun q => absurd q (nI_pos (by omega)), fun q => absurd (q ▸ (by decide : (-1 : Int32) < 0)) (nI_pos (by omega))⟩
theorem lkT_ge {wd : Nat → Nat} {T : MI} {i t : Nat} (hb : nT4 T i ≤ 16) (h : ¬ lkT wd T i t = -1) : 0 ≤ lkT wd T i t := Int32.not_lt.mp (fun q => h ((lkT_neg hb).mp q))
/-! how deep -/
def chD (u : Nat → Int32) (n : Nat) : Prop := ∀ k, k < n → u k = -1 ∨ ∃ i, i < k ∧ u k = nI i
theorem dpt_f {u : Nat → Int32} {n : Nat} (hu : chD u n) (hn : n ≤ 16) : ∀ k, k < n → ∀ f g, k < f → k < g → dpt u f (nI k) = dpt u g (nI k) := by
  intro k
  induction k using Nat.strongRecOn with
  | _ k ih =>
    intro hk f g hf hg
    obtain ⟨f, rfl⟩ : ∃ a, f = a + 1 := ⟨f - 1, by omega⟩
    obtain ⟨g, rfl⟩ : ∃ a, g = a + 1 := ⟨g - 1, by omega⟩
    have hne : ¬ nI k = -1 := fun e => nI_pos (show k < 2 ^ 31 by omega) (by rw [e]; decide)
    rw [dpt, dpt, if_neg hne, if_neg hne, ix_n (by omega)]
    rcases hu k hk with q | ⟨i, i1, i2⟩
    · rw [q]
      cases f <;> cases g <;> simp [dpt]
    · rw [i2, ih i i1 (by omega) f g (by omega) (by omega)]
theorem dpt_e {u u' : Nat → Int32} {n : Nat} (hu : chD u n) (hn : n ≤ 16) (e : ∀ k, k < n → u' k = u k) : ∀ f k, k < n → dpt u' f (nI k) = dpt u f (nI k) := by
  intro f
  induction f with
  | zero => exact fun k _ => rfl
  | succ f ih =>
    intro k hk
    have hne : ¬ nI k = -1 := fun e => nI_pos (show k < 2 ^ 31 by omega) (by rw [e]; decide)
    rw [dpt, dpt, if_neg hne, if_neg hne, ix_n (by omega), e k hk]
    rcases hu k hk with q | ⟨i, i1, i2⟩
    · rw [q]
      cases f <;> simp [dpt]
    · rw [i2, ih i (by omega)]
theorem dpt_m1 (u : Nat → Int32) (f : Nat) : dpt u f (-1) = 0 := by cases f <;> simp [dpt]
theorem dpt_s {u : Nat → Int32} {f k : Nat} (hk : k < 2 ^ 31) : dpt u (f + 1) (nI k) = dpt u f (u k) + 1 := by
  rw [dpt, if_neg (fun e => nI_pos hk (by rw [e]; decide)), ix_n hk]
/-! one more of each sort -/
theorem pC_push {wd : Nat → Nat} {n t : Nat} {i0 i0' v : Int32} {a a' : Nat → Int32} {j j' : Nat → Int64} {t1 t1' tn tn' : Nat → Int32} (h : pC wd n i0 a j t1 tn) (hn : n < 6) (ht : t < 2 ^ 31) (e0 : i0' = nI (n + 1)) (ea : ∀ k, k < n → a' k = a k) (ej : ∀ k, k < n → j' k = j k) (e1 : ∀ k, k < n → t1' k = t1 k) (en : ∀ k, k < n → tn' k = tn k) (va : a' n = v) (v1 : t1' n = v) (vj : j' n = lN (wd t)) (vn : tn' n = nI t) : pC wd (n + 1) i0' a' j' t1' tn' := by
  refine ⟨⟨e0, hn⟩, fun k hk => ?_⟩
  rcases Nat.lt_or_ge k n with q | q
  · rw [ea k q, ej k q, e1 k q, en k q]
    exact h.2 k q
  · obtain rfl : k = n := by omega
    rw [va, v1, vj, vn, ix_n ht]
    exact ⟨rfl, rfl⟩
theorem pK_push {wd : Nat → Nat} {n t : Nat} {i0 i0' v : Int32} {a a' : Nat → Int32} {j j' : Nat → Int64} {t1 t1' tn tn' : Nat → Int32} (h : pK wd n i0 a j t1 tn) (hn : n < 5) (ht : t < 2 ^ 31) (e0 : i0' = nI (n + 1)) (ea : ∀ k, k < n → a' k = a k) (ej : ∀ k, k < n → j' k = j k) (e1 : ∀ k, k < n → t1' k = t1 k) (en : ∀ k, k < n → tn' k = tn k) (va : a' n = v) (v1 : t1' n = v) (vj : j' n = lN (wd t)) (vn : tn' n = nI t) : pK wd (n + 1) i0' a' j' t1' tn' := by
  refine ⟨⟨e0, hn⟩, fun k hk => ?_⟩
  rcases Nat.lt_or_ge k n with q | q
  · rw [ea k q, ej k q, e1 k q, en k q]
    exact h.2 k q
  · obtain rfl : k = n := by omega
    rw [va, v1, vj, vn, ix_n ht]
    exact ⟨rfl, rfl⟩
theorem pN_ch {wd : Nat → Nat} {n : Nat} {i0 : Int32} {a b c dd : Nat → Int32} {j : Nat → Int64} {t2 t3 t4 tn : Nat → Int32} (h : pN wd n i0 a b c dd j t2 t3 t4 tn) : chD t3 n := fun k hk => (h.2 k hk).2.2.2.2
theorem pN_push {wd : Nat → Nat} {n t : Nat} {i0 i0' v2 v3 v4 : Int32} {a b c dd a' b' c' dd' : Nat → Int32} {j j' : Nat → Int64} {t2 t3 t4 tn t2' t3' t4' tn' : Nat → Int32} (h : pN wd n i0 a b c dd j t2 t3 t4 tn) (hn : n < 16) (ht : t < 2 ^ 31) (e0 : i0' = nI (n + 1)) (ea : ∀ k, k < n → a' k = a k) (eb : ∀ k, k < n → b' k = b k) (ec : ∀ k, k < n → c' k = c k) (ed : ∀ k, k < n → dd' k = dd k) (ej : ∀ k, k < n → j' k = j k) (e2 : ∀ k, k < n → t2' k = t2 k) (e3 : ∀ k, k < n → t3' k = t3 k) (e4 : ∀ k, k < n → t4' k = t4 k) (en : ∀ k, k < n → tn' k = tn k) (va : a' n = v2) (w2 : t2' n = v2) (vb : b' n = v3) (w3 : t3' n = v3) (vc : c' n = v4) (w4 : t4' n = v4) (vd : dd' n = nI (dpt t3 17 v3 + 1)) (vj : j' n = lN (wd t)) (vn : tn' n = nI t) (hv : v3 = -1 ∨ ∃ i, i < n ∧ v3 = nI i) (h4 : dpt t3 17 v3 < 4) : pN wd (n + 1) i0' a' b' c' dd' j' t2' t3' t4' tn' := by
  have hch := pN_ch h
  have hn16 := h.1.2
  have hch' : chD t3' n := fun k hk => by rw [e3 k hk]; exact hch k hk
  refine ⟨⟨e0, hn⟩, fun k hk => ?_⟩
  rcases Nat.lt_or_ge k n with q | q
  · rw [ea k q, eb k q, ec k q, ed k q, ej k q, e2 k q, e3 k q, e4 k q, en k q, dpt_e hch hn16 e3 17 k q]
    exact h.2 k q
  · obtain rfl : k = n := by omega
    have hd : dpt t3' 17 (nI k) = dpt t3 17 v3 + 1 := by
      rw [dpt_s (by omega), w3]
      rcases hv with r | ⟨i, i1, i2⟩
      · rw [r, dpt_m1, dpt_m1]
      · rw [i2, dpt_e hch hn16 e3 16 i i1, dpt_f hch hn16 i i1 16 17 (by omega) (by omega)]
    rw [va, vb, vc, vj, vn, w2, w3, w4, ix_n ht, hd, vd]
    exact ⟨⟨rfl, rfl, rfl⟩, rfl, rfl, by omega, hv⟩
theorem pO_push {n : Nat} {i0 i0' vb vc vd ve : Int32} {a b c d e a' b' c' d' e' t7 t8 t9 t7' t8' t9' : Nat → Int32} (h : pO n i0 a b c d e t7 t8 t9) (hn : n < 20) (e0 : i0' = nI (n + 1)) (ea : ∀ k, k < n → a' k = a k) (eb : ∀ k, k < n → b' k = b k) (ec : ∀ k, k < n → c' k = c k) (ed : ∀ k, k < n → d' k = d k) (ee : ∀ k, k < n → e' k = e k) (e7 : ∀ k, k < 5 * n → t7' k = t7 k) (e8 : ∀ k, k < n → t8' k = t8 k) (e9 : ∀ k, k < n → t9' k = t9 k) (va : a' n = b2i (decide (t7' (5 * n) = nI 11))) (wb : b' n = vb) (w1 : t7' (5 * n + 1) = vb) (wc : c' n = vc) (w2 : t7' (5 * n + 2) = vc) (wd : d' n = vd) (w8 : t8' n = vd) (we : e' n = ve) (w9 : t9' n = ve) : pO (n + 1) i0' a' b' c' d' e' t7' t8' t9' := by
  refine ⟨⟨e0, hn⟩, fun k hk => ?_⟩
  rcases Nat.lt_or_ge k n with q | q
  · rw [ea k q, eb k q, ec k q, ed k q, ee k q, e8 k q, e9 k q, e7 (5 * k) (by omega), e7 (5 * k + 1) (by omega), e7 (5 * k + 2) (by omega)]
    exact h.2 k q
  · obtain rfl : k = n := by omega
    rw [va, wb, w1, wc, w2, wd, w8, we, w9]
    exact ⟨rfl, rfl, rfl, rfl, rfl⟩
theorem pT2_push {wd : Nat → Nat} {n t z : Nat} {i0 i0' : Int32} {a a' : Nat → Int32} {rows rows' : MI} {j j' : Nat → Int64} {t5 t5' tn tn' : Nat → Int32} (h : pT2 wd n i0 a rows j t5 tn) (hn : n < 6) (ht : t < 2 ^ 31) (e0 : i0' = nI (n + 1)) (ea : ∀ k, k < n → a' k = a k) (er : ∀ k, k < n → rows' (65 + k) = rows (65 + k)) (ej : ∀ k, k < n → j' k = j k) (e5 : ∀ k, k < 9 * n → t5' k = t5 k) (en : ∀ k, k < n → tn' k = tn k) (hz : z ≤ 8) (va : a' n = nI z) (v5 : t5' (9 * n) = nI z) (vr : ∀ i, i < z → rows' (65 + n) i = t5' (9 * n + 1 + i)) (vj : j' n = lN (wd t)) (vn : tn' n = nI t) : pT2 wd (n + 1) i0' a' rows' j' t5' tn' := by
  refine ⟨⟨e0, hn⟩, fun k hk => ?_⟩
  rcases Nat.lt_or_ge k n with q | q
  · obtain ⟨h1, z1, h2, h3, h4, h5⟩ := h.2 k q
    rw [ej k q, en k q]
    refine ⟨h1, z1, h2, by rw [ea k q]; exact h3, by rw [e5 _ (by omega)]; exact h4, fun i hi => ?_⟩
    rw [er k q, e5 _ (by omega)]
    exact h5 i hi
  · obtain rfl : k = n := by omega
    rw [vj, vn, ix_n ht]
    exact ⟨rfl, z, hz, va, v5, vr⟩
/-! names in sums -/
theorem fbd_s {K : Nat → Nat} {mm : Nat → Int32} {e t : Nat} (h : t < e) : fbd K mm (e - t) t = if K t = 28 ∧ mm t = -1 then some (3, t) else fbd K mm (e - (t + 1)) (t + 1) := by
  rw [show e - t = (e - (t + 1)) + 1 by omega, fbd]
theorem fbd_0 {K : Nat → Nat} {mm : Nat → Int32} {e t : Nat} (h : t < e) (h1 : ¬ K t = 28) : fbd K mm (e - t) t = fbd K mm (e - (t + 1)) (t + 1) := by
  rw [fbd_s h, if_neg (fun q => h1 q.1)]
def okR (K : Nat → Nat) (s e : Nat) : Prop := ∀ t, s ≤ t → t < e → (30 ≤ K t ∧ K t ≤ 44 ∧ ¬ K t = 34) ∨ (16 ≤ K t ∧ K t ≤ 27) ∨ K t = 29 ∨ (K t = 28 ∧ s < t ∧ 17 ≤ K (t - 1) ∧ K (t - 1) ≤ 22)
theorem okR.nil {K : Nat → Nat} {s : Nat} : okR K s s := fun t a b => absurd a (by omega)
theorem okR.app {K : Nat → Nat} {s m e : Nat} (h : okR K s m) (h2 : okR K m e) (hs : s ≤ m) : okR K s e := by
  intro t a b
  rcases Nat.lt_or_ge t m with q | q
  · exact h t a q
  · rcases h2 t q b with r | r | r | r
    · exact Or.inl r
    · exact Or.inr (Or.inl r)
    · exact Or.inr (Or.inr (Or.inl r))
    · exact Or.inr (Or.inr (Or.inr ⟨r.1, by omega, r.2.2⟩))
theorem okR.one {K : Nat → Nat} {s : Nat} (h : (30 ≤ K s ∧ K s ≤ 44 ∧ ¬ K s = 34) ∨ (16 ≤ K s ∧ K s ≤ 27) ∨ K s = 29) : okR K s (s + 1) := by
  intro t a b
  obtain rfl : t = s := by omega
  rcases h with r | r | r
  · exact Or.inl r
  · exact Or.inr (Or.inl r)
  · exact Or.inr (Or.inr (Or.inl r))
theorem okR.two {K : Nat → Nat} {s : Nat} (h : 17 ≤ K s ∧ K s ≤ 22) (h2 : K (s + 1) = 28) : okR K s (s + 2) := by
  intro t a b
  rcases (show t = s ∨ t = s + 1 by omega) with rfl | rfl
  · exact Or.inr (Or.inl ⟨by omega, by omega⟩)
  · exact Or.inr (Or.inr (Or.inr ⟨h2, by omega, by rw [Nat.add_sub_cancel]; exact h⟩))
def gR (K : Nat → Nat) (M : Nat) (g : Nat → PRs) : Prop := ∀ p, p ≤ M → (g p).1 = true → okR K p (g p).2.1
theorem opL_R {K : Nat → Nat} {M lo hi : Nat} {cl : Nat → Bool} {g : Nat → PRs} (hM : 45 ≤ K M) (hh : (lo = 36 ∧ hi = 39) ∨ (lo = 24 ∧ hi = 25)) (hB : gB M g) (hg : gR K M g) : ∀ (f p w : Nat) (A B : EX), p ≤ M → (opL K lo hi cl g f p w A B).1 = true → okR K p (opL K lo hi cl g f p w A B).2.1 := by
  intro f
  induction f with
  | zero => intro p w A B hp _; exact okR.nil
  | succ f ih =>
    intro p w A B hp h
    rw [opL_st] at h ⊢
    by_cases hc : lo ≤ K p ∧ K p ≤ hi
    · rw [if_pos hc] at h ⊢
      have hpM := K_lt2 hM hp (by omega)
      by_cases h1 : (g (p + 1)).1 = true
      · rw [if_pos h1] at h ⊢
        obtain ⟨b1, b2, b3⟩ := hB (p + 1) (by omega)
        exact (okR.one (by omega)).app ((hg (p + 1) (by omega) h1).app (ih _ _ _ _ b2 h) b1) (by omega)
      · rw [if_neg h1] at h
        exact Bool.noConfusion h
    · rw [if_neg hc]
      exact okR.nil
theorem opS_R {K : Nat → Nat} {M lo hi : Nat} {cl : Nat → Bool} {g : Nat → PRs} (hM : 45 ≤ K M) (hh : (lo = 36 ∧ hi = 39) ∨ (lo = 24 ∧ hi = 25)) (hB : gB M g) (hg : gR K M g) : gR K M (opS K lo hi cl g) := by
  intro p hp h
  unfold opS at h ⊢
  by_cases h1 : (g p).1 = true
  · rw [if_pos h1] at h ⊢
    obtain ⟨b1, b2, b3⟩ := hB p hp
    exact (hg p hp h1).app (opL_R hM hh hB hg _ _ _ _ _ b2 h) b1
  · rw [if_neg h1] at h
    exact Bool.noConfusion h
theorem cloP_R {K : Nat → Nat} {k s : Nat} {r : PRs} (hk : 30 ≤ k ∧ k ≤ 44 ∧ ¬ k = 34) (hs : s ≤ r.2.1) (hr : r.1 = true → okR K s r.2.1) (h : (cloP K k r).1 = true) : okR K s (cloP K k r).2.1 ∧ r.1 = true ∧ (cloP K k r).2.1 = r.2.1 + 1 := by
  unfold cloP at h ⊢
  by_cases h1 : r.1 = true
  · rw [if_pos h1] at h ⊢
    by_cases h2 : K r.2.1 = k
    · rw [if_pos h2]
      exact ⟨(hr h1).app (okR.one (by omega)) hs, h1, rfl⟩
    · rw [if_neg h2] at h
      exact Bool.noConfusion h
  · rw [if_neg h1] at h
    exact Bool.noConfusion h
theorem pV_R {K : Nat → Nat} {V m : Nat → Int32} {M : Nat} (hM : 45 ≤ K M) : ∀ c, gR K M (pV K V m c) := by
  have key : ∀ (b : Bool) (g : Nat → PRs), (b = true → gB M g) → (b = true → gR K M g) → gR K M (vS K V m b g) := by
    intro b g hB hg p hp h
    unfold vS at h ⊢
    by_cases h1 : K p = 29
    · rw [if_pos h1]
      exact okR.one (by omega)
    rw [if_neg h1] at h ⊢
    by_cases h2 : K p = 16
    · rw [if_pos h2]
      exact okR.one (by omega)
    rw [if_neg h2] at h ⊢
    by_cases h3 : 17 ≤ K p ∧ K p ≤ 21
    · rw [if_pos h3] at h ⊢
      by_cases h4 : K (p + 1) = 28
      · rw [if_pos h4]
        exact okR.two (by omega) h4
      · rw [if_neg h4] at h
        exact Bool.noConfusion h
    rw [if_neg h3] at h ⊢
    by_cases h4 : K p = 37
    · rw [if_pos h4] at h ⊢
      have := K_lt hM hp h4 (by decide)
      cases b with
      | true => exact (okR.one (by omega)).app (hg rfl (p + 1) (by omega) h) (by omega)
      | false => exact Bool.noConfusion h
    rw [if_neg h4] at h ⊢
    by_cases h5 : K p = 30
    · rw [if_pos h5] at h ⊢
      have := K_lt hM hp h5 (by decide)
      cases b with
      | true =>
        obtain ⟨b1, b2, b3⟩ := opS_B (lo := 36) (cl := clS) hM (show 39 < 45 by decide) (hB rfl) (p + 1) (by omega)
        exact (okR.one (by omega)).app (cloP_R (by decide) b1 (opS_R hM (Or.inl ⟨rfl, rfl⟩) (hB rfl) (hg rfl) (p + 1) (by omega)) h).1 (by omega)
      | false => exact Bool.noConfusion h
    rw [if_neg h5] at h ⊢
    by_cases h6 : K p = 26 ∨ K p = 27
    · rw [if_pos h6] at h ⊢
      have q1 := K_lt2 hM hp (by omega)
      by_cases h7 : b = true ∧ K (p + 1) = 30
      · rw [if_pos h7] at h ⊢
        have q2 := K_lt (p := p + 1) hM (by omega) h7.2 (by decide)
        obtain ⟨b1, b2, b3⟩ := opS_B (lo := 36) (cl := clS) hM (show 39 < 45 by decide) (hB h7.1) (p + 2) (by omega)
        by_cases h8 : (cloP K 35 (opS K 36 39 clS g (p + 2))).1 = true
        · rw [if_pos h8] at h ⊢
          obtain ⟨c1, c2, c3⟩ := cloP_R (k := 35) (by decide) b1 (opS_R hM (Or.inl ⟨rfl, rfl⟩) (hB h7.1) (hg h7.1) (p + 2) (by omega)) h8
          obtain ⟨e1, e2, e3⟩ := cloP_B (r := opS K 36 39 clS g (p + 2)) (k := 35) hM (by decide) b2
          obtain ⟨d1, d2, d3⟩ := opS_B (lo := 36) (cl := clS) hM (show 39 < 45 by decide) (hB h7.1) _ e2
          obtain ⟨f1, f2, f3⟩ := cloP_R (k := 31) (by decide) d1 (opS_R hM (Or.inl ⟨rfl, rfl⟩) (hB h7.1) (hg h7.1) _ e2) h
          exact ((okR.one (by omega)).app (okR.one (s := p + 1) (by omega)) (by omega)).app (c1.app f1 (by omega)) (by omega)
        · rw [if_neg h8] at h
          exact Bool.noConfusion h
      · rw [if_neg h7] at h
        exact Bool.noConfusion h
    rw [if_neg h6] at h
    exact Bool.noConfusion h
  intro c
  induction c with
  | zero => exact key false _ (fun q => Bool.noConfusion q) (fun q => Bool.noConfusion q)
  | succ c ih => exact key true _ (fun _ => pV_B hM c) (fun _ => ih)
theorem pS_R {K : Nat → Nat} {V m : Nat → Int32} {M : Nat} (hM : 45 ≤ K M) (c : Nat) : gR K M (pS K V m c) := opS_R hM (Or.inl ⟨rfl, rfl⟩) (pV_B hM c) (pV_R hM c)
theorem p1_R {K : Nat → Nat} {V m : Nat → Int32} {M : Nat} (hM : 45 ≤ K M) : ∀ c, gR K M (p1 K V m c) := by
  have key : ∀ (b : Bool) (gs gt sm : Nat → PRs), (b = true → gB M gs) → (b = true → gB M gt) → gB M sm → (b = true → gR K M gs) → (b = true → gR K M gt) → gR K M sm → gR K M (sS K m b gs gt sm) := by
    intro b gs gt sm B1 B2 B3 R1 R2 R3 p hp h
    unfold sS at h ⊢
    by_cases h1 : K p = 23
    · rw [if_pos h1] at h ⊢
      have := K_lt hM hp h1 (by decide)
      cases b with
      | true => exact (okR.one (by omega)).app (R1 rfl (p + 1) (by omega) h) (by omega)
      | false => exact Bool.noConfusion h
    rw [if_neg h1] at h ⊢
    by_cases h2 : K p = 32
    · rw [if_pos h2] at h ⊢
      have := K_lt hM hp h2 (by decide)
      cases b with
      | true =>
        obtain ⟨b1, b2, b3⟩ := B2 rfl (p + 1) (by omega)
        exact (okR.one (by omega)).app (cloP_R (by decide) b1 (R2 rfl (p + 1) (by omega)) h).1 (by omega)
      | false => exact Bool.noConfusion h
    rw [if_neg h2] at h ⊢
    by_cases h3 : K p = 22
    · rw [if_pos h3] at h ⊢
      by_cases h4 : K (p + 1) = 28
      · rw [if_pos h4]
        exact okR.two (by omega) h4
      · rw [if_neg h4] at h
        exact Bool.noConfusion h
    rw [if_neg h3] at h ⊢
    by_cases h4 : (sm p).1 = true
    · rw [if_pos h4] at h ⊢
      obtain ⟨b1, b2, b3⟩ := B3 p hp
      by_cases h5 : 40 ≤ K (sm p).2.1 ∧ K (sm p).2.1 ≤ 44
      · rw [if_pos h5] at h ⊢
        have q1 := K_lt2 hM b2 (by omega)
        exact (R3 p hp h4).app ((okR.one (by omega)).app (R3 _ (by omega) h) (by omega)) b1
      · rw [if_neg h5] at h
        exact Bool.noConfusion h
    · rw [if_neg h4] at h
      exact Bool.noConfusion h
  intro c
  induction c with
  | zero => exact key false _ _ _ (fun q => Bool.noConfusion q) (fun q => Bool.noConfusion q) (pS_B hM 0) (fun q => Bool.noConfusion q) (fun q => Bool.noConfusion q) (pS_R hM 0)
  | succ c ih => exact key true _ _ _ (fun _ => p1_B hM c) (fun _ => opS_B hM (by decide) (p1_B hM c)) (pS_B hM (c + 1)) (fun _ => ih) (fun _ => opS_R hM (Or.inr ⟨rfl, rfl⟩) (p1_B hM c) ih) (pS_R hM (c + 1))
theorem pT_R {K : Nat → Nat} {V m : Nat → Int32} {M : Nat} (hM : 45 ≤ K M) (c : Nat) : gR K M (pT K V m c) := opS_R hM (Or.inr ⟨rfl, rfl⟩) (p1_B hM c) (p1_R hM c)
