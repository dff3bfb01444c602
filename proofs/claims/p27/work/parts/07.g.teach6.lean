/-! The class's teacher: the list -/
def smE (K : Nat → Nat) (V : Nat → Int32) (wd : Nat → Nat) (ca : Nat → Int32) : Nat → MI → Nat → Option (Nat × Nat)
  | 0, _, _ => none
  | f + 1, T, p => if K p = 45 then none else (lerr K V wd T p).or (smE K V wd ca f (lsT K V wd ca T p) (pL K p).2)
def smT (K : Nat → Nat) (V : Nat → Int32) (wd : Nat → Nat) (ca : Nat → Int32) : Nat → MI → Nat → MI
  | 0, T, _ => T
  | f + 1, T, p => if K p = 45 then T else smT K V wd ca f (lsT K V wd ca T p) (pL K p).2
def lmO (K : Nat → Nat) (V : Nat → Int32) (wd : Nat → Nat) (ca : Nat → Int32) (I' : MI) : Nat → MI → Nat → Prop
  | 0, _, _ => True
  | f + 1, T, p => if K p = 45 then True else ((K p = 11 ∨ K p = 14) → ∀ t, p < t → t < (pL K p).2 → K t = 28 → I' 16 t = mT K wd T t) ∧ lmO K V wd ca I' f (lsT K V wd ca T p) (pL K p).2
theorem lmO.st {K : Nat → Nat} {V : Nat → Int32} {wd : Nat → Nat} {ca : Nat → Int32} {I I' : MI} (e : ∀ t, I' 16 t = I 16 t) : ∀ f T p, lmO K V wd ca I f T p → lmO K V wd ca I' f T p := by
  intro f
  induction f with
  | zero => exact fun T p _ => trivial
  | succ f ih =>
    intro T p h
    rw [lmO] at h ⊢
    by_cases k : K p = 45
    · rw [if_pos k]; trivial
    · rw [if_neg k] at h ⊢
      exact ⟨fun q t a b c => (e t).trans (h.1 q t a b c), ih _ _ h.2⟩
theorem sqK_c {K : Nat → Nat} {a p : Nat} {r : List Nat} {k : Nat → Bool × Nat} (h : (sqK K (a :: r) p k).1 = true) : K p = a ∧ sqK K (a :: r) p k = sqK K r (p + 1) k := by
  rw [sqK] at h ⊢
  by_cases e : K p = a
  · rw [if_pos e]; exact ⟨e, rfl⟩
  · rw [if_neg e] at h; exact Bool.noConfusion h
/-- where an order's line ends -/
theorem whnL_c {K : Nat → Nat} {M q : Nat} (hM : 45 ≤ K M) (hq : q ≤ M) (h : (whnL K q).1 = true) : (K q = 15 ∧ (pT K v0 v0 8 (q + 1)).1 = true ∧ q < M ∧ q + 1 ≤ (pT K v0 v0 8 (q + 1)).2.1 ∧ (pT K v0 v0 8 (q + 1)).2.1 < M ∧ K (pT K v0 v0 8 (q + 1)).2.1 = 34 ∧ okR K (q + 1) (pT K v0 v0 8 (q + 1)).2.1 ∧ (whnL K q).2 = (pT K v0 v0 8 (q + 1)).2.1 + 1) ∨ (K q = 34 ∧ q < M ∧ (whnL K q).2 = q + 1) := by
  unfold whnL at h ⊢
  by_cases e : K q = 15
  · have hqM := K_lt hM hq e (by decide)
    rw [if_pos e] at h ⊢
    by_cases e1 : (pT K v0 v0 8 (q + 1)).1 = true
    · rw [if_pos e1] at h ⊢
      obtain ⟨b1, b2, b3⟩ := pT_B (V := v0) (m := v0) hM 8 (q + 1) (by omega)
      obtain ⟨c1, c2⟩ := sqK_c h
      rw [c2]
      exact Or.inl ⟨e, e1, hqM, b1, K_lt hM b2 c1 (by decide), c1, pT_R hM 8 (q + 1) (by omega) e1, rfl⟩
    · rw [if_neg e1] at h
      exact Bool.noConfusion h
  · rw [if_neg e] at h ⊢
    obtain ⟨c1, c2⟩ := sqK_c h
    rw [c2]
    exact Or.inr ⟨c1, K_lt hM hq c1 (by decide), rfl⟩
theorem lsT_nm {K : Nat → Nat} {V : Nat → Int32} {wd : Nat → Nat} {ca : Nat → Int32} {T : MI} {M p : Nat} (hn : nmO K M T) (hq : nC T ≤ 6 ∧ nN T ≤ 16 ∧ nT T ≤ 6 ∧ nK T ≤ 5) (hM : M ≤ 400) (hp : p + 1 ≤ M) (h1 : K p = 0 ∨ K p = 2 ∨ K p = 7 ∨ K p = 9 ∨ K p = 11 ∨ K p = 14) (h28 : K (p + 1) = 28) : nmO K M (lsT K V wd ca T p) := by
  have q0 : nC T ≤ 6 := hq.1
  have q1 : nN T ≤ 16 := hq.2.1
  have q2 : nT T ≤ 6 := hq.2.2.1
  have q3 : nK T ≤ 5 := hq.2.2.2
  have push : ∀ (T' : MI) (i0 n : Nat), n = ix (T 0 i0) → n ≤ 16 → (∀ i, i < 4 → i ≠ i0 → T' 0 i = T 0 i ∧ T' (11 + i) = T (11 + i)) → T' 0 i0 = nI (n + 1) → T' (11 + i0) = upd (T (11 + i0)) n (nI (p + 1)) → nmO K M T' := by
    intro T' i0 n en hn16 ho hc hr i hi k hk
    by_cases e : i = i0
    · subst e
      rw [hc, ix_n (by omega)] at hk
      rw [hr, upd]
      by_cases ek : k = n
      · rw [if_pos ek]
        exact ⟨p + 1, hp, h28, rfl⟩
      · rw [if_neg ek]
        exact hn i hi k (by omega)
    · obtain ⟨a, b⟩ := ho i hi e
      rw [a] at hk
      rw [b]
      exact hn i hi k hk
  unfold lsT
  by_cases e0 : K p = 0
  · rw [if_pos e0]
    by_cases c : nC T = 6
    · rw [if_pos c]; exact hn
    · rw [if_neg c]
      refine push _ 0 (nC T) rfl (by omega) (fun i hi hne => ?_) (by simp [ctT, setRow, upd]) (by simp [ctT, setRow])
      exact ⟨by simp [ctT, setRow, upd, hne], by simp [ctT, setRow, hne, show ¬ 11 + i = 0 by omega, show ¬ 11 + i = 1 by omega]⟩
  rw [if_neg e0]
  by_cases e2 : K p = 2
  · rw [if_pos e2]
    by_cases c : nN T = 16
    · rw [if_pos c]; exact hn
    · rw [if_neg c]
      refine push _ 1 (nN T) rfl (by omega) (fun i hi hne => ?_) (by simp [ctT, setRow, upd]) (by simp [ctT, setRow])
      exact ⟨by simp [ctT, setRow, upd, hne], by simp [ctT, setRow, show ¬ 11 + i = 0 by omega, show ¬ 11 + i = 12 by omega, show ¬ 11 + i = 2 by omega, show ¬ 11 + i = 3 by omega, show ¬ 11 + i = 4 by omega]⟩
  rw [if_neg e2]
  by_cases e7 : K p = 7
  · rw [if_pos e7]
    by_cases c : nT T = 6
    · rw [if_pos c]; exact hn
    · rw [if_neg c]
      refine push _ 2 (nT T) rfl (by omega) (fun i hi hne => ?_) (by simp [ctT, setRow, upd]) (by simp [ctT, setRow])
      exact ⟨by simp [ctT, setRow, upd, hne], by simp [ctT, setRow, show ¬ 11 + i = 0 by omega, show ¬ 11 + i = 13 by omega, show ¬ 11 + i = 5 by omega]⟩
  rw [if_neg e7]
  by_cases e9 : K p = 9
  · rw [if_pos e9]
    by_cases c : nK T = 5
    · rw [if_pos c]; exact hn
    · rw [if_neg c]
      refine push _ 3 (nK T) rfl (by omega) (fun i hi hne => ?_) (by simp [ctT, setRow, upd]) (by simp [ctT, setRow])
      exact ⟨by simp [ctT, setRow, upd, hne], by simp [ctT, setRow, show ¬ 11 + i = 0 by omega, show ¬ 11 + i = 14 by omega, show ¬ 11 + i = 6 by omega]⟩
  rw [if_neg e9]
  by_cases c : nO T = 20
  · rw [if_pos c]; exact hn
  · rw [if_neg c]
    intro i hi k hk
    have a1 : ctT (setRow (setRow (setRow (setRow T 7 (upd (upd (upd (T 7) (5 * nO T) (nI (K p))) (5 * nO T + 1) (mT K wd T (p + 1))) (5 * nO T + 2) (mT K wd T (p + 3)))) 8 (upd (T 8) (nO T) (ca (q1L K p)))) 9 (upd (T 9) (nO T) (ca ((pL K p).2 - 1)))) 10 (upd (T 10) (nO T) (nI p))) 4 (nO T + 1) 0 i = T 0 i := by simp [ctT, setRow, upd, show ¬ i = 4 by omega]
    rw [a1] at hk
    obtain ⟨t, t1, t2, t3⟩ := hn i hi k hk
    exact ⟨t, t1, t2, by simp [ctT, setRow, t3, show ¬ 11 + i = 0 by omega, show ¬ 11 + i = 10 by omega, show ¬ 11 + i = 9 by omega, show ¬ 11 + i = 8 by omega, show ¬ 11 + i = 7 by omega]⟩
theorem lsT_ct {K : Nat → Nat} {V : Nat → Int32} {wd : Nat → Nat} {ca : Nat → Int32} {T I : MI} {J : MJ} {M p : Nat} (hn : nmO K M T) (ht : tcl wd T I J) (hM : M ≤ 400) (hp : p + 1 ≤ M) (h1 : K p = 0 ∨ K p = 2 ∨ K p = 7 ∨ K p = 9 ∨ K p = 11 ∨ K p = 14) (h28 : K (p + 1) = 28) : nmO K M (lsT K V wd ca T p) := lsT_nm hn ⟨ht.1.1.2, ht.2.1.1.2, ht.2.2.1.1.2, ht.2.2.2.1.1.2⟩ hM hp h1 h28
/-- code cells, one behind the other -/
theorem lnC_cok {K : Nat → Nat} {V m : Nat → Int32} {p e z z' : Nat} {I : MI} (h : lnC K V m p e z z' I) (hz : z ≤ z') : ∀ n, z ≤ n → n < z' → cok I n := by
  have ts : ∀ {q z1}, tsC K V m I e q z1 z' → ∀ n, z1 ≤ n → n < z' → cok I n := by
    intro q z1 h n a b
    obtain ⟨_, c⟩ := h
    by_cases k : K q = 15
    · rw [if_pos k] at c
      exact c.1.2.1 n a b
    · rw [if_neg k] at c
      omega
  intro n a b
  unfold lnC at h
  by_cases k : K p = 11
  · rw [if_pos k] at h
    obtain ⟨z1, s, l, t⟩ := h
    rcases Nat.lt_or_ge n z1 with q | q
    · exact s.2.1 n a q
    · exact ts t n q b
  · rw [if_neg k] at h
    by_cases k2 : K p = 14
    · rw [if_pos k2] at h
      exact ts h n a b
    · rw [if_neg k2] at h
      omega
theorem pL_sh {K : Nat → Nat} {M p : Nat} (hM : 45 ≤ K M) (hp : p ≤ M) (h : (pL K p).1 = true) : (K p = 0 ∨ K p = 2 ∨ K p = 7 ∨ K p = 9 ∨ K p = 11 ∨ K p = 14) ∧ K (p + 1) = 28 ∧ p + 1 < (pL K p).2 ∧ (pL K p).2 ≤ M := by
  have sq : ∀ {a b q : Nat} {r : List Nat} {k : Nat → Bool × Nat}, (sqK K (a :: b :: r) q k).1 = true → K q = a ∧ K (q + 1) = b ∧ sqK K (a :: b :: r) q k = sqK K r (q + 1 + 1) k := by
    intro a b q r k h
    obtain ⟨c1, c2⟩ := sqK_c h
    rw [c2] at h ⊢
    obtain ⟨d1, d2⟩ := sqK_c h
    exact ⟨c1, d1, d2⟩
  have lt : ∀ q k, q ≤ M → K q = k → k < 45 → q + 1 ≤ M := fun q k a b c => K_lt hM a b c
  unfold pL at h ⊢
  by_cases e0 : K p = 0
  · rw [if_pos e0] at h ⊢
    obtain ⟨a1, a2, a3⟩ := sq h
    have b1 := lt p 0 hp a1 (by decide)
    have b2 := lt (p + 1) 28 b1 a2 (by decide)
    rw [a3] at h ⊢
    obtain ⟨a4, a5, a6⟩ := sq h
    have b3 := lt _ _ b2 a4 (by decide)
    have b4 := lt _ _ b3 a5 (by decide)
    rw [a6] at h ⊢
    obtain ⟨a7, a8⟩ := sqK_c h
    rw [a8]
    exact ⟨Or.inl e0, a2, by show p + 1 < p + 1 + 1 + 1 + 1 + 1; omega, lt _ _ b4 a7 (by decide)⟩
  rw [if_neg e0] at h ⊢
  by_cases e2 : K p = 2
  · rw [if_pos e2] at h ⊢
    obtain ⟨a1, a2, a3⟩ := sq h
    have b1 := lt p 2 hp a1 (by decide)
    have b2 := lt (p + 1) 28 b1 a2 (by decide)
    rw [a3] at h ⊢
    obtain ⟨a4, a5, a6⟩ := sq h
    have b3 := lt _ _ b2 a4 (by decide)
    have b4 := lt _ _ b3 a5 (by decide)
    rw [a6] at h ⊢
    obtain ⟨a7, a8⟩ := sqK_c h
    have b5 := lt _ _ b4 a7 (by decide)
    rw [a8] at h ⊢
    change (undL K (p + 1 + 1 + 1 + 1 + 1)).1 = true at h
    show _ ∧ _ ∧ p + 1 < (undL K (p + 1 + 1 + 1 + 1 + 1)).2 ∧ (undL K (p + 1 + 1 + 1 + 1 + 1)).2 ≤ M
    unfold undL at h ⊢
    by_cases u : K (p + 1 + 1 + 1 + 1 + 1) = 5 ∨ K (p + 1 + 1 + 1 + 1 + 1) = 28
    · rw [if_pos u] at h ⊢
      have b6 : p + 1 + 1 + 1 + 1 + 1 + 1 ≤ M := u.elim (fun r => lt _ _ b5 r (by decide)) (fun r => lt _ _ b5 r (by decide))
      unfold couL at h ⊢
      by_cases v : K (p + 1 + 1 + 1 + 1 + 1 + 1) = 6
      · rw [if_pos v] at h ⊢
        obtain ⟨c1, c2, c3⟩ := sq h
        have d1 := lt _ _ b6 c1 (by decide)
        have d2 := lt _ _ d1 c2 (by decide)
        rw [c3] at h ⊢
        obtain ⟨c4, c5⟩ := sqK_c h
        rw [c5]
        exact ⟨Or.inr (Or.inl e2), a2, by show p + 1 < p + 1 + 1 + 1 + 1 + 1 + 1 + 1 + 1 + 1; omega, lt _ _ d2 c4 (by decide)⟩
      · rw [if_neg v] at h ⊢
        obtain ⟨c4, c5⟩ := sqK_c h
        rw [c5]
        exact ⟨Or.inr (Or.inl e2), a2, by show p + 1 < p + 1 + 1 + 1 + 1 + 1 + 1 + 1; omega, lt _ _ b6 c4 (by decide)⟩
    · rw [if_neg u] at h
      exact Bool.noConfusion h
  rw [if_neg e2] at h ⊢
  by_cases e7 : K p = 7
  · rw [if_pos e7] at h ⊢
    obtain ⟨a1, a2, a3⟩ := sq h
    have b1 := lt p 7 hp a1 (by decide)
    have b2 := lt (p + 1) 28 b1 a2 (by decide)
    rw [a3] at h ⊢
    obtain ⟨a4, a5, a6⟩ := sq h
    have b3 := lt _ _ b2 a4 (by decide)
    have b4 := lt _ _ b3 a5 (by decide)
    rw [a6] at h ⊢
    obtain ⟨a7, a8⟩ := sqK_c h
    have b5 := lt _ _ b4 a7 (by decide)
    rw [a8] at h ⊢
    obtain ⟨n1, n2⟩ := nms_B hM 400 _ b5
    obtain ⟨c1, c2⟩ := sqK_c (show (sqK K [34] (nms K 400 (p + 1 + 1 + 1 + 1 + 1)) rtL).1 = true from h)
    show _ ∧ _ ∧ p + 1 < (sqK K [34] (nms K 400 (p + 1 + 1 + 1 + 1 + 1)) rtL).2 ∧ (sqK K [34] (nms K 400 (p + 1 + 1 + 1 + 1 + 1)) rtL).2 ≤ M
    rw [c2]
    exact ⟨Or.inr (Or.inr (Or.inl e7)), a2, by show p + 1 < nms K 400 (p + 1 + 1 + 1 + 1 + 1) + 1; omega, lt _ _ n2 c1 (by decide)⟩
  rw [if_neg e7] at h ⊢
  by_cases e9 : K p = 9
  · rw [if_pos e9] at h ⊢
    obtain ⟨a1, a2, a3⟩ := sq h
    have b1 := lt p 9 hp a1 (by decide)
    have b2 := lt (p + 1) 28 b1 a2 (by decide)
    rw [a3] at h ⊢
    obtain ⟨a4, a5, a6⟩ := sq h
    have b3 := lt _ _ b2 a4 (by decide)
    have b4 := lt _ _ b3 a5 (by decide)
    rw [a6] at h ⊢
    obtain ⟨a7, a8⟩ := sqK_c h
    rw [a8]
    exact ⟨Or.inr (Or.inr (Or.inr (Or.inl e9))), a2, by show p + 1 < p + 1 + 1 + 1 + 1 + 1; omega, lt _ _ b4 a7 (by decide)⟩
  rw [if_neg e9] at h ⊢
  have wh : ∀ q, p + 2 ≤ q → q ≤ M → (whnL K q).1 = true → p + 1 < (whnL K q).2 ∧ (whnL K q).2 ≤ M := by
    intro q a b c
    rcases whnL_c hM b c with ⟨_, _, _, d1, d2, _, _, d3⟩ | ⟨_, d1, d2⟩ <;> omega
  by_cases e11 : K p = 11
  · rw [if_pos e11] at h ⊢
    obtain ⟨a1, a2, a3⟩ := sq h
    have b1 := lt p 11 hp a1 (by decide)
    have b2 := lt (p + 1) 28 b1 a2 (by decide)
    rw [a3] at h ⊢
    obtain ⟨a4, a5, a6⟩ := sq h
    have b3 := lt _ _ b2 a4 (by decide)
    have b4 := lt _ _ b3 a5 (by decide)
    rw [a6] at h ⊢
    obtain ⟨a7, a8⟩ := sqK_c h
    have b5 := lt _ _ b4 a7 (by decide)
    rw [a8] at h ⊢
    change (tieL K (p + 1 + 1 + 1 + 1 + 1)).1 = true at h
    show _ ∧ _ ∧ p + 1 < (tieL K (p + 1 + 1 + 1 + 1 + 1)).2 ∧ (tieL K (p + 1 + 1 + 1 + 1 + 1)).2 ≤ M
    unfold tieL at h ⊢
    by_cases u : (pS K v0 v0 8 (p + 1 + 1 + 1 + 1 + 1)).1 = true
    · rw [if_pos u] at h ⊢
      obtain ⟨c1, c2, c3⟩ := pS_B (V := v0) (m := v0) hM 8 _ b5
      exact ⟨Or.inr (Or.inr (Or.inr (Or.inr (Or.inl e11)))), a2, wh _ (by omega) c2 h⟩
    · rw [if_neg u] at h
      exact Bool.noConfusion h
  rw [if_neg e11] at h ⊢
  by_cases e14 : K p = 14
  · rw [if_pos e14] at h ⊢
    obtain ⟨a1, a2, a3⟩ := sq h
    have b1 := lt p 14 hp a1 (by decide)
    have b2 := lt (p + 1) 28 b1 a2 (by decide)
    rw [a3] at h ⊢
    obtain ⟨a4, a5, a6⟩ := sq h
    have b3 := lt _ _ b2 a4 (by decide)
    have b4 := lt _ _ b3 a5 (by decide)
    rw [a6] at h ⊢
    exact ⟨Or.inr (Or.inr (Or.inr (Or.inr (Or.inr e14)))), a2, wh _ (by omega) b4 h⟩
  rw [if_neg e14] at h
  exact Bool.noConfusion h
theorem lnsC_cok {K : Nat → Nat} {V m : Nat → Int32} {I : MI} {M Z : Nat} (hM : 45 ≤ K M) (hM4 : M ≤ 400) (hZ : I 77 2 = nI Z) (hZ3 : Z < 2 ^ 31) : ∀ f p z, p ≤ M → z ≤ p → lnsC K V m I f p z → (prG K f p).1 = true → z ≤ Z ∧ Z ≤ M ∧ ∀ n, z ≤ n → n < Z → cok I n := by
  intro f
  induction f with
  | zero =>
    intro p z hp hz h hg
    obtain ⟨a, b⟩ := h
    obtain rfl : Z = z := eqN (hZ.symm.trans a) hZ3 (by omega)
    exact ⟨Nat.le_refl _, by omega, fun n c d => absurd c (by omega)⟩
  | succ f ih =>
    intro p z hp hz h hg
    rw [lnsC] at h
    rw [prG] at hg
    by_cases k : K p = 45
    · rw [if_pos k] at h
      obtain ⟨a, b⟩ := h
      obtain rfl : Z = z := eqN (hZ.symm.trans a) hZ3 (by omega)
      exact ⟨Nat.le_refl _, by omega, fun n c d => absurd c (by omega)⟩
    · rw [if_neg k] at h hg
      by_cases k2 : (pL K p).1 = true
      · rw [if_pos k2] at hg
        obtain ⟨z', c1, c2, c3, c4⟩ := h
        obtain ⟨_, _, _, s4⟩ := pL_sh hM hp k2
        obtain ⟨d1, d2, d3⟩ := ih _ z' s4 c2 c4 hg
        refine ⟨by omega, d2, fun n a b => ?_⟩
        rcases Nat.lt_or_ge n z' with q | q
        · exact lnC_cok c3 c1 n a q
        · exact d3 n q b
      · rw [if_neg k2] at hg
        exact Bool.noConfusion hg

set_option maxRecDepth 100000 in
set_option maxHeartbeats 4000000 in
theorem st_end {Γ : Cx} {K : Nat → Nat} {V : Nat → Int32} {M d : Nat} {I : MI} {J : MJ} {P : MP} {Φ : State → Prop} (hK : psO K V M I J) (e1 : K M = 45) (he : I 10 0 = 0) (h : Vc RX7 cX7_firstFault 6 (some .int) (d + 5) Γ) {x5 : Option Value} (k : ∀ t x5, VG Γ 0 0 172 [some (.ref 10), some (.ref 3), some (.ref 9), some (.ref 58), some (.int (nI t)), x5] [] I J P Φ) : VG Γ 0 0 12 [some (.ref 10), some (.ref 3), some (.ref 9), some (.ref 58), some (.int (nI M)), x5] [] I J P Φ := by
  obtain ⟨k1, k2, k3, k4, k5⟩ := id hK
  have kt := (k1 M (by omega)).1
  have kp := (k1 M (by omega)).2
  refine g_iload_4 h dX7_firstFault_12 ?_
  refine g_aload_1 h dX7_firstFault_14 ?_
  refine g_cVi0 h rok0 mi_X8_length dX7_firstFault_15 ml_X7_48 rfl rfl rfl (Nat.le_of_ble_eq_true rfl) (Nat.le_of_ble_eq_true rfl) (sp_X8_length ?_)
  refine g_icmp_ge h 172 dX7_firstFault_18 rfl (fun c => absurd (by rw [k3] at c; exact c) (nI_ge (by omega) (by omega))) (fun _ => ?_)
  refine g_iload_4 h dX7_firstFault_21 ?_
  refine g_sipush h dX7_firstFault_23 (v := nI 400) rfl ?_
  refine g_icmp_ge h 172 dX7_firstFault_26 rfl (fun c26 => ?_) (fun c26 => ?_)
  · exact k _ _
  · refine g_aload_1 h dX7_firstFault_29 ?_
    refine g_getC h fl_X7_52 dX7_firstFault_30 rfl rfl ?_
    refine g_iload_4 h dX7_firstFault_33 ?_
    refine g_iald h M dX7_firstFault_35 rfl rfl (by omega) ?_
    rw [kt]
    refine g_istore_5 h dX7_firstFault_36 (by decide) rfl ?_
    refine g_iload_5 h dX7_firstFault_38 ?_
    refine g_bipush h dX7_firstFault_40 (v := nI 28) rfl ?_
    refine g_icmp_ne h 90 dX7_firstFault_42 rfl (fun _ => ?_) (fun c => absurd (eqN c (by omega) (by decide)) (by omega))
    refine g_iload_5 h dX7_firstFault_90 ?_
    refine g_bipush h dX7_firstFault_92 (v := nI 29) rfl ?_
    refine g_icmp_ne h 115 dX7_firstFault_94 rfl (fun _ => ?_) (fun c => absurd (eqN c (by omega) (by decide)) (by omega))
    refine g_iload_5 h dX7_firstFault_115 ?_
    refine g_bipush h dX7_firstFault_117 (v := nI 34) rfl ?_
    refine g_icmp_ne h 134 dX7_firstFault_119 rfl (fun _ => ?_) (fun c => absurd (eqN c (by omega) (by decide)) (by omega))
    refine g_iload_5 h dX7_firstFault_134 ?_
    refine g_bipush h dX7_firstFault_136 (v := nI 28) rfl ?_
    refine g_icmp_ge h 156 dX7_firstFault_138 rfl (fun _ => ?_) (fun c => absurd (nI_le (show 28 ≤ K M by omega) (by omega)) c)
    refine g_aload_0 h dX7_firstFault_156 ?_
    refine g_getI h fl_X7_7 dX7_firstFault_157 rfl rfl ?_
    refine g_if_eq h 166 dX7_firstFault_160 rfl (fun _ => ?_) (fun c => absurd he c)
    refine g_iinc_4 h dX7_firstFault_166 (inc1 _) (by decide) rfl ?_
    refine g_goto h 12 dX7_firstFault_169 rfl ?_
    refine g_iload_4 h dX7_firstFault_12 ?_
    refine g_aload_1 h dX7_firstFault_14 ?_
    refine g_cVi0 h rok0 mi_X8_length dX7_firstFault_15 ml_X7_48 rfl rfl rfl (Nat.le_of_ble_eq_true rfl) (Nat.le_of_ble_eq_true rfl) (sp_X8_length ?_)
    refine g_icmp_ge h 172 dX7_firstFault_18 rfl (fun _ => ?_) (fun c => absurd (by rw [k3]; exact nI_le (Nat.le_refl _) (by omega)) c)
    exact k (M + 1) _
