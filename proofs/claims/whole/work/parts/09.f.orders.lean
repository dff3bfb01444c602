/-! What the orders of a list mean -/
theorem fbd_no {K : Nat → Nat} {mm : Nat → Int32} : ∀ (f s : Nat), fbd K mm f s = none → ∀ t, s ≤ t → t < s + f → K t = 28 → ¬ mm t = -1 := by
  intro f
  induction f with
  | zero => intro s _ t a b; omega
  | succ f ih =>
    intro s h t a b k q
    rw [fbd] at h
    by_cases c : K s = 28 ∧ mm s = -1
    · rw [if_pos c] at h; cases h
    · rw [if_neg c] at h
      by_cases e : t = s
      · subst e
        exact c ⟨k, q⟩
      · exact ih (s + 1) h t (by omega) (by omega) k q
def cb (T : MI) : Prop := nC T ≤ 6 ∧ nN T ≤ 16 ∧ nT T ≤ 6 ∧ nK T ≤ 5 ∧ nO T ≤ 20
def cm (T T' : MI) : Prop := nC T ≤ nC T' ∧ nN T ≤ nN T' ∧ nT T ≤ nT T' ∧ nK T ≤ nK T' ∧ nO T ≤ nO T'
theorem cm.rf {T : MI} : cm T T := ⟨Nat.le_refl _, Nat.le_refl _, Nat.le_refl _, Nat.le_refl _, Nat.le_refl _⟩
theorem cm.tr {T T1 T2 : MI} (h : cm T T1) (k : cm T1 T2) : cm T T2 := ⟨Nat.le_trans h.1 k.1, Nat.le_trans h.2.1 k.2.1, Nat.le_trans h.2.2.1 k.2.2.1, Nat.le_trans h.2.2.2.1 k.2.2.2.1, Nat.le_trans h.2.2.2.2 k.2.2.2.2⟩
theorem ct_cb {T T' : MI} {i n : Nat} (h : cb T) (e : T' 0 = T 0) (hi : (i = 0 ∧ n = nC T + 1 ∧ nC T ≠ 6) ∨ (i = 1 ∧ n = nN T + 1 ∧ nN T ≠ 16) ∨ (i = 2 ∧ n = nT T + 1 ∧ nT T ≠ 6) ∨ (i = 3 ∧ n = nK T + 1 ∧ nK T ≠ 5) ∨ (i = 4 ∧ n = nO T + 1 ∧ nO T ≠ 20)) : cb (ctT T' i n) ∧ cm T (ctT T' i n) := by
  obtain ⟨h0, h1, h2, h3, h4⟩ := h
  have key : ∀ j, ix (ctT T' i n 0 j) = if j = i then n else ix (T 0 j) := fun j => by
    show ix (upd (T' 0) i (nI n) j) = _
    by_cases q : j = i
    · rw [if_pos q, q, upd_s, ix_n (by omega)]
    · rw [if_neg q, upd_n q, e]
  have a0 : nC (ctT T' i n) = if 0 = i then n else nC T := key 0
  have a1 : nN (ctT T' i n) = if 1 = i then n else nN T := key 1
  have a2 : nT (ctT T' i n) = if 2 = i then n else nT T := key 2
  have a3 : nK (ctT T' i n) = if 3 = i then n else nK T := key 3
  have a4 : nO (ctT T' i n) = if 4 = i then n else nO T := key 4
  unfold cb cm
  rw [a0, a1, a2, a3, a4]
  rcases hi with ⟨rfl, b, c⟩ | ⟨rfl, b, c⟩ | ⟨rfl, b, c⟩ | ⟨rfl, b, c⟩ | ⟨rfl, b, c⟩ <;> simp <;> omega
section LS
variable {K : Nat → Nat} {V : Nat → Int32} {wd : Nat → Nat} {ca : Nat → Int32}
theorem cb_ls {T : MI} {p : Nat} (h : cb T) : cb (lsT K V wd ca T p) ∧ cm T (lsT K V wd ca T p) := by
  unfold lsT
  by_cases e0 : K p = 0
  · rw [if_pos e0]
    by_cases c : nC T = 6
    · rw [if_pos c]; exact ⟨h, cm.rf⟩
    · rw [if_neg c]; exact ct_cb h (by simp [setRow]) (Or.inl ⟨rfl, rfl, c⟩)
  rw [if_neg e0]
  by_cases e2 : K p = 2
  · rw [if_pos e2]
    by_cases c : nN T = 16
    · rw [if_pos c]; exact ⟨h, cm.rf⟩
    · rw [if_neg c]; exact ct_cb h (by simp [setRow]) (Or.inr (Or.inl ⟨rfl, rfl, c⟩))
  rw [if_neg e2]
  by_cases e7 : K p = 7
  · rw [if_pos e7]
    by_cases c : nT T = 6
    · rw [if_pos c]; exact ⟨h, cm.rf⟩
    · rw [if_neg c]; exact ct_cb h (by simp [setRow]) (Or.inr (Or.inr (Or.inl ⟨rfl, rfl, c⟩)))
  rw [if_neg e7]
  by_cases e9 : K p = 9
  · rw [if_pos e9]
    by_cases c : nK T = 5
    · rw [if_pos c]; exact ⟨h, cm.rf⟩
    · rw [if_neg c]; exact ct_cb h (by simp [setRow]) (Or.inr (Or.inr (Or.inr (Or.inl ⟨rfl, rfl, c⟩))))
  rw [if_neg e9]
  by_cases c : nO T = 20
  · rw [if_pos c]; exact ⟨h, cm.rf⟩
  · rw [if_neg c]; exact ct_cb h (by simp [setRow]) (Or.inr (Or.inr (Or.inr (Or.inr ⟨rfl, rfl, c⟩))))
theorem lsT_ot {T : MI} {p : Nat} (h : K p = 0 ∨ K p = 2 ∨ K p = 7 ∨ K p = 9) : nO (lsT K V wd ca T p) = nO T ∧ ∀ i, 7 ≤ i → i ≤ 9 → lsT K V wd ca T p i = T i := by
  have ct : ∀ (T' : MI) (i n : Nat), i < 4 → T' 0 4 = T 0 4 → (∀ i, 7 ≤ i → i ≤ 9 → T' i = T i) → nO (ctT T' i n) = nO T ∧ ∀ j, 7 ≤ j → j ≤ 9 → ctT T' i n j = T j := fun T' i n hi e f => by
    refine ⟨?_, fun j j1 j2 => ?_⟩
    · show ix (upd (T' 0) i (nI n) 4) = ix (T 0 4)
      rw [upd_n (by omega), e]
    · unfold ctT
      rw [setRow_o (by omega)]
      exact f j j1 j2
  have so : ∀ (T' : MI) (a : Nat) (r : Nat → Int32), ¬ (7 ≤ a ∧ a ≤ 9) → (∀ i, 7 ≤ i → i ≤ 9 → T' i = T i) → ∀ i, 7 ≤ i → i ≤ 9 → setRow T' a r i = T i := fun T' a r ha f i i1 i2 => by
    rw [setRow_o (by omega)]; exact f i i1 i2
  have t0 : ∀ i, 7 ≤ i → i ≤ 9 → T i = T i := fun _ _ _ => rfl
  unfold lsT
  rcases h with e | e | e | e
  · rw [if_pos e]
    by_cases c : nC T = 6
    · rw [if_pos c]; exact ⟨rfl, t0⟩
    · rw [if_neg c]
      exact ct _ 0 _ (by decide) (by simp [setRow]) (so _ _ _ (by omega) (so _ _ _ (by omega) t0))
  · rw [if_neg (by omega), if_pos e]
    by_cases c : nN T = 16
    · rw [if_pos c]; exact ⟨rfl, t0⟩
    · rw [if_neg c]
      exact ct _ 1 _ (by decide) (by simp [setRow]) (so _ _ _ (by omega) (so _ _ _ (by omega) (so _ _ _ (by omega) (so _ _ _ (by omega) t0))))
  · rw [if_neg (by omega), if_neg (by omega), if_pos e]
    by_cases c : nT T = 6
    · rw [if_pos c]; exact ⟨rfl, t0⟩
    · rw [if_neg c]
      exact ct _ 2 _ (by decide) (by simp [setRow]) (so _ _ _ (by omega) (so _ _ _ (by omega) t0))
  · rw [if_neg (by omega), if_neg (by omega), if_neg (by omega), if_pos e]
    by_cases c : nK T = 5
    · rw [if_pos c]; exact ⟨rfl, t0⟩
    · rw [if_neg c]
      exact ct _ 3 _ (by decide) (by simp [setRow]) (so _ _ _ (by omega) (so _ _ _ (by omega) t0))
theorem lsT_od {T : MI} {p : Nat} (h : ¬ (K p = 0 ∨ K p = 2 ∨ K p = 7 ∨ K p = 9)) (h20 : ¬ nO T = 20) : lsT K V wd ca T p 7 = upd (upd (upd (T 7) (5 * nO T) (nI (K p))) (5 * nO T + 1) (mT K wd T (p + 1))) (5 * nO T + 2) (mT K wd T (p + 3)) ∧ lsT K V wd ca T p 8 = upd (T 8) (nO T) (ca (q1L K p)) ∧ lsT K V wd ca T p 9 = upd (T 9) (nO T) (ca ((pL K p).2 - 1)) := by
  unfold lsT
  rw [if_neg (by omega), if_neg (by omega), if_neg (by omega), if_neg (by omega), if_neg h20]
  refine ⟨?_, ?_, ?_⟩ <;> simp [ctT, setRow]
theorem lsT_row {T : MI} {p q : Nat} (hq : q < nO T) : (∀ j, j < 5 → lsT K V wd ca T p 7 (5 * q + j) = T 7 (5 * q + j)) ∧ lsT K V wd ca T p 8 q = T 8 q ∧ lsT K V wd ca T p 9 q = T 9 q := by
  by_cases h : K p = 0 ∨ K p = 2 ∨ K p = 7 ∨ K p = 9
  · have e := (lsT_ot (K := K) (V := V) (wd := wd) (ca := ca) (T := T) h).2
    rw [e 7 (by decide) (by decide), e 8 (by decide) (by decide), e 9 (by decide) (by decide)]
    exact ⟨fun _ _ => rfl, rfl, rfl⟩
  · by_cases h20 : nO T = 20
    · have e : lsT K V wd ca T p = T := by
        unfold lsT
        rw [if_neg (by omega), if_neg (by omega), if_neg (by omega), if_neg (by omega), if_pos h20]
      rw [e]
      exact ⟨fun _ _ => rfl, rfl, rfl⟩
    · obtain ⟨e7, e8, e9⟩ := lsT_od (K := K) (V := V) (wd := wd) (ca := ca) (p := p) h h20
      rw [e7, e8, e9]
      exact ⟨fun j hj => by rw [upd_n (by omega), upd_n (by omega), upd_n (by omega)], upd_n (by omega), upd_n (by omega)⟩
theorem cb_sm : ∀ (f : Nat) (T : MI) (p : Nat), cb T → cb (smT K V wd ca f T p) ∧ cm T (smT K V wd ca f T p) := by
  intro f
  induction f with
  | zero => exact fun T p h => ⟨h, cm.rf⟩
  | succ f ih =>
    intro T p h
    rw [smT]
    by_cases k : K p = 45
    · rw [if_pos k]; exact ⟨h, cm.rf⟩
    · rw [if_neg k]
      obtain ⟨a, b⟩ := cb_ls (K := K) (V := V) (wd := wd) (ca := ca) (p := p) h
      obtain ⟨c, d⟩ := ih _ (pL K p).2 a
      exact ⟨c, b.tr d⟩
theorem smT_row : ∀ (f : Nat) (T : MI) (p q : Nat), cb T → q < nO T → (∀ j, j < 5 → smT K V wd ca f T p 7 (5 * q + j) = T 7 (5 * q + j)) ∧ smT K V wd ca f T p 8 q = T 8 q ∧ smT K V wd ca f T p 9 q = T 9 q := by
  intro f
  induction f with
  | zero => exact fun T p q _ _ => ⟨fun _ _ => rfl, rfl, rfl⟩
  | succ f ih =>
    intro T p q hc hq
    rw [smT]
    by_cases k : K p = 45
    · rw [if_pos k]; exact ⟨fun _ _ => rfl, rfl, rfl⟩
    · rw [if_neg k]
      obtain ⟨a, b⟩ := cb_ls (K := K) (V := V) (wd := wd) (ca := ca) (p := p) hc
      obtain ⟨c1, c2, c3⟩ := ih _ (pL K p).2 q a (Nat.lt_of_lt_of_le hq b.2.2.2.2)
      obtain ⟨d1, d2, d3⟩ := lsT_row (K := K) (V := V) (wd := wd) (ca := ca) (p := p) hq
      exact ⟨fun j hj => (c1 j hj).trans (d1 j hj), c2.trans d2, c3.trans d3⟩
/-- what an order's sum and test mean -/
def oES (K : Nat → Nat) (V mm : Nat → Int32) (p : Nat) : EX := (pS K V mm 8 (p + 5)).2.2
def oTS (K : Nat → Nat) (V mm : Nat → Int32) (p : Nat) : Option EX := if K (q1L K p) = 15 then some (pT K V mm 8 (q1L K p + 1)).2.2 else none
def osE (K : Nat → Nat) (V : Nat → Int32) (wd : Nat → Nat) (ca : Nat → Int32) : Nat → MI → Nat → Nat → EX × Option EX
  | 0, _, _, _ => (zE, none)
  | f + 1, T, p, q => if K p = 45 then (zE, none) else if (K p = 11 ∨ K p = 14) ∧ q = nO T then (oES K V (mT K wd T) p, oTS K V (mT K wd T) p) else osE K V wd ca f (lsT K V wd ca T p) (pL K p).2 q
end LS
theorem seg_lt {m : Nat → Int32} {I : MI} {z z' : Nat} {E : EX} (h : seg m I z z' E) : z < z' := by
  obtain ⟨h1, h2, h3⟩ := h
  rcases Nat.lt_or_ge z z' with q | q
  · exact q
  · have e : z' - z = 0 := by omega
    have k := h3 (fun _ _ => 0) []
    rw [e] at k
    exact absurd (show ([] : List Int32) = _ from k) (List.cons_ne_nil _ _).symm
/-- from tokens' numbers to what they name -/
theorem seg_nm {mm : Nat → Int32} {I : MI} {z z' : Nat} {E E' : EX} (h : seg idm I z z' E) (he : ∀ ev, E (fun k x => if 17 ≤ k ∧ k ≤ 22 then ev k (mm (ix x)) else ev k x) = E' ev) : seg mm I z z' E' := by
  obtain ⟨h1, h2, h3⟩ := h
  refine ⟨h1, h2, fun ev L => ?_⟩
  show pfC (evm mm ev) (I 78) (I 79) (z' - z) z L = E' ev :: L
  rw [← he ev]
  refine Eq.trans ?_ (h3 _ L)
  refine pfC_ext _ _ _ _ _ _ _ _ _ (fun j j1 j2 => ⟨rfl, fun M => ?_⟩)
  obtain ⟨k, k1, k2, k3⟩ := h2 j j1 (by omega)
  have k4 := kdOK_lt k2
  rw [k1, ix_n (by omega)]
  unfold stpC
  by_cases c : k ≤ 22 ∨ k = 29
  · rw [if_pos c, if_pos c]
    congr 1
    unfold evm
    by_cases c1 : k = 29
    · rw [if_pos c1, if_pos c1]
    rw [if_neg c1, if_neg c1]
    by_cases c2 : k = 16
    · rw [if_pos c2, if_pos c2]
      exact (if_neg (by omega)).symm
    rw [if_neg c2, if_neg c2]
    have c3 : 17 ≤ k ∧ k ≤ 22 := by
      unfold kdOK isOp isJo at k2
      omega
    obtain ⟨t, t1, t2⟩ := k3 c3.1 c3.2
    rw [t2, ix_n (by omega)]
    show _ = if 17 ≤ k ∧ k ≤ 22 then ev k (mm (ix (nI t))) else ev k (nI t)
    rw [if_pos c3, ix_n (by omega)]
  · rw [if_neg c, if_neg c]
theorem idm_A {K : Nat → Nat} {M : Nat} (hM4 : M ≤ 400) {g g' : Nat → PRs} {mm m2 : Nat → Int32} (hA : ∀ ev ev', gA K M idm m2 ev' ev g' g) (hB : gB M g') {p : Nat} (hp : p ≤ M) (hm : ∀ t, p ≤ t → t < (g' p).2.1 → K t = 28 → mm t = m2 t) (ev : Nat → Int32 → Int32) : (g' p).2.2 (fun k x => if 17 ≤ k ∧ k ≤ 22 then ev k (mm (ix x)) else ev k x) = (g p).2.2 ev := by
  refine hA ev _ p hp ⟨if_neg (by omega), fun t t1 t2 k28 k k1 k2 => ?_⟩
  have b := (hB p hp).2.1
  show (if 17 ≤ k ∧ k ≤ 22 then ev k (mm (ix (nI t))) else ev k (nI t)) = ev k (m2 t)
  rw [if_pos ⟨k1, k2⟩, ix_n (by omega), hm t t1 t2 k28]
/-- an order in the class's code -/
def cGO (I : MI) (mm : Nat → Int32) (Z : Nat) (Tf : MI) (q : Nat) (r : EX × Option EX) : Prop := (∃ z0 z1 z2, (if q = 0 then z0 = 0 else Tf 9 (q - 1) = nI z0) ∧ Tf 8 q = nI z1 ∧ Tf 9 q = nI z2 ∧ z0 ≤ z1 ∧ z1 ≤ z2 ∧ z2 ≤ Z ∧ (Tf 7 (5 * q) = nI 11 → seg mm I z0 z1 r.1) ∧ (r.2 = none → z1 = z2) ∧ (∀ t, r.2 = some t → seg mm I z1 z2 t)) ∧ (∃ g, Tf 7 (5 * q + 1) = nI g ∧ g < (if Tf 7 (5 * q) = nI 11 then nN Tf else nT Tf)) ∧ (∃ k, Tf 7 (5 * q + 2) = nI k ∧ k < nK Tf) ∧ (Tf 7 (5 * q) = nI 11 ∨ Tf 7 (5 * q) = nI 14)
theorem pL_11 {K : Nat → Nat} {M p : Nat} (hM : 45 ≤ K M) (hp : p ≤ M) (e : K p = 11) (hg : (pL K p).1 = true) : K (p + 1) = 28 ∧ K (p + 2) = 12 ∧ K (p + 3) = 28 ∧ p + 5 ≤ M ∧ (pS K v0 v0 8 (p + 5)).1 = true ∧ (whnL K (q1L K p)).1 = true ∧ (pL K p).2 = (whnL K (q1L K p)).2 := by
  have hq : q1L K p = (pS K v0 v0 8 (p + 5)).2.1 := if_pos e
  have s0 : pL K p = sqK K [11, 28, 12, 28, 13] p (tieL K) := by rw [pL, if_neg (by omega), if_neg (by omega), if_neg (by omega), if_neg (by omega), if_pos e]
  rw [s0] at hg ⊢
  obtain ⟨e0, c0⟩ := sqK_c hg
  rw [c0] at hg ⊢
  obtain ⟨e1, c1⟩ := sqK_c hg
  rw [c1] at hg ⊢
  obtain ⟨e2, c2⟩ := sqK_c hg
  rw [c2] at hg ⊢
  obtain ⟨e3, c3⟩ := sqK_c hg
  rw [c3] at hg ⊢
  obtain ⟨e4, c4⟩ := sqK_c hg
  rw [c4] at hg ⊢
  change (tieL K (p + 5)).1 = true at hg
  have b1 := K_lt hM hp e0 (by decide)
  have b2 := K_lt (p := p + 1) hM (by omega) e1 (by decide)
  have b3 := K_lt (p := p + 1 + 1) hM (by omega) e2 (by decide)
  have b4 := K_lt (p := p + 1 + 1 + 1) hM (by omega) e3 (by decide)
  have b5 := K_lt (p := p + 1 + 1 + 1 + 1) hM (by omega) e4 (by decide)
  by_cases u : (pS K v0 v0 8 (p + 5)).1 = true
  · have ht : tieL K (p + 5) = whnL K (q1L K p) := by rw [tieL, if_pos u, hq]
    rw [ht] at hg
    exact ⟨e1, e2, e3, by omega, u, hg, congrArg Prod.snd ht⟩
  · rw [tieL, if_neg u] at hg
    exact Bool.noConfusion hg
theorem pL_14 {K : Nat → Nat} {M p : Nat} (hM : 45 ≤ K M) (hp : p ≤ M) (e : K p = 14) (hg : (pL K p).1 = true) : K (p + 1) = 28 ∧ K (p + 2) = 12 ∧ K (p + 3) = 28 ∧ p + 4 ≤ M ∧ (whnL K (q1L K p)).1 = true ∧ (pL K p).2 = (whnL K (q1L K p)).2 := by
  have hq : q1L K p = p + 4 := if_neg (by omega)
  have s0 : pL K p = sqK K [14, 28, 12, 28] p (whnL K) := by rw [pL, if_neg (by omega), if_neg (by omega), if_neg (by omega), if_neg (by omega), if_neg (by omega), if_pos e]
  rw [s0] at hg ⊢
  obtain ⟨e0, c0⟩ := sqK_c hg
  rw [c0] at hg ⊢
  obtain ⟨e1, c1⟩ := sqK_c hg
  rw [c1] at hg ⊢
  obtain ⟨e2, c2⟩ := sqK_c hg
  rw [c2] at hg ⊢
  obtain ⟨e3, c3⟩ := sqK_c hg
  rw [c3] at hg ⊢
  change (whnL K (p + 4)).1 = true at hg
  have b1 := K_lt hM hp e0 (by decide)
  have b2 := K_lt (p := p + 1) hM (by omega) e1 (by decide)
  have b3 := K_lt (p := p + 1 + 1) hM (by omega) e2 (by decide)
  have b4 := K_lt (p := p + 1 + 1 + 1) hM (by omega) e3 (by decide)
  rw [hq]
  exact ⟨e1, e2, e3, by omega, hg, rfl⟩
/-- the code of a test, by names -/
theorem ts_nm {K : Nat → Nat} {V mm m2 : Nat → Int32} {I : MI} {M p e z1 z' : Nat} (hM : 45 ≤ K M) (hM4 : M ≤ 400) (hq : q1L K p ≤ M) (hw : (whnL K (q1L K p)).1 = true) (he : e = (whnL K (q1L K p)).2) (h : tsC K V idm I e (q1L K p) z1 z') (hz : z1 ≤ z') (hm : ∀ t, q1L K p ≤ t → t < e → K t = 28 → mm t = m2 t) : I 9 (q1L K p) = nI z1 ∧ I 9 (e - 1) = nI z' ∧ (oTS K V m2 p = none → z1 = z') ∧ (∀ t, oTS K V m2 p = some t → seg mm I z1 z' t) := by
  obtain ⟨⟨h1, h2⟩, h3⟩ := h
  refine ⟨h2, ?_⟩
  rcases whnL_c hM hq hw with ⟨w1, w2, w3, w4, w5, w6, w7, w8⟩ | ⟨w1, w3, w8⟩
  · rw [if_pos w1] at h3
    obtain ⟨g1, g2, g3⟩ := h3
    have e1 := (pT_eqv (K := K) (V := V) (m := idm) (V' := v0) (m' := v0) 8 (q1L K p + 1)).2
    rw [e1] at g3 g2
    have ee : e - 1 = (pT K v0 v0 8 (q1L K p + 1)).2.1 := by rw [he, w8]; exact Nat.add_sub_cancel _ 1
    refine ⟨by rw [ee]; exact g3, fun q => ?_, fun t q => ?_⟩
    · rw [oTS, if_pos w1] at q; cases q
    · rw [oTS, if_pos w1] at q
      rw [← Option.some.inj q]
      refine seg_nm g1 (idm_A hM4 (fun ev ev' => pT_A hM 8) (pT_B hM 8) w3 (fun t t1 t2 k => hm t (by omega) ?_ k))
      rw [e1] at t2
      omega
  · rw [if_neg (by omega)] at h3
    have ee : e - 1 = q1L K p := by rw [he, w8]; exact Nat.add_sub_cancel _ 1
    refine ⟨by rw [ee, h3]; exact h2, fun _ => h3.symm, fun t q => ?_⟩
    rw [oTS, if_neg (by omega)] at q; cases q
theorem tgt_in {K wd : Nat → Nat} {T : MI} {t i : Nat} (hi : tbI (K (t - 1)) = i) (h : ¬ mT K wd T t = -1) : ∃ g, mT K wd T t = nI g ∧ g < ix (T 0 i) := by
  subst hi
  rcases lkT_in (wd := wd) (T := T) (i := tbI (K (t - 1))) (t := t) with q | ⟨j, j1, j2⟩
  · exact absurd q h
  · exact ⟨j, j2, j1⟩
theorem cls_ord {K wd : Nat → Nat} {V mm : Nat → Int32} {M Z : Nat} {I I2 : MI} (hM : 45 ≤ K M) (hM4 : M ≤ 400) (hZ : I 77 2 = nI Z) (hZ3 : Z < 2 ^ 31) (hmm : mm = I2 16) : ∀ (f p z : Nat) (T : MI), p ≤ M → z ≤ p → (prG K f p).1 = true → lnsC K V idm I f p z → smE K V wd (I 9) f T p = none → lmO K V wd (I 9) I2 f T p → cb T → (if nO T = 0 then z = 0 else T 9 (nO T - 1) = nI z) → ∀ q, nO T ≤ q → q < nO (smT K V wd (I 9) f T p) → cGO I mm Z (smT K V wd (I 9) f T p) q (osE K V wd (I 9) f T p q) := by
  intro f
  induction f with
  | zero =>
    intro p z T hp hz hg hL hE hl hc h9 q q1 q2
    exact absurd q2 (by rw [smT]; omega)
  | succ f ih =>
    intro p z T hp hz hg hL hE hl hc h9 q q1 q2
    rw [prG] at hg
    rw [lnsC] at hL
    rw [smE] at hE
    rw [lmO] at hl
    rw [smT] at q2 ⊢
    rw [osE]
    by_cases k : K p = 45
    · rw [if_pos k] at q2
      omega
    · rw [if_neg k] at hg hL hE hl q2 ⊢
      rw [if_neg k]
      by_cases k2 : (pL K p).1 = true
      · rw [if_pos k2] at hg
        obtain ⟨z', c1, c2, c3, c4⟩ := hL
        obtain ⟨s1, s2, s3, s4⟩ := pL_sh hM hp k2
        obtain ⟨E1, E2⟩ := Option.or_eq_none_iff.mp hE
        obtain ⟨b1, b2⟩ := cb_ls (K := K) (V := V) (wd := wd) (ca := I 9) (p := p) hc
        obtain ⟨b3, b4⟩ := cb_sm (K := K) (V := V) (wd := wd) (ca := I 9) f (lsT K V wd (I 9) T p) (pL K p).2 b1
        have hzZ := (lnsC_cok hM hM4 hZ hZ3 f (pL K p).2 z' s4 c2 c4 hg).1
        by_cases od : K p = 11 ∨ K p = 14
        · have n20 : ¬ nO T = 20 := by
            intro r
            rw [lerr, if_neg (by omega), if_neg (by omega), if_neg (by omega), if_neg (by omega), er, if_pos (by simp [r])] at E1
            cases E1
          have F := E1
          rw [lerr, if_neg (by omega), if_neg (by omega), if_neg (by omega), if_neg (by omega), er, if_neg (by simp [n20]), er] at F
          have F := fbd_no _ _ F
          obtain ⟨e7, e8, e9⟩ := lsT_od (K := K) (V := V) (wd := wd) (ca := I 9) (p := p) (T := T) (by omega) n20
          have eO : nO (lsT K V wd (I 9) T p) = nO T + 1 := nO_ls (by omega) n20 hc.2.2.2.2
          have hm : ∀ t, p < t → t < (pL K p).2 → K t = 28 → mm t = mT K wd T t := by
            rw [hmm]
            exact hl.1 od
          have H : (K (p + 1) = 28 ∧ K (p + 2) = 12 ∧ K (p + 3) = 28) ∧ p + 3 < (pL K p).2 ∧ ∃ z1, z ≤ z1 ∧ z1 ≤ z' ∧ I 9 (q1L K p) = nI z1 ∧ I 9 ((pL K p).2 - 1) = nI z' ∧ (K p = 11 → seg mm I z z1 (oES K V (mT K wd T) p)) ∧ (oTS K V (mT K wd T) p = none → z1 = z') ∧ (∀ t, oTS K V (mT K wd T) p = some t → seg mm I z1 z' t) := by
            have wl : ∀ q, q ≤ M → (whnL K q).1 = true → q < (whnL K q).2 := fun q a b => by
              rcases whnL_c hM a b with ⟨_, _, _, d1, _, _, _, d3⟩ | ⟨_, _, d2⟩ <;> omega
            unfold lnC at c3
            by_cases e11 : K p = 11
            · rw [if_pos e11] at c3
              obtain ⟨z1, a1, a2, a3⟩ := c3
              obtain ⟨g1, g2, g3, g4, g5, g6, g7⟩ := pL_11 hM hp e11 k2
              have hq : q1L K p = (pS K v0 v0 8 (p + 5)).2.1 := if_pos e11
              have eq := (pS_eqv (K := K) (V := V) (m := idm) (V' := v0) (m' := v0) 8 (p + 5)).2
              rw [eq, ← hq] at a3
              have bq := pS_B (V := v0) (m := v0) hM 8 (p + 5) g4
              rw [← hq] at bq
              have w1 := wl _ bq.2.1 g6
              obtain ⟨t1, t2, t3, t4⟩ := ts_nm (m2 := mT K wd T) (mm := mm) hM hM4 bq.2.1 g6 g7 a3 a2 (fun t b1 b2 b3 => hm t (by omega) b2 b3)
              refine ⟨⟨g1, g2, g3⟩, by omega, z1, a1.1, a2, t1, t2, fun _ => ?_, t3, t4⟩
              refine seg_nm a1 (idm_A hM4 (fun ev ev' => pS_A hM 8) (pS_B hM 8) g4 (fun t b1 b2 b3 => hm t (by omega) ?_ b3))
              rw [eq, ← hq] at b2
              omega
            · have e14 : K p = 14 := by omega
              rw [if_neg e11, if_pos e14] at c3
              obtain ⟨g1, g2, g3, g4, g6, g7⟩ := pL_14 hM hp e14 k2
              have hq : q1L K p = p + 4 := if_neg e11
              rw [← hq] at c3
              have w1 := wl _ (by omega) g6
              obtain ⟨t1, t2, t3, t4⟩ := ts_nm (m2 := mT K wd T) (mm := mm) hM hM4 (by omega) g6 g7 c3 c1 (fun t b1 b2 b3 => hm t (by omega) b2 b3)
              exact ⟨⟨g1, g2, g3⟩, by omega, z, Nat.le_refl _, c1, t1, t2, fun r => absurd r e11, t3, t4⟩
          obtain ⟨⟨n1, n2, n3⟩, n4, z1, y1, y2, y3, y4, y5, y6, y7⟩ := H
          by_cases e : q = nO T
          · subst e
            rw [if_pos ⟨od, rfl⟩]
            obtain ⟨r7, r8, r9⟩ := smT_row (K := K) (V := V) (wd := wd) (ca := I 9) f (lsT K V wd (I 9) T p) (pL K p).2 (nO T) b1 (by omega)
            have a0 : smT K V wd (I 9) f (lsT K V wd (I 9) T p) (pL K p).2 7 (5 * nO T) = nI (K p) := by
              have := r7 0 (by decide)
              rw [Nat.add_zero] at this
              rw [this, e7, upd_n (by omega), upd_n (by omega), upd_s]
            have a1 : smT K V wd (I 9) f (lsT K V wd (I 9) T p) (pL K p).2 7 (5 * nO T + 1) = mT K wd T (p + 1) := by
              rw [r7 1 (by decide), e7, upd_n (by omega), upd_s]
            have a2 : smT K V wd (I 9) f (lsT K V wd (I 9) T p) (pL K p).2 7 (5 * nO T + 2) = mT K wd T (p + 3) := by
              rw [r7 2 (by decide), e7, upd_s]
            have a3 : smT K V wd (I 9) f (lsT K V wd (I 9) T p) (pL K p).2 8 (nO T) = nI z1 := by rw [r8, e8, upd_s, y3]
            have a4 : smT K V wd (I 9) f (lsT K V wd (I 9) T p) (pL K p).2 9 (nO T) = nI z' := by rw [r9, e9, upd_s, y4]
            have k11 : nI (K p) = nI 11 ↔ K p = 11 := ⟨fun r => eqN r (by omega) (by decide), fun r => by rw [r]⟩
            refine ⟨⟨z, z1, z', ?_, a3, a4, y1, y2, hzZ, fun r => y5 (k11.mp (a0.symm.trans r)), y6, y7⟩, ?_, ?_, ?_⟩
            · by_cases r : nO T = 0
              · rw [if_pos r] at h9 ⊢; exact h9
              · rw [if_neg r] at h9 ⊢
                obtain ⟨-, -, u9⟩ := smT_row (K := K) (V := V) (wd := wd) (ca := I 9) f (lsT K V wd (I 9) T p) (pL K p).2 (nO T - 1) b1 (by omega)
                obtain ⟨-, -, v9⟩ := lsT_row (K := K) (V := V) (wd := wd) (ca := I 9) (T := T) (p := p) (q := nO T - 1) (by omega)
                rw [u9, v9]; exact h9
            · have hne := F (p + 1) (Nat.le_refl _) (by omega) n1
              rw [a0, a1]
              by_cases r : K p = 11
              · obtain ⟨g, g1, g2⟩ := tgt_in (K := K) (wd := wd) (T := T) (t := p + 1) (i := 1) (by rw [Nat.add_sub_cancel, r]; decide) hne
                refine ⟨g, g1, ?_⟩
                rw [if_pos (k11.mpr r)]
                have g2 : g < nN T := g2
                have := b2.2.1; have := b4.2.1
                omega
              · have r14 : K p = 14 := by omega
                obtain ⟨g, g1, g2⟩ := tgt_in (K := K) (wd := wd) (T := T) (t := p + 1) (i := 2) (by rw [Nat.add_sub_cancel, r14]; decide) hne
                refine ⟨g, g1, ?_⟩
                rw [if_neg (fun w => r (k11.mp w))]
                have g2 : g < nT T := g2
                have := b2.2.2.1; have := b4.2.2.1
                omega
            · have hne := F (p + 3) (by omega) (by omega) n3
              rw [a2]
              obtain ⟨g, g1, g2⟩ := tgt_in (K := K) (wd := wd) (T := T) (t := p + 3) (i := 3) (by rw [show p + 3 - 1 = p + 2 by omega, n2]; decide) hne
              have g2 : g < nK T := g2
              have := b2.2.2.2.1; have := b4.2.2.2.1
              exact ⟨g, g1, by omega⟩
            · rw [a0]
              rcases od with r | r <;> rw [r]
              · exact Or.inl rfl
              · exact Or.inr rfl
          · rw [if_neg (fun r => e r.2)]
            refine ih (pL K p).2 z' _ s4 c2 hg c4 E2 hl.2 b1 ?_ q (by omega) q2
            rw [if_neg (by omega), eO, Nat.add_sub_cancel, e9, upd_s, y4]
        · rw [if_neg (fun r => od r.1)]
          have nod : K p = 0 ∨ K p = 2 ∨ K p = 7 ∨ K p = 9 := by omega
          obtain ⟨eO, er⟩ := lsT_ot (K := K) (V := V) (wd := wd) (ca := I 9) (T := T) (p := p) nod
          have ez : z' = z := by
            unfold lnC at c3
            rw [if_neg (by omega), if_neg (by omega)] at c3
            exact c3
          refine ih (pL K p).2 z' _ s4 c2 hg c4 E2 hl.2 b1 ?_ q (by omega) q2
          rw [eO, er 9 (by decide) (by decide), ez]
          exact h9
      · rw [if_neg k2] at hg
        exact Bool.noConfusion hg
/-- an order in the reference's book -/
def rGO (I : MI) (z q : Nat) (tie : Bool) (r : EX × Option EX) : Prop := (tie = true → nd true I z (I 111 (5 * q + 3)) r.1) ∧ (r.2 = none → I 111 (5 * q + 4) = -1) ∧ (∀ t, r.2 = some t → nd false I z (I 111 (5 * q + 4)) t)
theorem ref_ord {K wd : Nat → Nat} {V ca : Nat → Int32} {M z : Nat} {I : MI} (hM : 45 ≤ K M) : ∀ (f p : Nat) (T : MI), p ≤ M → (prG K f p).1 = true → smE K V wd ca f T p = none → lcO K V wd ca z I f T p → cb T → ∀ q, nO T ≤ q → q < nO (smT K V wd ca f T p) → rGO I z q (decide (smT K V wd ca f T p 7 (5 * q) = nI 11)) (osE K V wd ca f T p q) := by
  intro f
  induction f with
  | zero =>
    intro p T hp hg hE hl hc q q1 q2
    exact absurd q2 (by rw [smT]; omega)
  | succ f ih =>
    intro p T hp hg hE hl hc q q1 q2
    rw [prG] at hg
    rw [smE] at hE
    rw [lcO] at hl
    rw [smT] at q2 ⊢
    rw [osE]
    by_cases k : K p = 45
    · rw [if_pos k] at q2
      omega
    · rw [if_neg k] at hg hE hl q2 ⊢
      rw [if_neg k]
      by_cases k2 : (pL K p).1 = true
      · rw [if_pos k2] at hg
        obtain ⟨s1, s2, s3, s4⟩ := pL_sh hM hp k2
        obtain ⟨E1, E2⟩ := Option.or_eq_none_iff.mp hE
        obtain ⟨b1, b2⟩ := cb_ls (K := K) (V := V) (wd := wd) (ca := ca) (p := p) hc
        by_cases od : K p = 11 ∨ K p = 14
        · have n20 : ¬ nO T = 20 := by
            intro r
            rw [lerr, if_neg (by omega), if_neg (by omega), if_neg (by omega), if_neg (by omega), er, if_pos (by simp [r])] at E1
            cases E1
          obtain ⟨e7, e8, e9⟩ := lsT_od (K := K) (V := V) (wd := wd) (ca := ca) (p := p) (T := T) (by omega) n20
          have eO : nO (lsT K V wd ca T p) = nO T + 1 := nO_ls (by omega) n20 hc.2.2.2.2
          by_cases e : q = nO T
          · subst e
            rw [if_pos ⟨od, rfl⟩]
            obtain ⟨r7, r8, r9⟩ := smT_row (K := K) (V := V) (wd := wd) (ca := ca) f (lsT K V wd ca T p) (pL K p).2 (nO T) b1 (by omega)
            have a0 : smT K V wd ca f (lsT K V wd ca T p) (pL K p).2 7 (5 * nO T) = nI (K p) := by
              have := r7 0 (by decide)
              rw [Nat.add_zero] at this
              rw [this, e7, upd_n (by omega), upd_n (by omega), upd_s]
            have k11 : nI (K p) = nI 11 ↔ K p = 11 := ⟨fun r => eqN r (by omega) (by decide), fun r => by rw [r]⟩
            obtain ⟨c1, c2⟩ := hl.1 od
            rw [a0]
            by_cases e11 : K p = 11
            · obtain ⟨d1, d2, d3⟩ := c1 e11
              have hq : q1L K p = (pS K v0 v0 8 (p + 5)).2.1 := if_pos e11
              have eq := (pS_eqv (K := K) (V := V) (m := mT K wd T) (V' := v0) (m' := v0) 8 (p + 5)).2
              rw [eq, ← hq] at d2 d3
              refine ⟨fun _ => d1, fun r => d3 (fun w => ?_), fun t r => ?_⟩
              · have r : oTS K V (mT K wd T) p = none := r
                rw [oTS, if_pos w] at r; cases r
              · have r : oTS K V (mT K wd T) p = some t := r
                by_cases w : K (q1L K p) = 15
                · rw [oTS, if_pos w] at r
                  rw [← Option.some.inj r]
                  exact d2 w
                · rw [oTS, if_neg w] at r; cases r
            · have e14 : K p = 14 := by omega
              obtain ⟨d1, d2, d3⟩ := c2 e14
              have hq : q1L K p = p + 4 := if_neg e11
              rw [← hq] at d2 d3
              refine ⟨fun w => absurd (k11.mp (of_decide_eq_true w)) e11, fun r => d3 (fun w => ?_), fun t r => ?_⟩
              · have r : oTS K V (mT K wd T) p = none := r
                rw [oTS, if_pos w] at r; cases r
              · have r : oTS K V (mT K wd T) p = some t := r
                by_cases w : K (q1L K p) = 15
                · rw [oTS, if_pos w] at r
                  rw [← Option.some.inj r]
                  have := d2 w
                  rw [show p + 5 = q1L K p + 1 by omega] at this
                  exact this
                · rw [oTS, if_neg w] at r; cases r
          · rw [if_neg (fun r => e r.2)]
            exact ih (pL K p).2 _ s4 hg E2 hl.2 b1 q (by omega) q2
        · rw [if_neg (fun r => od r.1)]
          have nod : K p = 0 ∨ K p = 2 ∨ K p = 7 ∨ K p = 9 := by omega
          obtain ⟨eO, er⟩ := lsT_ot (K := K) (V := V) (wd := wd) (ca := ca) (T := T) (p := p) nod
          exact ih (pL K p).2 _ s4 hg E2 hl.2 b1 q (by omega) q2
      · rw [if_neg k2] at hg
        exact Bool.noConfusion hg
