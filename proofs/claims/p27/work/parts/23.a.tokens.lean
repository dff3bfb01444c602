/-! A text made of pieces: its tokens -/
abbrev PIE : Type := Bool × List Nat × Nat × Nat
def fl1 (x : PIE) : List Nat := (if x.1 then [32] else []) ++ x.2.1
def flP : List PIE → List Nat
  | [] => []
  | x :: r => fl1 x ++ flP r
def nxC : List PIE → Nat → Nat
  | [], c => c
  | x :: _, _ => if x.1 then 32 else x.2.1.headD 0
def ltrN (c : Nat) : Bool := decide (97 ≤ c) && decide (c ≤ 122)
def dgC1 (c : Nat) : Bool := decide (48 ≤ c) && decide (c ≤ 57)
def alN (c : Nat) : Bool := ltrN c || dgC1 c
def wdV (l : List Nat) : Nat := l.foldl (fun a c => a * 37 + sgN c) 0
def nuV (l : List Nat) : Nat := l.foldl (fun a c => a * 10 + (c - 48)) 0
/-- a word, a number, a sign, a sign of two -/
def wdP (x : PIE) (nc : Nat) : Bool := ltrN (x.2.1.headD 0) && x.2.1.all alN && decide (x.2.1.length ≤ 10) && !alN nc && decide (x.2.2.2 = wdV x.2.1) && decide (x.2.2.1 = kwI (wdV x.2.1) 28 0)
def nuP (x : PIE) (nc : Nat) : Prop := x.2.1 ≠ [] ∧ (∀ c ∈ x.2.1, dgC1 c = true) ∧ x.2.1.length ≤ 6 ∧ dgC1 nc = false ∧ x.2.2.2 = nuV x.2.1 ∧ x.2.2.1 = 29
def sgP (x : PIE) (nc : Nat) : Bool := decide (x.2.1.length = 1) && !alN (x.2.1.headD 0) && decide (¬ x.2.1.headD 0 = 32) && decide (¬ x.2.1.headD 0 = 10) && decide (¬ (x.2.1.headD 0 = 60 ∨ x.2.1.headD 0 = 62) ∨ ¬ nc = 61) && decide (x.2.2.2 = 0) && decide (x.2.2.1 = symK (x.2.1.headD 0))
def gtP (x : PIE) : Bool := decide (x.2.1 = [62, 61]) && decide (x.2.2.2 = 0) && decide (x.2.2.1 = 44)
def pcP (x : PIE) (nc : Nat) : Prop := wdP x nc = true ∨ nuP x nc ∨ sgP x nc = true ∨ gtP x = true
def okN : List PIE → Nat → Prop
  | [], _ => True
  | x :: r, c => pcP x (nxC r c) ∧ okN r c
/-- from p on the text is s -/
def AtT (T : Nat → Nat) (L p : Nat) (s : List Nat) : Prop := p + s.length = L ∧ ∀ j, j < s.length → T (p + j) = s.getD j 0
section TK
variable {T : Nat → Nat} {L p : Nat}
theorem AtT.hd {c : Nat} {s : List Nat} (h : AtT T L p (c :: s)) : p < L ∧ T p = c := by
  refine ⟨by have := h.1; simp at this; omega, ?_⟩
  have := h.2 0 (by simp)
  simpa using this
theorem AtT.tl {c : Nat} {s : List Nat} (h : AtT T L p (c :: s)) : AtT T L (p + 1) s := by
  refine ⟨by have := h.1; simp at this; omega, fun j hj => ?_⟩
  have := h.2 (j + 1) (by simp; omega)
  rw [show p + 1 + j = p + (j + 1) by omega, this]
  simp
theorem AtT.dr : ∀ (a : List Nat) {p : Nat} {s : List Nat}, AtT T L p (a ++ s) → AtT T L (p + a.length) s
  | [], p, s, h => by simpa using h
  | c :: a, p, s, h => by
    have := AtT.dr a (AtT.tl (c := c) h)
    rw [List.length_cons, show p + (a.length + 1) = p + 1 + a.length by omega]
    exact this
theorem ltB_at {c : Nat} {s : List Nat} (h : AtT T L p (c :: s)) : ltB T L p = ltrN c := by
  obtain ⟨h1, h2⟩ := h.hd
  unfold ltB ltrN
  rw [decide_eq_true h1, h2, Bool.true_and]
theorem dgB_at {c : Nat} {s : List Nat} (h : AtT T L p (c :: s)) : dgB T L p = dgC1 c := by
  obtain ⟨h1, h2⟩ := h.hd
  unfold dgB dgC1
  rw [decide_eq_true h1, h2, Bool.true_and]
theorem ltB_end (h : AtT T L p []) : ltB T L p = false := by
  have : ¬ p < L := by have := h.1; simp at this; omega
  unfold ltB
  rw [decide_eq_false this, Bool.false_and]
theorem dgB_end (h : AtT T L p []) : dgB T L p = false := by
  have : ¬ p < L := by have := h.1; simp at this; omega
  unfold dgB
  rw [decide_eq_false this, Bool.false_and]
theorem alB_next {s : List Nat} {nc : Nat} (h : AtT T L p s) (hn : s ≠ [] → s.headD 0 = nc) (ha : alN nc = false) : (ltB T L p || dgB T L p) = false := by
  cases s with
  | nil => rw [ltB_end h, dgB_end h]; rfl
  | cons c s =>
    rw [ltB_at h, dgB_at h]
    have : c = nc := hn (by simp)
    rw [this]
    exact ha
theorem dgB_next {s : List Nat} {nc : Nat} (h : AtT T L p s) (hn : s ≠ [] → s.headD 0 = nc) (ha : dgC1 nc = false) : dgB T L p = false := by
  cases s with
  | nil => exact dgB_end h
  | cons c s =>
    rw [dgB_at h]
    have : c = nc := hn (by simp)
    rw [this]
    exact ha
theorem wdE_run : ∀ (l : List Nat) (f p : Nat) (s : List Nat), AtT T L p (l ++ s) → (∀ c ∈ l, alN c = true) → (ltB T L (p + l.length) || dgB T L (p + l.length)) = false → l.length < f → wdE T L f p = p + l.length
  | [], f, p, s, h, _, he, hf => by
    obtain ⟨f, rfl⟩ : ∃ g, f = g + 1 := ⟨f - 1, by simp at hf; omega⟩
    simp only [List.length_nil, Nat.add_zero] at he ⊢
    rw [wdE, if_neg (by rw [he]; decide)]
  | c :: l, f, p, s, h, ha, he, hf => by
    obtain ⟨f, rfl⟩ : ∃ g, f = g + 1 := ⟨f - 1, by simp at hf; omega⟩
    have h1 : AtT T L p (c :: (l ++ s)) := h
    rw [wdE, if_pos (by rw [ltB_at h1, dgB_at h1]; exact ha c (by simp)), wdE_run l f (p + 1) s h1.tl (fun x hx => ha x (by simp [hx])) (by rw [List.length_cons] at he; rw [show p + 1 + l.length = p + (l.length + 1) by omega]; exact he) (by simp at hf; omega)]
    simp
    omega
theorem nuE_run : ∀ (l : List Nat) (f p : Nat) (s : List Nat), AtT T L p (l ++ s) → (∀ c ∈ l, dgC1 c = true) → dgB T L (p + l.length) = false → l.length < f → nuE T L f p = p + l.length
  | [], f, p, s, h, _, he, hf => by
    obtain ⟨f, rfl⟩ : ∃ g, f = g + 1 := ⟨f - 1, by simp at hf; omega⟩
    simp only [List.length_nil, Nat.add_zero] at he ⊢
    rw [nuE, if_neg (by rw [he]; decide)]
  | c :: l, f, p, s, h, ha, he, hf => by
    obtain ⟨f, rfl⟩ : ∃ g, f = g + 1 := ⟨f - 1, by simp at hf; omega⟩
    have h1 : AtT T L p (c :: (l ++ s)) := h
    rw [nuE, if_pos (by rw [dgB_at h1]; exact ha c (by simp)), nuE_run l f (p + 1) s h1.tl (fun x hx => ha x (by simp [hx])) (by rw [List.length_cons] at he; rw [show p + 1 + l.length = p + (l.length + 1) by omega]; exact he) (by simp at hf; omega)]
    simp
    omega
theorem cdW_run : ∀ (l : List Nat) (p a : Nat) (s : List Nat), AtT T L p (l ++ s) → cdW T l.length p a = l.foldl (fun a c => a * 37 + sgN c) a
  | [], _, _, _, _ => rfl
  | c :: l, p, a, s, h => by
    have h1 : AtT T L p (c :: (l ++ s)) := h
    rw [List.length_cons, cdW, h1.hd.2, cdW_run l (p + 1) _ s h1.tl]
    rfl
theorem cdN_run : ∀ (l : List Nat) (p a : Nat) (s : List Nat), AtT T L p (l ++ s) → cdN T l.length p a = l.foldl (fun a c => a * 10 + (c - 48)) a
  | [], _, _, _, _ => rfl
  | c :: l, p, a, s, h => by
    have h1 : AtT T L p (c :: (l ++ s)) := h
    rw [List.length_cons, cdN, h1.hd.2, cdN_run l (p + 1) _ s h1.tl]
    rfl
theorem blk_0 {c : Nat} {s : List Nat} (h : AtT T L p (c :: s)) (h1 : ¬ c = 32) (h2 : ¬ c = 10) : ∀ f, blk T L f p = p
  | 0 => rfl
  | f + 1 => by
    rw [blk, if_neg (fun q => by rw [h.hd.2] at q; omega)]
theorem blk_1 {c : Nat} {s : List Nat} (h : AtT T L p (32 :: c :: s)) (h1 : ¬ c = 32) (h2 : ¬ c = 10) : blk T L 2000 p = p + 1 := by
  rw [blk, if_pos ⟨h.hd.1, Or.inl h.hd.2⟩, blk_0 h.tl h1 h2]
def stP (x : PIE) : Nat := if x.1 then 1 else 0
theorem fl1_len (x : PIE) : (fl1 x).length = stP x + x.2.1.length := by
  unfold fl1 stP
  cases x.1 <;> simp <;> omega
theorem pcP_ne {x : PIE} {nc : Nat} (h : pcP x nc) : x.2.1 ≠ [] ∧ ¬ x.2.1.headD 0 = 32 ∧ ¬ x.2.1.headD 0 = 10 := by
  rcases h with h | h | h | h
  · simp only [wdP, ltrN, Bool.and_eq_true, decide_eq_true_eq] at h
    obtain ⟨⟨⟨⟨⟨⟨h1, _⟩, _⟩, _⟩, _⟩, _⟩, _⟩ := h
    refine ⟨fun e => ?_, by omega, by omega⟩
    rw [e] at h1
    simp at h1
  · obtain ⟨h1, h2, _⟩ := h
    obtain ⟨c, s, e⟩ := List.exists_cons_of_ne_nil h1
    have := h2 c (by rw [e]; simp)
    simp only [dgC1, Bool.and_eq_true, decide_eq_true_eq] at this
    refine ⟨h1, ?_, ?_⟩ <;> (rw [e]; simp; omega)
  · simp only [sgP, Bool.and_eq_true, decide_eq_true_eq] at h
    obtain ⟨⟨⟨⟨⟨⟨h1, _⟩, h3⟩, h4⟩, _⟩, _⟩, _⟩ := h
    refine ⟨fun e => ?_, h3, h4⟩
    rw [e] at h1
    simp at h1
  · simp only [gtP, Bool.and_eq_true, decide_eq_true_eq] at h
    rw [h.1.1]
    exact ⟨by simp, by decide, by decide⟩
theorem blk_p {x : PIE} {s : List Nat} {nc : Nat} (h : AtT T L p (fl1 x ++ s)) (hx : pcP x nc) : blk T L 2000 p = p + stP x ∧ AtT T L (p + stP x) (x.2.1 ++ s) := by
  obtain ⟨h1, h2, h3⟩ := pcP_ne hx
  obtain ⟨c, l, e⟩ := List.exists_cons_of_ne_nil h1
  rw [e] at h2 h3
  have h2 : ¬ c = 32 := h2
  have h3 : ¬ c = 10 := h3
  unfold fl1 stP at *
  cases hb : x.1 with
  | true =>
    rw [hb, if_pos rfl, e] at h
    rw [if_pos rfl, e]
    have h : AtT T L p (32 :: c :: (l ++ s)) := h
    exact ⟨blk_1 h h2 h3, h.tl⟩
  | false =>
    rw [hb, if_neg (by decide), e] at h
    rw [if_neg (by decide), e]
    have h : AtT T L p (c :: (l ++ s)) := h
    exact ⟨blk_0 h h2 h3 _, h⟩
theorem tkR_p {x : PIE} {s : List Nat} {nc : Nat} (h : AtT T L p (x.2.1 ++ s)) (hx : pcP x nc) (hs : s ≠ [] → s.headD 0 = nc) (hc : s ≠ [] → ¬ nc = 61 ∨ ¬ T p = 60 ∧ ¬ T p = 62 ∨ True) : tkR T L p = (x.2.2.1, p + x.2.1.length, x.2.2.2) := by
  obtain ⟨h1, _, _⟩ := pcP_ne hx
  obtain ⟨c, l, e⟩ := List.exists_cons_of_ne_nil h1
  have hp : AtT T L p (c :: (l ++ s)) := by rw [e] at h; exact h
  have hlt := hp.hd.1
  have hdr := AtT.dr x.2.1 h
  rcases hx with hx | hx | hx | hx
  · simp only [wdP, Bool.and_eq_true, decide_eq_true_eq, List.all_eq_true] at hx
    obtain ⟨⟨⟨⟨⟨a1, a2⟩, a3⟩, a4⟩, a5⟩, a6⟩ := hx
    have a4 : alN nc = false := by simpa using a4
    have hw := wdE_run x.2.1 2000 p s h a2 (alB_next hdr hs a4) (by omega)
    have hl : ltB T L p = true := by rw [ltB_at hp]; rw [e] at a1; exact a1
    unfold tkR
    rw [if_neg (by omega), if_pos hl, hw, show p + x.2.1.length - p = x.2.1.length by omega, if_neg (by omega), cdW_run x.2.1 p 0 s h, a5, a6]
    rfl
  · obtain ⟨_, a2, a3, a4, a5, a6⟩ := hx
    have hd := a2 c (by rw [e]; simp)
    have hw := nuE_run x.2.1 2000 p s h a2 (dgB_next hdr hs a4) (by omega)
    have hdg : dgB T L p = true := by rw [dgB_at hp]; exact hd
    have hl : ltB T L p = false := by
      rw [ltB_at hp]
      simp only [dgC1, Bool.and_eq_true, decide_eq_true_eq] at hd
      unfold ltrN
      rw [decide_eq_false (by omega)]
      rfl
    unfold tkR
    rw [if_neg (by omega), if_neg (by rw [hl]; decide), if_pos hdg, hw, show p + x.2.1.length - p = x.2.1.length by omega, if_neg (by omega), cdN_run x.2.1 p 0 s h, a5, a6]
    rfl
  · simp only [sgP, Bool.and_eq_true, decide_eq_true_eq, Bool.or_eq_true] at hx
    obtain ⟨⟨⟨⟨⟨⟨b1, b2⟩, b3⟩, b4⟩, b5⟩, b6⟩, b7⟩ := hx
    rw [e] at b1 b2 b5 b7
    have hal : alN c = false := by simpa using b2
    unfold alN at hal
    rw [Bool.or_eq_false_iff] at hal
    have b5 : ¬ (c = 60 ∨ c = 62) ∨ ¬ nc = 61 := b5
    have b7 : x.2.2.1 = symK c := b7
    have l0 : l = [] := by simpa using b1
    clear b1 b2
    subst l0
    unfold tkR
    rw [if_neg (by omega), if_neg (by rw [ltB_at hp, hal.1]; decide), if_neg (by rw [dgB_at hp, hal.2]; decide), hp.hd.2, if_neg, b6, b7, e]
    · rfl
    · rintro ⟨q1, q2, q3⟩
      rcases b5 with b5 | b5
      · exact b5 q1
      · rw [e] at hdr
        have hdr : AtT T L (p + 1) s := hdr
        cases s with
        | nil => have := hdr.1; simp at this; omega
        | cons d s =>
          have := hs (by simp)
          have hd2 := hdr.hd.2
          have this : d = nc := this
          omega
  · simp only [gtP, Bool.and_eq_true, decide_eq_true_eq] at hx
    obtain ⟨⟨b1, b2⟩, b3⟩ := hx
    rw [b1] at h
    have h : AtT T L p (62 :: 61 :: s) := h
    have t0 := h.hd.2
    have t1 := h.tl.hd
    unfold tkR
    rw [if_neg (by omega), if_neg (by rw [ltB_at h]; decide), if_neg (by rw [dgB_at h]; decide), if_pos ⟨Or.inr t0, t1.1, t1.2⟩, if_neg (by rw [t0]; decide), b1, b2, b3]
    rfl
theorem hd_fl : ∀ (r : List PIE) (c : Nat), okN r c → flP r ≠ [] → (flP r).headD 0 = nxC r c
  | [], _, _, h => absurd rfl h
  | x :: r, c, h, _ => by
    obtain ⟨h1, _, _⟩ := pcP_ne h.1
    obtain ⟨d, l, e⟩ := List.exists_cons_of_ne_nil h1
    show (fl1 x ++ flP r).headD 0 = if x.1 then 32 else x.2.1.headD 0
    unfold fl1
    cases x.1 <;> simp [e]
/-- where the n-th piece begins -/
def bgP : List PIE → Nat → Nat
  | _, 0 => 0
  | [], _ + 1 => 0
  | x :: r, n + 1 => (fl1 x).length + bgP r n
theorem at_end (h : AtT T L p []) : p = L := by have := h.1; simp at this; omega
theorem bhT_run : ∀ (n : Nat) (ps : List PIE) (c : Nat) (q n0 : Nat), okN ps c → AtT T L q (flP ps) → bhT T L n0 = q → n ≤ ps.length → AtT T L (bhT T L (n0 + n)) (flP (ps.drop n)) ∧ okN (ps.drop n) c
  | 0, ps, c, q, n0, h, ha, e, _ => by rw [Nat.add_zero, e]; exact ⟨ha, h⟩
  | n + 1, [], _, _, _, _, _, _, hn => by simp at hn
  | n + 1, x :: r, c, q, n0, h, ha, e, hn => by
    have hb := blk_p (s := flP r) ha h.1
    have ht := tkR_p hb.2 h.1 (hd_fl r c h.2) (fun _ => Or.inr (Or.inr trivial))
    have hnx : bhT T L (n0 + 1) = q + stP x + x.2.1.length := by
      show (tkR T L (blk T L 2000 (bhT T L n0))).2.1 = _
      rw [e, hb.1, ht]
    have := bhT_run n r c (q + stP x + x.2.1.length) (n0 + 1) h.2 (AtT.dr x.2.1 hb.2) hnx (by simpa using hn)
    rw [show n0 + (n + 1) = n0 + 1 + n by omega]
    exact this
theorem tk_n {ps : List PIE} (h : okN ps 0) (ha : AtT T L 0 (flP ps)) {n : Nat} (hn : n < ps.length) : tkR T L (tB T L n) = ((ps.getD n (false, [], 45, 0)).2.2.1, bhT T L n + stP (ps.getD n (false, [], 45, 0)) + (ps.getD n (false, [], 45, 0)).2.1.length, (ps.getD n (false, [], 45, 0)).2.2.2) := by
  have key := bhT_run n ps 0 0 0 h ha rfl (by omega)
  rw [Nat.zero_add] at key
  obtain ⟨k1, k2⟩ := key
  have ed : ps.drop n = ps.getD n (false, [], 45, 0) :: ps.drop (n + 1) := by
    rw [List.drop_eq_getElem_cons hn]
    simp [hn]
  rw [ed] at k1 k2
  have hb := blk_p (s := flP (ps.drop (n + 1))) k1 k2.1
  have ht := tkR_p hb.2 k2.1 (hd_fl _ 0 k2.2) (fun _ => Or.inr (Or.inr trivial))
  rw [show tB T L n = _ from hb.1, ht]
theorem bh_end {ps : List PIE} (h : okN ps 0) (ha : AtT T L 0 (flP ps)) : ∀ j, bhT T L (ps.length + j) = L
  | 0 => by
    have key := bhT_run ps.length ps 0 0 0 h ha rfl (Nat.le_refl _)
    rw [Nat.zero_add, List.drop_length] at key
    exact at_end key.1
  | j + 1 => by
    have e := bh_end h ha j
    show (tkR T L (blk T L 2000 (bhT T L (ps.length + j)))).2.1 = L
    rw [e, show blk T L 2000 L = L by rw [blk, if_neg (by omega)]]
    unfold tkR
    rw [if_pos (by omega)]
theorem tk_e {ps : List PIE} (h : okN ps 0) (ha : AtT T L 0 (flP ps)) {n : Nat} (hn : ps.length ≤ n) : tkR T L (tB T L n) = (45, L, 0) := by
  have e := bh_end h ha (n - ps.length)
  rw [show ps.length + (n - ps.length) = n by omega] at e
  unfold tB
  rw [e, show blk T L 2000 L = L by rw [blk, if_neg (by omega)]]
  unfold tkR
  rw [if_pos (by omega)]
theorem tK_p {ps : List PIE} (h : okN ps 0) (ha : AtT T L 0 (flP ps)) (hl : ps.length ≤ 400) : tK T L = fun n => (ps.map (fun x => x.2.2.1)).getD n 45 := by
  funext n
  unfold tK
  rcases Nat.lt_or_ge n ps.length with hn | hn
  · rw [if_neg (by omega), tk_n h ha hn]
    simp [List.getD, hn]
  · rw [if_neg (by rw [tk_e h ha hn]; exact fun q => q.2 rfl), tk_e h ha hn]
    simp [List.getD, hn]
theorem tC_p {ps : List PIE} (h : okN ps 0) (ha : AtT T L 0 (flP ps)) : tC T L = fun n => (ps.map (fun x => x.2.2.2)).getD n 0 := by
  funext n
  unfold tC
  rcases Nat.lt_or_ge n ps.length with hn | hn
  · rw [tk_n h ha hn]
    simp [List.getD, hn]
  · rw [tk_e h ha hn]
    simp [List.getD, hn]
end TK
/-! the digits of a number -/
def dgl : Nat → Nat → List Nat
  | 0, v => [48 + v % 10]
  | f + 1, v => if v < 10 then [48 + v] else dgl f (v / 10) ++ [48 + v % 10]
theorem dgl_ne (f v : Nat) : dgl f v ≠ [] := by
  cases f with
  | zero => simp [dgl]
  | succ f => rw [dgl]; split <;> simp
theorem dgl_dg : ∀ f v, ∀ c ∈ dgl f v, dgC1 c = true
  | 0, v, c, h => by
    simp only [dgl, List.mem_singleton] at h
    simp only [dgC1, Bool.and_eq_true, decide_eq_true_eq]
    omega
  | f + 1, v, c, h => by
    rw [dgl] at h
    split at h
    · simp only [List.mem_singleton] at h
      simp only [dgC1, Bool.and_eq_true, decide_eq_true_eq]
      omega
    · rcases List.mem_append.mp h with h | h
      · exact dgl_dg f _ c h
      · simp only [List.mem_singleton] at h
        simp only [dgC1, Bool.and_eq_true, decide_eq_true_eq]
        omega
theorem dgl_len : ∀ f v, (dgl f v).length ≤ f + 1
  | 0, _ => by simp [dgl]
  | f + 1, v => by
    rw [dgl]
    split
    · simp
    · rw [List.length_append]
      have := dgl_len f (v / 10)
      simp
      omega
theorem dgl_nu : ∀ f v, v < 10 ^ (f + 1) → nuV (dgl f v) = v
  | 0, v, h => by
    simp at h
    simp [dgl, nuV]
    omega
  | f + 1, v, h => by
    rw [dgl]
    split
    · simp [nuV]
    · have := dgl_nu f (v / 10) (by rw [Nat.pow_succ] at h; exact Nat.div_lt_of_lt_mul (by omega))
      unfold nuV at this ⊢
      rw [List.foldl_append, this]
      simp
      omega
