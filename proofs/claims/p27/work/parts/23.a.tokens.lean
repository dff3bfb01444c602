/-! A text made of pieces: its tokens -/
abbrev PIE : Type := Bool × List Nat × Nat × Nat
def fl1 (x : PIE) : List Nat := (if x.1 then [32] else []) ++ x.2.1
def flP : List PIE → List Nat
  | [] => []
  | x :: r => fl1 x ++ flP r
def nxC : List PIE → Nat → Nat
  | [], c => c
  | x :: _, _ => if x.1 then 32 else x.2.1.headD 0
def ltN (c : Nat) : Bool := decide (97 ≤ c) && decide (c ≤ 122)
def dgC1 (c : Nat) : Bool := decide (48 ≤ c) && decide (c ≤ 57)
def alN (c : Nat) : Bool := ltN c || dgC1 c
def wdV (l : List Nat) : Nat := l.foldl (fun a c => a * 37 + sgN c) 0
def nuV (l : List Nat) : Nat := l.foldl (fun a c => a * 10 + (c - 48)) 0
/-- a word, a number, a sign, a sign of two -/
def wdP (x : PIE) (nc : Nat) : Bool := ltN (x.2.1.headD 0) && x.2.1.all alN && decide (x.2.1.length ≤ 10) && !alN nc && decide (x.2.2.2 = wdV x.2.1) && decide (x.2.2.1 = kwI (wdV x.2.1) 28 0)
def nuP (x : PIE) (nc : Nat) : Prop := x.2.1 ≠ [] ∧ (∀ c ∈ x.2.1, dgC1 c = true) ∧ x.2.1.length ≤ 6 ∧ dgC1 nc = false ∧ x.2.2.2 = nuV x.2.1 ∧ x.2.2.1 = 29
def sgP (x : PIE) (nc : Nat) : Bool := decide (x.2.1.length = 1) && !alN (x.2.1.headD 0) && decide (¬ x.2.1.headD 0 = 32) && decide (¬ x.2.1.headD 0 = 10) && decide (¬ (x.2.1.headD 0 = 60 ∨ x.2.1.headD 0 = 62) ∨ ¬ nc = 61) && decide (x.2.2.2 = 0) && decide (x.2.2.1 = symK (x.2.1.headD 0))
def gtP (x : PIE) : Bool := decide (x.2.1 = [62, 61]) && decide (x.2.2.2 = 0) && decide (x.2.2.1 = 44)
def pcP (x : PIE) (nc : Nat) : Prop := wdP x nc = true ∨ nuP x nc ∨ sgP x nc = true ∨ gtP x = true
def okN : List PIE → Nat → Prop
  | [], _ => True
  | x :: r, c => pcP x (nxC r c) ∧ okN r c
/-- from p on the text is s -/
def AtT (T : Nat → Nat) (L p : Nat) (s : List Nat) : Prop := p + s.length = L ∧ ∀ j, j < s.length → T (p + j) = s.getD j 0
section TK
variable {T : Nat → Nat} {L p : Nat}
theorem AtT.hd {c : Nat} {s : List Nat} (h : AtT T L p (c :: s)) : p < L ∧ T p = c := by
  refine ⟨by have := h.1; simp at this; omega, ?_⟩
  have := h.2 0 (by simp)
  simpa using this
theorem AtT.tl {c : Nat} {s : List Nat} (h : AtT T L p (c :: s)) : AtT T L (p + 1) s := by
  refine ⟨by have := h.1; simp at this; omega, fun j hj => ?_⟩
  have := h.2 (j + 1) (by simp; omega)
  rw [show p + 1 + j = p + (j + 1) by omega, this]
  simp
theorem AtT.dr : ∀ (a : List Nat) {p : Nat} {s : List Nat}, AtT T L p (a ++ s) → AtT T L (p + a.length) s
  | [], p, s, h => by simpa using h
  | c :: a, p, s, h => by
    have := AtT.dr a (AtT.tl (c := c) h)
    rw [List.length_cons, show p + (a.length + 1) = p + 1 + a.length by omega]
    exact this
theorem ltB_at {c : Nat} {s : List Nat} (h : AtT T L p (c :: s)) : ltB T L p = ltN c := by
  obtain ⟨h1, h2⟩ := h.hd
  unfold ltB ltN
  rw [decide_eq_true h1, h2, Bool.true_and]
theorem dgB_at {c : Nat} {s : List Nat} (h : AtT T L p (c :: s)) : dgB T L p = dgC1 c := by
  obtain ⟨h1, h2⟩ := h.hd
  unfold dgB dgC1
  rw [decide_eq_true h1, h2, Bool.true_and]
theorem ltB_end (h : AtT T L p []) : ltB T L p = false := by
  have : ¬ p < L := by have := h.1; simp at this; omega
  unfold ltB
  rw [decide_eq_false this, Bool.false_and]
theorem dgB_end (h : AtT T L p []) : dgB T L p = false := by
  have : ¬ p < L := by have := h.1; simp at this; omega
  unfold dgB
  rw [decide_eq_false this, Bool.false_and]
theorem alB_next {s : List Nat} {nc : Nat} (h : AtT T L p s) (hn : s ≠ [] → s.headD 0 = nc) (ha : alN nc = false) : (ltB T L p || dgB T L p) = false := by
  cases s with
  | nil => rw [ltB_end h, dgB_end h]; rfl
  | cons c s =>
    rw [ltB_at h, dgB_at h]
    have : c = nc := hn (by simp)
    rw [this]
    exact ha
theorem dgB_next {s : List Nat} {nc : Nat} (h : AtT T L p s) (hn : s ≠ [] → s.headD 0 = nc) (ha : dgC1 nc = false) : dgB T L p = false := by
  cases s with
  | nil => exact dgB_end h
  | cons c s =>
    rw [dgB_at h]
    have : c = nc := hn (by simp)
    rw [this]
    exact ha
theorem wdE_run : ∀ (l : List Nat) (f p : Nat) (s : List Nat), AtT T L p (l ++ s) → (∀ c ∈ l, alN c = true) → (ltB T L (p + l.length) || dgB T L (p + l.length)) = false → l.length < f → wdE T L f p = p + l.length
  | [], f, p, s, h, _, he, hf => by
    obtain ⟨f, rfl⟩ : ∃ g, f = g + 1 := ⟨f - 1, by simp at hf; omega⟩
    simp only [List.length_nil, Nat.add_zero] at he ⊢
    rw [wdE, if_neg (by rw [he]; decide)]
  | c :: l, f, p, s, h, ha, he, hf => by
    obtain ⟨f, rfl⟩ : ∃ g, f = g + 1 := ⟨f - 1, by simp at hf; omega⟩
    have h1 : AtT T L p (c :: (l ++ s)) := h
    rw [wdE, if_pos (by rw [ltB_at h1, dgB_at h1]; exact ha c (by simp)), wdE_run l f (p + 1) s h1.tl (fun x hx => ha x (by simp [hx])) (by rw [List.length_cons] at he; rw [show p + 1 + l.length = p + (l.length + 1) by omega]; exact he) (by simp at hf; omega)]
    simp
    omega
theorem nuE_run : ∀ (l : List Nat) (f p : Nat) (s : List Nat), AtT T L p (l ++ s) → (∀ c ∈ l, dgC1 c = true) → dgB T L (p + l.length) = false → l.length < f → nuE T L f p = p + l.length
  | [], f, p, s, h, _, he, hf => by
    obtain ⟨f, rfl⟩ : ∃ g, f = g + 1 := ⟨f - 1, by simp at hf; omega⟩
    simp only [List.length_nil, Nat.add_zero] at he ⊢
    rw [nuE, if_neg (by rw [he]; decide)]
  | c :: l, f, p, s, h, ha, he, hf => by
    obtain ⟨f, rfl⟩ : ∃ g, f = g + 1 := ⟨f - 1, by simp at hf; omega⟩
    have h1 : AtT T L p (c :: (l ++ s)) := h
    rw [nuE, if_pos (by rw [dgB_at h1]; exact ha c (by simp)), nuE_run l f (p + 1) s h1.tl (fun x hx => ha x (by simp [hx])) (by rw [List.length_cons] at he; rw [show p + 1 + l.length = p + (l.length + 1) by omega]; exact he) (by simp at hf; omega)]
    simp
    omega
theorem cdW_run : ∀ (l : List Nat) (p a : Nat) (s : List Nat), AtT T L p (l ++ s) → cdW T l.length p a = l.foldl (fun a c => a * 37 + sgN c) a
  | [], _, _, _, _ => rfl
  | c :: l, p, a, s, h => by
    have h1 : AtT T L p (c :: (l ++ s)) := h
    rw [List.length_cons, cdW, h1.hd.2, cdW_run l (p + 1) _ s h1.tl]
    rfl
theorem cdN_run : ∀ (l : List Nat) (p a : Nat) (s : List Nat), AtT T L p (l ++ s) → cdN T l.length p a = l.foldl (fun a c => a * 10 + (c - 48)) a
  | [], _, _, _, _ => rfl
  | c :: l, p, a, s, h => by
    have h1 : AtT T L p (c :: (l ++ s)) := h
    rw [List.length_cons, cdN, h1.hd.2, cdN_run l (p + 1) _ s h1.tl]
    rfl
theorem blk_0 {c : Nat} {s : List Nat} (h : AtT T L p (c :: s)) (h1 : ¬ c = 32) (h2 : ¬ c = 10) : ∀ f, blk T L f p = p
  | 0 => rfl
  | f + 1 => by
    rw [blk, if_neg (fun q => by rw [h.hd.2] at q; omega)]
theorem blk_1 {c : Nat} {s : List Nat} (h : AtT T L p (32 :: c :: s)) (h1 : ¬ c = 32) (h2 : ¬ c = 10) : blk T L 2000 p = p + 1 := by
  rw [blk, if_pos ⟨h.hd.1, Or.inl h.hd.2⟩, blk_0 h.tl h1 h2]
theorem kw_lt46 (c : Nat) : kwI c 28 0 ≤ 28 := by
  have : ∀ f i, i ≤ 28 → kwI c f i ≤ 28 := by
    intro f
    induction f with
    | zero => intro i _; exact Nat.le_refl _
    | succ f ih =>
      intro i hi
      rw [kwI]
      split
      · exact hi
      · rename_i h
        by_cases e : i = 28
        · subst e
          cases f with
          | zero => exact Nat.le_refl _
          | succ f =>
            have : kwI c (f + 1) (28 + 1) ≤ 28 ∨ True := Or.inr trivial
            exact kw_tail c (f + 1) (28 + 1)
        · exact ih (i + 1) (by omega)
  exact this 28 0 (by decide)
end TK
