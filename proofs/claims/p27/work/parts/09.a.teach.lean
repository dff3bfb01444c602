/-! teach -/
theorem cdN_lt {T : Nat → Nat} : ∀ f p, (∀ j, j < f → 48 ≤ T (p + j) ∧ T (p + j) ≤ 57) → cdN T f p 0 < 10 ^ f := by
  intro f
  induction f with
  | zero => intro p _; exact (show 0 < 10 ^ 0 by decide)
  | succ f ih =>
    intro p h
    rw [cdN_s, Nat.pow_succ]
    have h1 := ih p (fun j hj => h j (by omega))
    have h2 := h f (by omega)
    omega
theorem tkR_28 {T : Nat → Nat} {L p : Nat} (h1 : (tkR T L p).1 = 28) : p < L ∧ wdE T L 2000 p - p ≤ 10 ∧ (tkR T L p).2.1 = wdE T L 2000 p ∧ (tkR T L p).2.2 = cdW T (wdE T L 2000 p - p) p 0 := by
  unfold tkR at h1 ⊢
  by_cases c1 : ¬ p < L
  · rw [if_pos c1] at h1
    exact absurd (show (45 : Nat) = 28 from h1) (by decide)
  rw [if_neg c1] at h1 ⊢
  by_cases c2 : ltB T L p = true
  · rw [if_pos c2] at h1 ⊢
    have h1 : (if 10 < wdE T L 2000 p - p then 46 else kwI (cdW T (wdE T L 2000 p - p) p 0) 28 0) = 28 := h1
    by_cases c3 : 10 < wdE T L 2000 p - p
    · rw [if_pos c3] at h1
      exact absurd h1 (by decide)
    · exact ⟨Classical.not_not.mp c1, by omega, rfl, rfl⟩
  rw [if_neg c2] at h1
  by_cases c3 : dgB T L p = true
  · rw [if_pos c3] at h1
    have h1 : (if 6 < nuE T L 2000 p - p then 46 else 29) = 28 := h1
    split at h1 <;> exact absurd h1 (by decide)
  rw [if_neg c3] at h1
  by_cases c4 : (T p = 60 ∨ T p = 62) ∧ p + 1 < L ∧ T (p + 1) = 61
  · rw [if_pos c4] at h1
    have h1 : (if T p = 60 then 43 else 44) = 28 := h1
    split at h1 <;> exact absurd h1 (by decide)
  rw [if_neg c4] at h1
  have h1 : symK (T p) = 28 := h1
  have := symK_lt (T p)
  omega
theorem tkR_29 {T : Nat → Nat} {L p : Nat} (h1 : (tkR T L p).1 = 29) : nuE T L 2000 p - p ≤ 6 ∧ (tkR T L p).2.2 = cdN T (nuE T L 2000 p - p) p 0 := by
  unfold tkR at h1 ⊢
  by_cases c1 : ¬ p < L
  · rw [if_pos c1] at h1
    exact absurd (show (45 : Nat) = 29 from h1) (by decide)
  rw [if_neg c1] at h1 ⊢
  by_cases c2 : ltB T L p = true
  · rw [if_pos c2] at h1
    have h1 : (if 10 < wdE T L 2000 p - p then 46 else kwI (cdW T (wdE T L 2000 p - p) p 0) 28 0) = 29 := h1
    have := kwI_lt (cdW T (wdE T L 2000 p - p) p 0) 28 0 rfl
    split at h1 <;> omega
  rw [if_neg c2] at h1 ⊢
  by_cases c3 : dgB T L p = true
  · rw [if_pos c3] at h1 ⊢
    have h1 : (if 6 < nuE T L 2000 p - p then 46 else 29) = 29 := h1
    by_cases c4 : 6 < nuE T L 2000 p - p
    · rw [if_pos c4] at h1
      exact absurd h1 (by decide)
    · exact ⟨by omega, rfl⟩
  rw [if_neg c3] at h1
  by_cases c4 : (T p = 60 ∨ T p = 62) ∧ p + 1 < L ∧ T (p + 1) = 61
  · rw [if_pos c4] at h1
    have h1 : (if T p = 60 then 43 else 44) = 29 := h1
    split at h1 <;> exact absurd h1 (by decide)
  rw [if_neg c4] at h1
  have h1 : symK (T p) = 29 := h1
  have := symK_lt (T p)
  omega
theorem tK_R {T : Nat → Nat} {L t k : Nat} (hk : tK T L t = k) (h : k < 45) : (tkR T L (tB T L t)).1 = k := by
  unfold tK at hk
  split at hk
  · omega
  · exact hk
theorem tC_28 {T : Nat → Nat} {L t : Nat} (hk : tK T L t = 28) : tC T L t < 2 ^ 63 := by
  obtain ⟨a1, a2, a3, a4⟩ := tkR_28 (tK_R hk (by decide))
  have h : cdW T (wdE T L 2000 (tB T L t) - tB T L t) (tB T L t) 0 < 37 ^ (wdE T L 2000 (tB T L t) - tB T L t) := cdW_lt T _ _ (fun j hj => by
    have := wd_run (T := T) (L := L) 2000 (tB T L t) (tB T L t + j) (by omega) (by omega)
    unfold sgN
    rcases Bool.or_eq_true_iff.mp this with q | q
    · have := ltB_lt q
      split <;> omega
    · have := dgB_lt q
      split <;> omega)
  show (tkR T L (tB T L t)).2.2 < _
  rw [a4]
  have h2 : 37 ^ (wdE T L 2000 (tB T L t) - tB T L t) ≤ 37 ^ 10 := Nat.pow_le_pow_right (by decide) a2
  omega
theorem tC_29 {T : Nat → Nat} {L t : Nat} (hk : tK T L t = 29) : tC T L t ≤ 999999 := by
  obtain ⟨a2, a4⟩ := tkR_29 (tK_R hk (by decide))
  have h : cdN T (nuE T L 2000 (tB T L t) - tB T L t) (tB T L t) 0 < 10 ^ (nuE T L 2000 (tB T L t) - tB T L t) := cdN_lt _ _ (fun j hj => by
    have := dgB_lt (nu_run (T := T) (L := L) 2000 (tB T L t) (tB T L t + j) (by omega) (by omega))
    omega)
  show (tkR T L (tB T L t)).2.2 ≤ _
  rw [a4]
  have h2 : 10 ^ (nuE T L 2000 (tB T L t) - tB T L t) ≤ 10 ^ 6 := Nat.pow_le_pow_right (by decide) a2
  omega
def tV (T : Nat → Nat) (L : Nat) : Nat → Int32 := fun t => nI (tC T L t)
theorem tV_O {T : Nat → Nat} {L M : Nat} : vO (tK T L) (tV T L) M := fun t _ hk => ⟨_, tC_29 hk, rfl⟩
theorem lN_I (n : Nat) : (lN n).toInt32 = nI n := by
  unfold lN nI
  simp
theorem ps_mk {T : Nat → Nat} {L : Nat} {I : MI} {J : MJ} (h : ∀ n, n ≤ tM T L → tkAt T L I J n) (hs : I 3 4 = nI (tM T L + 1)) : psO (tK T L) (tV T L) (tM T L) I J ∧ wdO (tK T L) (tC T L) (tM T L) J := by
  refine ⟨⟨fun t ht => ⟨(h t ht).1, by have := tK_lt (T := T) (L := L) t; omega⟩, fun t ht _ => by rw [(h t ht).2.2]; exact lN_I _, hs, tM_ok.2.1, tM_ok.1⟩, fun t ht hk => ⟨(h t ht).2.2, tC_28 hk⟩⟩
/-- no table yet -/
def T00 : MI := fun _ _ => nI 0
def smN (K : Nat → Nat) (V : Nat → Int32) (wd : Nat → Nat) (ca : Nat → Int32) : MI := smT K V wd ca 400 T00 0
/-- the error of a list and its token -/
def tcE (K : Nat → Nat) (V : Nat → Int32) (wd : Nat → Nat) (ca : Nat → Int32) : Option (Nat × Nat) := if (prG K 400 0).1 = true then smE K V wd ca 400 T00 0 else some (1, (prG K 400 0).2)
/-- names by their tokens' numbers -/
def idm : Nat → Int32 := fun t => nI t
/-- what may be written by the class's teach, but for errors' places -/
def FRc (I I' : MI) : Prop := ∀ a, ¬ (a = 0 ∨ a = 1 ∨ a = 3 ∨ a = 4 ∨ a = 6 ∨ a = 8 ∨ a = 9 ∨ a = 10 ∨ a = 15 ∨ a = 16) → ¬ (20 ≤ a ∧ a ≤ 27) → ¬ (58 ≤ a ∧ a ≤ 79) → I' a = I a
def FRd (I I' : MI) : Prop := ∀ a, ¬ (a = 0 ∨ a = 1 ∨ a = 3 ∨ a = 4 ∨ a = 6 ∨ a = 8 ∨ a = 9 ∨ a = 10 ∨ a = 15 ∨ a = 16) → ¬ (58 ≤ a ∧ a ≤ 79) → I' a = I a
def FRj (J J' : MJ) : Prop := ∀ a, a ≠ 3 → a ≠ 5 → ¬ (11 ≤ a ∧ a ≤ 14) → J' a = J a
/-- the class knows the list: its tables T (with the code's places ca), its code, what its state is -/
def clK (Tp : Nat → Nat) (L : Nat) (ca : Nat → Int32) (I I' : MI) (J' : MJ) : Prop := I' 0 9 = -1 ∧ I' 1 1 = nI 0 ∧ ca = I' 9 ∧ (∃ I1 I2 : MI, lnsC (tK Tp L) (tV Tp L) (idm) I1 400 0 0 ∧ I1 9 = ca ∧ (∀ a, a ≠ 10 → a ≠ 15 → a ≠ 16 → ¬ (58 ≤ a ∧ a ≤ 76) → I2 a = I1 a) ∧ tcl (tC Tp L) (smN (tK Tp L) (tV Tp L) (tC Tp L) ca) I2 J' ∧ lmO (tK Tp L) (tV Tp L) (tC Tp L) ca I2 400 T00 0 ∧ (∀ a, a ≠ 79 → 58 ≤ a → a ≤ 79 → I' a = I2 a) ∧ (∀ Z, I1 77 2 = nI Z → Z < 2 ^ 31 → ∀ n, n < Z → I' 79 n = tlO I2 n) ∧ (∀ a, 20 ≤ a → a ≤ 27 → I2 a = I a) ∧ ∀ N, I2 58 1 = nI N → N ≤ 16 → ∀ a, 20 ≤ a → a ≤ 27 → I' a = bgI N N 0 (bg0 I2) a) ∧ FRc I I'
theorem sqK_len {K : Nat → Nat} {M : Nat} (hM : 45 ≤ K M) : ∀ (l : List Nat) (p : Nat) (k : Nat → Bool × Nat), (sqK K l p k).1 = true → (∀ a ∈ l, a < 45) → p ≤ M → p + l.length ≤ M ∧ (k (p + l.length)).1 = true := by
  intro l
  induction l with
  | nil => exact fun p k h _ hp => ⟨hp, h⟩
  | cons a r ih =>
    intro p k h hl hp
    obtain ⟨c1, c2⟩ := sqK_c h
    rw [c2] at h
    have hp1 := K_lt hM hp c1 (hl a (List.mem_cons_self))
    obtain ⟨d1, d2⟩ := ih (p + 1) k h (fun b hb => hl b (List.mem_cons_of_mem _ hb)) hp1
    rw [List.length_cons]
    exact ⟨by omega, by rw [show p + (r.length + 1) = p + 1 + r.length by omega]; exact d2⟩
theorem er_mem : ∀ {l : List (Bool × Nat × Nat)} {o : Option (Nat × Nat)} {y : Nat × Nat}, er l o = some y → (∃ x ∈ l, x.1 = true ∧ y = (x.2.1, x.2.2)) ∨ o = some y
  | [], o, y, h => Or.inr h
  | x :: r, o, y, h => by
    rw [er] at h
    by_cases c : x.1 = true
    · rw [if_pos c] at h
      exact Or.inl ⟨x, List.mem_cons_self, c, (Option.some.inj h).symm⟩
    · rw [if_neg c] at h
      rcases er_mem h with ⟨w, w1, w2⟩ | w
      · exact Or.inl ⟨w, List.mem_cons_of_mem _ w1, w2⟩
      · exact Or.inr w
theorem toE_lt {own : Nat → Int32} {b : Nat} : ∀ (f s : Nat) (row : Nat → Int32) (many : Nat) (y : Nat × Nat), toE own b f s row many = some y → 0 < y.1 ∧ y.1 < 10 ∧ y.2 < s + f := by
  intro f
  induction f with
  | zero => intro s row many y h; cases h
  | succ f ih =>
    intro s row many y h
    rw [toE] at h
    by_cases c1 : own s = -1
    · rw [if_pos c1] at h
      rw [← Option.some.inj h]
      exact ⟨(by decide : 0 < 3), (by decide : 3 < 10), by show s < s + (f + 1); omega⟩
    rw [if_neg c1] at h
    by_cases c2 : many = 8
    · rw [if_pos c2] at h
      rw [← Option.some.inj h]
      exact ⟨(by decide : 0 < 4), (by decide : 4 < 10), by show s < s + (f + 1); omega⟩
    rw [if_neg c2] at h
    by_cases c3 : dupB row b many (own s) = true
    · rw [if_pos c3] at h
      rw [← Option.some.inj h]
      exact ⟨(by decide : 0 < 5), (by decide : 5 < 10), by show s < s + (f + 1); omega⟩
    rw [if_neg c3] at h
    obtain ⟨a, b, c⟩ := ih _ _ _ _ h
    exact ⟨a, b, by omega⟩
theorem fbd_lt2 {K : Nat → Nat} {mm : Nat → Int32} : ∀ (f s : Nat) (y : Nat × Nat), fbd K mm f s = some y → 0 < y.1 ∧ y.1 < 10 ∧ y.2 < s + f := by
  intro f
  induction f with
  | zero => intro s y h; cases h
  | succ f ih =>
    intro s y h
    rw [fbd] at h
    by_cases c1 : K s = 28 ∧ mm s = -1
    · rw [if_pos c1] at h
      rw [← Option.some.inj h]
      exact ⟨(by decide : 0 < 3), (by decide : 3 < 10), by show s < s + (f + 1); omega⟩
    rw [if_neg c1] at h
    obtain ⟨a, b, c⟩ := ih _ _ h
    exact ⟨a, b, by omega⟩
theorem lerr_lt {K : Nat → Nat} {V : Nat → Int32} {wd : Nat → Nat} {T : MI} {M p : Nat} (hM : 45 ≤ K M) (hp : p ≤ M) (hg : (pL K p).1 = true) {y : Nat × Nat} (h : lerr K V wd T p = some y) : 0 < y.1 ∧ y.1 < 10 ∧ y.2 ≤ M := by
  have key : ∀ {l : List (Bool × Nat × Nat)} {o : Option (Nat × Nat)}, er l o = some y → (∀ x ∈ l, 0 < x.2.1 ∧ x.2.1 < 10 ∧ (x.1 = true → x.2.2 ≤ M)) → (o = some y → 0 < y.1 ∧ y.1 < 10 ∧ y.2 ≤ M) → 0 < y.1 ∧ y.1 < 10 ∧ y.2 ≤ M := by
    intro l o a b c
    rcases er_mem a with ⟨x, x1, x2, x3⟩ | q
    · rw [x3]
      obtain ⟨b1, b2, b3⟩ := b x x1
      exact ⟨b1, b2, b3 x2⟩
    · exact c q
  have hsh := pL_sh hM hp hg
  unfold lerr at h
  unfold pL at hg
  by_cases k0 : K p = 0
  · rw [if_pos k0] at h hg
    obtain ⟨l1, -⟩ := sqK_len hM _ _ _ hg (by decide) hp
    have l1 : p + 5 ≤ M := l1
    refine key h (fun x hx => ?_) (fun q => by cases q)
    simp only [List.mem_cons, List.not_mem_nil, or_false] at hx
    rcases hx with rfl | rfl | rfl
    · exact ⟨(by decide : 0 < 2), (by decide : 2 < 10), fun _ => by show p + 1 ≤ M; omega⟩
    · exact ⟨(by decide : 0 < 4), (by decide : 4 < 10), fun _ => by show p + 1 ≤ M; omega⟩
    · exact ⟨(by decide : 0 < 5), (by decide : 5 < 10), fun _ => by show p + 3 ≤ M; omega⟩
  rw [if_neg k0] at h hg
  by_cases k2 : K p = 2
  · rw [if_pos k2] at h hg
    obtain ⟨l1, l2⟩ := sqK_len hM _ _ _ hg (by decide) hp
    have l1 : p + 5 ≤ M := l1
    have l2 : (undL K (p + 5)).1 = true := l2
    have l3 : p + 6 ≤ M := by
      unfold undL at l2
      by_cases u : K (p + 5) = 5 ∨ K (p + 5) = 28
      · exact u.elim (fun r => K_lt hM l1 r (by decide)) (fun r => K_lt hM l1 r (by decide))
      · rw [if_neg u] at l2
        exact Bool.noConfusion l2
    refine key h (fun x hx => ?_) (fun q => by cases q)
    simp only [List.mem_cons, List.not_mem_nil, or_false] at hx
    rcases hx with rfl | rfl | rfl | rfl | rfl | rfl
    · exact ⟨(by decide : 0 < 2), (by decide : 2 < 10), fun _ => by show p + 1 ≤ M; omega⟩
    · exact ⟨(by decide : 0 < 4), (by decide : 4 < 10), fun _ => by show p + 1 ≤ M; omega⟩
    · exact ⟨(by decide : 0 < 3), (by decide : 3 < 10), fun _ => by show p + 3 ≤ M; omega⟩
    · exact ⟨(by decide : 0 < 3), (by decide : 3 < 10), fun _ => by show p + 5 ≤ M; omega⟩
    · exact ⟨(by decide : 0 < 5), (by decide : 5 < 10), fun _ => by show p + 5 ≤ M; omega⟩
    · refine ⟨(by decide : 0 < 5), (by decide : 5 < 10), fun q => ?_⟩
      have q1 : K (p + 6) = 6 := of_decide_eq_true (Bool.and_eq_true_iff.mp q).1
      exact K_lt hM l3 q1 (by decide)
  rw [if_neg k2] at h hg
  by_cases k7 : K p = 7
  · rw [if_pos k7] at h hg
    obtain ⟨l1, l2⟩ := sqK_len hM _ _ _ hg (by decide) hp
    have l1 : p + 5 ≤ M := l1
    have l3 := nms_B hM 400 (p + 5) l1
    refine key h (fun x hx => ?_) (fun q => ?_)
    · simp only [List.mem_cons, List.not_mem_nil, or_false] at hx
      rcases hx with rfl | rfl
      · exact ⟨(by decide : 0 < 2), (by decide : 2 < 10), fun _ => by show p + 1 ≤ M; omega⟩
      · exact ⟨(by decide : 0 < 4), (by decide : 4 < 10), fun _ => by show p + 1 ≤ M; omega⟩
    · obtain ⟨a, b, c⟩ := toE_lt _ _ _ _ _ q
      exact ⟨a, b, by omega⟩
  rw [if_neg k7] at h hg
  by_cases k9 : K p = 9
  · rw [if_pos k9] at h hg
    obtain ⟨l1, -⟩ := sqK_len hM _ _ _ hg (by decide) hp
    have l1 : p + 5 ≤ M := l1
    refine key h (fun x hx => ?_) (fun q => by cases q)
    simp only [List.mem_cons, List.not_mem_nil, or_false] at hx
    rcases hx with rfl | rfl | rfl
    · exact ⟨(by decide : 0 < 2), (by decide : 2 < 10), fun _ => by show p + 1 ≤ M; omega⟩
    · exact ⟨(by decide : 0 < 4), (by decide : 4 < 10), fun _ => by show p + 1 ≤ M; omega⟩
    · exact ⟨(by decide : 0 < 5), (by decide : 5 < 10), fun _ => by show p + 3 ≤ M; omega⟩
  rw [if_neg k9] at h hg
  refine key h (fun x hx => ?_) (fun q => ?_)
  · simp only [List.mem_cons, List.not_mem_nil, or_false] at hx
    subst hx
    exact ⟨(by decide : 0 < 4), (by decide : 4 < 10), fun _ => hp⟩
  · obtain ⟨a, b, c⟩ := fbd_lt2 _ _ _ q
    exact ⟨a, b, by omega⟩
theorem smE_lt {K : Nat → Nat} {V : Nat → Int32} {wd : Nat → Nat} {ca : Nat → Int32} {M : Nat} (hM : 45 ≤ K M) {y : Nat × Nat} : ∀ (f p : Nat) (T : MI), p ≤ M → (prG K f p).1 = true → smE K V wd ca f T p = some y → 0 < y.1 ∧ y.1 < 10 ∧ y.2 ≤ M := by
  intro f
  induction f with
  | zero => intro p T _ _ h; cases h
  | succ f ih =>
    intro p T hp hg h
    rw [smE] at h
    rw [prG] at hg
    by_cases k : K p = 45
    · rw [if_pos k] at h; cases h
    · rw [if_neg k] at h hg
      by_cases k2 : (pL K p).1 = true
      · rw [if_pos k2] at hg
        cases hl : lerr K V wd T p with
        | some w =>
          rw [hl] at h
          obtain rfl : w = y := Option.some.inj h
          exact lerr_lt hM hp k2 hl
        | none =>
          rw [hl] at h
          exact ih _ _ (pL_sh hM hp k2).2.2.2 hg h
      · rw [if_neg k2] at hg
        exact Bool.noConfusion hg
theorem sqK_B {K : Nat → Nat} {M : Nat} (hM : 45 ≤ K M) {k : Nat → Bool × Nat} (hk : ∀ q, q ≤ M → (k q).2 ≤ M) : ∀ (l : List Nat) (p : Nat), (∀ a ∈ l, a < 45) → p ≤ M → (sqK K l p k).2 ≤ M := by
  intro l
  induction l with
  | nil => exact fun p _ hp => hk p hp
  | cons a r ih =>
    intro p hl hp
    rw [sqK]
    by_cases c : K p = a
    · rw [if_pos c]
      exact ih (p + 1) (fun b hb => hl b (List.mem_cons_of_mem _ hb)) (K_lt hM hp c (hl a List.mem_cons_self))
    · rw [if_neg c]
      exact hp
theorem pL_B {K : Nat → Nat} {M p : Nat} (hM : 45 ≤ K M) (hp : p ≤ M) : (pL K p).2 ≤ M := by
  have r1 : ∀ l : List Nat, (∀ a ∈ l, a < 45) → ∀ q, q ≤ M → (sqK K l q rtL).2 ≤ M := fun l hl q hq => sqK_B hM (fun q hq => hq) l q hl hq
  have co : ∀ q, q ≤ M → (couL K q).2 ≤ M := fun q hq => by
    unfold couL
    split
    · exact r1 _ (by decide) q hq
    · exact r1 _ (by decide) q hq
  have un : ∀ q, q ≤ M → (undL K q).2 ≤ M := fun q hq => by
    unfold undL
    by_cases u : K q = 5 ∨ K q = 28
    · rw [if_pos u]
      exact co _ (u.elim (fun r => K_lt hM hq r (by decide)) (fun r => K_lt hM hq r (by decide)))
    · rw [if_neg u]
      exact hq
  have wh : ∀ q, q ≤ M → (whnL K q).2 ≤ M := fun q hq => by
    unfold whnL
    by_cases u : K q = 15
    · rw [if_pos u]
      have b := pT_B (V := v0) (m := v0) hM 8 (q + 1) (K_lt hM hq u (by decide))
      by_cases v : (pT K v0 v0 8 (q + 1)).1 = true
      · rw [if_pos v]
        exact r1 _ (by decide) _ b.2.1
      · rw [if_neg v]
        exact b.2.1
    · rw [if_neg u]
      exact r1 _ (by decide) q hq
  have ti : ∀ q, q ≤ M → (tieL K q).2 ≤ M := fun q hq => by
    unfold tieL
    have b := pS_B (V := v0) (m := v0) hM 8 q hq
    by_cases v : (pS K v0 v0 8 q).1 = true
    · rw [if_pos v]
      exact wh _ b.2.1
    · rw [if_neg v]
      exact b.2.1
  unfold pL
  split
  · exact r1 _ (by decide) p hp
  split
  · exact sqK_B hM un _ p (by decide) hp
  split
  · exact sqK_B hM (fun q hq => r1 _ (by decide) _ (nms_B hM 400 q hq).2) _ p (by decide) hp
  split
  · exact r1 _ (by decide) p hp
  split
  · exact sqK_B hM ti _ p (by decide) hp
  split
  · exact sqK_B hM wh _ p (by decide) hp
  · exact hp
theorem prG_B {K : Nat → Nat} {M : Nat} (hM : 45 ≤ K M) : ∀ (f p : Nat), p ≤ M → (prG K f p).1 = false → (prG K f p).2 ≤ M := by
  intro f
  induction f with
  | zero => exact fun p hp _ => hp
  | succ f ih =>
    intro p hp hg
    rw [prG] at hg ⊢
    by_cases k : K p = 45
    · rw [if_pos k] at hg; exact Bool.noConfusion hg
    · rw [if_neg k] at hg ⊢
      by_cases k2 : (pL K p).1 = true
      · rw [if_pos k2] at hg ⊢
        exact ih _ (pL_sh hM hp k2).2.2.2 hg
      · rw [if_neg k2]
        exact pL_B hM hp
set_option maxRecDepth 100000 in
set_option maxHeartbeats 4000000 in
theorem cteach_b {Γ : Cx} {Tp : Nat → Nat} {L d : Nat} {t n : Nat} {I : MI} {J : MJ} {P : MP} (ht : t < n) (hn : n ≤ 401) (hs : I 3 4 = nI n) {Q : Int32 → MI → MJ → MP → Prop} (hQ : Q (nI 1) (up2 I 0 9 (I 6 t)) J P) (h : Vc RX10 cX10_teach 4 (some .int) (d + 1) Γ) {x3 : Option Value} : VG Γ 0 0 34 [some (.ref 0), some (.int (nI t)), none, x3] [] I J P (Fnl Γ (Qi Q)) := by
  refine g_iload_1 h dX10_teach_34 ?_
  refine g_if_ge h 42 dX10_teach_35 rfl (fun _ => ?_) (fun c => absurd (nI_le (Nat.zero_le t) (by omega)) c)
  refine g_iconst h dX10_teach_42 (v := nI 1) rfl ?_
  refine g_istore_2 h dX10_teach_43 (by decide) rfl ?_
  refine g_iload_2 h dX10_teach_44 ?_
  refine g_if_ne h 79 dX10_teach_45 rfl (fun _ => ?_) (fun c => absurd c (by decide))
  refine g_aload_0 h dX10_teach_79 ?_
  refine g_aload_0 h dX10_teach_80 ?_
  refine g_getC h fl_X10_29 dX10_teach_81 rfl rfl ?_
  refine g_iload_1 h dX10_teach_84 ?_
  refine g_cVi1 h rok0 mi_X8_positionOf dX10_teach_85 ml_X10_117 rfl rfl rfl (Nat.le_of_ble_eq_true rfl) (Nat.le_of_ble_eq_true rfl) (sp_X8_positionOf ht hn hs ?_)
  refine g_putI h fp_X10_72 dX10_teach_88 rfl rfl ?_
  refine g_iload_2 h dX10_teach_91 ?_
  refine g_if_ne h 124 dX10_teach_92 rfl (fun _ => ?_) (fun c => absurd c (by decide))
  refine g_iload_2 h dX10_teach_124 ?_
  refine g_iret h dX10_teach_125 ?_
  exact hQ
theorem bgI_o {N a : Nat} (ha : ¬ (20 ≤ a ∧ a ≤ 27)) : ∀ f i (I : MI), bgI N f i I a = I a := by
  intro f
  induction f with
  | zero => exact fun i I => rfl
  | succ f ih =>
    intro i I
    rw [bgI, ih, tieI, setRow_o (by omega), setRow_o (by omega), up2_o (by omega), up2_o (by omega)]
theorem bg0_o {a : Nat} {I : MI} (ha : ¬ (20 ≤ a ∧ a ≤ 27)) : bg0 I a = I a := by
  unfold bg0
  rw [setRow_o (by omega), setRow_o (by omega), setRow_o (by omega), setRow_o (by omega), setRow_o (by omega), up2_o (by omega), up2_o (by omega)]
def sgq (I I' : MI) : Prop := (∀ b, 20 ≤ b → b ≤ 27 → I b = I' b) ∧ ∀ b, 60 ≤ b → b ≤ 62 → I b = I' b
theorem bg0_e {I I' : MI} (h : ∀ b, 20 ≤ b → b ≤ 27 → I b = I' b) (h2 : ∀ b, 60 ≤ b → b ≤ 62 → I b = I' b) : sgq (bg0 I) (bg0 I') := by
  refine ⟨fun b b1 b2 => ?_, fun b b1 b2 => by rw [bg0_o (by omega), bg0_o (by omega)]; exact h2 b b1 b2⟩
  have k := h b b1 b2
  have k3 := h 23 (by decide) (by decide)
  have k4 := h 24 (by decide) (by decide)
  have k5 := h 25 (by decide) (by decide)
  have k6 := h 26 (by decide) (by decide)
  have k7 := h 27 (by decide) (by decide)
  rcases (show b = 20 ∨ b = 21 ∨ b = 22 ∨ b = 23 ∨ b = 24 ∨ b = 25 ∨ b = 26 ∨ b = 27 by omega) with rfl | rfl | rfl | rfl | rfl | rfl | rfl | rfl <;> simp [bg0, setRow, up2_row, k, k3, k4, k5, k6, k7]
theorem bgI_e {N : Nat} (hN : N ≤ 16) {I I' : MI} (h : sgq I I') {a : Nat} (a1 : 20 ≤ a) (a2 : a ≤ 27) : bgI N N 0 I a = bgI N N 0 I' a := by
  have key : ∀ f i (I I' : MI), sgq I I' → sgq (bgI N f i I) (bgI N f i I') := by
    intro f
    induction f with
    | zero => exact fun i I I' h => h
    | succ f ih =>
      intro i I I' h
      rw [bgI, bgI]
      refine ih _ _ _ ?_
      obtain ⟨h1, h2⟩ := h
      refine ⟨fun b b1 b2 => ?_, fun b b1 b2 => ?_⟩
      · have k0 := h1 b b1 b2
        have k1 := h1 21 (by decide) (by decide)
        have k2 := h1 22 (by decide) (by decide)
        have k3 := h1 23 (by decide) (by decide)
        have k4 := h1 24 (by decide) (by decide)
        have k5 := h2 60 (by decide) (by decide)
        have k6 := h2 61 (by decide) (by decide)
        have k7 := h2 62 (by decide) (by decide)
        rcases (show b = 20 ∨ b = 21 ∨ b = 22 ∨ b = 23 ∨ b = 24 ∨ b = 25 ∨ b = 26 ∨ b = 27 by omega) with rfl | rfl | rfl | rfl | rfl | rfl | rfl | rfl <;> simp [tieI, setRow, up2_row, k0, k1, k2, k3, k4, k5, k6, k7]
      · rw [tieI, tieI, setRow_o (by omega), setRow_o (by omega), up2_o (by omega), up2_o (by omega), setRow_o (by omega), setRow_o (by omega), up2_o (by omega), up2_o (by omega)]
        exact h2 b b1 b2
  exact (key N 0 I I' h).1 a a1 a2
set_option maxRecDepth 100000 in
set_option maxHeartbeats 4000000 in
theorem sp_X10_teach {Tp : Nat → Nat} {L d : Nat} {I : MI} {J : MJ} {P : MP} (hT : tpO Tp L I) (hkw : kwO J) (hC : P 0 0 = some 36) (hD : P 0 1 = some 58) {Q : Int32 → MI → MJ → MP → Prop} (hN : ∀ ca, tcE (tK Tp L) (tV Tp L) (tC Tp L) ca = none → ∀ I' J', clK Tp L ca I I' J' → FRj J J' → Q (nI 0) I' J' (up2 (up2 (up2 (up2 P 8 2 (some 77)) 0 0 (some 58)) 0 1 (some 36)) 20 0 (some 58))) (hE : ∀ ca e t, tcE (tK Tp L) (tV Tp L) (tC Tp L) ca = some (e, t) → ∀ I' J', FRd I I' → FRj J J' → I' 0 9 = nI (tB Tp L t) → I' 1 1 = nI 0 → Q (nI e) I' J' (up2 P 8 2 (some 77))) : Sp yX10_teach cX10_teach 4 (some .int) (d + 24) [.ref 0] I J P (Qi Q) := by
  intro Γ h
  show VG Γ 0 0 0 [some (.ref 0), none, none, none] [] _ _ _ _
  have hM4 := (tM_ok (T := Tp) (L := L)).2.1
  have hM := (tM_ok (T := Tp) (L := L)).1
  have hbad : ∀ I1 J1, raF I I1 → raG J J1 → (∀ n, n ≤ tM Tp L → tkAt Tp L I1 J1 n) → I1 3 4 = nI (tM Tp L + 1) → (prG (tK Tp L) 400 0).1 = false → ∀ I2, paR 0 0 (up2 I1 1 1 (nI 0)) I2 → VG Γ 0 0 34 [some (.ref 0), some (.int (nI (prG (tK Tp L) 400 0).2)), none, none] [] I2 J1 (up2 P 8 2 (some 77)) (Fnl Γ (Qi Q)) := by
    intro I1 J1 f1 g1 r1 s1 hg I2 f2
    have ht := prG_B hM 400 0 (Nat.zero_le _) hg
    have a6 : I2 6 = I1 6 := by rw [f2.1 6 (by decide) (by decide) (by decide) (by decide) (by decide), up2_o (by decide)]
    refine cteach_b (Tp := Tp) (L := L) (n := tM Tp L + 1) (d := d + 23) (by omega) (by omega) ?_ (hE (fun _ => nI 0) 1 _ (by rw [tcE, if_neg (by rw [hg]; decide)]) _ _ (fun a b1 b2 => ?_) (fun a b1 b2 b3 => g1 a b1 b2) ?_ ?_) h
    · rw [f2.1 3 (by decide) (by decide) (by decide) (by decide) (by decide), up2_o (by decide)]; exact s1
    · rw [up2_o (by omega), f2.1 a (by omega) (by omega) (by omega) (by omega) (by omega), up2_o (by omega), f1 a (by omega) (by omega) (by omega)]
    · rw [up2_s, a6]; exact (r1 _ ht).2.1
    · rw [up2_o (by decide), f2.1 1 (by decide) (by decide) (by decide) (by decide) (by decide), up2_s]
  have hgood : ∀ I1 J1, raF I I1 → raG J J1 → (∀ n, n ≤ tM Tp L → tkAt Tp L I1 J1 n) → I1 3 4 = nI (tM Tp L + 1) → psO (tK Tp L) (tV Tp L) (tM Tp L) (up2 I1 1 1 (nI 0)) J1 → wdO (tK Tp L) (tC Tp L) (tM Tp L) J1 → (prG (tK Tp L) 400 0).1 = true → ∀ I2, paR 0 0 (up2 I1 1 1 (nI 0)) I2 → lnsC (tK Tp L) (tV Tp L) idm I2 400 0 0 → VG Γ 0 0 34 [some (.ref 0), some (.int (-1)), none, none] [] I2 J1 (up2 P 8 2 (some 77)) (Fnl Γ (Qi Q)) := by
    intro I1 J1 f1 g1 r1 s1 p1 w1 hg I2 f2 l2
    have o2 : ∀ a, a ≠ 1 → a ≠ 8 → a ≠ 9 → a ≠ 77 → a ≠ 78 → a ≠ 79 → I2 a = I1 a := fun a a1 a2 a3 a4 a5 a6 => by rw [f2.1 a a2 a3 a4 a5 a6, up2_o a1]
    have p2 : psO (tK Tp L) (tV Tp L) (tM Tp L) I2 J1 := by
      obtain ⟨q1, q2, q3⟩ := p1
      unfold psO
      rw [f2.1 4 (by decide) (by decide) (by decide) (by decide) (by decide), f2.1 3 (by decide) (by decide) (by decide) (by decide) (by decide)]
      exact ⟨q1, q2, q3⟩
    have e1 : I2 1 1 = nI 0 := by rw [f2.1 1 (by decide) (by decide) (by decide) (by decide) (by decide), up2_s]
    have e34 : I2 3 4 = nI (tM Tp L + 1) := by rw [o2 3 (by decide) (by decide) (by decide) (by decide) (by decide) (by decide)]; exact s1
    have e6 : ∀ t, t ≤ tM Tp L → I2 6 t = nI (tB Tp L t) := fun t ht => by rw [o2 6 (by decide) (by decide) (by decide) (by decide) (by decide) (by decide)]; exact (r1 t ht).2.1
    have fI : ∀ a, ¬ (a = 1 ∨ a = 3 ∨ a = 4 ∨ a = 6 ∨ a = 8 ∨ a = 9) → ¬ (77 ≤ a ∧ a ≤ 79) → I2 a = I a := fun a a1 a2 => by rw [o2 a (by omega) (by omega) (by omega) (by omega) (by omega) (by omega), f1 a (by omega) (by omega) (by omega)]
    refine g_iload_1 h dX10_teach_34 ?_
    refine g_if_ge h 42 dX10_teach_35 rfl (fun c => absurd c (by decide)) (fun _ => ?_)
    refine g_iconst h dX10_teach_38 (v := nI 0) rfl ?_
    refine g_goto h 43 dX10_teach_39 rfl ?_
    refine g_istore_2 h dX10_teach_43 (by decide) rfl ?_
    refine g_iload_2 h dX10_teach_44 ?_
    refine g_if_ne h 79 dX10_teach_45 rfl (fun c => absurd rfl c) (fun _ => ?_)
    refine g_aload_0 h dX10_teach_48 ?_
    refine g_getC h fl_X10_49 dX10_teach_49 rfl rfl ?_
    refine g_aload_0 h dX10_teach_52 ?_
    refine g_getC h fl_X10_29 dX10_teach_53 rfl rfl ?_
    refine g_aload_0 h dX10_teach_56 ?_
    refine g_getC h fl_X10_42 dX10_teach_57 rfl rfl ?_
    refine g_getC h fl_X10_107 dX10_teach_60 rfl rfl ?_
    refine g_aload_0 h dX10_teach_63 ?_
    refine g_getP h fl_X10_16 dX10_teach_64 rfl rfl (by rw [up2_o (by decide)]; exact hD) ?_
    refine g_cVi3 h rok0 mi_X7_firstFault dX10_teach_67 ml_X10_111 rfl rfl rfl (Nat.le_of_ble_eq_true rfl) (Nat.le_of_ble_eq_true rfl) (sp_X7_firstFault (wd := tC Tp L) p2 w1 tV_O (fun t ht => tM_ok.2.2 t ht) hg l2 (fun e t I3 J3 s3 f3 e3 => ?_) (fun s3 I3 I4 J3 f3 t3 e3 m3 o4 q4 => ?_))
    · have hs3 : tcE (tK Tp L) (tV Tp L) (tC Tp L) (I2 9) = some (e, t) := by rw [tcE, if_pos hg]; exact s3
      obtain ⟨b1, b2, b3⟩ := smE_lt hM 400 0 _ (Nat.zero_le _) hg s3
      have b1 : 0 < e := b1
      have b2 : e < 10 := b2
      have b3 : t ≤ tM Tp L := b3
      refine g_istore_1 h dX10_teach_70 (by decide) rfl ?_
      refine g_aload_0 h dX10_teach_71 ?_
      refine g_getC h fl_X10_49 dX10_teach_72 rfl rfl ?_
      refine g_getI h fl_X10_114 dX10_teach_75 rfl rfl ?_
      rw [e3]
      refine g_istore_2 h dX10_teach_78 (by decide) rfl ?_
      refine g_aload_0 h dX10_teach_79 ?_
      refine g_aload_0 h dX10_teach_80 ?_
      refine g_getC h fl_X10_29 dX10_teach_81 rfl rfl ?_
      refine g_iload_1 h dX10_teach_84 ?_
      refine g_cVi1 h rok0 mi_X8_positionOf dX10_teach_85 ml_X10_117 rfl rfl rfl (Nat.le_of_ble_eq_true rfl) (Nat.le_of_ble_eq_true rfl) (sp_X8_positionOf (t := t) (n := tM Tp L + 1) (by omega) (by omega) (by rw [f3.1 3 (by decide) (by decide) (by decide) (by decide)]; exact e34) ?_)
      refine g_putI h fp_X10_72 dX10_teach_88 rfl rfl ?_
      refine g_iload_2 h dX10_teach_91 ?_
      refine g_if_ne h 124 dX10_teach_92 rfl (fun _ => ?_) (fun c => absurd (eqN (b := 0) c (by omega) (by decide)) (by omega))
      refine g_iload_2 h dX10_teach_124 ?_
      refine g_iret h dX10_teach_125 ?_
      refine hE (I2 9) e t hs3 _ _ (fun a c1 c2 => ?_) (fun a c1 c2 c3 => ?_) ?_ ?_
      · rw [up2_o (by omega), f3.1 a (by omega) (by omega) (by omega) (by omega), fI a (by omega) (by omega)]
      · rw [f3.2 a c3, g1 a c1 c2]
      · rw [up2_s, f3.1 6 (by decide) (by decide) (by decide) (by decide)]; exact e6 t b3
      · rw [up2_o (by decide), f3.1 1 (by decide) (by decide) (by decide) (by decide)]; exact e1
    · have hs3 : tcE (tK Tp L) (tV Tp L) (tC Tp L) (I2 9) = none := by rw [tcE, if_pos hg]; exact s3
      have hN58 : I3 58 1 = nI (nN (smN (tK Tp L) (tV Tp L) (tC Tp L) (I2 9))) := t3.2.1.1.1
      have hN16 : nN (smN (tK Tp L) (tV Tp L) (tC Tp L) (I2 9)) ≤ 16 := t3.2.1.1.2
      refine g_istore_1 h dX10_teach_70 (by decide) rfl ?_
      refine g_aload_0 h dX10_teach_71 ?_
      refine g_getC h fl_X10_49 dX10_teach_72 rfl rfl ?_
      refine g_getI h fl_X10_114 dX10_teach_75 rfl rfl ?_
      rw [show I4 10 0 = nI 0 by rw [o4 10 (by decide)]; exact e3]
      refine g_istore_2 h dX10_teach_78 (by decide) rfl ?_
      refine g_aload_0 h dX10_teach_79 ?_
      refine g_aload_0 h dX10_teach_80 ?_
      refine g_getC h fl_X10_29 dX10_teach_81 rfl rfl ?_
      refine g_iload_1 h dX10_teach_84 ?_
      refine g_cVi1 h rok0 mi_X8_positionOf dX10_teach_85 ml_X10_117 rfl rfl rfl (Nat.le_of_ble_eq_true rfl) (Nat.le_of_ble_eq_true rfl) (sp_X8_positionOfM ?_)
      refine g_putI h fp_X10_72 dX10_teach_88 rfl rfl ?_
      refine g_iload_2 h dX10_teach_91 ?_
      refine g_if_ne h 124 dX10_teach_92 rfl (fun c => absurd rfl c) (fun _ => ?_)
      refine g_aload_0 h dX10_teach_95 ?_
      refine g_getP h fl_X10_10 dX10_teach_96 rfl rfl (by rw [up2_o (by decide)]; exact hC) ?_
      refine g_astore_3 h dX10_teach_99 (by decide) rfl ?_
      refine g_aload_0 h dX10_teach_100 ?_
      refine g_aload_0 h dX10_teach_101 ?_
      refine g_getP h fl_X10_16 dX10_teach_102 rfl rfl (by rw [up2_o (by decide)]; exact hD) ?_
      refine g_putP h fp_X10_10 dX10_teach_105 rfl rfl ?_
      refine g_aload_0 h dX10_teach_108 ?_
      refine g_aload_3 h dX10_teach_109 ?_
      refine g_putP h fp_X10_16 dX10_teach_110 rfl rfl ?_
      refine g_aload_0 h dX10_teach_113 ?_
      refine g_getC h fl_X10_58 dX10_teach_114 rfl rfl ?_
      refine g_aload_0 h dX10_teach_117 ?_
      refine g_getP h fl_X10_10 dX10_teach_118 rfl rfl (show _ = some 58 by simp [up2]) ?_
      refine g_cVv1 h rok0 mi_X5_begin dX10_teach_121 ml_X10_121 rfl rfl rfl (Nat.le_of_ble_eq_true rfl) (Nat.le_of_ble_eq_true rfl) (sp_X5_begin (N := nN (smN (tK Tp L) (tV Tp L) (tC Tp L) (I2 9))) (by rw [up2_o (by decide), o4 58 (by decide)]; exact hN58) hN16 ?_)
      refine g_iload_2 h dX10_teach_124 ?_
      refine g_iret h dX10_teach_125 ?_
      have ob : ∀ a, ¬ (20 ≤ a ∧ a ≤ 27) → ∀ f i J0, bgI (nN (smN (tK Tp L) (tV Tp L) (tC Tp L) (I2 9))) f i J0 a = J0 a := fun a ha f i J0 => bgI_o ha f i J0
      have o5 : ∀ a, a ≠ 0 → ¬ (20 ≤ a ∧ a ≤ 27) → bgI (nN (smN (tK Tp L) (tV Tp L) (tC Tp L) (I2 9))) (nN (smN (tK Tp L) (tV Tp L) (tC Tp L) (I2 9))) 0 (bg0 (up2 I4 0 9 (-1))) a = I4 a := fun a a0 ha => by rw [ob a ha, bg0_o ha, up2_o a0]
      refine hN (I2 9) hs3 _ _ ⟨?_, ?_, ?_, ⟨I2, I3, l2, rfl, f3.1, t3, m3, fun a a1 a2 a3 => ?_, fun Z z1 z2 n hn => ?_, fun a a1 a2 => ?_, fun N n1 n2 a a1 a2 => ?_⟩, fun a a1 a2 a3 => ?_⟩ (fun a c1 c2 c3 => ?_)
      · rw [ob 0 (by omega), bg0_o (by omega), up2_s]
      · rw [o5 1 (by decide) (by omega), o4 1 (by decide), f3.1 1 (by decide) (by decide) (by decide) (by decide)]; exact e1
      · rw [o5 9 (by decide) (by omega), o4 9 (by decide), f3.1 9 (by decide) (by decide) (by decide) (by decide)]
      · rw [o5 a (by omega) (by omega), o4 a a1]
      · rw [o5 79 (by omega) (by omega)]; exact q4 Z z1 z2 n hn
      · rw [f3.1 a (by omega) (by omega) (by omega) (by omega), fI a (by omega) (by omega)]
      · have en : N = nN (smN (tK Tp L) (tV Tp L) (tC Tp L) (I2 9)) := eqN (n1.symm.trans hN58) (by omega) (by omega)
        subst en
        have ha : ∀ b, 20 ≤ b → b ≤ 76 → up2 I4 0 9 (-1) b = I3 b := fun b b1 b2 => by rw [up2_o (by omega), o4 b (by omega)]
        exact bgI_e hN16 (bg0_e (fun b b1 b2 => ha b b1 (by omega)) (fun b b1 b2 => ha b (by omega) (by omega))) a1 a2
      · rw [o5 a (by omega) a2, o4 a (by omega), f3.1 a (by omega) (by omega) (by omega) (by omega), fI a (by omega) (by omega)]
      · rw [f3.2 a c3, g1 a c1 c2]
  refine g_aload_0 h dX10_teach_0 ?_
  refine g_getC h fl_X10_29 dX10_teach_1 rfl rfl ?_
  refine g_aload_0 h dX10_teach_4 ?_
  refine g_getC h fl_X10_22 dX10_teach_5 rfl rfl ?_
  refine g_cVv1 h rok0 mi_X8_readAll dX10_teach_8 ml_X10_99 rfl rfl rfl (Nat.le_of_ble_eq_true rfl) (Nat.le_of_ble_eq_true rfl) (sp_X8_readAll (T := Tp) (L := L) hT hkw (fun I1 J1 f1 g1 r1 s1 => ?_))
  · refine g_aload_0 h dX10_teach_11 ?_
    refine g_getC h fl_X10_22 dX10_teach_12 rfl rfl ?_
    refine g_iconst h dX10_teach_15 (v := nI 0) rfl ?_
    refine g_cVv1 h rok0 mi_X6_cut dX10_teach_16 ml_X10_96 rfl rfl rfl (Nat.le_of_ble_eq_true rfl) (Nat.le_of_ble_eq_true rfl) (sp_X6_cut ?_)
    refine g_aload_0 h dX10_teach_19 ?_
    refine g_getC h fl_X10_42 dX10_teach_20 rfl rfl ?_
    refine g_aload_0 h dX10_teach_23 ?_
    refine g_getP h fl_X10_16 dX10_teach_24 rfl rfl hD ?_
    refine g_getC h fl_X10_35 dX10_teach_27 rfl rfl ?_
    obtain ⟨p1, w1⟩ := ps_mk (T := Tp) (L := L) (I := up2 I1 1 1 (nI 0)) (J := J1) (fun n hn => by
      obtain ⟨t1, t2, t3⟩ := r1 n hn
      exact ⟨by rw [up2_o (by decide)]; exact t1, by rw [up2_o (by decide)]; exact t2, t3⟩) (by rw [up2_o (by decide)]; exact s1)
    refine g_cVi1 h rok0 mi_X4_firstFault dX10_teach_30 ml_X10_103 rfl rfl rfl (Nat.le_of_ble_eq_true rfl) (Nat.le_of_ble_eq_true rfl) (sp_X4_firstFault (m := idm) p1 (fun hg I2 f2 l2 => ?_) (fun hg I2 f2 => ?_))
    · refine g_istore_1 h dX10_teach_33 (by decide) rfl ?_
      exact hgood I1 J1 f1 g1 r1 s1 p1 w1 hg I2 f2 l2
    · refine g_istore_1 h dX10_teach_33 (by decide) rfl ?_
      exact hbad I1 J1 f1 g1 r1 s1 hg I2 f2

