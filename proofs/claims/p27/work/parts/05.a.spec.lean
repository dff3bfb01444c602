/-! The grammar: what a row of tokens comes to (kinds K, numbers V, what names mean m); positions from p on, M the last token -/
abbrev PRs : Type := Bool × Nat × EX
def zE : EX := fun _ => nI 0
def joE (k : Nat) (a b : EX) : EX := fun e => joF k (a e) (b e)
def wtE (w : Nat) (a b : EX) : EX := if w = 48 then b else joE w a b
def opL (K : Nat → Nat) (lo hi : Nat) (cl : Nat → Bool) (g : Nat → PRs) : Nat → Nat → Nat → EX → EX → PRs
  | 0, p, w, A, B => (true, p, wtE w A B)
  | f + 1, p, w, A, B => if lo ≤ K p ∧ K p ≤ hi then
      (if (g (p + 1)).1 then opL K lo hi cl g f (g (p + 1)).2.1 (if cl (K p) then w else K p) (if cl (K p) then A else wtE w A B) (if cl (K p) then joE (K p) B (g (p + 1)).2.2 else (g (p + 1)).2.2)
       else (false, (g (p + 1)).2.1, zE))
    else (true, p, wtE w A B)
def opS (K : Nat → Nat) (lo hi : Nat) (cl : Nat → Bool) (g : Nat → PRs) (p : Nat) : PRs :=
  if (g p).1 then opL K lo hi cl g 401 (g p).2.1 48 zE (g p).2.2 else (false, (g p).2.1, zE)
def clS (k : Nat) : Bool := decide (38 ≤ k)
def clT (k : Nat) : Bool := decide (k = 24)
def cloP (K : Nat → Nat) (k : Nat) (r : PRs) : PRs := if r.1 then (if K r.2.1 = k then (true, r.2.1 + 1, r.2.2) else (false, r.2.1, zE)) else (false, r.2.1, zE)
def vS (K : Nat → Nat) (V m : Nat → Int32) (b : Bool) (g : Nat → PRs) (p : Nat) : PRs :=
  if K p = 29 then (true, p + 1, fun _ => V p)
  else if K p = 16 then (true, p + 1, fun e => e 16 (nI 0))
  else if 17 ≤ K p ∧ K p ≤ 21 then (if K (p + 1) = 28 then (true, p + 2, fun e => e (K p) (m (p + 1))) else (false, p + 1, zE))
  else if K p = 37 then (if b then ((g (p + 1)).1, (g (p + 1)).2.1, fun e => -((g (p + 1)).2.2 e)) else (false, p, zE))
  else if K p = 30 then (if b then cloP K 31 (opS K 36 39 clS g (p + 1)) else (false, p, zE))
  else if K p = 26 ∨ K p = 27 then
    (if b = true ∧ K (p + 1) = 30 then
      (if (cloP K 35 (opS K 36 39 clS g (p + 2))).1 then
        ((cloP K 31 (opS K 36 39 clS g (cloP K 35 (opS K 36 39 clS g (p + 2))).2.1)).1, (cloP K 31 (opS K 36 39 clS g (cloP K 35 (opS K 36 39 clS g (p + 2))).2.1)).2.1, joE (K p) (cloP K 35 (opS K 36 39 clS g (p + 2))).2.2 (cloP K 31 (opS K 36 39 clS g (cloP K 35 (opS K 36 39 clS g (p + 2))).2.1)).2.2)
       else (false, (cloP K 35 (opS K 36 39 clS g (p + 2))).2.1, zE))
     else (false, p + 1, zE))
  else (false, p, zE)
def pV (K : Nat → Nat) (V m : Nat → Int32) : Nat → Nat → PRs
  | 0 => vS K V m false (fun p => (false, p, zE))
  | c + 1 => vS K V m true (pV K V m c)
def pS (K : Nat → Nat) (V m : Nat → Int32) (c p : Nat) : PRs := opS K 36 39 clS (pV K V m c) p
def sS (K : Nat → Nat) (m : Nat → Int32) (b : Bool) (gs gt sm : Nat → PRs) (p : Nat) : PRs :=
  if K p = 23 then (if b then ((gs (p + 1)).1, (gs (p + 1)).2.1, fun e => nI 1 - (gs (p + 1)).2.2 e) else (false, p, zE))
  else if K p = 32 then (if b then cloP K 33 (gt (p + 1)) else (false, p, zE))
  else if K p = 22 then (if K (p + 1) = 28 then (true, p + 2, fun e => e 22 (m (p + 1))) else (false, p + 1, zE))
  else if (sm p).1 then
    (if 40 ≤ K (sm p).2.1 ∧ K (sm p).2.1 ≤ 44 then ((sm ((sm p).2.1 + 1)).1, (sm ((sm p).2.1 + 1)).2.1, joE (K (sm p).2.1) (sm p).2.2 (sm ((sm p).2.1 + 1)).2.2)
     else (false, (sm p).2.1, zE))
  else (false, (sm p).2.1, zE)
def p1 (K : Nat → Nat) (V m : Nat → Int32) : Nat → Nat → PRs
  | 0 => sS K m false (fun p => (false, p, zE)) (fun p => (false, p, zE)) (pS K V m 0)
  | c + 1 => sS K m true (p1 K V m c) (opS K 24 25 clT (p1 K V m c)) (pS K V m (c + 1))
def pT (K : Nat → Nat) (V m : Nat → Int32) (c p : Nat) : PRs := opS K 24 25 clT (p1 K V m c) p
/-- where it ends -/
def gB (M : Nat) (g : Nat → PRs) : Prop := ∀ p, p ≤ M → p ≤ (g p).2.1 ∧ (g p).2.1 ≤ M ∧ ((g p).1 = true → p < (g p).2.1)
theorem K_lt {K : Nat → Nat} {M p k : Nat} (hM : 45 ≤ K M) (hp : p ≤ M) (e : K p = k) (hk : k < 45) : p < M := by
  rcases Nat.lt_or_ge p M with h | h
  · exact h
  · have : p = M := by omega
    subst this
    omega
theorem K_lt2 {K : Nat → Nat} {M p : Nat} (hM : 45 ≤ K M) (hp : p ≤ M) (e : K p < 45) : p < M := K_lt hM hp rfl e
theorem opL_B {K : Nat → Nat} {M lo hi : Nat} {cl : Nat → Bool} {g : Nat → PRs} (hM : 45 ≤ K M) (hh : hi < 45) (hg : gB M g) : ∀ (f p w : Nat) (A B : EX), p ≤ M → p ≤ (opL K lo hi cl g f p w A B).2.1 ∧ (opL K lo hi cl g f p w A B).2.1 ≤ M := by
  intro f
  induction f with
  | zero => intro p w A B hp; exact ⟨Nat.le_refl _, hp⟩
  | succ f ih =>
    intro p w A B hp
    rw [opL]
    by_cases h : lo ≤ K p ∧ K p ≤ hi
    · rw [if_pos h]
      have hp1 := K_lt2 hM hp (by omega)
      obtain ⟨b1, b2, b3⟩ := hg (p + 1) (by omega)
      by_cases h1 : (g (p + 1)).1 = true
      · rw [if_pos h1]
        obtain ⟨c1, c2⟩ := ih (g (p + 1)).2.1 (if cl (K p) then w else K p) (if cl (K p) then A else wtE w A B) (if cl (K p) then joE (K p) B (g (p + 1)).2.2 else (g (p + 1)).2.2) b2
        exact ⟨by omega, c2⟩
      · rw [if_neg h1]
        exact ⟨by show p ≤ (g (p + 1)).2.1; omega, b2⟩
    · rw [if_neg h]
      exact ⟨Nat.le_refl _, hp⟩
theorem opS_B {K : Nat → Nat} {M lo hi : Nat} {cl : Nat → Bool} {g : Nat → PRs} (hM : 45 ≤ K M) (hh : hi < 45) (hg : gB M g) : gB M (opS K lo hi cl g) := by
  intro p hp
  obtain ⟨b1, b2, b3⟩ := hg p hp
  unfold opS
  by_cases h1 : (g p).1 = true
  · rw [if_pos h1]
    obtain ⟨c1, c2⟩ := opL_B (lo := lo) (cl := cl) hM hh hg 401 (g p).2.1 48 zE (g p).2.2 b2
    have := b3 h1
    exact ⟨by omega, c2, fun _ => by omega⟩
  · rw [if_neg h1]
    exact ⟨b1, b2, fun q => by cases q⟩
theorem cloP_B {K : Nat → Nat} {M k : Nat} {r : PRs} (hM : 45 ≤ K M) (hk : k < 45) (h2 : r.2.1 ≤ M) : r.2.1 ≤ (cloP K k r).2.1 ∧ (cloP K k r).2.1 ≤ M ∧ ((cloP K k r).1 = true → r.2.1 < (cloP K k r).2.1) := by
  unfold cloP
  by_cases h1 : r.1 = true
  · rw [if_pos h1]
    by_cases h3 : K r.2.1 = k
    · rw [if_pos h3]
      have := K_lt hM h2 h3 hk
      exact ⟨by show r.2.1 ≤ r.2.1 + 1; omega, by show r.2.1 + 1 ≤ M; omega, fun _ => by show r.2.1 < r.2.1 + 1; omega⟩
    · rw [if_neg h3]
      exact ⟨Nat.le_refl _, h2, fun q => by cases q⟩
  · rw [if_neg h1]
    exact ⟨Nat.le_refl _, h2, fun q => by cases q⟩
theorem pV_B {K : Nat → Nat} {V m : Nat → Int32} {M : Nat} (hM : 45 ≤ K M) : ∀ c, gB M (pV K V m c) := by
  have key : ∀ (b : Bool) (g : Nat → PRs), (b = true → gB M g) → gB M (vS K V m b g) := by
    intro b g hg p hp
    unfold vS
    by_cases h1 : K p = 29
    · rw [if_pos h1]
      have := K_lt hM hp h1 (by decide)
      exact ⟨by show p ≤ p + 1; omega, by show p + 1 ≤ M; omega, fun _ => by show p < p + 1; omega⟩
    rw [if_neg h1]
    by_cases h2 : K p = 16
    · rw [if_pos h2]
      have := K_lt hM hp h2 (by decide)
      exact ⟨by show p ≤ p + 1; omega, by show p + 1 ≤ M; omega, fun _ => by show p < p + 1; omega⟩
    rw [if_neg h2]
    by_cases h3 : 17 ≤ K p ∧ K p ≤ 21
    · rw [if_pos h3]
      have q1 := K_lt2 hM hp (by omega)
      by_cases h4 : K (p + 1) = 28
      · rw [if_pos h4]
        have := K_lt (p := p + 1) hM (by omega) h4 (by decide)
        exact ⟨by show p ≤ p + 2; omega, by show p + 2 ≤ M; omega, fun _ => by show p < p + 2; omega⟩
      · rw [if_neg h4]
        exact ⟨by show p ≤ p + 1; omega, by show p + 1 ≤ M; omega, fun q => by cases q⟩
    rw [if_neg h3]
    by_cases h4 : K p = 37
    · rw [if_pos h4]
      have q1 := K_lt hM hp h4 (by decide)
      cases b with
      | true =>
        obtain ⟨b1, b2, b3⟩ := hg rfl (p + 1) (by omega)
        exact ⟨by show p ≤ (g (p + 1)).2.1; omega, b2, fun q => by have := b3 q; show p < (g (p + 1)).2.1; omega⟩
      | false => exact ⟨Nat.le_refl _, hp, fun q => by cases q⟩
    rw [if_neg h4]
    by_cases h5 : K p = 30
    · rw [if_pos h5]
      have q1 := K_lt hM hp h5 (by decide)
      cases b with
      | true =>
        obtain ⟨b1, b2, b3⟩ := opS_B (lo := 36) (cl := clS) hM (show 39 < 45 by decide) (hg rfl) (p + 1) (by omega)
        obtain ⟨c1, c2, c3⟩ := cloP_B (r := opS K 36 39 clS g (p + 1)) (k := 31) hM (by decide) b2
        exact ⟨by show p ≤ (cloP K 31 (opS K 36 39 clS g (p + 1))).2.1; omega, c2, fun q => by have := c3 q; show p < (cloP K 31 (opS K 36 39 clS g (p + 1))).2.1; omega⟩
      | false => exact ⟨Nat.le_refl _, hp, fun q => by cases q⟩
    rw [if_neg h5]
    by_cases h6 : K p = 26 ∨ K p = 27
    · rw [if_pos h6]
      have q1 := K_lt2 hM hp (by omega)
      by_cases h7 : b = true ∧ K (p + 1) = 30
      · rw [if_pos h7]
        have q2 := K_lt (p := p + 1) hM (by omega) h7.2 (by decide)
        obtain ⟨b1, b2, b3⟩ := opS_B (lo := 36) (cl := clS) hM (show 39 < 45 by decide) (hg h7.1) (p + 2) (by omega)
        obtain ⟨c1, c2, c3⟩ := cloP_B (r := opS K 36 39 clS g (p + 2)) (k := 35) hM (by decide) b2
        by_cases h8 : (cloP K 35 (opS K 36 39 clS g (p + 2))).1 = true
        · rw [if_pos h8]
          obtain ⟨d1, d2, d3⟩ := opS_B (lo := 36) (cl := clS) hM (show 39 < 45 by decide) (hg h7.1) _ c2
          obtain ⟨e1, e2, e3⟩ := cloP_B (r := opS K 36 39 clS g (cloP K 35 (opS K 36 39 clS g (p + 2))).2.1) (k := 31) hM (by decide) d2
          exact ⟨by show p ≤ (cloP K 31 (opS K 36 39 clS g (cloP K 35 (opS K 36 39 clS g (p + 2))).2.1)).2.1; omega, e2, fun q => by show p < (cloP K 31 (opS K 36 39 clS g (cloP K 35 (opS K 36 39 clS g (p + 2))).2.1)).2.1; omega⟩
        · rw [if_neg h8]
          exact ⟨by show p ≤ (cloP K 35 (opS K 36 39 clS g (p + 2))).2.1; omega, c2, fun q => by cases q⟩
      · rw [if_neg h7]
        exact ⟨by show p ≤ p + 1; omega, by show p + 1 ≤ M; omega, fun q => by cases q⟩
    rw [if_neg h6]
    exact ⟨Nat.le_refl _, hp, fun q => by cases q⟩
  intro c
  induction c with
  | zero => exact key false _ (fun q => by cases q)
  | succ c ih => exact key true _ (fun _ => ih)
theorem pS_B {K : Nat → Nat} {V m : Nat → Int32} {M : Nat} (hM : 45 ≤ K M) (c : Nat) : gB M (pS K V m c) := opS_B hM (by decide) (pV_B hM c)
theorem p1_B {K : Nat → Nat} {V m : Nat → Int32} {M : Nat} (hM : 45 ≤ K M) : ∀ c, gB M (p1 K V m c) := by
  have key : ∀ (b : Bool) (gs gt sm : Nat → PRs), (b = true → gB M gs) → (b = true → gB M gt) → gB M sm → gB M (sS K m b gs gt sm) := by
    intro b gs gt sm hg hg2 hs p hp
    unfold sS
    by_cases h1 : K p = 23
    · rw [if_pos h1]
      have q1 := K_lt hM hp h1 (by decide)
      cases b with
      | true =>
        obtain ⟨b1, b2, b3⟩ := hg rfl (p + 1) (by omega)
        exact ⟨by show p ≤ (gs (p + 1)).2.1; omega, b2, fun q => by have := b3 q; show p < (gs (p + 1)).2.1; omega⟩
      | false => exact ⟨Nat.le_refl _, hp, fun q => by cases q⟩
    rw [if_neg h1]
    by_cases h2 : K p = 32
    · rw [if_pos h2]
      have q1 := K_lt hM hp h2 (by decide)
      cases b with
      | true =>
        obtain ⟨b1, b2, b3⟩ := hg2 rfl (p + 1) (by omega)
        obtain ⟨c1, c2, c3⟩ := cloP_B (r := gt (p + 1)) (k := 33) hM (by decide) b2
        exact ⟨by show p ≤ (cloP K 33 (gt (p + 1))).2.1; omega, c2, fun q => by have := c3 q; show p < (cloP K 33 (gt (p + 1))).2.1; omega⟩
      | false => exact ⟨Nat.le_refl _, hp, fun q => by cases q⟩
    rw [if_neg h2]
    by_cases h3 : K p = 22
    · rw [if_pos h3]
      have q1 := K_lt hM hp h3 (by decide)
      by_cases h4 : K (p + 1) = 28
      · rw [if_pos h4]
        have := K_lt (p := p + 1) hM (by omega) h4 (by decide)
        exact ⟨by show p ≤ p + 2; omega, by show p + 2 ≤ M; omega, fun _ => by show p < p + 2; omega⟩
      · rw [if_neg h4]
        exact ⟨by show p ≤ p + 1; omega, by show p + 1 ≤ M; omega, fun q => by cases q⟩
    rw [if_neg h3]
    obtain ⟨b1, b2, b3⟩ := hs p hp
    by_cases h4 : (sm p).1 = true
    · rw [if_pos h4]
      by_cases h5 : 40 ≤ K (sm p).2.1 ∧ K (sm p).2.1 ≤ 44
      · rw [if_pos h5]
        have q1 := K_lt2 hM b2 (by omega)
        obtain ⟨c1, c2, c3⟩ := hs ((sm p).2.1 + 1) (by omega)
        exact ⟨by show p ≤ (sm ((sm p).2.1 + 1)).2.1; omega, c2, fun q => by show p < (sm ((sm p).2.1 + 1)).2.1; omega⟩
      · rw [if_neg h5]
        exact ⟨b1, b2, fun q => by cases q⟩
    · rw [if_neg h4]
      exact ⟨b1, b2, fun q => by cases q⟩
  intro c
  induction c with
  | zero => exact key false _ _ _ (fun q => by cases q) (fun q => by cases q) (pS_B hM 0)
  | succ c ih => exact key true _ _ _ (fun _ => ih) (fun _ => opS_B hM (by decide) ih) (pS_B hM (c + 1))
theorem pT_B {K : Nat → Nat} {V m : Nat → Int32} {M : Nat} (hM : 45 ≤ K M) (c : Nat) : gB M (pT K V m c) := opS_B hM (by decide) (p1_B hM c)
/-! the code of sums and tests, on a stack -/
def stpC (ev : Nat → Int32 → Int32) (k : Nat) (x : Int32) (L : List Int32) : List Int32 :=
  if k ≤ 22 ∨ k = 29 then ev k x :: L else if k = 47 then -(L.headD (nI 0)) :: L.tail else if k = 23 then (nI 1 - L.headD (nI 0)) :: L.tail else joF k (L.tail.headD (nI 0)) (L.headD (nI 0)) :: L.tail.tail
def pfC (ev : Nat → Int32 → Int32) (st op : Nat → Int32) : Nat → Nat → List Int32 → List Int32
  | 0, _, L => L
  | f + 1, n, L => pfC ev st op f (n + 1) (stpC ev (ix (st n)) (op n) L)
theorem pfC_add (ev : Nat → Int32 → Int32) (st op : Nat → Int32) : ∀ (f g n : Nat) (L : List Int32), pfC ev st op (f + g) n L = pfC ev st op g (n + f) (pfC ev st op f n L) := by
  intro f
  induction f with
  | zero => intro g n L; rw [Nat.zero_add]; rfl
  | succ f ih =>
    intro g n L
    rw [show f + 1 + g = (f + g) + 1 by omega, pfC, ih, show n + 1 + f = n + (f + 1) by omega]
    rfl
theorem pfC_ext (ev ev' : Nat → Int32 → Int32) (st op st' op' : Nat → Int32) : ∀ (f n : Nat) (L : List Int32), (∀ j, n ≤ j → j < n + f → st' j = st j ∧ ∀ M, stpC ev' (ix (st j)) (op' j) M = stpC ev (ix (st j)) (op j) M) → pfC ev' st' op' f n L = pfC ev st op f n L := by
  intro f
  induction f with
  | zero => intro n L _; rfl
  | succ f ih =>
    intro n L h
    obtain ⟨h1, h2⟩ := h n (Nat.le_refl _) (by omega)
    rw [pfC, pfC, h1, h2]
    exact ih (n + 1) _ (fun j a b => h j (by omega) (by omega))
/-- names by their tokens -/
def evm (m : Nat → Int32) (ev : Nat → Int32 → Int32) (k : Nat) (x : Int32) : Int32 := if k = 29 then x else if k = 16 then ev 16 (nI 0) else ev k (m (ix x))
def cok (I : MI) (n : Nat) : Prop := ∃ k, I 78 n = nI k ∧ kdOK k ∧ (17 ≤ k → k ≤ 22 → ∃ t, t < 401 ∧ I 79 n = nI t)
def rnC (m : Nat → Int32) (I : MI) (z z' : Nat) (F : (Nat → Int32 → Int32) → List Int32 → List Int32) : Prop := z ≤ z' ∧ (∀ n, z ≤ n → n < z' → cok I n) ∧ ∀ ev L, pfC (evm m ev) (I 78) (I 79) (z' - z) z L = F ev L
def seg (m : Nat → Int32) (I : MI) (z z' : Nat) (E : EX) : Prop := rnC m I z z' (fun ev L => E ev :: L)
theorem rnC.nil {m : Nat → Int32} {I : MI} {z : Nat} : rnC m I z z (fun _ L => L) := ⟨Nat.le_refl _, fun n a b => absurd a (by omega), fun ev L => by rw [Nat.sub_self]; rfl⟩
theorem rnC.app {m : Nat → Int32} {I : MI} {z z1 z2 : Nat} {F G : (Nat → Int32 → Int32) → List Int32 → List Int32} (h : rnC m I z z1 F) (h2 : rnC m I z1 z2 G) : rnC m I z z2 (fun ev L => G ev (F ev L)) := by
  obtain ⟨a1, a2, a3⟩ := h
  obtain ⟨b1, b2, b3⟩ := h2
  refine ⟨by omega, fun n c d => ?_, fun ev L => ?_⟩
  · rcases Nat.lt_or_ge n z1 with q | q
    · exact a2 n c q
    · exact b2 n q d
  · rw [show z2 - z = (z1 - z) + (z2 - z1) by omega, pfC_add, a3, show z + (z1 - z) = z1 by omega, b3]
theorem kdOK_lt {k : Nat} (h : kdOK k) : k < 48 := by unfold kdOK isOp isJo at h; omega
theorem rnC.one {m : Nat → Int32} {I : MI} {z k : Nat} (h : cok I z) (hk : I 78 z = nI k) (hk48 : k < 48) : rnC m I z (z + 1) (fun ev L => stpC (evm m ev) k (I 79 z) L) := by
  refine ⟨by omega, fun n a b => ?_, fun ev L => ?_⟩
  · obtain rfl : n = z := by omega
    exact h
  · rw [show z + 1 - z = 0 + 1 by omega, pfC, pfC, hk, ix_n (by omega)]
theorem rnC.ext {m : Nat → Int32} {I I' : MI} {z z' : Nat} {F : (Nat → Int32 → Int32) → List Int32 → List Int32} (h : rnC m I z z' F) (e : ∀ n, z ≤ n → n < z' → I' 78 n = I 78 n ∧ I' 79 n = I 79 n) : rnC m I' z z' F := by
  obtain ⟨a1, a2, a3⟩ := h
  refine ⟨a1, fun n c d => ?_, fun ev L => ?_⟩
  · obtain ⟨k, k1, k2, k3⟩ := a2 n c d
    obtain ⟨e1, e2⟩ := e n c d
    exact ⟨k, e1.trans k1, k2, fun x y => by rw [e2]; exact k3 x y⟩
  · rw [← a3 ev L]
    exact pfC_ext _ _ _ _ _ _ _ _ _ (fun j c d => by
      obtain ⟨e1, e2⟩ := e j c (by omega)
      exact ⟨e1, fun M => by rw [e2]⟩)
theorem rnC.eq {m : Nat → Int32} {I : MI} {z z' : Nat} {F G : (Nat → Int32 → Int32) → List Int32 → List Int32} (h : rnC m I z z' F) (e : ∀ ev L, F ev L = G ev L) : rnC m I z z' G := ⟨h.1, h.2.1, fun ev L => (h.2.2 ev L).trans (e ev L)⟩
theorem cok_jo {I : MI} {n k : Nat} (h : I 78 n = nI k) (hk : isJo k ∨ k = 47 ∨ k = 23) : cok I n := ⟨k, h, by unfold kdOK; rcases hk with q | q | q <;> simp [q], fun a b => by unfold isJo at hk; omega⟩
theorem seg_leaf {m : Nat → Int32} {I : MI} {z k : Nat} {x : Int32} (hk : I 78 z = nI k) (ho : isOp k) (hx : I 79 z = x) (ht : 17 ≤ k → k ≤ 22 → ∃ t, t < 401 ∧ x = nI t) : seg m I z (z + 1) (fun ev => evm m ev k x) := by
  have h9 : k ≤ 22 ∨ k = 29 := by
    clear ht hk hx
    unfold isOp at ho
    omega
  refine (rnC.one ⟨k, hk, Or.inl ho, fun a b => by rw [hx]; exact ht a b⟩ hk (by clear ht; omega)).eq (fun ev L => ?_)
  rw [stpC, if_pos h9, hx]
theorem seg_neg {m : Nat → Int32} {I : MI} {z z1 : Nat} {E : EX} (h : seg m I z z1 E) (hk : I 78 z1 = nI 47) : seg m I z (z1 + 1) (fun e => -(E e)) := (h.app (rnC.one (cok_jo hk (by simp)) hk (by decide))).eq (fun ev L => rfl)
theorem seg_not {m : Nat → Int32} {I : MI} {z z1 : Nat} {E : EX} (h : seg m I z z1 E) (hk : I 78 z1 = nI 23) : seg m I z (z1 + 1) (fun e => nI 1 - E e) := (h.app (rnC.one (cok_jo hk (by simp)) hk (by decide))).eq (fun ev L => rfl)
theorem stpC_jo {ev : Nat → Int32 → Int32} {k : Nat} (hk : isJo k) {x a b : Int32} {L : List Int32} : stpC ev k x (b :: a :: L) = joF k a b :: L := by
  unfold isJo at hk
  rw [stpC, if_neg (by omega), if_neg (by omega), if_neg (by omega)]
  rfl
/-- a pending sign's left side and its right side -/
def wtF (w : Nat) (A B : EX) : (Nat → Int32 → Int32) → List Int32 → List Int32 := fun ev L => if w = 48 then B ev :: L else B ev :: A ev :: L
theorem wt_jo {m : Nat → Int32} {I : MI} {z z1 w : Nat} {A B : EX} (h : rnC m I z z1 (wtF w A B)) (hw : ¬ w = 48) (hj : isJo w) (hk : I 78 z1 = nI w) : seg m I z (z1 + 1) (wtE w A B) := (h.app (rnC.one (cok_jo hk (Or.inl hj)) hk (by unfold isJo at hj; omega))).eq (fun ev L => by
  show stpC (evm m ev) w (I 79 z1) (wtF w A B ev L) = _
  rw [wtF, if_neg hw, stpC_jo hj, wtE, if_neg hw]
  rfl)
theorem wt_48 {m : Nat → Int32} {I : MI} {z z1 w : Nat} {A B : EX} (h : rnC m I z z1 (wtF w A B)) (hw : w = 48) : seg m I z z1 (wtE w A B) := h.eq (fun ev L => by rw [wtF, if_pos hw, wtE, if_pos hw])
theorem wt_cl {m : Nat → Int32} {I : MI} {z z1 z2 w k : Nat} {A B v : EX} (h : rnC m I z z1 (wtF w A B)) (hv : seg m I z1 z2 v) (hj : isJo k) (hk : I 78 z2 = nI k) : rnC m I z (z2 + 1) (wtF w A (joE k B v)) := ((h.app hv).app (rnC.one (cok_jo hk (Or.inl hj)) hk (by unfold isJo at hj; omega))).eq (fun ev L => by
  show stpC (evm m ev) k (I 79 z2) (v ev :: wtF w A B ev L) = _
  by_cases hw : w = 48
  · rw [wtF, if_pos hw, stpC_jo hj, wtF, if_pos hw]; rfl
  · rw [wtF, if_neg hw, stpC_jo hj, wtF, if_neg hw]; rfl)
theorem wt_op {m : Nat → Int32} {I : MI} {z z1 z2 k : Nat} {A v : EX} (h : seg m I z z1 A) (hv : seg m I z1 z2 v) (hk : ¬ k = 48) : rnC m I z z2 (wtF k A v) := (h.app hv).eq (fun ev L => by rw [wtF, if_neg hk])
theorem wt_0 {m : Nat → Int32} {I : MI} {z z1 : Nat} {A B : EX} (h : seg m I z z1 B) : rnC m I z z1 (wtF 48 A B) := h.eq (fun ev L => by rw [wtF, if_pos rfl])
theorem seg_jo {m : Nat → Int32} {I : MI} {z z1 z2 k : Nat} {A B : EX} (h : seg m I z z1 A) (hv : seg m I z1 z2 B) (hj : isJo k) (hk : I 78 z2 = nI k) : seg m I z (z2 + 1) (joE k A B) := ((h.app hv).app (rnC.one (cok_jo hk (Or.inl hj)) hk (by unfold isJo at hj; omega))).eq (fun ev L => by
  show stpC (evm m ev) k (I 79 z2) (B ev :: A ev :: L) = _
  rw [stpC_jo hj]; rfl)
