/-! What a parse means depends on its names alone -/
def agr (K : Nat → Nat) (m m' : Nat → Int32) (ev ev' : Nat → Int32 → Int32) (a b : Nat) : Prop := ev 16 (nI 0) = ev' 16 (nI 0) ∧ ∀ t, a ≤ t → t < b → K t = 28 → ∀ k, 17 ≤ k → k ≤ 22 → ev k (m t) = ev' k (m' t)
theorem agr.in {K : Nat → Nat} {m m' : Nat → Int32} {ev ev' : Nat → Int32 → Int32} {a b a' b' : Nat} (h : agr K m m' ev ev' a b) (h1 : a ≤ a') (h2 : b' ≤ b) : agr K m m' ev ev' a' b' := ⟨h.1, fun t t1 t2 => h.2 t (by omega) (by omega)⟩
def gA (K : Nat → Nat) (M : Nat) (m m' : Nat → Int32) (ev ev' : Nat → Int32 → Int32) (g g' : Nat → PRs) : Prop := ∀ p, p ≤ M → agr K m m' ev ev' p (g p).2.1 → (g p).2.2 ev = (g' p).2.2 ev'
section GA
variable {K : Nat → Nat} {M : Nat} {V m m' : Nat → Int32} {ev ev' : Nat → Int32 → Int32}
theorem wtE_A {w : Nat} {A B A' B' : EX} (hA : A ev = A' ev') (hB : B ev = B' ev') : wtE w A B ev = wtE w A' B' ev' := by
  unfold wtE
  by_cases h : w = 48
  · rw [if_pos h, if_pos h]; exact hB
  · rw [if_neg h, if_neg h]
    show joF w (A ev) (B ev) = joF w (A' ev') (B' ev')
    rw [hA, hB]
theorem joE_A {w : Nat} {A B A' B' : EX} (hA : A ev = A' ev') (hB : B ev = B' ev') : joE w A B ev = joE w A' B' ev' := by
  show joF w (A ev) (B ev) = joF w (A' ev') (B' ev')
  rw [hA, hB]
theorem opL_A {lo hi : Nat} {cl : Nat → Bool} {g g' : Nat → PRs} (hM : 45 ≤ K M) (hh : hi < 45) (hB : gB M g) (he : ∀ p, eqv (g p) (g' p)) (hg : gA K M m m' ev ev' g g') : ∀ (f p w : Nat) (A B A' B' : EX), p ≤ M → A ev = A' ev' → B ev = B' ev' → agr K m m' ev ev' p (opL K lo hi cl g f p w A B).2.1 → (opL K lo hi cl g f p w A B).2.2 ev = (opL K lo hi cl g' f p w A' B').2.2 ev' := by
  intro f
  induction f with
  | zero => exact fun p w A B A' B' _ hA hB _ => wtE_A hA hB
  | succ f ih =>
    intro p w A B A' B' hp eA eB ha
    rw [opL_st] at ha ⊢
    rw [opL_st (g := g')]
    by_cases hc : lo ≤ K p ∧ K p ≤ hi
    · rw [if_pos hc] at ha ⊢
      rw [if_pos hc]
      have hp1 := K_lt2 hM hp (by omega)
      obtain ⟨b1, b2, b3⟩ := hB (p + 1) (by omega)
      obtain ⟨e1, e2⟩ := he (p + 1)
      by_cases h1 : (g (p + 1)).1 = true
      · rw [if_pos h1] at ha ⊢
        rw [if_pos (e1.symm.trans h1), ← e2]
        obtain ⟨c1, c2⟩ := opL_B (lo := lo) (cl := cl) hM hh hB f (g (p + 1)).2.1 (if cl (K p) then w else K p) (if cl (K p) then A else wtE w A B) (if cl (K p) then joE (K p) B (g (p + 1)).2.2 else (g (p + 1)).2.2) b2
        have eg := hg (p + 1) (by omega) (ha.in (by omega) c1)
        refine ih _ _ _ _ _ _ b2 ?_ ?_ (ha.in (by omega) (Nat.le_refl _))
        · cases cl (K p) with
          | true => exact eA
          | false => exact wtE_A eA eB
        · cases cl (K p) with
          | true => exact joE_A eB eg
          | false => exact eg
      · rw [if_neg h1]
        rw [if_neg (by rw [← e1]; exact h1)]
        rfl
    · rw [if_neg hc]
      rw [if_neg hc]
      exact wtE_A eA eB
theorem opS_A {lo hi : Nat} {cl : Nat → Bool} {g g' : Nat → PRs} (hM : 45 ≤ K M) (hh : hi < 45) (hB : gB M g) (he : ∀ p, eqv (g p) (g' p)) (hg : gA K M m m' ev ev' g g') : gA K M m m' ev ev' (opS K lo hi cl g) (opS K lo hi cl g') := by
  intro p hp ha
  unfold opS at ha ⊢
  obtain ⟨b1, b2, b3⟩ := hB p hp
  obtain ⟨e1, e2⟩ := he p
  by_cases h1 : (g p).1 = true
  · rw [if_pos h1] at ha ⊢
    rw [if_pos (e1.symm.trans h1), ← e2]
    obtain ⟨c1, c2⟩ := opL_B (lo := lo) (cl := cl) hM hh hB 401 (g p).2.1 48 zE (g p).2.2 b2
    exact opL_A hM hh hB he hg _ _ _ _ _ _ _ b2 rfl (hg p hp (ha.in (Nat.le_refl _) c1)) (ha.in b1 (Nat.le_refl _))
  · rw [if_neg h1]
    rw [if_neg (by rw [← e1]; exact h1)]
    rfl
theorem cloP_A {k : Nat} {r r' : PRs} (he : eqv r r') (h : r.1 = true → r.2.2 ev = r'.2.2 ev') : (cloP K k r).2.2 ev = (cloP K k r').2.2 ev' := by
  unfold cloP
  obtain ⟨e1, e2⟩ := he
  by_cases h1 : r.1 = true
  · rw [if_pos h1, if_pos (e1.symm.trans h1), ← e2]
    by_cases h2 : K r.2.1 = k
    · rw [if_pos h2, if_pos h2]
      exact h h1
    · rw [if_neg h2, if_neg h2]
      rfl
  · rw [if_neg h1, if_neg (by rw [← e1]; exact h1)]
    rfl
theorem cloP_le {k : Nat} {r : PRs} : r.2.1 ≤ (cloP K k r).2.1 := by
  unfold cloP
  by_cases h1 : r.1 = true
  · rw [if_pos h1]
    by_cases h2 : K r.2.1 = k
    · rw [if_pos h2]; exact Nat.le_succ _
    · rw [if_neg h2]; exact Nat.le_refl _
  · rw [if_neg h1]; exact Nat.le_refl _
theorem pV_A (hM : 45 ≤ K M) : ∀ c, gA K M m m' ev ev' (pV K V m c) (pV K V m' c) := by
  have key : ∀ (b : Bool) (g g' : Nat → PRs), (b = true → gB M g) → (∀ p, eqv (g p) (g' p)) → (b = true → gA K M m m' ev ev' g g') → gA K M m m' ev ev' (vS K V m b g) (vS K V m' b g') := by
    intro b g g' hB he hg p hp ha
    unfold vS at ha ⊢
    by_cases h1 : K p = 29
    · rw [if_pos h1]
      rw [if_pos h1]
    rw [if_neg h1] at ha ⊢
    rw [if_neg h1]
    by_cases h2 : K p = 16
    · rw [if_pos h2]
      rw [if_pos h2]
      exact ha.1
    rw [if_neg h2] at ha ⊢
    rw [if_neg h2]
    by_cases h3 : 17 ≤ K p ∧ K p ≤ 21
    · rw [if_pos h3] at ha ⊢
      rw [if_pos h3]
      by_cases h4 : K (p + 1) = 28
      · rw [if_pos h4] at ha ⊢
        rw [if_pos h4]
        exact ha.2 (p + 1) (by omega) (by show p + 1 < p + 2; omega) h4 (K p) h3.1 (by omega)
      · rw [if_neg h4]
        rw [if_neg h4]
        rfl
    rw [if_neg h3] at ha ⊢
    rw [if_neg h3]
    by_cases h4 : K p = 37
    · rw [if_pos h4] at ha ⊢
      rw [if_pos h4]
      have hp1 := K_lt hM hp h4 (by decide)
      cases b with
      | true =>
        have e := hg rfl (p + 1) (by omega) (ha.in (by omega) (Nat.le_refl _))
        show -((g (p + 1)).2.2 ev) = -((g' (p + 1)).2.2 ev')
        rw [e]
      | false => rfl
    rw [if_neg h4] at ha ⊢
    rw [if_neg h4]
    by_cases h5 : K p = 30
    · rw [if_pos h5] at ha ⊢
      rw [if_pos h5]
      have hp1 := K_lt hM hp h5 (by decide)
      cases b with
      | true => exact cloP_A (opS_eqv he _) (fun _ => opS_A hM (by decide) (hB rfl) he (hg rfl) (p + 1) (by omega) (ha.in (by omega) cloP_le))
      | false => rfl
    rw [if_neg h5] at ha ⊢
    rw [if_neg h5]
    by_cases h6 : K p = 26 ∨ K p = 27
    · rw [if_pos h6] at ha ⊢
      rw [if_pos h6]
      by_cases h7 : b = true ∧ K (p + 1) = 30
      · rw [if_pos h7] at ha ⊢
        rw [if_pos h7]
        have q1 := K_lt2 hM hp (by omega)
        have q2 := K_lt (p := p + 1) hM (by omega) h7.2 (by decide)
        have B1 := opS_B (lo := 36) (cl := clS) hM (show 39 < 45 by decide) (hB h7.1)
        have A1 := opS_A (lo := 36) (cl := clS) hM (show 39 < 45 by decide) (hB h7.1) he (hg h7.1)
        have v1 := cloP_eqv (K := K) (k := 35) (opS_eqv (K := K) (lo := 36) (hi := 39) (cl := clS) he (p + 2))
        obtain ⟨b1, b2, b3⟩ := B1 (p + 2) (by omega)
        obtain ⟨c1, c2, c3⟩ := cloP_B (r := opS K 36 39 clS g (p + 2)) (k := 35) hM (by decide) b2
        by_cases h8 : (cloP K 35 (opS K 36 39 clS g (p + 2))).1 = true
        · rw [if_pos h8] at ha ⊢
          rw [if_pos (v1.1.symm.trans h8), ← v1.2]
          have ha : agr K m m' ev ev' p (cloP K 31 (opS K 36 39 clS g (cloP K 35 (opS K 36 39 clS g (p + 2))).2.1)).2.1 := ha
          obtain ⟨d1, d2, d3⟩ := B1 _ c2
          have z1 := cloP_le (K := K) (k := 31) (r := opS K 36 39 clS g (cloP K 35 (opS K 36 39 clS g (p + 2))).2.1)
          refine joE_A ?_ ?_
          · exact cloP_A (opS_eqv he _) (fun _ => A1 (p + 2) (by omega) (ha.in (by omega) (by omega)))
          · exact cloP_A (opS_eqv he _) (fun _ => A1 _ c2 (ha.in (by omega) z1))
        · rw [if_neg h8]
          rw [if_neg (by rw [← v1.1]; exact h8)]
          rfl
      · rw [if_neg h7]
        rw [if_neg h7]
        rfl
    · rw [if_neg h6]
      rw [if_neg h6]
      rfl
  intro c
  induction c with
  | zero => exact key false _ _ (fun q => Bool.noConfusion q) (fun p => ⟨rfl, rfl⟩) (fun q => Bool.noConfusion q)
  | succ c ih => exact key true _ _ (fun _ => pV_B hM c) (pV_eqv c) (fun _ => ih)
theorem pS_A (hM : 45 ≤ K M) (c : Nat) : gA K M m m' ev ev' (pS K V m c) (pS K V m' c) := opS_A hM (by decide) (pV_B hM c) (pV_eqv c) (pV_A hM c)
theorem p1_A (hM : 45 ≤ K M) : ∀ c, gA K M m m' ev ev' (p1 K V m c) (p1 K V m' c) := by
  have key : ∀ (b : Bool) (gs gt sm gs' gt' sm' : Nat → PRs), (b = true → gB M gs) → (b = true → gB M gt) → gB M sm → (∀ p, eqv (gs p) (gs' p)) → (∀ p, eqv (gt p) (gt' p)) → (∀ p, eqv (sm p) (sm' p)) → (b = true → gA K M m m' ev ev' gs gs') → (b = true → gA K M m m' ev ev' gt gt') → gA K M m m' ev ev' sm sm' → gA K M m m' ev ev' (sS K m b gs gt sm) (sS K m' b gs' gt' sm') := by
    intro b gs gt sm gs' gt' sm' B1 B2 B3 E1 E2 E3 A1 A2 A3 p hp ha
    unfold sS at ha ⊢
    by_cases h1 : K p = 23
    · rw [if_pos h1] at ha ⊢
      rw [if_pos h1]
      have hp1 := K_lt hM hp h1 (by decide)
      cases b with
      | true =>
        have e := A1 rfl (p + 1) (by omega) (ha.in (by omega) (Nat.le_refl _))
        show nI 1 - (gs (p + 1)).2.2 ev = nI 1 - (gs' (p + 1)).2.2 ev'
        rw [e]
      | false => rfl
    rw [if_neg h1] at ha ⊢
    rw [if_neg h1]
    by_cases h2 : K p = 32
    · rw [if_pos h2] at ha ⊢
      rw [if_pos h2]
      have hp1 := K_lt hM hp h2 (by decide)
      cases b with
      | true => exact cloP_A (E2 _) (fun _ => A2 rfl (p + 1) (by omega) (ha.in (by omega) cloP_le))
      | false => rfl
    rw [if_neg h2] at ha ⊢
    rw [if_neg h2]
    by_cases h3 : K p = 22
    · rw [if_pos h3] at ha ⊢
      rw [if_pos h3]
      by_cases h4 : K (p + 1) = 28
      · rw [if_pos h4] at ha ⊢
        rw [if_pos h4]
        exact ha.2 (p + 1) (by omega) (by show p + 1 < p + 2; omega) h4 22 (by decide) (by decide)
      · rw [if_neg h4]
        rw [if_neg h4]
        rfl
    rw [if_neg h3] at ha ⊢
    rw [if_neg h3]
    obtain ⟨e1, e2⟩ := E3 p
    obtain ⟨b1, b2, b3⟩ := B3 p hp
    by_cases h4 : (sm p).1 = true
    · rw [if_pos h4] at ha ⊢
      rw [if_pos (e1.symm.trans h4), ← e2]
      by_cases h5 : 40 ≤ K (sm p).2.1 ∧ K (sm p).2.1 ≤ 44
      · rw [if_pos h5] at ha ⊢
        rw [if_pos h5]
        have q1 := K_lt2 hM b2 (by omega)
        obtain ⟨d1, d2, d3⟩ := B3 ((sm p).2.1 + 1) (by omega)
        have ha : agr K m m' ev ev' p (sm ((sm p).2.1 + 1)).2.1 := ha
        exact joE_A (A3 p hp (ha.in (Nat.le_refl _) (by omega))) (A3 _ (by omega) (ha.in (by omega) (Nat.le_refl _)))
      · rw [if_neg h5]
        rw [if_neg h5]
        rfl
    · rw [if_neg h4]
      rw [if_neg (by rw [← e1]; exact h4)]
      rfl
  intro c
  induction c with
  | zero => exact key false _ _ _ _ _ _ (fun q => Bool.noConfusion q) (fun q => Bool.noConfusion q) (pS_B hM 0) (fun p => ⟨rfl, rfl⟩) (fun p => ⟨rfl, rfl⟩) (pS_eqv 0) (fun q => Bool.noConfusion q) (fun q => Bool.noConfusion q) (pS_A hM 0)
  | succ c ih => exact key true _ _ _ _ _ _ (fun _ => p1_B hM c) (fun _ => opS_B hM (by decide) (p1_B hM c)) (pS_B hM (c + 1)) (p1_eqv c) (opS_eqv (p1_eqv c)) (pS_eqv (c + 1)) (fun _ => ih) (fun _ => opS_A hM (by decide) (p1_B hM c) (p1_eqv c) ih) (pS_A hM (c + 1))
theorem pT_A (hM : 45 ≤ K M) (c : Nat) : gA K M m m' ev ev' (pT K V m c) (pT K V m' c) := opS_A hM (by decide) (p1_B hM c) (p1_eqv c) (p1_A hM c)
end GA
