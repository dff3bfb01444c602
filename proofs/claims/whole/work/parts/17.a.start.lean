/-! The start: nothing is told -/
theorem RELI_0 {I : MI} (h1 : ∀ a, 36 ≤ a → a < 58 → I a = fun _ => nI 0) (h2 : ∀ a, 93 ≤ a → a < 104 → I a = fun _ => nI 0) (h3 : ∀ a, 20 ≤ a → a < 28 → I a = fun _ => nI 0) (h4 : I 91 = fun _ => nI 0) : RELI I := by
  have d : ∀ k, k < 22 → dv I k = fun _ => nI 0 := fun k hk => h1 (36 + k) (by omega) (by omega)
  have b : ∀ k, k < 11 → bv I k = fun _ => nI 0 := fun k hk => h2 (93 + k) (by omega) (by omega)
  have n : nC (dv I) = 0 ∧ nN (dv I) = 0 ∧ nT (dv I) = 0 ∧ nK (dv I) = 0 ∧ nO (dv I) = 0 ∧ nZ (dv I) = 0 := by
    unfold nC nN nT nK nO nZ
    rw [d 0 (by decide), d 19 (by decide)]
    exact ⟨ixz, ixz, ixz, ixz, ixz, ixz⟩
  have m : nC (bv I) = 0 ∧ nN (bv I) = 0 ∧ nT (bv I) = 0 ∧ nK (bv I) = 0 ∧ nO (bv I) = 0 := by
    unfold nC nN nT nK nO
    rw [b 0 (by decide)]
    exact ⟨ixz, ixz, ixz, ixz, ixz⟩
  obtain ⟨n1, n2, n3, n4, n5, n6⟩ := n
  obtain ⟨m1, m2, m3, m4, m5⟩ := m
  refine ⟨fun _ => none, fun _ => zE, ⟨?_, ?_, ?_, ?_, ?_, ?_, ?_⟩, ⟨?_, ?_, ?_, ?_, ?_⟩, ?_⟩
  · unfold tdOK
    rw [n1, n2, n3, n4, n5, n6, d 0 (by decide), d 19 (by decide)]
    exact ⟨⟨rfl, by decide⟩, ⟨rfl, by decide⟩, ⟨rfl, by decide⟩, ⟨rfl, by decide⟩, ⟨rfl, by decide⟩, fun a ha => absurd ha (by omega), ⟨rfl, by decide⟩, fun a ha => absurd ha (by omega), fun a ha => absurd ha (by omega)⟩
  · unfold bkOK
    rw [m1, m2, m3, m4, m5, b 0 (by decide)]
    exact ⟨⟨rfl, by decide⟩, ⟨rfl, by decide⟩, ⟨rfl, by decide⟩, ⟨rfl, by decide⟩, ⟨rfl, by decide⟩, fun a ha => absurd ha (by omega), fun a ha => absurd ha (by omega), fun a ha => absurd ha (by omega), fun a ha => absurd ha (by omega)⟩
  · intro i _
    rw [b 0 (by decide), d 0 (by decide)]
  · rw [n1]; exact fun k hk => absurd hk (by omega)
  · rw [n3]; exact fun k hk => absurd hk (by omega)
  · rw [n4]; exact fun k hk => absurd hk (by omega)
  · rw [n5]; exact fun k hk => absurd hk (by omega)
  · rw [n2]; exact fun k hk => absurd hk (by omega)
  · rw [n2]; exact fun k hk => absurd hk (by omega)
  · rw [n3]; exact fun k hk => absurd hk (by omega)
  · rw [n4]; exact fun k hk => absurd hk (by omega)
  · rw [h4]
    have s0 : sv 20 I 0 = fun _ => nI 0 := by rw [sv, if_pos (by decide)]; exact h3 20 (by decide) (by decide)
    rw [s0]
    exact ⟨rfl, rfl, rfl⟩
  · intro a ha
    rw [m3] at ha
    exact absurd ha (by omega)
/-- the first memory -/
def I00 : MI := fun k j => if (k = 0 ∧ j = 9) ∨ (k = 80 ∧ j = 3) then -1 else if k = 8 ∧ j = 3 then nI 46 else if k = 10 ∧ (j = 7 ∨ j = 8) then nI 48 else nI 0
def P00 : MP := fun k j => if k = 0 ∧ j = 0 then some 36 else if k = 0 ∧ j = 1 then some 58 else if (k = 20 ∨ k = 28) ∧ j = 0 then some 36 else if k = 8 ∧ j = 2 then some 77 else if k = 80 ∧ j = 8 then some 93 else if k = 80 ∧ j = 9 then some 104 else none
theorem REL_0 {J : MJ} (hJ : kwO J) : REL I00 J P00 := by
  have e : ∀ a, a ≠ 0 → a ≠ 80 → a ≠ 8 → a ≠ 10 → I00 a = fun _ => nI 0 := fun a a1 a2 a3 a4 => by
    funext j
    show (if _ then _ else _) = _
    rw [if_neg (by omega), if_neg (by omega), if_neg (by omega)]
  refine ⟨RELI_0 (fun a a1 a2 => e a (by omega) (by omega) (by omega) (by omega)) (fun a a1 a2 => e a (by omega) (by omega) (by omega) (by omega)) (fun a a1 a2 => e a (by omega) (by omega) (by omega) (by omega)) (e 91 (by decide) (by decide) (by decide) (by decide)), ⟨fun _ => 0, 0, tpO_0 rfl, rtO_0 rfl⟩, rfl, ⟨rfl, rfl, rfl, rfl, rfl⟩, hJ⟩
