/-! The two worlds at the law's loop -/
section DC
variable {D D' B B' : MI} {ts : Nat → Option EX} {es : Nat → EX}
theorem has_6 {n x : Int32} (h : has n x (nI 6) = true) : ix x < 6 := by
  simp only [has, Bool.and_eq_true, Bool.not_eq_true', decide_eq_false_iff_not] at h
  obtain ⟨j, hj, rfl⟩ := nI_of h.1.1
  rw [ix_n hj]
  rcases Nat.lt_or_ge j 6 with q | q
  · exact q
  · exact absurd (nI_le q hj) h.2
theorem opF_cong (e : ∀ k, k < 22 → D' k = D k) (S : MI) (N K Tn : Nat) (sz : Nat → Nat) (k : Nat) (x : Int32) : opF D' S N K Tn sz k x = opF D S N K Tn sz k x := by
  unfold opF
  by_cases h : has (nI Tn) x (nI 6) = true
  · rw [e (7 + ix x) (by have := has_6 h; omega)]
  · simp only [if_neg h]
theorem exS_cong (e : ∀ k, k < 22 → D' k = D k) (S : MI) (N K Tn : Nat) (sz kd : Nat → Nat) : ∀ (f n : Nat) (L : List Int32), exS D' S N K Tn sz kd f n L = exS D S N K Tn sz kd f n L
  | 0, _, _ => rfl
  | f + 1, n, L => by rw [exS, exS, opF_cong e, e 21 (by decide), exS_cong e S N K Tn sz kd f]
theorem rcD_cong (e : ∀ k, k < 22 → D' k = D k) (S : MI) (a b : Nat) : rcD D' S a b = rcD D S a b := by
  have h1 : zS D' = zS D := funext fun z => by unfold zS; rw [e 5 (by decide)]
  have h2 : kD D' = kD D := funext fun z => by unfold kD; rw [e 20 (by decide)]
  unfold rcD rck nN nK nT
  rw [h1, h2, e 0 (by decide), exS_cong e]
theorem opD_cong (e : ∀ k, k < 22 → D' k = D k) (S : MI) : opD D' S = opD D S := by
  have h1 : zS D' = zS D := funext fun z => by unfold zS; rw [e 5 (by decide)]
  funext k x
  unfold opD nN nK nT
  rw [h1, e 0 (by decide), opF_cong e]
theorem tdOK_cong (e : ∀ k, k < 22 → D' k = D k) (h : tdOK D) : tdOK D' := by
  unfold tdOK ordOK nC nN nT nK nO nZ zS kD oT oG oK oF oE oB at h ⊢
  unfold oE at h ⊢
  rw [e 0 (by decide), e 5 (by decide), e 19 (by decide), e 20 (by decide), e 14 (by decide), e 15 (by decide), e 16 (by decide), e 17 (by decide), e 18 (by decide)]
  exact h
theorem bkOK_cong (g : ∀ k, k < 11 → B' k = B k) (h : bkOK B) : bkOK B' := by
  unfold bkOK nC nN nT nK nO zR at h ⊢
  rw [g 0 (by decide), g 5 (by decide), g 2 (by decide), g 3 (by decide)]
  exact h
theorem relD_cong (e : ∀ k, k < 22 → D' k = D k) (g : ∀ k, k < 11 → B' k = B k) (h : relD D B ts es) : relD D' B' ts es := by
  obtain ⟨h1, h2, h3, h4, h5, h6, h7⟩ := h
  have hT : nT D ≤ 6 := h1.2.2.1.2
  have eC : nC D' = nC D := by unfold nC; rw [e 0 (by decide)]
  have eT : nT D' = nT D := by unfold nT; rw [e 0 (by decide)]
  have eK : nK D' = nK D := by unfold nK; rw [e 0 (by decide)]
  have eO : nO D' = nO D := by unfold nO; rw [e 0 (by decide)]
  refine ⟨tdOK_cong e h1, bkOK_cong g h2, ?_, ?_, ?_, ?_, ?_⟩
  · rw [g 0 (by decide), e 0 (by decide)]; exact h3
  · rw [eC, g 1 (by decide), e 1 (by decide)]; exact h4
  · rw [eT]
    intro a ha
    obtain ⟨a1, a2⟩ := h5 a ha
    have z1 : zR B' a = zR B a := by unfold zR; rw [g 5 (by decide)]
    have z2 : zS D' a = zS D a := by unfold zS; rw [e 5 (by decide)]
    rw [z1, z2, g 5 (by decide), e (7 + a) (by omega)]
    exact ⟨a1, a2⟩
  · rw [eK, g 6 (by decide), e 13 (by decide)]; exact h6
  · rw [eO]
    intro q hq
    obtain ⟨⟨a1, a2, a3⟩, b, c⟩ := h7 q hq
    have o1 : oT D' q = oT D q := by unfold oT; rw [e 14 (by decide)]
    have o2 : oG D' q = oG D q := by unfold oG; rw [e 15 (by decide)]
    have o3 : oK D' q = oK D q := by unfold oK; rw [e 16 (by decide)]
    have o4 : oF D' q = oF D q := by unfold oF; rw [e 17 (by decide)]
    have o5 : ∀ q, oE D' q = oE D q := fun q => by unfold oE; rw [e 18 (by decide)]
    have o6 : oB D' q = oB D q := by unfold oB; rw [o5]
    refine ⟨⟨?_, ?_, ?_⟩, ?_, orK_cong (g 0 (by decide)) (g 7 (by decide)) (g 8 (by decide)) (g 9 (by decide)) (g 10 (by decide)) c⟩
    · rw [o1, ← a1]; unfold rT; rw [g 7 (by decide)]
    · rw [o2, ← a2]; unfold rG; rw [g 7 (by decide)]
    · rw [o3, ← a3]; unfold rK; rw [g 7 (by decide)]
    · unfold orS at b ⊢
      rw [o1, o4, o5, o6]
      simp only [rcD_cong e, opD_cong e]
      exact b
theorem relS_cong {S : MI} {row : Nat → Int32} (e : D' 0 = D 0) (g2 : B' 2 = B 2) (g3 : B' 3 = B 3) (h : relS D S B row) : relS D' S B' row := by
  unfold relS nN nT nK at h ⊢
  rw [e, g2, g3]
  exact h
theorem dsT_cong (g0 : B' 0 = B 0) (g5 : B' 5 = B 5) (h : dsT B) : dsT B' := by
  unfold dsT nT zR at h ⊢
  rw [g0, g5]
  exact h
end DC
def RELI (I : MI) : Prop := ∃ ts es, relD (dv I) (bv I) ts es ∧ relS (dv I) (sv 20 I) (bv I) (I 91) ∧ dsT (bv I)
def sameW (I I' : MI) : Prop := (∀ a, 36 ≤ a → a < 58 → I' a = I a) ∧ (∀ a, 93 ≤ a → a < 104 → I' a = I a) ∧ (∀ a, 20 ≤ a → a < 28 → I' a = I a) ∧ I' 91 = I 91
theorem sv20_same {I I' : MI} (h : ∀ a, 20 ≤ a → a < 28 → I' a = I a) : sv 20 I' = sv 20 I := by
  funext k
  unfold sv
  split
  · exact h _ (by omega) (by omega)
  · rfl
theorem RELI.same {I I' : MI} (h : RELI I) (s : sameW I I') : RELI I' := by
  obtain ⟨ts, es, h1, h2, h3⟩ := h
  obtain ⟨s1, s2, s3, s4⟩ := s
  have e : ∀ k, k < 22 → dv I' k = dv I k := fun k hk => s1 (36 + k) (by omega) (by omega)
  have g : ∀ k, k < 11 → bv I' k = bv I k := fun k hk => s2 (93 + k) (by omega) (by omega)
  refine ⟨ts, es, relD_cong e g h1, ?_, dsT_cong (g 0 (by decide)) (g 5 (by decide)) h3⟩
  rw [s4, sv20_same s3]
  exact relS_cong (e 0 (by decide)) (g 2 (by decide)) (g 3 (by decide)) h2
def PTR (P : MP) : Prop := P 0 0 = some 36 ∧ P 0 1 = some 58 ∧ P 20 0 = some 36 ∧ P 80 8 = some 93 ∧ P 80 9 = some 104
def REL (I : MI) (J : MJ) (P : MP) : Prop := RELI I ∧ (∃ Tp L, tpO Tp L I ∧ rtO Tp L I) ∧ I 0 9 = I 80 3 ∧ PTR P ∧ kwO J
/-- what one call of the law must leave -/
def FIN (r5 r6 : Int32) (I : MI) (J : MJ) (P : MP) : Prop := I 80 0 = r5 ∧ (r5 = nI 0 → J 19 0 = r6.toInt64) ∧ REL I J P
