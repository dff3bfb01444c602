/-! Pure: both worlds, side by side; a month -/
def opD (D S : MI) : Nat → Int32 → Int32 := opF D S (nN D) (nK D) (nT D) (zS D)
/-- what an order of the class's code means -/
def orS (D : MI) (q : Nat) (ts : Option EX) (es : EX) : Prop := (oT D q = true → ∀ S, rcD D S (oB D q) (oF D q) = es (opD D S)) ∧ (ts = none → oF D q = oE D q) ∧ (∀ t, ts = some t → ¬ oF D q = oE D q ∧ ∀ S, rcD D S (oF D q) (oE D q) = t (opD D S))
/-- the told list and the book -/
def relD (D B : MI) (ts : Nat → Option EX) (es : Nat → EX) : Prop := tdOK D ∧ bkOK B ∧ (∀ i, i < 5 → B 0 i = D 0 i) ∧ (∀ k, k < nC D → B 1 k = D 1 k) ∧ (∀ a, a < nT D → zR B a = zS D a ∧ ∀ n, n < zS D a → D (7 + a) n = B 5 (9 * a + 1 + n)) ∧ (∀ k, k < nK D → B 6 k = D 13 k) ∧ ∀ q, q < nO D → (rT B q = oT D q ∧ rG B q = oG D q ∧ rK B q = oK D q) ∧ orS D q (ts q) (es q) ∧ orK B q (ts q) (es q)
/-- a state and a row -/
def relS (D S B : MI) (row : Nat → Int32) : Prop := (∀ k, k < nN D → S 1 k = B 2 k ∧ S 2 k = B 3 k ∧ S 3 k = row (3 + k) ∧ ∃ w, w ≤ 9999 ∧ row (3 + k) = nI w) ∧ lcl (B 3) (rv row) (S 4) (nN D) ∧ (∀ a, a < nT D → S 5 a = row (19 + a) ∧ ∃ w, w < 2 ^ 31 ∧ row (19 + a) = nI w) ∧ (∀ k, k < nK D → S 6 k = row (25 + k) ∧ S 7 k = row (30 + k)) ∧ (S 0 1 = row 0 ∧ S 0 2 = row 1 ∧ S 0 3 = row 2)
theorem chn_clo {u : Nat → Int32} {N : Nat} (hN : N ≤ 16) (h : ∀ k, k < N → chn u N 4 (nI k)) : clo u N := by
  refine ⟨hN, fun k hk => ?_⟩
  rcases h k hk with q | ⟨j, j1, j2, j3⟩
  · exact absurd q (m1_nI (by omega))
  · obtain rfl : k = j := eqN j2 (by omega) (by omega)
    rcases j3 with q | ⟨i, i1, i2, _⟩
    · exact Or.inl q
    · exact Or.inr ⟨i, i1, i2⟩
theorem aab_ext {u u' : Nat → Int32} {N : Nat} (hN : N ≤ 16) (e : ∀ k, k < N → u' k = u k) : ∀ (f : Nat) (c m : Int32) (s : Nat → Int32), aab u' N f c m s = aab u N f c m s
  | 0, _, _, _ => rfl
  | f + 1, c, m, s => by
    rw [aab, aab]
    by_cases h : has (nI N) c (nI 16) = true
    · rw [if_pos h, if_pos h]
      obtain ⟨j, j1, rfl⟩ := (has_t (by decide) hN).mp h
      rw [ix_n (by omega), e j j1]
      exact aab_ext hN e f _ _ _
    · rw [if_neg h, if_neg h]
section RE
variable {D S B : MI} {row : Nat → Int32} {ts : Nat → Option EX} {es : Nat → EX}
theorem relD.cnt (h : relD D B ts es) : nC B = nC D ∧ nN B = nN D ∧ nT B = nT D ∧ nK B = nK D ∧ nO B = nO D := by
  have e := h.2.2.1
  exact ⟨by show ix (B 0 0) = ix (D 0 0); rw [e 0 (by decide)], by show ix (B 0 1) = ix (D 0 1); rw [e 1 (by decide)], by show ix (B 0 2) = ix (D 0 2); rw [e 2 (by decide)], by show ix (B 0 3) = ix (D 0 3); rw [e 3 (by decide)], by show ix (B 0 4) = ix (D 0 4); rw [e 4 (by decide)]⟩
theorem relD.N16 (h : relD D B ts es) : nN D ≤ 16 := h.1.2.1.2
theorem relD.chn (h : relD D B ts es) {k : Nat} (hk : k < nN D) : chn (B 3) (nN D) 4 (nI k) := by
  have := h.2.1.2.2.2.2.2.2.1 k (by rw [h.cnt.2.1]; exact hk)
  rw [h.cnt.2.1] at this
  exact this
theorem relD.tal (h : relD D B ts es) {k : Nat} (hk : k < nN D) : tal (B 3) (nN D) 4 k := by
  have := h.2.1.2.2.2.2.2.2.2.1 k (by rw [h.cnt.2.1]; exact hk)
  rw [h.cnt.2.1] at this
  exact this
theorem relD.clo (h : relD D B ts es) : clo (B 3) (nN D) := chn_clo h.N16 (fun _ hk => h.chn hk)
theorem relS.sum (h : relD D B ts es) (hs : relS D S B row) {k : Nat} (hk : k < nN D) : S 4 k = smR (B 3) (rv row) (nN B) 4 k := by
  rw [h.cnt.2.1]
  exact lcl_sm hs.2.1 4 k hk (h.tal hk)
theorem relS.val (hs : relS D S B row) {k : Nat} (hk : k < nN D) : ∃ w, w ≤ 9999 ∧ rv row k = nI w := (hs.1 k hk).2.2.2
theorem relD.top (h : relD D B ts es) {a : Nat} (ha : a < nT D) : zS D a ≤ 8 ∧ ∀ n, n < zS D a → ∃ j, j < nN D ∧ D (7 + a) n = nI j ∧ B 5 (9 * a + 1 + n) = nI j := by
  obtain ⟨e1, e2⟩ := h.2.2.2.2.1 a ha
  obtain ⟨b1, b2, b3⟩ := h.2.1.2.2.2.2.2.1 a (by rw [h.cnt.2.2.1]; exact ha)
  rw [e1] at b2 b3
  refine ⟨b2, fun n hn => ?_⟩
  obtain ⟨j, j1, j2⟩ := b3 n hn
  rw [h.cnt.2.1] at j1
  exact ⟨j, j1, (e2 n hn).trans j2, j2⟩
theorem cn_eq (h : relD D B ts es) (hs : relS D S B row) {a : Nat} (ha : a < nT D) : cnb (nN D) (S 4) (D (7 + a)) (zS D a) = dueB B row a := by
  obtain ⟨t1, t2⟩ := h.top ha
  have hN := h.N16
  unfold cnb dueB dueR
  rw [(h.2.2.2.2.1 a ha).1]
  refine sumF_ext _ _ _ (fun n _ hn => ?_)
  obtain ⟨j, j1, j2, j3⟩ := t2 n (by omega)
  show (if has (nI (nN D)) (D (7 + a) n) (nI 16) then S 4 (ix (D (7 + a) n)) else nI 0) = smR (B 3) (rv row) (nN B) 4 (ix (B 5 (9 * a + 1 + n)))
  rw [j2, j3, if_pos (has_j j1 (by decide) hN), ix_n (by omega)]
  exact hs.sum h j1
theorem due_n (h : relD D B ts es) (hs : relS D S B row) {a : Nat} (ha : a < nT D) : ∃ w, w < 2 ^ 31 ∧ dueB B row a = nI w := by
  obtain ⟨t1, t2⟩ := h.top ha
  have hN := h.N16
  obtain ⟨w, w1, w2⟩ := sumF_n (f := fun n => smR (B 3) (rv row) (nN B) 4 (ix (B 5 (9 * a + 1 + n)))) (B := 43685631) (zS D a) 0 0 (fun n _ hn => by
    obtain ⟨j, j1, j2, j3⟩ := t2 n (by omega)
    obtain ⟨w, w1, w2⟩ := smR_4 (u := B 3) (v := rv row) hN (fun k hk => hs.val hk) j1
    refine ⟨w, w1, ?_⟩
    show smR (B 3) (rv row) (nN B) 4 (ix (B 5 (9 * a + 1 + n))) = _
    rw [j3, ix_n (by omega), h.cnt.2.1]
    exact w2)
  refine ⟨w, ?_, ?_⟩
  · have : zS D a * 43685631 ≤ 8 * 43685631 := Nat.mul_le_mul_right _ t1
    omega
  · unfold dueB dueR
    rw [(h.2.2.2.2.1 a ha).1]
    exact w2
/-- what code asks of a state -/
def evA (B : MI) (ev ev' : Nat → Int32 → Int32) : Prop := ev 16 (nI 0) = ev' 16 (nI 0) ∧ ∀ k j, 17 ≤ k → k ≤ 22 → j < (if k ≤ 19 then nN B else if k = 21 then nK B else nT B) → ev k (nI j) = ev' k (nI j)
theorem dn_ev {ev ev' : Nat → Int32 → Int32} (h : evA B ev ev') : ∀ (f : Nat) (s : Bool) (n : Nat) (E : EX), dn B f s n E → E ev = E ev' := by
  intro f
  induction f with
  | zero => exact fun s n E q => absurd q id
  | succ f ih =>
    intro s n E q
    obtain ⟨-, q⟩ := q
    cases s with
    | true =>
      rw [if_pos rfl] at q
      rcases q with ⟨-, rfl⟩ | ⟨-, rfl⟩ | ⟨k, j, k1, k2, -, -, k3, rfl⟩ | ⟨j, E1, -, -, d1, rfl⟩ | ⟨k, c, i, j, E1, E2, -, -, -, -, d1, d2, rfl⟩
      · rfl
      · exact h.1
      · refine h.2 k j k1 (by omega) ?_
        by_cases c : k ≤ 19
        · rw [if_pos c] at k3 ⊢; exact k3
        · rw [if_neg c] at k3 ⊢
          by_cases c2 : k = 20
          · rw [if_pos c2] at k3; rw [if_neg (by omega)]; exact k3
          · rw [if_neg c2] at k3; rw [if_pos (by omega)]; exact k3
      · show -(E1 ev) = -(E1 ev')
        rw [ih _ _ _ d1]
      · show joF k (E1 ev) (E2 ev) = joF k (E1 ev') (E2 ev')
        rw [ih _ _ _ d1, ih _ _ _ d2]
    | false =>
      rw [if_neg (by decide)] at q
      rcases q with ⟨j, -, -, j3, rfl⟩ | ⟨j, E1, -, -, d1, rfl⟩ | ⟨k, i, j, E1, E2, -, -, -, -, d1, d2, rfl⟩ | ⟨k, c, i, j, E1, E2, -, -, -, -, d1, d2, rfl⟩
      · exact h.2 22 j (by decide) (by decide) (by rw [if_neg (by decide), if_neg (by decide)]; exact j3)
      · show nI 1 - E1 ev = nI 1 - E1 ev'
        rw [ih _ _ _ d1]
      · show joF k (E1 ev) (E2 ev) = joF k (E1 ev') (E2 ev')
        rw [ih _ _ _ d1, ih _ _ _ d2]
      · show joF k (E1 ev) (E2 ev) = joF k (E1 ev') (E2 ev')
        rw [ih _ _ _ d1, ih _ _ _ d2]
theorem ev_eq (h : relD D B ts es) (hs : relS D S B row) : evA B (opD D S) (evR B row) := by
  obtain ⟨c0, c1, c2, c3, c4⟩ := h.cnt
  have hN := h.N16
  have hT : nT D ≤ 6 := h.1.2.2.1.2
  have hK : nK D ≤ 5 := h.1.2.2.2.1.2
  refine ⟨hs.2.2.2.2.1, fun k j k1 k2 hj => ?_⟩
  rw [c1, c2, c3] at hj
  rcases (show k = 17 ∨ k = 18 ∨ k = 19 ∨ k = 20 ∨ k = 21 ∨ k = 22 by omega) with rfl | rfl | rfl | rfl | rfl | rfl
  · have hj : j < nN D := hj
    show (if has (nI (nN D)) (nI j) (nI 16) then S 3 (ix (nI j)) else nI 0) = row (3 + ix (nI j))
    rw [if_pos (has_j hj (by decide) hN), ix_n (by omega)]
    exact (hs.1 j hj).2.2.1
  · have hj : j < nN D := hj
    show (if has (nI (nN D)) (nI j) (nI 16) then S 4 (ix (nI j)) else nI 0) = smR (B 3) (rv row) (nN B) 4 (ix (nI j))
    rw [if_pos (has_j hj (by decide) hN), ix_n (by omega)]
    exact hs.sum h hj
  · have hj : j < nN D := hj
    show (if has (nI (nN D)) (nI j) (nI 16) then kno (S 3 (ix (nI j))) else nI 0) = knR (row (3 + ix (nI j)))
    rw [if_pos (has_j hj (by decide) hN), ix_n (by omega)]
    obtain ⟨-, -, e, w, w1, w2⟩ := hs.1 j hj
    rw [e, w2, kn_eq (by omega)]
  · have hj : j < nT D := hj
    show (if has (nI (nT D)) (nI j) (nI 6) then S 5 (ix (nI j)) else nI 0) = row (19 + ix (nI j))
    rw [if_pos (has_j hj (by decide) hT), ix_n (by omega)]
    exact (hs.2.2.1 j hj).1
  · have hj : j < nK D := hj
    show (if has (nI (nK D)) (nI j) (nI 5) then S 6 (ix (nI j)) else nI 0) = row (25 + ix (nI j))
    rw [if_pos (has_j hj (by decide) hK), ix_n (by omega)]
    exact (hs.2.2.2.1 j hj).1
  · have hj : j < nT D := hj
    show (if has (nI (nT D)) (nI j) (nI 6) then b2i (wrgB (S 5 (ix (nI j))) (cnb (nN D) (S 4) (D (7 + ix (nI j))) (zS D (ix (nI j))))) else nI 0) = b2i (wrgB (row (19 + ix (nI j))) (dueB B row (ix (nI j))))
    rw [if_pos (has_j hj (by decide) hT), ix_n (by omega), cn_eq h hs hj, (hs.2.2.1 j hj).1]
/-- what is carried out -/
def tdR (row : Nat → Int32) (cr x : Int32) (kk : Nat) : Int32 := if tooB (row (25 + kk)) cr then x - rem10 x else x
def obQ (row : Nat → Int32) (p kk : Nat) (y : Int32) : Nat → Int32 := upd (upd (upd (upd row p y) (25 + kk) (row (25 + kk) + (nI 1 + knR y / nI 4))) (30 + kk) (row (30 + kk) + nI 1)) 1 (row 1 + nI 1)
theorem obR_Q {row : Nat → Int32} {cr x : Int32} {tie : Bool} {tg kk : Nat} (ht : if tie then tg < 16 else tg < 6) (hk : kk < 5) : obR row cr tie tg kk x = obQ row (if tie then 3 + tg else 19 + tg) kk (tdR row cr x kk) := by
  unfold obR obQ tdR
  have hp : ∃ p, p = (if tie then 3 + tg else 19 + tg) ∧ p ≠ 25 + kk ∧ p ≠ 30 + kk ∧ p ≠ 1 := by
    refine ⟨_, rfl, ?_⟩
    cases tie with
    | true => rw [if_pos rfl] at ht; exact ⟨by show 3 + tg ≠ _; omega, by show 3 + tg ≠ _; omega, by show 3 + tg ≠ _; omega⟩
    | false => rw [if_neg (by decide)] at ht; exact ⟨by show 19 + tg ≠ _; omega, by show 19 + tg ≠ _; omega, by show 19 + tg ≠ _; omega⟩
  obtain ⟨p, e, p1, p2, p3⟩ := hp
  rw [← e]
  rw [upd_n (f := row) (show 25 + kk ≠ p from fun q => p1 q.symm), upd_n (k := 25 + kk) (show 30 + kk ≠ 25 + kk by omega), upd_n (f := row) (show 30 + kk ≠ p from fun q => p2 q.symm), upd_n (k := 30 + kk) (show 1 ≠ 30 + kk by omega), upd_n (k := 25 + kk) (show 1 ≠ 25 + kk by omega), upd_n (f := row) (show 1 ≠ p from fun q => p3 q.symm)]
theorem cl_n (x : Int32) : ∃ w, w ≤ 9999 ∧ clF x = nI w := by
  unfold clF
  by_cases h : x < nI 9999
  · rw [if_pos h]
    by_cases h0 : nI 0 < x
    · rw [if_pos h0]
      obtain ⟨j, j1, rfl⟩ := nI_of (x := x) (fun q => absurd (Int32.lt_trans q h0) (Int32.lt_irrefl))
      have := ltN h j1 (by decide)
      exact ⟨j, by omega, rfl⟩
    · rw [if_neg h0]
      exact ⟨0, by decide, rfl⟩
  · rw [if_neg h, if_pos (by decide)]
    exact ⟨9999, Nat.le_refl _, rfl⟩
theorem td_n {x cr : Int32} {kk w M : Nat} (hw : w ≤ M) (hM : M < 2 ^ 31) (hx : x = nI w) : ∃ y, y ≤ M ∧ tdR row cr x kk = nI y := by
  subst hx
  unfold tdR
  by_cases c : tooB (row (25 + kk)) cr = true
  · rw [if_pos c, rem10_n (by omega), pk_sub (Nat.mod_le _ _)]
    exact ⟨w - w % 10, by omega, rfl⟩
  · rw [if_neg c]
    exact ⟨w, hw, rfl⟩
theorem rv_tie {tg kk : Nat} {y : Int32} (ht : tg < 16) (hk : kk < 5) : ∀ k, k < 16 → rv (obQ row (3 + tg) kk y) k = upd (rv row) tg y k := by
  intro k hk'
  show obQ row (3 + tg) kk y (3 + k) = _
  unfold obQ
  rw [upd_n (by omega), upd_n (by omega), upd_n (by omega)]
  by_cases e : k = tg
  · subst e; rw [upd_s, upd_s]
  · rw [upd_n (by omega), upd_n e]; rfl
theorem lcl_ext {u v v' s s' : Nat → Int32} {N : Nat} (h : lcl u v s N) (e : ∀ k, k < N → v' k = v k) (e2 : ∀ k, k < N → s' k = s k) : lcl u v' s' N := by
  intro k hk
  rw [e2 k hk, e k hk, h k hk]
  refine sumF_ext _ _ _ (fun j _ hj => ?_)
  show (if u j = nI k then s j else nI 0) = (if u j = nI k then s' j else nI 0)
  rw [e2 j (by omega)]
theorem rel_tie (h : relD D B ts es) (hs : relS D S B row) {tg kk w : Nat} (ht : tg < nN D) (hk : kk < nK D) (hw : w ≤ 9999) : relS D (setRow (setRow (setRow (putS S (nN D) true tg (nI w)) 6 (upd (S 6) kk (S 6 kk + (nI 1 + kno (nI w) / nI 4)))) 7 (upd (S 7) kk (S 7 kk + nI 1))) 0 (upd (S 0) 2 (S 0 2 + nI 1))) B (obQ row (3 + tg) kk (nI w)) := by
  have hN := h.N16
  have hT : nT D ≤ 6 := h.1.2.2.1.2
  have hK : nK D ≤ 5 := h.1.2.2.2.1.2
  obtain ⟨s1, s2, s3, s4, s5, s6, s7⟩ := hs
  have hv := rv_tie (row := row) (tg := tg) (kk := kk) (y := nI w) (by omega) (by omega)
  refine ⟨fun k hk' => ?_, ?_, fun a ha => ?_, fun k hk' => ?_, ?_, ?_, ?_⟩
  · obtain ⟨a1, a2, a3, a4⟩ := s1 k hk'
    have e3 := hv k (by omega)
    refine ⟨by simp [setRow, putS]; exact a1, by simp [setRow, putS]; exact a2, ?_, ?_⟩
    · show _ = rv (obQ row (3 + tg) kk (nI w)) k
      rw [e3]
      have e9 : setRow (setRow (setRow (putS S (nN D) true tg (nI w)) 6 (upd (S 6) kk (S 6 kk + (nI 1 + kno (nI w) / nI 4)))) 7 (upd (S 7) kk (S 7 kk + nI 1))) 0 (upd (S 0) 2 (S 0 2 + nI 1)) 3 = upd (S 3) tg (nI w) := by simp [setRow, putS]
      rw [e9]
      by_cases e : k = tg
      · subst e; rw [upd_s, upd_s]
      · rw [upd_n e, upd_n e]; exact a3
    · show ∃ w', w' ≤ 9999 ∧ rv (obQ row (3 + tg) kk (nI w)) k = nI w'
      rw [e3]
      by_cases e : k = tg
      · subst e; exact ⟨w, hw, upd_s⟩
      · rw [upd_n e]; exact a4
  · have e4 : setRow (setRow (setRow (putS S (nN D) true tg (nI w)) 6 (upd (S 6) kk (S 6 kk + (nI 1 + kno (nI w) / nI 4)))) 7 (upd (S 7) kk (S 7 kk + nI 1))) 0 (upd (S 0) 2 (S 0 2 + nI 1)) 4 = aab (S 2) (nN D) 4 (nI tg) (nI w - S 3 tg) (S 4) := by simp [setRow, putS]
    rw [e4, aab_ext (u := B 3) hN (fun k hk' => (s1 k hk').2.1), (s1 tg ht).2.2.1]
    exact lcl_ext (lcl_tie s2 h.clo ht (h.chn ht)) (fun k hk' => hv k (by omega)) (fun k _ => rfl)
  · obtain ⟨a1, a2⟩ := s3 a ha
    have e : obQ row (3 + tg) kk (nI w) (19 + a) = row (19 + a) := by unfold obQ; rw [upd_n (by omega), upd_n (by omega), upd_n (by omega), upd_n (by omega)]
    rw [e]
    exact ⟨by simp [setRow, putS]; exact a1, a2⟩
  · obtain ⟨a1, a2⟩ := s4 k hk'
    have e6 : setRow (setRow (setRow (putS S (nN D) true tg (nI w)) 6 (upd (S 6) kk (S 6 kk + (nI 1 + kno (nI w) / nI 4)))) 7 (upd (S 7) kk (S 7 kk + nI 1))) 0 (upd (S 0) 2 (S 0 2 + nI 1)) 6 = upd (S 6) kk (S 6 kk + (nI 1 + kno (nI w) / nI 4)) := by simp [setRow]
    have e7 : setRow (setRow (setRow (putS S (nN D) true tg (nI w)) 6 (upd (S 6) kk (S 6 kk + (nI 1 + kno (nI w) / nI 4)))) 7 (upd (S 7) kk (S 7 kk + nI 1))) 0 (upd (S 0) 2 (S 0 2 + nI 1)) 7 = upd (S 7) kk (S 7 kk + nI 1) := by simp [setRow]
    rw [e6, e7, kn_eq (by omega), (s4 kk hk).1, (s4 kk hk).2]
    unfold obQ
    by_cases e : k = kk
    · subst e
      rw [upd_s, upd_s, upd_n (by omega), upd_n (by omega), upd_s, upd_n (by omega), upd_s]
      exact ⟨rfl, rfl⟩
    · rw [upd_n e, upd_n e, upd_n (by omega), upd_n (by omega), upd_n (by omega), upd_n (by omega), upd_n (by omega), upd_n (by omega), upd_n (by omega), upd_n (by omega)]
      exact ⟨a1, a2⟩
  · unfold obQ
    rw [upd_n (by decide), upd_n (by omega), upd_n (by omega), upd_n (by omega), setRow_s, upd_n (by decide)]
    exact s5
  · unfold obQ
    rw [upd_s, setRow_s, upd_s, s6]
  · unfold obQ
    rw [upd_n (by decide), upd_n (by omega), upd_n (by omega), upd_n (by omega), setRow_s, upd_n (by decide)]
    exact s7
theorem rel_tally (h : relD D B ts es) (hs : relS D S B row) {tg kk w : Nat} (ht : tg < nT D) (hk : kk < nK D) (hw : w < 2 ^ 31) : relS D (setRow (setRow (setRow (putS S (nN D) false tg (nI w)) 6 (upd (S 6) kk (S 6 kk + (nI 1 + kno (nI w) / nI 4)))) 7 (upd (S 7) kk (S 7 kk + nI 1))) 0 (upd (S 0) 2 (S 0 2 + nI 1))) B (obQ row (19 + tg) kk (nI w)) := by
  have hN := h.N16
  have hT : nT D ≤ 6 := h.1.2.2.1.2
  have hK : nK D ≤ 5 := h.1.2.2.2.1.2
  obtain ⟨s1, s2, s3, s4, s5, s6, s7⟩ := hs
  have hv : ∀ k, k < 16 → obQ row (19 + tg) kk (nI w) (3 + k) = row (3 + k) := fun k hk' => by unfold obQ; rw [upd_n (by omega), upd_n (by omega), upd_n (by omega), upd_n (by omega)]
  refine ⟨fun k hk' => ?_, ?_, fun a ha => ?_, fun k hk' => ?_, ?_, ?_, ?_⟩
  · rw [hv k (by omega)]
    obtain ⟨a1, a2, a3, a4⟩ := s1 k hk'
    exact ⟨by simp [setRow, putS]; exact a1, by simp [setRow, putS]; exact a2, by simp [setRow, putS]; exact a3, a4⟩
  · have e4 : setRow (setRow (setRow (putS S (nN D) false tg (nI w)) 6 (upd (S 6) kk (S 6 kk + (nI 1 + kno (nI w) / nI 4)))) 7 (upd (S 7) kk (S 7 kk + nI 1))) 0 (upd (S 0) 2 (S 0 2 + nI 1)) 4 = S 4 := by simp [setRow, putS]
    rw [e4]
    exact lcl_ext s2 (fun k hk' => hv k (by omega)) (fun k _ => rfl)
  · obtain ⟨a1, a2⟩ := s3 a ha
    have e5 : setRow (setRow (setRow (putS S (nN D) false tg (nI w)) 6 (upd (S 6) kk (S 6 kk + (nI 1 + kno (nI w) / nI 4)))) 7 (upd (S 7) kk (S 7 kk + nI 1))) 0 (upd (S 0) 2 (S 0 2 + nI 1)) 5 = upd (S 5) tg (nI w) := by simp [setRow, putS]
    rw [e5]
    unfold obQ
    by_cases e : a = tg
    · subst e
      rw [upd_s, upd_n (by omega), upd_n (by omega), upd_n (by omega), upd_s]
      exact ⟨rfl, w, hw, rfl⟩
    · rw [upd_n e, upd_n (by omega), upd_n (by omega), upd_n (by omega), upd_n (by omega)]
      exact ⟨a1, a2⟩
  · obtain ⟨a1, a2⟩ := s4 k hk'
    have e6 : setRow (setRow (setRow (putS S (nN D) false tg (nI w)) 6 (upd (S 6) kk (S 6 kk + (nI 1 + kno (nI w) / nI 4)))) 7 (upd (S 7) kk (S 7 kk + nI 1))) 0 (upd (S 0) 2 (S 0 2 + nI 1)) 6 = upd (S 6) kk (S 6 kk + (nI 1 + kno (nI w) / nI 4)) := by simp [setRow]
    have e7 : setRow (setRow (setRow (putS S (nN D) false tg (nI w)) 6 (upd (S 6) kk (S 6 kk + (nI 1 + kno (nI w) / nI 4)))) 7 (upd (S 7) kk (S 7 kk + nI 1))) 0 (upd (S 0) 2 (S 0 2 + nI 1)) 7 = upd (S 7) kk (S 7 kk + nI 1) := by simp [setRow]
    rw [e6, e7, kn_eq (by omega), (s4 kk hk).1, (s4 kk hk).2]
    unfold obQ
    by_cases e : k = kk
    · subst e
      rw [upd_s, upd_s, upd_n (by omega), upd_n (by omega), upd_s, upd_n (by omega), upd_s]
      exact ⟨rfl, rfl⟩
    · rw [upd_n e, upd_n e, upd_n (by omega), upd_n (by omega), upd_n (by omega), upd_n (by omega), upd_n (by omega), upd_n (by omega), upd_n (by omega), upd_n (by omega)]
      exact ⟨a1, a2⟩
  · unfold obQ
    rw [upd_n (by decide), upd_n (by omega), upd_n (by omega), upd_n (by omega), setRow_s, upd_n (by decide)]
    exact s5
  · unfold obQ
    rw [upd_s, setRow_s, upd_s, s6]
  · unfold obQ
    rw [upd_n (by decide), upd_n (by omega), upd_n (by omega), upd_n (by omega), setRow_s, upd_n (by decide)]
    exact s7
theorem rel_cong {S' : MI} (e : S = S') (h : relS D S' B row) : relS D S B row := e ▸ h
/-- one order -/
theorem rel_ord (h : relD D B ts es) (hs : relS D S B row) {q : Nat} (hq : q < nO D) : relS D (if oF D q = oE D q ∨ ¬ rcD D S (oF D q) (oE D q) = 0 then crD D S q (rcD D S (oB D q) (oF D q)) else S) B (ob1 B (ts q) (es q) row q) := by
  obtain ⟨⟨e1, e2, e3⟩, ⟨o1, o2, o3⟩, k1, k2, k3, k4, k5, k6⟩ := h.2.2.2.2.2.2 q hq
  have hEv := ev_eq h hs
  have hN := h.N16
  have hK : nK D ≤ 5 := h.1.2.2.2.1.2
  have hT : nT D ≤ 6 := h.1.2.2.1.2
  obtain ⟨c0, c1, c2, c3, c4⟩ := h.cnt
  have hcond : (oF D q = oE D q ∨ ¬ rcD D S (oF D q) (oE D q) = 0) ↔ tsB B row (ts q) = true := by
    cases ht : ts q with
    | none => exact ⟨fun _ => rfl, fun _ => Or.inl (o2 ht)⟩
    | some t =>
      obtain ⟨u1, u2⟩ := o3 t ht
      rw [ht] at k5
      obtain ⟨n, n1, n2⟩ := k5
      rw [u2 S, dn_ev hEv _ _ _ _ n2]
      show _ ↔ (!decide (t (evR B row) = 0)) = true
      by_cases z : t (evR B row) = 0
      · rw [decide_eq_true z]
        exact ⟨fun r => r.elim (fun w => absurd w u1) (fun w => absurd z w), fun r => Bool.noConfusion r⟩
      · rw [decide_eq_false z]
        exact ⟨fun _ => rfl, fun _ => Or.inr z⟩
  unfold ob1
  by_cases hc : tsB B row (ts q) = true
  · rw [if_pos (hcond.mpr hc), if_pos hc, e1, e2, e3]
    rw [e1, e2, c1, c2] at k2
    rw [e3, c3] at k4
    have e6 : B 6 (oK D q) = D 13 (oK D q) := h.2.2.2.2.2.1 _ k4
    have t6 := (hs.2.2.2.1 (oK D q) k4).1
    rw [e6]
    unfold crD crS
    cases hti : oT D q with
    | true =>
      rw [hti, if_pos rfl] at k2
      obtain ⟨n, n1, n2⟩ := k6 (e1.trans hti)
      have ex : rcD D S (oB D q) (oF D q) = es q (evR B row) := (o1 hti S).trans (dn_ev hEv _ _ _ _ n2)
      obtain ⟨w, w1, w2⟩ := cl_n (es q (evR B row))
      obtain ⟨y, y1, y2⟩ := td_n (row := row) (cr := D 13 (oK D q)) (kk := oK D q) w1 (by decide) w2
      have ey : tdF D S (nN D) (zS D) true (oG D q) (oK D q) (rcD D S (oB D q) (oF D q)) = nI y := by
        rw [← y2, ex]
        unfold tdF tdR
        rw [if_pos rfl, t6]
      rw [obR_Q (by rw [if_pos rfl]; omega) (by omega), if_pos rfl, if_pos rfl, y2, ey]
      have e7 := rel_tie h hs k2 k4 y1
      exact rel_cong (by simp [setRow, putS]) e7
    | false =>
      rw [hti, if_neg (by decide)] at k2
      obtain ⟨w, w1, w2⟩ := due_n h hs k2
      obtain ⟨y, y1, y2⟩ := td_n (row := row) (cr := D 13 (oK D q)) (kk := oK D q) (M := 2 ^ 31 - 1) (w := w) (by omega) (by decide) w2
      have ey : tdF D S (nN D) (zS D) false (oG D q) (oK D q) (rcD D S (oB D q) (oF D q)) = nI y := by
        rw [← y2]
        unfold tdF tdR
        simp only [if_neg (show ¬ (false = true) by decide)]
        rw [t6, cn_eq h hs k2]
      rw [obR_Q (by rw [if_neg (by decide)]; omega) (by omega), if_neg (by decide), if_neg (by decide), y2, ey]
      have e7 := rel_tally h hs k2 k4 (show y < 2 ^ 31 by omega)
      exact rel_cong (by simp [setRow, putS]) e7
  · rw [if_neg (fun r => hc (hcond.mp r)), if_neg hc]
    exact hs
end RE
