/-! The law: what each of its calls leaves -/
section PM
variable {D S S' : MI}
theorem cr_02 {q : Nat} {x : Int32} : crD D S q x 0 2 = S 0 2 + nI 1 := by
  unfold crD crS
  rw [setRow_s, upd_s]
theorem lo_02 : ∀ (f q : Nat) (S : MI), ∃ j, j ≤ f ∧ loF D f q S 0 2 = S 0 2 + nI j
  | 0, q, S => ⟨0, Nat.le_refl _, (add0 _).symm⟩
  | f + 1, q, S => by
    rw [loF]
    obtain ⟨j, j1, j2⟩ := lo_02 f (q + 1) (if oF D q = oE D q ∨ ¬ rcD D S (oF D q) (oE D q) = 0 then crD D S q (rcD D S (oB D q) (oF D q)) else S)
    rw [j2]
    split
    · rw [cr_02, Int32.add_assoc, nI_add]
      exact ⟨1 + j, by omega, rfl⟩
    · exact ⟨j, by omega, rfl⟩
theorem em_02 {N K : Nat} : emS D S N K 0 2 = S 0 2 := by
  unfold emS
  rw [setRow_s, upd_n (by decide)]
  split
  · unfold mothS
    split
    · rw [setRow_o (by decide)]
    · rw [setRow_s, upd_n (by decide), setRow_o (by decide)]
  · rw [setRow_o (by decide)]
theorem ps_02 (hO : nO D ≤ 20) : ∀ (n : Nat) (S : MI), ∃ j, j ≤ 20 * n ∧ psF D n S 0 2 = S 0 2 + nI j
  | 0, S => ⟨0, Nat.le_refl _, (add0 _).symm⟩
  | n + 1, S => by
    rw [psF]
    obtain ⟨j, j1, j2⟩ := ps_02 hO n (emS D (loF D (nO D) 0 S) (nN D) (nK D))
    obtain ⟨i, i1, i2⟩ := lo_02 (D := D) (nO D) 0 S
    rw [j2, em_02, i2, Int32.add_assoc, nI_add]
    exact ⟨i + j, by omega, rfl⟩
theorem eqS.wr (e : eqS D S S') (hD : tdOK D) : wrC D S' = wrC D S := sumF_ext _ _ _ (fun i _ hi => by
  show b2i (wrgB (S' 5 i) (_root_.Jvm.Pilot.CQuipuKeepersLaw_law_r5021_b5b9ac.cnb (nN D) (S' 4) (D (7 + i)) (zS D i))) = _
  rw [e.2.1 i (by omega), e.cn hD])
theorem eqS.six (e : eqS D S S') (k : Nat) : eqS D (setRow S 6 (upd (S 6) k (nI 0))) (setRow S' 6 (upd (S' 6) k (nI 0))) := by
  refine e.rows (fun a a1 a2 => setRow_o (by omega)) (fun a a1 a2 => setRow_o (by omega)) (fun j hj => ?_) ?_
  · rw [setRow_s, setRow_s, setRow_o (by decide), setRow_o (by decide)]
    refine ⟨?_, (e.2.2.1 j hj).2⟩
    by_cases c : j = k
    · subst c
      rw [upd_s, upd_s]
    · rw [upd_n c, upd_n c]
      exact (e.2.2.1 j hj).1
  · rw [setRow_o (by decide), setRow_o (by decide)]
    exact e.2.2.2
end PM
section LX
variable {I I' : MI} {J : MJ} {P : MP} {T0 C0 d : Nat} {Q : Int32 → MI → MJ → MP → Prop}
theorem LW.of {P' : MP} {T1 C1 : Nat} (h : LW I P T0 C0) (e : dv I' = dv I) (hs : okS (dv I) (sv 20 I') T1 C1) (p1 : P' 20 0 = some 36) (p2 : P' 0 0 = some 36) : LW I' P' T1 C1 := by
  unfold LW
  rw [e]
  exact ⟨p1, p2, h.2.2.1, h.2.2.2.1, hs⟩
theorem LW.out (h : LW I P T0 C0) (o : out28 I I') : LW I' (up2 P 28 0 (some 36)) T0 C0 := by
  refine h.of o.dv ?_ ?_ ?_
  · have e : sv 20 I' = sv 20 I := funext fun k => by
      unfold sv
      split
      · exact o _ (by omega) (by omega) (by omega)
      · rfl
    rw [e]
    exact h.2.2.2.2
  · rw [up2_o (by decide)]; exact h.1
  · rw [up2_o (by decide)]; exact h.2.1
theorem LW.le {T1 C1 : Nat} (h : LW I P T0 C0) (hT : T0 ≤ T1) (hC : C0 ≤ C1) : LW I P T1 C1 := ⟨h.1, h.2.1, h.2.2.1, h.2.2.2.1, h.2.2.2.2.le hT hC⟩
theorem qset (h : LW I P T0 C0) {a w : Nat} (ha : a < 5) (hw : w < 10000) (hQ : ∀ r I', LW I' P T0 C0 → I' 20 = I 20 → Q r I' J P) : Sp yX10_set cX10_set 4 (some .int) (d + 8) [.ref 0, .int (nI a), .int (nI w)] I J P (Qi Q) := by
  obtain ⟨hT, h0, hD, ⟨-, eN, -, -⟩, hS⟩ := id h
  refine sp_X10_set hT h0 hD.1 (fun a' w' a1 w1 e1 e2 => ?_) (fun q => q ⟨a, by omega, rfl⟩) (fun _ q => q ⟨w, by omega, rfl⟩)
  obtain rfl : a = a' := eqN e1 (by omega) (by omega)
  refine hQ _ _ (h.of ?_ ?_ hT h0) ?_
  · rw [dv_oth (by decide), dv_oth (by decide)]
  · have e : sv 20 (setRow (setRow I 23 (upd (I 23) a (nI w))) 24 (aab (I 22) (nN (dv I)) 4 (nI a) (nI w - I 23 a) (I 24))) = putS (sv 20 I) (nN (dv I)) true a (nI w) :=
      (sv_row (o := 20) (j := 4) (by decide)).trans (congrArg (fun X => setRow X 4 (aab (I 22) (nN (dv I)) 4 (nI a) (nI w - I 23 a) (I 24))) (sv_row (o := 20) (j := 3) (by decide)))
    rw [e]
    exact hS.put hD.1 (by omega) (by omega)
  · rw [setRow_o (by decide), setRow_o (by decide)]
theorem qrest (h : LW I P T0 C0) {a : Nat} (ha : a < 2) (hQ : ∀ r I', LW I' P T0 C0 → I' 20 = I 20 → Q r I' J P) : Sp yX10_rest cX10_rest 3 (some .int) (d + 8) [.ref 0, .int (nI a)] I J P (Qi Q) := by
  obtain ⟨hT, h0, hD, ⟨-, -, -, eK⟩, hS⟩ := id h
  refine sp_X10_rest hT h0 hD.1 (fun a' a1 e1 => ?_) (fun q => q ⟨a, by omega, rfl⟩)
  obtain rfl : a = a' := eqN e1 (by omega) (by omega)
  refine hQ _ _ (h.of ?_ ?_ hT h0) (up2_o (by decide))
  · funext k
    exact up2_o (by omega)
  · rw [show up2 I 26 a (nI 0) = up2 I (20 + 6) a (nI 0) from rfl, sv_up (by decide)]
    exact hS.rest
theorem qdye (h : LW I P T0 C0) {a b : Nat} (ha : a < 5) (hb : b < 3) (hQ : ∀ r I', LW I' P T0 C0 → I' 20 = I 20 → Q r I' J P) : Sp yX10_dye cX10_dye 4 (some .int) (d + 8) [.ref 0, .int (nI a), .int (nI b)] I J P (Qi Q) := by
  obtain ⟨hT, h0, hD, ⟨eC, eN, -, -⟩, hS⟩ := id h
  refine sp_X10_dye hT h0 hD.1 (fun a' b' a1 b1 e1 e2 => ?_) (fun q => q ⟨⟨a, by omega, rfl⟩, b, by omega, rfl⟩)
  obtain rfl : a = a' := eqN e1 (by omega) (by omega)
  refine hQ _ _ (h.of ?_ ?_ hT h0) (up2_o (by decide))
  · funext k
    exact up2_o (by omega)
  · rw [show up2 I 21 a (nI b) = up2 I (20 + 1) a (nI b) from rfl, sv_up (by decide)]
    exact hS.dye (by omega)
theorem qhang (h : LW I P T0 C0) {a : Nat} {y : Int32} (ha : a < 5) (hy : isU 5 y) (hw : wth (I 22) 5 (nI a) 4 y = false) (hd : dep (I 22) 5 4 y + rch (I 22) 5 4 a ≤ 4) (hQ : ∀ I', LW I' P T0 C0 → I' 20 = I 20 → I' 22 a = y → Q (nI (dep (I' 22) 5 4 (nI a))) I' J P) : Sp yX10_hang cX10_hang 3 (some .int) (d + 8) [.ref 0, .int (nI a), .int y] I J P (Qi Q) := by
  obtain ⟨hT, h0, hD, ⟨-, eN, -, -⟩, hS⟩ := id h
  have hl : nI (dep (I 22) (nN (dv I)) 4 y) + (nI (hmx (I 22) (nN (dv I)) (nI a) (nN (dv I)) 0 0) - nI (dep (I 22) (nN (dv I)) 4 (nI a)) + nI 1) ≤ nI 4 := by
    rw [eN, hang_le h.clo h.hch ha]
    exact nI_le hd (by decide)
  rw [← eN] at hy hw hd
  refine sp_X10_hang hT h0 hD.1 (fun a' a1 e1 _ _ _ => ?_) (fun q => q ⟨⟨a, by omega, rfl⟩, hy⟩) (fun _ _ q => q.elim (fun r => by rw [hw] at r; cases r) (fun r => r.2 hl))
  obtain rfl : a = a' := eqN e1 (by omega) (by omega)
  have e2 : setRow (setRow (setRow I 24 (aab (I 22) (nN (dv I)) 4 (I 22 a) (-(I 24 a)) (I 24))) 22 (upd (I 22) a y)) 24 (aab (upd (I 22) a y) (nN (dv I)) 4 y (aab (I 22) (nN (dv I)) 4 (I 22 a) (-(I 24 a)) (I 24) a) (aab (I 22) (nN (dv I)) 4 (I 22 a) (-(I 24 a)) (I 24))) 22 = upd (I 22) a y := by
    rw [setRow_o (by decide), setRow_s]
  have k := hQ (setRow (setRow (setRow I 24 (aab (I 22) (nN (dv I)) 4 (I 22 a) (-(I 24 a)) (I 24))) 22 (upd (I 22) a y)) 24 (aab (upd (I 22) a y) (nN (dv I)) 4 y (aab (I 22) (nN (dv I)) 4 (I 22 a) (-(I 24 a)) (I 24) a) (aab (I 22) (nN (dv I)) 4 (I 22 a) (-(I 24 a)) (I 24)))) (h.of ?_ ?_ hT h0) ?_ ?_
  · rw [e2, ← eN] at k
    exact k
  · rw [dv_oth (by decide), dv_oth (by decide), dv_oth (by decide)]
  · have e : sv 20 (setRow (setRow (setRow I 24 (aab (I 22) (nN (dv I)) 4 (I 22 a) (-(I 24 a)) (I 24))) 22 (upd (I 22) a y)) 24 (aab (upd (I 22) a y) (nN (dv I)) 4 y (aab (I 22) (nN (dv I)) 4 (I 22 a) (-(I 24 a)) (I 24) a) (aab (I 22) (nN (dv I)) 4 (I 22 a) (-(I 24 a)) (I 24)))) = setRow (setRow (setRow (sv 20 I) 4 (aab (I 22) (nN (dv I)) 4 (I 22 a) (-(I 24 a)) (I 24))) 2 (upd (I 22) a y)) 4 (aab (upd (I 22) a y) (nN (dv I)) 4 y (aab (I 22) (nN (dv I)) 4 (I 22 a) (-(I 24 a)) (I 24) a) (aab (I 22) (nN (dv I)) 4 (I 22 a) (-(I 24 a)) (I 24))) :=
      (sv_row (o := 20) (j := 4) (by decide)).trans (congrArg (fun X => setRow X 4 _) ((sv_row (o := 20) (j := 2) (by decide)).trans (congrArg (fun X => setRow X 2 _) (sv_row (o := 20) (j := 4) (by decide)))))
    rw [e]
    exact hS.hang hD.1 (by omega) hy hw hd
  · rw [setRow_o (by decide), setRow_o (by decide), setRow_o (by decide)]
  · rw [e2, upd_s]
theorem qdig0 (h : LW I P T0 C0) {Q : Int64 → MI → MJ → MP → Prop} (hQ : Q (dgC I) I J P) : Sp yX10_digest cX10_digest 4 (some .long) (d + 8) [.ref 0] I J P (Ql Q) := sp_X10_digest h.1 h.2.1 h.2.2.1.1 hQ
/-- what is foreseen of all values -/
def fsV (I : MI) : Int32 := sumF (fun i => psF (dv I) 4 (sv 20 I) 3 i) 5 0 (nI 0)
theorem fsV_c (h : LW I P T0 C0) {S : MI} (t : tri I S) : cntS (dv I) (psF (dv I) 4 S) 6 = fsV I := by
  have e := eqS.ps h.2.2.1.1 4 _ _ (tri_eq h.2.2.1.1 t)
  show sumF (fun i => psF (dv I) 4 S 3 i) (nN (dv I)) 0 (nI 0) = _
  rw [h.hN]
  exact sumF_ext _ _ _ (fun i _ hi => (e.1 i (by rw [h.hN]; omega)).2.2.1)
theorem qfor (h : LW I P T0 C0) (hQ : ∀ I', out28 I I' → Q (fsV I) I' J (up2 P 28 0 (some 36))) : Sp yX10_foresee cX10_foresee 3 (some .int) (d + 8) [.ref 0, .int (nI 4), .int (nI 6)] I J P (Qi Q) := by
  refine sp_X10_foresee h.1 h.2.2.1.1 (fun n w _ n2 _ w2 e1 e2 S I' t o => ?_) (fun q => q ⟨4, by decide, by decide, rfl⟩) (fun _ q => q ⟨6, by decide, by decide, rfl⟩)
  obtain rfl : 4 = n := eqN e1 (by decide) (by omega)
  obtain rfl : 6 = w := eqN e2 (by decide) (by omega)
  rw [fsV_c h t]
  exact hQ I' o
theorem qunt (h : LW I P T0 C0) {a : Nat} (ha : a < 2) (hQ : ∀ I' r, out28 I I' → (r = -1 ∨ ∃ j, j ≤ 150 ∧ r = nI j) → (r = 0 ↔ wrgB (I 25 a) (cnb 5 (I 24) (I (43 + a)) (zS (dv I) a)) = true) → Q r I' J (up2 P 28 0 (some 36))) : Sp yX10_until cX10_until 3 (some .int) (d + 8) [.ref 0, .int (nI a)] I J P (Qi Q) := by
  refine sp_X10_until h.1 h.2.1 h.2.2.1.1 (fun a' a1 e1 S I' t o => ?_) (fun q => q ⟨a, by rw [h.2.2.2.1.2.2.1]; exact ha, rfl⟩)
  have hT6 := h.2.2.1.1.2.2.1.2
  obtain rfl : a = a' := eqN e1 (by omega) (by omega)
  refine hQ I' _ o ?_ ?_
  · rcases unC_rng (D := dv I) (a := a) 151 0 S with q | ⟨j, -, j2, j3⟩
    · exact Or.inl q
    · exact Or.inr ⟨j, by omega, j3⟩
  · have e := tri_eq h.2.2.1.1 t
    have e43 : dv I (7 + a) = I (43 + a) := by
      show I (36 + (7 + a)) = _
      rw [show 36 + (7 + a) = 43 + a by omega]
    rw [unC_0, e.2.1 a a1, e.cn h.2.2.1.1, h.hN, e43]
    exact Iff.rfl
theorem qadv (h : LW I P T0 C0) (hQ : ∀ I' r, out28 I I' → (r = -1 ∨ ∃ j, j < 2 ∧ r = nI j) → Q r I' J (up2 P 28 0 (some 36))) : Sp yX10_advise cX10_advise 6 (some .int) (d + 8) [.ref 0, .int (nI 5)] I J P (Qi Q) := by
  have hD := h.2.2.1.1
  refine sp_X10_advise h.1 h.2.1 hD (w0 := fun n => wrC (dv I) (psF (dv I) n (sv 20 I))) (wk := fun n k => wrC (dv I) (psF (dv I) n (setRow (sv 20 I) 6 (upd (sv 20 I 6) k (nI 0))))) (fun n _ S t => (eqS.ps hD n _ _ (tri_eq hD t)).wr hD) (fun n _ k _ S t => (eqS.ps hD n _ _ ((tri_eq hD t).six k)).wr hD) (fun n n1 n2 e1 I' o => ?_) (fun q => q ⟨5, by decide, by decide, rfl⟩)
  refine hQ I' _ o ?_
  rw [h.2.2.2.1.2.2.2]
  rcases adF_rng (wk := fun k => wrC (dv I) (psF (dv I) n (setRow (sv 20 I) 6 (upd (sv 20 I 6) k (nI 0))))) 2 0 (-1) (wrC (dv I) (psF (dv I) n (sv 20 I))) (Or.inl rfl) with q | ⟨j, j1, j2⟩
  · exact Or.inl q
  · exact Or.inr ⟨j, by omega, j2⟩
theorem qpas (h : LW I P T0 C0) (hT0 : T0 + 1920 < 1000000) (hQ : ∀ I', LW I' P (T0 + 1920) (C0 + 80) → (∃ j, j ≤ 80 ∧ I' 20 2 = I 20 2 + nI j) → sumF (I' 23) 5 0 (nI 0) = fsV I → Q (I' 20 2 - I 20 2) I' J P) : Sp yX10_pass cX10_pass 3 (some .int) (d + 8) [.ref 0, .int (nI 4)] I J P (Qi Q) := by
  have hD := h.2.2.1.1
  refine sp_X10_pass h.1 hD (fun n n1 n2 e1 I' st => ?_) (fun q => q ⟨4, by decide, by decide, rfl⟩)
  obtain rfl : 4 = n := eqN e1 (by decide) (by omega)
  have es : sv 20 I' = psF (dv I) 4 (sv 20 I) := st.1
  refine hQ I' (h.of (funext fun k => st.2 _ (by omega) (by omega) (by omega)) ?_ h.1 h.2.1) ?_ ?_
  · rw [es]
    exact okS.ps h.2.2.1 4 _ _ _ hT0 h.2.2.2.2
  · obtain ⟨j, j1, j2⟩ := ps_02 (D := dv I) hD.2.2.2.2.1.2 4 (sv 20 I)
    exact ⟨j, j1, (congrFun (congrFun es 0) 2).trans j2⟩
  · exact sumF_ext _ _ _ (fun i _ hi => congrFun (congrFun es 3) i)
end LX
