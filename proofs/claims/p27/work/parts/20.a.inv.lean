/-! The class alone: what holds of its state at any time -/
def okS (D S : MI) (T0 C0 : Nat) : Prop := (∀ k, k < nN D → (∃ j, j < nC D ∧ S 1 k = nI j) ∧ (∃ w, w ≤ 9999 ∧ S 3 k = nI w) ∧ chn (S 2) (nN D) 4 (nI k)) ∧ lcl (S 2) (S 3) (S 4) (nN D) ∧ (∀ a, a < nT D → ∃ w, w < 2 ^ 31 ∧ S 5 a = nI w) ∧ (∀ k, k < nK D → ∃ w, w ≤ T0 ∧ S 6 k = nI w) ∧ ∃ w, w ≤ C0 ∧ S 0 2 = nI w
def okD (D : MI) : Prop := tdOK D ∧ ∀ k, k < nK D → ∃ c, c < 2 ^ 30 ∧ D 13 k = nI c
theorem has_if {N M : Nat} (hM : M < 2 ^ 31) (hN : N ≤ M) {x : Int32} {f g : Nat → Int32} (e : ∀ j, j < N → f j = g j) : (if has (nI N) x (nI M) then f (ix x) else nI 0) = if has (nI N) x (nI M) then g (ix x) else nI 0 := by
  by_cases c : has (nI N) x (nI M) = true
  · obtain ⟨j, j1, j2⟩ := (has_t hM hN).mp c
    rw [if_pos c, if_pos c, j2, ix_n (by omega), e j j1]
  · rw [if_neg c, if_neg c]
theorem kno_n {w : Nat} (h : w < 2 ^ 31) : ∃ k, k ≤ 91 ∧ kno (nI w) = nI k := by
  rw [kn_eq h, knR, dgs, pk_div h (by decide) (by decide), dgF_n 10 (w / 10) 0 (by omega)]
  have h9 := dgN_le 10 (w / 10)
  by_cases c : rem10 (nI w) ≤ 0
  · rw [if_pos c, nI_add]
    exact ⟨_, by omega, rfl⟩
  · rw [if_neg c, nI_add]
    exact ⟨_, by omega, rfl⟩
theorem mx_n {w c : Nat} (hw : w < 2 ^ 30) (hc : c < 2 ^ 30) : ∃ v, v ≤ w ∧ mx0 (nI w - nI c) = nI v := by
  unfold mx0
  by_cases h : c ≤ w
  · rw [pk_sub h]
    by_cases q : nI 0 < nI (w - c)
    · rw [if_pos q]
      exact ⟨_, by omega, rfl⟩
    · rw [if_neg q]
      exact ⟨0, Nat.zero_le _, rfl⟩
  · rw [if_neg (fun q => by
      have h1 := Int32.lt_iff_toInt_lt.mp q
      rw [pk_sub_toInt hw hc] at h1
      have h2 : (nI 0).toInt = 0 := rfl
      omega)]
    exact ⟨0, Nat.zero_le _, rfl⟩
section IV
variable {D S S' : MI} {T0 C0 : Nat}
theorem okS.clo (h : okS D S T0 C0) (hD : tdOK D) : clo (S 2) (nN D) := chn_clo hD.2.1.2 (fun k hk => (h.1 k hk).2.2)
theorem okS.sum (h : okS D S T0 C0) (hD : tdOK D) {k : Nat} (hk : k < nN D) : ∃ w, w ≤ 43685631 ∧ S 4 k = nI w := by
  have hN := hD.2.1.2
  have hch : ∀ k, k < nN D → chn (S 2) (nN D) 4 (nI k) := fun k hk => (h.1 k hk).2.2
  rw [lcl_sm h.2.1 4 k hk (tal_4 hN hch hk)]
  exact smR_4 hN (fun k hk => (h.1 k hk).2.1) hk
theorem okS.cn (h : okS D S T0 C0) (hD : tdOK D) (row : Nat → Int32) {z : Nat} (hz : z ≤ 8) : ∃ w, w < 2 ^ 31 ∧ cnb (nN D) (S 4) row z = nI w := by
  have H := sumF_n (f := fun n => if has (nI (nN D)) (row n) (nI 16) then S 4 (ix (row n)) else nI 0) (B := 43685631) z 0 0 (fun j _ _ => by
    by_cases c : has (nI (nN D)) (row j) (nI 16) = true
    · obtain ⟨i, j1, j2⟩ := (has_t (by decide) hD.2.1.2).mp c
      have hN := hD.2.1.2
      obtain ⟨w, w1, w2⟩ := h.sum hD j1
      refine ⟨w, w1, ?_⟩
      show (if has (nI (nN D)) (row j) (nI 16) then S 4 (ix (row j)) else nI 0) = nI w
      rw [if_pos c, j2, ix_n (by omega)]
      exact w2
    · exact ⟨0, Nat.zero_le _, if_neg c⟩)
  obtain ⟨w, w1, w2⟩ := H
  exact ⟨w, by omega, w2⟩
theorem putS_o {N tg a : Nat} {y : Int32} (h3 : a ≠ 3) (h4 : a ≠ 4) : putS S N true tg y a = S a := by
  have e : putS S N true tg y = setRow (setRow S 3 (upd (S 3) tg y)) 4 (aab (S 2) N 4 (nI tg) (y - S 3 tg) (S 4)) := rfl
  rw [e, setRow_o h4, setRow_o h3]
theorem putS_3 {N tg : Nat} {y : Int32} : putS S N true tg y 3 = upd (S 3) tg y := by
  have e : putS S N true tg y = setRow (setRow S 3 (upd (S 3) tg y)) 4 (aab (S 2) N 4 (nI tg) (y - S 3 tg) (S 4)) := rfl
  rw [e, setRow_o (by decide), setRow_s]
theorem putS_4 {N tg : Nat} {y : Int32} : putS S N true tg y 4 = aab (S 2) N 4 (nI tg) (y - S 3 tg) (S 4) := by
  have e : putS S N true tg y = setRow (setRow S 3 (upd (S 3) tg y)) 4 (aab (S 2) N 4 (nI tg) (y - S 3 tg) (S 4)) := rfl
  rw [e, setRow_s]
theorem okS.put (h : okS D S T0 C0) (hD : tdOK D) {tg w : Nat} (ht : tg < nN D) (hw : w ≤ 9999) : okS D (putS S (nN D) true tg (nI w)) T0 C0 := by
  unfold okS
  rw [putS_3, putS_4, putS_o (a := 1) (by decide) (by decide), putS_o (a := 2) (by decide) (by decide), putS_o (a := 5) (by decide) (by decide), putS_o (a := 6) (by decide) (by decide), putS_o (a := 0) (by decide) (by decide)]
  refine ⟨fun k hk => ⟨(h.1 k hk).1, ?_, (h.1 k hk).2.2⟩, lcl_tie h.2.1 (h.clo hD) ht (h.1 tg ht).2.2, h.2.2⟩
  by_cases e : k = tg
  · subst e
    exact ⟨w, hw, upd_s⟩
  · rw [upd_n e]
    exact (h.1 k hk).2.1
theorem putS_f {N tg a : Nat} {y : Int32} (h5 : a ≠ 5) : putS S N false tg y a = S a := by
  have e : putS S N false tg y = setRow S 5 (upd (S 5) tg y) := rfl
  rw [e, setRow_o h5]
theorem putS_5 {N tg : Nat} {y : Int32} : putS S N false tg y 5 = upd (S 5) tg y := by
  have e : putS S N false tg y = setRow S 5 (upd (S 5) tg y) := rfl
  rw [e, setRow_s]
theorem okS.tally (h : okS D S T0 C0) {N tg w : Nat} (hw : w < 2 ^ 31) : okS D (putS S N false tg (nI w)) T0 C0 := by
  unfold okS
  rw [putS_5, putS_f (a := 1) (by decide), putS_f (a := 2) (by decide), putS_f (a := 3) (by decide), putS_f (a := 4) (by decide), putS_f (a := 6) (by decide), putS_f (a := 0) (by decide)]
  refine ⟨h.1, h.2.1, fun a ha => ?_, h.2.2.2⟩
  by_cases e : a = tg
  · subst e
    exact ⟨w, hw, upd_s⟩
  · rw [upd_n e]
    exact h.2.2.1 a ha
theorem okS.rows {T1 C1 : Nat} (h : okS D S T0 C0) (e : ∀ a, 1 ≤ a → a ≤ 5 → S' a = S a) (h6 : ∀ k, k < nK D → ∃ w, w ≤ T1 ∧ S' 6 k = nI w) (h0 : ∃ w, w ≤ C1 ∧ S' 0 2 = nI w) : okS D S' T1 C1 := by
  unfold okS
  rw [e 1 (by decide) (by decide), e 2 (by decide) (by decide), e 3 (by decide) (by decide), e 4 (by decide) (by decide), e 5 (by decide) (by decide)]
  exact ⟨h.1, h.2.1, h.2.2.1, h6, h0⟩
theorem okS.le {T1 C1 : Nat} (h : okS D S T0 C0) (hT : T0 ≤ T1) (hC : C0 ≤ C1) : okS D S T1 C1 :=
  h.rows (fun _ _ _ => rfl) (fun k hk => (h.2.2.2.1 k hk).elim fun w q => ⟨w, Nat.le_trans q.1 hT, q.2⟩) (h.2.2.2.2.elim fun w q => ⟨w, Nat.le_trans q.1 hC, q.2⟩)
/-- what is told, without or with the last digit -/
theorem okS.td (h : okS D S T0 C0) (hD : tdOK D) {tie : Bool} {tg kk : Nat} {x : Int32} (ht : ¬ tie = true → tg < nT D) : ∃ w, w < 2 ^ 31 ∧ (tie = true → w ≤ 9999) ∧ tdF D S (nN D) (zS D) tie tg kk x = nI w := by
  have e : tdF D S (nN D) (zS D) tie tg kk x = tdR (fun _ => S 6 kk) (D 13 kk) (if tie then clF x else cnb (nN D) (S 4) (D (7 + tg)) (zS D tg)) kk := rfl
  rw [e]
  cases tie with
  | true =>
    obtain ⟨w, w1, w2⟩ := cl_n x
    obtain ⟨y, y1, y2⟩ := td_n (row := fun _ => S 6 kk) (cr := D 13 kk) (kk := kk) w1 (by decide) w2
    exact ⟨y, by omega, fun _ => y1, y2⟩
  | false =>
    obtain ⟨w, w1, w2⟩ := h.cn hD (D (7 + tg)) (hD.2.2.2.2.2.1 tg (ht (by decide))).2
    obtain ⟨y, y1, y2⟩ := td_n (row := fun _ => S 6 kk) (cr := D 13 kk) (kk := kk) (Nat.le_refl w) w1 w2
    exact ⟨y, by omega, fun q => absurd q (by decide), y2⟩
theorem okS.cr (h : okS D S T0 C0) (hD : tdOK D) {q : Nat} (hq : q < nO D) (x : Int32) : okS D (crD D S q x) (T0 + 24) (C0 + 1) := by
  obtain ⟨-, -, -, -, -, k6, k7, -⟩ := hD.2.2.2.2.2.2.2.2 q hq
  obtain ⟨w, w1, w2, w3⟩ := h.td hD (tie := oT D q) (tg := oG D q) (kk := oK D q) (x := x) (fun c => by rw [if_neg c] at k7; exact k7)
  unfold crD crS
  rw [w3]
  obtain ⟨k, k1, k2⟩ := kno_n w1
  have h1 : okS D (putS S (nN D) (oT D q) (oG D q) (nI w)) T0 C0 := by
    cases c : oT D q with
    | true =>
      rw [c, if_pos rfl] at k7
      exact h.put hD k7 (w2 c)
    | false => exact h.tally w1
  refine h1.rows (fun a a1 a2 => ?_) (fun j hj => ?_) ?_
  · rw [setRow_o (by omega), setRow_o (by omega), setRow_o (by omega)]
  · rw [setRow_o (by decide), setRow_o (by decide), setRow_s]
    by_cases e : j = oK D q
    · subst e
      obtain ⟨t, t1, t2⟩ := h.2.2.2.1 _ k6
      rw [upd_s, t2, k2, pk_div (by omega) (by decide) (by decide), nI_add, nI_add]
      exact ⟨_, by omega, rfl⟩
    · rw [upd_n e]
      obtain ⟨t, t1, t2⟩ := h.2.2.2.1 j hj
      exact ⟨t, by omega, t2⟩
  · rw [setRow_s, upd_s]
    obtain ⟨t, t1, t2⟩ := h.2.2.2.2
    rw [t2, nI_add]
    exact ⟨_, by omega, rfl⟩
theorem okS.lo (hD : tdOK D) : ∀ (f q : Nat) (S : MI) (T C : Nat), q + f = nO D → okS D S T C → okS D (loF D f q S) (T + 24 * f) (C + f)
  | 0, q, S, T, C, _, h => h
  | f + 1, q, S, T, C, e, h => by
    rw [loF]
    refine okS.le (T0 := T + 24 + 24 * f) (C0 := C + 1 + f) (okS.lo hD f (q + 1) _ _ _ (by omega) ?_) (by omega) (by omega)
    split
    · exact h.cr hD (by omega) _
    · exact h.le (by omega) (by omega)
theorem okS.moth (h : okS D S T0 C0) (hD : tdOK D) : okS D (mothS S (nN D)) T0 C0 := by
  unfold mothS
  split
  · exact h
  · rename_i c
    have hN := hD.2.1.2
    rcases mtF_in (S 3) (nN D) 0 (-1) (nI 0) (Or.inl rfl) with q | ⟨k, k1, k2⟩
    · exact absurd (by rw [q]; decide) c
    · rw [k2, ix_n (by omega)]
      obtain ⟨w, w1, w2⟩ := (h.1 k (by omega)).2.1
      obtain ⟨y, y1, y2⟩ := ea_n w1
      rw [w2, ea_eq (by omega), y2]
      have h1 := h.put hD (tg := k) (w := y) (by omega) y1
      refine h1.rows (fun a a1 a2 => setRow_o (by omega)) (fun j hj => ?_) ?_
      · rw [setRow_o (by decide)]
        exact h1.2.2.2.1 j hj
      · rw [setRow_s, upd_n (by decide)]
        exact h.2.2.2.2
theorem okS.em (h : okS D S T0 C0) (hD : okD D) (hT : T0 < 1000000) : okS D (emS D S (nN D) (nK D)) T0 C0 := by
  have h1 : okS D (setRow S 6 (trF (D 13) (nK D) 0 (S 6))) T0 C0 := by
    refine h.rows (fun a a1 a2 => setRow_o (by omega)) (fun k hk => ?_) ?_
    · rw [setRow_s, trF_at, if_pos ⟨Nat.zero_le _, by omega⟩]
      obtain ⟨w, w1, w2⟩ := h.2.2.2.1 k hk
      obtain ⟨c, c1, c2⟩ := hD.2 k hk
      rw [w2, c2]
      obtain ⟨v, v1, v2⟩ := mx_n (w := w) (c := c) (by omega) c1
      exact ⟨v, by omega, v2⟩
    · rw [setRow_o (by decide)]
      exact h.2.2.2.2
  have h2 : okS D (if rem6 (S 0 1) = 0 then mothS (setRow S 6 (trF (D 13) (nK D) 0 (S 6))) (nN D) else setRow S 6 (trF (D 13) (nK D) 0 (S 6))) T0 C0 := by
    split
    · exact h1.moth hD.1
    · exact h1
  unfold emS
  refine h2.rows (fun a a1 a2 => setRow_o (by omega)) (fun k hk => ?_) ?_
  · rw [setRow_o (by decide)]
    exact h2.2.2.2.1 k hk
  · rw [setRow_s, upd_n (by decide)]
    exact h2.2.2.2.2
theorem nb_1 {T C n : Nat} (e : T + 480 * (n + 1) < 1000000) : T + 480 < 1000000 ∧ T + 480 + 480 * n < 1000000 ∧ T + 480 + 480 * n ≤ T + 480 * (n + 1) ∧ C + 20 + 20 * n ≤ C + 20 * (n + 1) := by
  rw [Nat.mul_add, Nat.mul_one] at e
  refine ⟨Nat.lt_of_le_of_lt (Nat.add_le_add_left (Nat.le_add_left 480 (480 * n)) T) e, by rw [Nat.add_assoc, Nat.add_comm 480]; exact e, by rw [Nat.mul_add, Nat.mul_one, Nat.add_assoc, Nat.add_comm 480]; exact Nat.le_refl _, by rw [Nat.mul_add, Nat.mul_one, Nat.add_assoc, Nat.add_comm 20]; exact Nat.le_refl _⟩
theorem okS.ps (hD : okD D) : ∀ (n : Nat) (S : MI) (T C : Nat), T + 480 * n < 1000000 → okS D S T C → okS D (psF D n S) (T + 480 * n) (C + 20 * n)
  | 0, S, T, C, _, h => h
  | n + 1, S, T, C, e, h => by
    rw [psF]
    have hO := hD.1.2.2.2.2.1.2
    have h1 := okS.le (okS.lo hD.1 (nO D) 0 S T C (Nat.zero_add _) h) (T1 := T + 480) (C1 := C + 20) (by omega) (by omega)
    obtain ⟨e1, e2, e3, e4⟩ := nb_1 (C := C) e
    exact okS.le (okS.ps hD n _ _ _ e2 (okS.em h1 hD e1)) e3 e4
end IV
/-! two states that agree -/
def eqS (D S S' : MI) : Prop := (∀ k, k < nN D → S' 1 k = S 1 k ∧ S' 2 k = S 2 k ∧ S' 3 k = S 3 k ∧ S' 4 k = S 4 k) ∧ (∀ a, a < nT D → S' 5 a = S 5 a) ∧ (∀ k, k < nK D → S' 6 k = S 6 k ∧ S' 7 k = S 7 k) ∧ S' 0 1 = S 0 1 ∧ S' 0 2 = S 0 2 ∧ S' 0 3 = S 0 3
section EQ
variable {D S S' : MI}
theorem eqS.rf : eqS D S S := ⟨fun _ _ => ⟨rfl, rfl, rfl, rfl⟩, fun _ _ => rfl, fun _ _ => ⟨rfl, rfl⟩, rfl, rfl, rfl⟩
theorem eqS.cn (e : eqS D S S') (hD : tdOK D) (row : Nat → Int32) (z : Nat) : cnb (nN D) (S' 4) row z = cnb (nN D) (S 4) row z :=
  sumF_ext z 0 _ (fun j _ _ => has_if (by decide) hD.2.1.2 (fun k hk => (e.1 k hk).2.2.2))
theorem eqS.op (e : eqS D S S') (hD : tdOK D) (k : Nat) (x : Int32) : opF D S' (nN D) (nK D) (nT D) (zS D) k x = opF D S (nN D) (nK D) (nT D) (zS D) k x := by
  have hN := hD.2.1.2
  have hT := hD.2.2.1.2
  have hK := hD.2.2.2.1.2
  have a3 : (if has (nI (nN D)) x (nI 16) then S' 3 (ix x) else nI 0) = if has (nI (nN D)) x (nI 16) then S 3 (ix x) else nI 0 := has_if (by decide) hN (fun k hk => (e.1 k hk).2.2.1)
  have a4 : (if has (nI (nN D)) x (nI 16) then S' 4 (ix x) else nI 0) = if has (nI (nN D)) x (nI 16) then S 4 (ix x) else nI 0 := has_if (by decide) hN (fun k hk => (e.1 k hk).2.2.2)
  have a5 : (if has (nI (nN D)) x (nI 16) then kno (S' 3 (ix x)) else nI 0) = if has (nI (nN D)) x (nI 16) then kno (S 3 (ix x)) else nI 0 := has_if (f := fun j => kno (S' 3 j)) (g := fun j => kno (S 3 j)) (by decide) hN (fun k hk => congrArg kno (e.1 k hk).2.2.1)
  have a6 : (if has (nI (nT D)) x (nI 6) then S' 5 (ix x) else nI 0) = if has (nI (nT D)) x (nI 6) then S 5 (ix x) else nI 0 := has_if (by decide) hT (fun k hk => e.2.1 k hk)
  have a7 : (if has (nI (nK D)) x (nI 5) then S' 6 (ix x) else nI 0) = if has (nI (nK D)) x (nI 5) then S 6 (ix x) else nI 0 := has_if (by decide) hK (fun k hk => (e.2.2.1 k hk).1)
  have a8 : (if has (nI (nT D)) x (nI 6) then b2i (wrgB (S' 5 (ix x)) (cnb (nN D) (S' 4) (D (7 + ix x)) (zS D (ix x)))) else nI 0) = if has (nI (nT D)) x (nI 6) then b2i (wrgB (S 5 (ix x)) (cnb (nN D) (S 4) (D (7 + ix x)) (zS D (ix x)))) else nI 0 := has_if (f := fun j => b2i (wrgB (S' 5 j) (cnb (nN D) (S' 4) (D (7 + j)) (zS D j)))) (g := fun j => b2i (wrgB (S 5 j) (cnb (nN D) (S 4) (D (7 + j)) (zS D j)))) (by decide) hT (fun k hk => by
    show b2i (wrgB (S' 5 k) (cnb (nN D) (S' 4) (D (7 + k)) (zS D k))) = _
    rw [e.2.1 k hk, e.cn hD])
  unfold opF
  rw [a3, a4, a5, a6, a7, a8, e.2.2.2.1]
theorem eqS.ex (e : eqS D S S') (hD : tdOK D) (kd : Nat → Nat) : ∀ (f n : Nat) (L : List Int32), exS D S' (nN D) (nK D) (nT D) (zS D) kd f n L = exS D S (nN D) (nK D) (nT D) (zS D) kd f n L
  | 0, _, _ => rfl
  | f + 1, n, L => by rw [exS, exS, e.op hD, eqS.ex e hD kd f]
theorem eqS.rc (e : eqS D S S') (hD : tdOK D) (a b : Nat) : rcD D S' a b = rcD D S a b := by
  unfold rcD rck
  rw [e.ex hD]
theorem eqS.rows {R R' : MI} (e : eqS D S S') (a : ∀ i, 1 ≤ i → i ≤ 5 → R i = S i) (a' : ∀ i, 1 ≤ i → i ≤ 5 → R' i = S' i) (h6 : ∀ k, k < nK D → R' 6 k = R 6 k ∧ R' 7 k = R 7 k) (h0 : R' 0 1 = R 0 1 ∧ R' 0 2 = R 0 2 ∧ R' 0 3 = R 0 3) : eqS D R R' := by
  unfold eqS
  rw [a 1 (by decide) (by decide), a 2 (by decide) (by decide), a 3 (by decide) (by decide), a 4 (by decide) (by decide), a 5 (by decide) (by decide), a' 1 (by decide) (by decide), a' 2 (by decide) (by decide), a' 3 (by decide) (by decide), a' 4 (by decide) (by decide), a' 5 (by decide) (by decide)]
  exact ⟨e.1, e.2.1, h6, h0⟩
theorem eqS.put (e : eqS D S S') (hD : tdOK D) {tg : Nat} (ht : tg < nN D) (y : Int32) : eqS D (putS S (nN D) true tg y) (putS S' (nN D) true tg y) := by
  have hN := hD.2.1.2
  unfold eqS
  simp only [putS_3, putS_4]
  rw [putS_o (S := S) (a := 1) (by decide) (by decide), putS_o (S := S) (a := 2) (by decide) (by decide), putS_o (S := S) (a := 5) (by decide) (by decide), putS_o (S := S) (a := 6) (by decide) (by decide), putS_o (S := S) (a := 7) (by decide) (by decide), putS_o (S := S) (a := 0) (by decide) (by decide),
    putS_o (S := S') (a := 1) (by decide) (by decide), putS_o (S := S') (a := 2) (by decide) (by decide), putS_o (S := S') (a := 5) (by decide) (by decide), putS_o (S := S') (a := 6) (by decide) (by decide), putS_o (S := S') (a := 7) (by decide) (by decide), putS_o (S := S') (a := 0) (by decide) (by decide)]
  refine ⟨fun k hk => ⟨(e.1 k hk).1, (e.1 k hk).2.1, ?_, ?_⟩, e.2⟩
  · by_cases c : k = tg
    · subst c
      rw [upd_s, upd_s]
    · rw [upd_n c, upd_n c]
      exact (e.1 k hk).2.2.1
  · rw [aab_ext hN (fun k hk => (e.1 k hk).2.1), aab_aad, aab_aad, (e.1 k hk).2.2.2, (e.1 tg ht).2.2.1]
theorem eqS.cr (e : eqS D S S') (hD : tdOK D) {q : Nat} (hq : q < nO D) (x : Int32) : eqS D (crD D S q x) (crD D S' q x) := by
  obtain ⟨-, -, -, -, -, k6, k7, -⟩ := hD.2.2.2.2.2.2.2.2 q hq
  have et : tdF D S' (nN D) (zS D) (oT D q) (oG D q) (oK D q) x = tdF D S (nN D) (zS D) (oT D q) (oG D q) (oK D q) x := by
    unfold tdF
    rw [(e.2.2.1 _ k6).1, e.cn hD]
  unfold crD crS
  rw [et]
  have h1 : eqS D (putS S (nN D) (oT D q) (oG D q) (tdF D S (nN D) (zS D) (oT D q) (oG D q) (oK D q) x)) (putS S' (nN D) (oT D q) (oG D q) (tdF D S (nN D) (zS D) (oT D q) (oG D q) (oK D q) x)) := by
    generalize tdF D S (nN D) (zS D) (oT D q) (oG D q) (oK D q) x = y
    cases c : oT D q with
    | true =>
      rw [c, if_pos rfl] at k7
      exact e.put hD k7 y
    | false =>
      unfold eqS
      simp only [putS_5]
      rw [putS_f (S := S) (a := 1) (by decide), putS_f (S := S) (a := 2) (by decide), putS_f (S := S) (a := 3) (by decide), putS_f (S := S) (a := 4) (by decide), putS_f (S := S) (a := 6) (by decide), putS_f (S := S) (a := 7) (by decide), putS_f (S := S) (a := 0) (by decide),
        putS_f (S := S') (a := 1) (by decide), putS_f (S := S') (a := 2) (by decide), putS_f (S := S') (a := 3) (by decide), putS_f (S := S') (a := 4) (by decide), putS_f (S := S') (a := 6) (by decide), putS_f (S := S') (a := 7) (by decide), putS_f (S := S') (a := 0) (by decide)]
      refine ⟨e.1, fun a ha => ?_, e.2.2⟩
      by_cases c : a = oG D q
      · subst c
        rw [upd_s, upd_s]
      · rw [upd_n c, upd_n c]
        exact e.2.1 a ha
  refine h1.rows (fun a a1 a2 => ?_) (fun a a1 a2 => ?_) (fun j hj => ?_) ?_
  · rw [setRow_o (by omega), setRow_o (by omega), setRow_o (by omega)]
  · rw [setRow_o (by omega), setRow_o (by omega), setRow_o (by omega)]
  · rw [setRow_o (by decide), setRow_o (by decide), setRow_s, setRow_o (by decide), setRow_o (by decide), setRow_s, setRow_o (by decide), setRow_s, setRow_o (by decide), setRow_s]
    by_cases c : j = oK D q
    · subst c
      rw [upd_s, upd_s, upd_s, upd_s, (e.2.2.1 _ k6).1, (e.2.2.1 _ k6).2]
      exact ⟨rfl, rfl⟩
    · rw [upd_n c, upd_n c, upd_n c, upd_n c]
      exact e.2.2.1 j hj
  · rw [setRow_s, setRow_s, upd_s, upd_s, upd_n (by decide), upd_n (by decide), upd_n (by decide), upd_n (by decide), e.2.2.2.2.1]
    exact ⟨e.2.2.2.1, rfl, e.2.2.2.2.2⟩
theorem eqS.lo (hD : tdOK D) : ∀ (f q : Nat) (S S' : MI), q + f = nO D → eqS D S S' → eqS D (loF D f q S) (loF D f q S')
  | 0, _, _, _, _, h => h
  | f + 1, q, S, S', e, h => by
    rw [loF, loF]
    refine eqS.lo hD f (q + 1) _ _ (by omega) ?_
    rw [h.rc hD, h.rc hD]
    split
    · exact h.cr hD (by omega) _
    · exact h
theorem eqS.moth (e : eqS D S S') (hD : tdOK D) : eqS D (mothS S (nN D)) (mothS S' (nN D)) := by
  have hN := hD.2.1.2
  have em : mtF (S' 3) (nN D) 0 (-1) (nI 0) = mtF (S 3) (nN D) 0 (-1) (nI 0) := mtF_ext (nN D) 0 (-1) (nI 0) (fun j _ hj => (e.1 j (by omega)).2.2.1)
  unfold mothS
  rw [em]
  split
  · exact e
  · rename_i c
    rcases mtF_in (S 3) (nN D) 0 (-1) (nI 0) (Or.inl rfl) with q | ⟨k, k1, k2⟩
    · exact absurd (by rw [q]; decide) c
    · rw [k2, ix_n (by omega), (e.1 k (by omega)).2.2.1]
      have h1 := e.put hD (tg := k) (by omega) (eat (S 3 k))
      refine h1.rows (fun a a1 a2 => setRow_o (by omega)) (fun a a1 a2 => setRow_o (by omega)) (fun j hj => ?_) ?_
      · rw [setRow_o (by decide), setRow_o (by decide), setRow_o (by decide), setRow_o (by decide)]
        exact h1.2.2.1 j hj
      · rw [setRow_s, setRow_s, upd_n (by decide), upd_n (by decide), upd_n (by decide), upd_n (by decide), upd_s, upd_s, e.2.2.2.2.2]
        exact ⟨e.2.2.2.1, e.2.2.2.2.1, rfl⟩
theorem eqS.em (e : eqS D S S') (hD : tdOK D) : eqS D (emS D S (nN D) (nK D)) (emS D S' (nN D) (nK D)) := by
  have h1 : eqS D (setRow S 6 (trF (D 13) (nK D) 0 (S 6))) (setRow S' 6 (trF (D 13) (nK D) 0 (S' 6))) := by
    refine e.rows (fun a a1 a2 => setRow_o (by omega)) (fun a a1 a2 => setRow_o (by omega)) (fun k hk => ?_) ?_
    · rw [setRow_s, setRow_s, setRow_o (by decide), setRow_o (by decide), trF_at, trF_at, (e.2.2.1 k hk).1]
      exact ⟨rfl, (e.2.2.1 k hk).2⟩
    · rw [setRow_o (by decide), setRow_o (by decide)]
      exact e.2.2.2
  have h2 : eqS D (if rem6 (S 0 1) = 0 then mothS (setRow S 6 (trF (D 13) (nK D) 0 (S 6))) (nN D) else setRow S 6 (trF (D 13) (nK D) 0 (S 6))) (if rem6 (S' 0 1) = 0 then mothS (setRow S' 6 (trF (D 13) (nK D) 0 (S' 6))) (nN D) else setRow S' 6 (trF (D 13) (nK D) 0 (S' 6))) := by
    rw [e.2.2.2.1]
    split
    · exact h1.moth hD
    · exact h1
  unfold emS
  refine h2.rows (fun a a1 a2 => setRow_o (by omega)) (fun a a1 a2 => setRow_o (by omega)) (fun k hk => ?_) ?_
  · rw [setRow_o (by decide), setRow_o (by decide), setRow_o (by decide), setRow_o (by decide)]
    exact h2.2.2.1 k hk
  · rw [setRow_s, setRow_s, upd_s, upd_s, upd_n (by decide), upd_n (by decide), upd_n (by decide), upd_n (by decide), h2.2.2.2.1]
    exact ⟨rfl, h2.2.2.2.2⟩
theorem eqS.ps (hD : tdOK D) : ∀ (n : Nat) (S S' : MI), eqS D S S' → eqS D (psF D n S) (psF D n S')
  | 0, _, _, h => h
  | n + 1, S, S', h => by
    rw [psF, psF]
    exact eqS.ps hD n _ _ ((eqS.lo hD (nO D) 0 S S' (Nat.zero_add _) h).em hD)
end EQ
