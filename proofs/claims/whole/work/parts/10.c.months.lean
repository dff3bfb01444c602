/-! Pure: a month, months -/
def dgN : Nat → Nat → Nat
  | 0, _ => 0
  | f + 1, r => if r = 0 then 0 else r % 10 + dgN f (r / 10)
theorem dgF_n : ∀ (f r a : Nat), r < 2 ^ 31 → dgF f (nI a) (nI r) = nI (a + dgN f r) := by
  intro f
  induction f with
  | zero => intro r a _; rfl
  | succ f ih =>
    intro r a h
    rw [dgF, dgN]
    by_cases q : r = 0
    · subst q
      rw [if_pos (by decide), if_pos rfl, Nat.add_zero]
    · rw [if_neg (nI_nle (by omega) h), if_neg q, rem10_n h, nI_add, pk_div h (by decide) (by decide), ih _ _ (by omega), Nat.add_assoc]
theorem dgN_le : ∀ (f r : Nat), dgN f r ≤ 9 * f := by
  intro f
  induction f with
  | zero => exact fun r => Nat.le_refl _
  | succ f ih =>
    intro r
    rw [dgN]
    split
    · omega
    · have := ih (r / 10); omega
theorem dgN_pos : ∀ (f r : Nat), 0 < r → r < 10 ^ f → 0 < dgN f r := by
  intro f
  induction f with
  | zero => intro r h h2; simp at h2; omega
  | succ f ih =>
    intro r h h2
    rw [dgN, if_neg (by omega)]
    by_cases q : r % 10 = 0
    · have := ih (r / 10) (by omega) (by rw [Nat.div_lt_iff_lt_mul (by decide)]; rw [Nat.pow_succ] at h2; exact h2)
      omega
    · omega
theorem tu_n {w : Nat} (h : w < 2 ^ 31) : ∃ t, t < 2 ^ 31 ∧ tuR (nI w) = nI t ∧ (0 < w ↔ 0 < t) := by
  have hm : w % 10 < 10 := Nat.mod_lt _ (by decide)
  refine ⟨dgN 10 (w / 10) + (if w % 10 = 1 then 2 else w % 10), ?_, ?_, ?_⟩
  · have := dgN_le 10 (w / 10)
    split <;> omega
  · rw [tuR, pk_div h (by decide) (by decide), dgs, dgF_n _ _ _ (by omega), rem10_n h, Nat.zero_add]
    by_cases q : w % 10 = 1
    · rw [q, if_pos rfl, if_pos rfl, nI_add]
    · rw [if_neg (fun r => q (eqN r (by omega) (by decide))), if_neg q, nI_add]
  · constructor
    · intro hw
      by_cases q : w % 10 = 0
      · have := dgN_pos 10 (w / 10) (by omega) (by omega)
        omega
      · split <;> omega
    · intro ht
      rcases Nat.eq_zero_or_pos w with q | q
      · subst q
        exact absurd ht (by decide)
      · exact q
theorem fsN_ge : ∀ (f i j : Nat), ¬ fsN f i j = i → 10 ^ (fsN f i j) ≤ j := by
  intro f
  induction f with
  | zero => intro i j h; exact absurd rfl h
  | succ f ih =>
    intro i j h
    rw [fsN] at h ⊢
    by_cases c : 9 < j / 10 ^ i
    · rw [if_pos c] at h ⊢
      by_cases e : fsN f (i + 1) j = i + 1
      · rw [e, Nat.pow_succ]
        have := (Nat.le_div_iff_mul_le (Nat.pow_pos (n := i) (show 0 < 10 by decide))).mp (show 10 ≤ j / 10 ^ i by omega)
        omega
      · exact ih _ _ e
    · rw [if_neg c] at h
      exact absurd rfl h
theorem ea_n {w : Nat} (h : w ≤ 9999) : ∃ y, y ≤ 9999 ∧ eaV (nI w) = nI y := by
  rw [eaV, ix_n (by omega), eaN]
  by_cases c : fsN 10 0 w = 0
  · rw [if_pos c]
    exact ⟨0, by decide, rfl⟩
  · rw [if_neg c, pk_sub (fsN_ge 10 0 w c)]
    exact ⟨w - 10 ^ fsN 10 0 w, Nat.le_trans (Nat.sub_le _ _) h, rfl⟩
theorem mtF_ext {v v' : Nat → Int32} : ∀ (f i : Nat) (b m : Int32), (∀ j, i ≤ j → j < i + f → v j = v' j) → mtF v f i b m = mtF v' f i b m := by
  intro f
  induction f with
  | zero => exact fun i b m _ => rfl
  | succ f ih =>
    intro i b m h
    rw [mtF, mtF, h i (Nat.le_refl _) (by omega)]
    by_cases c : m < tur (v' i)
    · rw [if_pos c, if_pos c]
      exact ih _ _ _ (fun j a b => h j (by omega) (by omega))
    · rw [if_neg c, if_neg c]
      exact ih _ _ _ (fun j a b => h j (by omega) (by omega))
theorem moth_eq {v : Nat → Int32} : ∀ (f i : Nat) (b : Option Nat) (m : Int32), (∀ j, i ≤ j → j < i + f → ∃ w, w ≤ 9999 ∧ v j = nI w) → (b = none → m = nI 0) → (∀ b0, b = some b0 → m = tur (v b0) ∧ ∃ w, 0 < w ∧ w ≤ 9999 ∧ v b0 = nI w) → mtF v f i (bsI b) m = bsI (bsR v f i b) := by
  intro f
  induction f with
  | zero => intro i b m _ _ _; cases b <;> rfl
  | succ f ih =>
    intro i b m hv h0 h1
    obtain ⟨w, w1, w2⟩ := hv i (Nat.le_refl _) (by omega)
    obtain ⟨t, t1, t2, t3⟩ := tu_n (w := w) (by omega)
    have et : tur (v i) = nI t := by rw [w2, tu_eq (by omega), t2]
    have hv' : ∀ j, i + 1 ≤ j → j < i + 1 + f → ∃ w, w ≤ 9999 ∧ v j = nI w := fun j a b => hv j (by omega) (by omega)
    have e0 : v i ≤ 0 ↔ w = 0 := by
      rw [w2]
      constructor
      · intro q
        rcases Nat.eq_zero_or_pos w with r | r
        · exact r
        · exact absurd q (nI_nle r (by omega))
      · rintro rfl; decide
    rw [mtF, et]
    cases b with
    | none =>
      rw [h0 rfl, bsR]
      by_cases z : w = 0
      · have tz : t = 0 := by omega
        rw [if_pos (e0.mpr z), if_neg (by rw [tz]; decide)]
        exact ih (i + 1) none _ hv' (fun _ => rfl) (fun b0 q => by cases q)
      · have tz : 0 < t := t3.mp (by omega)
        rw [if_neg (fun q => z (e0.mp q)), if_pos (nI_lt tz t1)]
        exact ih (i + 1) (some i) _ hv' (fun q => by cases q) (fun b0 q => by cases q; exact ⟨et.symm, w, by omega, w1, w2⟩)
    | some b0 =>
      obtain ⟨m1, y, y1, y2, y3⟩ := h1 b0 rfl
      obtain ⟨t', t1', t2', t3'⟩ := tu_n (w := y) (by omega)
      have em : tur (v b0) = nI t' := by rw [y3, tu_eq (by omega), t2']
      rw [bsR, m1, em]
      by_cases z : w = 0
      · have tz : t = 0 := by omega
        rw [if_pos (e0.mpr z), if_neg (nI_nlt (by omega) t1')]
        exact ih (i + 1) (some b0) _ hv' (fun q => by cases q) (fun b1 q => by cases q; exact ⟨em.symm, y, y1, y2, y3⟩)
      · have e1 : tuR (v i) = nI t := by rw [w2, t2]
        have e2 : tuR (v b0) = nI t' := by rw [y3, t2']
        rw [if_neg (fun q => z (e0.mp q)), e1, e2]
        by_cases c : t ≤ t'
        · rw [if_pos (nI_le c t1'), if_neg (nI_nlt c t1')]
          exact ih (i + 1) (some b0) _ hv' (fun q => by cases q) (fun b1 q => by cases q; exact ⟨em.symm, y, y1, y2, y3⟩)
        · rw [if_neg (nI_ge (by omega) t1), if_pos (nI_lt (by omega) t1)]
          exact ih (i + 1) (some i) _ hv' (fun q => by cases q) (fun b1 q => by cases q; exact ⟨et.symm, w, by omega, w1, w2⟩)
theorem trF_at {c : Nat → Int32} : ∀ (f i : Nat) (t : Nat → Int32) (k : Nat), trF c f i t k = if i ≤ k ∧ k < i + f then mx0 (t k - c k) else t k := by
  intro f
  induction f with
  | zero => intro i t k; rw [trF, if_neg (by omega)]
  | succ f ih =>
    intro i t k
    rw [trF, ih]
    by_cases e : k = i
    · subst e
      rw [if_neg (show ¬ (k + 1 ≤ k ∧ k < k + 1 + f) by omega), upd_s]
      conv => rhs; rw [if_pos (show k ≤ k ∧ k < k + (f + 1) by omega)]
      rfl
    · rw [upd_n e]
      by_cases r : i + 1 ≤ k ∧ k < i + 1 + f
      · rw [if_pos r, if_pos (by omega)]
      · rw [if_neg r, if_neg (by omega)]
theorem trR_at {c : Nat → Int32} : ∀ (f i : Nat) (t : Nat → Int32) (j : Nat), trR c f i t j = if 25 + i ≤ j ∧ j < 25 + i + f then mx0 (t j - c (j - 25)) else t j := by
  intro f
  induction f with
  | zero => intro i t k; rw [trR, if_neg (by omega)]
  | succ f ih =>
    intro i t k
    rw [trR, ih]
    by_cases e : k = 25 + i
    · subst e
      rw [if_neg (by omega), upd_s, if_pos (by omega), Nat.add_sub_cancel_left]
    · rw [upd_n e]
      by_cases r : 25 + (i + 1) ≤ k ∧ k < 25 + (i + 1) + f
      · rw [if_pos r, if_pos (by omega)]
      · rw [if_neg r, if_neg (by omega)]
section RM
variable {D S B : MI} {row : Nat → Int32} {ts : Nat → Option EX} {es : Nat → EX}
theorem rel_lo (h : relD D B ts es) : ∀ (f q : Nat) (S : MI) (row : Nat → Int32), q + f = nO D → relS D S B row → relS D (loF D f q S) B (loR B ts es f q row) := by
  intro f
  induction f with
  | zero => exact fun q S row _ hs => hs
  | succ f ih =>
    intro q S row hq hs
    rw [loF, loR]
    exact ih (q + 1) _ _ (by omega) (rel_ord h hs (by omega))
theorem rel_tr (h : relD D B ts es) (hs : relS D S B row) : relS D (setRow S 6 (trF (D 13) (nK D) 0 (S 6))) B (trR (B 6) (nK B) 0 row) := by
  have hK : nK D ≤ 5 := h.1.2.2.2.1.2
  have hN := h.N16
  have hT : nT D ≤ 6 := h.1.2.2.1.2
  obtain ⟨s1, s2, s3, s4, s5, s6, s7⟩ := hs
  rw [h.cnt.2.2.2.1]
  have ot : ∀ j, j < 25 ∨ 30 ≤ j → trR (B 6) (nK D) 0 row j = row j := fun j hj => by rw [trR_at, if_neg (by omega)]
  have so : ∀ a, a ≠ 6 → setRow S 6 (trF (D 13) (nK D) 0 (S 6)) a = S a := fun a ha => setRow_o ha
  refine ⟨fun k hk => ?_, ?_, fun a ha => ?_, fun k hk => ?_, ?_, ?_, ?_⟩
  · rw [so 1 (by decide), so 2 (by decide), so 3 (by decide), ot _ (by omega)]; exact s1 k hk
  · rw [so 4 (by decide)]
    exact lcl_ext s2 (fun k hk => ot _ (by omega)) (fun k _ => rfl)
  · rw [so 5 (by decide), ot _ (by omega)]; exact s3 a ha
  · rw [so 7 (by decide), setRow_s, ot (30 + k) (by omega), trF_at, if_pos (by omega), trR_at, if_pos (by omega), (s4 k hk).1, Nat.add_sub_cancel_left, h.2.2.2.2.2.1 k hk]
    exact ⟨rfl, (s4 k hk).2⟩
  · rw [so 0 (by decide), ot _ (by omega)]; exact s5
  · rw [so 0 (by decide), ot _ (by omega)]; exact s6
  · rw [so 0 (by decide), ot _ (by omega)]; exact s7
theorem rel_put (h : relD D B ts es) (hs : relS D S B row) {tg w : Nat} (ht : tg < nN D) (hw : w ≤ 9999) : relS D (putS S (nN D) true tg (nI w)) B (upd row (3 + tg) (nI w)) := by
  have hN := h.N16
  have hT : nT D ≤ 6 := h.1.2.2.1.2
  have hK : nK D ≤ 5 := h.1.2.2.2.1.2
  obtain ⟨s1, s2, s3, s4, s5, s6, s7⟩ := hs
  have so : ∀ a, a ≠ 3 → a ≠ 4 → putS S (nN D) true tg (nI w) a = S a := fun a a1 a2 => by
    rw [putS, if_pos rfl, setRow_o a2, setRow_o a1]
  have e3 : putS S (nN D) true tg (nI w) 3 = upd (S 3) tg (nI w) := by simp [putS, setRow]
  have e4 : putS S (nN D) true tg (nI w) 4 = aab (S 2) (nN D) 4 (nI tg) (nI w - S 3 tg) (S 4) := by simp [putS, setRow]
  have hv : ∀ k, rv (upd row (3 + tg) (nI w)) k = upd (rv row) tg (nI w) k := fun k => by
    show upd row (3 + tg) (nI w) (3 + k) = _
    by_cases e : k = tg
    · subst e; rw [upd_s, upd_s]
    · rw [upd_n (by omega), upd_n e]; rfl
  refine ⟨fun k hk => ?_, ?_, fun a ha => ?_, fun k hk => ?_, ?_, ?_, ?_⟩
  · obtain ⟨a1, a2, a3, a4⟩ := s1 k hk
    rw [so 1 (by decide) (by decide), so 2 (by decide) (by decide), e3]
    refine ⟨a1, a2, ?_, ?_⟩
    · show _ = rv (upd row (3 + tg) (nI w)) k
      rw [hv]
      by_cases e : k = tg
      · subst e; rw [upd_s, upd_s]
      · rw [upd_n e, upd_n e]; exact a3
    · show ∃ w', w' ≤ 9999 ∧ rv (upd row (3 + tg) (nI w)) k = nI w'
      rw [hv]
      by_cases e : k = tg
      · subst e; exact ⟨w, hw, upd_s⟩
      · rw [upd_n e]; exact a4
  · rw [e4, aab_ext (u := B 3) hN (fun k hk' => (s1 k hk').2.1), (s1 tg ht).2.2.1]
    exact lcl_ext (lcl_tie s2 h.clo ht (h.chn ht)) (fun k hk' => hv k) (fun k _ => rfl)
  · rw [so 5 (by decide) (by decide), upd_n (by omega)]; exact s3 a ha
  · rw [so 6 (by decide) (by decide), so 7 (by decide) (by decide), upd_n (by omega), upd_n (by omega)]; exact s4 k hk
  · rw [so 0 (by decide) (by decide), upd_n (by omega)]; exact s5
  · rw [so 0 (by decide) (by decide), upd_n (by omega)]; exact s6
  · rw [so 0 (by decide) (by decide), upd_n (by omega)]; exact s7
theorem rel_0 (hs : relS D S B row) (hN : nN D ≤ 16) (hT : nT D ≤ 6) (hK : nK D ≤ 5) {S' : MI} {row' : Nat → Int32} (e : ∀ a, a ≠ 0 → S' a = S a) (e' : ∀ j, 3 ≤ j → row' j = row j) (e1 : S' 0 1 = row' 0) (e2 : S' 0 2 = row' 1) (e3 : S' 0 3 = row' 2) : relS D S' B row' := by
  obtain ⟨s1, s2, s3, s4, s5, s6, s7⟩ := hs
  refine ⟨fun k hk => ?_, ?_, fun a ha => ?_, fun k hk => ?_, e1, e2, e3⟩
  · rw [e 1 (by decide), e 2 (by decide), e 3 (by decide), e' _ (by omega)]; exact s1 k hk
  · rw [e 4 (by decide)]
    exact lcl_ext s2 (fun k hk => e' _ (by omega)) (fun k _ => rfl)
  · rw [e 5 (by decide), e' _ (by omega)]; exact s3 a ha
  · rw [e 6 (by decide), e 7 (by decide), e' _ (by omega), e' _ (by omega)]; exact s4 k hk
theorem rel_moth (h : relD D B ts es) (hs : relS D S B row) : relS D (mothS S (nN D)) B (eaR row (nN B)) := by
  have hN := h.N16
  have hT : nT D ≤ 6 := h.1.2.2.1.2
  have hK : nK D ≤ 5 := h.1.2.2.2.1.2
  have e : mtF (S 3) (nN D) 0 (-1) (nI 0) = bsI (bsR (rv row) (nN D) 0 none) := by
    rw [mtF_ext (v' := rv row) (nN D) 0 _ _ (fun j _ hj => (hs.1 j (by omega)).2.2.1)]
    exact moth_eq (nN D) 0 none _ (fun j _ hj => hs.val (by omega)) (fun _ => rfl) (fun b0 q => by cases q)
  unfold mothS eaR
  rw [e, h.cnt.2.1]
  cases hb : bsR (rv row) (nN D) 0 none with
  | none =>
    rw [if_pos (by show (-1 : Int32) < 0; decide)]
    exact hs
  | some b =>
    obtain ⟨b1, b2⟩ := bsR_in (rv row) (nN D) 0 none (fun b0 q => by cases q) b hb
    have hb' : b < nN D := by omega
    have e1 : bsI (some b) = nI b := rfl
    rw [e1, if_neg (nI_pos (by omega)), ix_n (by omega)]
    obtain ⟨-, -, v3, w, w1, w2⟩ := hs.1 b hb'
    obtain ⟨y, y1, y2⟩ := ea_n w1
    have ee : eat (S 3 b) = nI y := by rw [v3, w2, ea_eq (by omega), y2]
    have ee2 : eaV (row (3 + b)) = nI y := by rw [w2, y2]
    rw [ee]
    show relS D _ B (upd (upd row (3 + b) (eaV (row (3 + b)))) 2 (upd row (3 + b) (eaV (row (3 + b))) 2 + nI 1))
    rw [ee2]
    have hp := rel_put h hs hb' y1
    have so : putS S (nN D) true b (nI y) 0 = S 0 := by rw [putS, if_pos rfl, setRow_o (by decide), setRow_o (by decide)]
    refine rel_0 hp hN hT hK (fun a ha => setRow_o ha) (fun j hj => upd_n (by omega)) ?_ ?_ ?_
    · rw [setRow_s, upd_n (by decide), upd_n (by decide), upd_n (by omega)]; exact hs.2.2.2.2.1
    · rw [setRow_s, upd_n (by decide), upd_n (by decide), upd_n (by omega)]; exact hs.2.2.2.2.2.1
    · rw [setRow_s, upd_s, upd_s, upd_n (by omega), hs.2.2.2.2.2.2]
theorem rel_ps1 (h : relD D B ts es) (hs : relS D S B row) : relS D (emS D (loF D (nO D) 0 S) (nN D) (nK D)) B (psR1 B ts es row) := by
  have hN := h.N16
  have hT : nT D ≤ 6 := h.1.2.2.1.2
  have hK : nK D ≤ 5 := h.1.2.2.2.1.2
  have h1 := rel_lo h (nO D) 0 S row (by omega) hs
  have h2 := rel_tr h h1
  have h3 := rel_moth h h2
  unfold psR1 psR2 emS
  rw [h.cnt.2.2.2.2]
  generalize loF D (nO D) 0 S = S1 at h1 h2 h3 ⊢
  generalize loR B ts es (nO D) 0 row = r1 at h1 h2 h3 ⊢
  have ec : rem6 (trR (B 6) (nK B) 0 r1 0) = rem6 (S1 0 1) := by
    rw [trR_at, if_neg (by omega), h1.2.2.2.2.1]
  rw [ec]
  by_cases c : rem6 (S1 0 1) = 0
  · rw [if_pos c, if_pos c]
    refine rel_0 h3 hN hT hK (fun a ha => setRow_o ha) (fun j hj => upd_n (by omega)) ?_ ?_ ?_
    · rw [setRow_s, upd_s, upd_s, h3.2.2.2.2.1]
    · rw [setRow_s, upd_n (by decide), upd_n (by decide)]; exact h3.2.2.2.2.2.1
    · rw [setRow_s, upd_n (by decide), upd_n (by decide)]; exact h3.2.2.2.2.2.2
  · rw [if_neg c, if_neg c]
    refine rel_0 h2 hN hT hK (fun a ha => setRow_o ha) (fun j hj => upd_n (by omega)) ?_ ?_ ?_
    · rw [setRow_s, upd_s, upd_s, h2.2.2.2.2.1]
    · rw [setRow_s, upd_n (by decide), upd_n (by decide)]; exact h2.2.2.2.2.2.1
    · rw [setRow_s, upd_n (by decide), upd_n (by decide)]; exact h2.2.2.2.2.2.2
theorem rel_ps (h : relD D B ts es) : ∀ (n : Nat) (S : MI) (row : Nat → Int32), relS D S B row → relS D (psF D n S) B (psR B ts es n row) := by
  intro n
  induction n with
  | zero => exact fun S row hs => hs
  | succ n ih =>
    intro S row hs
    rw [psF, psR]
    exact ih _ _ (rel_ps1 h hs)
end RM
