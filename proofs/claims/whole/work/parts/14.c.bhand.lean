/-! The class against the reference: by hand, and what would be -/
theorem upd_o {f : Nat → Int32} {k j : Nat} {v : Int32} (h : ¬ j = k) : upd f k v j = f j := by simp [upd, h]
theorem dn_cong {B B' : MI} (e0 : B' 0 = B 0) (e8 : B' 8 = B 8) (e9 : B' 9 = B 9) (e10 : B' 10 = B 10) : ∀ (f : Nat) (s : Bool) (n : Nat) (E : EX), dn B' f s n E = dn B f s n E
  | 0, _, _, _ => rfl
  | f + 1, s, n, E => by
    have ih := dn_cong e0 e8 e9 e10 f
    simp only [dn, nN, nT, nK, e0, e8, e9, e10, ih]
theorem orK_cong {B B' : MI} (e0 : B' 0 = B 0) (e7 : B' 7 = B 7) (e8 : B' 8 = B 8) (e9 : B' 9 = B 9) (e10 : B' 10 = B 10) {q : Nat} {ts : Option EX} {es : EX} (h : orK B q ts es) : orK B' q ts es := by
  have hd := dn_cong e0 e8 e9 e10
  have ht : tsOK B' q ts = tsOK B q ts := by
    cases ts with
    | none => simp only [tsOK, e7]
    | some t => simp only [tsOK, e7, hd]
  unfold orK rG rT rK nN nT nK at h ⊢
  rw [ht]
  simp only [e0, e7, hd]
  exact h
section RH
variable {D S B : MI} {ts : Nat → Option EX} {es : Nat → EX} {row : Nat → Int32}
theorem relD.set (h : relD D B ts es) {i : Nat} {r : Nat → Int32} (hi : i = 2 ∨ i = 3) (hbk : bkOK (setRow B i r)) : relD D (setRow B i r) ts es := by
  have e : ∀ j, ¬ j = i → setRow B i r j = B j := fun j hj => setRow_o hj
  obtain ⟨h1, h2, h3, h4, h5, h6, h7⟩ := h
  refine ⟨h1, hbk, ?_, ?_, ?_, ?_, ?_⟩
  · rw [e 0 (by omega)]; exact h3
  · rw [e 1 (by omega)]; exact h4
  · intro a ha
    have e5 := e 5 (by omega)
    unfold zR
    rw [e5]
    exact h5 a ha
  · rw [e 6 (by omega)]; exact h6
  · intro q hq
    obtain ⟨⟨a, b, c⟩, d, f⟩ := h7 q hq
    refine ⟨?_, d, orK_cong (e 0 (by omega)) (e 7 (by omega)) (e 8 (by omega)) (e 9 (by omega)) (e 10 (by omega)) f⟩
    have e7 := e 7 (by omega)
    exact ⟨by unfold rT at a ⊢; rw [e7]; exact a, by unfold rG at b ⊢; rw [e7]; exact b, by unfold rK at c ⊢; rw [e7]; exact c⟩
theorem dsT.set (h : dsT B) {i : Nat} {r : Nat → Int32} (hi : i = 2 ∨ i = 3) : dsT (setRow B i r) := by
  unfold dsT zR nT at h ⊢
  rw [setRow_o (show ¬ 0 = i by omega), setRow_o (show ¬ 5 = i by omega)]
  exact h
theorem rv_3 {a : Nat} {y : Int32} : rv (upd row (3 + a) y) = upd (rv row) a y := by
  funext k
  show upd row (3 + a) y (3 + k) = upd (rv row) a y k
  by_cases e : k = a
  · rw [e, upd_s, upd_s]
  · rw [upd_o (by omega), upd_o e]; rfl
theorem rel_set (h : relD D B ts es) (hs : relS D S B row) {a w : Nat} (ha : a < nN D) (hw : w ≤ 9999) : relS D (setRow (setRow S 3 (upd (S 3) a (nI w))) 4 (aab (S 2) (nN D) 4 (nI a) (nI w - S 3 a) (S 4))) B (upd row (3 + a) (nI w)) := by
  have hN := h.N16
  obtain ⟨s1, s2, s3, s4, s5⟩ := hs
  have oo : ∀ j, ¬ j = 3 → ¬ j = 4 → setRow (setRow S 3 (upd (S 3) a (nI w))) 4 (aab (S 2) (nN D) 4 (nI a) (nI w - S 3 a) (S 4)) j = S j := fun j h3 h4 => (setRow_o h4).trans (setRow_o h3)
  have hT := h.1.2.2.1.2
  have hK := h.1.2.2.2.1.2
  refine ⟨fun k hk => ?_, ?_, fun b hb => ?_, fun k hk => ?_, ?_⟩
  · obtain ⟨a1, a2, a3, a4⟩ := s1 k hk
    rw [oo 1 (by decide) (by decide), oo 2 (by decide) (by decide), setRow_o (show (3 : Nat) ≠ 4 by decide), setRow_s]
    refine ⟨a1, a2, ?_, ?_⟩
    · by_cases e : k = a
      · rw [e, upd_s, upd_s]
      · rw [upd_o e, upd_o (by omega)]; exact a3
    · by_cases e : k = a
      · rw [e, upd_s]; exact ⟨w, hw, rfl⟩
      · rw [upd_o (by omega)]; exact a4
  · rw [setRow_s, rv_3, aab_ext hN (fun k hk => (s1 k hk).2.1), (s1 a ha).2.2.1]
    exact lcl_tie s2 h.clo ha (h.chn ha)
  · rw [oo 5 (by decide) (by decide), upd_o (by omega)]; exact s3 b hb
  · rw [oo 6 (by decide) (by decide), oo 7 (by decide) (by decide), upd_o (by omega), upd_o (by omega)]; exact s4 k hk
  · rw [oo 0 (by decide) (by decide), upd_o (by omega), upd_o (by omega), upd_o (by omega)]; exact s5
theorem rel_rest (hs : relS D S B row) (h : relD D B ts es) {a : Nat} (ha : a < nK D) : relS D (setRow S 6 (upd (S 6) a (nI 0))) B (upd row (25 + a) (nI 0)) := by
  have hN := h.N16
  have hT := h.1.2.2.1.2
  have hK := h.1.2.2.2.1.2
  obtain ⟨s1, s2, s3, s4, s5⟩ := hs
  have oo : ∀ j, ¬ j = 6 → setRow S 6 (upd (S 6) a (nI 0)) j = S j := fun j h3 => setRow_o h3
  refine ⟨fun k hk => ?_, ?_, fun b hb => ?_, fun k hk => ?_, ?_⟩
  · rw [oo 1 (by decide), oo 2 (by decide), oo 3 (by decide), upd_o (by omega)]; exact s1 k hk
  · rw [oo 4 (by decide)]
    exact lcl_ext s2 (fun k hk => upd_o (by omega)) (fun _ _ => rfl)
  · rw [oo 5 (by decide), upd_o (by omega)]; exact s3 b hb
  · rw [setRow_s, oo 7 (by decide), upd_o (show 30 + k ≠ 25 + a by omega)]
    refine ⟨?_, (s4 k hk).2⟩
    by_cases e : k = a
    · rw [e, upd_s, upd_s]
    · rw [upd_o e, upd_o (by omega)]; exact (s4 k hk).1
  · rw [oo 0 (by decide), upd_o (by omega), upd_o (by omega), upd_o (by omega)]; exact s5
theorem rel_dye (h : relD D B ts es) (hs : relS D S B row) {a b : Nat} (ha : a < nN D) (hb : b < nC D) : relD D (setRow B 2 (upd (B 2) a (nI b))) ts es ∧ relS D (setRow S 1 (upd (S 1) a (nI b))) (setRow B 2 (upd (B 2) a (nI b))) row := by
  obtain ⟨s1, s2, s3, s4, s5⟩ := hs
  have oo : ∀ j, ¬ j = 1 → setRow S 1 (upd (S 1) a (nI b)) j = S j := fun j h3 => setRow_o h3
  have o2 : ∀ j, ¬ j = 2 → setRow B 2 (upd (B 2) a (nI b)) j = B j := fun j h3 => setRow_o h3
  refine ⟨h.set (Or.inl rfl) ?_, fun k hk => ?_, ?_, ?_, ?_, ?_⟩
  · obtain ⟨b1, b2, b3, b4, b5, b6, b7, b8, b9⟩ := h.2.1
    have e0 := o2 0 (by decide)
    unfold bkOK nC nN nT nK nO zR at *
    rw [e0, o2 5 (by decide), o2 3 (by decide), setRow_s]
    refine ⟨b1, b2, b3, b4, b5, b6, b7, b8, fun k hk => ?_⟩
    by_cases e : k = a
    · refine ⟨b, ?_, by rw [e, upd_s]⟩
      rw [h.2.2.1 0 (by decide)]
      exact hb
    · rw [upd_o e]; exact b9 k hk
  · rw [setRow_s, setRow_s, oo 2 (by decide), oo 3 (by decide), o2 3 (by decide)]
    obtain ⟨a1, a2⟩ := s1 k hk
    refine ⟨?_, a2⟩
    by_cases e : k = a
    · rw [e, upd_s, upd_s]
    · rw [upd_o e, upd_o e]; exact a1
  · rw [oo 4 (by decide), o2 3 (by decide)]; exact s2
  · rw [oo 5 (by decide)]; exact s3
  · rw [oo 6 (by decide), oo 7 (by decide)]; exact s4
  · rw [oo 0 (by decide)]; exact s5
theorem isU_chn {u : Nat → Int32} {N : Nat} {y : Int32} (hch : ∀ k, k < N → chn u N 4 (nI k)) (hy : isU N y) : chn u N 4 y := by
  rcases hy with rfl | ⟨b, b1, rfl⟩
  · exact Or.inl rfl
  · exact hch b b1
theorem rel_hang (h : relD D B ts es) (hs : relS D S B row) {a : Nat} {y : Int32} (ha : a < nN D) (hy : isU (nN D) y) (hg : hgC (B 3) (nN D) a y = false) : relD D (setRow B 3 (upd (B 3) a y)) ts es ∧ relS D (setRow (setRow (setRow S 4 (aab (S 2) (nN D) 4 (S 2 a) (-(S 4 a)) (S 4))) 2 (upd (S 2) a y)) 4 (aab (upd (S 2) a y) (nN D) 4 y (aab (S 2) (nN D) 4 (S 2 a) (-(S 4 a)) (S 4) a) (aab (S 2) (nN D) 4 (S 2 a) (-(S 4 a)) (S 4)))) (setRow B 3 (upd (B 3) a y)) row := by
  have hN := h.N16
  have hch : ∀ k, k < nN D → chn (B 3) (nN D) 4 (nI k) := fun k hk => h.chn hk
  obtain ⟨g1, g2⟩ := Bool.or_eq_false_iff.mp hg
  have g2 : dep (B 3) (nN D) 4 y + rch (B 3) (nN D) 4 a ≤ 4 := by simpa using g2
  have hyc := isU_chn hch hy
  have hch2 := chn_hang h.clo hch ha hyc g1 g2
  obtain ⟨s1, s2, s3, s4, s5⟩ := hs
  have o3 : ∀ j, ¬ j = 3 → setRow B 3 (upd (B 3) a y) j = B j := fun j h3 => setRow_o h3
  generalize hS' : setRow (setRow (setRow S 4 (aab (S 2) (nN D) 4 (S 2 a) (-(S 4 a)) (S 4))) 2 (upd (S 2) a y)) 4 (aab (upd (S 2) a y) (nN D) 4 y (aab (S 2) (nN D) 4 (S 2 a) (-(S 4 a)) (S 4) a) (aab (S 2) (nN D) 4 (S 2 a) (-(S 4 a)) (S 4))) = S'
  have oo : ∀ j, ¬ j = 2 → ¬ j = 4 → S' j = S j := fun j h2 h4 => by rw [← hS', setRow_o h4, setRow_o h2, setRow_o h4]
  have e2 : S' 2 = upd (S 2) a y := by rw [← hS', setRow_o (by decide), setRow_s]
  have e4 : S' 4 = aab (upd (S 2) a y) (nN D) 4 y (aab (S 2) (nN D) 4 (S 2 a) (-(S 4 a)) (S 4) a) (aab (S 2) (nN D) 4 (S 2 a) (-(S 4 a)) (S 4)) := by rw [← hS', setRow_s]
  have hu : ∀ k, k < nN D → S 2 k = B 3 k := fun k hk => (s1 k hk).2.1
  have hu2 : ∀ k, k < nN D → upd (S 2) a y k = upd (B 3) a y k := fun k hk => by
    by_cases e : k = a
    · rw [e, upd_s, upd_s]
    · rw [upd_o e, upd_o e, hu k hk]
  refine ⟨h.set (Or.inr rfl) ?_, fun k hk => ?_, ?_, ?_, ?_, ?_⟩
  · obtain ⟨b1, b2, b3, b4, b5, b6, b7, b8, b9⟩ := h.2.1
    have hn : nN B = nN D := h.cnt.2.1
    have hn' : nN (setRow B 3 (upd (B 3) a y)) = nN D := by rw [← hn]; unfold nN; rw [o3 0 (by decide)]
    refine ⟨by unfold nC; rw [o3 0 (by decide)]; exact b1, by rw [hn', ← hn, o3 0 (by decide)]; exact b2, by unfold nT; rw [o3 0 (by decide)]; exact b3, by unfold nK; rw [o3 0 (by decide)]; exact b4, by unfold nO; rw [o3 0 (by decide)]; exact b5, ?_, ?_, ?_, ?_⟩
    · rw [hn', ← hn]
      unfold nT zR
      rw [o3 0 (by decide), o3 5 (by decide)]
      exact b6
    · rw [hn', setRow_s]
      exact hch2
    · rw [hn', setRow_s]
      exact fun k hk => tal_4 hN hch2 hk
    · rw [hn', ← hn, o3 2 (by decide)]
      unfold nC
      rw [o3 0 (by decide)]
      exact b9
  · obtain ⟨a1, a2, a3⟩ := s1 k hk
    rw [oo 1 (by decide) (by decide), oo 3 (by decide) (by decide), e2, o3 2 (by decide), setRow_s]
    exact ⟨a1, hu2 k hk, a3⟩
  · rw [setRow_s, e4, aab_ext hN hu2, aab_ext hN hu, hu a ha]
    exact lcl_hang s2 h.clo hch ha hyc g1
  · rw [oo 5 (by decide) (by decide)]; exact s3
  · rw [oo 6 (by decide) (by decide), oo 7 (by decide) (by decide)]; exact s4
  · rw [oo 0 (by decide) (by decide)]; exact s5
theorem br_hgC (h : relD D B ts es) (hs : relS D S B row) {a : Nat} {y : Int32} (ha : a < nN D) (hy : isU (nN D) y) : (wth (S 2) (nN D) (nI a) 4 y = false ∧ nI (dep (S 2) (nN D) 4 y) + (nI (hmx (S 2) (nN D) (nI a) (nN D) 0 0) - nI (dep (S 2) (nN D) 4 (nI a)) + nI 1) ≤ nI 4) ↔ hgC (B 3) (nN D) a y = false := by
  have hN := h.N16
  have hch : ∀ k, k < nN D → chn (B 3) (nN D) 4 (nI k) := fun k hk => h.chn hk
  have hu : ∀ k, k < nN D → S 2 k = B 3 k := hs.u
  have he := height_eq h.clo hch ha
  have d1 := dep_le (B 3) (nN D) 4 y
  have d2 := dep_le (B 3) (nN D) 4 (nI a)
  rw [wth_ext hN hu, dep_ext hN hu, dep_ext hN hu, hmx_ext hN hu, hgC, Bool.or_eq_false_iff]
  have e : nI (hmx (B 3) (nN D) (nI a) (nN D) 0 0) - nI (dep (B 3) (nN D) 4 (nI a)) + nI 1 = nI (rch (B 3) (nN D) 4 a) := by
    have e1 : nI (hmx (B 3) (nN D) (nI a) (nN D) 0 0) + nI 1 = nI (dep (B 3) (nN D) 4 (nI a)) + nI (rch (B 3) (nN D) 4 a) := by rw [nI_add, nI_add, he]
    have e2 := congrArg (fun z => z - nI (dep (B 3) (nN D) 4 (nI a))) e1
    rw [show nI (dep (B 3) (nN D) 4 (nI a)) + nI (rch (B 3) (nN D) 4 a) - nI (dep (B 3) (nN D) 4 (nI a)) = nI (rch (B 3) (nN D) 4 a) by rw [Int32.add_comm, Int32.add_sub_cancel]] at e2
    rw [← e2]
    generalize nI (hmx (B 3) (nN D) (nI a) (nN D) 0 0) = p
    generalize nI (dep (B 3) (nN D) 4 (nI a)) = q
    rw [Int32.sub_eq_add_neg, Int32.sub_eq_add_neg]
    ac_rfl
  rw [e, nI_add]
  have hr : rch (B 3) (nN D) 4 a ≤ 1000 := by
    have : ∀ n i acc, hmx (B 3) (nN D) (nI a) n i acc ≤ max acc 4 := by
      intro n
      induction n with
      | zero => exact fun i acc => Nat.le_max_left _ _
      | succ n ih =>
        intro i acc
        rw [hmx]
        have d3 := dep_le (B 3) (nN D) 4 (nI i)
        split
        · have := ih (i + 1) (max acc (dep (B 3) (nN D) 4 (nI i))); omega
        · exact ih (i + 1) acc
    have := this (nN D) 0 0
    omega
  constructor
  · rintro ⟨a1, a2⟩
    refine ⟨a1, ?_⟩
    have := leN a2 (by omega) (by decide)
    simpa using this
  · rintro ⟨a1, a2⟩
    refine ⟨a1, nI_le ?_ (by decide)⟩
    simpa using a2
end RH
section RW
variable {I B : MI} {ts : Nat → Option EX} {es : Nat → EX} {row : Nat → Int32}
theorem rel_tri {S : MI} {r : Nat → Int32} (h : relD (dv I) B ts es) (hs : relS (dv I) (sv 20 I) B row) (t : tri I S) (ha : a35 r row) : relS (dv I) S B r := by
  have hN := h.N16
  have hT := h.1.2.2.1.2
  have hK := h.1.2.2.2.1.2
  obtain ⟨s1, s2, s3, s4, s5⟩ := hs
  obtain ⟨t1, t2, t3, t4, t5⟩ := t
  refine ⟨fun k hk => ?_, ?_, fun a ha2 => ?_, fun k hk => ?_, ?_⟩
  · rw [t2 1 k (by decide) (by decide) (by omega), t2 2 k (by decide) (by decide) (by omega), t2 3 k (by decide) (by decide) (by omega), ha (3 + k) (by omega)]
    exact s1 k hk
  · exact lcl_ext s2 (fun k hk => ha (3 + k) (by omega)) (fun k hk => t2 4 k (by decide) (by decide) (by omega))
  · rw [t3 a (by omega), ha (19 + a) (by omega)]; exact s3 a ha2
  · rw [t4 k (by omega), t5 k (by omega), ha (25 + k) (by omega), ha (30 + k) (by omega)]; exact s4 k hk
  · rw [t1 1 (by decide), t1 2 (by decide), t1 3 (by decide), ha 0 (by decide), ha 1 (by decide), ha 2 (by decide)]; exact s5
theorem tri_rf : tri I (sv 20 I) := by
  refine ⟨fun _ _ => rfl, fun k j a b _ => ?_, fun _ _ => rfl, fun _ _ => rfl, fun _ _ => rfl⟩
  rw [sv, if_pos (by omega)]
theorem a35_rf {r : Nat → Int32} : a35 r r := fun _ _ => rfl
theorem br_un (h : relD (dv I) B ts es) {a : Nat} (ha : a < nT (dv I)) : ∀ (f k : Nat) (S : MI) (r : Nat → Int32), relS (dv I) S B r → unC (dv I) a f k S = unR B ts es a f k r
  | 0, _, _, _, _ => rfl
  | f + 1, k, S, r, hs => by
    rw [unC, unR, (hs.2.2.1 a ha).1, cn_eq h hs ha, br_un h ha f (k + 1) (psF (dv I) 1 S) (psR1 B ts es r) (rel_ps1 h hs)]
theorem br_wk (h : relD (dv I) B ts es) (hs : relS (dv I) (sv 20 I) B row) {n : Nat} {S : MI} {r : Nat → Int32} (t : tri I S) (ha : a35 r row) : wrC (dv I) (psF (dv I) n S) = wrB B (psR B ts es n row) ∧ wrB B (psR B ts es n r) = wrB B (psR B ts es n row) := by
  have e1 := br_wrC h (rel_ps h n S row (rel_tri h hs t a35_rf))
  have e2 := br_wrC h (rel_ps h n S r (rel_tri h hs t ha))
  exact ⟨e1, e2.symm.trans e1⟩
theorem br_wkk (h : relD (dv I) B ts es) (hs : relS (dv I) (sv 20 I) B row) {n k : Nat} (hk : k < nK (dv I)) {S : MI} {r : Nat → Int32} (t : tri I S) (ha : a35 r row) : wrC (dv I) (psF (dv I) n (setRow S 6 (upd (S 6) k (nI 0)))) = wrB B (psR B ts es n (upd row (25 + k) (nI 0))) ∧ wrB B (psR B ts es n (upd r (25 + k) (nI 0))) = wrB B (psR B ts es n (upd row (25 + k) (nI 0))) := by
  have e1 := br_wrC h (rel_ps h n _ _ (rel_rest (rel_tri h hs t a35_rf) h hk))
  have e2 := br_wrC h (rel_ps h n _ _ (rel_rest (rel_tri h hs t ha) h hk))
  exact ⟨e1, e2.symm.trans e1⟩
end RW
