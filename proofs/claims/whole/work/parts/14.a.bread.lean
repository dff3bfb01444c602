/-! The class against the reference: readings -/
theorem dep_ext {u u' : Nat → Int32} {N : Nat} (hN : N ≤ 16) (e : ∀ k, k < N → u' k = u k) : ∀ (f : Nat) (c : Int32), dep u' N f c = dep u N f c
  | 0, _ => rfl
  | f + 1, c => by
    rw [dep, dep]
    by_cases h : has (nI N) c (nI 16) = true
    · obtain ⟨j, j1, rfl⟩ := (has_t (by decide) hN).mp h
      rw [if_pos h, if_pos h, ix_n (by omega), e j j1, dep_ext hN e f]
    · rw [if_neg h, if_neg h]
theorem wth_ext {u u' : Nat → Int32} {N : Nat} {x : Int32} (hN : N ≤ 16) (e : ∀ k, k < N → u' k = u k) : ∀ (f : Nat) (c : Int32), wth u' N x f c = wth u N x f c
  | 0, _ => rfl
  | f + 1, c => by
    rw [wth, wth]
    by_cases h : has (nI N) c (nI 16) = true
    · obtain ⟨j, j1, rfl⟩ := (has_t (by decide) hN).mp h
      rw [if_pos h, if_pos h, ix_n (by omega), e j j1, wth_ext hN e f]
    · rw [if_neg h, if_neg h]
theorem hmx_ext {u u' : Nat → Int32} {N : Nat} {x : Int32} (hN : N ≤ 16) (e : ∀ k, k < N → u' k = u k) : ∀ (n i a : Nat), hmx u' N x n i a = hmx u N x n i a
  | 0, _, _ => rfl
  | n + 1, i, a => by rw [hmx, hmx, wth_ext hN e, dep_ext hN e, hmx_ext hN e n]
theorem abv_ext {u u' : Nat → Int32} {N : Nat} (hN : N ≤ 16) (e : ∀ k, k < N → u' k = u k) (c : Int32) : abv u' N c = abv u N c := by
  rw [abv, abv]
  by_cases h : has (nI N) c (nI 16) = true
  · obtain ⟨j, j1, rfl⟩ := (has_t (by decide) hN).mp h
    rw [if_pos h, if_pos h, ix_n (by omega), e j j1]
  · rw [if_neg h, if_neg h]
theorem stp_ext {u u' : Nat → Int32} {N : Nat} (hN : N ≤ 16) (e : ∀ k, k < N → u' k = u k) : ∀ (f : Nat) (a b : Int32), stpF u' N f a b = stpF u N f a b
  | 0, _, _ => rfl
  | f + 1, a, b => by rw [stpF, stpF, dep_ext hN e, dep_ext hN e, abv_ext hN e, abv_ext hN e, stp_ext hN e f, stp_ext hN e f]
theorem nbr_ext {u u' : Nat → Int32} {N : Nat} {x : Int32} (e : ∀ k, k < N → u' k = u k) : ∀ k, k ≤ N → nbr u' x k = nbr u x k
  | 0, _ => rfl
  | k + 1, h => by rw [nbr, nbr, e k (by omega), nbr_ext e k (by omega)]
theorem frst_ex2 {p q : Nat → Bool} : ∀ n i, (∀ j, i ≤ j → j < i + n → p j = q j) → frst p n i = frst q n i
  | 0, _, _ => rfl
  | n + 1, i, h => by rw [frst, frst, h i (Nat.le_refl _) (by omega), frst_ex2 n (i + 1) (fun j a b => h j (by omega) (by omega))]
theorem sum_any {g : Nat → Int32} {x : Int32} : ∀ z i, (∀ n m, i ≤ n → n < i + z → i ≤ m → m < i + z → g n = g m → n = m) → sumF (fun n => if g n = x then nI 1 else nI 0) z i (nI 0) = b2i (anyB (fun n => decide (g n = x)) z i)
  | 0, _, _ => rfl
  | z + 1, i, h => by
    rw [sumF, anyB, sumF_acc]
    by_cases hx : g i = x
    · rw [if_pos hx, if_pos (decide_eq_true hx), sumF_z z (i + 1) (fun j a b => if_neg (fun q => absurd (h i j (by omega) (by omega) (by omega) (by omega) (hx.trans q.symm)) (by omega)))]
      rfl
    · rw [if_neg hx, if_neg (by rw [decide_eq_false hx]; exact Bool.false_ne_true), sum_any z (i + 1) (fun n m a b c d e => h n m (by omega) (by omega) (by omega) (by omega) e)]
      rw [show nI 0 + nI 0 = nI 0 from rfl]
      exact Int32.zero_add _
/-- the cords that a top cord is over are apart -/
def dsT (B : MI) : Prop := ∀ a, a < nT B → ∀ n m, n < zR B a → m < zR B a → B 5 (9 * a + 1 + n) = B 5 (9 * a + 1 + m) → n = m
section BR
variable {D S B : MI} {ts : Nat → Option EX} {es : Nat → EX} {row : Nat → Int32}
theorem relS.u (hs : relS D S B row) : ∀ k, k < nN D → S 2 k = B 3 k := fun k hk => (hs.1 k hk).2.1
theorem relS.v (hs : relS D S B row) : ∀ k, k < nN D → S 3 k = row (3 + k) := fun k hk => (hs.1 k hk).2.2.1
theorem br_wrC (h : relD D B ts es) (hs : relS D S B row) : wrC D S = wrB B row := by
  rw [wrC, wrB, h.cnt.2.2.1]
  refine sumF_ext _ _ _ (fun j _ hj => ?_)
  rw [(hs.2.2.1 j (by omega)).1, cn_eq h hs (by omega)]
theorem br_cntS (h : relD D B ts es) (hs : relS D S B row) {w : Nat} (h6 : 6 ≤ w) (h11 : w ≤ 11) {L : Int32} : cntS D S w = cntR B row L w := by
  have hc := h.cnt
  rcases (show w = 6 ∨ w = 7 ∨ w = 8 ∨ w = 9 ∨ w = 10 ∨ w = 11 by omega) with rfl | rfl | rfl | rfl | rfl | rfl
  · rw [cntS, cntR, hc.2.1]
    exact sumF_ext _ _ _ (fun j _ hj => hs.v j (by omega))
  · rw [cntS, cntR, hc.2.1]
    refine sumF_ext _ _ _ (fun j _ hj => ?_)
    obtain ⟨w, w1, w2⟩ := (hs.1 j (by omega)).2.2.2
    rw [hs.v j (by omega), w2, kn_eq (by omega)]
    rfl
  · rw [cntS, cntR, hc.2.1]
    refine sumF_ext _ _ _ (fun j _ hj => ?_)
    obtain ⟨w, w1, w2⟩ := (hs.1 j (by omega)).2.2.2
    rw [hs.v j (by omega), w2, tu_eq (by omega)]
    rfl
  · exact br_wrC h hs
  · exact hs.2.2.2.2.2.1
  · exact hs.2.2.2.2.2.2
end BR
section BI
variable {I : MI} {B : MI} {ts : Nat → Option EX} {es : Nat → EX} {row : Nat → Int32}
theorem br_cnt (h : relD (dv I) B ts es) (hs : relS (dv I) (sv 20 I) B row) {w : Nat} (hw : w < 13) {L : Int32} (hL : I 1 1 = L) : cntC I w = cntR B row L w := by
  by_cases h12 : w = 12
  · subst h12; rw [cntC, if_pos rfl]; exact hL
  rw [cntC, if_neg h12]
  by_cases h6 : 6 ≤ w
  · rw [cnt_eq (o := 20) rfl h6 (by omega)]
    exact br_cntS h hs h6 (by omega)
  · have hB := h.2.2.1
    rcases (show w = 0 ∨ w = 1 ∨ w = 2 ∨ w = 3 ∨ w = 4 ∨ w = 5 by omega) with rfl | rfl | rfl | rfl | rfl | rfl
    · exact hs.2.2.2.2.1
    · exact (hB 0 (by decide)).symm
    · exact (hB 1 (by decide)).symm
    · exact (hB 2 (by decide)).symm
    · exact (hB 3 (by decide)).symm
    · exact (hB 4 (by decide)).symm
theorem br_col (h : relD (dv I) B ts es) (hs : relS (dv I) (sv 20 I) B row) {a w : Nat} (ha : a < nC (dv I)) (hw : w < 3) : colT I (nN (dv I)) a w = colR B row a w := by
  have hc := h.cnt
  rcases (show w = 0 ∨ w = 1 ∨ w = 2 by omega) with rfl | rfl | rfl
  · exact (h.2.2.2.1 a ha).symm
  · rw [colT, colR, hc.2.1]
    refine sumF_ext _ _ _ (fun j _ hj => ?_)
    rw [show I 21 j = B 2 j from (hs.1 j (by omega)).1]
  · show sumF (fun i => if I 21 i = nI a then I 23 i else nI 0) (nN (dv I)) 0 (nI 0) = sumF (fun i => if B 2 i = nI a then row (3 + i) else nI 0) (nN B) 0 (nI 0)
    rw [hc.2.1]
    refine sumF_ext _ _ _ (fun j _ hj => ?_)
    rw [show I 21 j = B 2 j from (hs.1 j (by omega)).1, show I 23 j = row (3 + j) from hs.v j (by omega)]
theorem br_u (hs : relS (dv I) (sv 20 I) B row) : ∀ k, k < nN (dv I) → I 22 k = B 3 k := fun k hk => hs.u k hk
theorem br_cor (h : relD (dv I) B ts es) (hs : relS (dv I) (sv 20 I) B row) (hd : dsT B) {c w : Nat} (hc : c < nN (dv I)) (hw : w < 9) : corT I (nN (dv I)) (nT (dv I)) (zS (dv I)) c w = corR B row c w := by
  have hn := h.cnt
  have hk := hs.1 c hc
  obtain ⟨y, y1, y2⟩ := hk.2.2.2
  rcases (show w = 0 ∨ w = 1 ∨ w = 2 ∨ w = 3 ∨ w = 4 ∨ w = 5 ∨ w = 6 ∨ w = 7 ∨ w = 8 by omega) with rfl | rfl | rfl | rfl | rfl | rfl | rfl | rfl | rfl
  · exact hk.1
  · exact hk.2.1
  · rw [corT, corR, hn.2.1, dep_ext h.N16 (br_u hs)]
  · exact hk.2.2.1
  · exact relS.sum h hs hc
  · rw [corT, corR, show I 23 c = row (3 + c) from hk.2.2.1, y2, kn_eq (by omega)]
  · rw [corT, corR, show I 23 c = row (3 + c) from hk.2.2.1, y2, tu_eq (by omega)]
  · show sumF (fun i => if I 22 i = nI c then nI 1 else nI 0) (nN (dv I)) 0 (nI 0) = sumF (fun i => if B 3 i = nI c then nI 1 else nI 0) (nN B) 0 (nI 0)
    rw [hn.2.1]
    refine sumF_ext _ _ _ (fun j _ hj => ?_)
    rw [br_u hs j (by omega)]
  · show sumF (fun i => b2i (anyB (fun n => decide (I (43 + i) n = nI c)) (zS (dv I) i) 0)) (nT (dv I)) 0 (nI 0) = sumF (fun i => ovN (B 5) (nI c) (zR B i) i) (nT B) 0 (nI 0)
    rw [hn.2.2.1]
    refine sumF_ext _ _ _ (fun a _ ha => ?_)
    obtain ⟨t1, t2⟩ := h.2.2.2.2.1 a (by omega)
    rw [ovN, t1, sum_any (zS (dv I) a) 0 (fun n m _ hn _ hm e => hd a (by omega) n m (by omega) (by omega) e)]
    congr 1
    have : ∀ z i, i + z ≤ zS (dv I) a → anyB (fun n => decide (I (43 + a) n = nI c)) z i = anyB (fun n => decide (B 5 (9 * a + 1 + n) = nI c)) z i := by
      intro z
      induction z with
      | zero => exact fun i _ => rfl
      | succ z ih =>
        intro i hi
        have e : I (43 + a) i = B 5 (9 * a + 1 + i) := by
          rw [show 43 + a = 36 + (7 + a) by omega]
          exact t2 i (by omega)
        rw [anyB, anyB, e, ih (i + 1) (by omega)]
    exact this _ 0 (by omega)
theorem br_top (h : relD (dv I) B ts es) (hs : relS (dv I) (sv 20 I) B row) {a w : Nat} (ha : a < nT (dv I)) (hw : w < 4) : topT I (nN (dv I)) a (zS (dv I) a) w = topR B row a w := by
  have e5 : I 25 a = row (19 + a) := (hs.2.2.1 a ha).1
  have ed : cnb (nN (dv I)) (I 24) (I (43 + a)) (zS (dv I) a) = dueB B row a := by
    have := cn_eq h hs ha
    rw [show 43 + a = 36 + (7 + a) by omega]
    exact this
  rcases (show w = 0 ∨ w = 1 ∨ w = 2 ∨ w = 3 by omega) with rfl | rfl | rfl | rfl
  · have hz := h.1.2.2.2.2.2.1 a ha
    have hb := h.2.1.2.2.2.2.2.1 a (by rw [h.cnt.2.2.1]; exact ha)
    exact (show dv I 5 a = nI (zS (dv I) a) from hz.1).trans (by rw [← (h.2.2.2.2.1 a ha).1]; exact hb.1.symm)
  · exact e5
  · exact ed
  · show b2i (wrgB (I 25 a) (cnb (nN (dv I)) (I 24) (I (43 + a)) (zS (dv I) a))) = b2i (wrgB (row (19 + a)) (dueB B row a))
    rw [e5, ed]
theorem br_kee (h : relD (dv I) B ts es) (hs : relS (dv I) (sv 20 I) B row) {k w : Nat} (hk : k < nK (dv I)) (hw : w < 4) : keeT I k w = keeR B row k w := by
  have e6 : I 49 k = B 6 k := (h.2.2.2.2.2.1 k hk).symm
  have e1 : I 26 k = row (25 + k) := (hs.2.2.2.1 k hk).1
  have e2 : I 27 k = row (30 + k) := (hs.2.2.2.1 k hk).2
  rcases (show w = 0 ∨ w = 1 ∨ w = 2 ∨ w = 3 by omega) with rfl | rfl | rfl | rfl
  · exact e6
  · exact e1
  · exact e2
  · show b2i (tooB (I 26 k) (I 49 k)) = b2i (tooB (row (25 + k)) (B 6 k))
    rw [e1, e6]
theorem br_stp (h : relD (dv I) B ts es) (hs : relS (dv I) (sv 20 I) B row) (f : Nat) (x y : Int32) : stpF (I 22) (nN (dv I)) f x y = stpF (B 3) (nN B) f x y := by
  rw [h.cnt.2.1]; exact stp_ext h.N16 (br_u hs) f x y
theorem br_sum (h : relD (dv I) B ts es) (hs : relS (dv I) (sv 20 I) B row) {k : Nat} (hk : k < nN (dv I)) : I 24 k = smB B row k := relS.sum h hs hk
theorem br_find (h : relD (dv I) B ts es) (hs : relS (dv I) (sv 20 I) B row) (x : Int32) : frst (fun i => decide (I 24 i = x)) (nN (dv I)) 0 = frst (fun i => decide (smB B row i = x)) (nN B) 0 := by
  rw [h.cnt.2.1]
  refine frst_ex2 _ _ (fun j _ hj => ?_)
  show decide (I 24 j = x) = decide (smB B row j = x)
  rw [br_sum h hs (by omega)]
theorem br_rnk (h : relD (dv I) B ts es) (hs : relS (dv I) (sv 20 I) B row) {k : Nat} (hk : k < nN (dv I)) : rnk (I 37) (I 21) (nC (dv I)) k = rkR B k := by
  have e : I 21 k = B 2 k := (hs.1 k hk).1
  obtain ⟨j, j1, j2⟩ := h.2.1.2.2.2.2.2.2.2.2 k (by rw [h.cnt.2.1]; exact hk)
  rw [h.cnt.1] at j1
  have hC := h.1.1.2
  rw [rnk, rkR, e, j2, if_pos (has_j j1 (by decide) hC), ix_n (by omega)]
  exact (h.2.2.2.1 j j1).symm
theorem br_oor (h : relD (dv I) B ts es) (hs : relS (dv I) (sv 20 I) B row) : sumF (fun i => b2i (oor (I 37) (I 21) (nC (dv I)) (I 22) i)) (nN (dv I)) 0 (nI 0) = sumF (fun i => b2i (jmR B i)) (nN B) 0 (nI 0) := by
  rw [h.cnt.2.1]
  refine sumF_ext _ _ _ (fun i _ hi => ?_)
  have hi : i < nN (dv I) := by omega
  have e1 : nbr (I 22) (I 22 i) i = nbr (B 3) (B 3 i) i := by rw [br_u hs i hi]; exact nbr_ext (br_u hs) i (by omega)
  congr 1
  rw [oor, jmR, e1, br_rnk h hs hi]
  by_cases hn : nbr (B 3) (B 3 i) i < 0
  · rw [if_pos hn, if_pos hn]
  · rw [if_neg hn, if_neg hn]
    have hb : ∀ k, k ≤ i → ¬ nbr (B 3) (B 3 i) k < 0 → ∃ j, j < k ∧ nbr (B 3) (B 3 i) k = nI j := by
      intro k
      induction k with
      | zero => exact fun _ q => absurd (show (-1 : Int32) < 0 by decide) q
      | succ k ih =>
        intro hk q
        rw [nbr] at q ⊢
        by_cases e : B 3 k = B 3 i
        · rw [if_pos e]; exact ⟨k, by omega, rfl⟩
        · rw [if_neg e] at q ⊢
          obtain ⟨j, j1, j2⟩ := ih (by omega) q
          exact ⟨j, by omega, j2⟩
    obtain ⟨j, j1, j2⟩ := hb i (Nat.le_refl _) hn
    rw [j2, ix_n (by have := h.N16; omega), br_rnk h hs (by omega)]
end BI
