/-! The class against the reference: order, mean, digest -/
def cntB (p : Nat → Bool) : Nat → Nat → Nat
  | 0, _ => 0
  | n + 1, i => (if p i then 1 else 0) + cntB p n (i + 1)
theorem cntB_le (p : Nat → Bool) : ∀ n i, cntB p n i ≤ n
  | 0, _ => Nat.le_refl _
  | n + 1, i => by
    rw [cntB]
    have := cntB_le p n (i + 1)
    split <;> omega
theorem sumF_cnt (p : Nat → Bool) : ∀ n i a, sumF (fun k => b2i (p k)) n i (nI a) = nI (a + cntB p n i)
  | 0, _, _ => rfl
  | n + 1, i, a => by
    rw [sumF, cntB]
    cases h : p i with
    | false =>
      rw [show b2i false = nI 0 from rfl, add0, sumF_cnt p n, if_neg Bool.false_ne_true, Nat.zero_add]
    | true =>
      rw [show b2i true = nI 1 from rfl, nI_add, sumF_cnt p n, if_pos rfl, Nat.add_assoc]
theorem cntB_mono {p q : Nat → Bool} : ∀ n i, (∀ j, i ≤ j → j < i + n → p j = true → q j = true) → cntB p n i ≤ cntB q n i
  | 0, _, _ => Nat.le_refl _
  | n + 1, i, h => by
    rw [cntB, cntB]
    have h1 := cntB_mono n (i + 1) (fun j a b => h j (by omega) (by omega))
    cases hp : p i with
    | false =>
      rw [if_neg Bool.false_ne_true]
      split <;> omega
    | true => rw [if_pos rfl, if_pos (h i (Nat.le_refl _) (by omega) hp)]; omega
theorem cntB_lt {p q : Nat → Bool} {c : Nat} : ∀ n i, (∀ j, i ≤ j → j < i + n → p j = true → q j = true) → i ≤ c → c < i + n → p c = false → q c = true → cntB p n i < cntB q n i
  | 0, _, _, a, b, _, _ => by omega
  | n + 1, i, h, a, b, hp, hq => by
    rw [cntB, cntB]
    by_cases e : i = c
    · subst e
      rw [hp, hq, if_neg Bool.false_ne_true, if_pos rfl]
      have := cntB_mono n (i + 1) (fun j a b => h j (by omega) (by omega))
      omega
    · have := cntB_lt n (i + 1) (fun j a b => h j (by omega) (by omega)) (by omega) (by omega) hp hq
      have h2 : (if p i = true then 1 else 0) ≤ (if q i = true then 1 else 0) := by
        cases hp : p i with
        | false => rw [if_neg Bool.false_ne_true]; exact Nat.zero_le _
        | true => rw [if_pos rfl, if_pos (h i (Nat.le_refl _) (by omega) hp)]; exact Nat.le_refl _
      omega
theorem lst_no {p : Nat → Bool} : ∀ n i b, (∀ j, i ≤ j → j < i + n → p j = false) → lst p n i b = b
  | 0, _, _, _ => rfl
  | n + 1, i, b, h => by rw [lst, h i (Nat.le_refl _) (by omega), if_neg Bool.false_ne_true, lst_no n (i + 1) b (fun j a c => h j (by omega) (by omega))]
theorem lst_frst {p : Nat → Bool} : ∀ n i, (∀ j k, i ≤ j → j < i + n → i ≤ k → k < i + n → p j = true → p k = true → j = k) → lst p n i (-1) = frst p n i
  | 0, _, _ => rfl
  | n + 1, i, h => by
    rw [lst, frst]
    cases hp : p i with
    | false =>
      rw [if_neg Bool.false_ne_true, if_neg Bool.false_ne_true]
      exact lst_frst n (i + 1) (fun j k a b c d => h j k (by omega) (by omega) (by omega) (by omega))
    | true =>
      rw [if_pos rfl, if_pos rfl]
      refine lst_no n (i + 1) _ (fun j a b => ?_)
      cases hj : p j with
      | false => rfl
      | true => exact absurd (h i j (by omega) (by omega) (by omega) (by omega) hp hj) (by omega)
section OB
variable {B : MI} {row : Nat → Int32}
theorem ahR_i (i k : Nat) : ahR B row i k = true ↔ ((rkR B i).toInt < (rkR B k).toInt ∨ ((rkR B i).toInt = (rkR B k).toInt ∧ ((smB B row k).toInt < (smB B row i).toInt ∨ ((smB B row k).toInt = (smB B row i).toInt ∧ i < k)))) := by
  rw [ahR]
  by_cases h1 : rkR B i = rkR B k
  · rw [if_pos h1, h1]
    by_cases h2 : smB B row i = smB B row k
    · rw [if_pos h2, h2, decide_eq_true_iff]
      omega
    · rw [if_neg h2, decide_eq_true_iff, Int32.lt_iff_toInt_lt]
      have h3 : ¬ (smB B row k).toInt = (smB B row i).toInt := fun q => h2 (Int32.toInt_inj.mp q).symm
      omega
  · rw [if_neg h1, decide_eq_true_iff, Int32.lt_iff_toInt_lt]
    have h3 : ¬ (rkR B i).toInt = (rkR B k).toInt := fun q => h1 (Int32.toInt_inj.mp q)
    omega
theorem ahR_irr (k : Nat) : ahR B row k k = false := by
  cases h : ahR B row k k with
  | false => rfl
  | true => have := (ahR_i k k).mp h; omega
theorem ahR_tr {i j k : Nat} (h1 : ahR B row i j = true) (h2 : ahR B row j k = true) : ahR B row i k = true := by
  have a := (ahR_i i j).mp h1
  have b := (ahR_i j k).mp h2
  exact (ahR_i i k).mpr (by omega)
theorem ahR_tot {i k : Nat} (h : ¬ i = k) : ahR B row i k = true ∨ ahR B row k i = true := by
  rcases (show ((rkR B i).toInt < (rkR B k).toInt ∨ ((rkR B i).toInt = (rkR B k).toInt ∧ ((smB B row k).toInt < (smB B row i).toInt ∨ ((smB B row k).toInt = (smB B row i).toInt ∧ i < k)))) ∨ ((rkR B k).toInt < (rkR B i).toInt ∨ ((rkR B k).toInt = (rkR B i).toInt ∧ ((smB B row i).toInt < (smB B row k).toInt ∨ ((smB B row i).toInt = (smB B row k).toInt ∧ k < i)))) by omega) with q | q
  · exact Or.inl ((ahR_i i k).mpr q)
  · exact Or.inr ((ahR_i k i).mpr q)
def plc (B : MI) (row : Nat → Int32) (N i : Nat) : Nat := cntB (fun k => ahR B row k i) N 0
theorem plc_lt {N i k : Nat} (hi : i < N) (h : ahR B row i k = true) : plc B row N i < plc B row N k :=
  cntB_lt N 0 (fun j _ _ hj => ahR_tr hj h) (Nat.zero_le _) (by omega) (ahR_irr i) h
theorem plc_inj {N i k : Nat} (hi : i < N) (hk : k < N) (h : plc B row N i = plc B row N k) : i = k := by
  by_cases e : i = k
  · exact e
  · rcases ahR_tot (B := B) (row := row) e with q | q
    · have := plc_lt hi q; omega
    · have := plc_lt hk q; omega
end OB
section BI2
variable {I : MI} {B : MI} {ts : Nat → Option EX} {es : Nat → EX} {row : Nat → Int32}
theorem br_ahd (h : relD (dv I) B ts es) (hs : relS (dv I) (sv 20 I) B row) {i k : Nat} (hi : i < nN (dv I)) (hk : k < nN (dv I)) : ahd (I 37) (I 21) (nC (dv I)) (I 24) i k = ahR B row i k := by
  rw [ahd, ahR, br_rnk h hs hi, br_rnk h hs hk, br_sum h hs hi, br_sum h hs hk]
theorem br_ord (h : relD (dv I) B ts es) (hs : relS (dv I) (sv 20 I) B row) (x : Int32) : frst (fun i => decide (sumF (fun k => b2i (ahd (I 37) (I 21) (nC (dv I)) (I 24) k i)) (nN (dv I)) 0 (nI 0) = x)) (nN (dv I)) 0 = lst (fun k => decide (sumF (fun i => if i = k then nI 0 else b2i (ahR B row i k)) (nN B) 0 (nI 0) = x)) (nN B) 0 (-1) := by
  have hN := h.N16
  rw [h.cnt.2.1]
  have e1 : ∀ k, k < nN (dv I) → sumF (fun i => if i = k then nI 0 else b2i (ahR B row i k)) (nN (dv I)) 0 (nI 0) = nI (plc B row (nN (dv I)) k) := by
    intro k hk
    rw [plc, ← Nat.zero_add (cntB _ _ _), ← sumF_cnt]
    refine sumF_ext _ _ _ (fun j _ hj => ?_)
    by_cases e : j = k
    · rw [if_pos e, e, ahR_irr]; rfl
    · rw [if_neg e]
  have e2 : ∀ k, k < nN (dv I) → sumF (fun j => b2i (ahd (I 37) (I 21) (nC (dv I)) (I 24) j k)) (nN (dv I)) 0 (nI 0) = nI (plc B row (nN (dv I)) k) := by
    intro k hk
    rw [plc, ← Nat.zero_add (cntB _ _ _), ← sumF_cnt]
    refine sumF_ext _ _ _ (fun j _ hj => ?_)
    rw [br_ahd h hs (by omega) hk]
  rw [lst_frst]
  · refine frst_ex2 _ _ (fun j _ hj => ?_)
    show decide (_ = x) = decide (_ = x)
    rw [e1 j (by omega), e2 j (by omega)]
  · intro j k _ hj _ hk pj pk
    have pj := of_decide_eq_true pj
    have pk := of_decide_eq_true pk
    rw [e1 j (by omega)] at pj
    rw [e1 k (by omega)] at pk
    have l1 := cntB_le (fun i => ahR B row i j) (nN (dv I)) 0
    have l2 := cntB_le (fun i => ahR B row i k) (nN (dv I)) 0
    exact plc_inj (N := nN (dv I)) (by omega) (by omega) (eqN (pj.trans pk.symm) (by unfold plc; omega) (by unfold plc; omega))
end BI2
theorem nI_nm {k : Nat} (hk : k < 2 ^ 31) : ¬ nI k = -1 := fun q => nI_pos hk (by rw [q]; decide)
theorem sumF_zz : ∀ n i, sumF (fun _ => nI 0) n i (nI 0) = nI 0 := fun n i => sumF_z n i (fun _ _ _ => rfl)
theorem sumF_swap {f : Nat → Nat → Int32} {m j0 : Nat} : ∀ n i, sumF (fun k => sumF (fun j => f k j) m j0 (nI 0)) n i (nI 0) = sumF (fun j => sumF (fun k => f k j) n i (nI 0)) m j0 (nI 0)
  | 0, i => (sumF_zz m j0).symm
  | n + 1, i => by
    rw [sumF, sumF_acc, sumF_swap n (i + 1), show nI 0 + sumF (fun j => f i j) m j0 (nI 0) = sumF (fun j => f i j) m j0 (nI 0) from Int32.zero_add _, ← sumF_add]
    refine sumF_ext _ _ _ (fun j _ _ => ?_)
    show f i j + sumF (fun k => f k j) n (i + 1) (nI 0) = sumF (fun k => f k j) n (i + 1) (nI 0 + f i j)
    rw [show nI 0 + f i j = f i j from Int32.zero_add _]
    exact (sumF_acc _ n (i + 1) (f i j)).symm
theorem root_sum {u v s : Nat → Int32} {N : Nat} (h : lcl u v s N) (hc : clo u N) : sumF v N 0 (nI 0) = sumF (fun j => if u j = -1 then s j else nI 0) N 0 (nI 0) := by
  have h1 : sumF s N 0 (nI 0) = sumF v N 0 (nI 0) + sumF (fun j => if u j = -1 then nI 0 else s j) N 0 (nI 0) := by
    have e : sumF s N 0 (nI 0) = sumF (fun k => v k + sumF (fun j => if u j = nI k then s j else nI 0) N 0 (nI 0)) N 0 (nI 0) :=
      sumF_ext _ _ _ (fun k _ hk => by rw [h k (by omega), sumF_acc])
    rw [e, sumF_add, sumF_swap]
    congr 1
    refine sumF_ext _ _ _ (fun j _ hj => ?_)
    rcases hc.2 j (by omega) with q | ⟨i, i1, i2⟩
    · rw [if_pos q]
      exact sumF_z _ _ (fun k _ hk => if_neg (fun r => nI_nm (k := k) (by have := hc.1; omega) (r.symm.trans q)))
    · have hm : ¬ u j = -1 := fun q => nI_nm (k := i) (by have := hc.1; omega) (i2.symm.trans q)
      rw [if_neg hm]
      have e2 : sumF (fun k => if u j = nI k then s j else nI 0) N 0 (nI 0) = sumF (fun k => if k = i then s j else nI 0) N 0 (nI 0) :=
        sumF_ext _ _ _ (fun k _ hk => by
          by_cases e : k = i
          · rw [if_pos e, e, if_pos i2]
          · rw [if_neg e, if_neg (fun q => e (eqN (q.symm.trans i2) (by have := hc.1; omega) (by have := hc.1; omega)))])
      rw [e2, sumF_pick, if_pos ⟨Nat.zero_le _, by omega⟩]
  have h2 : sumF s N 0 (nI 0) = sumF (fun j => if u j = -1 then s j else nI 0) N 0 (nI 0) + sumF (fun j => if u j = -1 then nI 0 else s j) N 0 (nI 0) := by
    rw [← sumF_add]
    refine sumF_ext _ _ _ (fun j _ _ => ?_)
    by_cases q : u j = -1
    · rw [if_pos q, if_pos q, add0]
    · rw [if_neg q, if_neg q]; exact (Int32.zero_add _).symm
  have h3 := congrArg (fun z => z - sumF (fun j => if u j = -1 then nI 0 else s j) N 0 (nI 0)) (h1.symm.trans h2)
  simpa only [Int32.add_sub_cancel] using h3
section BI3
variable {I : MI} {B : MI} {ts : Nat → Option EX} {es : Nat → EX} {row : Nat → Int32}
theorem br_mean (h : relD (dv I) B ts es) (hs : relS (dv I) (sv 20 I) B row) : meD (sumF (fun i => if I 22 i = -1 then nI 1 else nI 0) (nN (dv I)) 0 (nI 0)) (sumF (fun i => I 23 i) (nN (dv I)) 0 (nI 0)) = meD (rtN B) (rtS B row) := by
  have e1 : sumF (fun i => if I 22 i = -1 then nI 1 else nI 0) (nN (dv I)) 0 (nI 0) = rtN B := by
    rw [rtN, h.cnt.2.1]
    exact sumF_ext _ _ _ (fun j _ hj => by rw [br_u hs j (by omega)])
  have e2 : sumF (fun i => I 23 i) (nN (dv I)) 0 (nI 0) = rtS B row := by
    have e3 : sumF (fun i => I 23 i) (nN (dv I)) 0 (nI 0) = sumF (rv row) (nN (dv I)) 0 (nI 0) := sumF_ext _ _ _ (fun j _ hj => hs.v j (by omega))
    rw [e3, root_sum hs.2.1 h.clo, rtS, h.cnt.2.1]
    refine sumF_ext _ _ _ (fun j _ hj => ?_)
    rw [show sv 20 I 4 j = smB B row j from br_sum h hs (by omega)]
  rw [e1, e2]
theorem dgS_ext {f g : Nat → Int32} : ∀ n i d, (∀ j, i ≤ j → j < i + n → f j = g j) → dgS f n i d = dgS g n i d
  | 0, _, _, _ => rfl
  | n + 1, i, d, h => by rw [dgS, dgS, h i (Nat.le_refl _) (by omega), dgS_ext n (i + 1) _ (fun j a b => h j (by omega) (by omega))]
theorem br_dg (h : relD (dv I) B ts es) (hs : relS (dv I) (sv 20 I) B row) (hd : dsT B) {L : Int32} (hL : I 1 1 = L) : dgC I = dgR B row L (sumF (fun i => b2i (jmR B i)) (nN B) 0 (nI 0)) := by
  obtain ⟨c1, c2, c3, c4, c5⟩ := h.cnt
  rw [dgC, dgR, br_oor h hs, c1, c3, c4]
  rw [show 9 * nN B = 9 * nN (dv I) by rw [c2]]
  rw [dgS_ext 13 0 _ (fun j _ hj => br_cnt h hs (by omega) hL)]
  rw [dgS_ext (3 * nC (dv I)) 0 _ (fun j _ hj => br_col h hs (a := j / 3) (w := j % 3) (by omega) (by omega))]
  rw [dgS_ext (9 * nN (dv I)) 0 _ (fun j _ hj => br_cor h hs hd (c := j / 9) (w := j % 9) (by omega) (by omega))]
  rw [dgS_ext (4 * nT (dv I)) 0 _ (fun j _ hj => br_top h hs (a := j / 4) (w := j % 4) (by omega) (by omega))]
  rw [dgS_ext (4 * nK (dv I)) 0 _ (fun j _ hj => br_kee h hs (k := j / 4) (w := j % 4) (by omega) (by omega))]
end BI3
