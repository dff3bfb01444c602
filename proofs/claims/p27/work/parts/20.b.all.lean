/-! The class alone: what its answers have to do with each other -/
section SV
variable {I : MI}
theorem sv_up {k a : Nat} {v : Int32} (h : k < 8) : sv 20 (up2 I (20 + k) a v) = setRow (sv 20 I) k (upd (I (20 + k)) a v) := by
  have e : up2 I (20 + k) a v = setRow I (20 + k) (upd (I (20 + k)) a v) := by
    funext x j
    by_cases h1 : x = 20 + k
    · subst h1
      rw [setRow_s]
      simp [up2, upd]
    · rw [setRow_o h1]
      exact congrFun (up2_o h1) j
  rw [e, sv_row h]
end SV
section HD
variable {D S : MI} {T0 C0 : Nat}
theorem okS.dye (h : okS D S T0 C0) {a b : Nat} (hb : b < nC D) : okS D (setRow S 1 (upd (S 1) a (nI b))) T0 C0 := by
  unfold okS
  rw [setRow_s, setRow_o (a := 1) (b := 2) (by decide), setRow_o (a := 1) (b := 3) (by decide), setRow_o (a := 1) (b := 4) (by decide), setRow_o (a := 1) (b := 5) (by decide), setRow_o (a := 1) (b := 6) (by decide), setRow_o (a := 1) (b := 0) (by decide)]
  refine ⟨fun k hk => ⟨?_, (h.1 k hk).2⟩, h.2⟩
  by_cases e : k = a
  · subst e
    exact ⟨b, hb, upd_s⟩
  · rw [upd_n e]
    exact (h.1 k hk).1
theorem okS.rest (h : okS D S T0 C0) {a : Nat} : okS D (setRow S 6 (upd (S 6) a (nI 0))) T0 C0 := by
  refine h.rows (fun j j1 j2 => setRow_o (by omega)) (fun k hk => ?_) ?_
  · rw [setRow_s]
    by_cases e : k = a
    · subst e
      exact ⟨0, Nat.zero_le _, upd_s⟩
    · rw [upd_n e]
      exact h.2.2.2.1 k hk
  · rw [setRow_o (by decide)]
    exact h.2.2.2.2
theorem okS.hang (h : okS D S T0 C0) (hD : tdOK D) {a : Nat} {y : Int32} (ha : a < nN D) (hy : isU (nN D) y) (hb : wth (S 2) (nN D) (nI a) 4 y = false) (hd : dep (S 2) (nN D) 4 y + rch (S 2) (nN D) 4 a ≤ 4) : okS D (setRow (setRow (setRow S 4 (aab (S 2) (nN D) 4 (S 2 a) (-(S 4 a)) (S 4))) 2 (upd (S 2) a y)) 4 (aab (upd (S 2) a y) (nN D) 4 y (aab (S 2) (nN D) 4 (S 2 a) (-(S 4 a)) (S 4) a) (aab (S 2) (nN D) 4 (S 2 a) (-(S 4 a)) (S 4)))) T0 C0 := by
  have hch : ∀ k, k < nN D → chn (S 2) (nN D) 4 (nI k) := fun k hk => (h.1 k hk).2.2
  have hcy := isU_chn hch hy
  unfold okS
  rw [setRow_s, setRow_o (a := 4) (b := 1) (by decide), setRow_o (a := 4) (b := 2) (by decide), setRow_o (a := 4) (b := 3) (by decide), setRow_o (a := 4) (b := 5) (by decide), setRow_o (a := 4) (b := 6) (by decide), setRow_o (a := 4) (b := 0) (by decide), setRow_s, setRow_o (a := 2) (b := 1) (by decide), setRow_o (a := 2) (b := 3) (by decide), setRow_o (a := 2) (b := 5) (by decide), setRow_o (a := 2) (b := 6) (by decide), setRow_o (a := 2) (b := 0) (by decide), setRow_o (a := 4) (b := 1) (by decide), setRow_o (a := 4) (b := 3) (by decide), setRow_o (a := 4) (b := 5) (by decide), setRow_o (a := 4) (b := 6) (by decide), setRow_o (a := 4) (b := 0) (by decide)]
  exact ⟨fun k hk => ⟨(h.1 k hk).1, (h.1 k hk).2.1, chn_hang (h.clo hD) hch ha hcy hb hd k hk⟩, lcl_hang h.2.1 (h.clo hD) hch ha hcy hb, h.2.2⟩
/-- the hand's own condition, by depth and height -/
theorem hang_le {u : Nat → Int32} {N a : Nat} {y : Int32} (hc : clo u N) (hch : ∀ k, k < N → chn u N 4 (nI k)) (ha : a < N) : nI (dep u N 4 y) + (nI (hmx u N (nI a) N 0 0) - nI (dep u N 4 (nI a)) + nI 1) = nI (dep u N 4 y + rch u N 4 a) := by
  have e := height_eq hc hch ha
  have p := rch_pos (u := u) (N := N) (f := 4) (c := a) (by decide)
  rw [pk_sub (by omega), nI_add, nI_add, show hmx u N (nI a) N 0 0 - dep u N 4 (nI a) + 1 = rch u N 4 a by omega]
end HD
/-! what would be -/
theorem tri_eq {I S : MI} (hD : tdOK (dv I)) (h : tri I S) : eqS (dv I) (sv 20 I) S := by
  obtain ⟨t1, t2, t3, t4, t5⟩ := h
  have hN := hD.2.1.2
  have hT := hD.2.2.1.2
  have hK := hD.2.2.2.1.2
  refine ⟨fun k hk => ⟨t2 1 k (by decide) (by decide) (by omega), t2 2 k (by decide) (by decide) (by omega), t2 3 k (by decide) (by decide) (by omega), t2 4 k (by decide) (by decide) (by omega)⟩, fun a ha => t3 a (by omega), fun k hk => ⟨t4 k (by omega), t5 k (by omega)⟩, t1 1 (by decide), t1 2 (by decide), t1 3 (by decide)⟩
theorem unC_rng {D : MI} {a : Nat} : ∀ (f k : Nat) (S : MI), unC D a f k S = -1 ∨ ∃ j, k ≤ j ∧ j < k + f ∧ unC D a f k S = nI j
  | 0, k, S => Or.inl rfl
  | f + 1, k, S => by
    rw [unC]
    split
    · exact Or.inr ⟨k, Nat.le_refl _, by omega, rfl⟩
    · rcases unC_rng (D := D) (a := a) f (k + 1) (psF D 1 S) with q | ⟨j, j1, j2, j3⟩
      · exact Or.inl q
      · exact Or.inr ⟨j, by omega, by omega, j3⟩
theorem unC_0 {D S : MI} {a : Nat} : unC D a 151 0 S = 0 ↔ wrgB (S 5 a) (cnb (nN D) (S 4) (D (7 + a)) (zS D a)) = true := by
  rw [unC]
  by_cases c : wrgB (S 5 a) (cnb (nN D) (S 4) (D (7 + a)) (zS D a)) = true
  · rw [if_pos c]
    exact ⟨fun _ => c, fun _ => rfl⟩
  · rw [if_neg c]
    refine ⟨fun q => ?_, fun q => absurd q c⟩
    rcases unC_rng (D := D) (a := a) 150 (0 + 1) (psF D 1 S) with r | ⟨j, j1, j2, j3⟩
    · rw [r] at q
      exact absurd q (by decide)
    · rw [j3] at q
      have : j = 0 := (nI_eq (a := j) (b := 0) (by omega) (by decide)).mp q
      omega
theorem adF_rng {wk : Nat → Int32} : ∀ (f k : Nat) (b l : Int32), (b = -1 ∨ ∃ j, j < k ∧ b = nI j) → adF wk f k b l = -1 ∨ ∃ j, j < k + f ∧ adF wk f k b l = nI j
  | 0, k, b, l, h => h
  | f + 1, k, b, l, h => by
    rw [adF]
    split
    · rcases adF_rng (wk := wk) f (k + 1) (nI k) (wk k) (Or.inr ⟨k, by omega, rfl⟩) with q | ⟨j, j1, j2⟩
      · exact Or.inl q
      · exact Or.inr ⟨j, by omega, j2⟩
    · rcases adF_rng (wk := wk) f (k + 1) b l (h.imp id (fun ⟨j, j1, j2⟩ => ⟨j, by omega, j2⟩)) with q | ⟨j, j1, j2⟩
      · exact Or.inl q
      · exact Or.inr ⟨j, by omega, j2⟩
theorem colT_c {I I' : MI} (e : ∀ a, a = 37 ∨ a = 21 ∨ a = 23 → I' a = I a) : colT I' = colT I := by
  funext N a w
  rcases w with _ | _ | w <;> simp only [colT, e 37 (by decide), e 21 (by decide), e 23 (by decide)]
theorem keeT_c {I I' : MI} (e : ∀ a, a = 49 ∨ a = 26 ∨ a = 27 → I' a = I a) : keeT I' = keeT I := by
  funext a w
  rcases w with _ | _ | _ | w <;> simp only [keeT, e 49 (by decide), e 26 (by decide), e 27 (by decide)]
theorem dgS_c {f g : Nat → Int32} : ∀ (n i : Nat) (d : Int64), (∀ j, i ≤ j → j < i + n → f j = g j) → dgS f n i d = dgS g n i d
  | 0, _, _, _ => rfl
  | n + 1, i, d, h => by rw [dgS, dgS, h i (Nat.le_refl _) (by omega), dgS_c n (i + 1) _ (fun j a b => h j (by omega) (by omega))]
theorem dg_out {I I' : MI} (hT : nT (dv I) ≤ 6) (h : out28 I I') : dgC I' = dgC I := by
  have e : ∀ a, a < 17 ∨ (19 ≤ a ∧ a < 28) ∨ 36 ≤ a → I' a = I a := fun a ha => h a (by omega) (by omega) (by omega)
  have r : ∀ a, a < nT (dv I) → I' (43 + a) = I (43 + a) := fun a _ => e (43 + a) (by omega)
  have hk := keeT_c (I := I) (I' := I') (fun a ha => e a (by omega))
  have hc := colT_c (I := I) (I' := I') (fun a ha => e a (by omega))
  unfold dgC
  rw [h.dv, hk, hc, e 37 (by omega), e 21 (by omega), e 22 (by omega)]
  have h1 : dgS (cntC I') 13 0 877 = dgS (cntC I) 13 0 877 := dgS_c _ _ _ (fun j _ hj => by
    have h9 : sumF (fun i => b2i (wrgB (I' (20 + 5) i) (cnb (nN (dv I)) (I' (20 + 4)) (I' (43 + i)) (zS (dv I) i)))) (nT (dv I)) 0 (nI 0) = sumF (fun i => b2i (wrgB (I (20 + 5) i) (cnb (nN (dv I)) (I (20 + 4)) (I (43 + i)) (zS (dv I) i)))) (nT (dv I)) 0 (nI 0) := sumF_ext _ _ _ (fun i _ hi => by rw [e 25 (by omega), e 24 (by omega), r i (by omega)])
    unfold cntC
    rw [h.dv, e 1 (by omega)]
    by_cases c : j = 12
    · rw [if_pos c, if_pos c]
    · rw [if_neg c, if_neg c]
      rcases (show j = 0 ∨ j = 1 ∨ j = 2 ∨ j = 3 ∨ j = 4 ∨ j = 5 ∨ j = 6 ∨ j = 7 ∨ j = 8 ∨ j = 9 ∨ j = 10 ∨ j = 11 by omega) with rfl | rfl | rfl | rfl | rfl | rfl | rfl | rfl | rfl | rfl | rfl | rfl <;> simp only [cntT, e 20 (by omega), e 36 (by omega), show (20 + 3 : Nat) = 23 from rfl, e 23 (by omega)]
      exact h9)
  have h2 : ∀ d, dgS (fun i => corT I' (nN (dv I)) (nT (dv I)) (zS (dv I)) (i / 9) (i % 9)) (9 * nN (dv I)) 0 d = dgS (fun i => corT I (nN (dv I)) (nT (dv I)) (zS (dv I)) (i / 9) (i % 9)) (9 * nN (dv I)) 0 d := fun d => dgS_c _ _ _ (fun j _ hj => by
    show corT I' (nN (dv I)) (nT (dv I)) (zS (dv I)) (j / 9) (j % 9) = corT I (nN (dv I)) (nT (dv I)) (zS (dv I)) (j / 9) (j % 9)
    have h8 : sumF (fun i => b2i (anyB (fun n => decide (I' (43 + i) n = nI (j / 9))) (zS (dv I) i) 0)) (nT (dv I)) 0 (nI 0) = sumF (fun i => b2i (anyB (fun n => decide (I (43 + i) n = nI (j / 9))) (zS (dv I) i) 0)) (nT (dv I)) 0 (nI 0) := sumF_ext _ _ _ (fun i _ hi => by rw [r i (by omega)])
    have hm : j % 9 < 9 := Nat.mod_lt _ (by decide)
    rcases (show j % 9 = 0 ∨ j % 9 = 1 ∨ j % 9 = 2 ∨ j % 9 = 3 ∨ j % 9 = 4 ∨ j % 9 = 5 ∨ j % 9 = 6 ∨ j % 9 = 7 ∨ j % 9 = 8 by omega) with q | q | q | q | q | q | q | q | q <;> rw [q] <;> simp only [corT, e 21 (by omega), e 22 (by omega), e 23 (by omega), e 24 (by omega)]
    exact h8)
  have h3 : ∀ d, dgS (fun i => topT I' (nN (dv I)) (i / 4) (zS (dv I) (i / 4)) (i % 4)) (4 * nT (dv I)) 0 d = dgS (fun i => topT I (nN (dv I)) (i / 4) (zS (dv I) (i / 4)) (i % 4)) (4 * nT (dv I)) 0 d := fun d => dgS_c _ _ _ (fun j _ hj => by
    show topT I' (nN (dv I)) (j / 4) (zS (dv I) (j / 4)) (j % 4) = topT I (nN (dv I)) (j / 4) (zS (dv I) (j / 4)) (j % 4)
    have hm : j % 4 < 4 := Nat.mod_lt _ (by decide)
    have r4 := r (j / 4) (by omega)
    rcases (show j % 4 = 0 ∨ j % 4 = 1 ∨ j % 4 = 2 ∨ j % 4 = 3 by omega) with q | q | q | q <;> rw [q] <;> simp only [topT, e 41 (by omega), e 25 (by omega), e 24 (by omega), r4])
  rw [h1, h2, h3]
/-! order -/
section OA
variable {rk co s : Nat → Int32} {C : Nat}
theorem ahd_i (i k : Nat) : ahd rk co C s i k = true ↔ ((rnk rk co C i).toInt < (rnk rk co C k).toInt ∨ ((rnk rk co C i).toInt = (rnk rk co C k).toInt ∧ ((s k).toInt < (s i).toInt ∨ ((s k).toInt = (s i).toInt ∧ i < k)))) := by
  rw [ahd]
  by_cases h1 : rnk rk co C i = rnk rk co C k
  · rw [if_pos h1, h1]
    by_cases h2 : s i = s k
    · rw [if_pos h2, h2, decide_eq_true_iff]
      omega
    · rw [if_neg h2, decide_eq_true_iff, Int32.lt_iff_toInt_lt]
      have h3 : ¬ (s k).toInt = (s i).toInt := fun q => h2 (Int32.toInt_inj.mp q).symm
      omega
  · rw [if_neg h1, decide_eq_true_iff, Int32.lt_iff_toInt_lt]
    have h3 : ¬ (rnk rk co C i).toInt = (rnk rk co C k).toInt := fun q => h1 (Int32.toInt_inj.mp q)
    omega
theorem ahd_irr (k : Nat) : ahd rk co C s k k = false := by
  cases h : ahd rk co C s k k with
  | false => rfl
  | true => have := (ahd_i k k).mp h; omega
theorem ahd_tr {i j k : Nat} (h1 : ahd rk co C s i j = true) (h2 : ahd rk co C s j k = true) : ahd rk co C s i k = true := by
  have a := (ahd_i i j).mp h1
  have b := (ahd_i j k).mp h2
  exact (ahd_i i k).mpr (by omega)
theorem ahd_tot {i k : Nat} (h : ¬ i = k) : ahd rk co C s i k = true ∨ ahd rk co C s k i = true := by
  rcases (show ((rnk rk co C i).toInt < (rnk rk co C k).toInt ∨ ((rnk rk co C i).toInt = (rnk rk co C k).toInt ∧ ((s k).toInt < (s i).toInt ∨ ((s k).toInt = (s i).toInt ∧ i < k)))) ∨ ((rnk rk co C k).toInt < (rnk rk co C i).toInt ∨ ((rnk rk co C k).toInt = (rnk rk co C i).toInt ∧ ((s i).toInt < (s k).toInt ∨ ((s i).toInt = (s k).toInt ∧ k < i)))) by omega) with q | q
  · exact Or.inl ((ahd_i i k).mpr q)
  · exact Or.inr ((ahd_i k i).mpr q)
def plA (rk co s : Nat → Int32) (C N i : Nat) : Nat := cntB (fun k => ahd rk co C s k i) N 0
theorem plA_lt {N i k : Nat} (hi : i < N) (h : ahd rk co C s i k = true) : plA rk co s C N i < plA rk co s C N k :=
  cntB_lt N 0 (fun j _ _ hj => ahd_tr hj h) (Nat.zero_le _) (by omega) (ahd_irr i) h
theorem plA_inj {N i k : Nat} (hi : i < N) (hk : k < N) (h : plA rk co s C N i = plA rk co s C N k) : i = k := by
  by_cases e : i = k
  · exact e
  · rcases ahd_tot (rk := rk) (co := co) (s := s) (C := C) e with q | q
    · have := plA_lt hi q; omega
    · have := plA_lt hk q; omega
theorem plA_N {N i : Nat} (hi : i < N) : plA rk co s C N i < N := by
  have h := cntB_lt (p := fun k => ahd rk co C s k i) (q := fun _ => true) (c := i) N 0 (fun _ _ _ _ => rfl) (Nat.zero_le _) (by omega) (ahd_irr i) rfl
  exact Nat.lt_of_lt_of_le h (cntB_le _ N 0)
/-- the cord in a place -/
def orF (rk co s : Nat → Int32) (C N : Nat) (x : Int32) : Int32 := frst (fun i => decide (sumF (fun k => b2i (ahd rk co C s k i)) N 0 (nI 0) = x)) N 0
theorem frst_some {p : Nat → Bool} : ∀ n i j, i ≤ j → j < i + n → p j = true → ∃ k, i ≤ k ∧ k < i + n ∧ p k = true ∧ frst p n i = nI k
  | 0, i, j, h1, h2, _ => absurd h2 (by omega)
  | n + 1, i, j, h1, h2, h3 => by
    rw [frst]
    by_cases c : p i = true
    · rw [if_pos c]
      exact ⟨i, Nat.le_refl _, by omega, c, rfl⟩
    · rw [if_neg c]
      have : i ≠ j := fun e => c (e ▸ h3)
      obtain ⟨k, k1, k2, k3, k4⟩ := frst_some (p := p) n (i + 1) j (by omega) (by omega) h3
      exact ⟨k, by omega, by omega, k3, k4⟩
theorem five_all : ∀ a b c d e : Fin 5, a ≠ b → a ≠ c → a ≠ d → a ≠ e → b ≠ c → b ≠ d → b ≠ e → c ≠ d → c ≠ e → d ≠ e → (∀ k : Fin 5, k = a ∨ k = b ∨ k = c ∨ k = d ∨ k = e) ∧ (((((nI 0 ||| (nI 1 <<< (nI a.1 &&& 31))) ||| (nI 1 <<< (nI b.1 &&& 31))) ||| (nI 1 <<< (nI c.1 &&& 31))) ||| (nI 1 <<< (nI d.1 &&& 31))) ||| (nI 1 <<< (nI e.1 &&& 31))) = nI 31 := by decide +kernel
theorem orF_at {k : Nat} (hk : k < 5) : ∃ i, i < 5 ∧ orF rk co s C 5 (nI k) = nI i ∧ plA rk co s C 5 i = k := by
  have e : ∀ i, sumF (fun k => b2i (ahd rk co C s k i)) 5 0 (nI 0) = nI (plA rk co s C 5 i) := fun i => by
    rw [sumF_cnt, Nat.zero_add]
    rfl
  have L : ∀ i, i < 5 → plA rk co s C 5 i < 5 := fun i hi => plA_N hi
  have J : ∀ i j, i < 5 → j < 5 → i ≠ j → plA rk co s C 5 i ≠ plA rk co s C 5 j := fun i j hi hj h q => h (plA_inj hi hj q)
  have ne : ∀ i j (hi : i < 5) (hj : j < 5), i ≠ j → (⟨plA rk co s C 5 i, L i hi⟩ : Fin 5) ≠ ⟨plA rk co s C 5 j, L j hj⟩ := fun i j hi hj h q => J i j hi hj h (Fin.mk.inj q)
  have F := (five_all ⟨_, L 0 (by decide)⟩ ⟨_, L 1 (by decide)⟩ ⟨_, L 2 (by decide)⟩ ⟨_, L 3 (by decide)⟩ ⟨_, L 4 (by decide)⟩ (ne 0 1 (by decide) (by decide) (by decide)) (ne 0 2 (by decide) (by decide) (by decide)) (ne 0 3 (by decide) (by decide) (by decide)) (ne 0 4 (by decide) (by decide) (by decide)) (ne 1 2 (by decide) (by decide) (by decide)) (ne 1 3 (by decide) (by decide) (by decide)) (ne 1 4 (by decide) (by decide) (by decide)) (ne 2 3 (by decide) (by decide) (by decide)) (ne 2 4 (by decide) (by decide) (by decide)) (ne 3 4 (by decide) (by decide) (by decide))).1 ⟨k, hk⟩
  have ex : ∃ i, i < 5 ∧ plA rk co s C 5 i = k := by
    rcases F with q | q | q | q | q
    · exact ⟨0, by decide, (Fin.mk.inj q).symm⟩
    · exact ⟨1, by decide, (Fin.mk.inj q).symm⟩
    · exact ⟨2, by decide, (Fin.mk.inj q).symm⟩
    · exact ⟨3, by decide, (Fin.mk.inj q).symm⟩
    · exact ⟨4, by decide, (Fin.mk.inj q).symm⟩
  obtain ⟨i, i1, i2⟩ := ex
  obtain ⟨j, -, j2, j3, j4⟩ := frst_some (p := fun i => decide (sumF (fun k => b2i (ahd rk co C s k i)) 5 0 (nI 0) = nI k)) 5 0 i (Nat.zero_le _) (by omega) (by rw [decide_eq_true_iff, e, i2])
  rw [decide_eq_true_iff, e] at j3
  have h5 := L j (by omega)
  exact ⟨j, by omega, j4, (nI_eq (by omega) (by omega)).mp j3⟩
/-- what the places tell, put together -/
def orP (rk co s : Nat → Int32) (C N : Nat) : Nat → Int32
  | 0 => nI 0
  | k + 1 => orP rk co s C N k ||| (nI 1 <<< (orF rk co s C N (nI k) &&& 31))
theorem orP_5 : orP rk co s C 5 5 = nI 31 := by
  obtain ⟨a, a1, a2, a3⟩ := orF_at (rk := rk) (co := co) (s := s) (C := C) (k := 0) (by decide)
  obtain ⟨b, b1, b2, b3⟩ := orF_at (rk := rk) (co := co) (s := s) (C := C) (k := 1) (by decide)
  obtain ⟨c, c1, c2, c3⟩ := orF_at (rk := rk) (co := co) (s := s) (C := C) (k := 2) (by decide)
  obtain ⟨d, d1, d2, d3⟩ := orF_at (rk := rk) (co := co) (s := s) (C := C) (k := 3) (by decide)
  obtain ⟨f, f1, f2, f3⟩ := orF_at (rk := rk) (co := co) (s := s) (C := C) (k := 4) (by decide)
  have ne : ∀ {i j p q : Nat} (hi : i < 5) (hj : j < 5), plA rk co s C 5 i = p → plA rk co s C 5 j = q → p ≠ q → (⟨i, hi⟩ : Fin 5) ≠ ⟨j, hj⟩ := fun hi hj e1 e2 h q => h (by rw [← e1, ← e2, Fin.mk.inj q])
  have F := (five_all ⟨a, a1⟩ ⟨b, b1⟩ ⟨c, c1⟩ ⟨d, d1⟩ ⟨f, f1⟩ (ne _ _ a3 b3 (by decide)) (ne _ _ a3 c3 (by decide)) (ne _ _ a3 d3 (by decide)) (ne _ _ a3 f3 (by decide)) (ne _ _ b3 c3 (by decide)) (ne _ _ b3 d3 (by decide)) (ne _ _ b3 f3 (by decide)) (ne _ _ c3 d3 (by decide)) (ne _ _ c3 f3 (by decide)) (ne _ _ d3 f3 (by decide))).2
  unfold orP orP orP orP orP orP
  rw [a2, b2, c2, d2, f2]
  exact F
end OA
/-! steps between cords -/
section ST
variable {u : Nat → Int32} {N : Nat}
theorem isU_abv (hN : N ≤ 16) (hc : clo u N) {c : Int32} (h : isU N c) : isU N (abv u N c) := by
  unfold abv
  rcases h with rfl | ⟨j, j1, rfl⟩
  · rw [if_neg (by simp [has])]
    exact Or.inl rfl
  · rw [if_pos (has_j j1 (by decide) hN), ix_n (by omega)]
    exact hc.2 j j1
theorem dep_abv (hN : N ≤ 16) (hch : ∀ k, k < N → chn u N 4 (nI k)) {c : Int32} (h : isU N c) (hp : 0 < dep u N 4 c) : dep u N 4 (abv u N c) + 1 = dep u N 4 c := by
  rcases h with rfl | ⟨j, j1, rfl⟩
  · rw [dep_m1] at hp
    exact absurd hp (by decide)
  · unfold abv
    rw [if_pos (has_j j1 (by decide) hN), ix_n (by omega), dep_j hN hch j1]
theorem dep_0 (hN : N ≤ 16) (hch : ∀ k, k < N → chn u N 4 (nI k)) {c : Int32} (h : isU N c) (hp : dep u N 4 c = 0) : c = -1 := by
  rcases h with rfl | ⟨j, j1, rfl⟩
  · rfl
  · rw [dep_j hN hch j1] at hp
    exact absurd hp (by omega)
theorem stp_sym (hN : N ≤ 16) (hc : clo u N) (hch : ∀ k, k < N → chn u N 4 (nI k)) : ∀ (n f g : Nat) (a b : Int32), isU N a → isU N b → dep u N 4 a + dep u N 4 b ≤ n → n ≤ f → n ≤ g → stpF u N f a b = stpF u N g b a := by
  intro n
  induction n using Nat.strongRecOn with
  | _ n ih =>
    intro f g a b ha hb h hf hg
    by_cases e : a = b
    · subst e
      cases f <;> cases g <;> simp [stpF]
    · by_cases z : dep u N 4 a + dep u N 4 b = 0
      · exact absurd ((dep_0 hN hch ha (by omega)).trans (dep_0 hN hch hb (by omega)).symm) e
      · obtain ⟨f, rfl⟩ : ∃ f', f = f' + 1 := ⟨f - 1, by omega⟩
        obtain ⟨g, rfl⟩ : ∃ g', g = g' + 1 := ⟨g - 1, by omega⟩
        have e' : ¬ b = a := fun q => e q.symm
        rw [stpF, stpF, if_neg e, if_neg e']
        rcases Nat.lt_trichotomy (dep u N 4 a) (dep u N 4 b) with q | q | q
        · rw [if_pos q, if_neg (by omega)]
          have d := dep_abv hN hch hb (by omega)
          rw [ih (n - 1) (by omega) f g a (abv u N b) ha (isU_abv hN hc hb) (by omega) (by omega) (by omega)]
        · rw [if_neg (by omega), if_neg (by omega)]
          have da := dep_abv hN hch ha (by omega)
          have db := dep_abv hN hch hb (by omega)
          obtain ⟨f, rfl⟩ : ∃ f', f = f' + 1 := ⟨f - 1, by omega⟩
          obtain ⟨g, rfl⟩ : ∃ g', g = g' + 1 := ⟨g - 1, by omega⟩
          have e1 : ¬ abv u N a = b := fun q => by rw [q] at da; omega
          have e2 : ¬ abv u N b = a := fun q => by rw [q] at db; omega
          rw [stpF, stpF, if_neg e1, if_neg e2, if_pos (by omega), if_pos (by omega)]
          rw [ih (n - 2) (by omega) f g (abv u N a) (abv u N b) (isU_abv hN hc ha) (isU_abv hN hc hb) (by omega) (by omega) (by omega)]
        · rw [if_neg (by omega), if_pos q]
          have d := dep_abv hN hch ha (by omega)
          rw [ih (n - 1) (by omega) f g (abv u N a) b (isU_abv hN hc ha) hb (by omega) (by omega) (by omega)]
theorem stp_8 (hN : N ≤ 16) (hc : clo u N) (hch : ∀ k, k < N → chn u N 4 (nI k)) {a b : Nat} (ha : a < N) (hb : b < N) : stpF u N 8 (nI a) (nI b) = stpF u N 8 (nI b) (nI a) := by
  have d1 := dep_le u N 4 (nI a)
  have d2 := dep_le u N 4 (nI b)
  exact stp_sym hN hc hch 8 8 8 (nI a) (nI b) (Or.inr ⟨a, ha, rfl⟩) (Or.inr ⟨b, hb, rfl⟩) (by omega) (Nat.le_refl _) (Nat.le_refl _)
end ST
/-! digits, knots, turns -/
theorem dgt_n : ∀ (p w : Nat), w < 2 ^ 31 → dgt p (nI w) = nI (w / 10 ^ p % 10)
  | 0, w, h => by rw [dgt, rem10_n h, Nat.pow_zero, Nat.div_one]
  | p + 1, w, h => by rw [dgt, pk_div h (by decide) (by decide), dgt_n p (w / 10) (by omega), Nat.div_div_eq_div_mul, Nat.pow_succ, Nat.mul_comm 10]
theorem dg_sum {w : Nat} (h : w ≤ 9999) : nI 1000 * dgt 3 (nI w) + nI 100 * dgt 2 (nI w) + nI 10 * dgt 1 (nI w) + dgt 0 (nI w) = nI w := by
  rw [dgt_n 3 w (by omega), dgt_n 2 w (by omega), dgt_n 1 w (by omega), dgt_n 0 w (by omega), mulN, mulN, mulN, nI_add, nI_add, nI_add]
  refine congrArg nI ?_
  have e3 : w / 10 ^ 3 = w / 1000 := rfl
  have e2 : w / 10 ^ 2 = w / 100 := rfl
  have e1 : w / 10 ^ 1 = w / 10 := rfl
  have e0 : w / 10 ^ 0 = w / 1 := rfl
  rw [e3, e2, e1, e0]
  omega
theorem kno_w {w : Nat} (h : w < 2 ^ 31) : kno (nI w) = nI (dgN 10 (w / 10) + if w % 10 = 0 then 0 else 1) := by
  rw [kn_eq h, knR, dgs, pk_div h (by decide) (by decide), dgF_n 10 (w / 10) 0 (by omega), rem10_n h, Nat.zero_add]
  by_cases c : w % 10 = 0
  · rw [if_pos c, c, if_pos (by decide), nI_add]
  · rw [if_neg c, if_neg (nI_nle (by omega) (by omega)), nI_add]
theorem dgN_s (f r : Nat) : dgN (f + 1) r = r % 10 + dgN f (r / 10) := by
  rw [dgN]
  split
  · rename_i c
    subst c
    cases f <;> simp [dgN]
  · rfl
theorem dgN_e : ∀ (f r : Nat), r < 10 ^ f → dgN (f + 1) r = dgN f r
  | 0, r, h => by
    have : r = 0 := by omega
    subst this
    rfl
  | f + 1, r, h => by
    rw [dgN_s (f + 1) r, dgN_e f (r / 10) (by rw [Nat.pow_succ] at h; omega), ← dgN_s f r]
theorem tur_w {w : Nat} (h : w < 2 ^ 31) : tur (nI w) = nI (dgN 10 w + if w % 10 = 1 then 1 else 0) := by
  have e : dgN 10 w = w % 10 + dgN 10 (w / 10) := by rw [← dgN_s, dgN_e 10 w (by omega)]
  have hm : w % 10 < 10 := Nat.mod_lt _ (by decide)
  rw [tu_eq h, tuR, dgs, pk_div h (by decide) (by decide), dgF_n 10 (w / 10) 0 (by omega), rem10_n h, Nat.zero_add, e]
  by_cases c : w % 10 = 1
  · rw [if_pos c, c, if_pos (by decide), nI_add]
    exact congrArg nI (by omega)
  · rw [if_neg c, if_neg (fun q => c ((nI_eq (b := 1) (by omega) (by decide)).mp q)), nI_add]
    exact congrArg nI (by omega)
