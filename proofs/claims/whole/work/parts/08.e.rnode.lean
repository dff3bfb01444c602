/-! The reference's parser: nodes, the state between the methods -/
theorem lc_X12_180 : Cond.constant RX12 180 999999 ∈ bigW := bw_in (tb_7 (List.mem_of_getElem? (i := 13) rfl)) rfl
def nv (I : MI) : MI := fun k => I (104 + k)
theorem dn_mono {B : MI} : ∀ (f g : Nat) (s : Bool) (n : Nat) (E : EX), f ≤ g → dn B f s n E → dn B g s n E := by
  intro f
  induction f with
  | zero => exact fun g s n E _ h => absurd h id
  | succ f ih =>
    intro g s n E hg h
    obtain ⟨g, rfl⟩ : ∃ g', g = g' + 1 := ⟨g - 1, by omega⟩
    have ih := fun s n E => ih g s n E (by omega)
    obtain ⟨hn, h⟩ := h
    refine ⟨hn, ?_⟩
    cases s with
    | true =>
      rw [if_pos rfl] at h ⊢
      rcases h with h | h | h | ⟨j, E1, a1, a2, a3, a4⟩ | ⟨k, c, i, j, E1, E2, a1, a2, a3, a4, a5, a6, a7⟩
      · exact Or.inl h
      · exact Or.inr (Or.inl h)
      · exact Or.inr (Or.inr (Or.inl h))
      · exact Or.inr (Or.inr (Or.inr (Or.inl ⟨j, E1, a1, a2, ih _ _ _ a3, a4⟩)))
      · exact Or.inr (Or.inr (Or.inr (Or.inr ⟨k, c, i, j, E1, E2, a1, a2, a3, a4, ih _ _ _ a5, ih _ _ _ a6, a7⟩)))
    | false =>
      rw [if_neg (by decide)] at h ⊢
      rcases h with h | ⟨j, E1, a1, a2, a3, a4⟩ | ⟨k, i, j, E1, E2, a1, a2, a3, a4, a5, a6, a7⟩ | ⟨k, c, i, j, E1, E2, a1, a2, a3, a4, a5, a6, a7⟩
      · exact Or.inl h
      · exact Or.inr (Or.inl ⟨j, E1, a1, a2, ih _ _ _ a3, a4⟩)
      · exact Or.inr (Or.inr (Or.inl ⟨k, i, j, E1, E2, a1, a2, a3, a4, ih _ _ _ a5, ih _ _ _ a6, a7⟩))
      · exact Or.inr (Or.inr (Or.inr ⟨k, c, i, j, E1, E2, a1, a2, a3, a4, ih _ _ _ a5, ih _ _ _ a6, a7⟩))
/-- what a method of sums and tests leaves as it was -/
def FRm (z : Nat) (I I' : MI) : Prop := ∀ a j, ¬ (a = 80 ∧ 14 ≤ j ∧ j ≤ 18) → ¬ (a = 104 ∧ j = 12) → ¬ (112 ≤ a ∧ a ≤ 114 ∧ z ≤ j) → I' a j = I a j
theorem FRm.rf {z : Nat} {I : MI} : FRm z I I := fun _ _ _ _ _ => rfl
theorem FRm.tr {z z1 : Nat} {I I1 I2 : MI} (h : FRm z I I1) (h2 : FRm z1 I1 I2) (hz : z ≤ z1) : FRm z I I2 := fun a j a1 a2 a3 => (h2 a j a1 a2 (fun q => a3 ⟨q.1, q.2.1, by omega⟩)).trans (h a j a1 a2 a3)
theorem FRm.at {z : Nat} {I : MI} {k : Nat} {v : Int32} (hk : 14 ≤ k) (hk2 : k ≤ 18) : FRm z I (up2 I 80 k v) := by
  intro a j a1 a2 a3
  by_cases e : a = 80
  · subst e
    exact up2_n (fun r => a1 ⟨rfl, by omega, by omega⟩)
  · exact congrFun (up2_o e) j
theorem FRm.kp {z : Nat} {I I' : MI} (h : FRm z I I') : kpF I I' := ⟨h 80 2 (by omega) (by omega) (by omega), fun a a1 a2 => funext fun j => h a j (by omega) (by omega) (by omega)⟩
theorem FRm.nvs {z : Nat} {I I' : MI} (h : FRm z I I') : (∀ n, n < z → nv I' 8 n = nv I 8 n ∧ nv I' 9 n = nv I 9 n ∧ nv I' 10 n = nv I 10 n) ∧ nN (nv I) = nN (nv I') ∧ nT (nv I) = nT (nv I') ∧ nK (nv I) = nK (nv I') := by
  have e : ∀ j, j < 12 → I' 104 j = I 104 j := fun j hj => h 104 j (by omega) (by omega) (by omega)
  exact ⟨fun n hn => ⟨h 112 n (by omega) (by omega) (by omega), h 113 n (by omega) (by omega) (by omega), h 114 n (by omega) (by omega) (by omega)⟩, by show ix (I 104 1) = ix (I' 104 1); rw [e 1 (by decide)], by show ix (I 104 2) = ix (I' 104 2); rw [e 2 (by decide)], by show ix (I 104 3) = ix (I' 104 3); rw [e 3 (by decide)]⟩
/-- v is a node that denotes E, in I and in what keeps its nodes -/
def nvR (z : Nat) (A B : MI) : Prop := (∀ n, n < z → B 8 n = A 8 n ∧ B 9 n = A 9 n ∧ B 10 n = A 10 n) ∧ nN A ≤ nN B ∧ nT A ≤ nT B ∧ nK A ≤ nK B
def nd (s : Bool) (I : MI) (z : Nat) (v : Int32) (E : EX) : Prop := ∃ n, v = nI n ∧ n < z ∧ n < 401 ∧ ∀ B, nvR z (nv I) B → dn B (n + 1) s n E
theorem nvR.rf {z : Nat} {A : MI} : nvR z A A := ⟨fun _ _ => ⟨rfl, rfl, rfl⟩, Nat.le_refl _, Nat.le_refl _, Nat.le_refl _⟩
theorem nvR.tr {z z' : Nat} {A B C : MI} (h : nvR z A B) (k : nvR z' B C) (hz : z ≤ z') : nvR z A C := ⟨fun n hn => ⟨(k.1 n (by omega)).1.trans (h.1 n hn).1, (k.1 n (by omega)).2.1.trans (h.1 n hn).2.1, (k.1 n (by omega)).2.2.trans (h.1 n hn).2.2⟩, Nat.le_trans h.2.1 k.2.1, Nat.le_trans h.2.2.1 k.2.2.1, Nat.le_trans h.2.2.2 k.2.2.2⟩
theorem nd.mn {s : Bool} {I I' : MI} {z z' : Nat} {v : Int32} {E : EX} (h : nd s I z v E) (k : nvR z (nv I) (nv I')) (hz : z ≤ z') : nd s I' z' v E := by
  obtain ⟨n, h1, h2, h3, h4⟩ := h
  exact ⟨n, h1, by omega, h3, fun B hB => h4 B (k.tr hB hz)⟩
theorem FRm.R {z : Nat} {I I' : MI} (k : FRm z I I') : nvR z (nv I) (nv I') := by
  obtain ⟨k1, k2, k3, k4⟩ := k.nvs
  exact ⟨k1, Nat.le_of_eq k2, Nat.le_of_eq k3, Nat.le_of_eq k4⟩
theorem nd.mv {s : Bool} {I I' : MI} {z z' : Nat} {v : Int32} {E : EX} (h : nd s I z v E) (k : FRm z I I') (hz : z ≤ z') : nd s I' z' v E := h.mn k.R hz
theorem nd_num {I : MI} {n : Nat} {v : Int32} (hn : n < 401) (h : I 112 n = nI 35) (h1 : I 113 n = v) : nd true I (n + 1) (nI n) (fun _ => v) := ⟨n, rfl, by omega, hn, fun B hB => ⟨hn, by
  obtain ⟨b1, b2, b3⟩ := hB.1 n (by omega)
  rw [if_pos rfl]
  exact Or.inl ⟨b1.trans h, by rw [b2.trans h1]⟩⟩⟩
theorem nd_mon {I : MI} {n : Nat} (hn : n < 401) (h : I 112 n = nI 16) : nd true I (n + 1) (nI n) (fun e => e 16 (nI 0)) := ⟨n, rfl, by omega, hn, fun B hB => ⟨hn, by
  obtain ⟨b1, b2, b3⟩ := hB.1 n (by omega)
  rw [if_pos rfl]
  exact Or.inr (Or.inl ⟨b1.trans h, rfl⟩)⟩⟩
theorem nd_nam {I : MI} {n k j : Nat} (hn : n < 401) (h1 : 17 ≤ k) (h2 : k ≤ 21) (h3 : I 112 n = nI k) (h4 : I 113 n = nI j) (h5 : j < (if k ≤ 19 then nN (nv I) else if k = 20 then nT (nv I) else nK (nv I))) : nd true I (n + 1) (nI n) (fun e => e k (nI j)) := ⟨n, rfl, by omega, hn, fun B hB => ⟨hn, by
  obtain ⟨b0, c1, c2, c3⟩ := hB
  obtain ⟨b1, b2, b3⟩ := b0 n (by omega)
  rw [if_pos rfl]
  refine Or.inr (Or.inr (Or.inl ⟨k, j, h1, h2, b1.trans h3, b2.trans h4, ?_, rfl⟩))
  by_cases q : k ≤ 19
  · rw [if_pos q] at h5 ⊢; omega
  · rw [if_neg q] at h5 ⊢
    by_cases q2 : k = 20
    · rw [if_pos q2] at h5 ⊢; omega
    · rw [if_neg q2] at h5 ⊢; omega⟩⟩
theorem nd_tru {I : MI} {n j : Nat} (hn : n < 401) (h3 : I 112 n = nI 22) (h4 : I 113 n = nI j) (h5 : j < nT (nv I)) : nd false I (n + 1) (nI n) (fun e => e 22 (nI j)) := ⟨n, rfl, by omega, hn, fun B hB => ⟨hn, by
  obtain ⟨b0, c1, c2, c3⟩ := hB
  obtain ⟨b1, b2, b3⟩ := b0 n (by omega)
  rw [if_neg (by decide)]
  exact Or.inl ⟨j, b1.trans h3, b2.trans h4, by omega, rfl⟩⟩⟩
theorem nd_neg {I : MI} {n z : Nat} {v : Int32} {E : EX} (h : nd true I z v E) (hz : z ≤ n) (hn : n < 401) (h3 : I 112 n = nI 110) (h4 : I 113 n = v) : nd true I (n + 1) (nI n) (fun e => -(E e)) := by
  obtain ⟨j, rfl, a2, a3, a4⟩ := h
  refine ⟨n, rfl, by omega, hn, fun B hB => ⟨hn, ?_⟩⟩
  obtain ⟨b1, b2, b3⟩ := hB.1 n (by omega)
  rw [if_pos rfl]
  exact Or.inr (Or.inr (Or.inr (Or.inl ⟨j, E, b1.trans h3, b2.trans h4, dn_mono _ _ _ _ _ (by omega) (a4 B (nvR.rf.tr hB (by omega))), rfl⟩)))
theorem nd_not {I : MI} {n z : Nat} {v : Int32} {E : EX} (h : nd false I z v E) (hz : z ≤ n) (hn : n < 401) (h3 : I 112 n = nI 23) (h4 : I 113 n = v) : nd false I (n + 1) (nI n) (fun e => nI 1 - E e) := by
  obtain ⟨j, rfl, a2, a3, a4⟩ := h
  refine ⟨n, rfl, by omega, hn, fun B hB => ⟨hn, ?_⟩⟩
  obtain ⟨b1, b2, b3⟩ := hB.1 n (by omega)
  rw [if_neg (by decide)]
  exact Or.inr (Or.inl ⟨j, E, b1.trans h3, b2.trans h4, dn_mono _ _ _ _ _ (by omega) (a4 B (nvR.rf.tr hB (by omega))), rfl⟩)
theorem nd_bin {I : MI} {n z1 z2 k c : Nat} {v w : Int32} {E F : EX} (hk : arK k c) (h : nd true I z1 v E) (h' : nd true I z2 w F) (hz1 : z1 ≤ n) (hz2 : z2 ≤ n) (hn : n < 401) (h3 : I 112 n = nI c) (h4 : I 113 n = v) (h5 : I 114 n = w) : nd true I (n + 1) (nI n) (joE k E F) := by
  obtain ⟨i, rfl, a2, a3, a4⟩ := h
  obtain ⟨j, rfl, d2, d3, d4⟩ := h'
  refine ⟨n, rfl, by omega, hn, fun B hB => ⟨hn, ?_⟩⟩
  obtain ⟨b1, b2, b3⟩ := hB.1 n (by omega)
  rw [if_pos rfl]
  exact Or.inr (Or.inr (Or.inr (Or.inr ⟨k, c, i, j, E, F, hk, b1.trans h3, b2.trans h4, b3.trans h5, dn_mono _ _ _ _ _ (by omega) (a4 B (nvR.rf.tr hB (by omega))), dn_mono _ _ _ _ _ (by omega) (d4 B (nvR.rf.tr hB (by omega))), rfl⟩)))
theorem nd_jo {I : MI} {n z1 z2 k : Nat} {v w : Int32} {E F : EX} (hk : k = 24 ∨ k = 25) (h : nd false I z1 v E) (h' : nd false I z2 w F) (hz1 : z1 ≤ n) (hz2 : z2 ≤ n) (hn : n < 401) (h3 : I 112 n = nI k) (h4 : I 113 n = v) (h5 : I 114 n = w) : nd false I (n + 1) (nI n) (joE k E F) := by
  obtain ⟨i, rfl, a2, a3, a4⟩ := h
  obtain ⟨j, rfl, d2, d3, d4⟩ := h'
  refine ⟨n, rfl, by omega, hn, fun B hB => ⟨hn, ?_⟩⟩
  obtain ⟨b1, b2, b3⟩ := hB.1 n (by omega)
  rw [if_neg (by decide)]
  exact Or.inr (Or.inr (Or.inl ⟨k, i, j, E, F, hk, b1.trans h3, b2.trans h4, b3.trans h5, dn_mono _ _ _ _ _ (by omega) (a4 B (nvR.rf.tr hB (by omega))), dn_mono _ _ _ _ _ (by omega) (d4 B (nvR.rf.tr hB (by omega))), rfl⟩))
theorem nd_cmp {I : MI} {n z1 z2 k c : Nat} {v w : Int32} {E F : EX} (hk : tsK k c) (h : nd true I z1 v E) (h' : nd true I z2 w F) (hz1 : z1 ≤ n) (hz2 : z2 ≤ n) (hn : n < 401) (h3 : I 112 n = nI c) (h4 : I 113 n = v) (h5 : I 114 n = w) : nd false I (n + 1) (nI n) (joE k E F) := by
  obtain ⟨i, rfl, a2, a3, a4⟩ := h
  obtain ⟨j, rfl, d2, d3, d4⟩ := h'
  refine ⟨n, rfl, by omega, hn, fun B hB => ⟨hn, ?_⟩⟩
  obtain ⟨b1, b2, b3⟩ := hB.1 n (by omega)
  rw [if_neg (by decide)]
  exact Or.inr (Or.inr (Or.inr ⟨k, c, i, j, E, F, hk, b1.trans h3, b2.trans h4, b3.trans h5, dn_mono _ _ _ _ _ (by omega) (a4 B (nvR.rf.tr hB (by omega))), dn_mono _ _ _ _ _ (by omega) (d4 B (nvR.rf.tr hB (by omega))), rfl⟩))
/-- the names that were told -/
def rnT (K wd : Nat → Nat) (M : Nat) (mm : Nat → Int32) (I : MI) (i : Nat) (c : Nat → Prop) (N : Nat) : Prop := I 104 i = nI N ∧ (∀ k, k < N → ∃ s, s ≤ M ∧ K s = 28 ∧ I (86 + i) k = nI s) ∧ ∀ t, c (K t) → mm (t + 1) = lkW wd (I (86 + i)) N (t + 1)
def rnm (K wd : Nat → Nat) (V : Nat → Int32) (M : Nat) (mm : Nat → Int32) (I : MI) : Prop := (∀ t, t ≤ M → K t = 29 → inB (V t) (nI 0) 999999 = true) ∧ (∃ N, N ≤ 16 ∧ rnT K wd M mm I 1 (fun k => 17 ≤ k ∧ k ≤ 19) N) ∧ (∃ N, N ≤ 6 ∧ rnT K wd M mm I 2 (fun k => k = 20 ∨ k = 22) N) ∧ (∃ N, N ≤ 5 ∧ rnT K wd M mm I 3 (fun k => k = 21) N)
theorem rnT.fr {K wd : Nat → Nat} {M : Nat} {mm : Nat → Int32} {I I' : MI} {i N : Nat} {c : Nat → Prop} (h : rnT K wd M mm I i c N) (e1 : I' 104 i = I 104 i) (e2 : I' (86 + i) = I (86 + i)) : rnT K wd M mm I' i c N := ⟨e1.trans h.1, by rw [e2]; exact h.2.1, by rw [e2]; exact h.2.2⟩
theorem rnm.fr {K wd : Nat → Nat} {V : Nat → Int32} {M : Nat} {mm : Nat → Int32} {I I' : MI} {z : Nat} (h : rnm K wd V M mm I) (k : FRm z I I') : rnm K wd V M mm I' := by
  obtain ⟨h0, ⟨N1, l1, h1⟩, ⟨N2, l2, h2⟩, N3, l3, h3⟩ := h
  exact ⟨h0, ⟨N1, l1, h1.fr (k 104 1 (by omega) (by omega) (by omega)) (funext fun j => k 87 j (by omega) (by omega) (by omega))⟩, ⟨N2, l2, h2.fr (k 104 2 (by omega) (by omega) (by omega)) (funext fun j => k 88 j (by omega) (by omega) (by omega))⟩, N3, l3, h3.fr (k 104 3 (by omega) (by omega) (by omega)) (funext fun j => k 89 j (by omega) (by omega) (by omega))⟩
/-- alive at p, c levels to go, z nodes, x told -/
def rE (K wd : Nat → Nat) (V : Nat → Int32) (M : Nat) (mm : Nat → Int32) (I : MI) (c p z : Nat) (x : Option (Nat × Nat)) : Prop := rsO K V wd M I ∧ alR p I ∧ p ≤ M ∧ (I 80 15 = nI (8 - c) ∧ c ≤ 8) ∧ erS I x ∧ (∀ y, x = some y → y.2 < p) ∧ (I 104 12 = nI z ∧ z ≤ p) ∧ rnm K wd V M mm I
def rB (M : Nat) (I : MI) (p z e : Nat) (I' : MI) : Prop := FRm z I I' ∧ I' 80 16 = nI e ∧ p ≤ e ∧ e ≤ M ∧ ∃ z', I' 104 12 = nI z' ∧ z ≤ z' ∧ z' + p ≤ z + e + 1
theorem rE.at {K wd : Nat → Nat} {V mm : Nat → Int32} {M : Nat} {I : MI} {c p z : Nat} {x : Option (Nat × Nat)} (h : rE K wd V M mm I c p z x) (hp : p < M) : rE K wd V M mm (up2 I 80 14 (nI (p + 1))) c (p + 1) z x := by
  obtain ⟨h1, h2, h3, h4, h5, h6, h7, h8⟩ := h
  have f : FRm z I (up2 I 80 14 (nI (p + 1))) := FRm.at (by decide) (by decide)
  exact ⟨h1.kp f.kp, ⟨up2_s, by rw [up2_n (by decide)]; exact h2.2⟩, hp, ⟨by rw [up2_n (by decide)]; exact h4.1, h4.2⟩, h5.at (by decide) (by decide), fun y hy => by have := h6 y hy; omega, ⟨by rw [up2_o (by decide)]; exact h7.1, by omega⟩, h8.fr f⟩
theorem rE.dp {K wd : Nat → Nat} {V mm : Nat → Int32} {M : Nat} {I : MI} {c c' p z : Nat} {x : Option (Nat × Nat)} {v : Int32} (h : rE K wd V M mm I c p z x) (hv : v = nI (8 - c')) (hc : c' ≤ 8) : rE K wd V M mm (up2 I 80 15 v) c' p z x := by
  obtain ⟨h1, h2, h3, h4, h5, h6, h7, h8⟩ := h
  have f : FRm z I (up2 I 80 15 v) := FRm.at (by decide) (by decide)
  exact ⟨h1.kp f.kp, ⟨by rw [up2_n (by decide)]; exact h2.1, by rw [up2_n (by decide)]; exact h2.2⟩, h3, ⟨by rw [up2_s]; exact hv, hc⟩, h5.at (by decide) (by decide), h6, ⟨by rw [up2_o (by decide)]; exact h7.1, h7.2⟩, h8.fr f⟩
theorem rE.M4 {K wd : Nat → Nat} {V mm : Nat → Int32} {M : Nat} {I : MI} {c p z : Nat} {x : Option (Nat × Nat)} (h : rE K wd V M mm I c p z x) : M ≤ 400 ∧ 45 ≤ K M ∧ p ≤ M ∧ z ≤ p ∧ c ≤ 8 := ⟨h.1.1, h.1.2.1, h.2.2.1, h.2.2.2.2.2.2.1.2, h.2.2.2.1.2⟩
theorem sgC_is {K wd : Nat → Nat} {V : Nat → Int32} {M : Nat} {c d p k : Nat} (hc : c = sgC k) (hkk : 30 ≤ k ∧ k ≤ 44) {I : MI} {J : MJ} {P : MP} (hS : rsO K V wd M I) (ha : alR p I) (hp : p ≤ M) {Q : Int32 → MI → MJ → MP → Prop} (hQ1 : K p = k → Q (nI 1) I J P) (hQ0 : ¬ K p = k → Q (nI 0) I J P) : Sp yX12_is cX12_is 3 (some .boolean) (d + 1) [.ref 80, .int (nI 4), .int (nI c)] I J P (Qi Q) := by
  subst hc
  exact sp_is4 hkk hS ha hp hQ1 hQ0
theorem sgC_take {K wd : Nat → Nat} {V : Nat → Int32} {M : Nat} {c d p k : Nat} (hc : c = sgC k) (hkk : 30 ≤ k ∧ k ≤ 44) {I : MI} {J : MJ} {P : MP} (hS : rsO K V wd M I) (ha : alR p I) (hp : p ≤ M) {Q : MI → MJ → MP → Prop} (hQ1 : K p = k → Q (up2 I 80 14 (nI (p + 1))) J P) (hQ0 : ¬ K p = k → Q (up2 I 80 16 (nI p)) J P) : Sp yX12_take cX12_take 3 none (d + 2) [.ref 80, .int (nI 4), .int (nI c)] I J P (Qv Q) := by
  subst hc
  exact sp_take4 hkk hS ha hp hQ1 hQ0
/-- a new node -/
def nwF (z : Nat) (a b c : Int32) (I I' : MI) : Prop := FRm z I I' ∧ I' 112 z = a ∧ I' 113 z = b ∧ I' 114 z = c ∧ I' 104 12 = nI (z + 1) ∧ I' 80 = I 80
theorem nw_mk {z : Nat} {a b c : Int32} {I : MI} : nwF z a b c I (up2 (up2 (up2 (up2 I 112 z a) 113 z b) 114 z c) 104 12 (nI (z + 1))) := by
  refine ⟨fun x j a1 a2 a3 => ?_, by simp [up2], by simp [up2], by simp [up2], by simp [up2], by simp [up2_o]⟩
  by_cases e : x = 104
  · subst e
    rw [up2_n (by omega), up2_o (by decide), up2_o (by decide), up2_o (by decide)]
  · rw [up2_o e]
    by_cases e2 : 112 ≤ x ∧ x ≤ 114
    · rcases (show x = 112 ∨ x = 113 ∨ x = 114 by omega) with rfl | rfl | rfl
      · rw [up2_o (by decide), up2_o (by decide), up2_n (by omega)]
      · rw [up2_o (by decide), up2_n (by omega), up2_o (by decide)]
      · rw [up2_n (by omega), up2_o (by decide), up2_o (by decide)]
    · rw [up2_o (by omega), up2_o (by omega), up2_o (by omega)]
theorem sp_nodeW {d z : Nat} (hz4 : z < 401) {a b c : Int32} {I : MI} {J : MJ} {P : MP} (hz : I 104 12 = nI z) {Q : Int32 → MI → MJ → MP → Prop} (hQ : ∀ I', nwF z a b c I I' → Q (nI z) I' J P) : Sp yX11_node cX11_node 4 (some .int) d [.ref 104, .int a, .int b, .int c] I J P (Qi Q) := sp_node hz4 hz (hQ _ nw_mk)
theorem rE.nw {K wd : Nat → Nat} {V mm : Nat → Int32} {M : Nat} {I I' : MI} {c p z : Nat} {x : Option (Nat × Nat)} {a b d : Int32} (h : rE K wd V M mm I c p z x) (hz : z < p) (w : nwF z a b d I I') : rE K wd V M mm I' c p (z + 1) x := by
  obtain ⟨h1, h2, h3, h4, h5, h6, h7, h8⟩ := h
  obtain ⟨w1, w2, w3, w4, w5, w6⟩ := w
  refine ⟨h1.kp w1.kp, ⟨by rw [w6]; exact h2.1, by rw [w6]; exact h2.2⟩, h3, ⟨by rw [w6]; exact h4.1, h4.2⟩, ?_, h6, ⟨w5, hz⟩, h8.fr w1⟩
  cases x with
  | none => show I' 80 17 = _; rw [w6]; exact h5
  | some y => exact ⟨h5.1, by rw [w6]; exact h5.2.1, by rw [w6]; exact h5.2.2⟩
theorem rB.nw {M : Nat} {I I1 I' : MI} {p p1 z e : Nat} {a b d : Int32} {zz : Nat} (h : rB M I p1 z e I1) (hp : p1 = p + 1) (hz : I1 104 12 = nI zz) (hM : zz < 401 ∧ z < 402 ∧ M ≤ 400) (w : nwF zz a b d I1 I') : rB M I p z e I' := by
  obtain ⟨h1, h2, h3, h4, y, y1, y2, y3⟩ := h
  obtain ⟨w1, w2, w3, w4, w5, w6⟩ := w
  obtain rfl : zz = y := eqN (hz.symm.trans y1) (by omega) (by omega)
  exact ⟨h1.tr w1 y2, by rw [w6]; exact h2, by omega, h4, _, w5, by omega, by omega⟩
theorem tl_or {x : Option (Nat × Nat)} {n p : Nat} (h : ∀ y, x = some y → y.2 < p) : tl x n p = x.or (some (n, p)) := by
  cases x with
  | none => rfl
  | some y => rw [tl, if_neg (fun q => by have := h y rfl; omega)]; rfl
theorem fbd_1 {K : Nat → Nat} {mm : Nat → Int32} {p : Nat} : fbd K mm 1 p = if K p = 28 ∧ mm p = -1 then some (3, p) else none := rfl
theorem fbd_2 {K : Nat → Nat} {mm : Nat → Int32} {a b c : Nat} (h1 : a ≤ b) (h2 : b ≤ c) : fbd K mm (c - a) a = (fbd K mm (b - a) a).or (fbd K mm (c - b) b) := by
  rw [show c - a = (b - a) + (c - b) by omega, fbd_app, show a + (b - a) = b by omega]
theorem fbd_lt {K : Nat → Nat} {mm : Nat → Int32} : ∀ (f t : Nat) (y : Nat × Nat), fbd K mm f t = some y → y.2 < t + f := by
  intro f
  induction f with
  | zero => intro t y h; cases h
  | succ f ih =>
    intro t y h
    rw [fbd] at h
    by_cases q : K t = 28 ∧ mm t = -1
    · rw [if_pos q] at h
      cases h
      show t < t + (f + 1)
      omega
    · rw [if_neg q] at h
      have := ih _ _ h
      omega

