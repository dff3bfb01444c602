/-! Pure: hanging a cord elsewhere -/
section HG
variable {u : Nat → Int32} {N : Nat}
theorem wth_m1 {x : Int32} {f : Nat} : wth u N x f (-1) = false := by
  cases f with
  | zero => rfl
  | succ f => rw [wth, has_m1, if_neg (by decide)]
theorem wth_j {x : Int32} {f j : Nat} (hN : N ≤ 16) (hj : j < N) : wth u N x (f + 1) (nI j) = if nI j = x then true else wth u N x f (u j) := by
  rw [wth, if_pos (has_j hj (by decide) hN), ix_n (by omega)]
theorem wth_f (hN : N ≤ 16) {x : Int32} : ∀ (f g : Nat) (c : Int32), chn u N f c → f ≤ g → wth u N x g c = wth u N x f c := by
  intro f
  induction f with
  | zero =>
    intro g c h _
    obtain rfl : c = -1 := h
    rw [wth_m1, wth_m1]
  | succ f ih =>
    intro g c h hg
    obtain ⟨g, rfl⟩ : ∃ g', g = g' + 1 := ⟨g - 1, by omega⟩
    rcases h with rfl | ⟨j, j1, rfl, j3⟩
    · rw [wth_m1, wth_m1]
    · rw [wth_j hN j1, wth_j hN j1, ih g _ j3 (by omega)]
theorem chn_g : ∀ (f g : Nat) (c : Int32), chn u N f c → f ≤ g → chn u N g c := by
  intro f g
  induction g with
  | zero =>
    intro c h hg
    obtain rfl : f = 0 := by omega
    exact h
  | succ g ih =>
    intro c h hg
    rcases Nat.lt_or_ge g f with q | q
    · obtain rfl : f = g + 1 := by omega
      exact h
    · exact chn_s _ _ (ih c h q)
theorem chn_dep (hN : N ≤ 16) : ∀ (g f : Nat) (c : Int32), chn u N g c → dep u N g c ≤ f → chn u N f c := by
  intro g
  induction g with
  | zero =>
    intro f c h _
    obtain rfl : c = -1 := h
    cases f with
    | zero => rfl
    | succ f => exact Or.inl rfl
  | succ g ih =>
    intro f c h hd
    rcases h with rfl | ⟨j, j1, rfl, j3⟩
    · cases f with
      | zero => rfl
      | succ f => exact Or.inl rfl
    · rw [dep, if_pos (has_j j1 (by decide) hN), ix_n (by omega)] at hd
      obtain ⟨f, rfl⟩ : ∃ f', f = f' + 1 := ⟨f - 1, by omega⟩
      exact Or.inr ⟨j, j1, rfl, ih f _ j3 (by omega)⟩
theorem chn_upd {a : Nat} {y : Int32} (hN : N ≤ 16) : ∀ (f : Nat) (c : Int32), chn u N f c → wth u N (nI a) f c = false → chn (upd u a y) N f c := by
  intro f
  induction f with
  | zero => exact fun c h _ => h
  | succ f ih =>
    intro c h hw
    rcases h with h | ⟨j, j1, rfl, j3⟩
    · exact Or.inl h
    · rw [wth_j hN j1] at hw
      by_cases e : j = a
      · rw [e, if_pos rfl] at hw; exact Bool.noConfusion hw
      · by_cases e2 : nI j = nI a
        · rw [if_pos e2] at hw; exact Bool.noConfusion hw
        · rw [if_neg e2] at hw
          exact Or.inr ⟨j, j1, rfl, by rw [upd_n e]; exact ih _ j3 hw⟩
theorem aad_w {m : Int32} {k : Nat} (hN : N ≤ 16) (hk : k < N) : ∀ (f : Nat) (c : Int32), wth u N (nI k) f c = false → aad u N f c m k = nI 0 := by
  intro f
  induction f with
  | zero => exact fun c _ => rfl
  | succ f ih =>
    intro c hw
    rw [aad]
    by_cases h : has (nI N) c (nI 16) = true
    · obtain ⟨j, j1, rfl⟩ := (has_t (by decide) hN).mp h
      rw [wth_j hN j1] at hw
      rw [if_pos h, ix_n (by omega)]
      by_cases e : nI j = nI k
      · rw [if_pos e] at hw; exact Bool.noConfusion hw
      · rw [if_neg e] at hw
        rw [if_neg (fun q => e (by rw [q])), ih _ hw]
        decide
    · rw [if_neg h]
theorem aad_upd {a k : Nat} {y m : Int32} (hN : N ≤ 16) : ∀ (f : Nat) (c : Int32), wth u N (nI a) f c = false → aad (upd u a y) N f c m k = aad u N f c m k := by
  intro f
  induction f with
  | zero => exact fun c _ => rfl
  | succ f ih =>
    intro c hw
    rw [aad, aad]
    by_cases h : has (nI N) c (nI 16) = true
    · obtain ⟨j, j1, rfl⟩ := (has_t (by decide) hN).mp h
      rw [wth_j hN j1] at hw
      rw [if_pos h, if_pos h, ix_n (by omega)]
      by_cases e : nI j = nI a
      · rw [if_pos e] at hw; exact Bool.noConfusion hw
      · rw [if_neg e] at hw
        rw [upd_n (fun q => e (by rw [q])), ih _ hw]
    · rw [if_neg h, if_neg h]
theorem aad_sum (hc : clo u N) {k : Nat} (hk : k < N) {c m : Int32} (h : chn u N 4 c) : sumF (fun j => if u j = nI k then aad u N 4 c m j else nI 0) N 0 (nI 0) + (if c = nI k then m else nI 0) = aad u N 4 c m k := by
  have hN := hc.1
  rcases h with rfl | ⟨i, i1, rfl, i3⟩
  · rw [aad_m1, if_neg (fun q => m1_nI (by omega) q.symm), sumF_z N 0 (fun j _ _ => by show (if u j = nI k then aad u N 4 (-1) m j else nI 0) = nI 0; rw [aad_m1]; split <;> rfl)]
    decide
  · have h4 : chn u N 4 (nI i) := Or.inr ⟨i, i1, rfl, i3⟩
    rw [aad_ch hc hk 4 i i1, ← aad_f 4 5 (nI i) h4 hN (by decide), aad_j hN i1, Int32.add_comm]
    by_cases q : k = i
    · rw [q, if_pos rfl, if_pos rfl]
    · rw [if_neg q, if_neg (fun w => q (eqN w (by omega) (by omega)).symm)]
/-- a cord isn't on the way above it -/
theorem not_own (hN : N ≤ 16) {a : Nat} (ha : a < N) (h : chn u N 4 (nI a)) : wth u N (nI a) 4 (u a) = false := by
  have key : ∀ (f : Nat) (c : Int32), chn u N f c → wth u N (nI a) f c = true → dep u N 4 (nI a) ≤ dep u N f c := by
    intro f
    induction f with
    | zero => intro c _ hw; exact Bool.noConfusion hw
    | succ f ih =>
      intro c hc hw
      rcases hc with rfl | ⟨j, j1, rfl, j3⟩
      · rw [wth_m1] at hw; exact Bool.noConfusion hw
      · rw [wth_j hN j1] at hw
        by_cases e : nI j = nI a
        · have hc' : chn u N (f + 1) (nI j) := Or.inr ⟨j, j1, rfl, j3⟩
          rw [e] at hc' ⊢
          rcases Nat.le_total 4 (f + 1) with q | q
          · rw [dep_f hN 4 (f + 1) _ h q]; exact Nat.le_refl _
          · rw [dep_f hN (f + 1) 4 _ hc' q]; exact Nat.le_refl _
        · rw [if_neg e] at hw
          rw [show dep u N (f + 1) (nI j) = dep u N f (u j) + 1 by rw [dep, if_pos (has_j j1 (by decide) hN), ix_n (by omega)]]
          have := ih _ j3 hw
          omega
  cases q : wth u N (nI a) 4 (u a) with
  | false => rfl
  | true =>
    rcases h with w | ⟨j, j1, j2, j3⟩
    · exact absurd w (m1_nI (by omega))
    · obtain rfl : a = j := eqN j2 (by omega) (by omega)
      have q3 : wth u N (nI a) 3 (u a) = true := by rw [← wth_f hN 3 4 _ j3 (by decide)]; exact q
      have := key 3 _ j3 q3
      rw [dep, if_pos (has_j ha (by decide) hN), ix_n (by omega)] at this
      omega
/-- the sums of a cord that is hung elsewhere -/
theorem lcl_hang {v s : Nat → Int32} {a : Nat} {y : Int32} (h : lcl u v s N) (hc : clo u N) (hch : ∀ k, k < N → chn u N 4 (nI k)) (ha : a < N) (hy : chn u N 4 y) (hb : wth u N (nI a) 4 y = false) : lcl (upd u a y) v (aab (upd u a y) N 4 y (aab u N 4 (u a) (-(s a)) s a) (aab u N 4 (u a) (-(s a)) s)) N := by
  have hN := hc.1
  have hua : chn u N 4 (u a) := by
    rcases hch a ha with w | ⟨j, j1, j2, j3⟩
    · exact absurd w (m1_nI (by omega))
    · obtain rfl : a = j := eqN j2 (by omega) (by omega)
      exact chn_s _ _ j3
  have ho := not_own hN ha (hch a ha)
  have e1 : aab u N 4 (u a) (-(s a)) s a = s a := by
    rw [aab_aad, aad_w hN ha 4 _ ho, add0]
  have e2 : ∀ k, aab (upd u a y) N 4 y (s a) (aab u N 4 (u a) (-(s a)) s) k = s k + aad u N 4 (u a) (-(s a)) k + aad u N 4 y (s a) k := fun k => by
    rw [aab_aad, aab_aad, aad_upd hN 4 _ hb]
  have e3 : s a + aad u N 4 (u a) (-(s a)) a + aad u N 4 y (s a) a = s a := by
    rw [aad_w hN ha 4 _ ho, aad_w hN ha 4 _ hb, add0, add0]
  rw [e1]
  intro k hk
  have F : sumF (fun j => if upd u a y j = nI k then aab (upd u a y) N 4 y (s a) (aab u N 4 (u a) (-(s a)) s) j else nI 0) N 0 (nI 0) = sumF (fun j => if u j = nI k then s j else nI 0) N 0 (nI 0) + sumF (fun j => if u j = nI k then aad u N 4 (u a) (-(s a)) j else nI 0) N 0 (nI 0) + sumF (fun j => if u j = nI k then aad u N 4 y (s a) j else nI 0) N 0 (nI 0) + sumF (fun j => if j = a then (if y = nI k then s a else nI 0) - (if u a = nI k then s a else nI 0) else nI 0) N 0 (nI 0) := by
    rw [← sumF_add, ← sumF_add, ← sumF_add]
    refine sumF_ext N 0 _ (fun j _ _ => ?_)
    show (if upd u a y j = nI k then aab (upd u a y) N 4 y (s a) (aab u N 4 (u a) (-(s a)) s) j else nI 0) = (if u j = nI k then s j else nI 0) + (if u j = nI k then aad u N 4 (u a) (-(s a)) j else nI 0) + (if u j = nI k then aad u N 4 y (s a) j else nI 0) + (if j = a then (if y = nI k then s a else nI 0) - (if u a = nI k then s a else nI 0) else nI 0)
    rw [e2]
    have z0 : ∀ x : Int32, nI 0 + x = x := fun x => Int32.zero_add x
    by_cases e : j = a
    · rw [e, upd_s, if_pos rfl, e3]
      by_cases q : u a = nI k
      · rw [if_pos q, if_pos q, if_pos q, e3, Int32.add_comm, Int32.sub_add_cancel]
      · rw [if_neg q, if_neg q, if_neg q, z0, z0, z0]
        exact (Int32.sub_zero _).symm
    · rw [upd_n e, if_neg e]
      by_cases q : u j = nI k
      · rw [if_pos q, if_pos q, if_pos q, if_pos q, add0]
      · rw [if_neg q, if_neg q, if_neg q, if_neg q]; decide
  have A1 := aad_sum hc hk (m := -(s a)) hua
  have A2 := aad_sum hc hk (m := s a) hy
  have hk' := h k hk
  rw [sumF_acc] at hk'
  rw [sumF_acc, F, sumF_pick, if_pos ⟨Nat.zero_le _, by omega⟩, e2, ← A1, ← A2, hk']
  have eU : (if u a = nI k then -(s a) else nI 0) = -(if u a = nI k then s a else nI 0) := by
    by_cases q : u a = nI k
    · rw [if_pos q, if_pos q]
    · rw [if_neg q, if_neg q]; decide
  rw [eU]
  generalize sumF (fun j => if u j = nI k then s j else nI 0) N 0 (nI 0) = x1
  generalize sumF (fun j => if u j = nI k then aad u N 4 (u a) (-s a) j else nI 0) N 0 (nI 0) = x2
  generalize sumF (fun j => if u j = nI k then aad u N 4 y (s a) j else nI 0) N 0 (nI 0) = x3
  generalize (if u a = nI k then s a else nI 0) = x4
  generalize (if y = nI k then s a else nI 0) = x5
  rw [Int32.sub_eq_add_neg]
  ac_rfl
/-! heights -/
theorem mxF_ge {g : Nat → Nat} : ∀ (n i a : Nat), a ≤ mxF g n i a ∧ ∀ j, i ≤ j → j < i + n → g j ≤ mxF g n i a := by
  intro n
  induction n with
  | zero => exact fun i a => ⟨Nat.le_refl _, fun j a b => by omega⟩
  | succ n ih =>
    intro i a
    rw [mxF]
    obtain ⟨h1, h2⟩ := ih (i + 1) (max a (g i))
    refine ⟨Nat.le_trans (Nat.le_max_left _ _) h1, fun j a1 b1 => ?_⟩
    by_cases e : j = i
    · rw [e]; exact Nat.le_trans (Nat.le_max_right _ _) h1
    · exact h2 j (by omega) (by omega)
theorem mxF_at {g : Nat → Nat} : ∀ (n i a : Nat), mxF g n i a = a ∨ ∃ j, i ≤ j ∧ j < i + n ∧ mxF g n i a = g j := by
  intro n
  induction n with
  | zero => exact fun i a => Or.inl rfl
  | succ n ih =>
    intro i a
    rw [mxF]
    rcases ih (i + 1) (max a (g i)) with q | ⟨j, j1, j2, j3⟩
    · rcases Nat.le_total a (g i) with r | r
      · exact Or.inr ⟨i, Nat.le_refl _, by omega, by rw [q, Nat.max_eq_right r]⟩
      · exact Or.inl (by rw [q, Nat.max_eq_left r])
    · exact Or.inr ⟨j, by omega, by omega, j3⟩
theorem rch_pos {f c : Nat} (hf : 0 < f) : 0 < rch u N f c := by
  obtain ⟨f, rfl⟩ : ∃ f', f = f' + 1 := ⟨f - 1, by omega⟩
  rw [rch]
  omega
theorem rch_ch {f c j : Nat} (hj : j < N) (h : u j = nI c) : rch u N f j + 1 ≤ rch u N (f + 1) c := by
  rw [rch]
  have := (mxF_ge (g := fun j => if u j = nI c then rch u N f j else 0) N 0 0).2 j (Nat.zero_le _) (by omega)
  have e : (if u j = nI c then rch u N f j else 0) = rch u N f j := if_pos h
  have this : (if u j = nI c then rch u N f j else 0) ≤ mxF (fun j => if u j = nI c then rch u N f j else 0) N 0 0 := this
  omega
theorem dep_j (hN : N ≤ 16) (hch : ∀ k, k < N → chn u N 4 (nI k)) {j : Nat} (hj : j < N) : dep u N 4 (nI j) = dep u N 4 (u j) + 1 := by
  rcases hch j hj with q | ⟨i, i1, i2, i3⟩
  · exact absurd q (m1_nI (by omega))
  · obtain rfl : j = i := eqN i2 (by omega) (by omega)
    rw [dep_f hN 3 4 _ i3 (by decide), dep, if_pos (has_j hj (by decide) hN), ix_n (by omega)]
/-- all below a cord, from it down -/
theorem below_ind (hc : clo u N) {a : Nat} (ha : a < N) {R : Nat → Nat → Nat → Prop} (h0 : R 0 4 a) (hs : ∀ g f j k, j < N → k < N → ¬ k = a → u k = nI j → g + (f + 1) = 4 → R g (f + 1) j → R (g + 1) f k) : ∀ (g k : Nat), g ≤ 3 → k < N → wth u N (nI a) (g + 1) (nI k) = true → ∃ g' f, g' ≤ g ∧ g' + f = 4 ∧ R g' f k := by
  have hN := hc.1
  intro g
  induction g with
  | zero =>
    intro k _ hk hw
    rw [wth_j hN hk] at hw
    by_cases e : nI k = nI a
    · obtain rfl : k = a := eqN e (by omega) (by omega)
      exact ⟨0, 4, Nat.le_refl _, rfl, h0⟩
    · rw [if_neg e] at hw
      exact Bool.noConfusion hw
  | succ g ih =>
    intro k hg hk hw
    rw [wth_j hN hk] at hw
    by_cases e : nI k = nI a
    · obtain rfl : k = a := eqN e (by omega) (by omega)
      exact ⟨0, 4, Nat.zero_le _, rfl, h0⟩
    · rw [if_neg e] at hw
      rcases hc.2 k hk with q | ⟨j, j1, j2⟩
      · rw [q, wth_m1] at hw
        exact Bool.noConfusion hw
      · rw [j2] at hw
        obtain ⟨g', f, l1, l2, l3⟩ := ih j (by omega) j1 hw
        obtain ⟨f, rfl⟩ : ∃ f', f = f' + 1 := ⟨f - 1, by omega⟩
        exact ⟨g' + 1, f, by omega, by omega, hs g' f j k j1 hk (fun q => e (by rw [q])) j2 (by omega) l3⟩
theorem chn_hang (hc : clo u N) (hch : ∀ k, k < N → chn u N 4 (nI k)) {a : Nat} {y : Int32} (ha : a < N) (hy : chn u N 4 y) (hb : wth u N (nI a) 4 y = false) (hd : dep u N 4 y + rch u N 4 a ≤ 4) : ∀ k, k < N → chn (upd u a y) N 4 (nI k) := by
  have hN := hc.1
  intro k hk
  cases hw : wth u N (nI a) 4 (nI k) with
  | false => exact chn_upd hN 4 _ (hch k hk) hw
  | true =>
    have rp := rch_pos (u := u) (N := N) (f := 4) (c := a) (by decide)
    have base : chn (upd u a y) N (dep u N 4 y + 1) (nI a) := by
      refine Or.inr ⟨a, ha, rfl, ?_⟩
      rw [upd_s]
      have c1 := chn_dep hN 4 (dep u N 4 y) y hy (Nat.le_refl _)
      have w1 : wth u N (nI a) (dep u N 4 y) y = false := by
        rw [← wth_f hN (dep u N 4 y) 4 y c1 (by omega)]; exact hb
      exact chn_upd hN _ _ c1 w1
    obtain ⟨g', f, l1, l2, m, m1, m2⟩ := below_ind (u := u) hc ha (R := fun g f k => ∃ m, chn (upd u a y) N m (nI k) ∧ m + rch u N f k ≤ 5) ⟨_, base, by omega⟩ (fun g f j k hj hk hka hkj _ ⟨m, m1, m2⟩ => by
      refine ⟨m + 1, Or.inr ⟨k, hk, rfl, by rw [upd_n hka, hkj]; exact m1⟩, ?_⟩
      have := rch_ch (f := f) hk hkj
      omega) 3 k (Nat.le_refl _) hk hw
    have := rch_pos (u := u) (N := N) (f := f) (c := k) (by omega)
    exact chn_g m 4 _ m1 (by omega)
theorem chn_tal (hN : N ≤ 16) (hch : ∀ k, k < N → chn u N 4 (nI k)) : ∀ (f k : Nat), k < N → 4 < dep u N 4 (nI k) + f → tal u N f k := by
  intro f
  induction f with
  | zero => intro k hk h; have := dep_le u N 4 (nI k); omega
  | succ f ih =>
    intro k hk h j hj hjk
    refine ih j hj ?_
    rw [dep_j hN hch hj, hjk]
    omega
theorem tal_4 (hN : N ≤ 16) (hch : ∀ k, k < N → chn u N 4 (nI k)) {k : Nat} (hk : k < N) : tal u N 4 k := chn_tal hN hch 4 k hk (by rw [dep_j hN hch hk]; omega)
theorem wth_up (hN : N ≤ 16) {c j : Nat} (hj : j < N) (hc : c < N) (h : u j = nI c) : ∀ (f : Nat) (x : Int32), wth u N (nI j) f x = true → wth u N (nI c) (f + 1) x = true := by
  intro f
  induction f with
  | zero => exact fun x hw => Bool.noConfusion hw
  | succ f ih =>
    intro x hw
    rw [wth] at hw
    by_cases hx : has (nI N) x (nI 16) = true
    · obtain ⟨i, i1, rfl⟩ := (has_t (by decide) hN).mp hx
      rw [if_pos hx, ix_n (by omega)] at hw
      rw [wth_j hN i1]
      by_cases e : nI i = nI j
      · obtain rfl : i = j := eqN e (by omega) (by omega)
        by_cases e2 : nI i = nI c
        · rw [if_pos e2]
        · rw [if_neg e2, h, wth_j hN hc, if_pos rfl]
      · rw [if_neg e] at hw
        by_cases e2 : nI i = nI c
        · rw [if_pos e2]
        · rw [if_neg e2]
          exact ih _ hw
    · rw [if_neg hx] at hw
      exact Bool.noConfusion hw
theorem hmx_M {x : Int32} : ∀ (n i acc : Nat), hmx u N x n i acc = mxF (fun k => if wth u N x 4 (nI k) then dep u N 4 (nI k) else 0) n i acc := by
  intro n
  induction n with
  | zero => exact fun i acc => rfl
  | succ n ih =>
    intro i acc
    rw [hmx, mxF, ih]
    congr 1
    show _ = max acc (if wth u N x 4 (nI i) then dep u N 4 (nI i) else 0)
    by_cases c : wth u N x 4 (nI i) = true
    · rw [if_pos c, if_pos c]
    · rw [if_neg c, if_neg c, Nat.max_eq_left (Nat.zero_le _)]
theorem height_eq (hc : clo u N) (hch : ∀ k, k < N → chn u N 4 (nI k)) {a : Nat} (ha : a < N) : hmx u N (nI a) N 0 0 + 1 = dep u N 4 (nI a) + rch u N 4 a := by
  have hN := hc.1
  rw [hmx_M]
  have le : mxF (fun k => if wth u N (nI a) 4 (nI k) then dep u N 4 (nI k) else 0) N 0 0 ≤ dep u N 4 (nI a) + rch u N 4 a - 1 := by
    refine mxF_le N 0 0 (Nat.zero_le _) (fun k _ hk => ?_)
    have hk : k < N := by omega
    show (if wth u N (nI a) 4 (nI k) then dep u N 4 (nI k) else 0) ≤ _
    by_cases hw : wth u N (nI a) 4 (nI k) = true
    · rw [if_pos hw]
      obtain ⟨g', f, l1, l2, l3⟩ := below_ind (u := u) hc ha (R := fun g f k => dep u N 4 (nI k) + rch u N f k ≤ dep u N 4 (nI a) + rch u N 4 a) (Nat.le_refl _) (fun g f j k hj hk hka hkj _ m2 => by
        show dep u N 4 (nI k) + rch u N f k ≤ _
        have m2 : dep u N 4 (nI j) + rch u N (f + 1) j ≤ dep u N 4 (nI a) + rch u N 4 a := m2
        have := rch_ch (f := f) hk hkj
        rw [dep_j hN hch hk, hkj]
        omega) 3 k (Nat.le_refl _) hk hw
      have := rch_pos (u := u) (N := N) (f := f) (c := k) (by omega)
      have l3 : dep u N 4 (nI k) + rch u N f k ≤ dep u N 4 (nI a) + rch u N 4 a := l3
      omega
    · rw [if_neg hw]; exact Nat.zero_le _
  have ge : ∀ (f c : Nat), c < N → ∃ k, k < N ∧ wth u N (nI c) 4 (nI k) = true ∧ dep u N 4 (nI k) + 1 = dep u N 4 (nI c) + max 1 (rch u N f c) := by
    intro f
    induction f with
    | zero => exact fun c hcN => ⟨c, hcN, by rw [wth_j hN hcN, if_pos rfl], rfl⟩
    | succ f ih =>
      intro c hcN
      rw [rch]
      rcases mxF_at (g := fun j => if u j = nI c then rch u N f j else 0) N 0 0 with q | ⟨j, j1, j2, j3⟩
      · refine ⟨c, hcN, by rw [wth_j hN hcN, if_pos rfl], by rw [q]; rfl⟩
      · by_cases e : u j = nI c
        · have hj : j < N := by omega
          have j3 : mxF (fun j => if u j = nI c then rch u N f j else 0) N 0 0 = if u j = nI c then rch u N f j else 0 := j3
          rw [if_pos e] at j3
          rw [j3]
          rcases Nat.eq_zero_or_pos (rch u N f j) with z | z
          · exact ⟨c, hcN, by rw [wth_j hN hcN, if_pos rfl], by rw [z]; rfl⟩
          · obtain ⟨k, k1, k2, k3⟩ := ih j hj
            refine ⟨k, k1, ?_, ?_⟩
            · rw [← wth_f hN 4 5 _ (hch k k1) (by decide)]
              exact wth_up hN hj hcN e 4 _ k2
            · rw [dep_j hN hch hj, e] at k3
              rw [Nat.max_eq_right (by omega)] at k3 ⊢
              omega
        · have j3 : mxF (fun j => if u j = nI c then rch u N f j else 0) N 0 0 = if u j = nI c then rch u N f j else 0 := j3
          rw [if_neg e] at j3
          exact ⟨c, hcN, by rw [wth_j hN hcN, if_pos rfl], by rw [j3]; rfl⟩
  obtain ⟨k, k1, k2, k3⟩ := ge 4 a ha
  have rp := rch_pos (u := u) (N := N) (f := 4) (c := a) (by decide)
  have g1 := (mxF_ge (g := fun k => if wth u N (nI a) 4 (nI k) then dep u N 4 (nI k) else 0) N 0 0).2 k (Nat.zero_le _) (by omega)
  have g1 : (if wth u N (nI a) 4 (nI k) then dep u N 4 (nI k) else 0) ≤ mxF (fun k => if wth u N (nI a) 4 (nI k) then dep u N 4 (nI k) else 0) N 0 0 := g1
  rw [if_pos k2] at g1
  rw [Nat.max_eq_right (by omega)] at k3
  omega
end HG
