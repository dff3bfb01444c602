/-! Pure: digits, sums along cords -/
theorem skn_0 : ∀ (f : Nat) (a : Int32), skn f a (nI 0) = a
  | 0, a => rfl
  | f + 1, a => by
    rw [skn, show rem10 (nI 0) = nI 0 from by decide, show nI 0 / nI 10 = nI 0 from by decide, add0]
    exact skn_0 f a
theorem skn_dg : ∀ (f r : Nat) (a : Int32), r < 10 ^ f → r < 2 ^ 31 → skn f a (nI r) = dgF (f + 1) a (nI r) := by
  intro f
  induction f with
  | zero =>
    intro r a hr _
    obtain rfl : r = 0 := by simpa using hr
    rw [skn, dgF, if_pos (by decide)]
  | succ f ih =>
    intro r a hr h31
    rw [dgF]
    rcases Nat.eq_zero_or_pos r with q | q
    · subst q
      rw [if_pos (by decide), skn_0]
    · rw [if_neg (nI_nle q h31), skn, pk_div h31 (by decide) (by decide)]
      exact ih _ _ (by rw [Nat.div_lt_iff_lt_mul (by decide)]; rw [Nat.pow_succ] at hr; exact hr) (by omega)
theorem skn_dgs {j : Nat} (h : j < 2 ^ 31) : skn 9 (nI 0) (nI j / nI 10) = dgs (nI j / nI 10) := by
  rw [pk_div h (by decide) (by decide), dgs, skn_dg 9 _ _ (by omega) (by omega)]
theorem rem10_n {j : Nat} (h : j < 2 ^ 31) : rem10 (nI j) = nI (j % 10) := pk_rem h (by decide) (by decide)
theorem kn_eq {j : Nat} (h : j < 2 ^ 31) : kno (nI j) = knR (nI j) := by
  have hm : j % 10 < 10 := Nat.mod_lt _ (by decide)
  rw [kno, knR, skn_dgs h, rem10_n h, Int32.add_comm]
  by_cases q : j % 10 = 0
  · rw [q, if_pos (by decide), if_pos (by decide)]
  · have a1 : ¬ nI (j % 10) = 0 := fun r => q (eqN (b := 0) r (by omega) (by decide))
    rw [if_neg a1, if_neg (nI_nle (by omega) (by omega))]
theorem tu_eq {j : Nat} (h : j < 2 ^ 31) : tur (nI j) = tuR (nI j) := by
  rw [tur, tuR, skn_dgs h, Int32.add_comm]
theorem eaF_n : ∀ (n i j : Nat), j < 2 ^ 31 → 10 ^ i < 2 ^ 31 → eaF n (nI (10 ^ i)) (nI j) = nI (10 ^ (fsN n i j)) := by
  intro n
  induction n with
  | zero => intro i j _ _; rfl
  | succ n ih =>
    intro i j hj hi
    rw [eaF, fsN, pk_div hj (by decide) (by decide)]
    have h0 : 0 < 10 ^ i := Nat.pow_pos (by decide)
    have key : nI (10 ^ i) ≤ nI (j / 10) ↔ 9 < j / 10 ^ i := by
      constructor
      · intro q
        have q1 := leN q hi (by omega)
        have q2 : 10 ^ i * 10 ≤ j := by have := Nat.div_mul_le_self j 10; have := Nat.mul_le_mul_right 10 q1; omega
        have : 10 ≤ j / 10 ^ i := (Nat.le_div_iff_mul_le h0).mpr (by omega)
        omega
      · intro q
        have q2 : 10 * 10 ^ i ≤ j := (Nat.le_div_iff_mul_le h0).mp (by omega)
        exact nI_le ((Nat.le_div_iff_mul_le (by decide)).mpr (by omega)) (by omega)
    by_cases c : 9 < j / 10 ^ i
    · have q2 : 10 * 10 ^ i ≤ j := (Nat.le_div_iff_mul_le h0).mp (by omega)
      rw [if_pos (key.mpr c), if_pos c, pk_mul, ← Nat.pow_succ]
      exact ih _ _ hj (by rw [Nat.pow_succ]; omega)
    · rw [if_neg (fun r => c (key.mp r)), if_neg c]
theorem fsN_f : ∀ (f i j : Nat), j < 10 ^ (i + f + 1) → fsN (f + 1) i j = fsN f i j := by
  intro f
  induction f with
  | zero =>
    intro i j h
    rw [fsN, fsN]
    have h0 : 0 < 10 ^ i := Nat.pow_pos (by decide)
    rw [Nat.add_zero, Nat.pow_succ] at h
    have : j / 10 ^ i < 10 := (Nat.div_lt_iff_lt_mul h0).mpr (by omega)
    rw [if_neg (by omega)]
  | succ f ih =>
    intro i j h
    rw [fsN]
    conv => rhs; rw [fsN]
    by_cases c : 9 < j / 10 ^ i
    · rw [if_pos c, if_pos c]
      exact ih (i + 1) j (by rw [show i + 1 + f + 1 = i + (f + 1) + 1 by omega]; exact h)
    · rw [if_neg c, if_neg c]
theorem ea_eq {j : Nat} (h : j < 2 ^ 31) : eat (nI j) = eaV (nI j) := by
  rw [eat, eaV, ix_n h, eaN]
  rcases Nat.lt_or_ge j 10 with q | q
  · have e : fsN 10 0 j = 0 := by rw [fsN, if_neg (by simp; omega)]
    rw [if_pos (nI_lt q (by decide)), if_pos e]
  · have e : fsN 10 0 j = fsN 8 1 j := by
      rw [fsN, if_pos (by simp; omega)]
      exact fsN_f 8 1 j (by omega)
    have ge : ∀ f i, i ≤ fsN f i j := by
      intro f
      induction f with
      | zero => exact fun i => Nat.le_refl _
      | succ f ih =>
        intro i
        rw [fsN]
        by_cases c : 9 < j / 10 ^ i
        · rw [if_pos c]; exact Nat.le_trans (Nat.le_succ i) (ih (i + 1))
        · rw [if_neg c]; exact Nat.le_refl _
    have := ge 8 1
    rw [if_neg (nI_nlt q h), if_neg (by omega), e, show nI 10 = nI (10 ^ 1) from rfl, eaF_n 8 1 j h (by decide)]
/-! sums -/
theorem sumF_acc (f : Nat → Int32) : ∀ n i a, sumF f n i a = a + sumF f n i (nI 0)
  | 0, i, a => (add0 a).symm
  | n + 1, i, a => by
    rw [sumF, sumF, sumF_acc f n (i + 1) (a + f i), sumF_acc f n (i + 1) (nI 0 + f i), show nI 0 + f i = f i from Int32.zero_add _, Int32.add_assoc]
theorem sumF_ext {f g : Nat → Int32} : ∀ n i a, (∀ j, i ≤ j → j < i + n → f j = g j) → sumF f n i a = sumF g n i a
  | 0, i, a, _ => rfl
  | n + 1, i, a, h => by
    rw [sumF, sumF, h i (Nat.le_refl _) (by omega)]
    exact sumF_ext n (i + 1) _ (fun j a b => h j (by omega) (by omega))
theorem sumF_add {f g : Nat → Int32} : ∀ n i, sumF (fun k => f k + g k) n i (nI 0) = sumF f n i (nI 0) + sumF g n i (nI 0)
  | 0, i => by show nI 0 = nI 0 + nI 0; decide
  | n + 1, i => by
    rw [sumF, sumF, sumF, sumF_acc _ n (i + 1) _, sumF_acc f n (i + 1) _, sumF_acc g n (i + 1) _, sumF_add n (i + 1)]
    simp only [show (nI 0 : Int32) = 0 from rfl, Int32.zero_add]
    ac_rfl
theorem sumF_z {f : Nat → Int32} : ∀ n i, (∀ j, i ≤ j → j < i + n → f j = nI 0) → sumF f n i (nI 0) = nI 0
  | 0, i, _ => rfl
  | n + 1, i, h => by
    rw [sumF, h i (Nat.le_refl _) (by omega), add0]
    exact sumF_z n (i + 1) (fun j a b => h j (by omega) (by omega))
theorem sumF_pick {c : Nat} {m : Int32} : ∀ n i, sumF (fun k => if k = c then m else nI 0) n i (nI 0) = if i ≤ c ∧ c < i + n then m else nI 0
  | 0, i => by rw [sumF, if_neg (by omega)]
  | n + 1, i => by
    rw [sumF]
    by_cases h : i = c
    · subst h
      rw [if_pos rfl, if_pos (by omega), sumF_acc, sumF_pick n (i + 1), if_neg (by omega), add0]
      exact Int32.zero_add _
    · rw [if_neg h, add0, sumF_pick n (i + 1)]
      by_cases h2 : i + 1 ≤ c ∧ c < i + 1 + n
      · rw [if_pos h2, if_pos (by omega)]
      · rw [if_neg h2, if_neg (by omega)]
theorem sumF_n {f : Nat → Int32} {B : Nat} : ∀ n i a0, (∀ j, i ≤ j → j < i + n → ∃ w, w ≤ B ∧ f j = nI w) → ∃ w, w ≤ a0 + n * B ∧ sumF f n i (nI a0) = nI w
  | 0, i, a0, _ => ⟨a0, by omega, rfl⟩
  | n + 1, i, a0, h => by
    obtain ⟨w, w1, w2⟩ := h i (Nat.le_refl _) (by omega)
    obtain ⟨y, y1, y2⟩ := sumF_n n (i + 1) (a0 + w) (fun j a b => h j (by omega) (by omega))
    refine ⟨y, ?_, ?_⟩
    · rw [Nat.succ_mul]; omega
    · rw [sumF, w2, nI_add, y2]
/-- what is added along a cord's way -/
def aad (u : Nat → Int32) (N : Nat) : Nat → Int32 → Int32 → Nat → Int32
  | 0, _, _, _ => nI 0
  | f + 1, c, m, k => if has (nI N) c (nI 16) then (if k = ix c then m else nI 0) + aad u N f (u (ix c)) m k else nI 0
def clo (u : Nat → Int32) (N : Nat) : Prop := N ≤ 16 ∧ ∀ j, j < N → u j = -1 ∨ ∃ i, i < N ∧ u j = nI i
section SU
variable {u : Nat → Int32} {N : Nat}
theorem aab_aad : ∀ (f : Nat) (c m : Int32) (s : Nat → Int32) (k : Nat), aab u N f c m s k = s k + aad u N f c m k
  | 0, c, m, s, k => (add0 _).symm
  | f + 1, c, m, s, k => by
    rw [aab, aad]
    by_cases h : has (nI N) c (nI 16) = true
    · rw [if_pos h, if_pos h, aab_aad f]
      by_cases e : k = ix c
      · subst e
        rw [upd_s, if_pos rfl, Int32.add_assoc]
      · rw [upd_n e, if_neg e]
        show _ = s k + (0 + _)
        rw [Int32.zero_add]
    · rw [if_neg h, if_neg h, add0]
theorem aad_m1 (f : Nat) (m : Int32) (k : Nat) : aad u N f (-1) m k = nI 0 := by
  cases f with
  | zero => rfl
  | succ f => rw [aad, has_m1, if_neg (by decide)]
theorem aad_j {f c : Nat} (hN : N ≤ 16) (hc : c < N) (m : Int32) (k : Nat) : aad u N (f + 1) (nI c) m k = (if k = c then m else nI 0) + aad u N f (u c) m k := by
  rw [aad, if_pos (has_j hc (by decide) hN), ix_n (by omega)]
theorem aad_ch (h : clo u N) {k : Nat} (hk : k < N) {m : Int32} : ∀ (f c : Nat), c < N → sumF (fun j => if u j = nI k then aad u N f (nI c) m j else nI 0) N 0 (nI 0) = aad u N f (u c) m k := by
  have hN := h.1
  intro f
  induction f with
  | zero =>
    intro c hc
    exact sumF_z N 0 (fun j _ _ => by show (if u j = nI k then nI 0 else nI 0) = nI 0; split <;> rfl)
  | succ f ih =>
    intro c hc
    have e : sumF (fun j => if u j = nI k then aad u N (f + 1) (nI c) m j else nI 0) N 0 (nI 0) = sumF (fun j => (if j = c then (if u c = nI k then m else nI 0) else nI 0) + (if u j = nI k then aad u N f (u c) m j else nI 0)) N 0 (nI 0) := by
      refine sumF_ext N 0 _ (fun j _ _ => ?_)
      show (if u j = nI k then aad u N (f + 1) (nI c) m j else nI 0) = _
      rw [aad_j hN hc]
      by_cases q : u j = nI k
      · rw [if_pos q, if_pos q]
        by_cases r : j = c
        · subst r
          rw [if_pos rfl, if_pos rfl, if_pos q]
        · rw [if_neg r, if_neg r]
      · rw [if_neg q, if_neg q]
        by_cases r : j = c
        · subst r
          rw [if_pos rfl, if_neg q]; decide
        · rw [if_neg r]; decide
    rw [e, sumF_add, sumF_pick, if_pos ⟨Nat.zero_le _, by omega⟩]
    rcases h.2 c hc with q | ⟨i, i1, i2⟩
    · rw [q, if_neg (fun r => m1_nI (by omega) r.symm), aad_m1]
      rw [sumF_z N 0 (fun j _ _ => by show (if u j = nI k then aad u N f (-1) m j else nI 0) = nI 0; rw [aad_m1]; split <;> rfl)]
      decide
    · rw [i2, ih i i1, aad_j hN i1]
      by_cases r : k = i
      · subst r
        rw [if_pos rfl, if_pos rfl]
      · rw [if_neg (fun w => r (eqN w (by omega) (by omega)).symm), if_neg r]
theorem aad_f {m : Int32} {k : Nat} : ∀ (f g : Nat) (c : Int32), chn u N f c → N ≤ 16 → f ≤ g → aad u N g c m k = aad u N f c m k := by
  intro f
  induction f with
  | zero =>
    intro g c h _ _
    obtain rfl : c = -1 := h
    rw [aad_m1, aad_m1]
  | succ f ih =>
    intro g c h hN hg
    obtain ⟨g, rfl⟩ : ∃ g', g = g' + 1 := ⟨g - 1, by omega⟩
    rcases h with rfl | ⟨j, j1, rfl, j3⟩
    · rw [aad_m1, aad_m1]
    · rw [aad_j hN j1, aad_j hN j1, ih g _ j3 hN (by omega)]
/-- each sum is the value and the sums below it -/
def lcl (u v s : Nat → Int32) (N : Nat) : Prop := ∀ k, k < N → s k = sumF (fun j => if u j = nI k then s j else nI 0) N 0 (v k)
theorem lcl_sm {v s : Nat → Int32} (h : lcl u v s N) : ∀ (f k : Nat), k < N → tal u N f k → s k = smR u v N f k := by
  intro f
  induction f with
  | zero => exact fun k _ h => absurd h id
  | succ f ih =>
    intro k hk ht
    rw [h k hk, smR]
    refine sumF_ext N 0 _ (fun j _ hj => ?_)
    have hj : j < N := by omega
    show (if u j = nI k then s j else nI 0) = (if u j = nI k then smR u v N f j else nI 0)
    by_cases q : u j = nI k
    · rw [if_pos q, if_pos q, ih j hj (ht j hj q)]
    · rw [if_neg q, if_neg q]
theorem smR_f {v : Nat → Int32} : ∀ (f k : Nat), tal u N f k → smR u v N (f + 1) k = smR u v N f k := by
  intro f
  induction f with
  | zero => exact fun k h => absurd h id
  | succ f ih =>
    intro k ht
    rw [smR]
    conv => rhs; rw [smR]
    refine sumF_ext N 0 _ (fun j _ hj => ?_)
    have hj : j < N := by omega
    show (if u j = nI k then smR u v N (f + 1) j else nI 0) = (if u j = nI k then smR u v N f j else nI 0)
    by_cases q : u j = nI k
    · rw [if_pos q, if_pos q, ih j (ht j hj q)]
    · rw [if_neg q, if_neg q]
theorem sm_lcl {v : Nat → Int32} {f : Nat} (h : ∀ k, k < N → tal u N (f + 1) k) : lcl u v (smR u v N (f + 1)) N := by
  intro k hk
  rw [smR]
  refine sumF_ext N 0 _ (fun j _ hj => ?_)
  have hj : j < N := by omega
  show (if u j = nI k then smR u v N f j else nI 0) = (if u j = nI k then smR u v N (f + 1) j else nI 0)
  by_cases q : u j = nI k
  · rw [if_pos q, if_pos q, smR_f f j (h k hk j hj q)]
  · rw [if_neg q, if_neg q]
theorem sum_if {p : Nat → Prop} (hp : ∀ j, Decidable (p j)) {s a : Nat → Int32} : sumF (fun j => if p j then s j + a j else nI 0) N 0 (nI 0) = sumF (fun j => if p j then s j else nI 0) N 0 (nI 0) + sumF (fun j => if p j then a j else nI 0) N 0 (nI 0) := by
  rw [← sumF_add]
  refine sumF_ext N 0 _ (fun j _ _ => ?_)
  show (if p j then s j + a j else nI 0) = (if p j then s j else nI 0) + (if p j then a j else nI 0)
  by_cases q : p j
  · rw [if_pos q, if_pos q, if_pos q]
  · rw [if_neg q, if_neg q, if_neg q]; decide
/-- a value is tied -/
theorem lcl_tie {v s : Nat → Int32} {c : Nat} {x : Int32} (h : lcl u v s N) (hc : clo u N) (hn : c < N) (hh : chn u N 4 (nI c)) : lcl u (upd v c x) (aab u N 4 (nI c) (x - v c) s) N := by
  intro k hk
  have hN := hc.1
  have e : sumF (fun j => if u j = nI k then aab u N 4 (nI c) (x - v c) s j else nI 0) N 0 (nI 0) = sumF (fun j => if u j = nI k then s j else nI 0) N 0 (nI 0) + aad u N 4 (u c) (x - v c) k := by
    rw [← aad_ch hc hk 4 c hn, ← sum_if]
    refine sumF_ext N 0 _ (fun j _ _ => ?_)
    show (if u j = nI k then aab u N 4 (nI c) (x - v c) s j else nI 0) = (if u j = nI k then s j + aad u N 4 (nI c) (x - v c) j else nI 0)
    rw [aab_aad]
  have hk' := h k hk
  rw [sumF_acc] at hk'
  rw [sumF_acc, e, aab_aad, hk', ← aad_f 4 5 (nI c) hh hN (by decide), aad_j hN hn]
  by_cases q : k = c
  · subst q
    rw [upd_s, if_pos rfl, show x = v k + (x - v k) by rw [Int32.add_comm, Int32.sub_add_cancel]]
    generalize x - v k = y
    rw [show v k + y - v k = y by rw [Int32.add_comm, Int32.add_sub_cancel]]
    ac_rfl
  · rw [upd_n q, if_neg q]
    show _ + (0 + _) = _
    rw [Int32.zero_add]
    ac_rfl
theorem smR_n {v : Nat → Int32} (hN : N ≤ 16) (hv : ∀ k, k < N → ∃ w, w ≤ 9999 ∧ v k = nI w) : ∀ (f k : Nat), k < N → ∃ w, w ≤ (if f = 0 then 0 else if f = 1 then 9999 else if f = 2 then 169983 else if f = 3 then 2729727 else 43685631) ∧ (f ≤ 4 → smR u v N f k = nI w) := by
  have step : ∀ f B, (∀ k, k < N → ∃ w, w ≤ B ∧ smR u v N f k = nI w) → ∀ k, k < N → ∃ w, w ≤ 9999 + 16 * B ∧ smR u v N (f + 1) k = nI w := by
    intro f B h k hk
    obtain ⟨a0, a1, a2⟩ := hv k hk
    obtain ⟨w, w1, w2⟩ := sumF_n (f := fun j => if u j = nI k then smR u v N f j else nI 0) (B := B) N 0 a0 (fun j _ hj => by
      by_cases q : u j = nI k
      · obtain ⟨y, y1, y2⟩ := h j (by omega)
        exact ⟨y, y1, by show (if u j = nI k then smR u v N f j else nI 0) = _; rw [if_pos q]; exact y2⟩
      · exact ⟨0, Nat.zero_le _, by show (if u j = nI k then smR u v N f j else nI 0) = _; rw [if_neg q]⟩)
    refine ⟨w, ?_, by rw [smR, a2]; exact w2⟩
    have : N * B ≤ 16 * B := Nat.mul_le_mul_right B hN
    omega
  have h0 : ∀ k, k < N → ∃ w, w ≤ 0 ∧ smR u v N 0 k = nI w := fun k _ => ⟨0, Nat.le_refl _, rfl⟩
  have h1 := step 0 0 h0
  have h2 := step 1 9999 h1
  have h3 := step 2 169983 h2
  have h4 := step 3 2729727 h3
  intro f k hk
  rcases (show f = 0 ∨ f = 1 ∨ f = 2 ∨ f = 3 ∨ f = 4 ∨ 5 ≤ f by omega) with rfl | rfl | rfl | rfl | rfl | q
  · obtain ⟨w, a, b⟩ := h0 k hk; exact ⟨w, a, fun _ => b⟩
  · obtain ⟨w, a, b⟩ := h1 k hk; exact ⟨w, a, fun _ => b⟩
  · obtain ⟨w, a, b⟩ := h2 k hk; exact ⟨w, a, fun _ => b⟩
  · obtain ⟨w, a, b⟩ := h3 k hk; exact ⟨w, a, fun _ => b⟩
  · obtain ⟨w, a, b⟩ := h4 k hk; exact ⟨w, a, fun _ => b⟩
  · exact ⟨0, Nat.zero_le _, fun r => absurd r (by omega)⟩
theorem smR_4 {v : Nat → Int32} (hN : N ≤ 16) (hv : ∀ k, k < N → ∃ w, w ≤ 9999 ∧ v k = nI w) {k : Nat} (hk : k < N) : ∃ w, w ≤ 43685631 ∧ smR u v N 4 k = nI w := by
  obtain ⟨w, a, b⟩ := smR_n (u := u) hN hv 4 k hk
  exact ⟨w, a, b (Nat.le_refl _)⟩
end SU
