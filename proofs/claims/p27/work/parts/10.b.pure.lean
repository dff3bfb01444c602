/-! sums, months, depths -/
def dgF : Nat → Int32 → Int32 → Int32
  | 0, a, _ => a
  | f + 1, a, x => if x ≤ 0 then a else dgF f (a + rem10 x) (x / nI 10)
def dgs (x : Int32) : Int32 := dgF 10 (nI 0) x
def knR (x : Int32) : Int32 := dgs (x / nI 10) + (if rem10 x ≤ 0 then nI 0 else nI 1)
def tuR (x : Int32) : Int32 := dgs (x / nI 10) + (if rem10 x = nI 1 then nI 2 else rem10 x)
def smR (u v : Nat → Int32) (N : Nat) : Nat → Nat → Int32
  | 0, _ => nI 0
  | f + 1, c => sumF (fun k => if u k = nI c then smR u v N f k else nI 0) N 0 (v c)
def tal (u : Nat → Int32) (N : Nat) : Nat → Nat → Prop
  | 0, _ => False
  | f + 1, c => ∀ k, k < N → u k = nI c → tal u N f k
def chn (u : Nat → Int32) (N : Nat) : Nat → Int32 → Prop
  | 0, c => c = -1
  | f + 1, c => c = -1 ∨ ∃ j, j < N ∧ c = nI j ∧ chn u N f (u j)
def bsI : Option Nat → Int32
  | none => -1
  | some b => nI b
def bsR (v : Nat → Int32) : Nat → Nat → Option Nat → Option Nat
  | 0, _, b => b
  | f + 1, i, none => bsR v f (i + 1) (if v i ≤ 0 then none else some i)
  | f + 1, i, some b => bsR v f (i + 1) (if v i ≤ 0 then some b else if tuR (v i) ≤ tuR (v b) then some b else some i)
def fsN : Nat → Nat → Nat → Nat
  | 0, i, _ => i
  | f + 1, i, j => if 9 < j / 10 ^ i then fsN f (i + 1) j else i
def eaN (j : Nat) : Int32 := if fsN 10 0 j = 0 then nI 0 else nI j - nI (10 ^ fsN 10 0 j)
def eaV (x : Int32) : Int32 := eaN (ix x)
def mx0 (x : Int32) : Int32 := if nI 0 < x then x else nI 0
theorem m1_nI {f : Nat} (h : f < 2 ^ 31) : ¬ nI f = -1 := fun e => nI_pos h (by rw [e]; decide)
theorem skn_0 : ∀ (f : Nat) (a : Int32), skn f a (nI 0) = a
  | 0, a => rfl
  | f + 1, a => by
    rw [skn, show rem10 (nI 0) = nI 0 from by decide, show nI 0 / nI 10 = nI 0 from by decide, add0]
    exact skn_0 f a
theorem skn_dg : ∀ (f r : Nat) (a : Int32), r < 10 ^ f → r < 2 ^ 31 → skn f a (nI r) = dgF (f + 1) a (nI r) := by
  intro f
  induction f with
  | zero =>
    intro r a hr _
    obtain rfl : r = 0 := by simpa using hr
    rw [skn, dgF, if_pos (by decide)]
  | succ f ih =>
    intro r a hr h31
    rw [dgF]
    rcases Nat.eq_zero_or_pos r with q | q
    · subst q
      rw [if_pos (by decide), skn_0]
    · rw [if_neg (nI_nle q h31), skn, pk_div h31 (by decide) (by decide)]
      exact ih _ _ (by rw [Nat.div_lt_iff_lt_mul (by decide)]; rw [Nat.pow_succ] at hr; exact hr) (by omega)
theorem skn_dgs {j : Nat} (h : j < 2 ^ 31) : skn 9 (nI 0) (nI j / nI 10) = dgs (nI j / nI 10) := by
  rw [pk_div h (by decide) (by decide), dgs, skn_dg 9 _ _ (by omega) (by omega)]
theorem rem10_n {j : Nat} (h : j < 2 ^ 31) : rem10 (nI j) = nI (j % 10) := pk_rem h (by decide) (by decide)
theorem kn_eq {j : Nat} (h : j < 2 ^ 31) : kno (nI j) = knR (nI j) := by
  have hm : j % 10 < 10 := Nat.mod_lt _ (by decide)
  rw [kno, knR, skn_dgs h, rem10_n h, Int32.add_comm]
  by_cases q : j % 10 = 0
  · rw [q, if_pos (by decide), if_pos (by decide)]
  · have a1 : ¬ nI (j % 10) = 0 := fun r => q (eqN (b := 0) r (by omega) (by decide))
    rw [if_neg a1, if_neg (nI_nle (by omega) (by omega))]
theorem tu_eq {j : Nat} (h : j < 2 ^ 31) : tur (nI j) = tuR (nI j) := by
  rw [tur, tuR, skn_dgs h, Int32.add_comm]
theorem eaF_n : ∀ (n i j : Nat), j < 2 ^ 31 → 10 ^ i < 2 ^ 31 → eaF n (nI (10 ^ i)) (nI j) = nI (10 ^ (fsN n i j)) := by
  intro n
  induction n with
  | zero => intro i j _ _; rfl
  | succ n ih =>
    intro i j hj hi
    rw [eaF, fsN, pk_div hj (by decide) (by decide)]
    have h0 : 0 < 10 ^ i := Nat.pow_pos (by decide)
    have key : nI (10 ^ i) ≤ nI (j / 10) ↔ 9 < j / 10 ^ i := by
      constructor
      · intro q
        have q1 := leN q hi (by omega)
        have q2 : 10 ^ i * 10 ≤ j := by have := Nat.div_mul_le_self j 10; have := Nat.mul_le_mul_right 10 q1; omega
        have : 10 ≤ j / 10 ^ i := (Nat.le_div_iff_mul_le h0).mpr (by omega)
        omega
      · intro q
        have q2 : 10 * 10 ^ i ≤ j := (Nat.le_div_iff_mul_le h0).mp (by omega)
        exact nI_le ((Nat.le_div_iff_mul_le (by decide)).mpr (by omega)) (by omega)
    by_cases c : 9 < j / 10 ^ i
    · have q2 : 10 * 10 ^ i ≤ j := (Nat.le_div_iff_mul_le h0).mp (by omega)
      rw [if_pos (key.mpr c), if_pos c, pk_mul, ← Nat.pow_succ]
      exact ih _ _ hj (by rw [Nat.pow_succ]; omega)
    · rw [if_neg (fun r => c (key.mp r)), if_neg c]
theorem fsN_f : ∀ (f i j : Nat), j < 10 ^ (i + f + 1) → fsN (f + 1) i j = fsN f i j := by
  intro f
  induction f with
  | zero =>
    intro i j h
    rw [fsN, fsN]
    have h0 : 0 < 10 ^ i := Nat.pow_pos (by decide)
    rw [Nat.add_zero, Nat.pow_succ] at h
    have : j / 10 ^ i < 10 := (Nat.div_lt_iff_lt_mul h0).mpr (by omega)
    rw [if_neg (by omega)]
  | succ f ih =>
    intro i j h
    rw [fsN]
    conv => rhs; rw [fsN]
    by_cases c : 9 < j / 10 ^ i
    · rw [if_pos c, if_pos c]
      exact ih (i + 1) j (by rw [show i + 1 + f + 1 = i + (f + 1) + 1 by omega]; exact h)
    · rw [if_neg c, if_neg c]
theorem ea_eq {j : Nat} (h : j < 2 ^ 31) : eat (nI j) = eaV (nI j) := by
  rw [eat, eaV, ix_n h, eaN]
  rcases Nat.lt_or_ge j 10 with q | q
  · have e : fsN 10 0 j = 0 := by rw [fsN, if_neg (by simp; omega)]
    rw [if_pos (nI_lt q (by decide)), if_pos e]
  · have e : fsN 10 0 j = fsN 8 1 j := by
      rw [fsN, if_pos (by simp; omega)]
      exact fsN_f 8 1 j (by omega)
    have ge : ∀ f i, i ≤ fsN f i j := by
      intro f
      induction f with
      | zero => exact fun i => Nat.le_refl _
      | succ f ih =>
        intro i
        rw [fsN]
        by_cases c : 9 < j / 10 ^ i
        · rw [if_pos c]; exact Nat.le_trans (Nat.le_succ i) (ih (i + 1))
        · rw [if_neg c]; exact Nat.le_refl _
    have := ge 8 1
    rw [if_neg (nI_nlt q h), if_neg (by omega), e, show nI 10 = nI (10 ^ 1) from rfl, eaF_n 8 1 j h (by decide)]
theorem sumF_acc (f : Nat → Int32) : ∀ n i a, sumF f n i a = a + sumF f n i (nI 0)
  | 0, i, a => (add0 a).symm
  | n + 1, i, a => by
    rw [sumF, sumF, sumF_acc f n (i + 1) (a + f i), sumF_acc f n (i + 1) (nI 0 + f i), show nI 0 + f i = f i from Int32.zero_add _, Int32.add_assoc]
theorem sumF_ext {f g : Nat → Int32} : ∀ n i a, (∀ j, i ≤ j → j < i + n → f j = g j) → sumF f n i a = sumF g n i a
  | 0, i, a, _ => rfl
  | n + 1, i, a, h => by
    rw [sumF, sumF, h i (Nat.le_refl _) (by omega)]
    exact sumF_ext n (i + 1) _ (fun j a b => h j (by omega) (by omega))
theorem sumF_add {f g : Nat → Int32} : ∀ n i, sumF (fun k => f k + g k) n i (nI 0) = sumF f n i (nI 0) + sumF g n i (nI 0)
  | 0, i => by show nI 0 = nI 0 + nI 0; decide
  | n + 1, i => by
    rw [sumF, sumF, sumF, sumF_acc _ n (i + 1) _, sumF_acc f n (i + 1) _, sumF_acc g n (i + 1) _, sumF_add n (i + 1)]
    simp only [show (nI 0 : Int32) = 0 from rfl, Int32.zero_add]
    ac_rfl
theorem sumF_z {f : Nat → Int32} : ∀ n i, (∀ j, i ≤ j → j < i + n → f j = nI 0) → sumF f n i (nI 0) = nI 0
  | 0, i, _ => rfl
  | n + 1, i, h => by
    rw [sumF, h i (Nat.le_refl _) (by omega), add0]
    exact sumF_z n (i + 1) (fun j a b => h j (by omega) (by omega))
theorem sumF_pick {c : Nat} {m : Int32} : ∀ n i, sumF (fun k => if k = c then m else nI 0) n i (nI 0) = if i ≤ c ∧ c < i + n then m else nI 0
  | 0, i => by rw [sumF, if_neg (by omega)]
  | n + 1, i => by
    rw [sumF]
    by_cases h : i = c
    · subst h
      rw [if_pos rfl, if_pos (by omega), sumF_acc, sumF_pick n (i + 1), if_neg (by omega), add0]
      exact Int32.zero_add _
    · rw [if_neg h, add0, sumF_pick n (i + 1)]
      by_cases h2 : i + 1 ≤ c ∧ c < i + 1 + n
      · rw [if_pos h2, if_pos (by omega)]
      · rw [if_neg h2, if_neg (by omega)]
theorem sumF_n {f : Nat → Int32} {B : Nat} : ∀ n i a0, (∀ j, i ≤ j → j < i + n → ∃ w, w ≤ B ∧ f j = nI w) → ∃ w, w ≤ a0 + n * B ∧ sumF f n i (nI a0) = nI w
  | 0, i, a0, _ => ⟨a0, by omega, rfl⟩
  | n + 1, i, a0, h => by
    obtain ⟨w, w1, w2⟩ := h i (Nat.le_refl _) (by omega)
    obtain ⟨y, y1, y2⟩ := sumF_n n (i + 1) (a0 + w) (fun j a b => h j (by omega) (by omega))
    refine ⟨y, ?_, ?_⟩
    · rw [Nat.succ_mul]; omega
    · rw [sumF, w2, nI_add, y2]
/-- what is added along a cord's way -/
def aad (u : Nat → Int32) (N : Nat) : Nat → Int32 → Int32 → Nat → Int32
  | 0, _, _, _ => nI 0
  | f + 1, c, m, k => if has (nI N) c (nI 16) then (if k = ix c then m else nI 0) + aad u N f (u (ix c)) m k else nI 0
def clo (u : Nat → Int32) (N : Nat) : Prop := N ≤ 16 ∧ ∀ j, j < N → u j = -1 ∨ ∃ i, i < N ∧ u j = nI i
section
variable {u : Nat → Int32} {N : Nat}
theorem aab_aad : ∀ (f : Nat) (c m : Int32) (s : Nat → Int32) (k : Nat), aab u N f c m s k = s k + aad u N f c m k
  | 0, c, m, s, k => (add0 _).symm
  | f + 1, c, m, s, k => by
    rw [aab, aad]
    by_cases h : has (nI N) c (nI 16) = true
    · rw [if_pos h, if_pos h, aab_aad f]
      by_cases e : k = ix c
      · subst e
        rw [upd_s, if_pos rfl, Int32.add_assoc]
      · rw [upd_n e, if_neg e]
        show _ = s k + (0 + _)
        rw [Int32.zero_add]
    · rw [if_neg h, if_neg h, add0]
theorem aad_m1 (f : Nat) (m : Int32) (k : Nat) : aad u N f (-1) m k = nI 0 := by
  cases f with
  | zero => rfl
  | succ f => rw [aad, has_m1, if_neg (by decide)]
theorem aad_j {f c : Nat} (hN : N ≤ 16) (hc : c < N) (m : Int32) (k : Nat) : aad u N (f + 1) (nI c) m k = (if k = c then m else nI 0) + aad u N f (u c) m k := by
  rw [aad, if_pos (has_j hc (by decide) hN), ix_n (by omega)]
theorem aad_ch (h : clo u N) {k : Nat} (hk : k < N) {m : Int32} : ∀ (f c : Nat), c < N → sumF (fun j => if u j = nI k then aad u N f (nI c) m j else nI 0) N 0 (nI 0) = aad u N f (u c) m k := by
  have hN := h.1
  intro f
  induction f with
  | zero =>
    intro c hc
    exact sumF_z N 0 (fun j _ _ => by show (if u j = nI k then nI 0 else nI 0) = nI 0; split <;> rfl)
  | succ f ih =>
    intro c hc
    have e : sumF (fun j => if u j = nI k then aad u N (f + 1) (nI c) m j else nI 0) N 0 (nI 0) = sumF (fun j => (if j = c then (if u c = nI k then m else nI 0) else nI 0) + (if u j = nI k then aad u N f (u c) m j else nI 0)) N 0 (nI 0) := by
      refine sumF_ext N 0 _ (fun j _ _ => ?_)
      show (if u j = nI k then aad u N (f + 1) (nI c) m j else nI 0) = _
      rw [aad_j hN hc]
      by_cases q : u j = nI k
      · rw [if_pos q, if_pos q]
        by_cases r : j = c
        · subst r
          rw [if_pos rfl, if_pos rfl, if_pos q]
        · rw [if_neg r, if_neg r]
      · rw [if_neg q, if_neg q]
        by_cases r : j = c
        · subst r
          rw [if_pos rfl, if_neg q]; decide
        · rw [if_neg r]; decide
    rw [e, sumF_add, sumF_pick, if_pos ⟨Nat.zero_le _, by omega⟩]
    rcases h.2 c hc with q | ⟨i, i1, i2⟩
    · rw [q, if_neg (fun r => m1_nI (by omega) r.symm), aad_m1]
      rw [sumF_z N 0 (fun j _ _ => by show (if u j = nI k then aad u N f (-1) m j else nI 0) = nI 0; rw [aad_m1]; split <;> rfl)]
      decide
    · rw [i2, ih i i1, aad_j hN i1]
      by_cases r : k = i
      · subst r
        rw [if_pos rfl, if_pos rfl]
      · rw [if_neg (fun w => r (eqN w (by omega) (by omega)).symm), if_neg r]
theorem aad_f {m : Int32} {k : Nat} : ∀ (f g : Nat) (c : Int32), chn u N f c → N ≤ 16 → f ≤ g → aad u N g c m k = aad u N f c m k := by
  intro f
  induction f with
  | zero =>
    intro g c h _ _
    obtain rfl : c = -1 := h
    rw [aad_m1, aad_m1]
  | succ f ih =>
    intro g c h hN hg
    obtain ⟨g, rfl⟩ : ∃ g', g = g' + 1 := ⟨g - 1, by omega⟩
    rcases h with rfl | ⟨j, j1, rfl, j3⟩
    · rw [aad_m1, aad_m1]
    · rw [aad_j hN j1, aad_j hN j1, ih g _ j3 hN (by omega)]
/-- each sum is the value and the sums below it -/
def lcl (u v s : Nat → Int32) (N : Nat) : Prop := ∀ k, k < N → s k = sumF (fun j => if u j = nI k then s j else nI 0) N 0 (v k)
theorem lcl_sm {v s : Nat → Int32} (h : lcl u v s N) : ∀ (f k : Nat), k < N → tal u N f k → s k = smR u v N f k := by
  intro f
  induction f with
  | zero => exact fun k _ h => absurd h id
  | succ f ih =>
    intro k hk ht
    rw [h k hk, smR]
    refine sumF_ext N 0 _ (fun j _ hj => ?_)
    have hj : j < N := by omega
    show (if u j = nI k then s j else nI 0) = (if u j = nI k then smR u v N f j else nI 0)
    by_cases q : u j = nI k
    · rw [if_pos q, if_pos q, ih j hj (ht j hj q)]
    · rw [if_neg q, if_neg q]
theorem smR_f {v : Nat → Int32} : ∀ (f k : Nat), tal u N f k → smR u v N (f + 1) k = smR u v N f k := by
  intro f
  induction f with
  | zero => exact fun k h => absurd h id
  | succ f ih =>
    intro k ht
    rw [smR]
    conv => rhs; rw [smR]
    refine sumF_ext N 0 _ (fun j _ hj => ?_)
    have hj : j < N := by omega
    show (if u j = nI k then smR u v N (f + 1) j else nI 0) = (if u j = nI k then smR u v N f j else nI 0)
    by_cases q : u j = nI k
    · rw [if_pos q, if_pos q, ih j (ht j hj q)]
    · rw [if_neg q, if_neg q]
theorem sm_lcl {v : Nat → Int32} {f : Nat} (h : ∀ k, k < N → tal u N (f + 1) k) : lcl u v (smR u v N (f + 1)) N := by
  intro k hk
  rw [smR]
  refine sumF_ext N 0 _ (fun j _ hj => ?_)
  have hj : j < N := by omega
  show (if u j = nI k then smR u v N f j else nI 0) = (if u j = nI k then smR u v N (f + 1) j else nI 0)
  by_cases q : u j = nI k
  · rw [if_pos q, if_pos q, smR_f f j (h k hk j hj q)]
  · rw [if_neg q, if_neg q]
theorem sum_if {p : Nat → Prop} (hp : ∀ j, Decidable (p j)) {s a : Nat → Int32} : sumF (fun j => if p j then s j + a j else nI 0) N 0 (nI 0) = sumF (fun j => if p j then s j else nI 0) N 0 (nI 0) + sumF (fun j => if p j then a j else nI 0) N 0 (nI 0) := by
  rw [← sumF_add]
  refine sumF_ext N 0 _ (fun j _ _ => ?_)
  show (if p j then s j + a j else nI 0) = (if p j then s j else nI 0) + (if p j then a j else nI 0)
  by_cases q : p j
  · rw [if_pos q, if_pos q, if_pos q]
  · rw [if_neg q, if_neg q, if_neg q]; decide
/-- a value is tied -/
theorem lcl_tie {v s : Nat → Int32} {c : Nat} {x : Int32} (h : lcl u v s N) (hc : clo u N) (hn : c < N) (hh : chn u N 4 (nI c)) : lcl u (upd v c x) (aab u N 4 (nI c) (x - v c) s) N := by
  intro k hk
  have hN := hc.1
  have e : sumF (fun j => if u j = nI k then aab u N 4 (nI c) (x - v c) s j else nI 0) N 0 (nI 0) = sumF (fun j => if u j = nI k then s j else nI 0) N 0 (nI 0) + aad u N 4 (u c) (x - v c) k := by
    rw [← aad_ch hc hk 4 c hn, ← sum_if]
    refine sumF_ext N 0 _ (fun j _ _ => ?_)
    show (if u j = nI k then aab u N 4 (nI c) (x - v c) s j else nI 0) = (if u j = nI k then s j + aad u N 4 (nI c) (x - v c) j else nI 0)
    rw [aab_aad]
  have hk' := h k hk
  rw [sumF_acc] at hk'
  rw [sumF_acc, e, aab_aad, hk', ← aad_f 4 5 (nI c) hh hN (by decide), aad_j hN hn]
  by_cases q : k = c
  · subst q
    rw [upd_s, if_pos rfl, show x = v k + (x - v k) by rw [Int32.add_comm, Int32.sub_add_cancel]]
    generalize x - v k = y
    rw [show v k + y - v k = y by rw [Int32.add_comm, Int32.add_sub_cancel]]
    ac_rfl
  · rw [upd_n q, if_neg q]
    show _ + (0 + _) = _
    rw [Int32.zero_add]
    ac_rfl
theorem smR_n {v : Nat → Int32} (hN : N ≤ 16) (hv : ∀ k, k < N → ∃ w, w ≤ 9999 ∧ v k = nI w) : ∀ (f k : Nat), k < N → ∃ w, w ≤ (if f = 0 then 0 else if f = 1 then 9999 else if f = 2 then 169983 else if f = 3 then 2729727 else 43685631) ∧ (f ≤ 4 → smR u v N f k = nI w) := by
  have step : ∀ f B, (∀ k, k < N → ∃ w, w ≤ B ∧ smR u v N f k = nI w) → ∀ k, k < N → ∃ w, w ≤ 9999 + 16 * B ∧ smR u v N (f + 1) k = nI w := by
    intro f B h k hk
    obtain ⟨a0, a1, a2⟩ := hv k hk
    obtain ⟨w, w1, w2⟩ := sumF_n (f := fun j => if u j = nI k then smR u v N f j else nI 0) (B := B) N 0 a0 (fun j _ hj => by
      by_cases q : u j = nI k
      · obtain ⟨y, y1, y2⟩ := h j (by omega)
        exact ⟨y, y1, by show (if u j = nI k then smR u v N f j else nI 0) = _; rw [if_pos q]; exact y2⟩
      · exact ⟨0, Nat.zero_le _, by show (if u j = nI k then smR u v N f j else nI 0) = _; rw [if_neg q]⟩)
    refine ⟨w, ?_, by rw [smR, a2]; exact w2⟩
    have : N * B ≤ 16 * B := Nat.mul_le_mul_right B hN
    omega
  have h0 : ∀ k, k < N → ∃ w, w ≤ 0 ∧ smR u v N 0 k = nI w := fun k _ => ⟨0, Nat.le_refl _, rfl⟩
  have h1 := step 0 0 h0
  have h2 := step 1 9999 h1
  have h3 := step 2 169983 h2
  have h4 := step 3 2729727 h3
  intro f k hk
  rcases (show f = 0 ∨ f = 1 ∨ f = 2 ∨ f = 3 ∨ f = 4 ∨ 5 ≤ f by omega) with rfl | rfl | rfl | rfl | rfl | q
  · obtain ⟨w, a, b⟩ := h0 k hk; exact ⟨w, a, fun _ => b⟩
  · obtain ⟨w, a, b⟩ := h1 k hk; exact ⟨w, a, fun _ => b⟩
  · obtain ⟨w, a, b⟩ := h2 k hk; exact ⟨w, a, fun _ => b⟩
  · obtain ⟨w, a, b⟩ := h3 k hk; exact ⟨w, a, fun _ => b⟩
  · obtain ⟨w, a, b⟩ := h4 k hk; exact ⟨w, a, fun _ => b⟩
  · exact ⟨0, Nat.zero_le _, fun r => absurd r (by omega)⟩
theorem smR_4 {v : Nat → Int32} (hN : N ≤ 16) (hv : ∀ k, k < N → ∃ w, w ≤ 9999 ∧ v k = nI w) {k : Nat} (hk : k < N) : ∃ w, w ≤ 43685631 ∧ smR u v N 4 k = nI w := by
  obtain ⟨w, a, b⟩ := smR_n (u := u) hN hv 4 k hk
  exact ⟨w, a, b (Nat.le_refl _)⟩
end
def opD (D S : MI) : Nat → Int32 → Int32 := opF D S (nN D) (nK D) (nT D) (zS D)
theorem chn_clo {u : Nat → Int32} {N : Nat} (hN : N ≤ 16) (h : ∀ k, k < N → chn u N 4 (nI k)) : clo u N := by
  refine ⟨hN, fun k hk => ?_⟩
  rcases h k hk with q | ⟨j, j1, j2, j3⟩
  · exact absurd q (m1_nI (by omega))
  · obtain rfl : k = j := eqN j2 (by omega) (by omega)
    rcases j3 with q | ⟨i, i1, i2, _⟩
    · exact Or.inl q
    · exact Or.inr ⟨i, i1, i2⟩
theorem aab_ext {u u' : Nat → Int32} {N : Nat} (hN : N ≤ 16) (e : ∀ k, k < N → u' k = u k) : ∀ (f : Nat) (c m : Int32) (s : Nat → Int32), aab u' N f c m s = aab u N f c m s
  | 0, _, _, _ => rfl
  | f + 1, c, m, s => by
    rw [aab, aab]
    by_cases h : has (nI N) c (nI 16) = true
    · rw [if_pos h, if_pos h]
      obtain ⟨j, j1, rfl⟩ := (has_t (by decide) hN).mp h
      rw [ix_n (by omega), e j j1]
      exact aab_ext hN e f _ _ _
    · rw [if_neg h, if_neg h]
section
variable {D S B : MI} {row : Nat → Int32} {ts : Nat → Option EX} {es : Nat → EX}
/-- what is carried out -/
def tdR (row : Nat → Int32) (cr x : Int32) (kk : Nat) : Int32 := if tooB (row (25 + kk)) cr then x - rem10 x else x
theorem cl_n (x : Int32) : ∃ w, w ≤ 9999 ∧ clF x = nI w := by
  unfold clF
  by_cases h : x < nI 9999
  · rw [if_pos h]
    by_cases h0 : nI 0 < x
    · rw [if_pos h0]
      obtain ⟨j, j1, rfl⟩ := nI_of (x := x) (fun q => absurd (Int32.lt_trans q h0) (Int32.lt_irrefl))
      have := ltN h j1 (by decide)
      exact ⟨j, by omega, rfl⟩
    · rw [if_neg h0]
      exact ⟨0, by decide, rfl⟩
  · rw [if_neg h, if_pos (by decide)]
    exact ⟨9999, Nat.le_refl _, rfl⟩
theorem td_n {x cr : Int32} {kk w M : Nat} (hw : w ≤ M) (hM : M < 2 ^ 31) (hx : x = nI w) : ∃ y, y ≤ M ∧ tdR row cr x kk = nI y := by
  subst hx
  unfold tdR
  by_cases c : tooB (row (25 + kk)) cr = true
  · rw [if_pos c, rem10_n (by omega), pk_sub (Nat.mod_le _ _)]
    exact ⟨w - w % 10, by omega, rfl⟩
  · rw [if_neg c]
    exact ⟨w, hw, rfl⟩
theorem lcl_ext {u v v' s s' : Nat → Int32} {N : Nat} (h : lcl u v s N) (e : ∀ k, k < N → v' k = v k) (e2 : ∀ k, k < N → s' k = s k) : lcl u v' s' N := by
  intro k hk
  rw [e2 k hk, e k hk, h k hk]
  refine sumF_ext _ _ _ (fun j _ hj => ?_)
  show (if u j = nI k then s j else nI 0) = (if u j = nI k then s' j else nI 0)
  rw [e2 j (by omega)]
end
def dgN : Nat → Nat → Nat
  | 0, _ => 0
  | f + 1, r => if r = 0 then 0 else r % 10 + dgN f (r / 10)
theorem dgF_n : ∀ (f r a : Nat), r < 2 ^ 31 → dgF f (nI a) (nI r) = nI (a + dgN f r) := by
  intro f
  induction f with
  | zero => intro r a _; rfl
  | succ f ih =>
    intro r a h
    rw [dgF, dgN]
    by_cases q : r = 0
    · subst q
      rw [if_pos (by decide), if_pos rfl, Nat.add_zero]
    · rw [if_neg (nI_nle (by omega) h), if_neg q, rem10_n h, nI_add, pk_div h (by decide) (by decide), ih _ _ (by omega), Nat.add_assoc]
theorem dgN_le : ∀ (f r : Nat), dgN f r ≤ 9 * f := by
  intro f
  induction f with
  | zero => exact fun r => Nat.le_refl _
  | succ f ih =>
    intro r
    rw [dgN]
    split
    · omega
    · have := ih (r / 10); omega
theorem dgN_pos : ∀ (f r : Nat), 0 < r → r < 10 ^ f → 0 < dgN f r := by
  intro f
  induction f with
  | zero => intro r h h2; simp at h2; omega
  | succ f ih =>
    intro r h h2
    rw [dgN, if_neg (by omega)]
    by_cases q : r % 10 = 0
    · have := ih (r / 10) (by omega) (by rw [Nat.div_lt_iff_lt_mul (by decide)]; rw [Nat.pow_succ] at h2; exact h2)
      omega
    · omega
theorem tu_n {w : Nat} (h : w < 2 ^ 31) : ∃ t, t < 2 ^ 31 ∧ tuR (nI w) = nI t ∧ (0 < w ↔ 0 < t) := by
  have hm : w % 10 < 10 := Nat.mod_lt _ (by decide)
  refine ⟨dgN 10 (w / 10) + (if w % 10 = 1 then 2 else w % 10), ?_, ?_, ?_⟩
  · have := dgN_le 10 (w / 10)
    split <;> omega
  · rw [tuR, pk_div h (by decide) (by decide), dgs, dgF_n _ _ _ (by omega), rem10_n h, Nat.zero_add]
    by_cases q : w % 10 = 1
    · rw [q, if_pos rfl, if_pos rfl, nI_add]
    · rw [if_neg (fun r => q (eqN r (by omega) (by decide))), if_neg q, nI_add]
  · constructor
    · intro hw
      by_cases q : w % 10 = 0
      · have := dgN_pos 10 (w / 10) (by omega) (by omega)
        omega
      · split <;> omega
    · intro ht
      rcases Nat.eq_zero_or_pos w with q | q
      · subst q
        exact absurd ht (by decide)
      · exact q
theorem fsN_ge : ∀ (f i j : Nat), ¬ fsN f i j = i → 10 ^ (fsN f i j) ≤ j := by
  intro f
  induction f with
  | zero => intro i j h; exact absurd rfl h
  | succ f ih =>
    intro i j h
    rw [fsN] at h ⊢
    by_cases c : 9 < j / 10 ^ i
    · rw [if_pos c] at h ⊢
      by_cases e : fsN f (i + 1) j = i + 1
      · rw [e, Nat.pow_succ]
        have := (Nat.le_div_iff_mul_le (Nat.pow_pos (n := i) (show 0 < 10 by decide))).mp (show 10 ≤ j / 10 ^ i by omega)
        omega
      · exact ih _ _ e
    · rw [if_neg c] at h
      exact absurd rfl h
theorem ea_n {w : Nat} (h : w ≤ 9999) : ∃ y, y ≤ 9999 ∧ eaV (nI w) = nI y := by
  rw [eaV, ix_n (by omega), eaN]
  by_cases c : fsN 10 0 w = 0
  · rw [if_pos c]
    exact ⟨0, by decide, rfl⟩
  · rw [if_neg c, pk_sub (fsN_ge 10 0 w c)]
    exact ⟨w - 10 ^ fsN 10 0 w, Nat.le_trans (Nat.sub_le _ _) h, rfl⟩
theorem mtF_ext {v v' : Nat → Int32} : ∀ (f i : Nat) (b m : Int32), (∀ j, i ≤ j → j < i + f → v j = v' j) → mtF v f i b m = mtF v' f i b m := by
  intro f
  induction f with
  | zero => exact fun i b m _ => rfl
  | succ f ih =>
    intro i b m h
    rw [mtF, mtF, h i (Nat.le_refl _) (by omega)]
    by_cases c : m < tur (v' i)
    · rw [if_pos c, if_pos c]
      exact ih _ _ _ (fun j a b => h j (by omega) (by omega))
    · rw [if_neg c, if_neg c]
      exact ih _ _ _ (fun j a b => h j (by omega) (by omega))
theorem moth_eq {v : Nat → Int32} : ∀ (f i : Nat) (b : Option Nat) (m : Int32), (∀ j, i ≤ j → j < i + f → ∃ w, w ≤ 9999 ∧ v j = nI w) → (b = none → m = nI 0) → (∀ b0, b = some b0 → m = tur (v b0) ∧ ∃ w, 0 < w ∧ w ≤ 9999 ∧ v b0 = nI w) → mtF v f i (bsI b) m = bsI (bsR v f i b) := by
  intro f
  induction f with
  | zero => intro i b m _ _ _; cases b <;> rfl
  | succ f ih =>
    intro i b m hv h0 h1
    obtain ⟨w, w1, w2⟩ := hv i (Nat.le_refl _) (by omega)
    obtain ⟨t, t1, t2, t3⟩ := tu_n (w := w) (by omega)
    have et : tur (v i) = nI t := by rw [w2, tu_eq (by omega), t2]
    have hv' : ∀ j, i + 1 ≤ j → j < i + 1 + f → ∃ w, w ≤ 9999 ∧ v j = nI w := fun j a b => hv j (by omega) (by omega)
    have e0 : v i ≤ 0 ↔ w = 0 := by
      rw [w2]
      constructor
      · intro q
        rcases Nat.eq_zero_or_pos w with r | r
        · exact r
        · exact absurd q (nI_nle r (by omega))
      · rintro rfl; decide
    rw [mtF, et]
    cases b with
    | none =>
      rw [h0 rfl, bsR]
      by_cases z : w = 0
      · have tz : t = 0 := by omega
        rw [if_pos (e0.mpr z), if_neg (by rw [tz]; decide)]
        exact ih (i + 1) none _ hv' (fun _ => rfl) (fun b0 q => by cases q)
      · have tz : 0 < t := t3.mp (by omega)
        rw [if_neg (fun q => z (e0.mp q)), if_pos (nI_lt tz t1)]
        exact ih (i + 1) (some i) _ hv' (fun q => by cases q) (fun b0 q => by cases q; exact ⟨et.symm, w, by omega, w1, w2⟩)
    | some b0 =>
      obtain ⟨m1, y, y1, y2, y3⟩ := h1 b0 rfl
      obtain ⟨t', t1', t2', t3'⟩ := tu_n (w := y) (by omega)
      have em : tur (v b0) = nI t' := by rw [y3, tu_eq (by omega), t2']
      rw [bsR, m1, em]
      by_cases z : w = 0
      · have tz : t = 0 := by omega
        rw [if_pos (e0.mpr z), if_neg (nI_nlt (by omega) t1')]
        exact ih (i + 1) (some b0) _ hv' (fun q => by cases q) (fun b1 q => by cases q; exact ⟨em.symm, y, y1, y2, y3⟩)
      · have e1 : tuR (v i) = nI t := by rw [w2, t2]
        have e2 : tuR (v b0) = nI t' := by rw [y3, t2']
        rw [if_neg (fun q => z (e0.mp q)), e1, e2]
        by_cases c : t ≤ t'
        · rw [if_pos (nI_le c t1'), if_neg (nI_nlt c t1')]
          exact ih (i + 1) (some b0) _ hv' (fun q => by cases q) (fun b1 q => by cases q; exact ⟨em.symm, y, y1, y2, y3⟩)
        · rw [if_neg (nI_ge (by omega) t1), if_pos (nI_lt (by omega) t1)]
          exact ih (i + 1) (some i) _ hv' (fun q => by cases q) (fun b1 q => by cases q; exact ⟨et.symm, w, by omega, w1, w2⟩)
theorem trF_at {c : Nat → Int32} : ∀ (f i : Nat) (t : Nat → Int32) (k : Nat), trF c f i t k = if i ≤ k ∧ k < i + f then mx0 (t k - c k) else t k := by
  intro f
  induction f with
  | zero => intro i t k; rw [trF, if_neg (by omega)]
  | succ f ih =>
    intro i t k
    rw [trF, ih]
    by_cases e : k = i
    · subst e
      rw [if_neg (show ¬ (k + 1 ≤ k ∧ k < k + 1 + f) by omega), upd_s]
      conv => rhs; rw [if_pos (show k ≤ k ∧ k < k + (f + 1) by omega)]
      rfl
    · rw [upd_n e]
      by_cases r : i + 1 ≤ k ∧ k < i + 1 + f
      · rw [if_pos r, if_pos (by omega)]
      · rw [if_neg r, if_neg (by omega)]
theorem dp_chn {u : Nat → Int32} {N : Nat} (hN : N ≤ 16) (hu : chD u N) : ∀ (k : Nat), k < N → ∀ f g, k < g → dpt u g (nI k) ≤ f → chn u N f (nI k) := by
  intro k
  induction k using Nat.strongRecOn with
  | _ k ih =>
    intro hk f g hg hd
    obtain ⟨g, rfl⟩ : ∃ a, g = a + 1 := ⟨g - 1, by omega⟩
    rw [dpt_s (by omega)] at hd
    obtain ⟨f, rfl⟩ : ∃ a, f = a + 1 := ⟨f - 1, by omega⟩
    refine Or.inr ⟨k, hk, rfl, ?_⟩
    rcases hu k hk with q | ⟨i, i1, i2⟩
    · rw [q]
      cases f with
      | zero => rfl
      | succ f => exact Or.inl rfl
    · rw [i2] at hd ⊢
      exact ih i i1 (by omega) f g (by omega) (by omega)
theorem dp_tal {u : Nat → Int32} {N : Nat} (hN : N ≤ 16) (hu : chD u N) (h4 : ∀ k, k < N → dpt u 17 (nI k) ≤ 4) : ∀ (f k : Nat), k < N → 4 < dpt u 17 (nI k) + f → tal u N f k := by
  intro f
  induction f with
  | zero => intro k hk h; have := h4 k hk; omega
  | succ f ih =>
    intro k hk h j hj hjk
    refine ih j hj ?_
    rw [dpt_s (show j < 2 ^ 31 by omega), hjk, dpt_f hu hN k hk 16 17 (by omega) (by omega)]
    omega
theorem aab_m1 {u : Nat → Int32} {N f : Nat} {m : Int32} {s : Nat → Int32} : aab u N f (-1) m s = s := by
  cases f with
  | zero => rfl
  | succ f => rw [aab, has_m1, if_neg (by decide)]
theorem aab_low {u u' : Nat → Int32} {N : Nat} (hN : N ≤ 16) (hu : chD u N) : ∀ (f i : Nat) (m : Int32) (s : Nat → Int32), i < N → (∀ k, k ≤ i → u' k = u k) → aab u' N f (nI i) m s = aab u N f (nI i) m s := by
  intro f
  induction f with
  | zero => exact fun i m s _ _ => rfl
  | succ f ih =>
    intro i m s hi e
    rw [aab, aab, if_pos (has_j hi (by decide) hN), if_pos (has_j hi (by decide) hN), ix_n (by omega), e i (Nat.le_refl _)]
    rcases hu i hi with q | ⟨j, j1, j2⟩
    · rw [q, aab_m1, aab_m1]
    · rw [j2]
      exact ih j _ _ (by omega) (fun k hk => e k (by omega))
def bgV (t4 : Nat → Int32) (i k : Nat) : Int32 := if k < i then t4 k else nI 0
def bgInv (u t2 t4 : Nat → Int32) (N i : Nat) (I : MI) : Prop := (∀ k, k < i → I 21 k = t2 k ∧ I 22 k = u k) ∧ (∀ k, k < N → I 23 k = bgV t4 i k) ∧ lcl u (bgV t4 i) (I 24) N ∧ ∀ k, k < N → I 60 k = t2 k ∧ I 61 k = u k ∧ I 62 k = t4 k
theorem bg_inv {u t2 t4 : Nat → Int32} {N : Nat} (hc : clo u N) (hu : chD u N) (hh : ∀ k, k < N → chn u N 4 (nI k)) : ∀ (f i : Nat) (I : MI), i + f = N → bgInv u t2 t4 N i I → bgInv u t2 t4 N N (bgI N f i I) ∧ ∀ a, a ≠ 21 → a ≠ 22 → a ≠ 23 → a ≠ 24 → bgI N f i I a = I a := by
  have hN := hc.1
  intro f
  induction f with
  | zero =>
    intro i I hi h
    obtain rfl : i = N := by omega
    exact ⟨h, fun _ _ _ _ _ => rfl⟩
  | succ f ih =>
    intro i I hi h
    obtain ⟨h1, h2, h3, h4⟩ := h
    have hiN : i < N := by omega
    obtain ⟨v2, v3, v4⟩ := h4 i hiN
    rw [bgI]
    have e21 : tieI (up2 (up2 I 21 i (I 60 i)) 22 i (I 61 i)) N i (I 62 i) 21 = upd (I 21) i (t2 i) := by
      rw [tieI, setRow_o (by decide), setRow_o (by decide), up2_row, setRow_o (by decide), up2_row, setRow_s, v2]
    have e22 : up2 (up2 I 21 i (I 60 i)) 22 i (I 61 i) 22 = upd (I 22) i (u i) := by
      rw [up2_row, setRow_s, up2_o (by decide), v3]
    have e22' : tieI (up2 (up2 I 21 i (I 60 i)) 22 i (I 61 i)) N i (I 62 i) 22 = upd (I 22) i (u i) := by
      rw [tieI, setRow_o (by decide), setRow_o (by decide), e22]
    have e23 : up2 (up2 I 21 i (I 60 i)) 22 i (I 61 i) 23 = I 23 := by rw [up2_o (by decide), up2_o (by decide)]
    have e24 : up2 (up2 I 21 i (I 60 i)) 22 i (I 61 i) 24 = I 24 := by rw [up2_o (by decide), up2_o (by decide)]
    have e23' : tieI (up2 (up2 I 21 i (I 60 i)) 22 i (I 61 i)) N i (I 62 i) 23 = upd (I 23) i (t4 i) := by
      rw [tieI, setRow_o (by decide), setRow_s, e23, v4]
    have e24' : tieI (up2 (up2 I 21 i (I 60 i)) 22 i (I 61 i)) N i (I 62 i) 24 = aab u N 4 (nI i) (t4 i - bgV t4 i i) (I 24) := by
      rw [tieI, setRow_s, e22, e23, e24, v4, h2 i hiN]
      exact aab_low hN hu 4 i _ _ hiN (fun k hk => by
        by_cases q : k = i
        · subst q; exact upd_s
        · rw [upd_n q]; exact (h1 k (by omega)).2)
    have eo : ∀ a, a ≠ 21 → a ≠ 22 → a ≠ 23 → a ≠ 24 → tieI (up2 (up2 I 21 i (I 60 i)) 22 i (I 61 i)) N i (I 62 i) a = I a := fun a a1 a2 a3 a4 => by
      rw [tieI, setRow_o a4, setRow_o a3, up2_o a2, up2_o a1]
    have ev : ∀ k, upd (bgV t4 i) i (t4 i) k = bgV t4 (i + 1) k := fun k => by
      unfold bgV
      by_cases q : k = i
      · subst q; rw [upd_s, if_pos (by omega)]
      · rw [upd_n q]
        by_cases r : k < i
        · rw [if_pos r, if_pos (by omega)]
        · rw [if_neg r, if_neg (by omega)]
    obtain ⟨a1, a2⟩ := ih (i + 1) (tieI (up2 (up2 I 21 i (I 60 i)) 22 i (I 61 i)) N i (I 62 i)) (by omega) ⟨fun k hk => by
      rw [e21, e22']
      by_cases q : k = i
      · subst q; rw [upd_s, upd_s]; exact ⟨rfl, rfl⟩
      · rw [upd_n q, upd_n q]; exact h1 k (by omega), fun k hk => by
      rw [e23', ← ev]
      by_cases q : k = i
      · subst q; rw [upd_s, upd_s]
      · rw [upd_n q, upd_n q]; exact h2 k hk, by
      rw [e24']
      exact lcl_ext (lcl_tie h3 hc hiN (hh i hiN)) (fun k _ => (ev k).symm) (fun _ _ => rfl), fun k hk => by
      rw [eo 60 (by decide) (by decide) (by decide) (by decide), eo 61 (by decide) (by decide) (by decide) (by decide), eo 62 (by decide) (by decide) (by decide) (by decide)]
      exact h4 k hk⟩
    exact ⟨a1, fun a b1 b2 b3 b4 => (a2 a b1 b2 b3 b4).trans (eo a b1 b2 b3 b4)⟩
theorem lnsC_Z {K : Nat → Nat} {V m : Nat → Int32} {I : MI} {M : Nat} (hM : 45 ≤ K M) (hM4 : M ≤ 400) : ∀ f p z, p ≤ M → z ≤ p → lnsC K V m I f p z → (prG K f p).1 = true → ∃ Z, I 77 2 = nI Z ∧ Z < 2 ^ 31 := by
  intro f
  induction f with
  | zero => intro p z hp hz a _; exact ⟨z, a.1, by omega⟩
  | succ f ih =>
    intro p z hp hz a b
    rw [lnsC] at a
    rw [prG] at b
    by_cases k : K p = 45
    · rw [if_pos k] at a
      exact ⟨z, a.1, by omega⟩
    · rw [if_neg k] at a b
      by_cases k2 : (pL K p).1 = true
      · rw [if_pos k2] at b
        obtain ⟨z', c1, c2, c3, c4⟩ := a
        exact ih _ z' (pL_sh hM hp k2).2.2.2 c2 c4 b
      · rw [if_neg k2] at b
        exact Bool.noConfusion b
theorem op29 {D S : MI} {x : Int32} : opD D S 29 x = x := by
  unfold opD opF
  rw [if_pos rfl]
theorem op16 {D S : MI} {x y : Int32} : opD D S 16 x = opD D S 16 y := by
  unfold opD opF
  rw [if_neg (show ¬ (16 : Nat) = 29 by decide), if_pos rfl, if_neg (show ¬ (16 : Nat) = 29 by decide), if_pos rfl]
theorem exD_s {D S : MI} {f a : Nat} {L : List Int32} : exD D S (f + 1) a L = exD D S f (a + 1) (stpC (opD D S) (kD D a) (D 21 a) L) := rfl
/-- the class's code reckoned is what it means -/
theorem ex_pf {D S Ia : MI} {mm : Nat → Int32} : ∀ (f a : Nat) (L : List Int32), (∀ n, a ≤ n → n < a + f → cok Ia n ∧ D 20 n = Ia 78 n ∧ D 21 n = (if nI 17 ≤ Ia 78 n ∧ Ia 78 n ≤ nI 22 then mm (ix (Ia 79 n)) else Ia 79 n)) → exD D S f a L = pfC (evm mm (opD D S)) (Ia 78) (Ia 79) f a L := by
  intro f
  induction f with
  | zero => exact fun a L _ => rfl
  | succ f ih =>
    intro a L h
    obtain ⟨⟨k, k1, k2, k3⟩, d20, d21⟩ := h a (Nat.le_refl _) (by omega)
    have k4 := kdOK_lt k2
    have ek : kD D a = k := by
      show ix (D 20 a) = k
      rw [d20, k1, ix_n (by omega)]
    rw [k1] at d21
    rw [exD_s, ih _ _ (fun n a b => h n (by omega) (by omega)), ek, pfC, k1, ix_n (by omega)]
    congr 1
    unfold stpC
    by_cases c : k ≤ 22 ∨ k = 29
    · rw [if_pos c, if_pos c]
      congr 1
      unfold evm
      by_cases c1 : k = 29
      · rw [if_pos c1, d21, if_neg (fun q => absurd (leN q.2 (by omega) (by decide)) (by omega)), c1, op29]
      rw [if_neg c1]
      by_cases c2 : k = 16
      · rw [if_pos c2, c2]
        exact op16
      rw [if_neg c2]
      have c3 : 17 ≤ k ∧ k ≤ 22 := by
        unfold kdOK isOp isJo at k2
        omega
      rw [d21, if_pos ⟨nI_le c3.1 (by omega), nI_le c3.2 (by decide)⟩]
    · rw [if_neg c, if_neg c]
theorem rc_seg {D S Ia : MI} {mm : Nat → Int32} {z z' : Nat} {E : EX} (hs : seg mm Ia z z' E) (h : ∀ n, z ≤ n → n < z' → cok Ia n ∧ D 20 n = Ia 78 n ∧ D 21 n = (if nI 17 ≤ Ia 78 n ∧ Ia 78 n ≤ nI 22 then mm (ix (Ia 79 n)) else Ia 79 n)) : rcD D S z z' = E (opD D S) := by
  obtain ⟨h1, h2, h3⟩ := hs
  show (exD D S (z' - z) z []).headD (nI 0) = _
  rw [ex_pf (Ia := Ia) (mm := mm) _ _ _ (fun n a b => h n a (by omega)), h3]
  rfl
theorem dep_m1 {u : Nat → Int32} {N f : Nat} : dep u N f (-1) = 0 := by
  cases f with
  | zero => rfl
  | succ f => rw [dep, has_m1, if_neg (by decide)]
theorem dep_f {u : Nat → Int32} {N : Nat} (hN : N ≤ 16) : ∀ (f g : Nat) (c : Int32), chn u N f c → f ≤ g → dep u N g c = dep u N f c := by
  intro f
  induction f with
  | zero =>
    intro g c h _
    obtain rfl : c = -1 := h
    rw [dep_m1]
    rfl
  | succ f ih =>
    intro g c h hg
    obtain ⟨g, rfl⟩ : ∃ g', g = g' + 1 := ⟨g - 1, by omega⟩
    rw [dep, dep]
    rcases h with rfl | ⟨j, j1, rfl, j3⟩
    · rw [has_m1, if_neg (by decide), if_neg (by decide)]
    · rw [if_pos (has_j j1 (by decide) hN), if_pos (has_j j1 (by decide) hN), ix_n (by omega), ih g _ j3 (by omega)]
theorem chn_s {u : Nat → Int32} {N : Nat} : ∀ (f : Nat) (c : Int32), chn u N f c → chn u N (f + 1) c := by
  intro f
  induction f with
  | zero => exact fun c h => Or.inl h
  | succ f ih =>
    intro c h
    rcases h with h | ⟨j, j1, j2, j3⟩
    · exact Or.inl h
    · exact Or.inr ⟨j, j1, j2, ih _ j3⟩
def mxF (g : Nat → Nat) : Nat → Nat → Nat → Nat
  | 0, _, a => a
  | n + 1, i, a => mxF g n (i + 1) (max a (g i))
def rch (u : Nat → Int32) (N : Nat) : Nat → Nat → Nat
  | 0, _ => 0
  | f + 1, c => mxF (fun j => if u j = nI c then rch u N f j else 0) N 0 0 + 1
theorem mxF_le {g : Nat → Nat} {B : Nat} : ∀ (n i a : Nat), a ≤ B → (∀ j, i ≤ j → j < i + n → g j ≤ B) → mxF g n i a ≤ B := by
  intro n
  induction n with
  | zero => exact fun i a h _ => h
  | succ n ih =>
    intro i a h hg
    rw [mxF]
    exact ih _ _ (Nat.max_le.mpr ⟨h, hg i (Nat.le_refl _) (by omega)⟩) (fun j a b => hg j (by omega) (by omega))
section
variable {u : Nat → Int32} {N : Nat}
theorem wth_m1 {x : Int32} {f : Nat} : wth u N x f (-1) = false := by
  cases f with
  | zero => rfl
  | succ f => rw [wth, has_m1, if_neg (by decide)]
theorem wth_j {x : Int32} {f j : Nat} (hN : N ≤ 16) (hj : j < N) : wth u N x (f + 1) (nI j) = if nI j = x then true else wth u N x f (u j) := by
  rw [wth, if_pos (has_j hj (by decide) hN), ix_n (by omega)]
theorem wth_f (hN : N ≤ 16) {x : Int32} : ∀ (f g : Nat) (c : Int32), chn u N f c → f ≤ g → wth u N x g c = wth u N x f c := by
  intro f
  induction f with
  | zero =>
    intro g c h _
    obtain rfl : c = -1 := h
    rw [wth_m1, wth_m1]
  | succ f ih =>
    intro g c h hg
    obtain ⟨g, rfl⟩ : ∃ g', g = g' + 1 := ⟨g - 1, by omega⟩
    rcases h with rfl | ⟨j, j1, rfl, j3⟩
    · rw [wth_m1, wth_m1]
    · rw [wth_j hN j1, wth_j hN j1, ih g _ j3 (by omega)]
theorem chn_g : ∀ (f g : Nat) (c : Int32), chn u N f c → f ≤ g → chn u N g c := by
  intro f g
  induction g with
  | zero =>
    intro c h hg
    obtain rfl : f = 0 := by omega
    exact h
  | succ g ih =>
    intro c h hg
    rcases Nat.lt_or_ge g f with q | q
    · obtain rfl : f = g + 1 := by omega
      exact h
    · exact chn_s _ _ (ih c h q)
theorem chn_dep (hN : N ≤ 16) : ∀ (g f : Nat) (c : Int32), chn u N g c → dep u N g c ≤ f → chn u N f c := by
  intro g
  induction g with
  | zero =>
    intro f c h _
    obtain rfl : c = -1 := h
    cases f with
    | zero => rfl
    | succ f => exact Or.inl rfl
  | succ g ih =>
    intro f c h hd
    rcases h with rfl | ⟨j, j1, rfl, j3⟩
    · cases f with
      | zero => rfl
      | succ f => exact Or.inl rfl
    · rw [dep, if_pos (has_j j1 (by decide) hN), ix_n (by omega)] at hd
      obtain ⟨f, rfl⟩ : ∃ f', f = f' + 1 := ⟨f - 1, by omega⟩
      exact Or.inr ⟨j, j1, rfl, ih f _ j3 (by omega)⟩
theorem chn_upd {a : Nat} {y : Int32} (hN : N ≤ 16) : ∀ (f : Nat) (c : Int32), chn u N f c → wth u N (nI a) f c = false → chn (upd u a y) N f c := by
  intro f
  induction f with
  | zero => exact fun c h _ => h
  | succ f ih =>
    intro c h hw
    rcases h with h | ⟨j, j1, rfl, j3⟩
    · exact Or.inl h
    · rw [wth_j hN j1] at hw
      by_cases e : j = a
      · rw [e, if_pos rfl] at hw; exact Bool.noConfusion hw
      · by_cases e2 : nI j = nI a
        · rw [if_pos e2] at hw; exact Bool.noConfusion hw
        · rw [if_neg e2] at hw
          exact Or.inr ⟨j, j1, rfl, by rw [upd_n e]; exact ih _ j3 hw⟩
theorem aad_w {m : Int32} {k : Nat} (hN : N ≤ 16) (hk : k < N) : ∀ (f : Nat) (c : Int32), wth u N (nI k) f c = false → aad u N f c m k = nI 0 := by
  intro f
  induction f with
  | zero => exact fun c _ => rfl
  | succ f ih =>
    intro c hw
    rw [aad]
    by_cases h : has (nI N) c (nI 16) = true
    · obtain ⟨j, j1, rfl⟩ := (has_t (by decide) hN).mp h
      rw [wth_j hN j1] at hw
      rw [if_pos h, ix_n (by omega)]
      by_cases e : nI j = nI k
      · rw [if_pos e] at hw; exact Bool.noConfusion hw
      · rw [if_neg e] at hw
        rw [if_neg (fun q => e (by rw [q])), ih _ hw]
        decide
    · rw [if_neg h]
theorem aad_upd {a k : Nat} {y m : Int32} (hN : N ≤ 16) : ∀ (f : Nat) (c : Int32), wth u N (nI a) f c = false → aad (upd u a y) N f c m k = aad u N f c m k := by
  intro f
  induction f with
  | zero => exact fun c _ => rfl
  | succ f ih =>
    intro c hw
    rw [aad, aad]
    by_cases h : has (nI N) c (nI 16) = true
    · obtain ⟨j, j1, rfl⟩ := (has_t (by decide) hN).mp h
      rw [wth_j hN j1] at hw
      rw [if_pos h, if_pos h, ix_n (by omega)]
      by_cases e : nI j = nI a
      · rw [if_pos e] at hw; exact Bool.noConfusion hw
      · rw [if_neg e] at hw
        rw [upd_n (fun q => e (by rw [q])), ih _ hw]
    · rw [if_neg h, if_neg h]
theorem aad_sum (hc : clo u N) {k : Nat} (hk : k < N) {c m : Int32} (h : chn u N 4 c) : sumF (fun j => if u j = nI k then aad u N 4 c m j else nI 0) N 0 (nI 0) + (if c = nI k then m else nI 0) = aad u N 4 c m k := by
  have hN := hc.1
  rcases h with rfl | ⟨i, i1, rfl, i3⟩
  · rw [aad_m1, if_neg (fun q => m1_nI (by omega) q.symm), sumF_z N 0 (fun j _ _ => by show (if u j = nI k then aad u N 4 (-1) m j else nI 0) = nI 0; rw [aad_m1]; split <;> rfl)]
    decide
  · have h4 : chn u N 4 (nI i) := Or.inr ⟨i, i1, rfl, i3⟩
    rw [aad_ch hc hk 4 i i1, ← aad_f 4 5 (nI i) h4 hN (by decide), aad_j hN i1, Int32.add_comm]
    by_cases q : k = i
    · rw [q, if_pos rfl, if_pos rfl]
    · rw [if_neg q, if_neg (fun w => q (eqN w (by omega) (by omega)).symm)]
/-- a cord isn't on the way above it -/
theorem not_own (hN : N ≤ 16) {a : Nat} (ha : a < N) (h : chn u N 4 (nI a)) : wth u N (nI a) 4 (u a) = false := by
  have key : ∀ (f : Nat) (c : Int32), chn u N f c → wth u N (nI a) f c = true → dep u N 4 (nI a) ≤ dep u N f c := by
    intro f
    induction f with
    | zero => intro c _ hw; exact Bool.noConfusion hw
    | succ f ih =>
      intro c hc hw
      rcases hc with rfl | ⟨j, j1, rfl, j3⟩
      · rw [wth_m1] at hw; exact Bool.noConfusion hw
      · rw [wth_j hN j1] at hw
        by_cases e : nI j = nI a
        · have hc' : chn u N (f + 1) (nI j) := Or.inr ⟨j, j1, rfl, j3⟩
          rw [e] at hc' ⊢
          rcases Nat.le_total 4 (f + 1) with q | q
          · rw [dep_f hN 4 (f + 1) _ h q]; exact Nat.le_refl _
          · rw [dep_f hN (f + 1) 4 _ hc' q]; exact Nat.le_refl _
        · rw [if_neg e] at hw
          rw [show dep u N (f + 1) (nI j) = dep u N f (u j) + 1 by rw [dep, if_pos (has_j j1 (by decide) hN), ix_n (by omega)]]
          have := ih _ j3 hw
          omega
  cases q : wth u N (nI a) 4 (u a) with
  | false => rfl
  | true =>
    rcases h with w | ⟨j, j1, j2, j3⟩
    · exact absurd w (m1_nI (by omega))
    · obtain rfl : a = j := eqN j2 (by omega) (by omega)
      have q3 : wth u N (nI a) 3 (u a) = true := by rw [← wth_f hN 3 4 _ j3 (by decide)]; exact q
      have := key 3 _ j3 q3
      rw [dep, if_pos (has_j ha (by decide) hN), ix_n (by omega)] at this
      omega
/-- the sums of a cord that is hung elsewhere -/
theorem lcl_hang {v s : Nat → Int32} {a : Nat} {y : Int32} (h : lcl u v s N) (hc : clo u N) (hch : ∀ k, k < N → chn u N 4 (nI k)) (ha : a < N) (hy : chn u N 4 y) (hb : wth u N (nI a) 4 y = false) : lcl (upd u a y) v (aab (upd u a y) N 4 y (aab u N 4 (u a) (-(s a)) s a) (aab u N 4 (u a) (-(s a)) s)) N := by
  have hN := hc.1
  have hua : chn u N 4 (u a) := by
    rcases hch a ha with w | ⟨j, j1, j2, j3⟩
    · exact absurd w (m1_nI (by omega))
    · obtain rfl : a = j := eqN j2 (by omega) (by omega)
      exact chn_s _ _ j3
  have ho := not_own hN ha (hch a ha)
  have e1 : aab u N 4 (u a) (-(s a)) s a = s a := by
    rw [aab_aad, aad_w hN ha 4 _ ho, add0]
  have e2 : ∀ k, aab (upd u a y) N 4 y (s a) (aab u N 4 (u a) (-(s a)) s) k = s k + aad u N 4 (u a) (-(s a)) k + aad u N 4 y (s a) k := fun k => by
    rw [aab_aad, aab_aad, aad_upd hN 4 _ hb]
  have e3 : s a + aad u N 4 (u a) (-(s a)) a + aad u N 4 y (s a) a = s a := by
    rw [aad_w hN ha 4 _ ho, aad_w hN ha 4 _ hb, add0, add0]
  rw [e1]
  intro k hk
  have F : sumF (fun j => if upd u a y j = nI k then aab (upd u a y) N 4 y (s a) (aab u N 4 (u a) (-(s a)) s) j else nI 0) N 0 (nI 0) = sumF (fun j => if u j = nI k then s j else nI 0) N 0 (nI 0) + sumF (fun j => if u j = nI k then aad u N 4 (u a) (-(s a)) j else nI 0) N 0 (nI 0) + sumF (fun j => if u j = nI k then aad u N 4 y (s a) j else nI 0) N 0 (nI 0) + sumF (fun j => if j = a then (if y = nI k then s a else nI 0) - (if u a = nI k then s a else nI 0) else nI 0) N 0 (nI 0) := by
    rw [← sumF_add, ← sumF_add, ← sumF_add]
    refine sumF_ext N 0 _ (fun j _ _ => ?_)
    show (if upd u a y j = nI k then aab (upd u a y) N 4 y (s a) (aab u N 4 (u a) (-(s a)) s) j else nI 0) = (if u j = nI k then s j else nI 0) + (if u j = nI k then aad u N 4 (u a) (-(s a)) j else nI 0) + (if u j = nI k then aad u N 4 y (s a) j else nI 0) + (if j = a then (if y = nI k then s a else nI 0) - (if u a = nI k then s a else nI 0) else nI 0)
    rw [e2]
    have z0 : ∀ x : Int32, nI 0 + x = x := fun x => Int32.zero_add x
    by_cases e : j = a
    · rw [e, upd_s, if_pos rfl, e3]
      by_cases q : u a = nI k
      · rw [if_pos q, if_pos q, if_pos q, e3, Int32.add_comm, Int32.sub_add_cancel]
      · rw [if_neg q, if_neg q, if_neg q, z0, z0, z0]
        exact (Int32.sub_zero _).symm
    · rw [upd_n e, if_neg e]
      by_cases q : u j = nI k
      · rw [if_pos q, if_pos q, if_pos q, if_pos q, add0]
      · rw [if_neg q, if_neg q, if_neg q, if_neg q]; decide
  have A1 := aad_sum hc hk (m := -(s a)) hua
  have A2 := aad_sum hc hk (m := s a) hy
  have hk' := h k hk
  rw [sumF_acc] at hk'
  rw [sumF_acc, F, sumF_pick, if_pos ⟨Nat.zero_le _, by omega⟩, e2, ← A1, ← A2, hk']
  have eU : (if u a = nI k then -(s a) else nI 0) = -(if u a = nI k then s a else nI 0) := by
    by_cases q : u a = nI k
    · rw [if_pos q, if_pos q]
    · rw [if_neg q, if_neg q]; decide
  rw [eU]
  generalize sumF (fun j => if u j = nI k then s j else nI 0) N 0 (nI 0) = x1
  generalize sumF (fun j => if u j = nI k then aad u N 4 (u a) (-s a) j else nI 0) N 0 (nI 0) = x2
  generalize sumF (fun j => if u j = nI k then aad u N 4 y (s a) j else nI 0) N 0 (nI 0) = x3
  generalize (if u a = nI k then s a else nI 0) = x4
  generalize (if y = nI k then s a else nI 0) = x5
  rw [Int32.sub_eq_add_neg]
  ac_rfl
theorem mxF_ge {g : Nat → Nat} : ∀ (n i a : Nat), a ≤ mxF g n i a ∧ ∀ j, i ≤ j → j < i + n → g j ≤ mxF g n i a := by
  intro n
  induction n with
  | zero => exact fun i a => ⟨Nat.le_refl _, fun j a b => by omega⟩
  | succ n ih =>
    intro i a
    rw [mxF]
    obtain ⟨h1, h2⟩ := ih (i + 1) (max a (g i))
    refine ⟨Nat.le_trans (Nat.le_max_left _ _) h1, fun j a1 b1 => ?_⟩
    by_cases e : j = i
    · rw [e]; exact Nat.le_trans (Nat.le_max_right _ _) h1
    · exact h2 j (by omega) (by omega)
theorem mxF_at {g : Nat → Nat} : ∀ (n i a : Nat), mxF g n i a = a ∨ ∃ j, i ≤ j ∧ j < i + n ∧ mxF g n i a = g j := by
  intro n
  induction n with
  | zero => exact fun i a => Or.inl rfl
  | succ n ih =>
    intro i a
    rw [mxF]
    rcases ih (i + 1) (max a (g i)) with q | ⟨j, j1, j2, j3⟩
    · rcases Nat.le_total a (g i) with r | r
      · exact Or.inr ⟨i, Nat.le_refl _, by omega, by rw [q, Nat.max_eq_right r]⟩
      · exact Or.inl (by rw [q, Nat.max_eq_left r])
    · exact Or.inr ⟨j, by omega, by omega, j3⟩
theorem rch_pos {f c : Nat} (hf : 0 < f) : 0 < rch u N f c := by
  obtain ⟨f, rfl⟩ : ∃ f', f = f' + 1 := ⟨f - 1, by omega⟩
  rw [rch]
  omega
theorem rch_ch {f c j : Nat} (hj : j < N) (h : u j = nI c) : rch u N f j + 1 ≤ rch u N (f + 1) c := by
  rw [rch]
  have := (mxF_ge (g := fun j => if u j = nI c then rch u N f j else 0) N 0 0).2 j (Nat.zero_le _) (by omega)
  have e : (if u j = nI c then rch u N f j else 0) = rch u N f j := if_pos h
  have this : (if u j = nI c then rch u N f j else 0) ≤ mxF (fun j => if u j = nI c then rch u N f j else 0) N 0 0 := this
  omega
theorem dep_j (hN : N ≤ 16) (hch : ∀ k, k < N → chn u N 4 (nI k)) {j : Nat} (hj : j < N) : dep u N 4 (nI j) = dep u N 4 (u j) + 1 := by
  rcases hch j hj with q | ⟨i, i1, i2, i3⟩
  · exact absurd q (m1_nI (by omega))
  · obtain rfl : j = i := eqN i2 (by omega) (by omega)
    rw [dep_f hN 3 4 _ i3 (by decide), dep, if_pos (has_j hj (by decide) hN), ix_n (by omega)]
/-- all below a cord, from it down -/
theorem below_ind (hc : clo u N) {a : Nat} (ha : a < N) {R : Nat → Nat → Nat → Prop} (h0 : R 0 4 a) (hs : ∀ g f j k, j < N → k < N → ¬ k = a → u k = nI j → g + (f + 1) = 4 → R g (f + 1) j → R (g + 1) f k) : ∀ (g k : Nat), g ≤ 3 → k < N → wth u N (nI a) (g + 1) (nI k) = true → ∃ g' f, g' ≤ g ∧ g' + f = 4 ∧ R g' f k := by
  have hN := hc.1
  intro g
  induction g with
  | zero =>
    intro k _ hk hw
    rw [wth_j hN hk] at hw
    by_cases e : nI k = nI a
    · obtain rfl : k = a := eqN e (by omega) (by omega)
      exact ⟨0, 4, Nat.le_refl _, rfl, h0⟩
    · rw [if_neg e] at hw
      exact Bool.noConfusion hw
  | succ g ih =>
    intro k hg hk hw
    rw [wth_j hN hk] at hw
    by_cases e : nI k = nI a
    · obtain rfl : k = a := eqN e (by omega) (by omega)
      exact ⟨0, 4, Nat.zero_le _, rfl, h0⟩
    · rw [if_neg e] at hw
      rcases hc.2 k hk with q | ⟨j, j1, j2⟩
      · rw [q, wth_m1] at hw
        exact Bool.noConfusion hw
      · rw [j2] at hw
        obtain ⟨g', f, l1, l2, l3⟩ := ih j (by omega) j1 hw
        obtain ⟨f, rfl⟩ : ∃ f', f = f' + 1 := ⟨f - 1, by omega⟩
        exact ⟨g' + 1, f, by omega, by omega, hs g' f j k j1 hk (fun q => e (by rw [q])) j2 (by omega) l3⟩
theorem chn_hang (hc : clo u N) (hch : ∀ k, k < N → chn u N 4 (nI k)) {a : Nat} {y : Int32} (ha : a < N) (hy : chn u N 4 y) (hb : wth u N (nI a) 4 y = false) (hd : dep u N 4 y + rch u N 4 a ≤ 4) : ∀ k, k < N → chn (upd u a y) N 4 (nI k) := by
  have hN := hc.1
  intro k hk
  cases hw : wth u N (nI a) 4 (nI k) with
  | false => exact chn_upd hN 4 _ (hch k hk) hw
  | true =>
    have rp := rch_pos (u := u) (N := N) (f := 4) (c := a) (by decide)
    have base : chn (upd u a y) N (dep u N 4 y + 1) (nI a) := by
      refine Or.inr ⟨a, ha, rfl, ?_⟩
      rw [upd_s]
      have c1 := chn_dep hN 4 (dep u N 4 y) y hy (Nat.le_refl _)
      have w1 : wth u N (nI a) (dep u N 4 y) y = false := by
        rw [← wth_f hN (dep u N 4 y) 4 y c1 (by omega)]; exact hb
      exact chn_upd hN _ _ c1 w1
    obtain ⟨g', f, l1, l2, m, m1, m2⟩ := below_ind (u := u) hc ha (R := fun g f k => ∃ m, chn (upd u a y) N m (nI k) ∧ m + rch u N f k ≤ 5) ⟨_, base, by omega⟩ (fun g f j k hj hk hka hkj _ ⟨m, m1, m2⟩ => by
      refine ⟨m + 1, Or.inr ⟨k, hk, rfl, by rw [upd_n hka, hkj]; exact m1⟩, ?_⟩
      have := rch_ch (f := f) hk hkj
      omega) 3 k (Nat.le_refl _) hk hw
    have := rch_pos (u := u) (N := N) (f := f) (c := k) (by omega)
    exact chn_g m 4 _ m1 (by omega)
theorem chn_tal (hN : N ≤ 16) (hch : ∀ k, k < N → chn u N 4 (nI k)) : ∀ (f k : Nat), k < N → 4 < dep u N 4 (nI k) + f → tal u N f k := by
  intro f
  induction f with
  | zero => intro k hk h; have := dep_le u N 4 (nI k); omega
  | succ f ih =>
    intro k hk h j hj hjk
    refine ih j hj ?_
    rw [dep_j hN hch hj, hjk]
    omega
theorem tal_4 (hN : N ≤ 16) (hch : ∀ k, k < N → chn u N 4 (nI k)) {k : Nat} (hk : k < N) : tal u N 4 k := chn_tal hN hch 4 k hk (by rw [dep_j hN hch hk]; omega)
theorem wth_up (hN : N ≤ 16) {c j : Nat} (hj : j < N) (hc : c < N) (h : u j = nI c) : ∀ (f : Nat) (x : Int32), wth u N (nI j) f x = true → wth u N (nI c) (f + 1) x = true := by
  intro f
  induction f with
  | zero => exact fun x hw => Bool.noConfusion hw
  | succ f ih =>
    intro x hw
    rw [wth] at hw
    by_cases hx : has (nI N) x (nI 16) = true
    · obtain ⟨i, i1, rfl⟩ := (has_t (by decide) hN).mp hx
      rw [if_pos hx, ix_n (by omega)] at hw
      rw [wth_j hN i1]
      by_cases e : nI i = nI j
      · obtain rfl : i = j := eqN e (by omega) (by omega)
        by_cases e2 : nI i = nI c
        · rw [if_pos e2]
        · rw [if_neg e2, h, wth_j hN hc, if_pos rfl]
      · rw [if_neg e] at hw
        by_cases e2 : nI i = nI c
        · rw [if_pos e2]
        · rw [if_neg e2]
          exact ih _ hw
    · rw [if_neg hx] at hw
      exact Bool.noConfusion hw
theorem hmx_M {x : Int32} : ∀ (n i acc : Nat), hmx u N x n i acc = mxF (fun k => if wth u N x 4 (nI k) then dep u N 4 (nI k) else 0) n i acc := by
  intro n
  induction n with
  | zero => exact fun i acc => rfl
  | succ n ih =>
    intro i acc
    rw [hmx, mxF, ih]
    congr 1
    show _ = max acc (if wth u N x 4 (nI i) then dep u N 4 (nI i) else 0)
    by_cases c : wth u N x 4 (nI i) = true
    · rw [if_pos c, if_pos c]
    · rw [if_neg c, if_neg c, Nat.max_eq_left (Nat.zero_le _)]
theorem height_eq (hc : clo u N) (hch : ∀ k, k < N → chn u N 4 (nI k)) {a : Nat} (ha : a < N) : hmx u N (nI a) N 0 0 + 1 = dep u N 4 (nI a) + rch u N 4 a := by
  have hN := hc.1
  rw [hmx_M]
  have le : mxF (fun k => if wth u N (nI a) 4 (nI k) then dep u N 4 (nI k) else 0) N 0 0 ≤ dep u N 4 (nI a) + rch u N 4 a - 1 := by
    refine mxF_le N 0 0 (Nat.zero_le _) (fun k _ hk => ?_)
    have hk : k < N := by omega
    show (if wth u N (nI a) 4 (nI k) then dep u N 4 (nI k) else 0) ≤ _
    by_cases hw : wth u N (nI a) 4 (nI k) = true
    · rw [if_pos hw]
      obtain ⟨g', f, l1, l2, l3⟩ := below_ind (u := u) hc ha (R := fun g f k => dep u N 4 (nI k) + rch u N f k ≤ dep u N 4 (nI a) + rch u N 4 a) (Nat.le_refl _) (fun g f j k hj hk hka hkj _ m2 => by
        show dep u N 4 (nI k) + rch u N f k ≤ _
        have m2 : dep u N 4 (nI j) + rch u N (f + 1) j ≤ dep u N 4 (nI a) + rch u N 4 a := m2
        have := rch_ch (f := f) hk hkj
        rw [dep_j hN hch hk, hkj]
        omega) 3 k (Nat.le_refl _) hk hw
      have := rch_pos (u := u) (N := N) (f := f) (c := k) (by omega)
      have l3 : dep u N 4 (nI k) + rch u N f k ≤ dep u N 4 (nI a) + rch u N 4 a := l3
      omega
    · rw [if_neg hw]; exact Nat.zero_le _
  have ge : ∀ (f c : Nat), c < N → ∃ k, k < N ∧ wth u N (nI c) 4 (nI k) = true ∧ dep u N 4 (nI k) + 1 = dep u N 4 (nI c) + max 1 (rch u N f c) := by
    intro f
    induction f with
    | zero => exact fun c hcN => ⟨c, hcN, by rw [wth_j hN hcN, if_pos rfl], rfl⟩
    | succ f ih =>
      intro c hcN
      rw [rch]
      rcases mxF_at (g := fun j => if u j = nI c then rch u N f j else 0) N 0 0 with q | ⟨j, j1, j2, j3⟩
      · refine ⟨c, hcN, by rw [wth_j hN hcN, if_pos rfl], by rw [q]; rfl⟩
      · by_cases e : u j = nI c
        · have hj : j < N := by omega
          have j3 : mxF (fun j => if u j = nI c then rch u N f j else 0) N 0 0 = if u j = nI c then rch u N f j else 0 := j3
          rw [if_pos e] at j3
          rw [j3]
          rcases Nat.eq_zero_or_pos (rch u N f j) with z | z
          · exact ⟨c, hcN, by rw [wth_j hN hcN, if_pos rfl], by rw [z]; rfl⟩
          · obtain ⟨k, k1, k2, k3⟩ := ih j hj
            refine ⟨k, k1, ?_, ?_⟩
            · rw [← wth_f hN 4 5 _ (hch k k1) (by decide)]
              exact wth_up hN hj hcN e 4 _ k2
            · rw [dep_j hN hch hj, e] at k3
              rw [Nat.max_eq_right (by omega)] at k3 ⊢
              omega
        · have j3 : mxF (fun j => if u j = nI c then rch u N f j else 0) N 0 0 = if u j = nI c then rch u N f j else 0 := j3
          rw [if_neg e] at j3
          exact ⟨c, hcN, by rw [wth_j hN hcN, if_pos rfl], by rw [j3]; rfl⟩
  obtain ⟨k, k1, k2, k3⟩ := ge 4 a ha
  have rp := rch_pos (u := u) (N := N) (f := 4) (c := a) (by decide)
  have g1 := (mxF_ge (g := fun k => if wth u N (nI a) 4 (nI k) then dep u N 4 (nI k) else 0) N 0 0).2 k (Nat.zero_le _) (by omega)
  have g1 : (if wth u N (nI a) 4 (nI k) then dep u N 4 (nI k) else 0) ≤ mxF (fun k => if wth u N (nI a) 4 (nI k) then dep u N 4 (nI k) else 0) N 0 0 := g1
  rw [if_pos k2] at g1
  rw [Nat.max_eq_right (by omega)] at k3
  omega
end
def isU (N : Nat) (y : Int32) : Prop := y = -1 ∨ ∃ b, b < N ∧ y = nI b
theorem dep_ext {u u' : Nat → Int32} {N : Nat} (hN : N ≤ 16) (e : ∀ k, k < N → u' k = u k) : ∀ (f : Nat) (c : Int32), dep u' N f c = dep u N f c
  | 0, _ => rfl
  | f + 1, c => by
    rw [dep, dep]
    by_cases h : has (nI N) c (nI 16) = true
    · obtain ⟨j, j1, rfl⟩ := (has_t (by decide) hN).mp h
      rw [if_pos h, if_pos h, ix_n (by omega), e j j1, dep_ext hN e f]
    · rw [if_neg h, if_neg h]
theorem wth_ext {u u' : Nat → Int32} {N : Nat} {x : Int32} (hN : N ≤ 16) (e : ∀ k, k < N → u' k = u k) : ∀ (f : Nat) (c : Int32), wth u' N x f c = wth u N x f c
  | 0, _ => rfl
  | f + 1, c => by
    rw [wth, wth]
    by_cases h : has (nI N) c (nI 16) = true
    · obtain ⟨j, j1, rfl⟩ := (has_t (by decide) hN).mp h
      rw [if_pos h, if_pos h, ix_n (by omega), e j j1, wth_ext hN e f]
    · rw [if_neg h, if_neg h]
theorem abv_ext {u u' : Nat → Int32} {N : Nat} (hN : N ≤ 16) (e : ∀ k, k < N → u' k = u k) (c : Int32) : abv u' N c = abv u N c := by
  rw [abv, abv]
  by_cases h : has (nI N) c (nI 16) = true
  · obtain ⟨j, j1, rfl⟩ := (has_t (by decide) hN).mp h
    rw [if_pos h, if_pos h, ix_n (by omega), e j j1]
  · rw [if_neg h, if_neg h]
theorem stp_ext {u u' : Nat → Int32} {N : Nat} (hN : N ≤ 16) (e : ∀ k, k < N → u' k = u k) : ∀ (f : Nat) (a b : Int32), stpF u' N f a b = stpF u N f a b
  | 0, _, _ => rfl
  | f + 1, a, b => by rw [stpF, stpF, dep_ext hN e, dep_ext hN e, abv_ext hN e, abv_ext hN e, stp_ext hN e f, stp_ext hN e f]
theorem frst_ex2 {p q : Nat → Bool} : ∀ n i, (∀ j, i ≤ j → j < i + n → p j = q j) → frst p n i = frst q n i
  | 0, _, _ => rfl
  | n + 1, i, h => by rw [frst, frst, h i (Nat.le_refl _) (by omega), frst_ex2 n (i + 1) (fun j a b => h j (by omega) (by omega))]
theorem sum_any {g : Nat → Int32} {x : Int32} : ∀ z i, (∀ n m, i ≤ n → n < i + z → i ≤ m → m < i + z → g n = g m → n = m) → sumF (fun n => if g n = x then nI 1 else nI 0) z i (nI 0) = b2i (anyB (fun n => decide (g n = x)) z i)
  | 0, _, _ => rfl
  | z + 1, i, h => by
    rw [sumF, anyB, sumF_acc]
    by_cases hx : g i = x
    · rw [if_pos hx, if_pos (decide_eq_true hx), sumF_z z (i + 1) (fun j a b => if_neg (fun q => absurd (h i j (by omega) (by omega) (by omega) (by omega) (hx.trans q.symm)) (by omega)))]
      rfl
    · rw [if_neg hx, if_neg (by rw [decide_eq_false hx]; exact Bool.false_ne_true), sum_any z (i + 1) (fun n m a b c d e => h n m (by omega) (by omega) (by omega) (by omega) e)]
      rw [show nI 0 + nI 0 = nI 0 from rfl]
      exact Int32.zero_add _
def cntB (p : Nat → Bool) : Nat → Nat → Nat
  | 0, _ => 0
  | n + 1, i => (if p i then 1 else 0) + cntB p n (i + 1)
theorem cntB_le (p : Nat → Bool) : ∀ n i, cntB p n i ≤ n
  | 0, _ => Nat.le_refl _
  | n + 1, i => by
    rw [cntB]
    have := cntB_le p n (i + 1)
    split <;> omega
theorem sumF_cnt (p : Nat → Bool) : ∀ n i a, sumF (fun k => b2i (p k)) n i (nI a) = nI (a + cntB p n i)
  | 0, _, _ => rfl
  | n + 1, i, a => by
    rw [sumF, cntB]
    cases h : p i with
    | false =>
      rw [show b2i false = nI 0 from rfl, add0, sumF_cnt p n, if_neg Bool.false_ne_true, Nat.zero_add]
    | true =>
      rw [show b2i true = nI 1 from rfl, nI_add, sumF_cnt p n, if_pos rfl, Nat.add_assoc]
theorem cntB_mono {p q : Nat → Bool} : ∀ n i, (∀ j, i ≤ j → j < i + n → p j = true → q j = true) → cntB p n i ≤ cntB q n i
  | 0, _, _ => Nat.le_refl _
  | n + 1, i, h => by
    rw [cntB, cntB]
    have h1 := cntB_mono n (i + 1) (fun j a b => h j (by omega) (by omega))
    cases hp : p i with
    | false =>
      rw [if_neg Bool.false_ne_true]
      split <;> omega
    | true => rw [if_pos rfl, if_pos (h i (Nat.le_refl _) (by omega) hp)]; omega
theorem cntB_lt {p q : Nat → Bool} {c : Nat} : ∀ n i, (∀ j, i ≤ j → j < i + n → p j = true → q j = true) → i ≤ c → c < i + n → p c = false → q c = true → cntB p n i < cntB q n i
  | 0, _, _, a, b, _, _ => by omega
  | n + 1, i, h, a, b, hp, hq => by
    rw [cntB, cntB]
    by_cases e : i = c
    · subst e
      rw [hp, hq, if_neg Bool.false_ne_true, if_pos rfl]
      have := cntB_mono n (i + 1) (fun j a b => h j (by omega) (by omega))
      omega
    · have := cntB_lt n (i + 1) (fun j a b => h j (by omega) (by omega)) (by omega) (by omega) hp hq
      have h2 : (if p i = true then 1 else 0) ≤ (if q i = true then 1 else 0) := by
        cases hp : p i with
        | false => rw [if_neg Bool.false_ne_true]; exact Nat.zero_le _
        | true => rw [if_pos rfl, if_pos (h i (Nat.le_refl _) (by omega) hp)]; exact Nat.le_refl _
      omega
theorem nI_nm {k : Nat} (hk : k < 2 ^ 31) : ¬ nI k = -1 := fun q => nI_pos hk (by rw [q]; decide)
theorem sumF_zz : ∀ n i, sumF (fun _ => nI 0) n i (nI 0) = nI 0 := fun n i => sumF_z n i (fun _ _ _ => rfl)
theorem sumF_swap {f : Nat → Nat → Int32} {m j0 : Nat} : ∀ n i, sumF (fun k => sumF (fun j => f k j) m j0 (nI 0)) n i (nI 0) = sumF (fun j => sumF (fun k => f k j) n i (nI 0)) m j0 (nI 0)
  | 0, i => (sumF_zz m j0).symm
  | n + 1, i => by
    rw [sumF, sumF_acc, sumF_swap n (i + 1), show nI 0 + sumF (fun j => f i j) m j0 (nI 0) = sumF (fun j => f i j) m j0 (nI 0) from Int32.zero_add _, ← sumF_add]
    refine sumF_ext _ _ _ (fun j _ _ => ?_)
    show f i j + sumF (fun k => f k j) n (i + 1) (nI 0) = sumF (fun k => f k j) n (i + 1) (nI 0 + f i j)
    rw [show nI 0 + f i j = f i j from Int32.zero_add _]
    exact (sumF_acc _ n (i + 1) (f i j)).symm
theorem root_sum {u v s : Nat → Int32} {N : Nat} (h : lcl u v s N) (hc : clo u N) : sumF v N 0 (nI 0) = sumF (fun j => if u j = -1 then s j else nI 0) N 0 (nI 0) := by
  have h1 : sumF s N 0 (nI 0) = sumF v N 0 (nI 0) + sumF (fun j => if u j = -1 then nI 0 else s j) N 0 (nI 0) := by
    have e : sumF s N 0 (nI 0) = sumF (fun k => v k + sumF (fun j => if u j = nI k then s j else nI 0) N 0 (nI 0)) N 0 (nI 0) :=
      sumF_ext _ _ _ (fun k _ hk => by rw [h k (by omega), sumF_acc])
    rw [e, sumF_add, sumF_swap]
    congr 1
    refine sumF_ext _ _ _ (fun j _ hj => ?_)
    rcases hc.2 j (by omega) with q | ⟨i, i1, i2⟩
    · rw [if_pos q]
      exact sumF_z _ _ (fun k _ hk => if_neg (fun r => nI_nm (k := k) (by have := hc.1; omega) (r.symm.trans q)))
    · have hm : ¬ u j = -1 := fun q => nI_nm (k := i) (by have := hc.1; omega) (i2.symm.trans q)
      rw [if_neg hm]
      have e2 : sumF (fun k => if u j = nI k then s j else nI 0) N 0 (nI 0) = sumF (fun k => if k = i then s j else nI 0) N 0 (nI 0) :=
        sumF_ext _ _ _ (fun k _ hk => by
          by_cases e : k = i
          · rw [if_pos e, e, if_pos i2]
          · rw [if_neg e, if_neg (fun q => e (eqN (q.symm.trans i2) (by have := hc.1; omega) (by have := hc.1; omega)))])
      rw [e2, sumF_pick, if_pos ⟨Nat.zero_le _, by omega⟩]
  have h2 : sumF s N 0 (nI 0) = sumF (fun j => if u j = -1 then s j else nI 0) N 0 (nI 0) + sumF (fun j => if u j = -1 then nI 0 else s j) N 0 (nI 0) := by
    rw [← sumF_add]
    refine sumF_ext _ _ _ (fun j _ _ => ?_)
    by_cases q : u j = -1
    · rw [if_pos q, if_pos q, add0]
    · rw [if_neg q, if_neg q]; exact (Int32.zero_add _).symm
  have h3 := congrArg (fun z => z - sumF (fun j => if u j = -1 then nI 0 else s j) N 0 (nI 0)) (h1.symm.trans h2)
  simpa only [Int32.add_sub_cancel] using h3
theorem upd_o {f : Nat → Int32} {k j : Nat} {v : Int32} (h : ¬ j = k) : upd f k v j = f j := by simp [upd, h]
section
variable {D S B : MI} {ts : Nat → Option EX} {es : Nat → EX} {row : Nat → Int32}
theorem isU_chn {u : Nat → Int32} {N : Nat} {y : Int32} (hch : ∀ k, k < N → chn u N 4 (nI k)) (hy : isU N y) : chn u N 4 y := by
  rcases hy with rfl | ⟨b, b1, rfl⟩
  · exact Or.inl rfl
  · exact hch b b1
end
