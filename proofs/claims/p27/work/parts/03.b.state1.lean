/-! State: pure meanings of its reads, over its rows (u: from which each cord hangs, s: the sums) -/
def ix (c : Int32) : Nat := c.toNatClampNeg
theorem ix_n {j : Nat} (h : j < 2 ^ 31) : ix (nI j) = j := nI_clamp h
def setRow {α : Type} (f : Nat → Nat → α) (a : Nat) (r : Nat → α) : Nat → Nat → α := fun x => if x = a then r else f x
theorem setRow_s {α : Type} {f : Nat → Nat → α} {a : Nat} {r : Nat → α} : setRow f a r a = r := if_pos rfl
theorem setRow_o {α : Type} {f : Nat → Nat → α} {a b : Nat} {r : Nat → α} (h : b ≠ a) : setRow f a r b = f b := if_neg h
theorem up2_row {f : MI} {a k : Nat} {v : Int32} : up2 f a k v = setRow f a (upd (f a) k v) := by
  funext x j
  by_cases h : x = a
  · subst h; simp [up2, setRow, upd]
  · simp [up2, setRow, h]
theorem up2_rowJ {f : MJ} {a k : Nat} {v : Int64} : up2 f a k v = setRow f a (vp_updL (f a) k v) := by
  funext x j
  by_cases h : x = a
  · subst h; simp [up2, setRow, vp_updL]
  · simp [up2, setRow, h]
theorem setRow_2 {α : Type} {f : Nat → Nat → α} {a : Nat} {r q : Nat → α} : setRow (setRow f a r) a q = setRow f a q := by
  funext x
  by_cases h : x = a <;> simp [setRow, h]
theorem setRow_c {α : Type} {f : Nat → Nat → α} {a b : Nat} {r q : Nat → α} (h : b < a) : setRow (setRow f a r) b q = setRow (setRow f b q) a r := by
  funext x
  by_cases h1 : x = a
  · have : ¬ x = b := by omega
    subst h1
    simp [setRow, this]
  · by_cases h2 : x = b
    · subst h2; simp [setRow, h1]
    · simp [setRow, h1, h2]
theorem setRow_id {α : Type} {f : Nat → Nat → α} {a : Nat} : setRow f a (f a) = f := by
  funext x
  by_cases h : x = a
  · subst h; simp [setRow]
  · simp [setRow, h]
theorem hasCj {n c : Int32} {N : Nat} (hn : n = nI N) (hN : N ≤ 16) (h : ¬ b2i (has n c (nI 16)) = 0) : ∃ j, j < N ∧ c = nI j := by
  subst hn
  exact (has_t (by decide) hN).mp (b2i_n0.mp h)
theorem hasF {n c M : Int32} (h : b2i (has n c M) = 0) : has n c M = false := b2i_0.mp h
theorem hasT {n c M : Int32} (h : ¬ b2i (has n c M) = 0) : has n c M = true := b2i_n0.mp h
/-- sums of a loop, and the first of a loop -/
def sumF (f : Nat → Int32) : Nat → Nat → Int32 → Int32
  | 0, _, a => a
  | n + 1, i, a => sumF f n (i + 1) (a + f i)
def frst (p : Nat → Bool) : Nat → Nat → Int32
  | 0, _ => -1
  | n + 1, i => if p i then nI i else frst p n (i + 1)
def aab (u : Nat → Int32) (N : Nat) : Nat → Int32 → Int32 → (Nat → Int32) → (Nat → Int32)
  | 0, _, _, s => s
  | f + 1, c, m, s => if has (nI N) c (nI 16) then aab u N f (u (ix c)) m (upd s (ix c) (s (ix c) + m)) else s
def dep (u : Nat → Int32) (N : Nat) : Nat → Int32 → Nat
  | 0, _ => 0
  | f + 1, c => if has (nI N) c (nI 16) then dep u N f (u (ix c)) + 1 else 0
def wth (u : Nat → Int32) (N : Nat) (x : Int32) : Nat → Int32 → Bool
  | 0, _ => false
  | f + 1, c => if has (nI N) c (nI 16) then (if c = x then true else wth u N x f (u (ix c))) else false
def hmx (u : Nat → Int32) (N : Nat) (x : Int32) : Nat → Nat → Nat → Nat
  | 0, _, a => a
  | n + 1, i, a => hmx u N x n (i + 1) (if wth u N x 4 (nI i) then max a (dep u N 4 (nI i)) else a)
def abv (u : Nat → Int32) (N : Nat) (c : Int32) : Int32 := if has (nI N) c (nI 16) then u (ix c) else -1
def stpF (u : Nat → Int32) (N : Nat) : Nat → Int32 → Int32 → Nat
  | 0, _, _ => 0
  | f + 1, a, b => if a = b then 0 else if dep u N 4 a < dep u N 4 b then stpF u N f a (abv u N b) + 1 else stpF u N f (abv u N a) b + 1
def rnk (rk co : Nat → Int32) (C : Nat) (i : Nat) : Int32 := if has (nI C) (co i) (nI 6) then rk (ix (co i)) else nI 0
def ahd (rk co : Nat → Int32) (C : Nat) (s : Nat → Int32) (i k : Nat) : Bool := if rnk rk co C i = rnk rk co C k then (if s i = s k then decide (i < k) else decide (s k < s i)) else decide (rnk rk co C i < rnk rk co C k)
def nbr (u : Nat → Int32) (x : Int32) : Nat → Int32
  | 0 => -1
  | k + 1 => if u k = x then nI k else nbr u x k
def oor (rk co : Nat → Int32) (C : Nat) (u : Nat → Int32) (i : Nat) : Bool := if nbr u (u i) i < 0 then false else decide (rnk rk co C i < rnk rk co C (ix (nbr u (u i) i)))
def cnb (N : Nat) (s row : Nat → Int32) (z : Nat) : Int32 := sumF (fun n => if has (nI N) (row n) (nI 16) then s (ix (row n)) else nI 0) z 0 (nI 0)
theorem dep_le (u : Nat → Int32) (N : Nat) : ∀ f c, dep u N f c ≤ f
  | 0, c => Nat.le_refl _
  | f + 1, c => by
    simp only [dep]
    split
    · have := dep_le u N f (u (ix c)); omega
    · omega
theorem nbr_in (u : Nat → Int32) (x : Int32) : ∀ i, i < 2 ^ 31 → nbr u x i = -1 ∨ ∃ k, k < i ∧ nbr u x i = nI k
  | 0, _ => Or.inl rfl
  | i + 1, hi => by
    simp only [nbr]
    split
    · exact Or.inr ⟨i, by omega, rfl⟩
    · rcases nbr_in u x i (by omega) with h | ⟨k, h1, h2⟩
      · exact Or.inl h
      · exact Or.inr ⟨k, by omega, h2⟩
theorem mmax_n {a b : Nat} (ha : a < 2 ^ 31) (hb : b < 2 ^ 31) : (if nI a < nI b then nI b else nI a) = nI (max a b) := by
  by_cases h : a < b
  · rw [if_pos (nI_lt h hb), Nat.max_eq_right (by omega)]
  · rw [if_neg (nI_nlt (by omega) ha), Nat.max_eq_left (by omega)]
theorem nI_sub1 (k : Nat) : nI (k + 1) - nI 1 = nI k := by rw [show (nI 1 : Int32) = 1 from rfl]; exact nI_pred k
theorem nI_0s1 : nI 0 - nI 1 = -1 := by decide
theorem nI_dec (k : Nat) : nI k + Int32.ofInt (-1) = nI k - nI 1 := by
  rw [show (Int32.ofInt (-1)) = -(nI 1) from by decide, Int32.sub_eq_add_neg]
theorem ltN {a b : Nat} (h : nI a < nI b) (ha : a < 2 ^ 31) (hb : b < 2 ^ 31) : a < b := (nI_ltI ha hb).mp h
theorem eqN {a b : Nat} (h : nI a = nI b) (ha : a < 2 ^ 31) (hb : b < 2 ^ 31) : a = b := (nI_eq ha hb).mp h
set_option maxHeartbeats 4000000 in
theorem lp_X5_addAbove_20 {Γ : Cx} {d N : Nat} {J : MJ} {P : MP} (hT : P 20 0 = some 36) (hN16 : N ≤ 16) {a : Int32} {m : Int32} {Q : MI → MJ → MP → Prop} (h : Vc RX5 cX5_addAbove 5 none (d + 1) Γ) : ∀ (f n : Nat) (c : Int32) (I : MI) (hN : I 36 1 = nI N), n + f = 4 → Q (setRow I 24 (aab (I 22) N f c m (I 24))) J P → VG Γ 0 0 5 [some (.ref 20), some (.int a), some (.int m), some (.int c), some (.int (nI n))] [] I J P (Fnl Γ (Qv Q)) := by
  intro f
  induction f with
  | zero =>
    intro n c I hN hn hQ
    refine g_iload_4 h dX5_addAbove_5 ?_
    refine g_iconst h dX5_addAbove_7 (v := nI 4) rfl ?_
    refine g_icmp_ge h 45 dX5_addAbove_8 rfl (fun c8 => ?_) (fun c8 => ?_)
    · refine g_vret h dX5_addAbove_45 ?_
      exact q_I (by simp only [aab]; rw [setRow_id]) hQ
    · exact absurd (nI_le (by omega) (by omega)) c8
  | succ f ih =>
    intro n c I hN hn hQ
    refine g_iload_4 h dX5_addAbove_5 ?_
    refine g_iconst h dX5_addAbove_7 (v := nI 4) rfl ?_
    refine g_icmp_ge h 45 dX5_addAbove_8 rfl (fun c8 => ?_) (fun c8 => ?_)
    · exact absurd (leN c8 (by omega) (by omega)) (by omega)
    · refine g_aload_0 h dX5_addAbove_11 ?_
      refine g_getP h fl_X5_43 dX5_addAbove_12 rfl rfl (by assumption) ?_
      refine g_iload_3 h dX5_addAbove_15 ?_
      refine g_cVi1 h rok0 mi_X9_hasCord dX5_addAbove_16 ml_X5_72 rfl rfl rfl (Nat.le_of_ble_eq_true rfl) (Nat.le_of_ble_eq_true rfl) (sp_X9_hasCord (Or.inl rfl) ?_)
      refine g_if_eq h 45 dX5_addAbove_19 rfl (fun c19 => ?_) (fun c19 => ?_)
      · refine g_vret h dX5_addAbove_45 ?_
        exact q_I (by rw [aab, ← hN, hasF c19, if_neg Bool.false_ne_true, setRow_id]) hQ
      · obtain ⟨j, hj, rfl⟩ := hasCj hN hN16 c19
        refine g_aload_0 h dX5_addAbove_22 ?_
        refine g_getC h fl_X5_31 dX5_addAbove_23 rfl rfl ?_
        refine g_iload_3 h dX5_addAbove_26 ?_
        refine g_dup2 h dX5_addAbove_27 rfl rfl ?_
        refine g_iald h j dX5_addAbove_28 rfl rfl (by omega) ?_
        refine g_iload_2 h dX5_addAbove_29 ?_
        refine g_iadd h dX5_addAbove_30 ?_
        refine g_iast h j dX5_addAbove_31 rfl rfl (by omega) ?_
        refine g_aload_0 h dX5_addAbove_32 ?_
        refine g_getC h fl_X5_25 dX5_addAbove_33 rfl rfl ?_
        refine g_iload_3 h dX5_addAbove_36 ?_
        refine g_iald h j dX5_addAbove_37 rfl rfl (by omega) ?_
        refine g_istore_3 h dX5_addAbove_38 (by decide) rfl ?_
        refine g_iinc_4 h dX5_addAbove_39 (inc1 _) (by decide) rfl ?_
        refine g_goto h 5 dX5_addAbove_42 rfl ?_
        refine ih (n + 1) _ _ (by simpa [up2] using hN) (by omega) (q_I ?_ hQ)
        rw [up2_row, setRow_s, setRow_o (by decide), setRow_2, aab, ← hN, hasT c19, if_pos rfl, ix_n (by omega)]
set_option maxRecDepth 100000 in
set_option maxHeartbeats 4000000 in
theorem sp_X5_addAbove_20 {d N : Nat} {I : MI} {J : MJ} {P : MP} (hT : P 20 0 = some 36) (hN : I 36 1 = nI N) (hN16 : N ≤ 16) {c m : Int32} {Q : MI → MJ → MP → Prop} (hQ : Q (setRow I 24 (aab (I 22) N 4 c m (I 24))) J P) : Sp yX5_addAbove cX5_addAbove 5 none (d + 1) [.ref 20, .int c, .int m] I J P (Qv Q) := by
  intro Γ h
  show VG Γ 0 0 0 [some (.ref 20), some (.int c), some (.int m), none, none] [] _ _ _ _
  refine g_iload_1 h dX5_addAbove_0 ?_
  refine g_istore_3 h dX5_addAbove_1 (by decide) rfl ?_
  refine g_iconst h dX5_addAbove_2 (v := nI 0) rfl ?_
  refine g_istore_4 h dX5_addAbove_3 (by decide) rfl ?_
  exact lp_X5_addAbove_20 hT hN16 h 4 0 _ _ hN rfl hQ
set_option maxRecDepth 100000 in
set_option maxHeartbeats 4000000 in
theorem sp_X5_tieInto_20 {d N c : Nat} {I : MI} {J : MJ} {P : MP} (hT : P 20 0 = some 36) (hN : I 36 1 = nI N) (hN16 : N ≤ 16) (hc : c < 16) {x : Int32} {Q : MI → MJ → MP → Prop} (hQ : Q (setRow (setRow I 23 (upd (I 23) c x)) 24 (aab (I 22) N 4 (nI c) (x - I 23 c) (I 24))) J P) : Sp yX5_tieInto cX5_tieInto 4 none (d + 2) [.ref 20, .int (nI c), .int x] I J P (Qv Q) := by
  intro Γ h
  show VG Γ 0 0 0 [some (.ref 20), some (.int (nI c)), some (.int x), none] [] _ _ _ _
  refine g_iload_2 h dX5_tieInto_0 ?_
  refine g_aload_0 h dX5_tieInto_1 ?_
  refine g_getC h fl_X5_28 dX5_tieInto_2 rfl rfl ?_
  refine g_iload_1 h dX5_tieInto_5 ?_
  refine g_iald h c dX5_tieInto_6 rfl rfl (by omega) ?_
  refine g_isub h dX5_tieInto_7 ?_
  refine g_istore_3 h dX5_tieInto_8 (by decide) rfl ?_
  refine g_aload_0 h dX5_tieInto_9 ?_
  refine g_getC h fl_X5_28 dX5_tieInto_10 rfl rfl ?_
  refine g_iload_1 h dX5_tieInto_13 ?_
  refine g_iload_2 h dX5_tieInto_14 ?_
  refine g_iast h c dX5_tieInto_15 rfl rfl (by omega) ?_
  refine g_aload_0 h dX5_tieInto_16 ?_
  refine g_iload_1 h dX5_tieInto_17 ?_
  refine g_iload_3 h dX5_tieInto_18 ?_
  refine g_cVv2 h rok0 mi_X5_addAbove dX5_tieInto_19 ml_X5_69 rfl rfl rfl (Nat.le_of_ble_eq_true rfl) (Nat.le_of_ble_eq_true rfl) (sp_X5_addAbove_20 (by assumption) (by simpa [up2] using hN) hN16 ?_)
  simp only [up2_row, setRow_o (show 22 ≠ 23 by decide), setRow_o (show 24 ≠ 23 by decide)]
  refine g_vret h dX5_tieInto_22 ?_
  exact hQ
set_option maxHeartbeats 4000000 in
theorem lp_X5_depthOf_20 {Γ : Cx} {d N : Nat} {I : MI} {J : MJ} {P : MP} (hT : P 20 0 = some 36) (hN : I 36 1 = nI N) (hN16 : N ≤ 16) {a : Int32} {Q : Int32 → MI → MJ → MP → Prop} (h : Vc RX5 cX5_depthOf 5 (some .int) (d + 1) Γ) : ∀ (f n k : Nat) (c : Int32), n + f = 4 → Q (nI (k + dep (I 22) N f c)) I J P → VG Γ 0 0 7 [some (.ref 20), some (.int a), some (.int (nI k)), some (.int c), some (.int (nI n))] [] I J P (Fnl Γ (Qi Q)) := by
  intro f
  induction f with
  | zero =>
    intro n k c hn hQ
    refine g_iload_4 h dX5_depthOf_7 ?_
    refine g_iconst h dX5_depthOf_9 (v := nI 4) rfl ?_
    refine g_icmp_ge h 40 dX5_depthOf_10 rfl (fun c10 => ?_) (fun c10 => ?_)
    · refine g_iload_2 h dX5_depthOf_40 ?_
      refine g_iret h dX5_depthOf_41 ?_
      exact hQ
    · exact absurd (nI_le (by omega) (by omega)) c10
  | succ f ih =>
    intro n k c hn hQ
    refine g_iload_4 h dX5_depthOf_7 ?_
    refine g_iconst h dX5_depthOf_9 (v := nI 4) rfl ?_
    refine g_icmp_ge h 40 dX5_depthOf_10 rfl (fun c10 => ?_) (fun c10 => ?_)
    · exact absurd (leN c10 (by omega) (by omega)) (by omega)
    · refine g_aload_0 h dX5_depthOf_13 ?_
      refine g_getP h fl_X5_43 dX5_depthOf_14 rfl rfl (by assumption) ?_
      refine g_iload_3 h dX5_depthOf_17 ?_
      refine g_cVi1 h rok0 mi_X9_hasCord dX5_depthOf_18 ml_X5_72 rfl rfl rfl (Nat.le_of_ble_eq_true rfl) (Nat.le_of_ble_eq_true rfl) (sp_X9_hasCord (Or.inl rfl) ?_)
      refine g_if_eq h 40 dX5_depthOf_21 rfl (fun c21 => ?_) (fun c21 => ?_)
      · refine g_iload_2 h dX5_depthOf_40 ?_
        refine g_iret h dX5_depthOf_41 ?_
        exact q_i (by rw [dep, ← hN, hasF c21, if_neg Bool.false_ne_true]; rfl) hQ
      · obtain ⟨j, hj, rfl⟩ := hasCj hN hN16 c21
        refine g_iinc_2 h dX5_depthOf_24 (inc1 _) (by decide) rfl ?_
        refine g_aload_0 h dX5_depthOf_27 ?_
        refine g_getC h fl_X5_25 dX5_depthOf_28 rfl rfl ?_
        refine g_iload_3 h dX5_depthOf_31 ?_
        refine g_iald h j dX5_depthOf_32 rfl rfl (by omega) ?_
        refine g_istore_3 h dX5_depthOf_33 (by decide) rfl ?_
        refine g_iinc_4 h dX5_depthOf_34 (inc1 _) (by decide) rfl ?_
        refine g_goto h 7 dX5_depthOf_37 rfl ?_
        exact ih (n + 1) (k + 1) _ (by omega) (q_i (by rw [dep, ← hN, hasT c21, if_pos rfl, ix_n (by omega)]; congr 1; omega) hQ)
set_option maxRecDepth 100000 in
set_option maxHeartbeats 4000000 in
theorem sp_X5_depthOf_20 {d N : Nat} {I : MI} {J : MJ} {P : MP} (hT : P 20 0 = some 36) (hN : I 36 1 = nI N) (hN16 : N ≤ 16) {c : Int32} {Q : Int32 → MI → MJ → MP → Prop} (hQ : Q (nI (dep (I 22) N 4 c)) I J P) : Sp yX5_depthOf cX5_depthOf 5 (some .int) (d + 1) [.ref 20, .int c] I J P (Qi Q) := by
  intro Γ h
  show VG Γ 0 0 0 [some (.ref 20), some (.int c), none, none, none] [] _ _ _ _
  refine g_iconst h dX5_depthOf_0 (v := nI 0) rfl ?_
  refine g_istore_2 h dX5_depthOf_1 (by decide) rfl ?_
  refine g_iload_1 h dX5_depthOf_2 ?_
  refine g_istore_3 h dX5_depthOf_3 (by decide) rfl ?_
  refine g_iconst h dX5_depthOf_4 (v := nI 0) rfl ?_
  refine g_istore_4 h dX5_depthOf_5 (by decide) rfl ?_
  exact lp_X5_depthOf_20 hT hN hN16 h 4 0 0 _ rfl (q_i (by rw [Nat.zero_add]) hQ)
set_option maxHeartbeats 4000000 in
theorem lp_X5_isWithin_20 {Γ : Cx} {d N : Nat} {I : MI} {J : MJ} {P : MP} (hT : P 20 0 = some 36) (hN : I 36 1 = nI N) (hN16 : N ≤ 16) {a x : Int32} {Q : Int32 → MI → MJ → MP → Prop} (h : Vc RX5 cX5_isWithin 5 (some .boolean) (d + 1) Γ) : ∀ (f n : Nat) (c : Int32), n + f = 4 → Q (b2i (wth (I 22) N x f c)) I J P → VG Γ 0 0 5 [some (.ref 20), some (.int a), some (.int x), some (.int c), some (.int (nI n))] [] I J P (Fnl Γ (Qi Q)) := by
  intro f
  induction f with
  | zero =>
    intro n c hn hQ
    refine g_iload_4 h dX5_isWithin_5 ?_
    refine g_iconst h dX5_isWithin_7 (v := nI 4) rfl ?_
    refine g_icmp_ge h 42 dX5_isWithin_8 rfl (fun c8 => ?_) (fun c8 => ?_)
    · refine g_iconst h dX5_isWithin_42 (v := nI 0) rfl ?_
      refine g_zret h dX5_isWithin_43 (by first | rfl | exact nar_b2i _) ?_
      exact hQ
    · exact absurd (nI_le (by omega) (by omega)) c8
  | succ f ih =>
    intro n c hn hQ
    refine g_iload_4 h dX5_isWithin_5 ?_
    refine g_iconst h dX5_isWithin_7 (v := nI 4) rfl ?_
    refine g_icmp_ge h 42 dX5_isWithin_8 rfl (fun c8 => ?_) (fun c8 => ?_)
    · exact absurd (leN c8 (by omega) (by omega)) (by omega)
    · refine g_aload_0 h dX5_isWithin_11 ?_
      refine g_getP h fl_X5_43 dX5_isWithin_12 rfl rfl (by assumption) ?_
      refine g_iload_3 h dX5_isWithin_15 ?_
      refine g_cVi1 h rok0 mi_X9_hasCord dX5_isWithin_16 ml_X5_72 rfl rfl rfl (Nat.le_of_ble_eq_true rfl) (Nat.le_of_ble_eq_true rfl) (sp_X9_hasCord (Or.inl rfl) ?_)
      refine g_if_eq h 42 dX5_isWithin_19 rfl (fun c19 => ?_) (fun c19 => ?_)
      · refine g_iconst h dX5_isWithin_42 (v := nI 0) rfl ?_
        refine g_zret h dX5_isWithin_43 (by first | rfl | exact nar_b2i _) ?_
        exact q_i (by rw [wth, ← hN, hasF c19, if_neg Bool.false_ne_true]; rfl) hQ
      · obtain ⟨j, hj, rfl⟩ := hasCj hN hN16 c19
        refine g_iload_3 h dX5_isWithin_22 ?_
        refine g_iload_2 h dX5_isWithin_23 ?_
        refine g_icmp_ne h 29 dX5_isWithin_24 rfl (fun c24 => ?_) (fun c24 => ?_)
        · refine g_aload_0 h dX5_isWithin_29 ?_
          refine g_getC h fl_X5_25 dX5_isWithin_30 rfl rfl ?_
          refine g_iload_3 h dX5_isWithin_33 ?_
          refine g_iald h j dX5_isWithin_34 rfl rfl (by omega) ?_
          refine g_istore_3 h dX5_isWithin_35 (by decide) rfl ?_
          refine g_iinc_4 h dX5_isWithin_36 (inc1 _) (by decide) rfl ?_
          refine g_goto h 5 dX5_isWithin_39 rfl ?_
          exact ih (n + 1) _ (by omega) (q_i (by rw [wth, ← hN, hasT c19, if_pos rfl, if_neg c24, ix_n (by omega)]) hQ)
        · refine g_iconst h dX5_isWithin_27 (v := nI 1) rfl ?_
          refine g_zret h dX5_isWithin_28 (by first | rfl | exact nar_b2i _) ?_
          exact q_i (by rw [wth, ← hN, hasT c19, if_pos rfl, if_pos c24]; rfl) hQ
set_option maxRecDepth 100000 in
set_option maxHeartbeats 4000000 in
theorem sp_X5_isWithin_20 {d N : Nat} {I : MI} {J : MJ} {P : MP} (hT : P 20 0 = some 36) (hN : I 36 1 = nI N) (hN16 : N ≤ 16) {c x : Int32} {Q : Int32 → MI → MJ → MP → Prop} (hQ : Q (b2i (wth (I 22) N x 4 c)) I J P) : Sp yX5_isWithin cX5_isWithin 5 (some .boolean) (d + 1) [.ref 20, .int c, .int x] I J P (Qi Q) := by
  intro Γ h
  show VG Γ 0 0 0 [some (.ref 20), some (.int c), some (.int x), none, none] [] _ _ _ _
  refine g_iload_1 h dX5_isWithin_0 ?_
  refine g_istore_3 h dX5_isWithin_1 (by decide) rfl ?_
  refine g_iconst h dX5_isWithin_2 (v := nI 0) rfl ?_
  refine g_istore_4 h dX5_isWithin_3 (by decide) rfl ?_
  exact lp_X5_isWithin_20 hT hN hN16 h 4 0 _ rfl hQ
set_option maxHeartbeats 4000000 in
theorem lp_X5_heightOf_20 {Γ : Cx} {d N : Nat} {I : MI} {J : MJ} {P : MP} (hT : P 20 0 = some 36) (hN : I 36 1 = nI N) (hN16 : N ≤ 16) {x : Int32} {Q : Int32 → MI → MJ → MP → Prop} (h : Vc RX5 cX5_heightOf 4 (some .int) (d + 2) Γ) : ∀ (f i k : Nat), i + f = N → k ≤ 4 → Q (nI (hmx (I 22) N x f i k) - nI (dep (I 22) N 4 x) + nI 1) I J P → VG Γ 0 0 4 [some (.ref 20), some (.int x), some (.int (nI k)), some (.int (nI i))] [] I J P (Fnl Γ (Qi Q)) := by
  intro f
  induction f with
  | zero =>
    intro i k hi hk hQ
    refine g_iload_3 h dX5_heightOf_4 ?_
    refine g_aload_0 h dX5_heightOf_5 ?_
    refine g_getP h fl_X5_43 dX5_heightOf_6 rfl rfl (by assumption) ?_
    refine g_getI h fl_X5_53 dX5_heightOf_9 rfl rfl ?_
    refine g_icmp_ge h 40 dX5_heightOf_12 rfl (fun c12 => ?_) (fun c12 => ?_)
    · refine g_iload_2 h dX5_heightOf_40 ?_
      refine g_aload_0 h dX5_heightOf_41 ?_
      refine g_iload_1 h dX5_heightOf_42 ?_
      refine g_cVi1 h rok0 mi_X5_depthOf dX5_heightOf_43 ml_X5_80 rfl rfl rfl (Nat.le_of_ble_eq_true rfl) (Nat.le_of_ble_eq_true rfl) (sp_X5_depthOf_20 hT hN hN16 ?_)
      refine g_isub h dX5_heightOf_46 ?_
      refine g_iconst h dX5_heightOf_47 (v := nI 1) rfl ?_
      refine g_iadd h dX5_heightOf_48 ?_
      refine g_iret h dX5_heightOf_49 ?_
      exact hQ
    · exact absurd (by rw [hN]; exact nI_le (by omega) (by omega)) c12
  | succ f ih =>
    intro i k hi hk hQ
    refine g_iload_3 h dX5_heightOf_4 ?_
    refine g_aload_0 h dX5_heightOf_5 ?_
    refine g_getP h fl_X5_43 dX5_heightOf_6 rfl rfl (by assumption) ?_
    refine g_getI h fl_X5_53 dX5_heightOf_9 rfl rfl ?_
    refine g_icmp_ge h 40 dX5_heightOf_12 rfl (fun c12 => ?_) (fun c12 => ?_)
    · exact absurd (leN (by simpa only [hN] using c12) (by omega) (by omega)) (by omega)
    · refine g_aload_0 h dX5_heightOf_15 ?_
      refine g_iload_3 h dX5_heightOf_16 ?_
      refine g_iload_1 h dX5_heightOf_17 ?_
      refine g_cVi2 h rok0 mi_X5_isWithin dX5_heightOf_18 ml_X5_76 rfl rfl rfl (Nat.le_of_ble_eq_true rfl) (Nat.le_of_ble_eq_true rfl) (sp_X5_isWithin_20 hT hN hN16 ?_)
      refine g_if_eq h 34 dX5_heightOf_21 rfl (fun c21 => ?_) (fun c21 => ?_)
      · refine g_iinc_3 h dX5_heightOf_34 (inc1 _) (by decide) rfl ?_
        refine g_goto h 4 dX5_heightOf_37 rfl ?_
        first
          | exact ih (i + 1) _ (by omega) (by omega) (q_i (by rw [hmx, b2i_n0.mp c21, if_pos rfl]) hQ)
          | exact ih (i + 1) _ (by omega) (by omega) (q_i (by rw [hmx, b2i_0.mp c21, if_neg Bool.false_ne_true]) hQ)
      · refine g_iload_2 h dX5_heightOf_24 ?_
        refine g_aload_0 h dX5_heightOf_25 ?_
        refine g_iload_3 h dX5_heightOf_26 ?_
        refine g_cVi1 h rok0 mi_X5_depthOf dX5_heightOf_27 ml_X5_80 rfl rfl rfl (Nat.le_of_ble_eq_true rfl) (Nat.le_of_ble_eq_true rfl) (sp_X5_depthOf_20 hT hN hN16 ?_)
        refine g_mmax h dX5_heightOf_30 ml_X5_84 rok0 (Nat.le_of_ble_eq_true rfl) ?_
        have hd4 := dep_le (I 22) N 4 (nI i)
        rw [mmax_n (by omega) (by omega)]
        refine g_istore_2 h dX5_heightOf_33 (by decide) rfl ?_
        refine g_iinc_3 h dX5_heightOf_34 (inc1 _) (by decide) rfl ?_
        refine g_goto h 4 dX5_heightOf_37 rfl ?_
        first
          | exact ih (i + 1) _ (by omega) (by omega) (q_i (by rw [hmx, b2i_n0.mp c21, if_pos rfl]) hQ)
          | exact ih (i + 1) _ (by omega) (by omega) (q_i (by rw [hmx, b2i_0.mp c21, if_neg Bool.false_ne_true]) hQ)
set_option maxRecDepth 100000 in
set_option maxHeartbeats 4000000 in
theorem sp_X5_heightOf_20 {d N : Nat} {I : MI} {J : MJ} {P : MP} (hT : P 20 0 = some 36) (hN : I 36 1 = nI N) (hN16 : N ≤ 16) {x : Int32} {Q : Int32 → MI → MJ → MP → Prop} (hQ : Q (nI (hmx (I 22) N x N 0 0) - nI (dep (I 22) N 4 x) + nI 1) I J P) : Sp yX5_heightOf cX5_heightOf 4 (some .int) (d + 2) [.ref 20, .int x] I J P (Qi Q) := by
  intro Γ h
  show VG Γ 0 0 0 [some (.ref 20), some (.int x), none, none] [] _ _ _ _
  refine g_iconst h dX5_heightOf_0 (v := nI 0) rfl ?_
  refine g_istore_2 h dX5_heightOf_1 (by decide) rfl ?_
  refine g_iconst h dX5_heightOf_2 (v := nI 0) rfl ?_
  refine g_istore_3 h dX5_heightOf_3 (by decide) rfl ?_
  exact lp_X5_heightOf_20 hT hN hN16 h N 0 0 (by omega) (by omega) hQ
set_option maxRecDepth 100000 in
set_option maxHeartbeats 4000000 in
theorem sp_X5_above_20 {d N : Nat} {I : MI} {J : MJ} {P : MP} (hT : P 20 0 = some 36) (hN : I 36 1 = nI N) (hN16 : N ≤ 16) {c : Int32} {Q : Int32 → MI → MJ → MP → Prop} (hQ : Q (abv (I 22) N c) I J P) : Sp yX5_above cX5_above 2 (some .int) (d + 1) [.ref 20, .int c] I J P (Qi Q) := by
  intro Γ h
  show VG Γ 0 0 0 [some (.ref 20), some (.int c)] [] _ _ _ _
  refine g_aload_0 h dX5_above_0 ?_
  refine g_getP h fl_X5_43 dX5_above_1 rfl rfl (by assumption) ?_
  refine g_iload_1 h dX5_above_4 ?_
  refine g_cVi1 h rok0 mi_X9_hasCord dX5_above_5 ml_X5_72 rfl rfl rfl (Nat.le_of_ble_eq_true rfl) (Nat.le_of_ble_eq_true rfl) (sp_X9_hasCord (Or.inl rfl) ?_)
  refine g_if_eq h 20 dX5_above_8 rfl (fun c8 => ?_) (fun c8 => ?_)
  · refine g_iconst h dX5_above_20 (v := (-1)) rfl ?_
    refine g_iret h dX5_above_21 ?_
    first
      | exact q_i (by rw [abv, ← hN, hasT c8, if_pos rfl, ix_n (by omega)]) hQ
      | exact q_i (by rw [abv, ← hN, hasF c8, if_neg Bool.false_ne_true]) hQ
  · obtain ⟨j, hj, rfl⟩ := hasCj hN hN16 c8
    refine g_aload_0 h dX5_above_11 ?_
    refine g_getC h fl_X5_25 dX5_above_12 rfl rfl ?_
    refine g_iload_1 h dX5_above_15 ?_
    refine g_iald h j dX5_above_16 rfl rfl (by omega) ?_
    refine g_goto h 21 dX5_above_17 rfl ?_
    refine g_iret h dX5_above_21 ?_
    first
      | exact q_i (by rw [abv, ← hN, hasT c8, if_pos rfl, ix_n (by omega)]) hQ
      | exact q_i (by rw [abv, ← hN, hasF c8, if_neg Bool.false_ne_true]) hQ
set_option maxRecDepth 100000 in
set_option maxHeartbeats 4000000 in
theorem sp_X5_hangFrom_20 {d N c : Nat} {I : MI} {J : MJ} {P : MP} (hT : P 20 0 = some 36) (hN : I 36 1 = nI N) (hN16 : N ≤ 16) (hc : c < 16) {x : Int32} {Q : MI → MJ → MP → Prop} (hQ : Q (setRow (setRow (setRow I 24 (aab (I 22) N 4 (I 22 c) (-(I 24 c)) (I 24))) 22 (upd (I 22) c x)) 24 (aab (upd (I 22) c x) N 4 x (aab (I 22) N 4 (I 22 c) (-(I 24 c)) (I 24) c) (aab (I 22) N 4 (I 22 c) (-(I 24 c)) (I 24)))) J P) : Sp yX5_hangFrom cX5_hangFrom 3 none (d + 2) [.ref 20, .int (nI c), .int x] I J P (Qv Q) := by
  intro Γ h
  show VG Γ 0 0 0 [some (.ref 20), some (.int (nI c)), some (.int x)] [] _ _ _ _
  refine g_aload_0 h dX5_hangFrom_0 ?_
  refine g_aload_0 h dX5_hangFrom_1 ?_
  refine g_getC h fl_X5_25 dX5_hangFrom_2 rfl rfl ?_
  refine g_iload_1 h dX5_hangFrom_5 ?_
  refine g_iald h c dX5_hangFrom_6 rfl rfl (by omega) ?_
  refine g_aload_0 h dX5_hangFrom_7 ?_
  refine g_getC h fl_X5_31 dX5_hangFrom_8 rfl rfl ?_
  refine g_iload_1 h dX5_hangFrom_11 ?_
  refine g_iald h c dX5_hangFrom_12 rfl rfl (by omega) ?_
  refine g_ineg h dX5_hangFrom_13 ?_
  refine g_cVv2 h rok0 mi_X5_addAbove dX5_hangFrom_14 ml_X5_69 rfl rfl rfl (Nat.le_of_ble_eq_true rfl) (Nat.le_of_ble_eq_true rfl) (sp_X5_addAbove_20 hT hN hN16 ?_)
  refine g_aload_0 h dX5_hangFrom_17 ?_
  refine g_getC h fl_X5_25 dX5_hangFrom_18 rfl rfl ?_
  refine g_iload_1 h dX5_hangFrom_21 ?_
  refine g_iload_2 h dX5_hangFrom_22 ?_
  refine g_iast h c dX5_hangFrom_23 rfl rfl (by omega) ?_
  refine g_aload_0 h dX5_hangFrom_24 ?_
  refine g_iload_2 h dX5_hangFrom_25 ?_
  refine g_aload_0 h dX5_hangFrom_26 ?_
  refine g_getC h fl_X5_31 dX5_hangFrom_27 rfl rfl ?_
  refine g_iload_1 h dX5_hangFrom_30 ?_
  refine g_iald h c dX5_hangFrom_31 rfl rfl (by omega) ?_
  refine g_cVv2 h rok0 mi_X5_addAbove dX5_hangFrom_32 ml_X5_69 rfl rfl rfl (Nat.le_of_ble_eq_true rfl) (Nat.le_of_ble_eq_true rfl) (sp_X5_addAbove_20 hT (by simp only [up2_row, setRow_o (show 36 ≠ 22 by decide), setRow_o (show 36 ≠ 24 by decide)]; exact hN) hN16 ?_)
  simp only [up2_row, setRow_s, setRow_o (show 22 ≠ 24 by decide), setRow_o (show 24 ≠ 22 by decide)]
  refine g_vret h dX5_hangFrom_35 ?_
  exact hQ
set_option maxHeartbeats 4000000 in
theorem lp_X5_stepsBetween_20 {Γ : Cx} {d N : Nat} {I : MI} {J : MJ} {P : MP} (hT : P 20 0 = some 36) (hN : I 36 1 = nI N) (hN16 : N ≤ 16) {a0 b0 : Int32} {Q : Int32 → MI → MJ → MP → Prop} (h : Vc RX5 cX5_stepsBetween 7 (some .int) (d + 2) Γ) : ∀ (f n k : Nat) (a b : Int32), n + f = 8 → Q (nI (k + stpF (I 22) N f a b)) I J P → VG Γ 0 0 11 [some (.ref 20), some (.int a0), some (.int b0), some (.int a), some (.int b), some (.int (nI k)), some (.int (nI n))] [] I J P (Fnl Γ (Qi Q)) := by
  intro f
  induction f with
  | zero =>
    intro n k a b hn hQ
    refine g_iload_6 h dX5_stepsBetween_11 ?_
    refine g_bipush h dX5_stepsBetween_13 (v := nI 8) rfl ?_
    refine g_icmp_ge h 64 dX5_stepsBetween_15 rfl (fun c15 => ?_) (fun c15 => ?_)
    · refine g_iload_5 h dX5_stepsBetween_64 ?_
      refine g_iret h dX5_stepsBetween_66 ?_
      exact hQ
    · exact absurd (nI_le (by omega) (by omega)) c15
  | succ f ih =>
    intro n k a b hn hQ
    have hda := dep_le (I 22) N 4 a
    have hdb := dep_le (I 22) N 4 b
    refine g_iload_6 h dX5_stepsBetween_11 ?_
    refine g_bipush h dX5_stepsBetween_13 (v := nI 8) rfl ?_
    refine g_icmp_ge h 64 dX5_stepsBetween_15 rfl (fun c15 => ?_) (fun c15 => ?_)
    · exact absurd (leN c15 (by omega) (by omega)) (by omega)
    · refine g_iload_3 h dX5_stepsBetween_18 ?_
      refine g_iload_4 h dX5_stepsBetween_19 ?_
      refine g_icmp_eq h 64 dX5_stepsBetween_21 rfl (fun c21 => ?_) (fun c21 => ?_)
      · refine g_iload_5 h dX5_stepsBetween_64 ?_
        refine g_iret h dX5_stepsBetween_66 ?_
        exact q_i (by rw [stpF, if_pos c21]; rfl) hQ
      · refine g_aload_0 h dX5_stepsBetween_24 ?_
        refine g_iload_3 h dX5_stepsBetween_25 ?_
        refine g_cVi1 h rok0 mi_X5_depthOf dX5_stepsBetween_26 ml_X5_80 rfl rfl rfl (Nat.le_of_ble_eq_true rfl) (Nat.le_of_ble_eq_true rfl) (sp_X5_depthOf_20 hT hN hN16 ?_)
        refine g_aload_0 h dX5_stepsBetween_29 ?_
        refine g_iload_4 h dX5_stepsBetween_30 ?_
        refine g_cVi1 h rok0 mi_X5_depthOf dX5_stepsBetween_32 ml_X5_80 rfl rfl rfl (Nat.le_of_ble_eq_true rfl) (Nat.le_of_ble_eq_true rfl) (sp_X5_depthOf_20 hT hN hN16 ?_)
        refine g_icmp_ge h 49 dX5_stepsBetween_35 rfl (fun c35 => ?_) (fun c35 => ?_)
        · refine g_aload_0 h dX5_stepsBetween_49 ?_
          refine g_iload_3 h dX5_stepsBetween_50 ?_
          refine g_cVi1 h rok0 mi_X5_above dX5_stepsBetween_51 ml_X5_90 rfl rfl rfl (Nat.le_of_ble_eq_true rfl) (Nat.le_of_ble_eq_true rfl) (sp_X5_above_20 hT hN hN16 ?_)
          refine g_istore_3 h dX5_stepsBetween_54 (by decide) rfl ?_
          refine g_iinc_5 h dX5_stepsBetween_55 (inc1 _) (by decide) rfl ?_
          refine g_iinc_6 h dX5_stepsBetween_58 (inc1 _) (by decide) rfl ?_
          refine g_goto h 11 dX5_stepsBetween_61 rfl ?_
          first
            | exact ih (n + 1) (k + 1) _ _ (by omega) (q_i (by rw [stpF, if_neg c21, if_neg (fun q => absurd (nI_lt q (by omega)) (Int32.not_lt.mpr c35))]; congr 1; omega) hQ)
            | exact ih (n + 1) (k + 1) _ _ (by omega) (q_i (by rw [stpF, if_neg c21, if_pos (ltN (Int32.not_le.mp c35) (by omega) (by omega))]; congr 1; omega) hQ)
        · refine g_aload_0 h dX5_stepsBetween_38 ?_
          refine g_iload_4 h dX5_stepsBetween_39 ?_
          refine g_cVi1 h rok0 mi_X5_above dX5_stepsBetween_41 ml_X5_90 rfl rfl rfl (Nat.le_of_ble_eq_true rfl) (Nat.le_of_ble_eq_true rfl) (sp_X5_above_20 hT hN hN16 ?_)
          refine g_istore_4 h dX5_stepsBetween_44 (by decide) rfl ?_
          refine g_goto h 55 dX5_stepsBetween_46 rfl ?_
          refine g_iinc_5 h dX5_stepsBetween_55 (inc1 _) (by decide) rfl ?_
          refine g_iinc_6 h dX5_stepsBetween_58 (inc1 _) (by decide) rfl ?_
          refine g_goto h 11 dX5_stepsBetween_61 rfl ?_
          first
            | exact ih (n + 1) (k + 1) _ _ (by omega) (q_i (by rw [stpF, if_neg c21, if_neg (fun q => absurd (nI_lt q (by omega)) (Int32.not_lt.mpr c35))]; congr 1; omega) hQ)
            | exact ih (n + 1) (k + 1) _ _ (by omega) (q_i (by rw [stpF, if_neg c21, if_pos (ltN (Int32.not_le.mp c35) (by omega) (by omega))]; congr 1; omega) hQ)
set_option maxRecDepth 100000 in
set_option maxHeartbeats 4000000 in
theorem sp_X5_stepsBetween_20 {d N : Nat} {I : MI} {J : MJ} {P : MP} (hT : P 20 0 = some 36) (hN : I 36 1 = nI N) (hN16 : N ≤ 16) {a b : Int32} {Q : Int32 → MI → MJ → MP → Prop} (hQ : Q (nI (stpF (I 22) N 8 a b)) I J P) : Sp yX5_stepsBetween cX5_stepsBetween 7 (some .int) (d + 2) [.ref 20, .int a, .int b] I J P (Qi Q) := by
  intro Γ h
  show VG Γ 0 0 0 [some (.ref 20), some (.int a), some (.int b), none, none, none, none] [] _ _ _ _
  refine g_iload_1 h dX5_stepsBetween_0 ?_
  refine g_istore_3 h dX5_stepsBetween_1 (by decide) rfl ?_
  refine g_iload_2 h dX5_stepsBetween_2 ?_
  refine g_istore_4 h dX5_stepsBetween_3 (by decide) rfl ?_
  refine g_iconst h dX5_stepsBetween_5 (v := nI 0) rfl ?_
  refine g_istore_5 h dX5_stepsBetween_6 (by decide) rfl ?_
  refine g_iconst h dX5_stepsBetween_8 (v := nI 0) rfl ?_
  refine g_istore_6 h dX5_stepsBetween_9 (by decide) rfl ?_
  exact lp_X5_stepsBetween_20 hT hN hN16 h 8 0 0 _ _ rfl (q_i (by rw [Nat.zero_add]) hQ)
set_option maxHeartbeats 4000000 in
theorem lp_X5_addAbove_28 {Γ : Cx} {d N : Nat} {J : MJ} {P : MP} (hT : P 28 0 = some 36) (hN16 : N ≤ 16) {a : Int32} {m : Int32} {Q : MI → MJ → MP → Prop} (h : Vc RX5 cX5_addAbove 5 none (d + 1) Γ) : ∀ (f n : Nat) (c : Int32) (I : MI) (hN : I 36 1 = nI N), n + f = 4 → Q (setRow I 32 (aab (I 30) N f c m (I 32))) J P → VG Γ 0 0 5 [some (.ref 28), some (.int a), some (.int m), some (.int c), some (.int (nI n))] [] I J P (Fnl Γ (Qv Q)) := by
  intro f
  induction f with
  | zero =>
    intro n c I hN hn hQ
    refine g_iload_4 h dX5_addAbove_5 ?_
    refine g_iconst h dX5_addAbove_7 (v := nI 4) rfl ?_
    refine g_icmp_ge h 45 dX5_addAbove_8 rfl (fun c8 => ?_) (fun c8 => ?_)
    · refine g_vret h dX5_addAbove_45 ?_
      exact q_I (by simp only [aab]; rw [setRow_id]) hQ
    · exact absurd (nI_le (by omega) (by omega)) c8
  | succ f ih =>
    intro n c I hN hn hQ
    refine g_iload_4 h dX5_addAbove_5 ?_
    refine g_iconst h dX5_addAbove_7 (v := nI 4) rfl ?_
    refine g_icmp_ge h 45 dX5_addAbove_8 rfl (fun c8 => ?_) (fun c8 => ?_)
    · exact absurd (leN c8 (by omega) (by omega)) (by omega)
    · refine g_aload_0 h dX5_addAbove_11 ?_
      refine g_getP h fl_X5_43 dX5_addAbove_12 rfl rfl (by assumption) ?_
      refine g_iload_3 h dX5_addAbove_15 ?_
      refine g_cVi1 h rok0 mi_X9_hasCord dX5_addAbove_16 ml_X5_72 rfl rfl rfl (Nat.le_of_ble_eq_true rfl) (Nat.le_of_ble_eq_true rfl) (sp_X9_hasCord (Or.inl rfl) ?_)
      refine g_if_eq h 45 dX5_addAbove_19 rfl (fun c19 => ?_) (fun c19 => ?_)
      · refine g_vret h dX5_addAbove_45 ?_
        exact q_I (by rw [aab, ← hN, hasF c19, if_neg Bool.false_ne_true, setRow_id]) hQ
      · obtain ⟨j, hj, rfl⟩ := hasCj hN hN16 c19
        refine g_aload_0 h dX5_addAbove_22 ?_
        refine g_getC h fl_X5_31 dX5_addAbove_23 rfl rfl ?_
        refine g_iload_3 h dX5_addAbove_26 ?_
        refine g_dup2 h dX5_addAbove_27 rfl rfl ?_
        refine g_iald h j dX5_addAbove_28 rfl rfl (by omega) ?_
        refine g_iload_2 h dX5_addAbove_29 ?_
        refine g_iadd h dX5_addAbove_30 ?_
        refine g_iast h j dX5_addAbove_31 rfl rfl (by omega) ?_
        refine g_aload_0 h dX5_addAbove_32 ?_
        refine g_getC h fl_X5_25 dX5_addAbove_33 rfl rfl ?_
        refine g_iload_3 h dX5_addAbove_36 ?_
        refine g_iald h j dX5_addAbove_37 rfl rfl (by omega) ?_
        refine g_istore_3 h dX5_addAbove_38 (by decide) rfl ?_
        refine g_iinc_4 h dX5_addAbove_39 (inc1 _) (by decide) rfl ?_
        refine g_goto h 5 dX5_addAbove_42 rfl ?_
        refine ih (n + 1) _ _ (by simpa [up2] using hN) (by omega) (q_I ?_ hQ)
        rw [up2_row, setRow_s, setRow_o (by decide), setRow_2, aab, ← hN, hasT c19, if_pos rfl, ix_n (by omega)]
set_option maxRecDepth 100000 in
set_option maxHeartbeats 4000000 in
theorem sp_X5_addAbove_28 {d N : Nat} {I : MI} {J : MJ} {P : MP} (hT : P 28 0 = some 36) (hN : I 36 1 = nI N) (hN16 : N ≤ 16) {c m : Int32} {Q : MI → MJ → MP → Prop} (hQ : Q (setRow I 32 (aab (I 30) N 4 c m (I 32))) J P) : Sp yX5_addAbove cX5_addAbove 5 none (d + 1) [.ref 28, .int c, .int m] I J P (Qv Q) := by
  intro Γ h
  show VG Γ 0 0 0 [some (.ref 28), some (.int c), some (.int m), none, none] [] _ _ _ _
  refine g_iload_1 h dX5_addAbove_0 ?_
  refine g_istore_3 h dX5_addAbove_1 (by decide) rfl ?_
  refine g_iconst h dX5_addAbove_2 (v := nI 0) rfl ?_
  refine g_istore_4 h dX5_addAbove_3 (by decide) rfl ?_
  exact lp_X5_addAbove_28 hT hN16 h 4 0 _ _ hN rfl hQ
set_option maxRecDepth 100000 in
set_option maxHeartbeats 4000000 in
theorem sp_X5_tieInto_28 {d N c : Nat} {I : MI} {J : MJ} {P : MP} (hT : P 28 0 = some 36) (hN : I 36 1 = nI N) (hN16 : N ≤ 16) (hc : c < 16) {x : Int32} {Q : MI → MJ → MP → Prop} (hQ : Q (setRow (setRow I 31 (upd (I 31) c x)) 32 (aab (I 30) N 4 (nI c) (x - I 31 c) (I 32))) J P) : Sp yX5_tieInto cX5_tieInto 4 none (d + 2) [.ref 28, .int (nI c), .int x] I J P (Qv Q) := by
  intro Γ h
  show VG Γ 0 0 0 [some (.ref 28), some (.int (nI c)), some (.int x), none] [] _ _ _ _
  refine g_iload_2 h dX5_tieInto_0 ?_
  refine g_aload_0 h dX5_tieInto_1 ?_
  refine g_getC h fl_X5_28 dX5_tieInto_2 rfl rfl ?_
  refine g_iload_1 h dX5_tieInto_5 ?_
  refine g_iald h c dX5_tieInto_6 rfl rfl (by omega) ?_
  refine g_isub h dX5_tieInto_7 ?_
  refine g_istore_3 h dX5_tieInto_8 (by decide) rfl ?_
  refine g_aload_0 h dX5_tieInto_9 ?_
  refine g_getC h fl_X5_28 dX5_tieInto_10 rfl rfl ?_
  refine g_iload_1 h dX5_tieInto_13 ?_
  refine g_iload_2 h dX5_tieInto_14 ?_
  refine g_iast h c dX5_tieInto_15 rfl rfl (by omega) ?_
  refine g_aload_0 h dX5_tieInto_16 ?_
  refine g_iload_1 h dX5_tieInto_17 ?_
  refine g_iload_3 h dX5_tieInto_18 ?_
  refine g_cVv2 h rok0 mi_X5_addAbove dX5_tieInto_19 ml_X5_69 rfl rfl rfl (Nat.le_of_ble_eq_true rfl) (Nat.le_of_ble_eq_true rfl) (sp_X5_addAbove_28 (by assumption) (by simpa [up2] using hN) hN16 ?_)
  simp only [up2_row, setRow_o (show 30 ≠ 31 by decide), setRow_o (show 32 ≠ 31 by decide)]
  refine g_vret h dX5_tieInto_22 ?_
  exact hQ
set_option maxHeartbeats 4000000 in
theorem lp_X5_depthOf_28 {Γ : Cx} {d N : Nat} {I : MI} {J : MJ} {P : MP} (hT : P 28 0 = some 36) (hN : I 36 1 = nI N) (hN16 : N ≤ 16) {a : Int32} {Q : Int32 → MI → MJ → MP → Prop} (h : Vc RX5 cX5_depthOf 5 (some .int) (d + 1) Γ) : ∀ (f n k : Nat) (c : Int32), n + f = 4 → Q (nI (k + dep (I 30) N f c)) I J P → VG Γ 0 0 7 [some (.ref 28), some (.int a), some (.int (nI k)), some (.int c), some (.int (nI n))] [] I J P (Fnl Γ (Qi Q)) := by
  intro f
  induction f with
  | zero =>
    intro n k c hn hQ
    refine g_iload_4 h dX5_depthOf_7 ?_
    refine g_iconst h dX5_depthOf_9 (v := nI 4) rfl ?_
    refine g_icmp_ge h 40 dX5_depthOf_10 rfl (fun c10 => ?_) (fun c10 => ?_)
    · refine g_iload_2 h dX5_depthOf_40 ?_
      refine g_iret h dX5_depthOf_41 ?_
      exact hQ
    · exact absurd (nI_le (by omega) (by omega)) c10
  | succ f ih =>
    intro n k c hn hQ
    refine g_iload_4 h dX5_depthOf_7 ?_
    refine g_iconst h dX5_depthOf_9 (v := nI 4) rfl ?_
    refine g_icmp_ge h 40 dX5_depthOf_10 rfl (fun c10 => ?_) (fun c10 => ?_)
    · exact absurd (leN c10 (by omega) (by omega)) (by omega)
    · refine g_aload_0 h dX5_depthOf_13 ?_
      refine g_getP h fl_X5_43 dX5_depthOf_14 rfl rfl (by assumption) ?_
      refine g_iload_3 h dX5_depthOf_17 ?_
      refine g_cVi1 h rok0 mi_X9_hasCord dX5_depthOf_18 ml_X5_72 rfl rfl rfl (Nat.le_of_ble_eq_true rfl) (Nat.le_of_ble_eq_true rfl) (sp_X9_hasCord (Or.inl rfl) ?_)
      refine g_if_eq h 40 dX5_depthOf_21 rfl (fun c21 => ?_) (fun c21 => ?_)
      · refine g_iload_2 h dX5_depthOf_40 ?_
        refine g_iret h dX5_depthOf_41 ?_
        exact q_i (by rw [dep, ← hN, hasF c21, if_neg Bool.false_ne_true]; rfl) hQ
      · obtain ⟨j, hj, rfl⟩ := hasCj hN hN16 c21
        refine g_iinc_2 h dX5_depthOf_24 (inc1 _) (by decide) rfl ?_
        refine g_aload_0 h dX5_depthOf_27 ?_
        refine g_getC h fl_X5_25 dX5_depthOf_28 rfl rfl ?_
        refine g_iload_3 h dX5_depthOf_31 ?_
        refine g_iald h j dX5_depthOf_32 rfl rfl (by omega) ?_
        refine g_istore_3 h dX5_depthOf_33 (by decide) rfl ?_
        refine g_iinc_4 h dX5_depthOf_34 (inc1 _) (by decide) rfl ?_
        refine g_goto h 7 dX5_depthOf_37 rfl ?_
        exact ih (n + 1) (k + 1) _ (by omega) (q_i (by rw [dep, ← hN, hasT c21, if_pos rfl, ix_n (by omega)]; congr 1; omega) hQ)
set_option maxRecDepth 100000 in
set_option maxHeartbeats 4000000 in
theorem sp_X5_depthOf_28 {d N : Nat} {I : MI} {J : MJ} {P : MP} (hT : P 28 0 = some 36) (hN : I 36 1 = nI N) (hN16 : N ≤ 16) {c : Int32} {Q : Int32 → MI → MJ → MP → Prop} (hQ : Q (nI (dep (I 30) N 4 c)) I J P) : Sp yX5_depthOf cX5_depthOf 5 (some .int) (d + 1) [.ref 28, .int c] I J P (Qi Q) := by
  intro Γ h
  show VG Γ 0 0 0 [some (.ref 28), some (.int c), none, none, none] [] _ _ _ _
  refine g_iconst h dX5_depthOf_0 (v := nI 0) rfl ?_
  refine g_istore_2 h dX5_depthOf_1 (by decide) rfl ?_
  refine g_iload_1 h dX5_depthOf_2 ?_
  refine g_istore_3 h dX5_depthOf_3 (by decide) rfl ?_
  refine g_iconst h dX5_depthOf_4 (v := nI 0) rfl ?_
  refine g_istore_4 h dX5_depthOf_5 (by decide) rfl ?_
  exact lp_X5_depthOf_28 hT hN hN16 h 4 0 0 _ rfl (q_i (by rw [Nat.zero_add]) hQ)
set_option maxHeartbeats 4000000 in
theorem lp_X5_isWithin_28 {Γ : Cx} {d N : Nat} {I : MI} {J : MJ} {P : MP} (hT : P 28 0 = some 36) (hN : I 36 1 = nI N) (hN16 : N ≤ 16) {a x : Int32} {Q : Int32 → MI → MJ → MP → Prop} (h : Vc RX5 cX5_isWithin 5 (some .boolean) (d + 1) Γ) : ∀ (f n : Nat) (c : Int32), n + f = 4 → Q (b2i (wth (I 30) N x f c)) I J P → VG Γ 0 0 5 [some (.ref 28), some (.int a), some (.int x), some (.int c), some (.int (nI n))] [] I J P (Fnl Γ (Qi Q)) := by
  intro f
  induction f with
  | zero =>
    intro n c hn hQ
    refine g_iload_4 h dX5_isWithin_5 ?_
    refine g_iconst h dX5_isWithin_7 (v := nI 4) rfl ?_
    refine g_icmp_ge h 42 dX5_isWithin_8 rfl (fun c8 => ?_) (fun c8 => ?_)
    · refine g_iconst h dX5_isWithin_42 (v := nI 0) rfl ?_
      refine g_zret h dX5_isWithin_43 (by first | rfl | exact nar_b2i _) ?_
      exact hQ
    · exact absurd (nI_le (by omega) (by omega)) c8
  | succ f ih =>
    intro n c hn hQ
    refine g_iload_4 h dX5_isWithin_5 ?_
    refine g_iconst h dX5_isWithin_7 (v := nI 4) rfl ?_
    refine g_icmp_ge h 42 dX5_isWithin_8 rfl (fun c8 => ?_) (fun c8 => ?_)
    · exact absurd (leN c8 (by omega) (by omega)) (by omega)
    · refine g_aload_0 h dX5_isWithin_11 ?_
      refine g_getP h fl_X5_43 dX5_isWithin_12 rfl rfl (by assumption) ?_
      refine g_iload_3 h dX5_isWithin_15 ?_
      refine g_cVi1 h rok0 mi_X9_hasCord dX5_isWithin_16 ml_X5_72 rfl rfl rfl (Nat.le_of_ble_eq_true rfl) (Nat.le_of_ble_eq_true rfl) (sp_X9_hasCord (Or.inl rfl) ?_)
      refine g_if_eq h 42 dX5_isWithin_19 rfl (fun c19 => ?_) (fun c19 => ?_)
      · refine g_iconst h dX5_isWithin_42 (v := nI 0) rfl ?_
        refine g_zret h dX5_isWithin_43 (by first | rfl | exact nar_b2i _) ?_
        exact q_i (by rw [wth, ← hN, hasF c19, if_neg Bool.false_ne_true]; rfl) hQ
      · obtain ⟨j, hj, rfl⟩ := hasCj hN hN16 c19
        refine g_iload_3 h dX5_isWithin_22 ?_
        refine g_iload_2 h dX5_isWithin_23 ?_
        refine g_icmp_ne h 29 dX5_isWithin_24 rfl (fun c24 => ?_) (fun c24 => ?_)
        · refine g_aload_0 h dX5_isWithin_29 ?_
          refine g_getC h fl_X5_25 dX5_isWithin_30 rfl rfl ?_
          refine g_iload_3 h dX5_isWithin_33 ?_
          refine g_iald h j dX5_isWithin_34 rfl rfl (by omega) ?_
          refine g_istore_3 h dX5_isWithin_35 (by decide) rfl ?_
          refine g_iinc_4 h dX5_isWithin_36 (inc1 _) (by decide) rfl ?_
          refine g_goto h 5 dX5_isWithin_39 rfl ?_
          exact ih (n + 1) _ (by omega) (q_i (by rw [wth, ← hN, hasT c19, if_pos rfl, if_neg c24, ix_n (by omega)]) hQ)
        · refine g_iconst h dX5_isWithin_27 (v := nI 1) rfl ?_
          refine g_zret h dX5_isWithin_28 (by first | rfl | exact nar_b2i _) ?_
          exact q_i (by rw [wth, ← hN, hasT c19, if_pos rfl, if_pos c24]; rfl) hQ
set_option maxRecDepth 100000 in
set_option maxHeartbeats 4000000 in
theorem sp_X5_isWithin_28 {d N : Nat} {I : MI} {J : MJ} {P : MP} (hT : P 28 0 = some 36) (hN : I 36 1 = nI N) (hN16 : N ≤ 16) {c x : Int32} {Q : Int32 → MI → MJ → MP → Prop} (hQ : Q (b2i (wth (I 30) N x 4 c)) I J P) : Sp yX5_isWithin cX5_isWithin 5 (some .boolean) (d + 1) [.ref 28, .int c, .int x] I J P (Qi Q) := by
  intro Γ h
  show VG Γ 0 0 0 [some (.ref 28), some (.int c), some (.int x), none, none] [] _ _ _ _
  refine g_iload_1 h dX5_isWithin_0 ?_
  refine g_istore_3 h dX5_isWithin_1 (by decide) rfl ?_
  refine g_iconst h dX5_isWithin_2 (v := nI 0) rfl ?_
  refine g_istore_4 h dX5_isWithin_3 (by decide) rfl ?_
  exact lp_X5_isWithin_28 hT hN hN16 h 4 0 _ rfl hQ
set_option maxHeartbeats 4000000 in
theorem lp_X5_heightOf_28 {Γ : Cx} {d N : Nat} {I : MI} {J : MJ} {P : MP} (hT : P 28 0 = some 36) (hN : I 36 1 = nI N) (hN16 : N ≤ 16) {x : Int32} {Q : Int32 → MI → MJ → MP → Prop} (h : Vc RX5 cX5_heightOf 4 (some .int) (d + 2) Γ) : ∀ (f i k : Nat), i + f = N → k ≤ 4 → Q (nI (hmx (I 30) N x f i k) - nI (dep (I 30) N 4 x) + nI 1) I J P → VG Γ 0 0 4 [some (.ref 28), some (.int x), some (.int (nI k)), some (.int (nI i))] [] I J P (Fnl Γ (Qi Q)) := by
  intro f
  induction f with
  | zero =>
    intro i k hi hk hQ
    refine g_iload_3 h dX5_heightOf_4 ?_
    refine g_aload_0 h dX5_heightOf_5 ?_
    refine g_getP h fl_X5_43 dX5_heightOf_6 rfl rfl (by assumption) ?_
    refine g_getI h fl_X5_53 dX5_heightOf_9 rfl rfl ?_
    refine g_icmp_ge h 40 dX5_heightOf_12 rfl (fun c12 => ?_) (fun c12 => ?_)
    · refine g_iload_2 h dX5_heightOf_40 ?_
      refine g_aload_0 h dX5_heightOf_41 ?_
      refine g_iload_1 h dX5_heightOf_42 ?_
      refine g_cVi1 h rok0 mi_X5_depthOf dX5_heightOf_43 ml_X5_80 rfl rfl rfl (Nat.le_of_ble_eq_true rfl) (Nat.le_of_ble_eq_true rfl) (sp_X5_depthOf_28 hT hN hN16 ?_)
      refine g_isub h dX5_heightOf_46 ?_
      refine g_iconst h dX5_heightOf_47 (v := nI 1) rfl ?_
      refine g_iadd h dX5_heightOf_48 ?_
      refine g_iret h dX5_heightOf_49 ?_
      exact hQ
    · exact absurd (by rw [hN]; exact nI_le (by omega) (by omega)) c12
  | succ f ih =>
    intro i k hi hk hQ
    refine g_iload_3 h dX5_heightOf_4 ?_
    refine g_aload_0 h dX5_heightOf_5 ?_
    refine g_getP h fl_X5_43 dX5_heightOf_6 rfl rfl (by assumption) ?_
    refine g_getI h fl_X5_53 dX5_heightOf_9 rfl rfl ?_
    refine g_icmp_ge h 40 dX5_heightOf_12 rfl (fun c12 => ?_) (fun c12 => ?_)
    · exact absurd (leN (by simpa only [hN] using c12) (by omega) (by omega)) (by omega)
    · refine g_aload_0 h dX5_heightOf_15 ?_
      refine g_iload_3 h dX5_heightOf_16 ?_
      refine g_iload_1 h dX5_heightOf_17 ?_
      refine g_cVi2 h rok0 mi_X5_isWithin dX5_heightOf_18 ml_X5_76 rfl rfl rfl (Nat.le_of_ble_eq_true rfl) (Nat.le_of_ble_eq_true rfl) (sp_X5_isWithin_28 hT hN hN16 ?_)
      refine g_if_eq h 34 dX5_heightOf_21 rfl (fun c21 => ?_) (fun c21 => ?_)
      · refine g_iinc_3 h dX5_heightOf_34 (inc1 _) (by decide) rfl ?_
        refine g_goto h 4 dX5_heightOf_37 rfl ?_
        first
          | exact ih (i + 1) _ (by omega) (by omega) (q_i (by rw [hmx, b2i_n0.mp c21, if_pos rfl]) hQ)
          | exact ih (i + 1) _ (by omega) (by omega) (q_i (by rw [hmx, b2i_0.mp c21, if_neg Bool.false_ne_true]) hQ)
      · refine g_iload_2 h dX5_heightOf_24 ?_
        refine g_aload_0 h dX5_heightOf_25 ?_
        refine g_iload_3 h dX5_heightOf_26 ?_
        refine g_cVi1 h rok0 mi_X5_depthOf dX5_heightOf_27 ml_X5_80 rfl rfl rfl (Nat.le_of_ble_eq_true rfl) (Nat.le_of_ble_eq_true rfl) (sp_X5_depthOf_28 hT hN hN16 ?_)
        refine g_mmax h dX5_heightOf_30 ml_X5_84 rok0 (Nat.le_of_ble_eq_true rfl) ?_
        have hd4 := dep_le (I 30) N 4 (nI i)
        rw [mmax_n (by omega) (by omega)]
        refine g_istore_2 h dX5_heightOf_33 (by decide) rfl ?_
        refine g_iinc_3 h dX5_heightOf_34 (inc1 _) (by decide) rfl ?_
        refine g_goto h 4 dX5_heightOf_37 rfl ?_
        first
          | exact ih (i + 1) _ (by omega) (by omega) (q_i (by rw [hmx, b2i_n0.mp c21, if_pos rfl]) hQ)
          | exact ih (i + 1) _ (by omega) (by omega) (q_i (by rw [hmx, b2i_0.mp c21, if_neg Bool.false_ne_true]) hQ)
set_option maxRecDepth 100000 in
set_option maxHeartbeats 4000000 in
theorem sp_X5_heightOf_28 {d N : Nat} {I : MI} {J : MJ} {P : MP} (hT : P 28 0 = some 36) (hN : I 36 1 = nI N) (hN16 : N ≤ 16) {x : Int32} {Q : Int32 → MI → MJ → MP → Prop} (hQ : Q (nI (hmx (I 30) N x N 0 0) - nI (dep (I 30) N 4 x) + nI 1) I J P) : Sp yX5_heightOf cX5_heightOf 4 (some .int) (d + 2) [.ref 28, .int x] I J P (Qi Q) := by
  intro Γ h
  show VG Γ 0 0 0 [some (.ref 28), some (.int x), none, none] [] _ _ _ _
  refine g_iconst h dX5_heightOf_0 (v := nI 0) rfl ?_
  refine g_istore_2 h dX5_heightOf_1 (by decide) rfl ?_
  refine g_iconst h dX5_heightOf_2 (v := nI 0) rfl ?_
  refine g_istore_3 h dX5_heightOf_3 (by decide) rfl ?_
  exact lp_X5_heightOf_28 hT hN hN16 h N 0 0 (by omega) (by omega) hQ
set_option maxRecDepth 100000 in
set_option maxHeartbeats 4000000 in
theorem sp_X5_above_28 {d N : Nat} {I : MI} {J : MJ} {P : MP} (hT : P 28 0 = some 36) (hN : I 36 1 = nI N) (hN16 : N ≤ 16) {c : Int32} {Q : Int32 → MI → MJ → MP → Prop} (hQ : Q (abv (I 30) N c) I J P) : Sp yX5_above cX5_above 2 (some .int) (d + 1) [.ref 28, .int c] I J P (Qi Q) := by
  intro Γ h
  show VG Γ 0 0 0 [some (.ref 28), some (.int c)] [] _ _ _ _
  refine g_aload_0 h dX5_above_0 ?_
  refine g_getP h fl_X5_43 dX5_above_1 rfl rfl (by assumption) ?_
  refine g_iload_1 h dX5_above_4 ?_
  refine g_cVi1 h rok0 mi_X9_hasCord dX5_above_5 ml_X5_72 rfl rfl rfl (Nat.le_of_ble_eq_true rfl) (Nat.le_of_ble_eq_true rfl) (sp_X9_hasCord (Or.inl rfl) ?_)
  refine g_if_eq h 20 dX5_above_8 rfl (fun c8 => ?_) (fun c8 => ?_)
  · refine g_iconst h dX5_above_20 (v := (-1)) rfl ?_
    refine g_iret h dX5_above_21 ?_
    first
      | exact q_i (by rw [abv, ← hN, hasT c8, if_pos rfl, ix_n (by omega)]) hQ
      | exact q_i (by rw [abv, ← hN, hasF c8, if_neg Bool.false_ne_true]) hQ
  · obtain ⟨j, hj, rfl⟩ := hasCj hN hN16 c8
    refine g_aload_0 h dX5_above_11 ?_
    refine g_getC h fl_X5_25 dX5_above_12 rfl rfl ?_
    refine g_iload_1 h dX5_above_15 ?_
    refine g_iald h j dX5_above_16 rfl rfl (by omega) ?_
    refine g_goto h 21 dX5_above_17 rfl ?_
    refine g_iret h dX5_above_21 ?_
    first
      | exact q_i (by rw [abv, ← hN, hasT c8, if_pos rfl, ix_n (by omega)]) hQ
      | exact q_i (by rw [abv, ← hN, hasF c8, if_neg Bool.false_ne_true]) hQ
set_option maxHeartbeats 4000000 in
theorem lp_X5_addAbove_20d {Γ : Cx} {d N : Nat} {J : MJ} {P : MP} (hT : P 20 0 = some 58) (hN16 : N ≤ 16) {a : Int32} {m : Int32} {Q : MI → MJ → MP → Prop} (h : Vc RX5 cX5_addAbove 5 none (d + 1) Γ) : ∀ (f n : Nat) (c : Int32) (I : MI) (hN : I 58 1 = nI N), n + f = 4 → Q (setRow I 24 (aab (I 22) N f c m (I 24))) J P → VG Γ 0 0 5 [some (.ref 20), some (.int a), some (.int m), some (.int c), some (.int (nI n))] [] I J P (Fnl Γ (Qv Q)) := by
  intro f
  induction f with
  | zero =>
    intro n c I hN hn hQ
    refine g_iload_4 h dX5_addAbove_5 ?_
    refine g_iconst h dX5_addAbove_7 (v := nI 4) rfl ?_
    refine g_icmp_ge h 45 dX5_addAbove_8 rfl (fun c8 => ?_) (fun c8 => ?_)
    · refine g_vret h dX5_addAbove_45 ?_
      exact q_I (by simp only [aab]; rw [setRow_id]) hQ
    · exact absurd (nI_le (by omega) (by omega)) c8
  | succ f ih =>
    intro n c I hN hn hQ
    refine g_iload_4 h dX5_addAbove_5 ?_
    refine g_iconst h dX5_addAbove_7 (v := nI 4) rfl ?_
    refine g_icmp_ge h 45 dX5_addAbove_8 rfl (fun c8 => ?_) (fun c8 => ?_)
    · exact absurd (leN c8 (by omega) (by omega)) (by omega)
    · refine g_aload_0 h dX5_addAbove_11 ?_
      refine g_getP h fl_X5_43 dX5_addAbove_12 rfl rfl (by assumption) ?_
      refine g_iload_3 h dX5_addAbove_15 ?_
      refine g_cVi1 h rok0 mi_X9_hasCord dX5_addAbove_16 ml_X5_72 rfl rfl rfl (Nat.le_of_ble_eq_true rfl) (Nat.le_of_ble_eq_true rfl) (sp_X9_hasCord (Or.inr rfl) ?_)
      refine g_if_eq h 45 dX5_addAbove_19 rfl (fun c19 => ?_) (fun c19 => ?_)
      · refine g_vret h dX5_addAbove_45 ?_
        exact q_I (by rw [aab, ← hN, hasF c19, if_neg Bool.false_ne_true, setRow_id]) hQ
      · obtain ⟨j, hj, rfl⟩ := hasCj hN hN16 c19
        refine g_aload_0 h dX5_addAbove_22 ?_
        refine g_getC h fl_X5_31 dX5_addAbove_23 rfl rfl ?_
        refine g_iload_3 h dX5_addAbove_26 ?_
        refine g_dup2 h dX5_addAbove_27 rfl rfl ?_
        refine g_iald h j dX5_addAbove_28 rfl rfl (by omega) ?_
        refine g_iload_2 h dX5_addAbove_29 ?_
        refine g_iadd h dX5_addAbove_30 ?_
        refine g_iast h j dX5_addAbove_31 rfl rfl (by omega) ?_
        refine g_aload_0 h dX5_addAbove_32 ?_
        refine g_getC h fl_X5_25 dX5_addAbove_33 rfl rfl ?_
        refine g_iload_3 h dX5_addAbove_36 ?_
        refine g_iald h j dX5_addAbove_37 rfl rfl (by omega) ?_
        refine g_istore_3 h dX5_addAbove_38 (by decide) rfl ?_
        refine g_iinc_4 h dX5_addAbove_39 (inc1 _) (by decide) rfl ?_
        refine g_goto h 5 dX5_addAbove_42 rfl ?_
        refine ih (n + 1) _ _ (by simpa [up2] using hN) (by omega) (q_I ?_ hQ)
        rw [up2_row, setRow_s, setRow_o (by decide), setRow_2, aab, ← hN, hasT c19, if_pos rfl, ix_n (by omega)]
set_option maxRecDepth 100000 in
set_option maxHeartbeats 4000000 in
theorem sp_X5_addAbove_20d {d N : Nat} {I : MI} {J : MJ} {P : MP} (hT : P 20 0 = some 58) (hN : I 58 1 = nI N) (hN16 : N ≤ 16) {c m : Int32} {Q : MI → MJ → MP → Prop} (hQ : Q (setRow I 24 (aab (I 22) N 4 c m (I 24))) J P) : Sp yX5_addAbove cX5_addAbove 5 none (d + 1) [.ref 20, .int c, .int m] I J P (Qv Q) := by
  intro Γ h
  show VG Γ 0 0 0 [some (.ref 20), some (.int c), some (.int m), none, none] [] _ _ _ _
  refine g_iload_1 h dX5_addAbove_0 ?_
  refine g_istore_3 h dX5_addAbove_1 (by decide) rfl ?_
  refine g_iconst h dX5_addAbove_2 (v := nI 0) rfl ?_
  refine g_istore_4 h dX5_addAbove_3 (by decide) rfl ?_
  exact lp_X5_addAbove_20d hT hN16 h 4 0 _ _ hN rfl hQ
set_option maxRecDepth 100000 in
set_option maxHeartbeats 4000000 in
theorem sp_X5_tieInto_20d {d N c : Nat} {I : MI} {J : MJ} {P : MP} (hT : P 20 0 = some 58) (hN : I 58 1 = nI N) (hN16 : N ≤ 16) (hc : c < 16) {x : Int32} {Q : MI → MJ → MP → Prop} (hQ : Q (setRow (setRow I 23 (upd (I 23) c x)) 24 (aab (I 22) N 4 (nI c) (x - I 23 c) (I 24))) J P) : Sp yX5_tieInto cX5_tieInto 4 none (d + 2) [.ref 20, .int (nI c), .int x] I J P (Qv Q) := by
  intro Γ h
  show VG Γ 0 0 0 [some (.ref 20), some (.int (nI c)), some (.int x), none] [] _ _ _ _
  refine g_iload_2 h dX5_tieInto_0 ?_
  refine g_aload_0 h dX5_tieInto_1 ?_
  refine g_getC h fl_X5_28 dX5_tieInto_2 rfl rfl ?_
  refine g_iload_1 h dX5_tieInto_5 ?_
  refine g_iald h c dX5_tieInto_6 rfl rfl (by omega) ?_
  refine g_isub h dX5_tieInto_7 ?_
  refine g_istore_3 h dX5_tieInto_8 (by decide) rfl ?_
  refine g_aload_0 h dX5_tieInto_9 ?_
  refine g_getC h fl_X5_28 dX5_tieInto_10 rfl rfl ?_
  refine g_iload_1 h dX5_tieInto_13 ?_
  refine g_iload_2 h dX5_tieInto_14 ?_
  refine g_iast h c dX5_tieInto_15 rfl rfl (by omega) ?_
  refine g_aload_0 h dX5_tieInto_16 ?_
  refine g_iload_1 h dX5_tieInto_17 ?_
  refine g_iload_3 h dX5_tieInto_18 ?_
  refine g_cVv2 h rok0 mi_X5_addAbove dX5_tieInto_19 ml_X5_69 rfl rfl rfl (Nat.le_of_ble_eq_true rfl) (Nat.le_of_ble_eq_true rfl) (sp_X5_addAbove_20d (by assumption) (by simpa [up2] using hN) hN16 ?_)
  simp only [up2_row, setRow_o (show 22 ≠ 23 by decide), setRow_o (show 24 ≠ 23 by decide)]
  refine g_vret h dX5_tieInto_22 ?_
  exact hQ
