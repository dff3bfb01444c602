/-! What the tokens are, for both parsers; the reference's teach -/
theorem tkR_28 {T : Nat → Nat} {L p : Nat} (h1 : (tkR T L p).1 = 28) : p < L ∧ wdE T L 2000 p - p ≤ 10 ∧ (tkR T L p).2.1 = wdE T L 2000 p ∧ (tkR T L p).2.2 = cdW T (wdE T L 2000 p - p) p 0 := by
  unfold tkR at h1 ⊢
  by_cases c1 : ¬ p < L
  · rw [if_pos c1] at h1
    exact absurd (show (45 : Nat) = 28 from h1) (by decide)
  rw [if_neg c1] at h1 ⊢
  by_cases c2 : ltB T L p = true
  · rw [if_pos c2] at h1 ⊢
    have h1 : (if 10 < wdE T L 2000 p - p then 46 else kwI (cdW T (wdE T L 2000 p - p) p 0) 28 0) = 28 := h1
    by_cases c3 : 10 < wdE T L 2000 p - p
    · rw [if_pos c3] at h1
      exact absurd h1 (by decide)
    · exact ⟨Classical.not_not.mp c1, by omega, rfl, rfl⟩
  rw [if_neg c2] at h1
  by_cases c3 : dgB T L p = true
  · rw [if_pos c3] at h1
    have h1 : (if 6 < nuE T L 2000 p - p then 46 else 29) = 28 := h1
    split at h1 <;> exact absurd h1 (by decide)
  rw [if_neg c3] at h1
  by_cases c4 : (T p = 60 ∨ T p = 62) ∧ p + 1 < L ∧ T (p + 1) = 61
  · rw [if_pos c4] at h1
    have h1 : (if T p = 60 then 43 else 44) = 28 := h1
    split at h1 <;> exact absurd h1 (by decide)
  rw [if_neg c4] at h1
  have h1 : symK (T p) = 28 := h1
  have := symK_lt (T p)
  omega
theorem tkR_29 {T : Nat → Nat} {L p : Nat} (h1 : (tkR T L p).1 = 29) : nuE T L 2000 p - p ≤ 6 ∧ (tkR T L p).2.2 = cdN T (nuE T L 2000 p - p) p 0 := by
  unfold tkR at h1 ⊢
  by_cases c1 : ¬ p < L
  · rw [if_pos c1] at h1
    exact absurd (show (45 : Nat) = 29 from h1) (by decide)
  rw [if_neg c1] at h1 ⊢
  by_cases c2 : ltB T L p = true
  · rw [if_pos c2] at h1
    have h1 : (if 10 < wdE T L 2000 p - p then 46 else kwI (cdW T (wdE T L 2000 p - p) p 0) 28 0) = 29 := h1
    have := kwI_lt (cdW T (wdE T L 2000 p - p) p 0) 28 0 rfl
    split at h1 <;> omega
  rw [if_neg c2] at h1 ⊢
  by_cases c3 : dgB T L p = true
  · rw [if_pos c3] at h1 ⊢
    have h1 : (if 6 < nuE T L 2000 p - p then 46 else 29) = 29 := h1
    by_cases c4 : 6 < nuE T L 2000 p - p
    · rw [if_pos c4] at h1
      exact absurd h1 (by decide)
    · exact ⟨by omega, rfl⟩
  rw [if_neg c3] at h1
  by_cases c4 : (T p = 60 ∨ T p = 62) ∧ p + 1 < L ∧ T (p + 1) = 61
  · rw [if_pos c4] at h1
    have h1 : (if T p = 60 then 43 else 44) = 29 := h1
    split at h1 <;> exact absurd h1 (by decide)
  rw [if_neg c4] at h1
  have h1 : symK (T p) = 29 := h1
  have := symK_lt (T p)
  omega
theorem tK_R {T : Nat → Nat} {L t k : Nat} (hk : tK T L t = k) (h : k < 45) : (tkR T L (tB T L t)).1 = k := by
  unfold tK at hk
  split at hk
  · omega
  · exact hk
theorem tC_28 {T : Nat → Nat} {L t : Nat} (hk : tK T L t = 28) : tC T L t < 2 ^ 63 := by
  obtain ⟨a1, a2, a3, a4⟩ := tkR_28 (tK_R hk (by decide))
  have h : cdW T (wdE T L 2000 (tB T L t) - tB T L t) (tB T L t) 0 < 37 ^ (wdE T L 2000 (tB T L t) - tB T L t) := cdW_lt T _ _ (fun j hj => by
    have := wd_run (T := T) (L := L) 2000 (tB T L t) (tB T L t + j) (by omega) (by omega)
    unfold sgN
    rcases Bool.or_eq_true_iff.mp this with q | q
    · have := ltB_lt q
      split <;> omega
    · have := dgB_lt q
      split <;> omega)
  show (tkR T L (tB T L t)).2.2 < _
  rw [a4]
  have h2 : 37 ^ (wdE T L 2000 (tB T L t) - tB T L t) ≤ 37 ^ 10 := Nat.pow_le_pow_right (by decide) a2
  omega
theorem tC_29 {T : Nat → Nat} {L t : Nat} (hk : tK T L t = 29) : tC T L t ≤ 999999 := by
  obtain ⟨a2, a4⟩ := tkR_29 (tK_R hk (by decide))
  have h : cdN T (nuE T L 2000 (tB T L t) - tB T L t) (tB T L t) 0 < 10 ^ (nuE T L 2000 (tB T L t) - tB T L t) := cdN_lt _ _ (fun j hj => by
    have := dgB_lt (nu_run (T := T) (L := L) 2000 (tB T L t) (tB T L t + j) (by omega) (by omega))
    omega)
  show (tkR T L (tB T L t)).2.2 ≤ _
  rw [a4]
  have h2 : 10 ^ (nuE T L 2000 (tB T L t) - tB T L t) ≤ 10 ^ 6 := Nat.pow_le_pow_right (by decide) a2
  omega
def tV (T : Nat → Nat) (L : Nat) : Nat → Int32 := fun t => nI (tC T L t)
theorem tV_O {T : Nat → Nat} {L M : Nat} : vO (tK T L) (tV T L) M := fun t _ hk => ⟨_, tC_29 hk, rfl⟩
theorem tV_R {T : Nat → Nat} {L M : Nat} : vR (tK T L) (tV T L) M := fun t _ hk => by
  have h := tC_29 hk
  have a : nI 0 ≤ nI (tC T L t) := nI_le (Nat.zero_le _) (by omega)
  have b : nI (tC T L t) ≤ nI 999999 := nI_le h (by decide)
  show (decide (nI 0 ≤ nI (tC T L t)) && decide (nI (tC T L t) ≤ 999999)) = true
  rw [decide_eq_true a, decide_eq_true (show nI (tC T L t) ≤ 999999 from b)]
  rfl
theorem rs_mk {T : Nat → Nat} {L : Nat} {I : MI} (hT : rtO T L I) (h : ∀ n, n ≤ tM T L → rtA T L I n) : rsO (tK T L) (tV T L) (tC T L) (tM T L) I := by
  refine ⟨tM_ok.2.1, tM_ok.1, fun t ht => ?_, T, L, tB T L, (fun t => (tkR T L (tB T L t)).2.1 - tB T L t), hT, fun t ht hk => ?_⟩
  · obtain ⟨h1, h2, h3, h4⟩ := h t ht
    exact ⟨tK_lt t, h1, h3.1, h3.2.1, h3.2.2⟩
  · obtain ⟨h1, h2, h3, h4⟩ := h t ht
    obtain ⟨a1, a2, a3, a4⟩ := tkR_28 (tK_R hk (by decide))
    have b := tkR_B (T := T) (tB_B (T := T) (L := L) t)
    refine ⟨h2, h4 (by omega), by show tB T L t + ((tkR T L (tB T L t)).2.1 - tB T L t) ≤ L; omega, fun j hj => ?_, ?_⟩
    · have hj : j < (tkR T L (tB T L t)).2.1 - tB T L t := hj
      rw [a3] at hj
      have := wd_run (T := T) (L := L) 2000 (tB T L t) (tB T L t + j) (by omega) (by omega)
      rcases Bool.or_eq_true_iff.mp this with q | q
      · exact Or.inr (ltB_lt q).2
      · exact Or.inl (dgB_lt q).2
    · show (tkR T L (tB T L t)).2.2 = cdW T ((tkR T L (tB T L t)).2.1 - tB T L t) (tB T L t) 0
      rw [a4, a3]
theorem lN_I (n : Nat) : (lN n).toInt32 = nI n := by
  unfold lN nI
  simp
theorem ps_mk {T : Nat → Nat} {L : Nat} {I : MI} {J : MJ} (h : ∀ n, n ≤ tM T L → tkAt T L I J n) (hs : I 3 4 = nI (tM T L + 1)) : psO (tK T L) (tV T L) (tM T L) I J ∧ wdO (tK T L) (tC T L) (tM T L) J := by
  refine ⟨⟨fun t ht => ⟨(h t ht).1, by have := tK_lt (T := T) (L := L) t; omega⟩, fun t ht _ => by rw [(h t ht).2.2]; exact lN_I _, hs, tM_ok.2.1, tM_ok.1⟩, fun t ht hk => ⟨(h t ht).2.2, tC_28 hk⟩⟩
/-- no table yet -/
def T00 : MI := fun _ _ => nI 0
theorem ixz : ix (nI 0) = 0 := ix_n (by decide)
theorem nO_ct {T' : MI} {n : Nat} (h : n < 2 ^ 31) : nO (ctT T' 4 n) = n := by
  unfold nO ctT
  rw [setRow_s, upd_s, ix_n h]
theorem nO_ls {K : Nat → Nat} {V : Nat → Int32} {wd : Nat → Nat} {ca : Nat → Int32} {T : MI} {p : Nat} (h : ¬ (K p = 0 ∨ K p = 2 ∨ K p = 7 ∨ K p = 9)) (h20 : ¬ nO T = 20) (hl : nO T ≤ 20) : nO (lsT K V wd ca T p) = nO T + 1 := by
  unfold lsT
  rw [if_neg (by omega), if_neg (by omega), if_neg (by omega), if_neg (by omega), if_neg h20]
  exact nO_ct (by omega)
theorem nO_le {K : Nat → Nat} {V : Nat → Int32} {wd : Nat → Nat} {ca : Nat → Int32} {T : MI} {p : Nat} (h20 : nO T ≤ 20) : nO T ≤ nO (lsT K V wd ca T p) := by
  have ct : ∀ (T' : MI) (i n : Nat), i ≠ 4 → T' 0 4 = T 0 4 → nO (ctT T' i n) = nO T := fun T' i n hi e => by
    show ix (upd (T' 0) i (nI n) 4) = ix (T 0 4)
    rw [upd_n (by omega), e]
  unfold lsT
  by_cases e0 : K p = 0
  · rw [if_pos e0]
    by_cases c : nC T = 6
    · rw [if_pos c]; exact Nat.le_refl _
    · rw [if_neg c, ct _ 0 _ (by decide) (by simp [setRow])]; exact Nat.le_refl _
  rw [if_neg e0]
  by_cases e2 : K p = 2
  · rw [if_pos e2]
    by_cases c : nN T = 16
    · rw [if_pos c]; exact Nat.le_refl _
    · rw [if_neg c, ct _ 1 _ (by decide) (by simp [setRow])]; exact Nat.le_refl _
  rw [if_neg e2]
  by_cases e7 : K p = 7
  · rw [if_pos e7]
    by_cases c : nT T = 6
    · rw [if_pos c]; exact Nat.le_refl _
    · rw [if_neg c, ct _ 2 _ (by decide) (by simp [setRow])]; exact Nat.le_refl _
  rw [if_neg e7]
  by_cases e9 : K p = 9
  · rw [if_pos e9]
    by_cases c : nK T = 5
    · rw [if_pos c]; exact Nat.le_refl _
    · rw [if_neg c, ct _ 3 _ (by decide) (by simp [setRow])]; exact Nat.le_refl _
  rw [if_neg e9]
  by_cases c : nO T = 20
  · rw [if_pos c]; exact Nat.le_refl _
  · rw [if_neg c, nO_ct (by omega)]
    omega
/-- what the orders' nodes denote -/
def lcO (K : Nat → Nat) (V : Nat → Int32) (wd : Nat → Nat) (ca : Nat → Int32) (z : Nat) (I : MI) : Nat → MI → Nat → Prop
  | 0, _, _ => True
  | f + 1, T, p => if K p = 45 then True else ((K p = 11 ∨ K p = 14) → clO K V (mT K wd T) (nO T) p z I) ∧ lcO K V wd ca z I f (lsT K V wd ca T p) (pL K p).2
theorem FRo.ls {K : Nat → Nat} {V : Nat → Int32} {wd : Nat → Nat} {ca : Nat → Int32} {T I I' : MI} {p z : Nat} (h20 : nO T ≤ 20) (h : FRo (lsT K V wd ca T p) z I I') : FRo T z I I' := ⟨fun j hj => h.1 j (by have := nO_le (K := K) (V := V) (wd := wd) (ca := ca) (p := p) h20; omega), h.2⟩
set_option maxRecDepth 100000 in
set_option maxHeartbeats 4000000 in
theorem sp_X11_empty {d : Nat} {I : MI} {J : MJ} {P : MP} {Q : MI → MJ → MP → Prop} (hQ : ∀ I', (∀ a, a ≠ 104 → I' a = I a) → (∀ j, j < 5 → I' 104 j = nI 0) → I' 104 12 = nI 0 → Q I' J P) : Sp yX11_empty cX11_empty 1 none (d) [.ref 104] I J P (Qv Q) := by
  intro Γ h
  show VG Γ 0 0 0 [some (.ref 104)] [] _ _ _ _
  refine g_aload_0 h dX11_empty_0 ?_
  refine g_iconst h dX11_empty_1 (v := nI 0) rfl ?_
  refine g_putI h fp_X11_42 dX11_empty_2 rfl rfl ?_
  refine g_aload_0 h dX11_empty_5 ?_
  refine g_iconst h dX11_empty_6 (v := nI 0) rfl ?_
  refine g_putI h fp_X11_46 dX11_empty_7 rfl rfl ?_
  refine g_aload_0 h dX11_empty_10 ?_
  refine g_iconst h dX11_empty_11 (v := nI 0) rfl ?_
  refine g_putI h fp_X11_49 dX11_empty_12 rfl rfl ?_
  refine g_aload_0 h dX11_empty_15 ?_
  refine g_iconst h dX11_empty_16 (v := nI 0) rfl ?_
  refine g_putI h fp_X11_52 dX11_empty_17 rfl rfl ?_
  refine g_aload_0 h dX11_empty_20 ?_
  refine g_iconst h dX11_empty_21 (v := nI 0) rfl ?_
  refine g_putI h fp_X11_55 dX11_empty_22 rfl rfl ?_
  refine g_aload_0 h dX11_empty_25 ?_
  refine g_iconst h dX11_empty_26 (v := nI 0) rfl ?_
  refine g_putI h fp_X11_58 dX11_empty_27 rfl rfl ?_
  refine g_vret h dX11_empty_30 ?_
  refine hQ _ (fun a ha => ?_) (fun j hj => ?_) (by simp [up2])
  · simp only [up2_row, setRow_2]
    exact setRow_o ha
  · rcases (show j = 0 ∨ j = 1 ∨ j = 2 ∨ j = 3 ∨ j = 4 by omega) with rfl | rfl | rfl | rfl | rfl <;> simp [up2]
set_option maxRecDepth 100000 in
set_option maxHeartbeats 4000000 in
theorem lp_change1 {Γ : Cx} {d : Nat} {J : MJ} {P : MP} {Φ : State → Prop} (h : Vc RX12 cX12_change 3 none (d) Γ) : ∀ (f k : Nat) (I : MI), k + f = 35 → (∀ I', (∀ a, a ≠ 91 → I' a = I a) → (∀ j, I' 91 j = if k ≤ j ∧ j < 35 then nI 0 else I 91 j) → VG Γ 0 0 39 [some (.ref 80), some (.ref 93), some (.int (nI 35))] [] I' J P Φ) → VG Γ 0 0 20 [some (.ref 80), some (.ref 93), some (.int (nI k))] [] I J P Φ := by
  intro f
  induction f with
  | zero =>
    intro k I hk κ
    obtain rfl : k = 35 := by omega
    refine g_iload_2 h dX12_change_20 ?_
    refine g_bipush h dX12_change_21 (v := nI 35) rfl ?_
    refine g_icmp_ge h 39 dX12_change_23 rfl (fun _ => ?_) (fun c => absurd (Int32.le_refl _) c)
    exact κ I (fun _ _ => rfl) (fun j => by rw [if_neg (by omega)])
  | succ f ih =>
    intro k I hk κ
    refine g_iload_2 h dX12_change_20 ?_
    refine g_bipush h dX12_change_21 (v := nI 35) rfl ?_
    refine g_icmp_ge h 39 dX12_change_23 rfl (fun c => absurd (leN c (by omega) (by omega)) (by omega)) (fun _ => ?_)
    refine g_aload_0 h dX12_change_26 ?_
    refine g_getC h fl_X12_109 dX12_change_27 rfl rfl ?_
    refine g_iload_2 h dX12_change_30 ?_
    refine g_iconst h dX12_change_31 (v := nI 0) rfl ?_
    refine g_iast h k dX12_change_32 rfl rfl (by omega) ?_
    refine g_iinc_2 h dX12_change_33 (inc1 _) (by decide) rfl ?_
    refine g_goto h 20 dX12_change_36 rfl ?_
    refine ih (k + 1) _ (by omega) (fun I' o r => κ I' (fun a ha => (o a ha).trans (up2_o ha)) (fun j => ?_))
    rw [r j]
    by_cases e : j = k
    · subst e
      rw [if_neg (by omega), up2_s, if_pos (by omega)]
    · rw [up2_n e]
      by_cases e2 : k ≤ j ∧ j < 35
      · rw [if_pos e2, if_pos (by omega)]
      · rw [if_neg e2, if_neg (by omega)]
set_option maxRecDepth 100000 in
set_option maxHeartbeats 4000000 in
theorem lp_change2 {Γ : Cx} {d N : Nat} {J : MJ} {P : MP} {Q : MI → MJ → MP → Prop} (hN16 : N ≤ 16) (hB : P 80 8 = some 104) (h : Vc RX12 cX12_change 3 none (d) Γ) : ∀ (f k : Nat) (I : MI), I 104 1 = nI N → k + f = N → (∀ I', (∀ a, a ≠ 91 → I' a = I a) → (∀ j, I' 91 j = if 3 + k ≤ j ∧ j < 3 + N then I 108 (j - 3) else I 91 j) → Q I' J P) → VG Γ 0 0 41 [some (.ref 80), some (.ref 93), some (.int (nI k))] [] I J P (Fnl Γ (Qv Q)) := by
  intro f
  induction f with
  | zero =>
    intro k I hN hk κ
    obtain rfl : k = N := by omega
    refine g_iload_2 h dX12_change_41 ?_
    refine g_aload_0 h dX12_change_42 ?_
    refine g_getP h fl_X12_87 dX12_change_43 rfl rfl (by assumption) ?_
    refine g_getI h fl_X12_161 dX12_change_46 rfl rfl ?_
    refine g_icmp_ge h 75 dX12_change_49 rfl (fun _ => ?_) (fun c => absurd (by rw [hN]; exact Int32.le_refl _) c)
    refine g_vret h dX12_change_75 ?_
    exact κ I (fun _ _ => rfl) (fun j => by rw [if_neg (by omega)])
  | succ f ih =>
    intro k I hN hk κ
    refine g_iload_2 h dX12_change_41 ?_
    refine g_aload_0 h dX12_change_42 ?_
    refine g_getP h fl_X12_87 dX12_change_43 rfl rfl (by assumption) ?_
    refine g_getI h fl_X12_161 dX12_change_46 rfl rfl ?_
    refine g_icmp_ge h 75 dX12_change_49 rfl (fun c => absurd (leN (by rw [hN] at c; exact c) (by omega) (by omega)) (by omega)) (fun _ => ?_)
    refine g_aload_0 h dX12_change_52 ?_
    refine g_getC h fl_X12_109 dX12_change_53 rfl rfl ?_
    refine g_iconst h dX12_change_56 (v := nI 3) rfl ?_
    refine g_iload_2 h dX12_change_57 ?_
    refine g_iadd h dX12_change_58 ?_
    refine g_aload_0 h dX12_change_59 ?_
    refine g_getP h fl_X12_87 dX12_change_60 rfl rfl (by assumption) ?_
    refine g_getC h fl_X12_251 dX12_change_63 rfl rfl ?_
    refine g_iload_2 h dX12_change_66 ?_
    refine g_iald h k dX12_change_67 rfl rfl (by omega) ?_
    refine g_iast h (3 + k) dX12_change_68 rfl (nI_add 3 k) (by omega) ?_
    refine g_iinc_2 h dX12_change_69 (inc1 _) (by decide) rfl ?_
    refine g_goto h 41 dX12_change_72 rfl ?_
    refine ih (k + 1) _ (by rw [up2_o (by decide)]; exact hN) (by omega) (fun I' o r => κ I' (fun a ha => (o a ha).trans (up2_o ha)) (fun j => ?_))
    rw [r j, up2_o (show (108 : Nat) ≠ 91 by decide)]
    by_cases e : j = 3 + k
    · subst e
      rw [if_neg (by omega), up2_s, if_pos (by omega), show 3 + k - 3 = k by omega]
    · rw [up2_n e]
      by_cases e2 : 3 + k ≤ j ∧ j < 3 + N
      · rw [if_pos e2, if_pos (by omega)]
      · rw [if_neg e2, if_neg (by omega)]
set_option maxRecDepth 100000 in
set_option maxHeartbeats 4000000 in
theorem sp_X12_change {d N : Nat} {I : MI} {J : MJ} {P : MP} (hB : P 80 8 = some 93) (hN2 : P 80 9 = some 104) (hN16 : N ≤ 16) (hN : I 104 1 = nI N) {Q : MI → MJ → MP → Prop} (hQ : ∀ I', (∀ a, a ≠ 91 → I' a = I a) → I' 91 0 = I 91 0 → (∀ j, 1 ≤ j → j < 35 → I' 91 j = if 3 ≤ j ∧ j < 3 + N then I 108 (j - 3) else nI 0) → Q I' J (up2 (up2 P 80 8 (some 104)) 80 9 (some 93))) : Sp yX12_change cX12_change 3 none (d) [.ref 80] I J P (Qv Q) := by
  intro Γ h
  show VG Γ 0 0 0 [some (.ref 80), none, none] [] _ _ _ _
  refine g_aload_0 h dX12_change_0 ?_
  refine g_getP h fl_X12_87 dX12_change_1 rfl rfl hB ?_
  refine g_astore_1 h dX12_change_4 (by decide) rfl ?_
  refine g_aload_0 h dX12_change_5 ?_
  refine g_aload_0 h dX12_change_6 ?_
  refine g_getP h fl_X12_91 dX12_change_7 rfl rfl hN2 ?_
  refine g_putP h fp_X12_87 dX12_change_10 rfl rfl ?_
  refine g_aload_0 h dX12_change_13 ?_
  refine g_aload_1 h dX12_change_14 ?_
  refine g_putP h fp_X12_91 dX12_change_15 rfl rfl ?_
  refine g_iconst h dX12_change_18 (v := nI 1) rfl ?_
  refine g_istore_2 h dX12_change_19 (by decide) rfl ?_
  refine lp_change1 h 34 1 I (by decide) (fun I1 o1 r1 => ?_)
  refine g_iconst h dX12_change_39 (v := nI 0) rfl ?_
  refine g_istore_2 h dX12_change_40 (by decide) rfl ?_
  refine lp_change2 hN16 (by simp [up2]) h N 0 I1 (by rw [o1 104 (by decide)]; exact hN) (by omega) (fun I2 o2 r2 => hQ I2 (fun a ha => (o2 a ha).trans (o1 a ha)) ?_ (fun j j1 j2 => ?_))
  · rw [r2 0, if_neg (by omega), r1 0, if_neg (by omega)]
  · rw [r2 j, o1 108 (by decide)]
    by_cases e : 3 ≤ j ∧ j < 3 + N
    · rw [if_pos (by omega), if_pos e]
    · rw [if_neg (by omega), if_neg e, r1 j, if_pos (by omega)]
set_option maxRecDepth 100000 in
set_option maxHeartbeats 4000000 in
theorem lp_rteach {Γ : Cx} {K wd : Nat → Nat} {V ca : Nat → Int32} {M : Nat} {D : Nat} {I0 : MI} {J : MJ} {P : MP} {Φ : State → Prop} (hV : vR K V M) (hKM : ∀ t, t < M → K t < 45) (hP : P 80 9 = some 104) (h : Vc RX12 cX12_teach 3 (some .int) (D + 4 * 8 + 18) Γ) : ∀ (f p z : Nat) (T I : MI) (x : Option (Nat × Nat)), M ≤ p + f → rL K wd V M T I p z x → FRl I0 I → ((prG K f p).1 = true → ∀ I' z', FRl I0 I' → rL K wd V M (smT K V wd ca f T p) I' M z' (x.or (smE K V wd ca f T p)) → z ≤ z' → (x.or (smE K V wd ca f T p) = none → FRo T z I I' ∧ lcO K V wd ca z' I' f T p) → VG Γ 0 0 62 [some (.ref 80), none, none] [] I' J P Φ) → ((prG K f p).1 = false → ∀ I', FRl I0 I' → I' 80 16 = nI (prG K f p).2 → (prG K f p).2 ≤ M → VG Γ 0 0 62 [some (.ref 80), none, none] [] I' J P Φ) → VG Γ 0 0 36 [some (.ref 80), none, none] [] I J P Φ := by
  have bad : ∀ (p z : Nat) (T I : MI) (x : Option (Nat × Nat)), rL K wd V M T I p z x → FRl I0 I → K p = 45 → VG Γ 0 0 62 [some (.ref 80), none, none] [] I J P Φ → VG Γ 0 0 36 [some (.ref 80), none, none] [] I J P Φ := by
    intro p z T I x hR hF e45 κ
    have hM := hR.1.M4
    refine g_aload_0 h dX12_teach_36 ?_
    refine g_cVi0 h rok0 mi_X12_isOk dX12_teach_37 ml_X12_121 rfl rfl rfl (Nat.le_of_ble_eq_true rfl) (Nat.le_of_ble_eq_true rfl) (sp_isOk_al hR.1.2.1 ?_)
    refine g_if_eq h 62 dX12_teach_40 rfl (fun c => absurd c (by decide)) (fun _ => ?_)
    refine g_aload_0 h dX12_teach_43 ?_
    refine g_getC h fl_X12_36 dX12_teach_44 rfl rfl ?_
    refine g_aload_0 h dX12_teach_47 ?_
    refine g_getI h fl_X12_118 dX12_teach_48 rfl rfl ?_
    refine g_iald h p dX12_teach_51 rfl hR.1.2.1.1 (by omega) ?_
    rw [(hR.1.1.2.2.1 p hM.2.2.1).2.1, e45]
    refine g_if_eq h 62 dX12_teach_52 rfl (fun _ => ?_) (fun c => absurd rfl c)
    exact κ
  have go : ∀ (p z : Nat) (T I : MI) (x : Option (Nat × Nat)), rL K wd V M T I p z x → FRl I0 I → ¬ K p = 45 → ((pL K p).1 = true → ∀ I' z', rL K wd V M (lsT K V wd ca T p) I' (pL K p).2 z' (x.or (lerr K V wd T p)) → FRl I I' → FRo T z I I' → z ≤ z' → p < (pL K p).2 → (x.or (lerr K V wd T p) = none → clO K V (mT K wd T) (nO T) p z' I') → VG Γ 0 0 36 [some (.ref 80), none, none] [] I' J P Φ) → ((pL K p).1 = false → ∀ I', rD M (pL K p).2 I I' → VG Γ 0 0 36 [some (.ref 80), none, none] [] I' J P Φ) → VG Γ 0 0 36 [some (.ref 80), none, none] [] I J P Φ := by
    intro p z T I x hR hF e45 κ1 κ0
    have hM := hR.1.M4
    have k47 := (hR.1.1.2.2.1 p hM.2.2.1).1
    have s0 : ¬ srt (K p) = 0 := fun q => e45 ((srt0 _ k47).1.mp q)
    have s6 := srt_lt (K p)
    refine g_aload_0 h dX12_teach_36 ?_
    refine g_cVi0 h rok0 mi_X12_isOk dX12_teach_37 ml_X12_121 rfl rfl rfl (Nat.le_of_ble_eq_true rfl) (Nat.le_of_ble_eq_true rfl) (sp_isOk_al hR.1.2.1 ?_)
    refine g_if_eq h 62 dX12_teach_40 rfl (fun c => absurd c (by decide)) (fun _ => ?_)
    refine g_aload_0 h dX12_teach_43 ?_
    refine g_getC h fl_X12_36 dX12_teach_44 rfl rfl ?_
    refine g_aload_0 h dX12_teach_47 ?_
    refine g_getI h fl_X12_118 dX12_teach_48 rfl rfl ?_
    refine g_iald h p dX12_teach_51 rfl hR.1.2.1.1 (by omega) ?_
    rw [(hR.1.1.2.2.1 p hM.2.2.1).2.1]
    refine g_if_eq h 62 dX12_teach_52 rfl (fun c => absurd (eqN (b := 0) c (by omega) (by decide)) s0) (fun _ => ?_)
    refine g_aload_0 h dX12_teach_55 ?_
    refine g_cVv0 h rok0 mi_X12_line dX12_teach_56 ml_X12_278 rfl rfl rfl (Nat.le_of_ble_eq_true rfl) (Nat.le_of_ble_eq_true rfl) (sp_X12_line (ca := ca) hV hP hR (fun a I1 z1 r1 l1 o1 y1 y2 c1 => ?_) (fun a I1 b1 => ?_))
    · refine g_goto h 36 dX12_teach_59 rfl ?_
      exact κ1 a I1 z1 r1 l1 o1 y1 y2 c1
    · refine g_goto h 36 dX12_teach_59 rfl ?_
      exact κ0 a I1 b1
  have dead : ∀ (e : Nat) (I : MI), e ≤ M → M ≤ 400 → I 80 16 = nI e → VG Γ 0 0 62 [some (.ref 80), none, none] [] I J P Φ → VG Γ 0 0 36 [some (.ref 80), none, none] [] I J P Φ := by
    intro e I he hM4 hd κ
    refine g_aload_0 h dX12_teach_36 ?_
    refine g_cVi0 h rok0 mi_X12_isOk dX12_teach_37 ml_X12_121 rfl rfl rfl (Nat.le_of_ble_eq_true rfl) (Nat.le_of_ble_eq_true rfl) (sp_isOk_dd (f := e) (by omega) hd ?_)
    refine g_if_eq h 62 dX12_teach_40 rfl (fun _ => ?_) (fun c => absurd rfl c)
    exact κ
  have stop : ∀ p, p ≤ M → K p = 45 → p = M := fun p a b => by
    rcases Nat.lt_or_ge p M with q | q
    · have := hKM p q; omega
    · omega
  intro f
  induction f with
  | zero =>
    intro p z T I x hf hR hF κ1 κ0
    have hM := hR.1.M4
    obtain rfl : p = M := by omega
    by_cases e45 : K p = 45
    · refine bad p z T I x hR hF e45 (κ1 (by rw [prG]; exact decide_eq_true e45) I z hF ?_ (Nat.le_refl _) (fun _ => ⟨⟨fun _ _ => rfl, nvR.rf⟩, trivial⟩))
      rw [smE, smT, Option.or_none]
      exact hR
    · have k47 := (hR.1.1.2.2.1 p hM.2.2.1).1
      have ep : pL K p = (false, p) := by
        rw [pL, if_neg (by omega), if_neg (by omega), if_neg (by omega), if_neg (by omega), if_neg (by omega), if_neg (by omega)]
      refine go p z T I x hR hF e45 (fun a => by rw [ep] at a; exact Bool.noConfusion a) (fun a I1 b1 => ?_)
      rw [ep] at b1
      exact dead p I1 (Nat.le_refl _) hM.1 b1.2.1 (κ0 (by rw [prG]; exact decide_eq_false e45) I1 (hF.tr b1.1) (by rw [prG]; exact b1.2.1) (by rw [prG]; exact Nat.le_refl _))
  | succ f ih =>
    intro p z T I x hf hR hF κ1 κ0
    have hM := hR.1.M4
    rw [prG, smE, smT] at κ1
    rw [prG] at κ0
    by_cases e45 : K p = 45
    · obtain rfl := stop p hM.2.2.1 e45
      rw [if_pos e45, if_pos e45, if_pos e45] at κ1
      refine bad p z T I x hR hF e45 (κ1 rfl I z hF (by rw [Option.or_none]; exact hR) (Nat.le_refl _) (fun _ => ⟨⟨fun _ _ => rfl, nvR.rf⟩, by rw [lcO, if_pos e45]; trivial⟩))
    · rw [if_neg e45, if_neg e45, if_neg e45] at κ1
      rw [if_neg e45] at κ0
      refine go p z T I x hR hF e45 (fun a I1 z1 r1 l1 o1 y1 y2 c1 => ?_) (fun a I1 b1 => ?_)
      · rw [if_pos a] at κ1 κ0
        have h20 : nO T ≤ 20 := hR.2.1.1.2.2.2.2.2
        refine ih _ z1 _ I1 _ (by omega) r1 (hF.tr l1) (fun b I2 z2 l2 r2 y3 c2 => κ1 b I2 z2 l2 (by rw [← Option.or_assoc]; exact r2) (by omega) (fun hn => ?_)) κ0
        rw [← Option.or_assoc] at hn
        obtain ⟨o2, c3⟩ := c2 hn
        have o3 := o2.ls h20
        have n1 : x.or (lerr K V wd T p) = none := (Option.or_eq_none_iff.mp hn).1
        refine ⟨o1.tr o3 y1, ?_⟩
        rw [lcO, if_neg e45]
        refine ⟨fun hk => ?_, c3⟩
        have n20 : ¬ nO T = 20 := by
          intro q
          have e := (Option.or_eq_none_iff.mp n1).2
          rw [lerr, if_neg (by omega), if_neg (by omega), if_neg (by omega), if_neg (by omega), er, if_pos (by simp [q])] at e
          cases e
        have e1 : nO (lsT K V wd ca T p) = nO T + 1 := by
          exact nO_ls (by omega) n20 h20
        exact (c1 n1).fr (fun j hj => o2.1 j (by omega)) o2.2 y3
      · rw [a, if_neg (by decide)] at κ0
        exact dead _ I1 b1.2.2 hM.1 b1.2.1 (κ0 rfl I1 (hF.tr b1.1) b1.2.1 b1.2.2)
