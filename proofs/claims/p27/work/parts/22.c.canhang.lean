/-! The law: whether a cord can hang there -/
theorem wth_dep {u : Nat → Int32} {N a : Nat} (hN : N ≤ 16) (hch : ∀ k, k < N → chn u N 4 (nI k)) : ∀ (f : Nat) (c : Int32), chn u N f c → wth u N (nI a) f c = true → dep u N 4 (nI a) ≤ dep u N 4 c
  | 0, c, _, h => by cases h
  | f + 1, c, hc, h => by
    rcases hc with rfl | ⟨j, j1, rfl, j3⟩
    · rw [wth_m1] at h
      cases h
    · rw [wth_j hN j1] at h
      by_cases e : nI j = nI a
      · rw [e]
        exact Nat.le_refl _
      · rw [if_neg e] at h
        have := wth_dep hN hch f (u j) j3 h
        rw [dep_j hN hch j1]
        omega
theorem max_n {a b : Nat} (ha : a < 2 ^ 31) (hb : b < 2 ^ 31) : (if nI a < nI b then nI b else nI a) = nI (max a b) := by
  by_cases h : a < b
  · rw [if_pos (nI_lt h hb), Nat.max_eq_right (by omega)]
  · rw [if_neg (nI_nlt (by omega) ha), Nat.max_eq_left (by omega)]
theorem rch_le {u : Nat → Int32} {N a D : Nat} (hc : clo u N) (hch : ∀ k, k < N → chn u N 4 (nI k)) (ha : a < N) (h : ∀ j, j < N → wth u N (nI a) 4 (nI j) = true → dep u N 4 (nI j) + 1 ≤ D + dep u N 4 (nI a)) : rch u N 4 a ≤ D := by
  have e := height_eq hc hch ha
  rw [hmx_M] at e
  have p := rch_pos (u := u) (N := N) (f := 4) (c := a) (by decide)
  have q := dep_j hc.1 hch ha
  rcases mxF_at (g := fun k => if wth u N (nI a) 4 (nI k) then dep u N 4 (nI k) else 0) N 0 0 with r | ⟨j, -, j2, j3⟩
  · rw [r] at e
    omega
  · rw [j3] at e
    by_cases w : wth u N (nI a) 4 (nI j) = true
    · rw [if_pos w] at e
      have := h j (by omega) w
      omega
    · rw [if_neg w] at e
      omega
set_option maxRecDepth 100000 in
set_option maxHeartbeats 4000000 in
theorem lp_cH1 {Γ : Cx} {T0 C0 d : Nat} {I : MI} {J : MJ} {P : MP} {Φ : State → Prop} (hW : LW I P T0 C0) (h : Vc RL cL_canHang 6 (some .boolean) (d + 9) Γ) {a : Nat} {y v3 v4 : Int32} : ∀ (f : Nat) (c : Int32), chn (I 22) 5 f c → (wth (I 22) 5 (nI a) f c = true → VG Γ 0 0 38 [some (.ref 0), some (.int (nI a)), some (.int y), some (.int (v3)), some (.int (v4)), some (.int (nI a))] [] I J P Φ) → (wth (I 22) 5 (nI a) f c = false → VG Γ 0 0 38 [some (.ref 0), some (.int (nI a)), some (.int y), some (.int (v3)), some (.int (v4)), some (.int (-1))] [] I J P Φ) → VG Γ 0 0 15 [some (.ref 0), some (.int (nI a)), some (.int y), some (.int (v3)), some (.int (v4)), some (.int c)] [] I J P Φ := by
  intro f
  induction f with
  | zero =>
    intro c hc K1 K0
    obtain rfl : c = -1 := hc
    refine g_iload_5 h dL_canHang_15 ?_
    refine g_if_lt h 38 dL_canHang_17 rfl (fun _ => ?_) (fun c => absurd (by decide) c)
    exact K0 rfl
  | succ f ih =>
    intro c hc K1 K0
    rcases hc with rfl | ⟨j, j1, rfl, j3⟩
    · refine g_iload_5 h dL_canHang_15 ?_
      refine g_if_lt h 38 dL_canHang_17 rfl (fun _ => ?_) (fun c => absurd (by decide) c)
      exact K0 wth_m1
    · rw [wth_j (by decide) j1] at K1 K0
      refine g_iload_5 h dL_canHang_15 ?_
      refine g_if_lt h 38 dL_canHang_17 rfl (fun c => absurd c (nI_pos (by omega))) (fun _ => ?_)
      refine g_iload_5 h dL_canHang_20 ?_
      refine g_iload_1 h dL_canHang_22 ?_
      refine g_icmp_eq h 38 dL_canHang_23 rfl (fun c => ?_) (fun c => ?_)
      · rw [if_pos c] at K1
        rw [c]
        exact K1 rfl
      · rw [if_neg c] at K1 K0
        refine g_aload_0 h dL_canHang_26 ?_
        refine g_iload_5 h dL_canHang_27 ?_
        refine g_iconst h dL_canHang_29 (v := nI 1) rfl ?_
        refine g_cVi2 h rok0 mi_X10_cord dL_canHang_30 ml_L_213 rfl rfl rfl (Nat.le_of_ble_eq_true rfl) (Nat.le_of_ble_eq_true rfl) (qc1 hW j1 ?_)
        refine g_istore_5 h dL_canHang_33 (by decide) rfl ?_
        refine g_goto h 15 dL_canHang_35 rfl ?_
        exact ih _ j3 K1 K0
set_option maxRecDepth 100000 in
set_option maxHeartbeats 4000000 in
theorem lp_cH2 {Γ : Cx} {T0 C0 d : Nat} {I : MI} {J : MJ} {P : MP} {Q : Int32 → MI → MJ → MP → Prop} (hW : LW I P T0 C0) (h : Vc RL cL_canHang 6 (some .boolean) (d + 9) Γ) {a : Nat} {y : Int32} (ha : a < 5) (hQ0 : Q (nI 0) I J P) (K : ∀ D v5, D ≤ 5 → (∀ j, j < 5 → wth (I 22) 5 (nI a) 4 (nI j) = true → ¬ nI j = y ∧ dep (I 22) 5 4 (nI j) + 1 ≤ D + dep (I 22) 5 4 (nI a)) → VG Γ 0 0 81 [some (.ref 0), some (.int (nI a)), some (.int y), some (.int (nI D)), some (.int (nI 5)), v5] [] I J P (Fnl Γ (Qi Q))) : ∀ (f k D : Nat) (v5 : Option Value), k + f = 5 → D ≤ 5 → (∀ j, j < k → wth (I 22) 5 (nI a) 4 (nI j) = true → ¬ nI j = y ∧ dep (I 22) 5 4 (nI j) + 1 ≤ D + dep (I 22) 5 4 (nI a)) → VG Γ 0 0 5 [some (.ref 0), some (.int (nI a)), some (.int y), some (.int (nI D)), some (.int (nI k)), v5] [] I J P (Fnl Γ (Qi Q)) := by
  intro f
  induction f with
  | zero =>
    intro k D v5 hf hD hg
    obtain rfl : k = 5 := by omega
    refine g_iload_4 h dL_canHang_5 ?_
    refine g_iconst h dL_canHang_7 (v := nI 5) rfl ?_
    refine g_icmp_ge h 81 dL_canHang_8 rfl (fun _ => ?_) (fun c => absurd (Int32.le_refl _) c)
    exact K D _ hD hg
  | succ f ih =>
    intro k D v5 hf hD hg
    have hk : k < 5 := by omega
    have d4 := dep_le (I 22) 5 4 (nI k)
    have a1 := hW.dep ha
    refine g_iload_4 h dL_canHang_5 ?_
    refine g_iconst h dL_canHang_7 (v := nI 5) rfl ?_
    refine g_icmp_ge h 81 dL_canHang_8 rfl (fun c => absurd c (nI_ge hk (by decide))) (fun _ => ?_)
    refine g_iload_4 h dL_canHang_11 ?_
    refine g_istore_5 h dL_canHang_13 (by decide) rfl ?_
    refine lp_cH1 hW h 4 (nI k) (hW.hch k hk) (fun w => ?_) (fun w => ?_)
    · refine g_iload_5 h dL_canHang_38 ?_
      refine g_if_ge h 46 dL_canHang_40 rfl (fun _ => ?_) (fun c => absurd (nI_pos' (by omega)) c)
      refine g_iload_4 h dL_canHang_46 ?_
      refine g_iload_2 h dL_canHang_48 ?_
      refine g_icmp_ne h 54 dL_canHang_49 rfl (fun c49 => ?_) (fun c49 => ?_)
      · refine g_iload_3 h dL_canHang_54 ?_
        refine g_aload_0 h dL_canHang_55 ?_
        refine g_iload_4 h dL_canHang_56 ?_
        refine g_iconst h dL_canHang_58 (v := nI 2) rfl ?_
        refine g_cVi2 h rok0 mi_X10_cord dL_canHang_59 ml_L_213 rfl rfl rfl (Nat.le_of_ble_eq_true rfl) (Nat.le_of_ble_eq_true rfl) (qc2 hW hk ?_)
        refine g_aload_0 h dL_canHang_62 ?_
        refine g_iload_1 h dL_canHang_63 ?_
        refine g_iconst h dL_canHang_64 (v := nI 2) rfl ?_
        refine g_cVi2 h rok0 mi_X10_cord dL_canHang_65 ml_L_213 rfl rfl rfl (Nat.le_of_ble_eq_true rfl) (Nat.le_of_ble_eq_true rfl) (qc2 hW ha ?_)
        refine g_isub h dL_canHang_68 ?_
        refine g_iconst h dL_canHang_69 (v := nI 1) rfl ?_
        refine g_iadd h dL_canHang_70 ?_
        refine g_mmax h dL_canHang_71 ml_L_223 rok0 (Nat.le_of_ble_eq_true rfl) ?_
        refine g_istore_3 h dL_canHang_74 (by decide) rfl ?_
        refine g_iinc_4 h dL_canHang_75 (inc1 _) (by decide) rfl ?_
        refine g_goto h 5 dL_canHang_78 rfl ?_
        rw [pk_sub (wth_dep (by decide) hW.hch 4 _ (hW.hch k hk) w), nI_add, max_n (by omega) (by omega)]
        refine ih (k + 1) _ _ (by omega) (by omega) (fun j hj jw => ?_)
        by_cases e : j = k
        · subst e
          exact ⟨c49, by omega⟩
        · have := hg j (by omega) jw
          exact ⟨this.1, by omega⟩
      · refine g_iconst h dL_canHang_52 (v := nI 0) rfl ?_
        refine g_zret h dL_canHang_53 (by first | rfl | exact nar_b2i _) ?_
        exact hQ0
    · refine g_iload_5 h dL_canHang_38 ?_
      refine g_if_ge h 46 dL_canHang_40 rfl (fun c => absurd c (by decide)) (fun _ => ?_)
      refine g_goto h 75 dL_canHang_43 rfl ?_
      refine g_iinc_4 h dL_canHang_75 (inc1 _) (by decide) rfl ?_
      refine g_goto h 5 dL_canHang_78 rfl ?_
      refine ih (k + 1) _ _ (by omega) hD (fun j hj jw => ?_)
      by_cases e : j = k
      · subst e
        rw [w] at jw
        cases jw
      · exact hg j (by omega) jw
set_option maxRecDepth 100000 in
set_option maxHeartbeats 4000000 in
theorem sp_L_canHang {T0 C0 d a : Nat} {y : Int32} {I : MI} {J : MJ} {P : MP} {Q : Int32 → MI → MJ → MP → Prop} (hW : LW I P T0 C0) (ha : a < 5) (hy : isU 5 y) (hQ0 : Q (nI 0) I J P) (hQ1 : wth (I 22) 5 (nI a) 4 y = false → dep (I 22) 5 4 y + rch (I 22) 5 4 a ≤ 4 → Q (nI 1) I J P) : Sp yL_canHang cL_canHang 6 (some .boolean) (d + 9) [.ref 0, .int (nI a), .int y] I J P (Qi Q) := by
  intro Γ h
  show VG Γ 0 0 0 [some (.ref 0), some (.int (nI a)), some (.int y), none, none, none] [] _ _ _ _
  refine g_iconst h dL_canHang_0 (v := nI 0) rfl ?_
  refine g_istore_3 h dL_canHang_1 (by decide) rfl ?_
  refine g_iconst h dL_canHang_2 (v := nI 0) rfl ?_
  refine g_istore_4 h dL_canHang_3 (by decide) rfl ?_
  refine lp_cH2 hW h ha hQ0 (fun D v5 hD hg => ?_) 5 0 0 _ rfl (by decide) (fun j hj => absurd hj (Nat.not_lt_zero j))
  have KE : ∀ e, e = dep (I 22) 5 4 y → VG Γ 0 0 95 [some (.ref 0), some (.int (nI a)), some (.int y), some (.int (nI D)), some (.int (nI 5)), v5] [.int (nI e)] I J P (Fnl Γ (Qi Q)) := by
    intro e he
    refine g_iload_3 h dL_canHang_95 ?_
    refine g_iadd h dL_canHang_96 ?_
    refine g_iconst h dL_canHang_97 (v := nI 4) rfl ?_
    rw [nI_add]
    refine g_icmp_gt h 105 dL_canHang_98 rfl (fun c98 => ?_) (fun c98 => ?_)
    · refine g_iconst h dL_canHang_105 (v := nI 0) rfl ?_
      refine g_zret h dL_canHang_106 (by first | rfl | exact nar_b2i _) ?_
      exact hQ0
    · refine g_iconst h dL_canHang_101 (v := nI 1) rfl ?_
      refine g_goto h 106 dL_canHang_102 rfl ?_
      refine g_zret h dL_canHang_106 (by first | rfl | exact nar_b2i _) ?_
      refine hQ1 ?_ ?_
      · rcases hy with rfl | ⟨o, o1, rfl⟩
        · exact wth_m1
        · cases w : wth (I 22) 5 (nI a) 4 (nI o) with
          | false => rfl
          | true => exact absurd rfl (hg o o1 w).1
      · have r := rch_le hW.clo hW.hch ha (fun j j1 j2 => (hg j j1 j2).2)
        have l : e + D ≤ 4 := by
          rcases Nat.lt_or_ge 4 (e + D) with q | q
          · exact absurd (nI_lt q (by have := dep_le (I 22) 5 4 y; omega)) c98
          · exact q
        omega
  rcases hy with rfl | ⟨o, o1, rfl⟩
  · refine g_iload_2 h dL_canHang_81 ?_
    refine g_if_ge h 89 dL_canHang_82 rfl (fun c => absurd c (by decide)) (fun _ => ?_)
    refine g_iconst h dL_canHang_85 (v := nI 0) rfl ?_
    refine g_goto h 95 dL_canHang_86 rfl ?_
    exact KE 0 dep_m1.symm
  · refine g_iload_2 h dL_canHang_81 ?_
    refine g_if_ge h 89 dL_canHang_82 rfl (fun _ => ?_) (fun c => absurd (nI_pos' (by omega)) c)
    refine g_aload_0 h dL_canHang_89 ?_
    refine g_iload_2 h dL_canHang_90 ?_
    refine g_iconst h dL_canHang_91 (v := nI 2) rfl ?_
    refine g_cVi2 h rok0 mi_X10_cord dL_canHang_92 ml_L_213 rfl rfl rfl (Nat.le_of_ble_eq_true rfl) (Nat.le_of_ble_eq_true rfl) (qc2 hW o1 ?_)
    exact KE _ rfl
