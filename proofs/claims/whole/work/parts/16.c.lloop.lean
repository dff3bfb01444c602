/-! The law: its loop -/
theorem law_end {L k : Nat} (hL : L ≤ 3072) (hk : k ≤ 4000) (c : ¬ nI L - nI 6 < nI k) : k + 6 ≤ L := by
  have c := Int32.not_lt.mp c
  rcases Nat.lt_or_ge L 6 with h | h
  · have h0 : nI L - nI 6 < nI 0 := by
      rcases (show L = 0 ∨ L = 1 ∨ L = 2 ∨ L = 3 ∨ L = 4 ∨ L = 5 by omega) with rfl | rfl | rfl | rfl | rfl | rfl <;> decide
    exact absurd (Int32.lt_of_le_of_lt c h0) (Int32.not_lt.mpr (nI_le (Nat.zero_le k) (by omega)))
  · obtain ⟨m, rfl⟩ : ∃ m, L = m + 6 := ⟨L - 6, by omega⟩
    rw [← nI_add m 6, Int32.add_sub_cancel] at c
    have := leN c (by omega) (by omega)
    omega
set_option maxRecDepth 100000 in
set_option maxHeartbeats 4000000 in
theorem lw_loop {L : Nat} {xs : Nat → Int32} (hL : L ≤ 3072) : ∀ (f k kc kn : Nat) (Γ : Cx) (I : MI) (J : MJ) (P : MP), Vc RL cL_law 9 (some .boolean) 1000 Γ → Lx L xs Γ → L ≤ k + 6 * f → k ≤ 3100 → kc + f ≤ 601024 → kn + 6 * f ≤ 7293033 → REL I J P → VG Γ kc kn 23 [some (.ref 500), some (.ref 0), some (.ref 80), some (.ref 19), some (.int (nI k)), none, none, none, none] [] I J P (LZ Γ) := by
  intro f
  induction f with
  | zero =>
    intro k kc kn Γ I J P h hx hf hk hkc hkn hR
    refine g_iload_4 h dL_law_23 ?_
    refine g_aload_0 h dL_law_25 ?_
    refine g_xlen h hx dL_law_26 ?_
    refine g_bipush h dL_law_27 (v := nI 6) rfl ?_
    refine g_isub h dL_law_29 ?_
    refine g_icmp_gt h 1453 dL_law_30 rfl (fun _ => ?_) (fun c => absurd (law_end hL (by omega) c) (by omega))
    refine g_iconst h dL_law_1453 (v := 1) rfl ?_
    exact g_lwret h hx (by omega) (by omega) dL_law_1454
  | succ f ih =>
    intro k kc kn Γ I J P h hx hf hk hkc hkn hR
    refine g_iload_4 h dL_law_23 ?_
    refine g_aload_0 h dL_law_25 ?_
    refine g_xlen h hx dL_law_26 ?_
    refine g_bipush h dL_law_27 (v := nI 6) rfl ?_
    refine g_isub h dL_law_29 ?_
    refine g_icmp_gt h 1453 dL_law_30 rfl (fun _ => ?_) (fun c => ?_)
    · refine g_iconst h dL_law_1453 (v := 1) rfl ?_
      exact g_lwret h hx (by omega) (by omega) dL_law_1454
    · have hk6 := law_end hL (by omega) c
      have back : ∀ (kc' kn' : Nat) (Γ' : Cx) (I' : MI) (J' : MJ) (P' : MP), Vc RL cL_law 9 (some .boolean) 1000 Γ' → Lx L xs Γ' → kc' ≤ kc + 1 → kn' ≤ kn + 6 → REL I' J' P' → VG Γ' kc' kn' 1447 [some (.ref 500), some (.ref 0), some (.ref 80), some (.ref 19), some (.int (nI k)), none, none, none, none] [] I' J' P' (LZ Γ') := by
        intro kc' kn' Γ' I' J' P' h' hx' hkc' hkn' hR'
        refine g_iinc_4 h' dL_law_1447 (v := nI (k + 6)) (nI_add k 6) (by decide) rfl ?_
        refine g_goto h' 23 dL_law_1450 rfl ?_
        exact ih (k + 6) kc' kn' Γ' I' J' P' h' hx' (by omega) (by omega) (by omega) (by omega) hR'
      refine g_aload_0 h dL_law_33 ?_
      refine g_iload_4 h dL_law_34 ?_
      refine g_xld h hx k dL_law_36 rfl (by omega) (by omega) ?_
      refine g_bipush h dL_law_37 (v := nI 31) rfl ?_
      refine g_iand h dL_law_39 ?_
      obtain ⟨j, hj, ej⟩ := pk_andE (xs k) (m := nI 31) 5 (by decide)
      rw [ej]
      have hj : j < 32 := hj
      have K0 : ∀ I' J' P', REL I' J' P' → VG Γ kc kn 1447 [some (.ref 500), some (.ref 0), some (.ref 80), some (.ref 19), some (.int (nI k)), none, none, none, none] [] I' J' P' (LZ Γ) := fun I' J' P' r => back kc kn Γ I' J' P' h hx (by omega) (by omega) r
      have K1 : ∀ I' J' P', REL I' J' P' → VG Γ (kc + 1) (kn + 6) 1447 [some (.ref 500), some (.ref 0), some (.ref 80), some (.ref 19), some (.int (nI k)), none, none, none, none] [] I' J' P' (LZ Γ) := fun I' J' P' r => back (kc + 1) (kn + 6) Γ I' J' P' h hx (by omega) (by omega) r
      have K2 : ∀ I' J' P', REL I' J' P' → VG (cxR Γ) kc kn 1447 [some (.ref 500), some (.ref 0), some (.ref 80), some (.ref 19), some (.int (nI k)), none, none, none, none] [] I' J' P' (LZ Γ) := fun I' J' P' r => by
        rw [← lz_ren]
        exact back kc kn (cxR Γ) I' J' P' (vc_ren h) (lx_ren hx) (by omega) (by omega) r
      rcases (show j = 0 ∨ j = 1 ∨ j = 2 ∨ j = 3 ∨ j = 4 ∨ j = 5 ∨ j = 6 ∨ j = 7 ∨ j = 8 ∨ j = 9 ∨ j = 10 ∨ j = 11 ∨ j = 12 ∨ j = 13 ∨ j = 14 ∨ j = 15 ∨ j = 16 ∨ j = 17 ∨ j = 18 ∨ j = 19 ∨ j = 20 ∨ j = 21 ∨ j = 22 ∨ j = 23 ∨ j = 24 ∨ j = 25 ∨ j = 26 ∨ j = 27 ∨ j = 28 ∨ j = 29 ∨ j = 30 ∨ j = 31 by omega) with rfl | rfl | rfl | rfl | rfl | rfl | rfl | rfl | rfl | rfl | rfl | rfl | rfl | rfl | rfl | rfl | rfl | rfl | rfl | rfl | rfl | rfl | rfl | rfl | rfl | rfl | rfl | rfl | rfl | rfl | rfl | rfl
      · refine g_tsIn h 152 dL_law_40 (by decide) (by decide) rfl rfl ?_
        exact lw_feed h hx (by omega) (by omega) hL hk6 hR K1
      · refine g_tsIn h 256 dL_law_40 (by decide) (by decide) rfl rfl ?_
        exact lw_trim h hx (by omega) (by omega) hL hk6 hR K1
      · refine g_tsIn h 312 dL_law_40 (by decide) (by decide) rfl rfl ?_
        exact lw_teach h hx (by omega) (by omega) hL hk6 hR K0 K2
      · refine g_tsIn h 325 dL_law_40 (by decide) (by decide) rfl rfl ?_
        exact lw_errorAt h hx (by omega) (by omega) hL hk6 hR K0
      · refine g_tsIn h 338 dL_law_40 (by decide) (by decide) rfl rfl ?_
        exact lw_count h hx (by omega) (by omega) hL hk6 hR K1
      · refine g_tsIn h 394 dL_law_40 (by decide) (by decide) rfl rfl ?_
        exact lw_colour h hx (by omega) (by omega) hL hk6 hR K1
      · refine g_tsIn h 462 dL_law_40 (by decide) (by decide) rfl rfl ?_
        exact lw_cord h hx (by omega) (by omega) hL hk6 hR K1
      · refine g_tsIn h 530 dL_law_40 (by decide) (by decide) rfl rfl ?_
        exact lw_digit h hx (by omega) (by omega) hL hk6 hR K1
      · refine g_tsIn h 598 dL_law_40 (by decide) (by decide) rfl rfl ?_
        exact lw_top h hx (by omega) (by omega) hL hk6 hR K1
      · refine g_tsIn h 666 dL_law_40 (by decide) (by decide) rfl rfl ?_
        exact lw_keeper h hx (by omega) (by omega) hL hk6 hR K1
      · refine g_tsIn h 734 dL_law_40 (by decide) (by decide) rfl rfl ?_
        exact lw_apart h hx (by omega) (by omega) hL hk6 hR K1
      · refine g_tsIn h 802 dL_law_40 (by decide) (by decide) rfl rfl ?_
        exact lw_order h hx (by omega) (by omega) hL hk6 hR K1
      · refine g_tsIn h 858 dL_law_40 (by decide) (by decide) rfl rfl ?_
        exact lw_find h hx (by omega) (by omega) hL hk6 hR K0
      · refine g_tsIn h 883 dL_law_40 (by decide) (by decide) rfl rfl ?_
        exact lw_disorder h hx (by omega) (by omega) hL hk6 hR K0
      · refine g_tsIn h 896 dL_law_40 (by decide) (by decide) rfl rfl ?_
        exact lw_set h hx (by omega) (by omega) hL hk6 hR K1
      · refine g_tsIn h 964 dL_law_40 (by decide) (by decide) rfl rfl ?_
        exact lw_rest h hx (by omega) (by omega) hL hk6 hR K1
      · refine g_tsIn h 1020 dL_law_40 (by decide) (by decide) rfl rfl ?_
        exact lw_dye h hx (by omega) (by omega) hL hk6 hR K1
      · refine g_tsIn h 1088 dL_law_40 (by decide) (by decide) rfl rfl ?_
        exact lw_hang h hx (by omega) (by omega) hL hk6 hR K1
      · refine g_tsIn h 1156 dL_law_40 (by decide) (by decide) rfl rfl ?_
        exact lw_pass h hx (by omega) (by omega) hL hk6 hR K1
      · refine g_tsIn h 1212 dL_law_40 (by decide) (by decide) rfl rfl ?_
        exact lw_until h hx (by omega) (by omega) hL hk6 hR K1
      · refine g_tsIn h 1268 dL_law_40 (by decide) (by decide) rfl rfl ?_
        exact lw_foresee h hx (by omega) (by omega) hL hk6 hR K1
      · refine g_tsIn h 1336 dL_law_40 (by decide) (by decide) rfl rfl ?_
        exact lw_advise h hx (by omega) (by omega) hL hk6 hR K1
      · refine g_tsIn h 1392 dL_law_40 (by decide) (by decide) rfl rfl ?_
        exact lw_mean h hx (by omega) (by omega) hL hk6 hR K0
      · refine g_tsIn h 1433 dL_law_40 (by decide) (by decide) rfl rfl ?_
        exact lw_digest h hx (by omega) (by omega) hL hk6 hR K0
      · refine g_tsOut h 1447 dL_law_40 (by decide) rfl ?_
        exact K0 I J P hR
      · refine g_tsOut h 1447 dL_law_40 (by decide) rfl ?_
        exact K0 I J P hR
      · refine g_tsOut h 1447 dL_law_40 (by decide) rfl ?_
        exact K0 I J P hR
      · refine g_tsOut h 1447 dL_law_40 (by decide) rfl ?_
        exact K0 I J P hR
      · refine g_tsOut h 1447 dL_law_40 (by decide) rfl ?_
        exact K0 I J P hR
      · refine g_tsOut h 1447 dL_law_40 (by decide) rfl ?_
        exact K0 I J P hR
      · refine g_tsOut h 1447 dL_law_40 (by decide) rfl ?_
        exact K0 I J P hR
      · refine g_tsOut h 1447 dL_law_40 (by decide) rfl ?_
        exact K0 I J P hR
