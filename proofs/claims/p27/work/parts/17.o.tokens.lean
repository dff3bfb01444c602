/-! The making of tokens: the keywords' numbers -/
def kwN (j : Nat) : Nat := (kB 28 j).toInt.toNat
def kw2 (x : Nat × Nat) (c : Int32) : Nat × Nat := match x with
  | (n, w) => if c = nI 32 then (if n < 28 then (n + 1, 0) else (n, w)) else (n, w * 37 + sgN c.toInt.toNat)
def kw1 : Nat → Nat × Nat
  | 0 => (0, 0)
  | j + 1 => kw2 (kw1 j) (kB 28 j)
def kwB (j : Nat) : Bool := decide (kB 28 j = nI (kwN j)) && (if kB 28 j = nI 32 then decide ((kw1 j).1 < 28) && decide ((kw1 j).2 = kwC (kw1 j).1) else decide (97 ≤ kwN j) && decide (kwN j ≤ 122))
theorem kwB_all : (List.range (kL 28)).all kwB = true := by decide +kernel
theorem kwt_end : (kw1 (kL 28)).1 = 28 := by decide +kernel
theorem kwt_sp {j : Nat} (hj : j < kL 28) (h : kB 28 j = nI 32) : (kw1 j).1 < 28 ∧ (kw1 j).2 = kwC (kw1 j).1 ∧ kw1 (j + 1) = ((kw1 j).1 + 1, 0) := by
  have h1 := List.all_eq_true.mp kwB_all j (List.mem_range.mpr hj)
  rw [kwB, if_pos h] at h1
  simp only [Bool.and_eq_true, decide_eq_true_eq] at h1
  refine ⟨h1.2.1, h1.2.2, ?_⟩
  show kw2 (kw1 j) (kB 28 j) = _
  have e : kw1 j = ((kw1 j).1, (kw1 j).2) := rfl
  rw [e, kw2, if_pos h, if_pos h1.2.1]
theorem kwt_lt {j : Nat} (hj : j < kL 28) (h : ¬ kB 28 j = nI 32) : kB 28 j = nI (kwN j) ∧ 97 ≤ kwN j ∧ kwN j ≤ 122 ∧ kw1 (j + 1) = ((kw1 j).1, (kw1 j).2 * 37 + sgN (kwN j)) := by
  have h1 := List.all_eq_true.mp kwB_all j (List.mem_range.mpr hj)
  rw [kwB, if_neg h] at h1
  simp only [Bool.and_eq_true, decide_eq_true_eq] at h1
  refine ⟨h1.1, h1.2.1, h1.2.2, ?_⟩
  show kw2 (kw1 j) (kB 28 j) = _
  have e : kw1 j = ((kw1 j).1, (kw1 j).2) := rfl
  rw [e, kw2, if_neg h]
  rfl
theorem ol_X8 : Cond.methodLink RX8 1 Lib.objectInit ∈ bigW := bw_in (tb_3 (List.mem_of_getElem? (i := 79) rfl)) rfl
theorem ff_X8_9 : FPF RX8 9 6 0 (.array .int) := ⟨_, _, _, tyX8, rfl, by decide, inW_X8, Or.inl (bw_in (tb_3 (List.mem_of_getElem? (i := 136) rfl)) rfl), tyX8_ok, nmX8, ⟨rfl, rfl⟩, tyX8_ok 0 (by decide)⟩
theorem ff_X8_13 : FPF RX8 13 6 1 (.array .long) := ⟨_, _, _, tyX8, rfl, by decide, inW_X8, Or.inl (bw_in (tb_3 (List.mem_of_getElem? (i := 139) rfl)) rfl), tyX8_ok, nmX8, ⟨rfl, rfl⟩, tyX8_ok 1 (by decide)⟩
theorem ff_X8_17 : FPF RX8 17 6 2 (.array .int) := ⟨_, _, _, tyX8, rfl, by decide, inW_X8, Or.inl (bw_in (tb_3 (List.mem_of_getElem? (i := 141) rfl)) rfl), tyX8_ok, nmX8, ⟨rfl, rfl⟩, tyX8_ok 2 (by decide)⟩
theorem ff_X8_22 : FPF RX8 22 6 3 (.array .long) := ⟨_, _, _, tyX8, rfl, by decide, inW_X8, Or.inl (bw_in (tb_3 (List.mem_of_getElem? (i := 142) rfl)) rfl), tyX8_ok, nmX8, ⟨rfl, rfl⟩, tyX8_ok 3 (by decide)⟩
theorem fq_X8_25 : FP RX8 25 6 4 .int := ⟨_, _, _, tyX8, rfl, by decide, inW_X8, Or.inl (bw_in (tb_3 (List.mem_of_getElem? (i := 143) rfl)) rfl), tyX8_ok, nmX8, rfl, tyX8_ok 4 (by decide)⟩
theorem fq_X8_29 : FP RX8 29 6 5 .long := ⟨_, _, _, tyX8, rfl, by decide, inW_X8, Or.inl (bw_in (tb_3 (List.mem_of_getElem? (i := 144) rfl)) rfl), tyX8_ok, nmX8, rfl, tyX8_ok 5 (by decide)⟩
theorem fq_X8_33 : FP RX8 33 6 6 .int := ⟨_, _, _, tyX8, rfl, by decide, inW_X8, Or.inl (bw_in (tb_3 (List.mem_of_getElem? (i := 145) rfl)) rfl), tyX8_ok, nmX8, rfl, tyX8_ok 6 (by decide)⟩
def wl8 (cy : Nat → ClassId) (a q1 q2 q3 q4 : Nat) (row : Nat → Int64) : va_W := [(a, .inr (6, [.ref q1, .ref q2, .ref q3, .ref q4, .int (nI 0), .long 0, .int (nI 0)])), (q1, .inl (cy 0, 401, .inl (fun _ => nI 0))), (q2, .inl (cy 3, 401, .inr (.inl (fun _ => 0)))), (q3, .inl (cy 0, 401, .inl (fun _ => nI 0))), (q4, .inl (cy 3, 28, .inr (.inl row)))]
def wX8 (cy : Nat → ClassId) (a : Nat) (ws : va_W) : Prop := ∃ (q1 q2 q3 q4 : Nat) (row : Nat → Int64), (∀ i, i < 28 → row i = lN (kwC i)) ∧ ws = wl8 cy a q1 q2 q3 q4 row
set_option maxRecDepth 100000 in
set_option maxHeartbeats 4000000 in
theorem lp_X8i {Γ : Cz} {ad : Nat → Nat} {d a q1 q2 q3 q4 kc kn : Nat} {cy : Nat → ClassId} (ho : Vs ad Γ) (h : Vk RX8 cX8_init 6 (d + 4) Γ) (hi : Vi Γ) (hcy : cyOf Γ = cy) (hrk : Rk Γ kc kn) {Q : va_W → Prop} (hQ : ∀ row : Nat → Int64, (∀ i, i < 28 → row i = lN (kwC i)) → Q (wl8 cy a q1 q2 q3 q4 row)) : ∀ (f t : Nat) (row : Nat → Int64) (x5 : Option Value), t + f = kL 28 → (∀ i, i < (kw1 t).1 → row i = lN (kwC i)) → CW Γ kc kn 61 [some (.ref a), some (.int (nI (kw1 t).1)), some (.long (lN (kw1 t).2)), none, some (.int (nI t)), x5] [] (wl8 cy a q1 q2 q3 q4 row) (FnK Γ Q kc kn) := by
  intro f
  induction f with
  | zero =>
    intro t row x5 ht hrow
    obtain rfl : t = kL 28 := by omega
    refine kw_ilodw h 4 dX8_init_61 rfl ?_
    refine kw_ldcK ho h dX8_init_63 ?_
    refine kw_callT (As := []) ho h hrk mi_J0_length_8abf5 dX8_init_65 ml_X8_38 28 (by decide) rfl rfl (Nat.le_of_ble_eq_true rfl) rfl (Nat.le_of_ble_eq_true rfl) (kp_length (by decide) ?_)
    show CW Γ kc kn 68 _ (.int (nI (kL 28)) :: .int (nI (kL 28)) :: []) _ _
    refine kw_icmp_ge h 130 dX8_init_68 rfl (fun _ => ?_) (fun c => absurd (Int32.le_refl _) c)
    exact k_ret h hi dX8_init_130 (hQ row (fun i hi => hrow i (by rw [kwt_end]; exact hi)))
  | succ f ih =>
    intro t row x5 ht hrow
    have htl : t < kL 28 := by omega
    have hl31 : kL 28 < 2 ^ 31 := kL_all 28 (by decide)
    refine kw_ilodw h 4 dX8_init_61 rfl ?_
    refine kw_ldcK ho h dX8_init_63 ?_
    refine kw_callT (As := []) ho h hrk mi_J0_length_8abf5 dX8_init_65 ml_X8_38 28 (by decide) rfl rfl (Nat.le_of_ble_eq_true rfl) rfl (Nat.le_of_ble_eq_true rfl) (kp_length (by decide) ?_)
    show CW Γ kc kn 68 _ (.int (nI (kL 28)) :: .int (nI t) :: []) _ _
    refine kw_icmp_ge h 130 dX8_init_68 rfl (fun c => absurd c (nI_ge htl hl31)) (fun _ => ?_)
    refine kw_ldcK ho h dX8_init_71 ?_
    refine kw_ilodw h 4 dX8_init_73 rfl ?_
    refine kw_callT (As := [.int (nI t)]) ho h hrk mi_J0_charAt_5068e dX8_init_75 ml_X8_44 28 (by decide) rfl rfl (Nat.le_of_ble_eq_true rfl) rfl (Nat.le_of_ble_eq_true rfl) (kp_charAt (by decide) htl ?_)
    show CW Γ kc kn 78 _ (.int (kB 28 t) :: []) _ _
    refine kw_istow h 5 dX8_init_78 (by decide) rfl ?_
    refine kw_ilodw h 5 dX8_init_80 rfl ?_
    refine kw_bp h dX8_init_82 (v := nI 32) rfl ?_
    refine kw_icmp_eq h 103 dX8_init_84 rfl (fun c => ?_) (fun c => ?_)
    · obtain ⟨w1, w2, w3⟩ := kwt_sp htl c
      refine kw_ilod h 1 dX8_init_103 rfl rfl ?_
      refine kw_alod h 0 dX8_init_104 rfl rfl ?_
      refine k_get h 0 fl_X8_22 rfl rfl (nn_dec (by decide +kernel)) dX8_init_105 ?_
      refine kw_alen h hcy 4 rfl dX8_init_108 ?_
      refine kw_icmp_ge h 124 dX8_init_109 rfl (fun c => absurd c (nI_ge w1 (by decide))) (fun _ => ?_)
      refine kw_alod h 0 dX8_init_112 rfl rfl ?_
      refine k_get h 0 fl_X8_22 rfl rfl (nn_dec (by decide +kernel)) dX8_init_113 ?_
      refine kw_ilod h 1 dX8_init_116 rfl rfl ?_
      refine kw_llod h 2 dX8_init_117 rfl rfl ?_
      refine kw_last h hcy 4 (kw1 t).1 rfl rfl w1 (by decide) dX8_init_118 ?_
      show CW Γ kc kn 119 _ [] (wl8 cy a q1 q2 q3 q4 (vp_updL row (kw1 t).1 (lN (kw1 t).2))) _
      refine kw_lc h (v := lN 0) dX8_init_119 rfl ?_
      refine kw_lsto h 2 dX8_init_120 rfl (by decide) rfl ?_
      refine kw_iinc h 1 dX8_init_121 rfl (inc1 _) (by decide) rfl ?_
      refine kw_iinc h 4 dX8_init_124 rfl (inc1 _) (by decide) rfl ?_
      refine kw_goto h 61 dX8_init_127 rfl ?_
      have k := ih (t + 1) (vp_updL row (kw1 t).1 (lN (kw1 t).2)) (some (.int (kB 28 t))) (by omega) (fun i hi => by
        rw [w3] at hi
        unfold vp_updL
        by_cases e : i = (kw1 t).1
        · rw [if_pos e, e, w2]
        · rw [if_neg e]; exact hrow i (by omega))
      rw [w3] at k
      exact k
    · obtain ⟨w0, w1, w2, w3⟩ := kwt_lt htl c
      refine kw_llod h 2 dX8_init_87 rfl rfl ?_
      refine kw_ldc2 h dX8_init_88 lc_X8_48 ?_
      refine kw_lmul h dX8_init_91 ?_
      refine kw_ilodw h 5 dX8_init_92 rfl ?_
      rw [w0]
      refine kw_callS (As := [.int (nI (kwN t))]) ho h hrk mi_X8_numberOfSign dX8_init_94 ml_X8_50 (Nat.le_of_ble_eq_true rfl) rfl (Nat.le_of_ble_eq_true rfl) (kp_numberOfSign w1 w2 ?_)
      show CW Γ kc kn 97 _ (.int (nI (sgN (kwN t))) :: .long (lN (kw1 t).2 * 37) :: []) _ _
      refine kw_i2l h dX8_init_97 ?_
      refine kw_ladd h dX8_init_98 ?_
      refine kw_lsto h 2 dX8_init_99 rfl (by decide) rfl ?_
      refine kw_goto h 124 dX8_init_100 rfl ?_
      refine kw_iinc h 4 dX8_init_124 rfl (inc1 _) (by decide) rfl ?_
      refine kw_goto h 61 dX8_init_127 rfl ?_
      have k := ih (t + 1) row (some (.int (nI (kwN t)))) (by omega) (fun i hi => hrow i (by rw [w3] at hi; exact hi))
      rw [w3] at k
      have e : lN (kw1 t).2 * 37 + (nI (sgN (kwN t))).toInt64 = lN ((kw1 t).2 * 37 + sgN (kwN t)) := by
        rw [nI_l (by rw [sgN, if_pos w1]; omega), show (37 : Int64) = lN 37 from rfl, l_mul, l_add]
      show CW Γ kc kn 61 [some (.ref a), some (.int (nI (kw1 t).1)), some (.long (lN (kw1 t).2 * 37 + (nI (sgN (kwN t))).toInt64)), none, some (.int (nI (t + 1))), some (.int (nI (kwN t)))] [] _ _
      rw [e]
      exact k
set_option maxRecDepth 100000 in
set_option maxHeartbeats 4000000 in
theorem ks_X8 {cy : Nat → ClassId} {a : Nat} : KS cy yX8_init cX8_init 6 5 4 1231 [.ref a] [(0, .ref a)] [(a, .inr (6, [.null, .null, .null, .null, .int 0, .long 0, .int 0]))] (wX8 cy a) := by
  intro Γ hcy hn h hi hR
  obtain ⟨ad, ho⟩ : ∃ ad, Vs ad Γ := by
    obtain ⟨p, l, e, R, s, m, args, below, meth, c, dC, dI, cy, A⟩ := Γ
    exact hn.2
  refine k_al h 0 0 dX8_init_0 rfl rfl ?_
  refine k_obj h ol_X8 oi_m oi_c dX8_init_1 (by decide) ?_
  refine k_al h 0 0 dX8_init_4 rfl rfl ?_
  refine k_sp h (v := nI 401) dX8_init_5 rfl ?_
  refine k_na h hcy (at_ := .int) (ty := .int) (N := 401) (a0 := (401, .inl (fun _ => nI 0))) 0 (rk_le hR (by decide) (by decide)) ac_int rfl (fun _ => rfl) (fun _ q => by cases q) (fun _ => rfl) (by decide) (by decide) (by decide) dX8_init_8 (fun q1 => ?_)
  show CV _ _ _ _ _ _ [(a, .inr (6, [.null, .null, .null, .null, .int 0, .long 0, .int 0])), (q1, .inl (cy 0, 401, .inl (fun _ => nI 0)))] _
  refine k_putF h hi 0 ff_X8_9 rfl rfl rfl (Nat.le_of_ble_eq_true rfl) (nn_dec (by decide +kernel)) dX8_init_10 ?_
  show CV _ _ _ _ _ _ [(a, .inr (6, [.ref q1, .null, .null, .null, .int 0, .long 0, .int 0])), (q1, .inl (cy 0, 401, .inl (fun _ => nI 0)))] _
  refine k_al h 0 0 dX8_init_13 rfl rfl ?_
  refine k_sp h (v := nI 401) dX8_init_14 rfl ?_
  refine k_na h hcy (at_ := .long) (ty := .long) (N := 401) (a0 := (401, .inr (.inl (fun _ => 0)))) 3 (rk_le hR (by decide) (by decide)) ac_long rfl (fun _ => rfl) (fun _ q => by cases q) (fun _ => rfl) (by decide) (by decide) (by decide) dX8_init_17 (fun q2 => ?_)
  show CV _ _ _ _ _ _ [(a, .inr (6, [.ref q1, .null, .null, .null, .int 0, .long 0, .int 0])), (q1, .inl (cy 0, 401, .inl (fun _ => nI 0))), (q2, .inl (cy 3, 401, .inr (.inl (fun _ => 0))))] _
  refine k_putF h hi 0 ff_X8_13 rfl rfl rfl (Nat.le_of_ble_eq_true rfl) (nn_dec (by decide +kernel)) dX8_init_19 ?_
  show CV _ _ _ _ _ _ [(a, .inr (6, [.ref q1, .ref q2, .null, .null, .int 0, .long 0, .int 0])), (q1, .inl (cy 0, 401, .inl (fun _ => nI 0))), (q2, .inl (cy 3, 401, .inr (.inl (fun _ => 0))))] _
  refine k_al h 0 0 dX8_init_22 rfl rfl ?_
  refine k_sp h (v := nI 401) dX8_init_23 rfl ?_
  refine k_na h hcy (at_ := .int) (ty := .int) (N := 401) (a0 := (401, .inl (fun _ => nI 0))) 0 (rk_le hR (by decide) (by decide)) ac_int rfl (fun _ => rfl) (fun _ q => by cases q) (fun _ => rfl) (by decide) (by decide) (by decide) dX8_init_26 (fun q3 => ?_)
  show CV _ _ _ _ _ _ [(a, .inr (6, [.ref q1, .ref q2, .null, .null, .int 0, .long 0, .int 0])), (q1, .inl (cy 0, 401, .inl (fun _ => nI 0))), (q2, .inl (cy 3, 401, .inr (.inl (fun _ => 0)))), (q3, .inl (cy 0, 401, .inl (fun _ => nI 0)))] _
  refine k_putF h hi 0 ff_X8_17 rfl rfl rfl (Nat.le_of_ble_eq_true rfl) (nn_dec (by decide +kernel)) dX8_init_28 ?_
  show CV _ _ _ _ _ _ [(a, .inr (6, [.ref q1, .ref q2, .ref q3, .null, .int 0, .long 0, .int 0])), (q1, .inl (cy 0, 401, .inl (fun _ => nI 0))), (q2, .inl (cy 3, 401, .inr (.inl (fun _ => 0)))), (q3, .inl (cy 0, 401, .inl (fun _ => nI 0)))] _
  refine k_al h 0 0 dX8_init_31 rfl rfl ?_
  refine k_bp h (v := nI 28) dX8_init_32 rfl ?_
  refine k_na h hcy (at_ := .long) (ty := .long) (N := 28) (a0 := (28, .inr (.inl (fun _ => 0)))) 3 (rk_le hR (by decide) (by decide)) ac_long rfl (fun _ => rfl) (fun _ q => by cases q) (fun _ => rfl) (by decide) (by decide) (by decide) dX8_init_34 (fun q4 => ?_)
  show CV _ _ _ _ _ _ [(a, .inr (6, [.ref q1, .ref q2, .ref q3, .null, .int 0, .long 0, .int 0])), (q1, .inl (cy 0, 401, .inl (fun _ => nI 0))), (q2, .inl (cy 3, 401, .inr (.inl (fun _ => 0)))), (q3, .inl (cy 0, 401, .inl (fun _ => nI 0))), (q4, .inl (cy 3, 28, .inr (.inl (fun _ => 0))))] _
  refine k_putF h hi 0 ff_X8_22 rfl rfl rfl (Nat.le_of_ble_eq_true rfl) (nn_dec (by decide +kernel)) dX8_init_36 ?_
  show CV _ _ _ _ _ _ [(a, .inr (6, [.ref q1, .ref q2, .ref q3, .ref q4, .int 0, .long 0, .int 0])), (q1, .inl (cy 0, 401, .inl (fun _ => nI 0))), (q2, .inl (cy 3, 401, .inr (.inl (fun _ => 0)))), (q3, .inl (cy 0, 401, .inl (fun _ => nI 0))), (q4, .inl (cy 3, 28, .inr (.inl (fun _ => 0))))] _
  refine k_al h 0 0 dX8_init_39 rfl rfl ?_
  refine k_ic h (v := nI 0) dX8_init_40 rfl ?_
  refine k_put h 0 fq_X8_25 rfl rfl rfl (Nat.le_of_ble_eq_true rfl) (nn_dec (by decide +kernel)) dX8_init_41 ?_
  show CV _ _ _ _ _ _ [(a, .inr (6, [.ref q1, .ref q2, .ref q3, .ref q4, .int (nI 0), .long 0, .int 0])), (q1, .inl (cy 0, 401, .inl (fun _ => nI 0))), (q2, .inl (cy 3, 401, .inr (.inl (fun _ => 0)))), (q3, .inl (cy 0, 401, .inl (fun _ => nI 0))), (q4, .inl (cy 3, 28, .inr (.inl (fun _ => 0))))] _
  refine k_al h 0 0 dX8_init_44 rfl rfl ?_
  refine k_lc h (v := 0) dX8_init_45 rfl ?_
  refine k_put h 0 fq_X8_29 rfl rfl rfl (Nat.le_of_ble_eq_true rfl) (nn_dec (by decide +kernel)) dX8_init_46 ?_
  show CV _ _ _ _ _ _ [(a, .inr (6, [.ref q1, .ref q2, .ref q3, .ref q4, .int (nI 0), .long 0, .int 0])), (q1, .inl (cy 0, 401, .inl (fun _ => nI 0))), (q2, .inl (cy 3, 401, .inr (.inl (fun _ => 0)))), (q3, .inl (cy 0, 401, .inl (fun _ => nI 0))), (q4, .inl (cy 3, 28, .inr (.inl (fun _ => 0))))] _
  refine k_al h 0 0 dX8_init_49 rfl rfl ?_
  refine k_ic h (v := nI 0) dX8_init_50 rfl ?_
  refine k_put h 0 fq_X8_33 rfl rfl rfl (Nat.le_of_ble_eq_true rfl) (nn_dec (by decide +kernel)) dX8_init_51 ?_
  show CV _ _ _ _ _ _ [(a, .inr (6, [.ref q1, .ref q2, .ref q3, .ref q4, .int (nI 0), .long 0, .int (nI 0)])), (q1, .inl (cy 0, 401, .inl (fun _ => nI 0))), (q2, .inl (cy 3, 401, .inr (.inl (fun _ => 0)))), (q3, .inl (cy 0, 401, .inl (fun _ => nI 0))), (q4, .inl (cy 3, 28, .inr (.inl (fun _ => 0))))] _
  show CW Γ 4 1231 54 [some (.ref a), none, none, none, none, none] [] (wl8 cy a q1 q2 q3 q4 (fun _ => 0)) _
  refine kw_ic h dX8_init_54 (v := nI 0) rfl ?_
  refine kw_isto h 1 dX8_init_55 rfl (by decide) rfl ?_
  refine kw_lc h (v := lN 0) dX8_init_56 rfl ?_
  refine kw_lsto h 2 dX8_init_57 rfl (by decide) rfl ?_
  refine kw_ic h dX8_init_58 (v := nI 0) rfl ?_
  refine kw_istow h 4 dX8_init_59 (by decide) rfl ?_
  exact lp_X8i (d := 1) ho h hi hcy hR (fun row hr => ⟨q1, q2, q3, q4, row, hr, rfl⟩) (kL 28) 0 (fun _ => 0) none (Nat.zero_add _) (fun i hi => absurd hi (Nat.not_lt_zero i))
