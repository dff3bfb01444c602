/-! The reference: numbers, tokens, the row of tokens -/
theorem cdN_lt {T : Nat → Nat} : ∀ f p, (∀ j, j < f → 48 ≤ T (p + j) ∧ T (p + j) ≤ 57) → cdN T f p 0 < 10 ^ f := by
  intro f
  induction f with
  | zero => intro p _; exact (show 0 < 10 ^ 0 by decide)
  | succ f ih =>
    intro p h
    rw [cdN_s, Nat.pow_succ]
    have h1 := ih p (fun j hj => h j (by omega))
    have h2 := h f (by omega)
    omega
def srt (k : Nat) : Nat := if k < 28 then 2 else if k = 28 then 1 else if k = 29 then 3 else if k ≤ 44 then 4 else if k = 45 then 0 else 5
def sgC (k : Nat) : Nat := if k = 30 then 40 else if k = 31 then 41 else if k = 32 then 91 else if k = 33 then 93 else if k = 34 then 59 else if k = 35 then 44 else if k = 36 then 43 else if k = 37 then 45 else if k = 38 then 42 else if k = 39 then 47 else if k = 40 then 60 else if k = 41 then 62 else if k = 42 then 61 else if k = 43 then 108 else 103
def vlO (k c : Nat) (v : Int32) : Prop := (k < 28 → v = nI k) ∧ (k = 29 → v = nI c) ∧ (30 ≤ k → k ≤ 44 → v = nI (sgC k))
theorem srt0 : ∀ k, k < 47 → (srt k = 0 ↔ k = 45) ∧ (srt k = 5 ↔ k = 46) := by decide +kernel
theorem sgC_sym : ∀ c, c < 256 → ¬ symK c = 46 → sgC (symK c) = c ∧ symK c ≤ 42 := by decide +kernel
theorem symK_let : ∀ c, c < 256 → (97 ≤ c ∧ c ≤ 122) ∨ (48 ≤ c ∧ c ≤ 57) → symK c = 46 := by decide +kernel
set_option maxRecDepth 100000 in
set_option maxHeartbeats 4000000 in
theorem lp_readNumber {Γ : Cx} {T : Nat → Nat} {L : Nat} {d n p e : Nat} {I : MI} {J : MJ} {P : MP} (hT : rtO T L I) {Φ : State → Prop} (h : Vc RX12 cX12_readNumber 5 none (d + 1) Γ) (hrun : ∀ j, p ≤ j → j < e → 48 ≤ T j ∧ T j ≤ 57) (k : VG Γ 0 0 47 [some (.ref 80), some (.int (nI n)), some (.int (nI p)), some (.int (nI e)), some (.int (nI (cdN T (min (e - p) 6) p 0)))] [] I J P Φ) : ∀ (f q : Nat), p + 2000 ≤ q + f → p ≤ q → q ≤ L → nuE T L f q = e → VG Γ 0 0 5 [some (.ref 80), some (.int (nI n)), some (.int (nI p)), some (.int (nI q)), some (.int (nI (cdN T (min (q - p) 6) p 0)))] [] I J P Φ := by
  obtain ⟨t1, t2, t3⟩ := id hT
  have t4 : ∀ q, q < L → T q < 256 := fun q hq => (t3 q hq).2
  intro f
  induction f with
  | zero =>
    intro q hq hp hl he
    have e1 : q = e := he
    have nd : dgB T L q = false := by rw [dgB, decide_eq_false (by omega), Bool.false_and]
    refine g_aload_0 h dX12_readNumber_5 ?_
    refine g_iload_3 h dX12_readNumber_6 ?_
    refine g_cVi1 h rok0 mi_X12_byteAt dX12_readNumber_7 ml_X12_26 rfl rfl rfl (Nat.le_of_ble_eq_true rfl) (Nat.le_of_ble_eq_true rfl) (sp_X12_byteAt (by omega) hT ?_)
    refine g_cSi1 h rok0 mi_X12_isDigit dX12_readNumber_10 ml_X12_52 (Nat.le_of_ble_eq_true rfl) (Nat.le_of_ble_eq_true rfl) (sp_X12_isDigit ?_)
    rw [isDx_r (t4 q), nd]
    refine g_if_eq h 47 dX12_readNumber_13 rfl (fun _ => ?_) (fun c => absurd c (by decide))
    subst e1
    exact k
  | succ f ih =>
    intro q hq hp hl he
    rw [nuE] at he
    refine g_aload_0 h dX12_readNumber_5 ?_
    refine g_iload_3 h dX12_readNumber_6 ?_
    refine g_cVi1 h rok0 mi_X12_byteAt dX12_readNumber_7 ml_X12_26 rfl rfl rfl (Nat.le_of_ble_eq_true rfl) (Nat.le_of_ble_eq_true rfl) (sp_X12_byteAt (by omega) hT ?_)
    refine g_cSi1 h rok0 mi_X12_isDigit dX12_readNumber_10 ml_X12_52 (Nat.le_of_ble_eq_true rfl) (Nat.le_of_ble_eq_true rfl) (sp_X12_isDigit ?_)
    rw [isDx_r (t4 q)]
    refine g_if_eq h 47 dX12_readNumber_13 rfl (fun c13 => ?_) (fun c13 => ?_)
    · have q2 := b2i_0.mp c13
      rw [if_neg (by rw [q2]; decide)] at he
      subst he
      exact k
    · have hw : dgB T L q = true := b2i_n0.mp c13
      have w1 := dgB_lt hw
      rw [if_pos hw] at he
      have hqe : q + 1 ≤ e := by rw [← he]; exact (nuE_B (T := T) f (q + 1) (by omega)).1
      refine g_iload_3 h dX12_readNumber_16 ?_
      refine g_iload_2 h dX12_readNumber_17 ?_
      refine g_isub h dX12_readNumber_18 ?_
      rw [pk_sub hp]
      refine g_bipush h dX12_readNumber_19 (v := nI 6) rfl ?_
      refine g_icmp_ge h 41 dX12_readNumber_21 rfl (fun c21 => ?_) (fun c21 => ?_)
      · refine g_iinc_3 h dX12_readNumber_41 (inc1 _) (by decide) rfl ?_
        refine g_goto h 5 dX12_readNumber_44 rfl ?_
        first
          | (have q6 : q - p < 6 := Nat.lt_of_not_le (fun r => c21 (nI_le r (by omega)))
             have e6 : nI 10 * nI (cdN T (min (q - p) 6) p 0) + nI (T q) - nI 48 = nI (cdN T (min (q + 1 - p) 6) p 0) := by
               rw [show min (q - p) 6 = q - p by omega, show min (q + 1 - p) 6 = q - p + 1 by omega, pk_mul, nI_add, pk_sub (by omega), cdN_s, show p + (q - p) = q by omega]
               exact congrArg nI (by omega)
             rw [e6]
             exact ih (q + 1) (by omega) (by omega) w1.1 he)
          | (have q6 : 6 ≤ q - p := leN c21 (by decide) (by omega)
             rw [show min (q - p) 6 = min (q + 1 - p) 6 by omega]
             exact ih (q + 1) (by omega) (by omega) w1.1 he)
      · refine g_bipush h dX12_readNumber_24 (v := nI 10) rfl ?_
        refine g_iload_4 h dX12_readNumber_26 ?_
        refine g_imul h dX12_readNumber_28 ?_
        refine g_aload_0 h dX12_readNumber_29 ?_
        refine g_getC h fl_X12_18 dX12_readNumber_30 rfl rfl ?_
        refine g_iload_3 h dX12_readNumber_33 ?_
        refine g_iald h q dX12_readNumber_34 rfl rfl (by omega) ?_
        rw [(t3 q w1.1).1]
        refine g_iadd h dX12_readNumber_35 ?_
        refine g_bipush h dX12_readNumber_36 (v := nI 48) rfl ?_
        refine g_isub h dX12_readNumber_38 ?_
        refine g_istore_4 h dX12_readNumber_39 (by decide) rfl ?_
        refine g_iinc_3 h dX12_readNumber_41 (inc1 _) (by decide) rfl ?_
        refine g_goto h 5 dX12_readNumber_44 rfl ?_
        first
          | (have q6 : q - p < 6 := Nat.lt_of_not_le (fun r => c21 (nI_le r (by omega)))
             have e6 : nI 10 * nI (cdN T (min (q - p) 6) p 0) + nI (T q) - nI 48 = nI (cdN T (min (q + 1 - p) 6) p 0) := by
               rw [show min (q - p) 6 = q - p by omega, show min (q + 1 - p) 6 = q - p + 1 by omega, pk_mul, nI_add, pk_sub (by omega), cdN_s, show p + (q - p) = q by omega]
               exact congrArg nI (by omega)
             rw [e6]
             exact ih (q + 1) (by omega) (by omega) w1.1 he)
          | (have q6 : 6 ≤ q - p := leN c21 (by decide) (by omega)
             rw [show min (q - p) 6 = min (q + 1 - p) 6 by omega]
             exact ih (q + 1) (by omega) (by omega) w1.1 he)
set_option maxRecDepth 100000 in
set_option maxHeartbeats 4000000 in
theorem sp_X12_readNumber {T : Nat → Nat} {L : Nat} {d n p : Nat} (hn : n ≤ 400) (hp : p ≤ L) {I : MI} {J : MJ} {P : MP} (hT : rtO T L I) {Q : MI → MJ → MP → Prop} (hQ : ∀ I', rdF n I I' → I' 85 n = nI ((nuE T L 2000 p) - p) → I' 82 n = nI (if 6 < (nuE T L 2000 p) - p then 5 else 3) → (¬ 6 < (nuE T L 2000 p) - p → I' 83 n = nI (cdN T ((nuE T L 2000 p) - p) p 0)) → Q I' J P) : Sp yX12_readNumber cX12_readNumber 5 none (d + 1) [.ref 80, .int (nI n), .int (nI p)] I J P (Qv Q) := by
  obtain ⟨t1, t2, t3⟩ := id hT
  obtain ⟨w1, w2⟩ := nuE_B (T := T) 2000 p hp
  intro Γ h
  show VG Γ 0 0 0 [some (.ref 80), some (.int (nI n)), some (.int (nI p)), none, none] [] _ _ _ _
  refine g_iload_2 h dX12_readNumber_0 ?_
  refine g_istore_3 h dX12_readNumber_1 (by decide) rfl ?_
  refine g_iconst h dX12_readNumber_2 (v := nI 0) rfl ?_
  refine g_istore_4 h dX12_readNumber_3 (by decide) rfl ?_
  have k0 : nI 0 = nI (cdN T (min (p - p) 6) p 0) := by rw [Nat.sub_self]; rfl
  rw [k0]
  refine lp_readNumber (e := (nuE T L 2000 p)) hT h (fun j a b => (dgB_lt (nu_run (T := T) (L := L) 2000 p j a b)).2) ?_ 2000 p (by omega) (Nat.le_refl _) hp rfl
  refine g_aload_0 h dX12_readNumber_47 ?_
  refine g_getC h fl_X12_39 dX12_readNumber_48 rfl rfl ?_
  refine g_iload_1 h dX12_readNumber_51 ?_
  refine g_iload_3 h dX12_readNumber_52 ?_
  refine g_iload_2 h dX12_readNumber_53 ?_
  refine g_isub h dX12_readNumber_54 ?_
  rw [pk_sub w1]
  refine g_iast h n dX12_readNumber_55 rfl rfl (by omega) ?_
  refine g_aload_0 h dX12_readNumber_56 ?_
  refine g_getC h fl_X12_42 dX12_readNumber_57 rfl rfl ?_
  refine g_iload_1 h dX12_readNumber_60 ?_
  refine g_iload_4 h dX12_readNumber_61 ?_
  refine g_iast h n dX12_readNumber_63 rfl rfl (by omega) ?_
  refine g_aload_0 h dX12_readNumber_64 ?_
  refine g_getC h fl_X12_36 dX12_readNumber_65 rfl rfl ?_
  refine g_iload_1 h dX12_readNumber_68 ?_
  refine g_iload_3 h dX12_readNumber_69 ?_
  refine g_iload_2 h dX12_readNumber_70 ?_
  refine g_isub h dX12_readNumber_71 ?_
  rw [pk_sub w1]
  refine g_bipush h dX12_readNumber_72 (v := nI 6) rfl ?_
  refine g_icmp_le h 81 dX12_readNumber_74 rfl (fun c74 => ?_) (fun c74 => ?_)
  · refine g_iconst h dX12_readNumber_81 (v := nI 3) rfl ?_
    refine g_iast h n dX12_readNumber_82 rfl rfl (by omega) ?_
    refine g_vret h dX12_readNumber_83 ?_
    first
      | (refine hQ _ (rdF.up (Or.inl rfl) (rdF.up (Or.inr (Or.inl rfl)) (rdF.up (Or.inr (Or.inr rfl)) rdF.rf))) (by simp [up2]) ?_ (fun r => ?_)
         · rw [up2_s, if_neg (fun r => absurd c74 (nI_ge r (by omega)))]
         · rw [up2_o (by decide), up2_s, show min ((nuE T L 2000 p) - p) 6 = (nuE T L 2000 p) - p by omega])
      | (refine hQ _ (rdF.up (Or.inl rfl) (rdF.up (Or.inr (Or.inl rfl)) (rdF.up (Or.inr (Or.inr rfl)) rdF.rf))) (by simp [up2]) ?_ (fun r => ?_)
         · rw [up2_s, if_pos (Nat.lt_of_not_le (fun r => c74 (nI_le r (by decide))))]
         · rw [up2_o (by decide), up2_s, show min ((nuE T L 2000 p) - p) 6 = (nuE T L 2000 p) - p by omega])
  · refine g_iconst h dX12_readNumber_77 (v := nI 5) rfl ?_
    refine g_goto h 82 dX12_readNumber_78 rfl ?_
    refine g_iast h n dX12_readNumber_82 rfl rfl (by omega) ?_
    refine g_vret h dX12_readNumber_83 ?_
    first
      | (refine hQ _ (rdF.up (Or.inl rfl) (rdF.up (Or.inr (Or.inl rfl)) (rdF.up (Or.inr (Or.inr rfl)) rdF.rf))) (by simp [up2]) ?_ (fun r => ?_)
         · rw [up2_s, if_neg (fun r => absurd c74 (nI_ge r (by omega)))]
         · rw [up2_o (by decide), up2_s, show min ((nuE T L 2000 p) - p) 6 = (nuE T L 2000 p) - p by omega])
      | (refine hQ _ (rdF.up (Or.inl rfl) (rdF.up (Or.inr (Or.inl rfl)) (rdF.up (Or.inr (Or.inr rfl)) rdF.rf))) (by simp [up2]) ?_ (fun r => ?_)
         · rw [up2_s, if_pos (Nat.lt_of_not_le (fun r => c74 (nI_le r (by decide))))]
         · rw [up2_o (by decide), up2_s, show min ((nuE T L 2000 p) - p) 6 = (nuE T L 2000 p) - p by omega])
set_option maxRecDepth 100000 in
set_option maxHeartbeats 4000000 in
theorem lp_read65 {Γ : Cx} {T : Nat → Nat} {L : Nat} {d n p c : Nat} (hn : n ≤ 400) (hp : p ≤ L) (hc : c < 256) {I : MI} {J : MJ} {P : MP} (hT : rtO T L I) {Q : MI → MJ → MP → Prop} (h : Vc RX12 cX12_read 4 none (d + 6) Γ) (hQ : ∀ I', rdF n I I' → I' 82 n = (if symK c = 46 then I 82 n else nI 4) → (((c = 60 ∨ c = 62) ∧ p + 1 < L ∧ T (p + 1) = 61) → I' 85 n = nI 2 ∧ I' 83 n = nI (if c = 60 then 108 else 103)) → (¬ ((c = 60 ∨ c = 62) ∧ p + 1 < L ∧ T (p + 1) = 61) → I' 85 n = I 85 n ∧ I' 83 n = I 83 n) → Q I' J P) : VG Γ 0 0 65 [some (.ref 80), some (.int (nI n)), some (.int (nI p)), some (.int (nI c))] [] I J P (Fnl Γ (Qv Q)) := by
  have tL := hT.2.1
  have key : ∀ I1, rdF n I I1 → I1 82 n = (if symK c = 46 then I 82 n else nI 4) → I1 85 n = I 85 n → I1 83 n = I 83 n → VG Γ 0 0 150 [some (.ref 80), some (.int (nI n)), some (.int (nI p)), some (.int (nI c))] [] I1 J P (Fnl Γ (Qv Q)) := by
    intro I1 f1 f2 f3 f4
    have hT1 := f1.tp hT
    obtain ⟨t1, t2, t3⟩ := id hT1
    refine g_iload_3 h dX12_read_150 ?_
    refine g_bipush h dX12_read_151 (v := nI 60) rfl ?_
    refine g_icmp_eq h 162 dX12_read_153 rfl (fun c153 => ?_) (fun c153 => ?_)
    · refine g_aload_0 h dX12_read_162 ?_
      refine g_iload_2 h dX12_read_163 ?_
      refine g_iconst h dX12_read_164 (v := nI 1) rfl ?_
      refine g_iadd h dX12_read_165 ?_
      rw [show nI p + nI 1 = nI (p + 1) from nI_1 p]
      refine g_cVi1 h rok0 mi_X12_byteAt dX12_read_166 ml_X12_26 rfl rfl rfl (Nat.le_of_ble_eq_true rfl) (Nat.le_of_ble_eq_true rfl) (sp_X12_byteAt (by omega) hT1 ?_)
      refine g_bipush h dX12_read_169 (v := nI 61) rfl ?_
      refine g_icmp_ne h 200 dX12_read_171 rfl (fun c171 => ?_) (fun c171 => ?_)
      · refine g_vret h dX12_read_200 ?_
        first
          | (have q9 : ¬ ((c = 60 ∨ c = 62) ∧ p + 1 < L ∧ T (p + 1) = 61) := fun q => c171 (by rw [byR, if_pos q.2.1, q.2.2])
             exact hQ I1 f1 f2 (fun q => absurd q q9) (fun _ => ⟨f3, f4⟩))
          | (have q9 : ¬ ((c = 60 ∨ c = 62) ∧ p + 1 < L ∧ T (p + 1) = 61) := fun q => q.1.elim (fun r => c153 (by rw [r])) (fun r => c159 (by rw [r]))
             exact hQ I1 f1 f2 (fun q => absurd q q9) (fun _ => ⟨f3, f4⟩))
          | (have q0 : ¬ c = 60 := fun q => c189 (by rw [q])
             have q1 : c = 60 ∨ c = 62 := by
               first
                 | exact Or.inl (eqN c153 (by omega) (by decide))
                 | exact Or.inr (eqN (by first | exact c159 | exact Classical.not_not.mp c159) (by omega) (by decide))
             refine hQ _ (rdF.up (Or.inr (Or.inl rfl)) (rdF.up (Or.inr (Or.inr rfl)) f1)) (by rw [up2_o (by decide), up2_o (by decide)]; exact f2) (fun _ => ⟨by simp [up2], ?_⟩) (fun q => absurd ⟨q1, hD⟩ q)
             rw [up2_s, if_neg q0])
          | (have q0 : c = 60 := eqN (by first | exact c189 | exact Classical.not_not.mp c189) (by omega) (by decide)
             refine hQ _ (rdF.up (Or.inr (Or.inl rfl)) (rdF.up (Or.inr (Or.inr rfl)) f1)) (by rw [up2_o (by decide), up2_o (by decide)]; exact f2) (fun _ => ⟨by simp [up2], ?_⟩) (fun q => absurd ⟨Or.inl q0, hD⟩ q)
             rw [up2_s, if_pos q0])
      · have hD : p + 1 < L ∧ T (p + 1) = 61 := by
          have r : byR T L (p + 1) = nI 61 := by first | exact c171 | exact Classical.not_not.mp c171
          by_cases q : p + 1 < L
          · rw [byR, if_pos q] at r
            exact ⟨q, eqN r (by have := (t3 _ q).2; omega) (by decide)⟩
          · rw [byR, if_neg q] at r
            exact absurd r (by decide)
        refine g_aload_0 h dX12_read_174 ?_
        refine g_getC h fl_X12_39 dX12_read_175 rfl rfl ?_
        refine g_iload_1 h dX12_read_178 ?_
        refine g_iconst h dX12_read_179 (v := nI 2) rfl ?_
        refine g_iast h n dX12_read_180 rfl rfl (by omega) ?_
        refine g_aload_0 h dX12_read_181 ?_
        refine g_getC h fl_X12_42 dX12_read_182 rfl rfl ?_
        refine g_iload_1 h dX12_read_185 ?_
        refine g_iload_3 h dX12_read_186 ?_
        refine g_bipush h dX12_read_187 (v := nI 60) rfl ?_
        refine g_icmp_ne h 197 dX12_read_189 rfl (fun c189 => ?_) (fun c189 => ?_)
        · refine g_bipush h dX12_read_197 (v := nI 103) rfl ?_
          refine g_iast h n dX12_read_199 rfl rfl (by omega) ?_
          refine g_vret h dX12_read_200 ?_
          first
            | (have q9 : ¬ ((c = 60 ∨ c = 62) ∧ p + 1 < L ∧ T (p + 1) = 61) := fun q => c171 (by rw [byR, if_pos q.2.1, q.2.2])
               exact hQ I1 f1 f2 (fun q => absurd q q9) (fun _ => ⟨f3, f4⟩))
            | (have q9 : ¬ ((c = 60 ∨ c = 62) ∧ p + 1 < L ∧ T (p + 1) = 61) := fun q => q.1.elim (fun r => c153 (by rw [r])) (fun r => c159 (by rw [r]))
               exact hQ I1 f1 f2 (fun q => absurd q q9) (fun _ => ⟨f3, f4⟩))
            | (have q0 : ¬ c = 60 := fun q => c189 (by rw [q])
               have q1 : c = 60 ∨ c = 62 := by
                 first
                   | exact Or.inl (eqN c153 (by omega) (by decide))
                   | exact Or.inr (eqN (by first | exact c159 | exact Classical.not_not.mp c159) (by omega) (by decide))
               refine hQ _ (rdF.up (Or.inr (Or.inl rfl)) (rdF.up (Or.inr (Or.inr rfl)) f1)) (by rw [up2_o (by decide), up2_o (by decide)]; exact f2) (fun _ => ⟨by simp [up2], ?_⟩) (fun q => absurd ⟨q1, hD⟩ q)
               rw [up2_s, if_neg q0])
            | (have q0 : c = 60 := eqN (by first | exact c189 | exact Classical.not_not.mp c189) (by omega) (by decide)
               refine hQ _ (rdF.up (Or.inr (Or.inl rfl)) (rdF.up (Or.inr (Or.inr rfl)) f1)) (by rw [up2_o (by decide), up2_o (by decide)]; exact f2) (fun _ => ⟨by simp [up2], ?_⟩) (fun q => absurd ⟨Or.inl q0, hD⟩ q)
               rw [up2_s, if_pos q0])
        · refine g_bipush h dX12_read_192 (v := nI 108) rfl ?_
          refine g_goto h 199 dX12_read_194 rfl ?_
          refine g_iast h n dX12_read_199 rfl rfl (by omega) ?_
          refine g_vret h dX12_read_200 ?_
          first
            | (have q9 : ¬ ((c = 60 ∨ c = 62) ∧ p + 1 < L ∧ T (p + 1) = 61) := fun q => c171 (by rw [byR, if_pos q.2.1, q.2.2])
               exact hQ I1 f1 f2 (fun q => absurd q q9) (fun _ => ⟨f3, f4⟩))
            | (have q9 : ¬ ((c = 60 ∨ c = 62) ∧ p + 1 < L ∧ T (p + 1) = 61) := fun q => q.1.elim (fun r => c153 (by rw [r])) (fun r => c159 (by rw [r]))
               exact hQ I1 f1 f2 (fun q => absurd q q9) (fun _ => ⟨f3, f4⟩))
            | (have q0 : ¬ c = 60 := fun q => c189 (by rw [q])
               have q1 : c = 60 ∨ c = 62 := by
                 first
                   | exact Or.inl (eqN c153 (by omega) (by decide))
                   | exact Or.inr (eqN (by first | exact c159 | exact Classical.not_not.mp c159) (by omega) (by decide))
               refine hQ _ (rdF.up (Or.inr (Or.inl rfl)) (rdF.up (Or.inr (Or.inr rfl)) f1)) (by rw [up2_o (by decide), up2_o (by decide)]; exact f2) (fun _ => ⟨by simp [up2], ?_⟩) (fun q => absurd ⟨q1, hD⟩ q)
               rw [up2_s, if_neg q0])
            | (have q0 : c = 60 := eqN (by first | exact c189 | exact Classical.not_not.mp c189) (by omega) (by decide)
               refine hQ _ (rdF.up (Or.inr (Or.inl rfl)) (rdF.up (Or.inr (Or.inr rfl)) f1)) (by rw [up2_o (by decide), up2_o (by decide)]; exact f2) (fun _ => ⟨by simp [up2], ?_⟩) (fun q => absurd ⟨Or.inl q0, hD⟩ q)
               rw [up2_s, if_pos q0])
    · refine g_iload_3 h dX12_read_156 ?_
      refine g_bipush h dX12_read_157 (v := nI 62) rfl ?_
      refine g_icmp_ne h 200 dX12_read_159 rfl (fun c159 => ?_) (fun c159 => ?_)
      · refine g_vret h dX12_read_200 ?_
        first
          | (have q9 : ¬ ((c = 60 ∨ c = 62) ∧ p + 1 < L ∧ T (p + 1) = 61) := fun q => c171 (by rw [byR, if_pos q.2.1, q.2.2])
             exact hQ I1 f1 f2 (fun q => absurd q q9) (fun _ => ⟨f3, f4⟩))
          | (have q9 : ¬ ((c = 60 ∨ c = 62) ∧ p + 1 < L ∧ T (p + 1) = 61) := fun q => q.1.elim (fun r => c153 (by rw [r])) (fun r => c159 (by rw [r]))
             exact hQ I1 f1 f2 (fun q => absurd q q9) (fun _ => ⟨f3, f4⟩))
          | (have q0 : ¬ c = 60 := fun q => c189 (by rw [q])
             have q1 : c = 60 ∨ c = 62 := by
               first
                 | exact Or.inl (eqN c153 (by omega) (by decide))
                 | exact Or.inr (eqN (by first | exact c159 | exact Classical.not_not.mp c159) (by omega) (by decide))
             refine hQ _ (rdF.up (Or.inr (Or.inl rfl)) (rdF.up (Or.inr (Or.inr rfl)) f1)) (by rw [up2_o (by decide), up2_o (by decide)]; exact f2) (fun _ => ⟨by simp [up2], ?_⟩) (fun q => absurd ⟨q1, hD⟩ q)
             rw [up2_s, if_neg q0])
          | (have q0 : c = 60 := eqN (by first | exact c189 | exact Classical.not_not.mp c189) (by omega) (by decide)
             refine hQ _ (rdF.up (Or.inr (Or.inl rfl)) (rdF.up (Or.inr (Or.inr rfl)) f1)) (by rw [up2_o (by decide), up2_o (by decide)]; exact f2) (fun _ => ⟨by simp [up2], ?_⟩) (fun q => absurd ⟨Or.inl q0, hD⟩ q)
             rw [up2_s, if_pos q0])
      · refine g_aload_0 h dX12_read_162 ?_
        refine g_iload_2 h dX12_read_163 ?_
        refine g_iconst h dX12_read_164 (v := nI 1) rfl ?_
        refine g_iadd h dX12_read_165 ?_
        rw [show nI p + nI 1 = nI (p + 1) from nI_1 p]
        refine g_cVi1 h rok0 mi_X12_byteAt dX12_read_166 ml_X12_26 rfl rfl rfl (Nat.le_of_ble_eq_true rfl) (Nat.le_of_ble_eq_true rfl) (sp_X12_byteAt (by omega) hT1 ?_)
        refine g_bipush h dX12_read_169 (v := nI 61) rfl ?_
        refine g_icmp_ne h 200 dX12_read_171 rfl (fun c171 => ?_) (fun c171 => ?_)
        · refine g_vret h dX12_read_200 ?_
          first
            | (have q9 : ¬ ((c = 60 ∨ c = 62) ∧ p + 1 < L ∧ T (p + 1) = 61) := fun q => c171 (by rw [byR, if_pos q.2.1, q.2.2])
               exact hQ I1 f1 f2 (fun q => absurd q q9) (fun _ => ⟨f3, f4⟩))
            | (have q9 : ¬ ((c = 60 ∨ c = 62) ∧ p + 1 < L ∧ T (p + 1) = 61) := fun q => q.1.elim (fun r => c153 (by rw [r])) (fun r => c159 (by rw [r]))
               exact hQ I1 f1 f2 (fun q => absurd q q9) (fun _ => ⟨f3, f4⟩))
            | (have q0 : ¬ c = 60 := fun q => c189 (by rw [q])
               have q1 : c = 60 ∨ c = 62 := by
                 first
                   | exact Or.inl (eqN c153 (by omega) (by decide))
                   | exact Or.inr (eqN (by first | exact c159 | exact Classical.not_not.mp c159) (by omega) (by decide))
               refine hQ _ (rdF.up (Or.inr (Or.inl rfl)) (rdF.up (Or.inr (Or.inr rfl)) f1)) (by rw [up2_o (by decide), up2_o (by decide)]; exact f2) (fun _ => ⟨by simp [up2], ?_⟩) (fun q => absurd ⟨q1, hD⟩ q)
               rw [up2_s, if_neg q0])
            | (have q0 : c = 60 := eqN (by first | exact c189 | exact Classical.not_not.mp c189) (by omega) (by decide)
               refine hQ _ (rdF.up (Or.inr (Or.inl rfl)) (rdF.up (Or.inr (Or.inr rfl)) f1)) (by rw [up2_o (by decide), up2_o (by decide)]; exact f2) (fun _ => ⟨by simp [up2], ?_⟩) (fun q => absurd ⟨Or.inl q0, hD⟩ q)
               rw [up2_s, if_pos q0])
        · have hD : p + 1 < L ∧ T (p + 1) = 61 := by
            have r : byR T L (p + 1) = nI 61 := by first | exact c171 | exact Classical.not_not.mp c171
            by_cases q : p + 1 < L
            · rw [byR, if_pos q] at r
              exact ⟨q, eqN r (by have := (t3 _ q).2; omega) (by decide)⟩
            · rw [byR, if_neg q] at r
              exact absurd r (by decide)
          refine g_aload_0 h dX12_read_174 ?_
          refine g_getC h fl_X12_39 dX12_read_175 rfl rfl ?_
          refine g_iload_1 h dX12_read_178 ?_
          refine g_iconst h dX12_read_179 (v := nI 2) rfl ?_
          refine g_iast h n dX12_read_180 rfl rfl (by omega) ?_
          refine g_aload_0 h dX12_read_181 ?_
          refine g_getC h fl_X12_42 dX12_read_182 rfl rfl ?_
          refine g_iload_1 h dX12_read_185 ?_
          refine g_iload_3 h dX12_read_186 ?_
          refine g_bipush h dX12_read_187 (v := nI 60) rfl ?_
          refine g_icmp_ne h 197 dX12_read_189 rfl (fun c189 => ?_) (fun c189 => ?_)
          · refine g_bipush h dX12_read_197 (v := nI 103) rfl ?_
            refine g_iast h n dX12_read_199 rfl rfl (by omega) ?_
            refine g_vret h dX12_read_200 ?_
            first
              | (have q9 : ¬ ((c = 60 ∨ c = 62) ∧ p + 1 < L ∧ T (p + 1) = 61) := fun q => c171 (by rw [byR, if_pos q.2.1, q.2.2])
                 exact hQ I1 f1 f2 (fun q => absurd q q9) (fun _ => ⟨f3, f4⟩))
              | (have q9 : ¬ ((c = 60 ∨ c = 62) ∧ p + 1 < L ∧ T (p + 1) = 61) := fun q => q.1.elim (fun r => c153 (by rw [r])) (fun r => c159 (by rw [r]))
                 exact hQ I1 f1 f2 (fun q => absurd q q9) (fun _ => ⟨f3, f4⟩))
              | (have q0 : ¬ c = 60 := fun q => c189 (by rw [q])
                 have q1 : c = 60 ∨ c = 62 := by
                   first
                     | exact Or.inl (eqN c153 (by omega) (by decide))
                     | exact Or.inr (eqN (by first | exact c159 | exact Classical.not_not.mp c159) (by omega) (by decide))
                 refine hQ _ (rdF.up (Or.inr (Or.inl rfl)) (rdF.up (Or.inr (Or.inr rfl)) f1)) (by rw [up2_o (by decide), up2_o (by decide)]; exact f2) (fun _ => ⟨by simp [up2], ?_⟩) (fun q => absurd ⟨q1, hD⟩ q)
                 rw [up2_s, if_neg q0])
              | (have q0 : c = 60 := eqN (by first | exact c189 | exact Classical.not_not.mp c189) (by omega) (by decide)
                 refine hQ _ (rdF.up (Or.inr (Or.inl rfl)) (rdF.up (Or.inr (Or.inr rfl)) f1)) (by rw [up2_o (by decide), up2_o (by decide)]; exact f2) (fun _ => ⟨by simp [up2], ?_⟩) (fun q => absurd ⟨Or.inl q0, hD⟩ q)
                 rw [up2_s, if_pos q0])
          · refine g_bipush h dX12_read_192 (v := nI 108) rfl ?_
            refine g_goto h 199 dX12_read_194 rfl ?_
            refine g_iast h n dX12_read_199 rfl rfl (by omega) ?_
            refine g_vret h dX12_read_200 ?_
            first
              | (have q9 : ¬ ((c = 60 ∨ c = 62) ∧ p + 1 < L ∧ T (p + 1) = 61) := fun q => c171 (by rw [byR, if_pos q.2.1, q.2.2])
                 exact hQ I1 f1 f2 (fun q => absurd q q9) (fun _ => ⟨f3, f4⟩))
              | (have q9 : ¬ ((c = 60 ∨ c = 62) ∧ p + 1 < L ∧ T (p + 1) = 61) := fun q => q.1.elim (fun r => c153 (by rw [r])) (fun r => c159 (by rw [r]))
                 exact hQ I1 f1 f2 (fun q => absurd q q9) (fun _ => ⟨f3, f4⟩))
              | (have q0 : ¬ c = 60 := fun q => c189 (by rw [q])
                 have q1 : c = 60 ∨ c = 62 := by
                   first
                     | exact Or.inl (eqN c153 (by omega) (by decide))
                     | exact Or.inr (eqN (by first | exact c159 | exact Classical.not_not.mp c159) (by omega) (by decide))
                 refine hQ _ (rdF.up (Or.inr (Or.inl rfl)) (rdF.up (Or.inr (Or.inr rfl)) f1)) (by rw [up2_o (by decide), up2_o (by decide)]; exact f2) (fun _ => ⟨by simp [up2], ?_⟩) (fun q => absurd ⟨q1, hD⟩ q)
                 rw [up2_s, if_neg q0])
              | (have q0 : c = 60 := eqN (by first | exact c189 | exact Classical.not_not.mp c189) (by omega) (by decide)
                 refine hQ _ (rdF.up (Or.inr (Or.inl rfl)) (rdF.up (Or.inr (Or.inr rfl)) f1)) (by rw [up2_o (by decide), up2_o (by decide)]; exact f2) (fun _ => ⟨by simp [up2], ?_⟩) (fun q => absurd ⟨Or.inl q0, hD⟩ q)
                 rw [up2_s, if_pos q0])
  have k143 : ¬ symK c = 46 → VG Γ 0 0 143 [some (.ref 80), some (.int (nI n)), some (.int (nI p)), some (.int (nI c))] [] I J P (Fnl Γ (Qv Q)) := by
    intro hs
    refine g_aload_0 h dX12_read_143 ?_
    refine g_getC h fl_X12_36 dX12_read_144 rfl rfl ?_
    refine g_iload_1 h dX12_read_147 ?_
    refine g_iconst h dX12_read_148 (v := nI 4) rfl ?_
    refine g_iast h n dX12_read_149 rfl rfl (by omega) ?_
    exact key _ (rdF.up (Or.inl rfl) rdF.rf) (by rw [up2_s, if_neg hs]) (by simp [up2]) (by simp [up2])
  refine g_iload_3 h dX12_read_65 ?_
  refine g_bipush h dX12_read_66 (v := nI 40) rfl ?_
  refine g_icmp_eq h 143 dX12_read_68 rfl (fun c68 => ?_) (fun c68 => ?_)
  · first
      | exact k143 (by have := eqN c68 (by omega) (by decide); rw [this]; decide)
      | exact k143 (by have := eqN c74 (by omega) (by decide); rw [this]; decide)
      | exact k143 (by have := eqN c80 (by omega) (by decide); rw [this]; decide)
      | exact k143 (by have := eqN c86 (by omega) (by decide); rw [this]; decide)
      | exact k143 (by have := eqN c92 (by omega) (by decide); rw [this]; decide)
      | exact k143 (by have := eqN c98 (by omega) (by decide); rw [this]; decide)
      | exact k143 (by have := eqN c104 (by omega) (by decide); rw [this]; decide)
      | exact k143 (by have := eqN c110 (by omega) (by decide); rw [this]; decide)
      | exact k143 (by have := eqN c116 (by omega) (by decide); rw [this]; decide)
      | exact k143 (by have := eqN c122 (by omega) (by decide); rw [this]; decide)
      | exact k143 (by have := eqN c128 (by omega) (by decide); rw [this]; decide)
      | exact k143 (by have := eqN c134 (by omega) (by decide); rw [this]; decide)
      | exact k143 (by have := eqN (by first | exact c140 | exact Classical.not_not.mp c140) (show c < 2 ^ 31 by omega) (show 61 < 2 ^ 31 by decide); rw [this]; decide)
  · refine g_iload_3 h dX12_read_71 ?_
    refine g_bipush h dX12_read_72 (v := nI 41) rfl ?_
    refine g_icmp_eq h 143 dX12_read_74 rfl (fun c74 => ?_) (fun c74 => ?_)
    · first
        | exact k143 (by have := eqN c68 (by omega) (by decide); rw [this]; decide)
        | exact k143 (by have := eqN c74 (by omega) (by decide); rw [this]; decide)
        | exact k143 (by have := eqN c80 (by omega) (by decide); rw [this]; decide)
        | exact k143 (by have := eqN c86 (by omega) (by decide); rw [this]; decide)
        | exact k143 (by have := eqN c92 (by omega) (by decide); rw [this]; decide)
        | exact k143 (by have := eqN c98 (by omega) (by decide); rw [this]; decide)
        | exact k143 (by have := eqN c104 (by omega) (by decide); rw [this]; decide)
        | exact k143 (by have := eqN c110 (by omega) (by decide); rw [this]; decide)
        | exact k143 (by have := eqN c116 (by omega) (by decide); rw [this]; decide)
        | exact k143 (by have := eqN c122 (by omega) (by decide); rw [this]; decide)
        | exact k143 (by have := eqN c128 (by omega) (by decide); rw [this]; decide)
        | exact k143 (by have := eqN c134 (by omega) (by decide); rw [this]; decide)
        | exact k143 (by have := eqN (by first | exact c140 | exact Classical.not_not.mp c140) (show c < 2 ^ 31 by omega) (show 61 < 2 ^ 31 by decide); rw [this]; decide)
    · refine g_iload_3 h dX12_read_77 ?_
      refine g_bipush h dX12_read_78 (v := nI 91) rfl ?_
      refine g_icmp_eq h 143 dX12_read_80 rfl (fun c80 => ?_) (fun c80 => ?_)
      · first
          | exact k143 (by have := eqN c68 (by omega) (by decide); rw [this]; decide)
          | exact k143 (by have := eqN c74 (by omega) (by decide); rw [this]; decide)
          | exact k143 (by have := eqN c80 (by omega) (by decide); rw [this]; decide)
          | exact k143 (by have := eqN c86 (by omega) (by decide); rw [this]; decide)
          | exact k143 (by have := eqN c92 (by omega) (by decide); rw [this]; decide)
          | exact k143 (by have := eqN c98 (by omega) (by decide); rw [this]; decide)
          | exact k143 (by have := eqN c104 (by omega) (by decide); rw [this]; decide)
          | exact k143 (by have := eqN c110 (by omega) (by decide); rw [this]; decide)
          | exact k143 (by have := eqN c116 (by omega) (by decide); rw [this]; decide)
          | exact k143 (by have := eqN c122 (by omega) (by decide); rw [this]; decide)
          | exact k143 (by have := eqN c128 (by omega) (by decide); rw [this]; decide)
          | exact k143 (by have := eqN c134 (by omega) (by decide); rw [this]; decide)
          | exact k143 (by have := eqN (by first | exact c140 | exact Classical.not_not.mp c140) (show c < 2 ^ 31 by omega) (show 61 < 2 ^ 31 by decide); rw [this]; decide)
      · refine g_iload_3 h dX12_read_83 ?_
        refine g_bipush h dX12_read_84 (v := nI 93) rfl ?_
        refine g_icmp_eq h 143 dX12_read_86 rfl (fun c86 => ?_) (fun c86 => ?_)
        · first
            | exact k143 (by have := eqN c68 (by omega) (by decide); rw [this]; decide)
            | exact k143 (by have := eqN c74 (by omega) (by decide); rw [this]; decide)
            | exact k143 (by have := eqN c80 (by omega) (by decide); rw [this]; decide)
            | exact k143 (by have := eqN c86 (by omega) (by decide); rw [this]; decide)
            | exact k143 (by have := eqN c92 (by omega) (by decide); rw [this]; decide)
            | exact k143 (by have := eqN c98 (by omega) (by decide); rw [this]; decide)
            | exact k143 (by have := eqN c104 (by omega) (by decide); rw [this]; decide)
            | exact k143 (by have := eqN c110 (by omega) (by decide); rw [this]; decide)
            | exact k143 (by have := eqN c116 (by omega) (by decide); rw [this]; decide)
            | exact k143 (by have := eqN c122 (by omega) (by decide); rw [this]; decide)
            | exact k143 (by have := eqN c128 (by omega) (by decide); rw [this]; decide)
            | exact k143 (by have := eqN c134 (by omega) (by decide); rw [this]; decide)
            | exact k143 (by have := eqN (by first | exact c140 | exact Classical.not_not.mp c140) (show c < 2 ^ 31 by omega) (show 61 < 2 ^ 31 by decide); rw [this]; decide)
        · refine g_iload_3 h dX12_read_89 ?_
          refine g_bipush h dX12_read_90 (v := nI 59) rfl ?_
          refine g_icmp_eq h 143 dX12_read_92 rfl (fun c92 => ?_) (fun c92 => ?_)
          · first
              | exact k143 (by have := eqN c68 (by omega) (by decide); rw [this]; decide)
              | exact k143 (by have := eqN c74 (by omega) (by decide); rw [this]; decide)
              | exact k143 (by have := eqN c80 (by omega) (by decide); rw [this]; decide)
              | exact k143 (by have := eqN c86 (by omega) (by decide); rw [this]; decide)
              | exact k143 (by have := eqN c92 (by omega) (by decide); rw [this]; decide)
              | exact k143 (by have := eqN c98 (by omega) (by decide); rw [this]; decide)
              | exact k143 (by have := eqN c104 (by omega) (by decide); rw [this]; decide)
              | exact k143 (by have := eqN c110 (by omega) (by decide); rw [this]; decide)
              | exact k143 (by have := eqN c116 (by omega) (by decide); rw [this]; decide)
              | exact k143 (by have := eqN c122 (by omega) (by decide); rw [this]; decide)
              | exact k143 (by have := eqN c128 (by omega) (by decide); rw [this]; decide)
              | exact k143 (by have := eqN c134 (by omega) (by decide); rw [this]; decide)
              | exact k143 (by have := eqN (by first | exact c140 | exact Classical.not_not.mp c140) (show c < 2 ^ 31 by omega) (show 61 < 2 ^ 31 by decide); rw [this]; decide)
          · refine g_iload_3 h dX12_read_95 ?_
            refine g_bipush h dX12_read_96 (v := nI 44) rfl ?_
            refine g_icmp_eq h 143 dX12_read_98 rfl (fun c98 => ?_) (fun c98 => ?_)
            · first
                | exact k143 (by have := eqN c68 (by omega) (by decide); rw [this]; decide)
                | exact k143 (by have := eqN c74 (by omega) (by decide); rw [this]; decide)
                | exact k143 (by have := eqN c80 (by omega) (by decide); rw [this]; decide)
                | exact k143 (by have := eqN c86 (by omega) (by decide); rw [this]; decide)
                | exact k143 (by have := eqN c92 (by omega) (by decide); rw [this]; decide)
                | exact k143 (by have := eqN c98 (by omega) (by decide); rw [this]; decide)
                | exact k143 (by have := eqN c104 (by omega) (by decide); rw [this]; decide)
                | exact k143 (by have := eqN c110 (by omega) (by decide); rw [this]; decide)
                | exact k143 (by have := eqN c116 (by omega) (by decide); rw [this]; decide)
                | exact k143 (by have := eqN c122 (by omega) (by decide); rw [this]; decide)
                | exact k143 (by have := eqN c128 (by omega) (by decide); rw [this]; decide)
                | exact k143 (by have := eqN c134 (by omega) (by decide); rw [this]; decide)
                | exact k143 (by have := eqN (by first | exact c140 | exact Classical.not_not.mp c140) (show c < 2 ^ 31 by omega) (show 61 < 2 ^ 31 by decide); rw [this]; decide)
            · refine g_iload_3 h dX12_read_101 ?_
              refine g_bipush h dX12_read_102 (v := nI 43) rfl ?_
              refine g_icmp_eq h 143 dX12_read_104 rfl (fun c104 => ?_) (fun c104 => ?_)
              · first
                  | exact k143 (by have := eqN c68 (by omega) (by decide); rw [this]; decide)
                  | exact k143 (by have := eqN c74 (by omega) (by decide); rw [this]; decide)
                  | exact k143 (by have := eqN c80 (by omega) (by decide); rw [this]; decide)
                  | exact k143 (by have := eqN c86 (by omega) (by decide); rw [this]; decide)
                  | exact k143 (by have := eqN c92 (by omega) (by decide); rw [this]; decide)
                  | exact k143 (by have := eqN c98 (by omega) (by decide); rw [this]; decide)
                  | exact k143 (by have := eqN c104 (by omega) (by decide); rw [this]; decide)
                  | exact k143 (by have := eqN c110 (by omega) (by decide); rw [this]; decide)
                  | exact k143 (by have := eqN c116 (by omega) (by decide); rw [this]; decide)
                  | exact k143 (by have := eqN c122 (by omega) (by decide); rw [this]; decide)
                  | exact k143 (by have := eqN c128 (by omega) (by decide); rw [this]; decide)
                  | exact k143 (by have := eqN c134 (by omega) (by decide); rw [this]; decide)
                  | exact k143 (by have := eqN (by first | exact c140 | exact Classical.not_not.mp c140) (show c < 2 ^ 31 by omega) (show 61 < 2 ^ 31 by decide); rw [this]; decide)
              · refine g_iload_3 h dX12_read_107 ?_
                refine g_bipush h dX12_read_108 (v := nI 45) rfl ?_
                refine g_icmp_eq h 143 dX12_read_110 rfl (fun c110 => ?_) (fun c110 => ?_)
                · first
                    | exact k143 (by have := eqN c68 (by omega) (by decide); rw [this]; decide)
                    | exact k143 (by have := eqN c74 (by omega) (by decide); rw [this]; decide)
                    | exact k143 (by have := eqN c80 (by omega) (by decide); rw [this]; decide)
                    | exact k143 (by have := eqN c86 (by omega) (by decide); rw [this]; decide)
                    | exact k143 (by have := eqN c92 (by omega) (by decide); rw [this]; decide)
                    | exact k143 (by have := eqN c98 (by omega) (by decide); rw [this]; decide)
                    | exact k143 (by have := eqN c104 (by omega) (by decide); rw [this]; decide)
                    | exact k143 (by have := eqN c110 (by omega) (by decide); rw [this]; decide)
                    | exact k143 (by have := eqN c116 (by omega) (by decide); rw [this]; decide)
                    | exact k143 (by have := eqN c122 (by omega) (by decide); rw [this]; decide)
                    | exact k143 (by have := eqN c128 (by omega) (by decide); rw [this]; decide)
                    | exact k143 (by have := eqN c134 (by omega) (by decide); rw [this]; decide)
                    | exact k143 (by have := eqN (by first | exact c140 | exact Classical.not_not.mp c140) (show c < 2 ^ 31 by omega) (show 61 < 2 ^ 31 by decide); rw [this]; decide)
                · refine g_iload_3 h dX12_read_113 ?_
                  refine g_bipush h dX12_read_114 (v := nI 42) rfl ?_
                  refine g_icmp_eq h 143 dX12_read_116 rfl (fun c116 => ?_) (fun c116 => ?_)
                  · first
                      | exact k143 (by have := eqN c68 (by omega) (by decide); rw [this]; decide)
                      | exact k143 (by have := eqN c74 (by omega) (by decide); rw [this]; decide)
                      | exact k143 (by have := eqN c80 (by omega) (by decide); rw [this]; decide)
                      | exact k143 (by have := eqN c86 (by omega) (by decide); rw [this]; decide)
                      | exact k143 (by have := eqN c92 (by omega) (by decide); rw [this]; decide)
                      | exact k143 (by have := eqN c98 (by omega) (by decide); rw [this]; decide)
                      | exact k143 (by have := eqN c104 (by omega) (by decide); rw [this]; decide)
                      | exact k143 (by have := eqN c110 (by omega) (by decide); rw [this]; decide)
                      | exact k143 (by have := eqN c116 (by omega) (by decide); rw [this]; decide)
                      | exact k143 (by have := eqN c122 (by omega) (by decide); rw [this]; decide)
                      | exact k143 (by have := eqN c128 (by omega) (by decide); rw [this]; decide)
                      | exact k143 (by have := eqN c134 (by omega) (by decide); rw [this]; decide)
                      | exact k143 (by have := eqN (by first | exact c140 | exact Classical.not_not.mp c140) (show c < 2 ^ 31 by omega) (show 61 < 2 ^ 31 by decide); rw [this]; decide)
                  · refine g_iload_3 h dX12_read_119 ?_
                    refine g_bipush h dX12_read_120 (v := nI 47) rfl ?_
                    refine g_icmp_eq h 143 dX12_read_122 rfl (fun c122 => ?_) (fun c122 => ?_)
                    · first
                        | exact k143 (by have := eqN c68 (by omega) (by decide); rw [this]; decide)
                        | exact k143 (by have := eqN c74 (by omega) (by decide); rw [this]; decide)
                        | exact k143 (by have := eqN c80 (by omega) (by decide); rw [this]; decide)
                        | exact k143 (by have := eqN c86 (by omega) (by decide); rw [this]; decide)
                        | exact k143 (by have := eqN c92 (by omega) (by decide); rw [this]; decide)
                        | exact k143 (by have := eqN c98 (by omega) (by decide); rw [this]; decide)
                        | exact k143 (by have := eqN c104 (by omega) (by decide); rw [this]; decide)
                        | exact k143 (by have := eqN c110 (by omega) (by decide); rw [this]; decide)
                        | exact k143 (by have := eqN c116 (by omega) (by decide); rw [this]; decide)
                        | exact k143 (by have := eqN c122 (by omega) (by decide); rw [this]; decide)
                        | exact k143 (by have := eqN c128 (by omega) (by decide); rw [this]; decide)
                        | exact k143 (by have := eqN c134 (by omega) (by decide); rw [this]; decide)
                        | exact k143 (by have := eqN (by first | exact c140 | exact Classical.not_not.mp c140) (show c < 2 ^ 31 by omega) (show 61 < 2 ^ 31 by decide); rw [this]; decide)
                    · refine g_iload_3 h dX12_read_125 ?_
                      refine g_bipush h dX12_read_126 (v := nI 60) rfl ?_
                      refine g_icmp_eq h 143 dX12_read_128 rfl (fun c128 => ?_) (fun c128 => ?_)
                      · first
                          | exact k143 (by have := eqN c68 (by omega) (by decide); rw [this]; decide)
                          | exact k143 (by have := eqN c74 (by omega) (by decide); rw [this]; decide)
                          | exact k143 (by have := eqN c80 (by omega) (by decide); rw [this]; decide)
                          | exact k143 (by have := eqN c86 (by omega) (by decide); rw [this]; decide)
                          | exact k143 (by have := eqN c92 (by omega) (by decide); rw [this]; decide)
                          | exact k143 (by have := eqN c98 (by omega) (by decide); rw [this]; decide)
                          | exact k143 (by have := eqN c104 (by omega) (by decide); rw [this]; decide)
                          | exact k143 (by have := eqN c110 (by omega) (by decide); rw [this]; decide)
                          | exact k143 (by have := eqN c116 (by omega) (by decide); rw [this]; decide)
                          | exact k143 (by have := eqN c122 (by omega) (by decide); rw [this]; decide)
                          | exact k143 (by have := eqN c128 (by omega) (by decide); rw [this]; decide)
                          | exact k143 (by have := eqN c134 (by omega) (by decide); rw [this]; decide)
                          | exact k143 (by have := eqN (by first | exact c140 | exact Classical.not_not.mp c140) (show c < 2 ^ 31 by omega) (show 61 < 2 ^ 31 by decide); rw [this]; decide)
                      · refine g_iload_3 h dX12_read_131 ?_
                        refine g_bipush h dX12_read_132 (v := nI 62) rfl ?_
                        refine g_icmp_eq h 143 dX12_read_134 rfl (fun c134 => ?_) (fun c134 => ?_)
                        · first
                            | exact k143 (by have := eqN c68 (by omega) (by decide); rw [this]; decide)
                            | exact k143 (by have := eqN c74 (by omega) (by decide); rw [this]; decide)
                            | exact k143 (by have := eqN c80 (by omega) (by decide); rw [this]; decide)
                            | exact k143 (by have := eqN c86 (by omega) (by decide); rw [this]; decide)
                            | exact k143 (by have := eqN c92 (by omega) (by decide); rw [this]; decide)
                            | exact k143 (by have := eqN c98 (by omega) (by decide); rw [this]; decide)
                            | exact k143 (by have := eqN c104 (by omega) (by decide); rw [this]; decide)
                            | exact k143 (by have := eqN c110 (by omega) (by decide); rw [this]; decide)
                            | exact k143 (by have := eqN c116 (by omega) (by decide); rw [this]; decide)
                            | exact k143 (by have := eqN c122 (by omega) (by decide); rw [this]; decide)
                            | exact k143 (by have := eqN c128 (by omega) (by decide); rw [this]; decide)
                            | exact k143 (by have := eqN c134 (by omega) (by decide); rw [this]; decide)
                            | exact k143 (by have := eqN (by first | exact c140 | exact Classical.not_not.mp c140) (show c < 2 ^ 31 by omega) (show 61 < 2 ^ 31 by decide); rw [this]; decide)
                        · refine g_iload_3 h dX12_read_137 ?_
                          refine g_bipush h dX12_read_138 (v := nI 61) rfl ?_
                          refine g_icmp_ne h 150 dX12_read_140 rfl (fun c140 => ?_) (fun c140 => ?_)
                          · have hs : symK c = 46 := by
                              have z68 : ¬ c = 40 := fun q => c68 (by rw [q])
                              have z74 : ¬ c = 41 := fun q => c74 (by rw [q])
                              have z80 : ¬ c = 91 := fun q => c80 (by rw [q])
                              have z86 : ¬ c = 93 := fun q => c86 (by rw [q])
                              have z92 : ¬ c = 59 := fun q => c92 (by rw [q])
                              have z98 : ¬ c = 44 := fun q => c98 (by rw [q])
                              have z104 : ¬ c = 43 := fun q => c104 (by rw [q])
                              have z110 : ¬ c = 45 := fun q => c110 (by rw [q])
                              have z116 : ¬ c = 42 := fun q => c116 (by rw [q])
                              have z122 : ¬ c = 47 := fun q => c122 (by rw [q])
                              have z128 : ¬ c = 60 := fun q => c128 (by rw [q])
                              have z134 : ¬ c = 62 := fun q => c134 (by rw [q])
                              have z140 : ¬ c = 61 := fun q => c140 (by rw [q])
                              simp [symK, z68, z74, z80, z86, z92, z98, z104, z110, z116, z122, z128, z134, z140]
                            exact key I rdF.rf (by rw [if_pos hs]) rfl rfl
                          · first
                              | exact k143 (by have := eqN c68 (by omega) (by decide); rw [this]; decide)
                              | exact k143 (by have := eqN c74 (by omega) (by decide); rw [this]; decide)
                              | exact k143 (by have := eqN c80 (by omega) (by decide); rw [this]; decide)
                              | exact k143 (by have := eqN c86 (by omega) (by decide); rw [this]; decide)
                              | exact k143 (by have := eqN c92 (by omega) (by decide); rw [this]; decide)
                              | exact k143 (by have := eqN c98 (by omega) (by decide); rw [this]; decide)
                              | exact k143 (by have := eqN c104 (by omega) (by decide); rw [this]; decide)
                              | exact k143 (by have := eqN c110 (by omega) (by decide); rw [this]; decide)
                              | exact k143 (by have := eqN c116 (by omega) (by decide); rw [this]; decide)
                              | exact k143 (by have := eqN c122 (by omega) (by decide); rw [this]; decide)
                              | exact k143 (by have := eqN c128 (by omega) (by decide); rw [this]; decide)
                              | exact k143 (by have := eqN c134 (by omega) (by decide); rw [this]; decide)
                              | exact k143 (by have := eqN (by first | exact c140 | exact Classical.not_not.mp c140) (show c < 2 ^ 31 by omega) (show 61 < 2 ^ 31 by decide); rw [this]; decide)
/-- what is read there -/
def rdO (T : Nat → Nat) (L p n : Nat) (I' : MI) : Prop := I' 82 n = nI (srt (tkR T L p).1) ∧ vlO (tkR T L p).1 (tkR T L p).2.2 (I' 83 n) ∧ (p < L → I' 85 n = nI ((tkR T L p).2.1 - p))
set_option maxRecDepth 100000 in
set_option maxHeartbeats 4000000 in
theorem sp_X12_read {T : Nat → Nat} {L : Nat} {d n p : Nat} (hn : n ≤ 400) (hp : p ≤ L) {I : MI} {J : MJ} {P : MP} (hT : rtO T L I) {Q : MI → MJ → MP → Prop} (hQ : ∀ I', rdF n I I' → rdO T L p n I' → Q I' J P) : Sp yX12_read cX12_read 4 none (d + 6) [.ref 80, .int (nI n), .int (nI p)] I J P (Qv Q) := by
  obtain ⟨t1, t2, t3⟩ := id hT
  obtain ⟨c, hc, eb, eb1, eb2⟩ := byR_n (p := p) hT
  have t4 : p < L → T p < 256 := fun q => (t3 p q).2
  intro Γ h
  show VG Γ 0 0 0 [some (.ref 80), some (.int (nI n)), some (.int (nI p)), none] [] _ _ _ _
  refine g_aload_0 h dX12_read_0 ?_
  refine g_iload_2 h dX12_read_1 ?_
  refine g_cVi1 h rok0 mi_X12_byteAt dX12_read_2 ml_X12_26 rfl rfl rfl (Nat.le_of_ble_eq_true rfl) (Nat.le_of_ble_eq_true rfl) (sp_X12_byteAt (by omega) hT ?_)
  rw [eb]
  refine g_istore_3 h dX12_read_5 (by decide) rfl ?_
  refine g_aload_0 h dX12_read_6 ?_
  refine g_getC h fl_X12_39 dX12_read_7 rfl rfl ?_
  refine g_iload_1 h dX12_read_10 ?_
  refine g_iconst h dX12_read_11 (v := nI 1) rfl ?_
  refine g_iast h n dX12_read_12 rfl rfl (by omega) ?_
  refine g_aload_0 h dX12_read_13 ?_
  refine g_getC h fl_X12_42 dX12_read_14 rfl rfl ?_
  refine g_iload_1 h dX12_read_17 ?_
  refine g_iload_3 h dX12_read_18 ?_
  refine g_iast h n dX12_read_19 rfl rfl (by omega) ?_
  refine g_aload_0 h dX12_read_20 ?_
  refine g_getC h fl_X12_36 dX12_read_21 rfl rfl ?_
  refine g_iload_1 h dX12_read_24 ?_
  refine g_iload_2 h dX12_read_25 ?_
  refine g_aload_0 h dX12_read_26 ?_
  refine g_getI h fl_X12_7 dX12_read_27 rfl rfl ?_
  refine g_icmp_lt h 37 dX12_read_30 rfl (fun c30 => ?_) (fun c30 => ?_)
  · have hl30 : p < L := ltN (by rw [up2_o (by decide), up2_o (by decide), t1] at c30; exact c30) (by omega) (by omega)
    refine g_iconst h dX12_read_37 (v := nI 5) rfl ?_
    refine g_iast h n dX12_read_38 rfl rfl (by omega) ?_
    have F0 : ∀ v : Int32, rdF n I (up2 (up2 (up2 I 85 n (nI 1)) 83 n (nI c)) 82 n v) := fun v => rdF.up (Or.inl rfl) (rdF.up (Or.inr (Or.inl rfl)) (rdF.up (Or.inr (Or.inr rfl)) rdF.rf))
    refine g_iload_3 h dX12_read_39 ?_
    refine g_cSi1 h rok0 mi_X12_isLetter dX12_read_40 ml_X12_45 (Nat.le_of_ble_eq_true rfl) (Nat.le_of_ble_eq_true rfl) (sp_X12_isLetter ?_)
    rw [show isLx (nI c) = ltB T L p by rw [← eb, isLx_r t4]]
    refine g_if_eq h 52 dX12_read_43 rfl (fun c43 => ?_) (fun c43 => ?_)
    · refine g_iload_3 h dX12_read_52 ?_
      refine g_cSi1 h rok0 mi_X12_isDigit dX12_read_53 ml_X12_52 (Nat.le_of_ble_eq_true rfl) (Nat.le_of_ble_eq_true rfl) (sp_X12_isDigit ?_)
      rw [show isDx (nI c) = dgB T L p by rw [← eb, isDx_r t4]]
      refine g_if_eq h 65 dX12_read_56 rfl (fun c56 => ?_) (fun c56 => ?_)
      · have q1 : ltB T L p = false := b2i_0.mp (by first | exact c43 | exact Classical.not_not.mp c43)
        have q2 : dgB T L p = false := b2i_0.mp (by first | exact c56 | exact Classical.not_not.mp c56)
        refine lp_read65 (T := T) (L := L) hn hp hc ((F0 _).tp hT) h (fun I' r1 r2 r3 r4 => ?_)
        refine hQ I' ((F0 _).tr r1) ?_
        by_cases hl : p < L
        · have ecp : c = T p := eb1 hl
          subst ecp
          rw [rdO, tkR, if_neg (by omega), if_neg (by rw [q1]; decide), if_neg (by rw [q2]; decide), r2]
          by_cases hD : (T p = 60 ∨ T p = 62) ∧ p + 1 < L ∧ T (p + 1) = 61
          · obtain ⟨r5, r6⟩ := r3 hD
            rw [if_pos hD, r5, r6]
            have hs : ¬ symK (T p) = 46 := by rcases hD.1 with z | z <;> rw [z] <;> decide
            rw [if_neg hs]
            refine ⟨?_, ⟨fun z => ?_, fun z => ?_, fun z z2 => ?_⟩, fun _ => by rw [show p + 2 - p = 2 by omega]⟩
            · show nI 4 = nI (srt (if T p = 60 then 43 else 44))
              split <;> rfl
            · have z : (if T p = 60 then 43 else 44) < 28 := z
              split at z <;> omega
            · have z : (if T p = 60 then 43 else 44) = 29 := z
              split at z <;> omega
            · show nI (if T p = 60 then 108 else 103) = nI (sgC (if T p = 60 then 43 else 44))
              split <;> rfl
          · obtain ⟨r5, r6⟩ := r4 hD
            rw [if_neg hD, r5, r6]
            have hb := symK_lt (T p)
            by_cases hs : symK (T p) = 46
            · rw [if_pos hs]
              refine ⟨?_, ⟨fun z => ?_, fun z => ?_, fun z z2 => ?_⟩, fun _ => by simp [up2]⟩
              · show _ = nI (srt (symK (T p)))
                rw [hs]
                first
                  | (rw [up2_s]; rfl)
                  | exact absurd hl hl30
              · have z : symK (T p) < 28 := z
                omega
              · have z : symK (T p) = 29 := z
                omega
              · have z2 : symK (T p) ≤ 44 := z2
                omega
            · obtain ⟨s1, s2⟩ := sgC_sym _ hc hs
              rw [if_neg hs]
              refine ⟨?_, ⟨fun z => ?_, fun z => ?_, fun z z2 => ?_⟩, fun _ => by simp [up2]⟩
              · show nI 4 = nI (srt (symK (T p)))
                rw [srt, if_neg (by omega), if_neg (by omega), if_neg (by omega), if_pos (by omega)]
              · have z : symK (T p) < 28 := z
                omega
              · have z : symK (T p) = 29 := z
                omega
              · show _ = nI (sgC (symK (T p)))
                rw [s1]
                simp [up2]
        · have ec0 := eb2 hl
          subst ec0
          have hD : ¬ (((0 : Nat) = 60 ∨ (0 : Nat) = 62) ∧ p + 1 < L ∧ T (p + 1) = 61) := fun q => by omega
          obtain ⟨r5, r6⟩ := r4 hD
          rw [rdO, tkR, if_pos hl, r2, if_pos (by decide), r6]
          refine ⟨?_, ⟨fun z => absurd (show 45 < 28 from z) (by decide), fun z => absurd (show 45 = 29 from z) (by decide), fun _ z => absurd (show 45 ≤ 44 from z) (by decide)⟩, fun z => absurd z hl⟩
          first
            | (rw [up2_s]; rfl)
            | exact absurd hl30 hl
      · refine g_aload_0 h dX12_read_59 ?_
        refine g_iload_1 h dX12_read_60 ?_
        refine g_iload_2 h dX12_read_61 ?_
        refine g_cVv2 h rok0 mi_X12_readNumber dX12_read_62 ml_X12_55 rfl rfl rfl (Nat.le_of_ble_eq_true rfl) (Nat.le_of_ble_eq_true rfl) (sp_X12_readNumber hn hp ((F0 _).tp hT) (fun I2 f2 g1 g2 g3 => ?_))
        · have q1 : ltB T L p = false := b2i_0.mp (by first | exact c43 | exact Classical.not_not.mp c43)
          have q2 : dgB T L p = true := b2i_n0.mp c56
          have hl := dgB_lt q2
          have hcl := eb1 hl.1
          have hs := symK_let c hc (by omega)
          refine lp_read65 (T := T) (L := L) hn hp hc (f2.tp ((F0 _).tp hT)) h (fun I' r1 r2 _ r4 => ?_)
          obtain ⟨r5, r6⟩ := r4 (fun q => by omega)
          rw [if_pos hs] at r2
          refine hQ I' ((F0 _).tr (f2.tr r1)) ?_
          rw [rdO, tkR, if_neg (by omega), if_neg (by rw [q1]; decide), if_pos q2, r2, r5, r6, g1, g2]
          refine ⟨?_, ⟨fun z => ?_, fun z => ?_, fun z z2 => ?_⟩, fun _ => rfl⟩
          · show nI _ = nI (srt (if 6 < nuE T L 2000 p - p then 46 else 29))
            split <;> rfl
          · have z : (if 6 < nuE T L 2000 p - p then 46 else 29) < 28 := z
            split at z <;> omega
          · have z : (if 6 < nuE T L 2000 p - p then 46 else 29) = 29 := z
            by_cases k9 : 6 < nuE T L 2000 p - p
            · rw [if_pos k9] at z; omega
            · exact g3 k9
          · have z : 30 ≤ (if 6 < nuE T L 2000 p - p then 46 else 29) := z
            have z2 : (if 6 < nuE T L 2000 p - p then 46 else 29) ≤ 44 := z2
            split at z <;> split at z2 <;> omega
    · refine g_aload_0 h dX12_read_46 ?_
      refine g_iload_1 h dX12_read_47 ?_
      refine g_iload_2 h dX12_read_48 ?_
      refine g_cVv2 h rok0 mi_X12_readWord dX12_read_49 ml_X12_49 rfl rfl rfl (Nat.le_of_ble_eq_true rfl) (Nat.le_of_ble_eq_true rfl) (sp_X12_readWord hn hp ((F0 _).tp hT) (fun I2 f2 g1 g2 g3 => ?_))
      · have q1 : ltB T L p = true := b2i_n0.mp c43
        have hl := ltB_lt q1
        have hcl := eb1 hl.1
        have nd : dgB T L p = false := by
          rw [dgB]
          have : ¬ T p ≤ 57 := by omega
          simp [this]
        have hm := kwI_lt (cdW T (wdE T L 2000 p - p) p 0) 28 0 rfl
        refine g_iload_3 h dX12_read_52 ?_
        refine g_cSi1 h rok0 mi_X12_isDigit dX12_read_53 ml_X12_52 (Nat.le_of_ble_eq_true rfl) (Nat.le_of_ble_eq_true rfl) (sp_X12_isDigit ?_)
        rw [show isDx (nI c) = dgB T L p by rw [← eb, isDx_r t4]]
        refine g_if_eq h 65 dX12_read_56 rfl (fun _ => ?_) (fun c => absurd (by rw [nd]; rfl) c)
        have hs := symK_let c hc (by omega)
        refine lp_read65 (T := T) (L := L) hn hp hc (f2.tp ((F0 _).tp hT)) h (fun I' r1 r2 _ r4 => ?_)
        obtain ⟨r5, r6⟩ := r4 (fun q => by omega)
        rw [if_pos hs] at r2
        refine hQ I' ((F0 _).tr (f2.tr r1)) ?_
        rw [rdO, tkR, if_neg (by omega), if_pos q1, r2, r5, r6, g1, g2]
        have hwc := wd_run (T := T) (L := L) 2000 p
        refine ⟨?_, ⟨fun z => ?_, fun z => ?_, fun z z2 => ?_⟩, fun _ => rfl⟩
        · show nI _ = nI (srt (if 10 < wdE T L 2000 p - p then 46 else kwI (cdW T (wdE T L 2000 p - p) p 0) 28 0))
          by_cases k9 : 10 < wdE T L 2000 p - p
          · have hno : ¬ kwI (cdW T (wdE T L 2000 p - p) p 0) 28 0 < 28 := fun k8 => by
              have e8 := (wEq_iff (T := T) (p := p) (n := wdE T L 2000 p - p) k8 (fun j hj => wd_ch (hwc (p + j) (by omega) (by omega)))).mpr rfl
              rw [wEq] at e8
              by_cases k7 : kL (kwI (cdW T (wdE T L 2000 p - p) p 0) 28 0) = wdE T L 2000 p - p
              · have := (kwC_ok _ k8).2.1
                omega
              · rw [if_neg k7] at e8
                exact Bool.noConfusion e8
            rw [if_neg hno, if_pos k9, if_pos k9]
            rfl
          · rw [if_neg k9, if_neg k9]
            by_cases k8 : kwI (cdW T (wdE T L 2000 p - p) p 0) 28 0 < 28
            · rw [if_pos k8, srt, if_pos k8]
            · rw [if_neg k8, srt, if_neg k8, if_pos (by omega)]
        · have z : (if 10 < wdE T L 2000 p - p then 46 else kwI (cdW T (wdE T L 2000 p - p) p 0) 28 0) < 28 := z
          by_cases k9 : 10 < wdE T L 2000 p - p
          · rw [if_pos k9] at z; omega
          · rw [if_neg k9] at z
            show _ = nI (if 10 < wdE T L 2000 p - p then 46 else kwI (cdW T (wdE T L 2000 p - p) p 0) 28 0)
            rw [if_neg k9]
            exact g3 z
        · have z : (if 10 < wdE T L 2000 p - p then 46 else kwI (cdW T (wdE T L 2000 p - p) p 0) 28 0) = 29 := z
          split at z <;> omega
        · have z : 30 ≤ (if 10 < wdE T L 2000 p - p then 46 else kwI (cdW T (wdE T L 2000 p - p) p 0) 28 0) := z
          have z2 : (if 10 < wdE T L 2000 p - p then 46 else kwI (cdW T (wdE T L 2000 p - p) p 0) 28 0) ≤ 44 := z2
          split at z <;> split at z2 <;> omega
  · have hl30 : ¬ p < L := fun q => c30 (by rw [up2_o (by decide), up2_o (by decide), t1]; exact nI_lt q (by omega))
    refine g_iconst h dX12_read_33 (v := nI 0) rfl ?_
    refine g_goto h 38 dX12_read_34 rfl ?_
    refine g_iast h n dX12_read_38 rfl rfl (by omega) ?_
    have F0 : ∀ v : Int32, rdF n I (up2 (up2 (up2 I 85 n (nI 1)) 83 n (nI c)) 82 n v) := fun v => rdF.up (Or.inl rfl) (rdF.up (Or.inr (Or.inl rfl)) (rdF.up (Or.inr (Or.inr rfl)) rdF.rf))
    refine g_iload_3 h dX12_read_39 ?_
    refine g_cSi1 h rok0 mi_X12_isLetter dX12_read_40 ml_X12_45 (Nat.le_of_ble_eq_true rfl) (Nat.le_of_ble_eq_true rfl) (sp_X12_isLetter ?_)
    rw [show isLx (nI c) = ltB T L p by rw [← eb, isLx_r t4]]
    refine g_if_eq h 52 dX12_read_43 rfl (fun c43 => ?_) (fun c43 => ?_)
    · refine g_iload_3 h dX12_read_52 ?_
      refine g_cSi1 h rok0 mi_X12_isDigit dX12_read_53 ml_X12_52 (Nat.le_of_ble_eq_true rfl) (Nat.le_of_ble_eq_true rfl) (sp_X12_isDigit ?_)
      rw [show isDx (nI c) = dgB T L p by rw [← eb, isDx_r t4]]
      refine g_if_eq h 65 dX12_read_56 rfl (fun c56 => ?_) (fun c56 => ?_)
      · have q1 : ltB T L p = false := b2i_0.mp (by first | exact c43 | exact Classical.not_not.mp c43)
        have q2 : dgB T L p = false := b2i_0.mp (by first | exact c56 | exact Classical.not_not.mp c56)
        refine lp_read65 (T := T) (L := L) hn hp hc ((F0 _).tp hT) h (fun I' r1 r2 r3 r4 => ?_)
        refine hQ I' ((F0 _).tr r1) ?_
        by_cases hl : p < L
        · have ecp : c = T p := eb1 hl
          subst ecp
          rw [rdO, tkR, if_neg (by omega), if_neg (by rw [q1]; decide), if_neg (by rw [q2]; decide), r2]
          by_cases hD : (T p = 60 ∨ T p = 62) ∧ p + 1 < L ∧ T (p + 1) = 61
          · obtain ⟨r5, r6⟩ := r3 hD
            rw [if_pos hD, r5, r6]
            have hs : ¬ symK (T p) = 46 := by rcases hD.1 with z | z <;> rw [z] <;> decide
            rw [if_neg hs]
            refine ⟨?_, ⟨fun z => ?_, fun z => ?_, fun z z2 => ?_⟩, fun _ => by rw [show p + 2 - p = 2 by omega]⟩
            · show nI 4 = nI (srt (if T p = 60 then 43 else 44))
              split <;> rfl
            · have z : (if T p = 60 then 43 else 44) < 28 := z
              split at z <;> omega
            · have z : (if T p = 60 then 43 else 44) = 29 := z
              split at z <;> omega
            · show nI (if T p = 60 then 108 else 103) = nI (sgC (if T p = 60 then 43 else 44))
              split <;> rfl
          · obtain ⟨r5, r6⟩ := r4 hD
            rw [if_neg hD, r5, r6]
            have hb := symK_lt (T p)
            by_cases hs : symK (T p) = 46
            · rw [if_pos hs]
              refine ⟨?_, ⟨fun z => ?_, fun z => ?_, fun z z2 => ?_⟩, fun _ => by simp [up2]⟩
              · show _ = nI (srt (symK (T p)))
                rw [hs]
                first
                  | (rw [up2_s]; rfl)
                  | exact absurd hl hl30
              · have z : symK (T p) < 28 := z
                omega
              · have z : symK (T p) = 29 := z
                omega
              · have z2 : symK (T p) ≤ 44 := z2
                omega
            · obtain ⟨s1, s2⟩ := sgC_sym _ hc hs
              rw [if_neg hs]
              refine ⟨?_, ⟨fun z => ?_, fun z => ?_, fun z z2 => ?_⟩, fun _ => by simp [up2]⟩
              · show nI 4 = nI (srt (symK (T p)))
                rw [srt, if_neg (by omega), if_neg (by omega), if_neg (by omega), if_pos (by omega)]
              · have z : symK (T p) < 28 := z
                omega
              · have z : symK (T p) = 29 := z
                omega
              · show _ = nI (sgC (symK (T p)))
                rw [s1]
                simp [up2]
        · have ec0 := eb2 hl
          subst ec0
          have hD : ¬ (((0 : Nat) = 60 ∨ (0 : Nat) = 62) ∧ p + 1 < L ∧ T (p + 1) = 61) := fun q => by omega
          obtain ⟨r5, r6⟩ := r4 hD
          rw [rdO, tkR, if_pos hl, r2, if_pos (by decide), r6]
          refine ⟨?_, ⟨fun z => absurd (show 45 < 28 from z) (by decide), fun z => absurd (show 45 = 29 from z) (by decide), fun _ z => absurd (show 45 ≤ 44 from z) (by decide)⟩, fun z => absurd z hl⟩
          first
            | (rw [up2_s]; rfl)
            | exact absurd hl30 hl
      · refine g_aload_0 h dX12_read_59 ?_
        refine g_iload_1 h dX12_read_60 ?_
        refine g_iload_2 h dX12_read_61 ?_
        refine g_cVv2 h rok0 mi_X12_readNumber dX12_read_62 ml_X12_55 rfl rfl rfl (Nat.le_of_ble_eq_true rfl) (Nat.le_of_ble_eq_true rfl) (sp_X12_readNumber hn hp ((F0 _).tp hT) (fun I2 f2 g1 g2 g3 => ?_))
        · have q1 : ltB T L p = false := b2i_0.mp (by first | exact c43 | exact Classical.not_not.mp c43)
          have q2 : dgB T L p = true := b2i_n0.mp c56
          have hl := dgB_lt q2
          have hcl := eb1 hl.1
          have hs := symK_let c hc (by omega)
          refine lp_read65 (T := T) (L := L) hn hp hc (f2.tp ((F0 _).tp hT)) h (fun I' r1 r2 _ r4 => ?_)
          obtain ⟨r5, r6⟩ := r4 (fun q => by omega)
          rw [if_pos hs] at r2
          refine hQ I' ((F0 _).tr (f2.tr r1)) ?_
          rw [rdO, tkR, if_neg (by omega), if_neg (by rw [q1]; decide), if_pos q2, r2, r5, r6, g1, g2]
          refine ⟨?_, ⟨fun z => ?_, fun z => ?_, fun z z2 => ?_⟩, fun _ => rfl⟩
          · show nI _ = nI (srt (if 6 < nuE T L 2000 p - p then 46 else 29))
            split <;> rfl
          · have z : (if 6 < nuE T L 2000 p - p then 46 else 29) < 28 := z
            split at z <;> omega
          · have z : (if 6 < nuE T L 2000 p - p then 46 else 29) = 29 := z
            by_cases k9 : 6 < nuE T L 2000 p - p
            · rw [if_pos k9] at z; omega
            · exact g3 k9
          · have z : 30 ≤ (if 6 < nuE T L 2000 p - p then 46 else 29) := z
            have z2 : (if 6 < nuE T L 2000 p - p then 46 else 29) ≤ 44 := z2
            split at z <;> split at z2 <;> omega
    · refine g_aload_0 h dX12_read_46 ?_
      refine g_iload_1 h dX12_read_47 ?_
      refine g_iload_2 h dX12_read_48 ?_
      refine g_cVv2 h rok0 mi_X12_readWord dX12_read_49 ml_X12_49 rfl rfl rfl (Nat.le_of_ble_eq_true rfl) (Nat.le_of_ble_eq_true rfl) (sp_X12_readWord hn hp ((F0 _).tp hT) (fun I2 f2 g1 g2 g3 => ?_))
      · have q1 : ltB T L p = true := b2i_n0.mp c43
        have hl := ltB_lt q1
        have hcl := eb1 hl.1
        have nd : dgB T L p = false := by
          rw [dgB]
          have : ¬ T p ≤ 57 := by omega
          simp [this]
        have hm := kwI_lt (cdW T (wdE T L 2000 p - p) p 0) 28 0 rfl
        refine g_iload_3 h dX12_read_52 ?_
        refine g_cSi1 h rok0 mi_X12_isDigit dX12_read_53 ml_X12_52 (Nat.le_of_ble_eq_true rfl) (Nat.le_of_ble_eq_true rfl) (sp_X12_isDigit ?_)
        rw [show isDx (nI c) = dgB T L p by rw [← eb, isDx_r t4]]
        refine g_if_eq h 65 dX12_read_56 rfl (fun _ => ?_) (fun c => absurd (by rw [nd]; rfl) c)
        have hs := symK_let c hc (by omega)
        refine lp_read65 (T := T) (L := L) hn hp hc (f2.tp ((F0 _).tp hT)) h (fun I' r1 r2 _ r4 => ?_)
        obtain ⟨r5, r6⟩ := r4 (fun q => by omega)
        rw [if_pos hs] at r2
        refine hQ I' ((F0 _).tr (f2.tr r1)) ?_
        rw [rdO, tkR, if_neg (by omega), if_pos q1, r2, r5, r6, g1, g2]
        have hwc := wd_run (T := T) (L := L) 2000 p
        refine ⟨?_, ⟨fun z => ?_, fun z => ?_, fun z z2 => ?_⟩, fun _ => rfl⟩
        · show nI _ = nI (srt (if 10 < wdE T L 2000 p - p then 46 else kwI (cdW T (wdE T L 2000 p - p) p 0) 28 0))
          by_cases k9 : 10 < wdE T L 2000 p - p
          · have hno : ¬ kwI (cdW T (wdE T L 2000 p - p) p 0) 28 0 < 28 := fun k8 => by
              have e8 := (wEq_iff (T := T) (p := p) (n := wdE T L 2000 p - p) k8 (fun j hj => wd_ch (hwc (p + j) (by omega) (by omega)))).mpr rfl
              rw [wEq] at e8
              by_cases k7 : kL (kwI (cdW T (wdE T L 2000 p - p) p 0) 28 0) = wdE T L 2000 p - p
              · have := (kwC_ok _ k8).2.1
                omega
              · rw [if_neg k7] at e8
                exact Bool.noConfusion e8
            rw [if_neg hno, if_pos k9, if_pos k9]
            rfl
          · rw [if_neg k9, if_neg k9]
            by_cases k8 : kwI (cdW T (wdE T L 2000 p - p) p 0) 28 0 < 28
            · rw [if_pos k8, srt, if_pos k8]
            · rw [if_neg k8, srt, if_neg k8, if_pos (by omega)]
        · have z : (if 10 < wdE T L 2000 p - p then 46 else kwI (cdW T (wdE T L 2000 p - p) p 0) 28 0) < 28 := z
          by_cases k9 : 10 < wdE T L 2000 p - p
          · rw [if_pos k9] at z; omega
          · rw [if_neg k9] at z
            show _ = nI (if 10 < wdE T L 2000 p - p then 46 else kwI (cdW T (wdE T L 2000 p - p) p 0) 28 0)
            rw [if_neg k9]
            exact g3 z
        · have z : (if 10 < wdE T L 2000 p - p then 46 else kwI (cdW T (wdE T L 2000 p - p) p 0) 28 0) = 29 := z
          split at z <;> omega
        · have z : 30 ≤ (if 10 < wdE T L 2000 p - p then 46 else kwI (cdW T (wdE T L 2000 p - p) p 0) 28 0) := z
          have z2 : (if 10 < wdE T L 2000 p - p then 46 else kwI (cdW T (wdE T L 2000 p - p) p 0) 28 0) ≤ 44 := z2
          split at z <;> split at z2 <;> omega
