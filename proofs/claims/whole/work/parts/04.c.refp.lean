/-! The reference: moths, months -/
def bsI : Option Nat → Int32
  | none => -1
  | some b => nI b
def bsR (v : Nat → Int32) : Nat → Nat → Option Nat → Option Nat
  | 0, _, b => b
  | f + 1, i, none => bsR v f (i + 1) (if v i ≤ 0 then none else some i)
  | f + 1, i, some b => bsR v f (i + 1) (if v i ≤ 0 then some b else if tuR (v i) ≤ tuR (v b) then some b else some i)
theorem bsR_in (v : Nat → Int32) : ∀ f i b, (∀ b0, b = some b0 → b0 < i ∧ ¬ v b0 ≤ 0) → ∀ b1, bsR v f i b = some b1 → b1 < i + f ∧ ¬ v b1 ≤ 0
  | 0, i, b, h, b1, e => by
    have := h b1 (by cases b <;> simpa [bsR] using e)
    exact ⟨by omega, this.2⟩
  | f + 1, i, none, h, b1, e => by
    have := bsR_in v f (i + 1) _ (fun b0 e0 => by
      split at e0
      · cases e0
      · cases e0
        exact ⟨by omega, by assumption⟩) b1 e
    exact ⟨by omega, this.2⟩
  | f + 1, i, some b, h, b1, e => by
    have hb := h b rfl
    have := bsR_in v f (i + 1) _ (fun b0 e0 => by
      split at e0
      · cases e0
        exact ⟨by omega, hb.2⟩
      · split at e0
        · cases e0
          exact ⟨by omega, hb.2⟩
        · cases e0
          exact ⟨by omega, by assumption⟩) b1 e
    exact ⟨by omega, this.2⟩
def fsN : Nat → Nat → Nat → Nat
  | 0, i, _ => i
  | f + 1, i, j => if 9 < j / 10 ^ i then fsN f (i + 1) j else i
theorem fsN_lt : ∀ f i j, j < 2 ^ 31 → 10 ^ i < 2 ^ 31 → 10 ^ (fsN f i j) < 2 ^ 31
  | 0, i, j, _, h => h
  | f + 1, i, j, hj, h => by
    simp only [fsN]
    split
    · refine fsN_lt f (i + 1) j hj ?_
      have : 10 * 10 ^ i ≤ j := (Nat.le_div_iff_mul_le (Nat.pow_pos (by decide))).mp (by omega)
      rw [Nat.pow_succ]
      omega
    · exact h
theorem p10_1 {i : Nat} (h : 10 ^ i < 2 ^ 31) (e : nI (10 ^ i) = 1) : i = 0 := by
  have e1 : 10 ^ i = 1 := eqN (b := 1) e h (by decide)
  cases i with
  | zero => rfl
  | succ i =>
    have h1 : 0 < 10 ^ i := Nat.pow_pos (by decide)
    rw [Nat.pow_succ] at e1
    omega
def eaN (j : Nat) : Int32 := if fsN 10 0 j = 0 then nI 0 else nI j - nI (10 ^ fsN 10 0 j)
def eaV (x : Int32) : Int32 := eaN (ix x)
def eaR (row : Nat → Int32) (N : Nat) : Nat → Int32 := match bsR (rv row) N 0 none with
  | none => row
  | some b => upd (upd row (3 + b) (eaV (row (3 + b)))) 2 (upd row (3 + b) (eaV (row (3 + b))) 2 + nI 1)
set_option maxHeartbeats 4000000 in
theorem lp_X12_eat1 {Γ : Cx} {d N r : Nat} (hr : r = 91 ∨ r = 92) {I : MI} {J : MJ} {P : MP} (hB : P 80 8 = some 93) (hN : I 93 1 = nI N) (hN16 : N ≤ 16) {Φ : State → Prop} (h : Vc RX12 cX12_eat 5 none (d + 2) Γ) : ∀ (f i : Nat) (b : Option Nat) (x4 : Option Value), i + f = N → (∀ b0, b = some b0 → b0 < 16) → VG Γ 0 0 55 [some (.ref 80), some (.ref r), some (.int (bsI (bsR (rv (I r)) f i b))), some (.int (nI N)), x4] [] I J P Φ → VG Γ 0 0 4 [some (.ref 80), some (.ref r), some (.int (bsI b)), some (.int (nI i)), x4] [] I J P Φ := by
  intro f
  induction f with
  | zero =>
    intro i b x4 hi hb K
    obtain rfl : i = N := by omega
    refine g_iload_3 h dX12_eat_4 ?_
    refine g_aload_0 h dX12_eat_5 ?_
    refine g_getP h fl_X12_87 dX12_eat_6 rfl rfl (by assumption) ?_
    refine g_getI h fl_X12_161 dX12_eat_9 rfl rfl ?_
    refine g_icmp_ge h 55 dX12_eat_12 rfl (fun c12 => ?_) (fun c12 => ?_)
    · cases b <;> exact K
    · exact absurd (by rw [hN]; exact nI_le (by omega) (by omega)) c12
  | succ f ih =>
    intro i b x4 hi hb K
    rcases b with _ | b0
    · refine g_iload_3 h dX12_eat_4 ?_
      refine g_aload_0 h dX12_eat_5 ?_
      refine g_getP h fl_X12_87 dX12_eat_6 rfl rfl (by assumption) ?_
      refine g_getI h fl_X12_161 dX12_eat_9 rfl rfl ?_
      refine g_icmp_ge h 55 dX12_eat_12 rfl (fun c12 => ?_) (fun c12 => ?_)
      · exact absurd (leN (by simpa only [hN] using c12) (by omega) (by omega)) (by omega)
      · refine g_aload_1 h dX12_eat_15 ?_
        refine g_iconst h dX12_eat_16 (v := nI 3) rfl ?_
        refine g_iload_3 h dX12_eat_17 ?_
        refine g_iadd h dX12_eat_18 ?_
        refine g_iald h (3 + i) dX12_eat_19 (shpR hr) (nI_add 3 i) (by omega) ?_
        refine g_if_le h 49 dX12_eat_20 rfl (fun c20 => ?_) (fun c20 => ?_)
        · refine g_iinc_3 h dX12_eat_49 (inc1 _) (by decide) rfl ?_
          refine g_goto h 4 dX12_eat_52 rfl ?_
          first
            | exact ih (i + 1) (none) _ (by omega) hb (by rw [bsR, if_pos (show rv (I r) i ≤ 0 from c20)] at K; exact K)
            | exact ih (i + 1) (some i) _ (by omega) (fun b1 e => by cases e; omega) (by rw [bsR, if_neg (show ¬ rv (I r) i ≤ 0 from c20)] at K; exact K)
            | exact ih (i + 1) (none) _ (by omega) hb (by rw [bsR, if_neg (show ¬ rv (I r) i ≤ 0 from c20), if_pos (show tuR (rv (I r) i) ≤ tuR (rv (I r) b0) from c44)] at K; exact K)
            | exact ih (i + 1) (some i) _ (by omega) (fun b1 e => by cases e; omega) (by rw [bsR, if_neg (show ¬ rv (I r) i ≤ 0 from c20), if_neg (show ¬ tuR (rv (I r) i) ≤ tuR (rv (I r) b0) from c44)] at K; exact K)
        · refine g_iload_2 h dX12_eat_23 ?_
          refine g_iconst h dX12_eat_24 (v := (-1)) rfl ?_
          refine g_icmp_eq h 47 dX12_eat_25 rfl (fun c25 => ?_) (fun c25 => ?_)
          · refine g_iload_3 h dX12_eat_47 ?_
            refine g_istore_2 h dX12_eat_48 (by decide) rfl ?_
            refine g_iinc_3 h dX12_eat_49 (inc1 _) (by decide) rfl ?_
            refine g_goto h 4 dX12_eat_52 rfl ?_
            first
              | exact ih (i + 1) (none) _ (by omega) hb (by rw [bsR, if_pos (show rv (I r) i ≤ 0 from c20)] at K; exact K)
              | exact ih (i + 1) (some i) _ (by omega) (fun b1 e => by cases e; omega) (by rw [bsR, if_neg (show ¬ rv (I r) i ≤ 0 from c20)] at K; exact K)
              | exact ih (i + 1) (none) _ (by omega) hb (by rw [bsR, if_neg (show ¬ rv (I r) i ≤ 0 from c20), if_pos (show tuR (rv (I r) i) ≤ tuR (rv (I r) b0) from c44)] at K; exact K)
              | exact ih (i + 1) (some i) _ (by omega) (fun b1 e => by cases e; omega) (by rw [bsR, if_neg (show ¬ rv (I r) i ≤ 0 from c20), if_neg (show ¬ tuR (rv (I r) i) ≤ tuR (rv (I r) b0) from c44)] at K; exact K)
          · exact absurd rfl c25
    · refine g_iload_3 h dX12_eat_4 ?_
      refine g_aload_0 h dX12_eat_5 ?_
      refine g_getP h fl_X12_87 dX12_eat_6 rfl rfl (by assumption) ?_
      refine g_getI h fl_X12_161 dX12_eat_9 rfl rfl ?_
      refine g_icmp_ge h 55 dX12_eat_12 rfl (fun c12 => ?_) (fun c12 => ?_)
      · exact absurd (leN (by simpa only [hN] using c12) (by omega) (by omega)) (by omega)
      · refine g_aload_1 h dX12_eat_15 ?_
        refine g_iconst h dX12_eat_16 (v := nI 3) rfl ?_
        refine g_iload_3 h dX12_eat_17 ?_
        refine g_iadd h dX12_eat_18 ?_
        refine g_iald h (3 + i) dX12_eat_19 (shpR hr) (nI_add 3 i) (by omega) ?_
        refine g_if_le h 49 dX12_eat_20 rfl (fun c20 => ?_) (fun c20 => ?_)
        · refine g_iinc_3 h dX12_eat_49 (inc1 _) (by decide) rfl ?_
          refine g_goto h 4 dX12_eat_52 rfl ?_
          first
            | exact ih (i + 1) (some b0) _ (by omega) hb (by rw [bsR, if_pos (show rv (I r) i ≤ 0 from c20)] at K; exact K)
            | exact ih (i + 1) (some i) _ (by omega) (fun b1 e => by cases e; omega) (by rw [bsR, if_neg (show ¬ rv (I r) i ≤ 0 from c20)] at K; exact K)
            | exact ih (i + 1) (some b0) _ (by omega) hb (by rw [bsR, if_neg (show ¬ rv (I r) i ≤ 0 from c20), if_pos (show tuR (rv (I r) i) ≤ tuR (rv (I r) b0) from c44)] at K; exact K)
            | exact ih (i + 1) (some i) _ (by omega) (fun b1 e => by cases e; omega) (by rw [bsR, if_neg (show ¬ rv (I r) i ≤ 0 from c20), if_neg (show ¬ tuR (rv (I r) i) ≤ tuR (rv (I r) b0) from c44)] at K; exact K)
        · refine g_iload_2 h dX12_eat_23 ?_
          refine g_iconst h dX12_eat_24 (v := (-1)) rfl ?_
          refine g_icmp_eq h 47 dX12_eat_25 rfl (fun c25 => ?_) (fun c25 => ?_)
          · exact absurd c25 (nI_nm1 (by have := hb b0 rfl; omega))
          · refine g_aload_1 h dX12_eat_28 ?_
            refine g_iconst h dX12_eat_29 (v := nI 3) rfl ?_
            refine g_iload_3 h dX12_eat_30 ?_
            refine g_iadd h dX12_eat_31 ?_
            refine g_iald h (3 + i) dX12_eat_32 (shpR hr) (nI_add 3 i) (by omega) ?_
            refine g_cSi1 h rok0 mi_X12_turns dX12_eat_33 ml_X12_330 (Nat.le_of_ble_eq_true rfl) (Nat.le_of_ble_eq_true rfl) (sp_X12_turns (d := d) ?_)
            refine g_aload_1 h dX12_eat_36 ?_
            refine g_iconst h dX12_eat_37 (v := nI 3) rfl ?_
            refine g_iload_2 h dX12_eat_38 ?_
            refine g_iadd h dX12_eat_39 ?_
            refine g_iald h (3 + b0) dX12_eat_40 (shpR hr) (nI_add 3 b0) (by have := hb b0 rfl; omega) ?_
            refine g_cSi1 h rok0 mi_X12_turns dX12_eat_41 ml_X12_330 (Nat.le_of_ble_eq_true rfl) (Nat.le_of_ble_eq_true rfl) (sp_X12_turns (d := d) ?_)
            refine g_icmp_le h 49 dX12_eat_44 rfl (fun c44 => ?_) (fun c44 => ?_)
            · refine g_iinc_3 h dX12_eat_49 (inc1 _) (by decide) rfl ?_
              refine g_goto h 4 dX12_eat_52 rfl ?_
              first
                | exact ih (i + 1) (some b0) _ (by omega) hb (by rw [bsR, if_pos (show rv (I r) i ≤ 0 from c20)] at K; exact K)
                | exact ih (i + 1) (some i) _ (by omega) (fun b1 e => by cases e; omega) (by rw [bsR, if_neg (show ¬ rv (I r) i ≤ 0 from c20)] at K; exact K)
                | exact ih (i + 1) (some b0) _ (by omega) hb (by rw [bsR, if_neg (show ¬ rv (I r) i ≤ 0 from c20), if_pos (show tuR (rv (I r) i) ≤ tuR (rv (I r) b0) from c44)] at K; exact K)
                | exact ih (i + 1) (some i) _ (by omega) (fun b1 e => by cases e; omega) (by rw [bsR, if_neg (show ¬ rv (I r) i ≤ 0 from c20), if_neg (show ¬ tuR (rv (I r) i) ≤ tuR (rv (I r) b0) from c44)] at K; exact K)
            · refine g_iload_3 h dX12_eat_47 ?_
              refine g_istore_2 h dX12_eat_48 (by decide) rfl ?_
              refine g_iinc_3 h dX12_eat_49 (inc1 _) (by decide) rfl ?_
              refine g_goto h 4 dX12_eat_52 rfl ?_
              first
                | exact ih (i + 1) (some b0) _ (by omega) hb (by rw [bsR, if_pos (show rv (I r) i ≤ 0 from c20)] at K; exact K)
                | exact ih (i + 1) (some i) _ (by omega) (fun b1 e => by cases e; omega) (by rw [bsR, if_neg (show ¬ rv (I r) i ≤ 0 from c20)] at K; exact K)
                | exact ih (i + 1) (some b0) _ (by omega) hb (by rw [bsR, if_neg (show ¬ rv (I r) i ≤ 0 from c20), if_pos (show tuR (rv (I r) i) ≤ tuR (rv (I r) b0) from c44)] at K; exact K)
                | exact ih (i + 1) (some i) _ (by omega) (fun b1 e => by cases e; omega) (by rw [bsR, if_neg (show ¬ rv (I r) i ≤ 0 from c20), if_neg (show ¬ tuR (rv (I r) i) ≤ tuR (rv (I r) b0) from c44)] at K; exact K)
set_option maxHeartbeats 4000000 in
theorem lp_X12_eat2 {Γ : Cx} {d b j r : Nat} {I : MI} {J : MJ} {P : MP} (hj : j < 2 ^ 31) {Φ : State → Prop} (h : Vc RX12 cX12_eat 5 none (d + 2) Γ) : ∀ (f i : Nat), i + f = 10 → 10 ^ i < 2 ^ 31 → VG Γ 0 0 89 [some (.ref 80), some (.ref r), some (.int (nI b)), some (.int (nI j)), some (.int (nI (10 ^ (fsN f i j))))] [] I J P Φ → VG Γ 0 0 70 [some (.ref 80), some (.ref r), some (.int (nI b)), some (.int (nI j)), some (.int (nI (10 ^ i)))] [] I J P Φ := by
  intro f
  induction f with
  | zero =>
    intro i hi hp K
    obtain rfl : i = 10 := by omega
    exact absurd hp (by decide)
  | succ f ih =>
    intro i hi hp K
    refine g_iload_3 h dX12_eat_70 ?_
    refine g_iload_4 h dX12_eat_71 ?_
    refine g_idiv h dX12_eat_73 (nI_ne0 (Nat.pow_pos (by decide)) hp) ?_
    rw [pk_div hj (Nat.pow_pos (by decide)) hp]
    refine g_bipush h dX12_eat_74 (v := nI 9) rfl ?_
    refine g_icmp_le h 89 dX12_eat_76 rfl (fun c76 => ?_) (fun c76 => ?_)
    · have c9 : ¬ 9 < j / 10 ^ i := fun q => absurd (leN c76 (Nat.lt_of_le_of_lt (Nat.div_le_self _ _) hj) (by decide)) (by omega)
      rw [fsN, if_neg c9] at K
      exact K
    · refine g_iload_4 h dX12_eat_79 ?_
      refine g_bipush h dX12_eat_81 (v := nI 10) rfl ?_
      refine g_imul h dX12_eat_83 ?_
      refine g_istore_4 h dX12_eat_84 (by decide) rfl ?_
      refine g_goto h 70 dX12_eat_86 rfl ?_
      have c9 : 9 < j / 10 ^ i := Nat.lt_of_not_le (fun q => c76 (nI_le q (by decide)))
      rw [show nI (10 ^ i) * nI 10 = nI (10 ^ (i + 1)) from pk_mul _ _]
      refine ih (i + 1) (by omega) ?_ (by rw [fsN, if_pos c9] at K; exact K)
      have : 10 * 10 ^ i ≤ j := (Nat.le_div_iff_mul_le (Nat.pow_pos (by decide))).mp (by omega)
      rw [Nat.pow_succ]
      omega
set_option maxRecDepth 100000 in
set_option maxHeartbeats 8000000 in
theorem sp_X12_eat {d N r : Nat} (hr : r = 91 ∨ r = 92) {I : MI} {J : MJ} {P : MP} (hB : P 80 8 = some 93) (hN : I 93 1 = nI N) (hN16 : N ≤ 16) {Q : MI → MJ → MP → Prop} (hQ : Q (setRow I r (eaR (I r) N)) J P) : Sp yX12_eat cX12_eat 5 none (d + 2) [.ref 80, .ref r] I J P (Qv Q) := by
  intro Γ h
  show VG Γ 0 0 0 [some (.ref 80), some (.ref r), none, none, none] [] _ _ _ _
  refine g_iconst h dX12_eat_0 (v := bsI none) rfl ?_
  refine g_istore_2 h dX12_eat_1 (by decide) rfl ?_
  refine g_iconst h dX12_eat_2 (v := nI 0) rfl ?_
  refine g_istore_3 h dX12_eat_3 (by decide) rfl ?_
  refine lp_X12_eat1 hr hB hN hN16 h N 0 none _ (by omega) (fun b0 e => by cases e) ?_
  unfold eaR at hQ
  rcases hbs : bsR (rv (I r)) N 0 none with _ | b
  · refine g_iload_2 h dX12_eat_55 ?_
    refine g_iconst h dX12_eat_56 (v := (-1)) rfl ?_
    refine g_icmp_ne h 61 dX12_eat_57 rfl (fun c57 => ?_) (fun c57 => ?_)
    · exact absurd rfl c57
    · refine g_vret h dX12_eat_60 ?_
      exact q_I (by rw [hbs, setRow_id]) hQ
  · obtain ⟨hb, hv⟩ := bsR_in (rv (I r)) N 0 none (fun b0 e => by cases e) b hbs
    obtain ⟨j, hj, ej⟩ := nI_of0 hv
    have ej : I r (3 + b) = nI j := ej
    refine g_iload_2 h dX12_eat_55 ?_
    refine g_iconst h dX12_eat_56 (v := (-1)) rfl ?_
    refine g_icmp_ne h 61 dX12_eat_57 rfl (fun c57 => ?_) (fun c57 => ?_)
    · refine g_aload_1 h dX12_eat_61 ?_
      refine g_iconst h dX12_eat_62 (v := nI 3) rfl ?_
      refine g_iload_2 h dX12_eat_63 ?_
      refine g_iadd h dX12_eat_64 ?_
      refine g_iald h (3 + b) dX12_eat_65 (shpR hr) (nI_add 3 b) (by omega) ?_
      rw [ej]
      refine g_istore_3 h dX12_eat_66 (by decide) rfl ?_
      refine g_iconst h dX12_eat_67 (v := nI 1) rfl ?_
      refine g_istore_4 h dX12_eat_68 (by decide) rfl ?_
      refine lp_X12_eat2 hj h 10 0 (by omega) (by decide) ?_
      have hp := fsN_lt 10 0 j hj (by decide)
      refine g_aload_1 h dX12_eat_89 ?_
      refine g_iconst h dX12_eat_90 (v := nI 3) rfl ?_
      refine g_iload_2 h dX12_eat_91 ?_
      refine g_iadd h dX12_eat_92 ?_
      refine g_iload_4 h dX12_eat_93 ?_
      refine g_iconst h dX12_eat_95 (v := nI 1) rfl ?_
      refine g_icmp_ne h 103 dX12_eat_96 rfl (fun c96 => ?_) (fun c96 => ?_)
      · refine g_iload_3 h dX12_eat_103 ?_
        refine g_iload_4 h dX12_eat_104 ?_
        refine g_isub h dX12_eat_106 ?_
        refine g_iast h (3 + b) dX12_eat_107 (shpR hr) (nI_add 3 b) (by omega) ?_
        refine g_aload_1 h dX12_eat_108 ?_
        refine g_iconst h dX12_eat_109 (v := nI 2) rfl ?_
        refine g_dup2 h dX12_eat_110 rfl rfl ?_
        refine g_iald h 2 dX12_eat_111 (shpR hr) rfl (by omega) ?_
        refine g_iconst h dX12_eat_112 (v := nI 1) rfl ?_
        refine g_iadd h dX12_eat_113 ?_
        refine g_iast h 2 dX12_eat_114 (shpR hr) rfl (by omega) ?_
        refine g_vret h dX12_eat_115 ?_
        refine q_I ?_ hQ
        rw [hbs]
        have e5 : eaV (I r (3 + b)) = nI j - nI (10 ^ fsN 10 0 j) := by
          rw [ej]
          show eaN (ix (nI j)) = _
          rw [ix_n hj, eaN]
          rw [if_neg (fun q => c96 (by rw [q]))]
        simp only [up2_row, setRow_s, setRow_2, e5]
      · refine g_iconst h dX12_eat_99 (v := nI 0) rfl ?_
        refine g_goto h 107 dX12_eat_100 rfl ?_
        refine g_iast h (3 + b) dX12_eat_107 (shpR hr) (nI_add 3 b) (by omega) ?_
        refine g_aload_1 h dX12_eat_108 ?_
        refine g_iconst h dX12_eat_109 (v := nI 2) rfl ?_
        refine g_dup2 h dX12_eat_110 rfl rfl ?_
        refine g_iald h 2 dX12_eat_111 (shpR hr) rfl (by omega) ?_
        refine g_iconst h dX12_eat_112 (v := nI 1) rfl ?_
        refine g_iadd h dX12_eat_113 ?_
        refine g_iast h 2 dX12_eat_114 (shpR hr) rfl (by omega) ?_
        refine g_vret h dX12_eat_115 ?_
        refine q_I ?_ hQ
        rw [hbs]
        have e5 : eaV (I r (3 + b)) = nI 0 := by
          rw [ej]
          show eaN (ix (nI j)) = _
          rw [ix_n hj, eaN]
          rw [if_pos (p10_1 hp (by first | exact c96 | exact Classical.not_not.mp c96))]
        simp only [up2_row, setRow_s, setRow_2, e5]
    · exact absurd (show nI b = -1 from by first | exact c57 | exact Classical.not_not.mp c57) (nI_nm1 (by omega))
def loR (B : MI) (ts : Nat → Option EX) (es : Nat → EX) : Nat → Nat → (Nat → Int32) → (Nat → Int32)
  | 0, _, row => row
  | f + 1, q, row => loR B ts es f (q + 1) (ob1 B (ts q) (es q) row q)
def mx0 (x : Int32) : Int32 := if nI 0 < x then x else nI 0
def trR (c : Nat → Int32) : Nat → Nat → (Nat → Int32) → (Nat → Int32)
  | 0, _, row => row
  | f + 1, k, row => trR c f (k + 1) (upd row (25 + k) (mx0 (row (25 + k) - c k)))
def psR2 (B : MI) (row : Nat → Int32) : Nat → Int32 := upd (if rem6 (row 0) = 0 then eaR row (nN B) else row) 0 ((if rem6 (row 0) = 0 then eaR row (nN B) else row) 0 + nI 1)
def psR1 (B : MI) (ts : Nat → Option EX) (es : Nat → EX) (row : Nat → Int32) : Nat → Int32 := psR2 B (trR (B 6) (nK B) 0 (loR B ts es (nO B) 0 row))
def psR (B : MI) (ts : Nat → Option EX) (es : Nat → EX) : Nat → (Nat → Int32) → (Nat → Int32)
  | 0, row => row
  | n + 1, row => psR B ts es n (psR1 B ts es row)
set_option maxHeartbeats 4000000 in
theorem lp_X12_pass1 {Γ : Cx} {d r : Nat} (hr : r = 91 ∨ r = 92) {J : MJ} {P : MP} (hB : P 80 8 = some 93) {ts : Nat → Option EX} {es : Nat → EX} {Φ : State → Prop} (h : Vc RX12 cX12_pass 3 none (d + 410) Γ) : ∀ (f q : Nat) (I : MI) (hK : bkOK (bv I)) (ho : ∀ q, q < nO (bv I) → orK (bv I) q (ts q) (es q)), q + f = nO (bv I) → VG Γ 0 0 27 [some (.ref 80), some (.ref r), some (.int (nI (5 * (q + f))))] [] (setRow I r (loR (bv I) ts es f q (I r))) J P Φ → VG Γ 0 0 2 [some (.ref 80), some (.ref r), some (.int (nI (5 * q)))] [] I J P Φ := by
  intro f
  induction f with
  | zero =>
    intro q I hK ho hi K
    have hO := (bk_O hK).1
    have hO2 := (bk_O hK).2
    refine g_iload_2 h dX12_pass_2 ?_
    refine g_iconst h dX12_pass_3 (v := nI 5) rfl ?_
    refine g_aload_0 h dX12_pass_4 ?_
    refine g_getP h fl_X12_87 dX12_pass_5 rfl rfl (by assumption) ?_
    refine g_getI h fl_X12_266 dX12_pass_8 rfl rfl ?_
    refine g_imul h dX12_pass_11 ?_
    rw [hO, show nI 5 * nI (nO (bv I)) = nI (5 * nO (bv I)) from pk_mul _ _]
    refine g_icmp_ge h 27 dX12_pass_12 rfl (fun c12 => ?_) (fun c12 => ?_)
    · rw [loR, setRow_id] at K
      exact K
    · exact absurd (nI_le (by omega) (by omega)) c12
  | succ f ih =>
    intro q I hK ho hi K
    have hO := (bk_O hK).1
    have hO2 := (bk_O hK).2
    refine g_iload_2 h dX12_pass_2 ?_
    refine g_iconst h dX12_pass_3 (v := nI 5) rfl ?_
    refine g_aload_0 h dX12_pass_4 ?_
    refine g_getP h fl_X12_87 dX12_pass_5 rfl rfl (by assumption) ?_
    refine g_getI h fl_X12_266 dX12_pass_8 rfl rfl ?_
    refine g_imul h dX12_pass_11 ?_
    rw [hO, show nI 5 * nI (nO (bv I)) = nI (5 * nO (bv I)) from pk_mul _ _]
    refine g_icmp_ge h 27 dX12_pass_12 rfl (fun c12 => ?_) (fun c12 => ?_)
    · exact absurd (leN c12 (by omega) (by omega)) (by omega)
    · refine g_aload_0 h dX12_pass_15 ?_
      refine g_aload_1 h dX12_pass_16 ?_
      refine g_iload_2 h dX12_pass_17 ?_
      refine g_cVv2 h rok0 mi_X12_obey dX12_pass_18 ml_X12_333 rfl rfl rfl (Nat.le_of_ble_eq_true rfl) (Nat.le_of_ble_eq_true rfl) (sp_X12_obey hr hB hK (by omega) (ho q (by omega)) ?_)
      refine g_iinc_2 h dX12_pass_21 (show nI (5 * q) + Int32.ofInt 5 = nI (5 * (q + 1)) from nI_add (5 * q) 5) (by decide) rfl ?_
      refine g_goto h 2 dX12_pass_24 rfl ?_
      have e2 := bvR hr I (ob1 (bv I) (ts q) (es q) (I r) q)
      refine ih (q + 1) _ (by rw [e2]; exact hK) (by rw [e2]; exact ho) (by rw [e2]; omega) ?_
      rw [e2, setRow_s, setRow_2, show q + 1 + f = q + (f + 1) by omega]
      exact K
set_option maxHeartbeats 4000000 in
theorem lp_X12_pass2 {Γ : Cx} {d r : Nat} (hr : r = 91 ∨ r = 92) {J : MJ} {P : MP} (hB : P 80 8 = some 93) {Φ : State → Prop} (h : Vc RX12 cX12_pass 3 none (d + 410) Γ) : ∀ (f k : Nat) (I : MI) (hK : bkOK (bv I)), k + f = nK (bv I) → VG Γ 0 0 72 [some (.ref 80), some (.ref r), some (.int (nI (k + f)))] [] (setRow I r (trR (bv I 6) f k (I r))) J P Φ → VG Γ 0 0 29 [some (.ref 80), some (.ref r), some (.int (nI k))] [] I J P Φ := by
  intro f
  induction f with
  | zero =>
    intro k I hK hi K
    have hN := (bk_K hK).1
    have hN2 := (bk_K hK).2
    refine g_iload_2 h dX12_pass_29 ?_
    refine g_aload_0 h dX12_pass_30 ?_
    refine g_getP h fl_X12_87 dX12_pass_31 rfl rfl (by assumption) ?_
    refine g_getI h fl_X12_167 dX12_pass_34 rfl rfl ?_
    refine g_icmp_ge h 72 dX12_pass_37 rfl (fun c37 => ?_) (fun c37 => ?_)
    · rw [trR, setRow_id] at K
      exact K
    · exact absurd (by rw [hN]; exact nI_le (by omega) (by omega)) c37
  | succ f ih =>
    intro k I hK hi K
    have hN := (bk_K hK).1
    have hN2 := (bk_K hK).2
    refine g_iload_2 h dX12_pass_29 ?_
    refine g_aload_0 h dX12_pass_30 ?_
    refine g_getP h fl_X12_87 dX12_pass_31 rfl rfl (by assumption) ?_
    refine g_getI h fl_X12_167 dX12_pass_34 rfl rfl ?_
    refine g_icmp_ge h 72 dX12_pass_37 rfl (fun c37 => ?_) (fun c37 => ?_)
    · exact absurd (leN (by simpa only [hN] using c37) (by omega) (by omega)) (by omega)
    · refine g_aload_1 h dX12_pass_40 ?_
      refine g_bipush h dX12_pass_41 (v := nI 25) rfl ?_
      refine g_iload_2 h dX12_pass_43 ?_
      refine g_iadd h dX12_pass_44 ?_
      refine g_iconst h dX12_pass_45 (v := nI 0) rfl ?_
      refine g_aload_1 h dX12_pass_46 ?_
      refine g_bipush h dX12_pass_47 (v := nI 25) rfl ?_
      refine g_iload_2 h dX12_pass_49 ?_
      refine g_iadd h dX12_pass_50 ?_
      refine g_iald h (25 + k) dX12_pass_51 (shpR hr) (nI_add 25 k) (by omega) ?_
      refine g_aload_0 h dX12_pass_52 ?_
      refine g_getP h fl_X12_87 dX12_pass_53 rfl rfl (by assumption) ?_
      refine g_getC h fl_X12_263 dX12_pass_56 rfl rfl ?_
      refine g_iload_2 h dX12_pass_59 ?_
      refine g_iald h k dX12_pass_60 rfl rfl (by omega) ?_
      refine g_isub h dX12_pass_61 ?_
      refine g_mmax h dX12_pass_62 ml_X12_313 rok0 (Nat.le_of_ble_eq_true rfl) ?_
      refine g_iast h (25 + k) dX12_pass_65 (shpR hr) (nI_add 25 k) (by omega) ?_
      refine g_iinc_2 h dX12_pass_66 (inc1 _) (by decide) rfl ?_
      refine g_goto h 29 dX12_pass_69 rfl ?_
      rw [up2_row]
      have e2 := bvR hr I (upd (I r) (25 + k) (mx0 (I r (25 + k) - bv I 6 k)))
      refine ih (k + 1) _ (show bkOK (bv (setRow I r (upd (I r) (25 + k) (mx0 (I r (25 + k) - bv I 6 k))))) by rw [e2]; exact hK) (show k + 1 + f = nK (bv (setRow I r (upd (I r) (25 + k) (mx0 (I r (25 + k) - bv I 6 k))))) by rw [e2]; omega) ?_
      show VG Γ 0 0 72 _ [] (setRow (setRow I r (upd (I r) (25 + k) (mx0 (I r (25 + k) - bv I 6 k)))) r (trR (bv (setRow I r (upd (I r) (25 + k) (mx0 (I r (25 + k) - bv I 6 k)))) 6) f (k + 1) (setRow I r (upd (I r) (25 + k) (mx0 (I r (25 + k) - bv I 6 k))) r))) J P Φ
      rw [e2, setRow_s, setRow_2, show k + 1 + f = k + (f + 1) by omega]
      exact K
set_option maxRecDepth 100000 in
set_option maxHeartbeats 8000000 in
theorem sp_X12_pass {d r : Nat} (hr : r = 91 ∨ r = 92) {I : MI} {J : MJ} {P : MP} (hB : P 80 8 = some 93) (hK : bkOK (bv I)) {ts : Nat → Option EX} {es : Nat → EX} (ho : ∀ q, q < nO (bv I) → orK (bv I) q (ts q) (es q)) {Q : MI → MJ → MP → Prop} (hQ : Q (setRow I r (psR1 (bv I) ts es (I r))) J P) : Sp yX12_pass cX12_pass 3 none (d + 410) [.ref 80, .ref r] I J P (Qv Q) := by
  intro Γ h
  show VG Γ 0 0 0 [some (.ref 80), some (.ref r), none] [] _ _ _ _
  refine g_iconst h dX12_pass_0 (v := nI 0) rfl ?_
  refine g_istore_2 h dX12_pass_1 (by decide) rfl ?_
  refine lp_X12_pass1 hr hB h (nO (bv I)) 0 I hK ho (by omega) ?_
  have e1 := bvR hr I (loR (bv I) ts es (nO (bv I)) 0 (I r))
  unfold psR1 at hQ
  generalize loR (bv I) ts es (nO (bv I)) 0 (I r) = row1 at *
  refine g_iconst h dX12_pass_27 (v := nI 0) rfl ?_
  refine g_istore_2 h dX12_pass_28 (by decide) rfl ?_
  refine lp_X12_pass2 hr hB h (nK (bv I)) 0 _ (by rw [e1]; exact hK) (by rw [e1]; omega) ?_
  rw [e1, setRow_s, setRow_2]
  generalize trR (bv I 6) (nK (bv I)) 0 row1 = row2 at *
  have e2 := bvR hr I row2
  refine g_aload_1 h dX12_pass_72 ?_
  refine g_iconst h dX12_pass_73 (v := nI 0) rfl ?_
  refine g_iald h 0 dX12_pass_74 (shpR hr) rfl (by omega) ?_
  rw [setRow_s]
  refine g_bipush h dX12_pass_75 (v := nI 6) rfl ?_
  refine g_irem h dX12_pass_77 (by decide) ?_
  refine g_if_ne h 86 dX12_pass_78 rfl (fun c78 => ?_) (fun c78 => ?_)
  · refine g_aload_1 h dX12_pass_86 ?_
    refine g_iconst h dX12_pass_87 (v := nI 0) rfl ?_
    refine g_dup2 h dX12_pass_88 rfl rfl ?_
    refine g_iald h 0 dX12_pass_89 (shpR hr) rfl (by omega) ?_
    refine g_iconst h dX12_pass_90 (v := nI 1) rfl ?_
    refine g_iadd h dX12_pass_91 ?_
    refine g_iast h 0 dX12_pass_92 (shpR hr) rfl (by omega) ?_
    refine g_vret h dX12_pass_93 ?_
    refine q_I ?_ hQ
    first
      | (simp only [up2_row, setRow_s, setRow_2, psR2]
         rw [if_pos (show rem6 (row2 0) = 0 from by first | exact c78 | exact Classical.not_not.mp c78)])
      | (simp only [up2_row, setRow_s, setRow_2, psR2]
         rw [if_neg (show ¬ rem6 (row2 0) = 0 from c78)])
  · refine g_aload_0 h dX12_pass_81 ?_
    refine g_aload_1 h dX12_pass_82 ?_
    refine g_cVv1 h rok0 mi_X12_eat dX12_pass_83 ml_X12_337 rfl rfl rfl (Nat.le_of_ble_eq_true rfl) (Nat.le_of_ble_eq_true rfl) (sp_X12_eat (d := d + 407) (N := nN (bv I)) hr hB (by rw [setRow_o (by omega)]; exact (bk_N hK).1) (bk_N hK).2 ?_)
    refine g_aload_1 h dX12_pass_86 ?_
    refine g_iconst h dX12_pass_87 (v := nI 0) rfl ?_
    refine g_dup2 h dX12_pass_88 rfl rfl ?_
    refine g_iald h 0 dX12_pass_89 (shpR hr) rfl (by omega) ?_
    refine g_iconst h dX12_pass_90 (v := nI 1) rfl ?_
    refine g_iadd h dX12_pass_91 ?_
    refine g_iast h 0 dX12_pass_92 (shpR hr) rfl (by omega) ?_
    refine g_vret h dX12_pass_93 ?_
    refine q_I ?_ hQ
    first
      | (simp only [up2_row, setRow_s, setRow_2, psR2]
         rw [if_pos (show rem6 (row2 0) = 0 from by first | exact c78 | exact Classical.not_not.mp c78)])
      | (simp only [up2_row, setRow_s, setRow_2, psR2]
         rw [if_neg (show ¬ rem6 (row2 0) = 0 from c78)])
set_option maxHeartbeats 4000000 in
theorem lp_X12_passAll {Γ : Cx} {d r m : Nat} (hm : m < 2 ^ 30) (hr : r = 91 ∨ r = 92) {J : MJ} {P : MP} (hB : P 80 8 = some 93) {ts : Nat → Option EX} {es : Nat → EX} {Q : MI → MJ → MP → Prop} (h : Vc RX12 cX12_passAll 4 none (d + 411) Γ) : ∀ (f n : Nat) (I : MI) (hK : bkOK (bv I)) (ho : ∀ q, q < nO (bv I) → orK (bv I) q (ts q) (es q)), n + f = m → Q (setRow I r (psR (bv I) ts es f (I r))) J P → VG Γ 0 0 2 [some (.ref 80), some (.ref r), some (.int (nI m)), some (.int (nI n))] [] I J P (Fnl Γ (Qv Q)) := by
  intro f
  induction f with
  | zero =>
    intro n I hK ho hi hQ
    refine g_iload_3 h dX12_passAll_2 ?_
    refine g_iload_2 h dX12_passAll_3 ?_
    refine g_icmp_ge h 18 dX12_passAll_4 rfl (fun c4 => ?_) (fun c4 => ?_)
    · refine g_vret h dX12_passAll_18 ?_
      exact q_I (by rw [psR, setRow_id]) hQ
    · exact absurd (nI_le (by omega) (by omega)) c4
  | succ f ih =>
    intro n I hK ho hi hQ
    refine g_iload_3 h dX12_passAll_2 ?_
    refine g_iload_2 h dX12_passAll_3 ?_
    refine g_icmp_ge h 18 dX12_passAll_4 rfl (fun c4 => ?_) (fun c4 => ?_)
    · exact absurd (leN c4 (by omega) (by omega)) (by omega)
    · refine g_aload_0 h dX12_passAll_7 ?_
      refine g_aload_1 h dX12_passAll_8 ?_
      refine g_cVv1 h rok0 mi_X12_pass dX12_passAll_9 ml_X12_341 rfl rfl rfl (Nat.le_of_ble_eq_true rfl) (Nat.le_of_ble_eq_true rfl) (sp_X12_pass hr hB hK ho ?_)
      refine g_iinc_3 h dX12_passAll_12 (inc1 _) (by decide) rfl ?_
      refine g_goto h 2 dX12_passAll_15 rfl ?_
      have e2 := bvR hr I (psR1 (bv I) ts es (I r))
      exact ih (n + 1) _ (by rw [e2]; exact hK) (by rw [e2]; exact ho) (by omega) (q_I (by rw [e2, setRow_s, setRow_2, psR]) hQ)
set_option maxRecDepth 100000 in
set_option maxHeartbeats 4000000 in
theorem sp_X12_passAll {d r m : Nat} (hm : m < 2 ^ 30) (hr : r = 91 ∨ r = 92) {I : MI} {J : MJ} {P : MP} (hB : P 80 8 = some 93) (hK : bkOK (bv I)) {ts : Nat → Option EX} {es : Nat → EX} (ho : ∀ q, q < nO (bv I) → orK (bv I) q (ts q) (es q)) {Q : MI → MJ → MP → Prop} (hQ : Q (setRow I r (psR (bv I) ts es m (I r))) J P) : Sp yX12_passAll cX12_passAll 4 none (d + 411) [.ref 80, .ref r, .int (nI m)] I J P (Qv Q) := by
  intro Γ h
  show VG Γ 0 0 0 [some (.ref 80), some (.ref r), some (.int (nI m)), none] [] _ _ _ _
  refine g_iconst h dX12_passAll_0 (v := nI 0) rfl ?_
  refine g_istore_3 h dX12_passAll_1 (by decide) rfl ?_
  exact lp_X12_passAll hm hr hB h m 0 I hK ho (by omega) hQ
set_option maxRecDepth 100000 in
set_option maxHeartbeats 4000000 in
theorem sp_X12_lookAhead {d : Nat} {I : MI} {J : MJ} {P : MP} {Q : MI → MJ → MP → Prop} (hQ : Q (setRow I 92 (va_cpy (I 91) (I 92) 0 0 35)) J P) : Sp yX12_lookAhead cX12_lookAhead 1 none (d + 1) [.ref 80] I J P (Qv Q) := by
  intro Γ h
  show VG Γ 0 0 0 [some (.ref 80)] [] _ _ _ _
  refine g_aload_0 h dX12_lookAhead_0 ?_
  refine g_getC h fl_X12_109 dX12_lookAhead_1 rfl rfl ?_
  refine g_iconst h dX12_lookAhead_4 (v := nI 0) rfl ?_
  refine g_aload_0 h dX12_lookAhead_5 ?_
  refine g_getC h fl_X12_112 dX12_lookAhead_6 rfl rfl ?_
  refine g_iconst h dX12_lookAhead_9 (v := nI 0) rfl ?_
  refine g_bipush h dX12_lookAhead_10 (v := nI 35) rfl ?_
  refine g_copyi h 35 dX12_lookAhead_12 ml_X12_344 rok0 rfl rfl (by decide) (by decide) (Nat.le_of_ble_eq_true rfl) ?_
  refine g_vret h dX12_lookAhead_15 ?_
  exact hQ
