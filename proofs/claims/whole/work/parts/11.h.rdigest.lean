/-! The reference: its digest -/
def dgS (f : Nat → Int32) : Nat → Nat → Int64 → Int64
  | 0, _, d => d
  | n + 1, i, d => dgS f n (i + 1) (d * 31 + (f i).toInt64)
theorem mulN (a b : Nat) : nI a * nI b = nI (a * b) := by simp [nI, Int32.ofNat_mul]
theorem divN {a d : Nat} (ha : a < 2 ^ 31) (h0 : 0 < d) (hd : d < 2 ^ 31) : nI a / nI d = nI (a / d) := pk_div ha h0 hd
theorem remN {a d : Nat} (ha : a < 2 ^ 31) (h0 : 0 < d) (hd : d < 2 ^ 31) : nI a - nI a / nI d * nI d = nI (a % d) := pk_rem ha h0 hd
def dgR (B : MI) (row : Nat → Int32) (L : Int32) (z : Int32) : Int64 :=
  dgS (fun _ => z) 1 0 (dgS (fun i => keeR B row (i / 4) (i % 4)) (4 * nK B) 0 (dgS (fun i => topR B row (i / 4) (i % 4)) (4 * nT B) 0 (dgS (fun i => corR B row (i / 9) (i % 9)) (9 * nN B) 0 (dgS (fun i => colR B row (i / 3) (i % 3)) (3 * nC B) 0 (dgS (cntR B row L) 13 0 877)))))
set_option maxRecDepth 100000 in
set_option maxHeartbeats 4000000 in
theorem lp_dg1 {Γ : Cx} {d : Nat} {I : MI} {J : MJ} {P : MP} (hB : P 80 8 = some 93) (hK : bkOK (bv I)) {Φ : State → Prop} (h : Vc RX12 cX12_digest 4 (some .long) (d + 9) Γ) : ∀ (f i : Nat) (s : Int64), i + f = 13 → VG Γ 0 0 40 [some (.ref 80), some (.long (dgS (cntR (bv I) (I 91) (I 80 2)) f i s)), none, some (.int (nI (13)))] [] I J P Φ → VG Γ 0 0 11 [some (.ref 80), some (.long (s)), none, some (.int (nI (i)))] [] I J P Φ := by
  skip
  intro f
  induction f with
  | zero =>
    intro i s hi K
    obtain rfl : i = 13 := by omega
    refine g_iload_3 h dX12_digest_11 ?_
    refine g_bipush h dX12_digest_12 (v := nI 13) rfl ?_
    refine g_icmp_ge h 40 dX12_digest_14 rfl (fun c14 => ?_) (fun c14 => ?_)
    · exact K
    · exact absurd (nI_le (by omega) (by omega)) c14
  | succ f ih =>
    intro i s hi K
    refine g_iload_3 h dX12_digest_11 ?_
    refine g_bipush h dX12_digest_12 (v := nI 13) rfl ?_
    refine g_icmp_ge h 40 dX12_digest_14 rfl (fun c14 => ?_) (fun c14 => ?_)
    · exact absurd (leN c14 (by omega) (by omega)) (by omega)
    · refine g_lload_1 h dX12_digest_17 ?_
      refine g_ldc2 h dX12_digest_18 lc_X12_416 ?_
      refine g_lmul h dX12_digest_21 ?_
      refine g_aload_0 h dX12_digest_22 ?_
      refine g_aload_0 h dX12_digest_23 ?_
      refine g_getC h fl_X12_109 dX12_digest_24 rfl rfl ?_
      refine g_iload_3 h dX12_digest_27 ?_
      refine g_cVi2 h rok0 mi_X12_counted dX12_digest_28 ml_X12_357 rfl rfl rfl (Nat.le_of_ble_eq_true rfl) (Nat.le_of_ble_eq_true rfl) (sp_X12_counted (Or.inl rfl) hB hK (by omega) ?_)
      refine g_i2l h dX12_digest_31 ?_
      refine g_ladd h dX12_digest_32 ?_
      refine g_lstore_1 h dX12_digest_33 (by decide) rfl ?_
      refine g_iinc_3 h dX12_digest_34 (inc1 _) (by decide) rfl ?_
      refine g_goto h 11 dX12_digest_37 rfl ?_
      exact ih (i + 1) _ (by omega) K
set_option maxRecDepth 100000 in
set_option maxHeartbeats 4000000 in
theorem lp_dg2 {Γ : Cx} {d : Nat} {I : MI} {J : MJ} {P : MP} (hB : P 80 8 = some 93) (hK : bkOK (bv I)) {Φ : State → Prop} (h : Vc RX12 cX12_digest 4 (some .long) (d + 9) Γ) : ∀ (f i : Nat) (s : Int64), i + f = 3 * nC (bv I) → VG Γ 0 0 79 [some (.ref 80), some (.long (dgS (fun i => colR (bv I) (I 91) (i / 3) (i % 3)) f i s)), none, some (.int (nI (3 * nC (bv I))))] [] I J P Φ → VG Γ 0 0 42 [some (.ref 80), some (.long (s)), none, some (.int (nI (i)))] [] I J P Φ := by
  obtain ⟨hcn, h6⟩ := bk_C hK
  intro f
  induction f with
  | zero =>
    intro i s hi K
    obtain rfl : i = 3 * nC (bv I) := by omega
    refine g_iload_3 h dX12_digest_42 ?_
    refine g_iconst h dX12_digest_43 (v := nI 3) rfl ?_
    refine g_aload_0 h dX12_digest_44 ?_
    refine g_getP h fl_X12_87 dX12_digest_45 rfl rfl (by assumption) ?_
    refine g_getI h fl_X12_154 dX12_digest_48 rfl rfl ?_
    refine g_imul h dX12_digest_51 ?_
    rw [hcn, mulN]
    refine g_icmp_ge h 79 dX12_digest_52 rfl (fun c52 => ?_) (fun c52 => ?_)
    · exact K
    · exact absurd (nI_le (by omega) (by omega)) c52
  | succ f ih =>
    intro i s hi K
    refine g_iload_3 h dX12_digest_42 ?_
    refine g_iconst h dX12_digest_43 (v := nI 3) rfl ?_
    refine g_aload_0 h dX12_digest_44 ?_
    refine g_getP h fl_X12_87 dX12_digest_45 rfl rfl (by assumption) ?_
    refine g_getI h fl_X12_154 dX12_digest_48 rfl rfl ?_
    refine g_imul h dX12_digest_51 ?_
    rw [hcn, mulN]
    refine g_icmp_ge h 79 dX12_digest_52 rfl (fun c52 => ?_) (fun c52 => ?_)
    · exact absurd (leN c52 (by omega) (by omega)) (by omega)
    · refine g_lload_1 h dX12_digest_55 ?_
      refine g_ldc2 h dX12_digest_56 lc_X12_416 ?_
      refine g_lmul h dX12_digest_59 ?_
      refine g_aload_0 h dX12_digest_60 ?_
      refine g_iload_3 h dX12_digest_61 ?_
      refine g_iconst h dX12_digest_62 (v := nI 3) rfl ?_
      refine g_idiv h dX12_digest_63 (by decide) ?_
      refine g_iload_3 h dX12_digest_64 ?_
      refine g_iconst h dX12_digest_65 (v := nI 3) rfl ?_
      refine g_irem h dX12_digest_66 (by decide) ?_
      rw [remN (by omega) (by decide) (by decide), divN (by omega) (by decide) (by decide)]
      refine g_cVi2 h rok0 mi_X12_colourTold dX12_digest_67 ml_X12_363 rfl rfl rfl (Nat.le_of_ble_eq_true rfl) (Nat.le_of_ble_eq_true rfl) (sp_X12_colourTold hB hK (by omega) (by omega) ?_)
      refine g_i2l h dX12_digest_70 ?_
      refine g_ladd h dX12_digest_71 ?_
      refine g_lstore_1 h dX12_digest_72 (by decide) rfl ?_
      refine g_iinc_3 h dX12_digest_73 (inc1 _) (by decide) rfl ?_
      refine g_goto h 42 dX12_digest_76 rfl ?_
      exact ih (i + 1) _ (by omega) K
set_option maxRecDepth 100000 in
set_option maxHeartbeats 4000000 in
theorem lp_dg3 {Γ : Cx} {d : Nat} {I : MI} {J : MJ} {P : MP} (hB : P 80 8 = some 93) (hK : bkOK (bv I)) {Φ : State → Prop} (h : Vc RX12 cX12_digest 4 (some .long) (d + 9) Γ) : ∀ (f i : Nat) (s : Int64), i + f = 9 * nN (bv I) → VG Γ 0 0 121 [some (.ref 80), some (.long (dgS (fun i => corR (bv I) (I 91) (i / 9) (i % 9)) f i s)), none, some (.int (nI (9 * nN (bv I))))] [] I J P Φ → VG Γ 0 0 81 [some (.ref 80), some (.long (s)), none, some (.int (nI (i)))] [] I J P Φ := by
  obtain ⟨hcn, h6⟩ := bk_N hK
  intro f
  induction f with
  | zero =>
    intro i s hi K
    obtain rfl : i = 9 * nN (bv I) := by omega
    refine g_iload_3 h dX12_digest_81 ?_
    refine g_bipush h dX12_digest_82 (v := nI 9) rfl ?_
    refine g_aload_0 h dX12_digest_84 ?_
    refine g_getP h fl_X12_87 dX12_digest_85 rfl rfl (by assumption) ?_
    refine g_getI h fl_X12_161 dX12_digest_88 rfl rfl ?_
    refine g_imul h dX12_digest_91 ?_
    rw [hcn, mulN]
    refine g_icmp_ge h 121 dX12_digest_92 rfl (fun c92 => ?_) (fun c92 => ?_)
    · exact K
    · exact absurd (nI_le (by omega) (by omega)) c92
  | succ f ih =>
    intro i s hi K
    refine g_iload_3 h dX12_digest_81 ?_
    refine g_bipush h dX12_digest_82 (v := nI 9) rfl ?_
    refine g_aload_0 h dX12_digest_84 ?_
    refine g_getP h fl_X12_87 dX12_digest_85 rfl rfl (by assumption) ?_
    refine g_getI h fl_X12_161 dX12_digest_88 rfl rfl ?_
    refine g_imul h dX12_digest_91 ?_
    rw [hcn, mulN]
    refine g_icmp_ge h 121 dX12_digest_92 rfl (fun c92 => ?_) (fun c92 => ?_)
    · exact absurd (leN c92 (by omega) (by omega)) (by omega)
    · refine g_lload_1 h dX12_digest_95 ?_
      refine g_ldc2 h dX12_digest_96 lc_X12_416 ?_
      refine g_lmul h dX12_digest_99 ?_
      refine g_aload_0 h dX12_digest_100 ?_
      refine g_iload_3 h dX12_digest_101 ?_
      refine g_bipush h dX12_digest_102 (v := nI 9) rfl ?_
      refine g_idiv h dX12_digest_104 (by decide) ?_
      refine g_iload_3 h dX12_digest_105 ?_
      refine g_bipush h dX12_digest_106 (v := nI 9) rfl ?_
      refine g_irem h dX12_digest_108 (by decide) ?_
      rw [remN (by omega) (by decide) (by decide), divN (by omega) (by decide) (by decide)]
      refine g_cVi2 h rok0 mi_X12_cordTold dX12_digest_109 ml_X12_375 rfl rfl rfl (Nat.le_of_ble_eq_true rfl) (Nat.le_of_ble_eq_true rfl) (sp_X12_cordTold hB hK (by omega) (by omega) ?_)
      refine g_i2l h dX12_digest_112 ?_
      refine g_ladd h dX12_digest_113 ?_
      refine g_lstore_1 h dX12_digest_114 (by decide) rfl ?_
      refine g_iinc_3 h dX12_digest_115 (inc1 _) (by decide) rfl ?_
      refine g_goto h 81 dX12_digest_118 rfl ?_
      exact ih (i + 1) _ (by omega) K
set_option maxRecDepth 100000 in
set_option maxHeartbeats 4000000 in
theorem lp_dg4 {Γ : Cx} {d : Nat} {I : MI} {J : MJ} {P : MP} (hB : P 80 8 = some 93) (hK : bkOK (bv I)) {Φ : State → Prop} (h : Vc RX12 cX12_digest 4 (some .long) (d + 9) Γ) : ∀ (f i : Nat) (s : Int64), i + f = 4 * nT (bv I) → VG Γ 0 0 160 [some (.ref 80), some (.long (dgS (fun i => topR (bv I) (I 91) (i / 4) (i % 4)) f i s)), none, some (.int (nI (4 * nT (bv I))))] [] I J P Φ → VG Γ 0 0 123 [some (.ref 80), some (.long (s)), none, some (.int (nI (i)))] [] I J P Φ := by
  obtain ⟨hcn, h6⟩ := bk_T hK
  intro f
  induction f with
  | zero =>
    intro i s hi K
    obtain rfl : i = 4 * nT (bv I) := by omega
    refine g_iload_3 h dX12_digest_123 ?_
    refine g_iconst h dX12_digest_124 (v := nI 4) rfl ?_
    refine g_aload_0 h dX12_digest_125 ?_
    refine g_getP h fl_X12_87 dX12_digest_126 rfl rfl (by assumption) ?_
    refine g_getI h fl_X12_164 dX12_digest_129 rfl rfl ?_
    refine g_imul h dX12_digest_132 ?_
    rw [hcn, mulN]
    refine g_icmp_ge h 160 dX12_digest_133 rfl (fun c133 => ?_) (fun c133 => ?_)
    · exact K
    · exact absurd (nI_le (by omega) (by omega)) c133
  | succ f ih =>
    intro i s hi K
    refine g_iload_3 h dX12_digest_123 ?_
    refine g_iconst h dX12_digest_124 (v := nI 4) rfl ?_
    refine g_aload_0 h dX12_digest_125 ?_
    refine g_getP h fl_X12_87 dX12_digest_126 rfl rfl (by assumption) ?_
    refine g_getI h fl_X12_164 dX12_digest_129 rfl rfl ?_
    refine g_imul h dX12_digest_132 ?_
    rw [hcn, mulN]
    refine g_icmp_ge h 160 dX12_digest_133 rfl (fun c133 => ?_) (fun c133 => ?_)
    · exact absurd (leN c133 (by omega) (by omega)) (by omega)
    · refine g_lload_1 h dX12_digest_136 ?_
      refine g_ldc2 h dX12_digest_137 lc_X12_416 ?_
      refine g_lmul h dX12_digest_140 ?_
      refine g_aload_0 h dX12_digest_141 ?_
      refine g_iload_3 h dX12_digest_142 ?_
      refine g_iconst h dX12_digest_143 (v := nI 4) rfl ?_
      refine g_idiv h dX12_digest_144 (by decide) ?_
      refine g_iload_3 h dX12_digest_145 ?_
      refine g_iconst h dX12_digest_146 (v := nI 4) rfl ?_
      refine g_irem h dX12_digest_147 (by decide) ?_
      rw [remN (by omega) (by decide) (by decide), divN (by omega) (by decide) (by decide)]
      refine g_cVi2 h rok0 mi_X12_topTold dX12_digest_148 ml_X12_381 rfl rfl rfl (Nat.le_of_ble_eq_true rfl) (Nat.le_of_ble_eq_true rfl) (sp_X12_topTold hB hK (by omega) (by omega) ?_)
      refine g_i2l h dX12_digest_151 ?_
      refine g_ladd h dX12_digest_152 ?_
      refine g_lstore_1 h dX12_digest_153 (by decide) rfl ?_
      refine g_iinc_3 h dX12_digest_154 (inc1 _) (by decide) rfl ?_
      refine g_goto h 123 dX12_digest_157 rfl ?_
      exact ih (i + 1) _ (by omega) K
set_option maxRecDepth 100000 in
set_option maxHeartbeats 4000000 in
theorem lp_dg5 {Γ : Cx} {d : Nat} {I : MI} {J : MJ} {P : MP} (hB : P 80 8 = some 93) (hK : bkOK (bv I)) {Φ : State → Prop} (h : Vc RX12 cX12_digest 4 (some .long) (d + 9) Γ) : ∀ (f i : Nat) (s : Int64), i + f = 4 * nK (bv I) → VG Γ 0 0 199 [some (.ref 80), some (.long (dgS (fun i => keeR (bv I) (I 91) (i / 4) (i % 4)) f i s)), none, some (.int (nI (4 * nK (bv I))))] [] I J P Φ → VG Γ 0 0 162 [some (.ref 80), some (.long (s)), none, some (.int (nI (i)))] [] I J P Φ := by
  obtain ⟨hcn, h6⟩ := bk_K hK
  intro f
  induction f with
  | zero =>
    intro i s hi K
    obtain rfl : i = 4 * nK (bv I) := by omega
    refine g_iload_3 h dX12_digest_162 ?_
    refine g_iconst h dX12_digest_163 (v := nI 4) rfl ?_
    refine g_aload_0 h dX12_digest_164 ?_
    refine g_getP h fl_X12_87 dX12_digest_165 rfl rfl (by assumption) ?_
    refine g_getI h fl_X12_167 dX12_digest_168 rfl rfl ?_
    refine g_imul h dX12_digest_171 ?_
    rw [hcn, mulN]
    refine g_icmp_ge h 199 dX12_digest_172 rfl (fun c172 => ?_) (fun c172 => ?_)
    · exact K
    · exact absurd (nI_le (by omega) (by omega)) c172
  | succ f ih =>
    intro i s hi K
    refine g_iload_3 h dX12_digest_162 ?_
    refine g_iconst h dX12_digest_163 (v := nI 4) rfl ?_
    refine g_aload_0 h dX12_digest_164 ?_
    refine g_getP h fl_X12_87 dX12_digest_165 rfl rfl (by assumption) ?_
    refine g_getI h fl_X12_167 dX12_digest_168 rfl rfl ?_
    refine g_imul h dX12_digest_171 ?_
    rw [hcn, mulN]
    refine g_icmp_ge h 199 dX12_digest_172 rfl (fun c172 => ?_) (fun c172 => ?_)
    · exact absurd (leN c172 (by omega) (by omega)) (by omega)
    · refine g_lload_1 h dX12_digest_175 ?_
      refine g_ldc2 h dX12_digest_176 lc_X12_416 ?_
      refine g_lmul h dX12_digest_179 ?_
      refine g_aload_0 h dX12_digest_180 ?_
      refine g_iload_3 h dX12_digest_181 ?_
      refine g_iconst h dX12_digest_182 (v := nI 4) rfl ?_
      refine g_idiv h dX12_digest_183 (by decide) ?_
      refine g_iload_3 h dX12_digest_184 ?_
      refine g_iconst h dX12_digest_185 (v := nI 4) rfl ?_
      refine g_irem h dX12_digest_186 (by decide) ?_
      rw [remN (by omega) (by decide) (by decide), divN (by omega) (by decide) (by decide)]
      refine g_cVi2 h rok0 mi_X12_keeperTold dX12_digest_187 ml_X12_387 rfl rfl rfl (Nat.le_of_ble_eq_true rfl) (Nat.le_of_ble_eq_true rfl) (sp_X12_keeperTold hB (by omega) (by omega) ?_)
      refine g_i2l h dX12_digest_190 ?_
      refine g_ladd h dX12_digest_191 ?_
      refine g_lstore_1 h dX12_digest_192 (by decide) rfl ?_
      refine g_iinc_3 h dX12_digest_193 (inc1 _) (by decide) rfl ?_
      refine g_goto h 162 dX12_digest_196 rfl ?_
      exact ih (i + 1) _ (by omega) K
set_option maxRecDepth 100000 in
set_option maxHeartbeats 4000000 in
theorem sp_X12_digest {d : Nat} {I : MI} {J : MJ} {P : MP} (hB : P 80 8 = some 93) (hK : bkOK (bv I)) {Q : Int64 → MI → MJ → MP → Prop} (hQ : Q (dgR (bv I) (I 91) (I 80 2) (sumF (fun i => b2i (jmR (bv I) i)) (nN (bv I)) 0 (nI 0))) (up2 I 80 0 (nI 0)) J P) : Sp yX12_digest cX12_digest 4 (some .long) (d + 9) [.ref 80] I J P (Ql Q) := by
  intro Γ h
  show VG Γ 0 0 0 [some (.ref 80), none, none, none] [] _ _ _ _
  have hB1 : P 80 8 = some 93 := hB
  have hK1 : bkOK (bv (up2 I 80 0 (nI 0))) := by rw [bv80]; exact hK
  have e91 : up2 I 80 0 (nI 0) 91 = I 91 := up2_o (by decide)
  have e93 : up2 I 80 0 (nI 0) 93 = I 93 := up2_o (by decide)
  have e80 : up2 I 80 0 (nI 0) 80 2 = I 80 2 := up2_n (by decide)
  refine g_aload_0 h dX12_digest_0 ?_
  refine g_iconst h dX12_digest_1 (v := nI 0) rfl ?_
  refine g_putI h fp_X12_1 dX12_digest_2 rfl rfl ?_
  refine g_ldc2 h dX12_digest_5 lc_X12_414 ?_
  refine g_lstore_1 h dX12_digest_8 (by decide) rfl ?_
  refine g_iconst h dX12_digest_9 (v := nI 0) rfl ?_
  refine g_istore_3 h dX12_digest_10 (by decide) rfl ?_
  refine lp_dg1 hB1 hK1 h 13 0 _ (by omega) ?_
  refine g_iconst h dX12_digest_40 (v := nI 0) rfl ?_
  refine g_istore_3 h dX12_digest_41 (by decide) rfl ?_
  refine lp_dg2 hB1 hK1 h (3 * nC (bv (up2 I 80 0 (nI 0)))) 0 _ (by omega) ?_
  refine g_iconst h dX12_digest_79 (v := nI 0) rfl ?_
  refine g_istore_3 h dX12_digest_80 (by decide) rfl ?_
  refine lp_dg3 hB1 hK1 h (9 * nN (bv (up2 I 80 0 (nI 0)))) 0 _ (by omega) ?_
  refine g_iconst h dX12_digest_121 (v := nI 0) rfl ?_
  refine g_istore_3 h dX12_digest_122 (by decide) rfl ?_
  refine lp_dg4 hB1 hK1 h (4 * nT (bv (up2 I 80 0 (nI 0)))) 0 _ (by omega) ?_
  refine g_iconst h dX12_digest_160 (v := nI 0) rfl ?_
  refine g_istore_3 h dX12_digest_161 (by decide) rfl ?_
  refine lp_dg5 hB1 hK1 h (4 * nK (bv (up2 I 80 0 (nI 0)))) 0 _ (by omega) ?_
  refine g_lload_1 h dX12_digest_199 ?_
  refine g_ldc2 h dX12_digest_200 lc_X12_416 ?_
  refine g_lmul h dX12_digest_203 ?_
  refine g_aload_0 h dX12_digest_204 ?_
  refine g_cVi0 h rok0 mi_X12_jumble dX12_digest_205 ml_X12_396 rfl rfl rfl (Nat.le_of_ble_eq_true rfl) (Nat.le_of_ble_eq_true rfl) (sp_X12_jumble hB1 hK1 ?_)
  refine g_i2l h dX12_digest_208 ?_
  refine g_ladd h dX12_digest_209 ?_
  refine g_lret h dX12_digest_210 ?_
  rw [bv80, e91, e80]
  exact hQ
