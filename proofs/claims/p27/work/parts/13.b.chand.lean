/-! The class: its digest, its methods by hand, its months -/
def dgC (I : MI) : Int64 :=
  dgS (fun _ => sumF (fun i => b2i (oor (I 37) (I 21) (nC (dv I)) (I 22) i)) (nN (dv I)) 0 (nI 0)) 1 0 (dgS (fun i => keeT I (i / 4) (i % 4)) (4 * nK (dv I)) 0 (dgS (fun i => topT I (nN (dv I)) (i / 4) (zS (dv I) (i / 4)) (i % 4)) (4 * nT (dv I)) 0 (dgS (fun i => corT I (nN (dv I)) (nT (dv I)) (zS (dv I)) (i / 9) (i % 9)) (9 * nN (dv I)) 0 (dgS (fun i => colT I (nN (dv I)) (i / 3) (i % 3)) (3 * nC (dv I)) 0 (dgS (cntC I) 13 0 877)))))
set_option maxRecDepth 100000 in
set_option maxHeartbeats 4000000 in
theorem lc_dg1 {Γ : Cx} {d : Nat} {I : MI} {J : MJ} {P : MP} (hT : P 20 0 = some 36) (hD : tdOK (dv I)) {Φ : State → Prop} (h : Vc RX10 cX10_digest 4 (some .long) (d + 8) Γ) : ∀ (f i : Nat) (s : Int64), i + f = 12 → (∀ s', s' * 31 + (I 1 1).toInt64 = dgS (cntC I) (f + 1) i s → VG Γ 0 0 34 [some (.ref 0), some (.long (s')), none, some (.int (nI (12)))] [] I J P Φ) → VG Γ 0 0 6 [some (.ref 0), some (.long (s)), none, some (.int (nI (i)))] [] I J P Φ := by
  obtain ⟨eC, lC⟩ := td_C hD
  obtain ⟨eN, lN⟩ := td_N hD
  obtain ⟨eT, lT⟩ := td_T hD
  obtain ⟨eK, lK⟩ := td_K hD
  have eS := td_S hD
  intro f
  induction f with
  | zero =>
    intro i s hi K
    obtain rfl : i = 12 := by omega
    refine g_iload_3 h dX10_digest_6 ?_
    refine g_bipush h dX10_digest_7 (v := nI 12) rfl ?_
    refine g_icmp_ge h 34 dX10_digest_9 rfl (fun c9 => ?_) (fun c9 => ?_)
    · exact K s rfl
    · exact absurd (nI_le (by omega) (by omega)) c9
  | succ f ih =>
    intro i s hi K
    have hi12 : ¬ i = 12 := by omega
    refine g_iload_3 h dX10_digest_6 ?_
    refine g_bipush h dX10_digest_7 (v := nI 12) rfl ?_
    refine g_icmp_ge h 34 dX10_digest_9 rfl (fun c9 => ?_) (fun c9 => ?_)
    · exact absurd (leN c9 (by omega) (by omega)) (by omega)
    · refine g_lload_1 h dX10_digest_12 ?_
      refine g_ldc2 h dX10_digest_13 lc_X10_257 ?_
      refine g_lmul h dX10_digest_16 ?_
      refine g_aload_0 h dX10_digest_17 ?_
      refine g_getC h fl_X10_58 dX10_digest_18 rfl rfl ?_
      refine g_iload_3 h dX10_digest_21 ?_
      refine g_cVi1 h rok0 mi_X5_countTells dX10_digest_22 ml_X10_129 rfl rfl rfl (Nat.le_of_ble_eq_true rfl) (Nat.le_of_ble_eq_true rfl) (sp_X5_countTells_20 hT eN lN eT lT eS (show i < 12 by omega) ?_)
      refine g_i2l h dX10_digest_25 ?_
      refine g_ladd h dX10_digest_26 ?_
      refine g_lstore_1 h dX10_digest_27 (by decide) rfl ?_
      refine g_iinc_3 h dX10_digest_28 (inc1 _) (by decide) rfl ?_
      refine g_goto h 6 dX10_digest_31 rfl ?_
      exact ih (i + 1) _ (by omega) (fun s' e => K s' (e.trans (by conv => rhs; rw [dgS, cntC, if_neg hi12])))
set_option maxRecDepth 100000 in
set_option maxHeartbeats 4000000 in
theorem lc_dg2 {Γ : Cx} {d : Nat} {I : MI} {J : MJ} {P : MP} (hT : P 20 0 = some 36) (h0 : P 0 0 = some 36) (hD : tdOK (dv I)) {Φ : State → Prop} (h : Vc RX10 cX10_digest 4 (some .long) (d + 8) Γ) : ∀ (f i : Nat) (s : Int64), i + f = 3 * nC (dv I) → VG Γ 0 0 91 [some (.ref 0), some (.long (dgS (fun i => colT I (nN (dv I)) (i / 3) (i % 3)) f i s)), none, some (.int (nI (3 * nC (dv I))))] [] I J P Φ → VG Γ 0 0 51 [some (.ref 0), some (.long (s)), none, some (.int (nI (i)))] [] I J P Φ := by
  obtain ⟨eC, lC⟩ := td_C hD
  obtain ⟨eN, lN⟩ := td_N hD
  obtain ⟨eT, lT⟩ := td_T hD
  obtain ⟨eK, lK⟩ := td_K hD
  have eS := td_S hD
  intro f
  induction f with
  | zero =>
    intro i s hi K
    obtain rfl : i = 3 * nC (dv I) := by omega
    refine g_iload_3 h dX10_digest_51 ?_
    refine g_aload_0 h dX10_digest_52 ?_
    refine g_getP h fl_X10_10 dX10_digest_53 rfl rfl (by assumption) ?_
    refine g_getI h fl_X10_259 dX10_digest_56 rfl rfl ?_
    refine g_iconst h dX10_digest_59 (v := nI 3) rfl ?_
    refine g_imul h dX10_digest_60 ?_
    rw [eC, mulN, Nat.mul_comm (nC (dv I)) 3]
    refine g_icmp_ge h 91 dX10_digest_61 rfl (fun c61 => ?_) (fun c61 => ?_)
    · exact K
    · exact absurd (nI_le (by omega) (by omega)) c61
  | succ f ih =>
    intro i s hi K
    refine g_iload_3 h dX10_digest_51 ?_
    refine g_aload_0 h dX10_digest_52 ?_
    refine g_getP h fl_X10_10 dX10_digest_53 rfl rfl (by assumption) ?_
    refine g_getI h fl_X10_259 dX10_digest_56 rfl rfl ?_
    refine g_iconst h dX10_digest_59 (v := nI 3) rfl ?_
    refine g_imul h dX10_digest_60 ?_
    rw [eC, mulN, Nat.mul_comm (nC (dv I)) 3]
    refine g_icmp_ge h 91 dX10_digest_61 rfl (fun c61 => ?_) (fun c61 => ?_)
    · exact absurd (leN c61 (by omega) (by omega)) (by omega)
    · refine g_lload_1 h dX10_digest_64 ?_
      refine g_ldc2 h dX10_digest_65 lc_X10_257 ?_
      refine g_lmul h dX10_digest_68 ?_
      refine g_aload_0 h dX10_digest_69 ?_
      refine g_getC h fl_X10_58 dX10_digest_70 rfl rfl ?_
      refine g_iload_3 h dX10_digest_73 ?_
      refine g_iconst h dX10_digest_74 (v := nI 3) rfl ?_
      refine g_idiv h dX10_digest_75 (by decide) ?_
      refine g_iload_3 h dX10_digest_76 ?_
      refine g_iconst h dX10_digest_77 (v := nI 3) rfl ?_
      refine g_irem h dX10_digest_78 (by decide) ?_
      rw [remN (by omega) (by decide) (by decide), divN (by omega) (by decide) (by decide)]
      refine g_cVi2 h rok0 mi_X5_colourTells dX10_digest_79 ml_X10_138 rfl rfl rfl (Nat.le_of_ble_eq_true rfl) (Nat.le_of_ble_eq_true rfl) (sp_X5_colourTells_20 hT eN lN (by omega) (by omega) ?_)
      refine g_i2l h dX10_digest_82 ?_
      refine g_ladd h dX10_digest_83 ?_
      refine g_lstore_1 h dX10_digest_84 (by decide) rfl ?_
      refine g_iinc_3 h dX10_digest_85 (inc1 _) (by decide) rfl ?_
      refine g_goto h 51 dX10_digest_88 rfl ?_
      exact ih (i + 1) _ (by omega) K
set_option maxRecDepth 100000 in
set_option maxHeartbeats 4000000 in
theorem lc_dg3 {Γ : Cx} {d : Nat} {I : MI} {J : MJ} {P : MP} (hT : P 20 0 = some 36) (h0 : P 0 0 = some 36) (hD : tdOK (dv I)) {Φ : State → Prop} (h : Vc RX10 cX10_digest 4 (some .long) (d + 8) Γ) : ∀ (f i : Nat) (s : Int64), i + f = 9 * nN (dv I) → VG Γ 0 0 136 [some (.ref 0), some (.long (dgS (fun i => corT I (nN (dv I)) (nT (dv I)) (zS (dv I)) (i / 9) (i % 9)) f i s)), none, some (.int (nI (9 * nN (dv I))))] [] I J P Φ → VG Γ 0 0 93 [some (.ref 0), some (.long (s)), none, some (.int (nI (i)))] [] I J P Φ := by
  obtain ⟨eC, lC⟩ := td_C hD
  obtain ⟨eN, lN⟩ := td_N hD
  obtain ⟨eT, lT⟩ := td_T hD
  obtain ⟨eK, lK⟩ := td_K hD
  have eS := td_S hD
  intro f
  induction f with
  | zero =>
    intro i s hi K
    obtain rfl : i = 9 * nN (dv I) := by omega
    refine g_iload_3 h dX10_digest_93 ?_
    refine g_aload_0 h dX10_digest_94 ?_
    refine g_getP h fl_X10_10 dX10_digest_95 rfl rfl (by assumption) ?_
    refine g_getI h fl_X10_262 dX10_digest_98 rfl rfl ?_
    refine g_bipush h dX10_digest_101 (v := nI 9) rfl ?_
    refine g_imul h dX10_digest_103 ?_
    rw [eN, mulN, Nat.mul_comm (nN (dv I)) 9]
    refine g_icmp_ge h 136 dX10_digest_104 rfl (fun c104 => ?_) (fun c104 => ?_)
    · exact K
    · exact absurd (nI_le (by omega) (by omega)) c104
  | succ f ih =>
    intro i s hi K
    refine g_iload_3 h dX10_digest_93 ?_
    refine g_aload_0 h dX10_digest_94 ?_
    refine g_getP h fl_X10_10 dX10_digest_95 rfl rfl (by assumption) ?_
    refine g_getI h fl_X10_262 dX10_digest_98 rfl rfl ?_
    refine g_bipush h dX10_digest_101 (v := nI 9) rfl ?_
    refine g_imul h dX10_digest_103 ?_
    rw [eN, mulN, Nat.mul_comm (nN (dv I)) 9]
    refine g_icmp_ge h 136 dX10_digest_104 rfl (fun c104 => ?_) (fun c104 => ?_)
    · exact absurd (leN c104 (by omega) (by omega)) (by omega)
    · refine g_lload_1 h dX10_digest_107 ?_
      refine g_ldc2 h dX10_digest_108 lc_X10_257 ?_
      refine g_lmul h dX10_digest_111 ?_
      refine g_aload_0 h dX10_digest_112 ?_
      refine g_getC h fl_X10_58 dX10_digest_113 rfl rfl ?_
      refine g_iload_3 h dX10_digest_116 ?_
      refine g_bipush h dX10_digest_117 (v := nI 9) rfl ?_
      refine g_idiv h dX10_digest_119 (by decide) ?_
      refine g_iload_3 h dX10_digest_120 ?_
      refine g_bipush h dX10_digest_121 (v := nI 9) rfl ?_
      refine g_irem h dX10_digest_123 (by decide) ?_
      rw [remN (by omega) (by decide) (by decide), divN (by omega) (by decide) (by decide)]
      refine g_cVi2 h rok0 mi_X5_cordTells dX10_digest_124 ml_X10_147 rfl rfl rfl (Nat.le_of_ble_eq_true rfl) (Nat.le_of_ble_eq_true rfl) (sp_X5_cordTells_20 hT eN lN eT lT eS (by omega) (by omega) ?_)
      refine g_i2l h dX10_digest_127 ?_
      refine g_ladd h dX10_digest_128 ?_
      refine g_lstore_1 h dX10_digest_129 (by decide) rfl ?_
      refine g_iinc_3 h dX10_digest_130 (inc1 _) (by decide) rfl ?_
      refine g_goto h 93 dX10_digest_133 rfl ?_
      exact ih (i + 1) _ (by omega) K
set_option maxRecDepth 100000 in
set_option maxHeartbeats 4000000 in
theorem lc_dg4 {Γ : Cx} {d : Nat} {I : MI} {J : MJ} {P : MP} (hT : P 20 0 = some 36) (h0 : P 0 0 = some 36) (hD : tdOK (dv I)) {Φ : State → Prop} (h : Vc RX10 cX10_digest 4 (some .long) (d + 8) Γ) : ∀ (f i : Nat) (s : Int64), i + f = 4 * nT (dv I) → VG Γ 0 0 178 [some (.ref 0), some (.long (dgS (fun i => topT I (nN (dv I)) (i / 4) (zS (dv I) (i / 4)) (i % 4)) f i s)), none, some (.int (nI (4 * nT (dv I))))] [] I J P Φ → VG Γ 0 0 138 [some (.ref 0), some (.long (s)), none, some (.int (nI (i)))] [] I J P Φ := by
  obtain ⟨eC, lC⟩ := td_C hD
  obtain ⟨eN, lN⟩ := td_N hD
  obtain ⟨eT, lT⟩ := td_T hD
  obtain ⟨eK, lK⟩ := td_K hD
  have eS := td_S hD
  intro f
  induction f with
  | zero =>
    intro i s hi K
    obtain rfl : i = 4 * nT (dv I) := by omega
    refine g_iload_3 h dX10_digest_138 ?_
    refine g_aload_0 h dX10_digest_139 ?_
    refine g_getP h fl_X10_10 dX10_digest_140 rfl rfl (by assumption) ?_
    refine g_getI h fl_X10_265 dX10_digest_143 rfl rfl ?_
    refine g_iconst h dX10_digest_146 (v := nI 4) rfl ?_
    refine g_imul h dX10_digest_147 ?_
    rw [eT, mulN, Nat.mul_comm (nT (dv I)) 4]
    refine g_icmp_ge h 178 dX10_digest_148 rfl (fun c148 => ?_) (fun c148 => ?_)
    · exact K
    · exact absurd (nI_le (by omega) (by omega)) c148
  | succ f ih =>
    intro i s hi K
    refine g_iload_3 h dX10_digest_138 ?_
    refine g_aload_0 h dX10_digest_139 ?_
    refine g_getP h fl_X10_10 dX10_digest_140 rfl rfl (by assumption) ?_
    refine g_getI h fl_X10_265 dX10_digest_143 rfl rfl ?_
    refine g_iconst h dX10_digest_146 (v := nI 4) rfl ?_
    refine g_imul h dX10_digest_147 ?_
    rw [eT, mulN, Nat.mul_comm (nT (dv I)) 4]
    refine g_icmp_ge h 178 dX10_digest_148 rfl (fun c148 => ?_) (fun c148 => ?_)
    · exact absurd (leN c148 (by omega) (by omega)) (by omega)
    · refine g_lload_1 h dX10_digest_151 ?_
      refine g_ldc2 h dX10_digest_152 lc_X10_257 ?_
      refine g_lmul h dX10_digest_155 ?_
      refine g_aload_0 h dX10_digest_156 ?_
      refine g_getC h fl_X10_58 dX10_digest_157 rfl rfl ?_
      refine g_iload_3 h dX10_digest_160 ?_
      refine g_iconst h dX10_digest_161 (v := nI 4) rfl ?_
      refine g_idiv h dX10_digest_162 (by decide) ?_
      refine g_iload_3 h dX10_digest_163 ?_
      refine g_iconst h dX10_digest_164 (v := nI 4) rfl ?_
      refine g_irem h dX10_digest_165 (by decide) ?_
      rw [remN (by omega) (by decide) (by decide), divN (by omega) (by decide) (by decide)]
      refine g_cVi2 h rok0 mi_X5_topTells dX10_digest_166 ml_X10_165 rfl rfl rfl (Nat.le_of_ble_eq_true rfl) (Nat.le_of_ble_eq_true rfl) (sp_X5_topTells_20 hT eN lN (by omega) (eS _ (by omega)).1 (eS _ (by omega)).2 (by omega) ?_)
      refine g_i2l h dX10_digest_169 ?_
      refine g_ladd h dX10_digest_170 ?_
      refine g_lstore_1 h dX10_digest_171 (by decide) rfl ?_
      refine g_iinc_3 h dX10_digest_172 (inc1 _) (by decide) rfl ?_
      refine g_goto h 138 dX10_digest_175 rfl ?_
      exact ih (i + 1) _ (by omega) K
set_option maxRecDepth 100000 in
set_option maxHeartbeats 4000000 in
theorem lc_dg5 {Γ : Cx} {d : Nat} {I : MI} {J : MJ} {P : MP} (hT : P 20 0 = some 36) (h0 : P 0 0 = some 36) (hD : tdOK (dv I)) {Φ : State → Prop} (h : Vc RX10 cX10_digest 4 (some .long) (d + 8) Γ) : ∀ (f i : Nat) (s : Int64), i + f = 4 * nK (dv I) → VG Γ 0 0 220 [some (.ref 0), some (.long (dgS (fun i => keeT I (i / 4) (i % 4)) f i s)), none, some (.int (nI (4 * nK (dv I))))] [] I J P Φ → VG Γ 0 0 180 [some (.ref 0), some (.long (s)), none, some (.int (nI (i)))] [] I J P Φ := by
  obtain ⟨eC, lC⟩ := td_C hD
  obtain ⟨eN, lN⟩ := td_N hD
  obtain ⟨eT, lT⟩ := td_T hD
  obtain ⟨eK, lK⟩ := td_K hD
  have eS := td_S hD
  intro f
  induction f with
  | zero =>
    intro i s hi K
    obtain rfl : i = 4 * nK (dv I) := by omega
    refine g_iload_3 h dX10_digest_180 ?_
    refine g_aload_0 h dX10_digest_181 ?_
    refine g_getP h fl_X10_10 dX10_digest_182 rfl rfl (by assumption) ?_
    refine g_getI h fl_X10_246 dX10_digest_185 rfl rfl ?_
    refine g_iconst h dX10_digest_188 (v := nI 4) rfl ?_
    refine g_imul h dX10_digest_189 ?_
    rw [eK, mulN, Nat.mul_comm (nK (dv I)) 4]
    refine g_icmp_ge h 220 dX10_digest_190 rfl (fun c190 => ?_) (fun c190 => ?_)
    · exact K
    · exact absurd (nI_le (by omega) (by omega)) c190
  | succ f ih =>
    intro i s hi K
    refine g_iload_3 h dX10_digest_180 ?_
    refine g_aload_0 h dX10_digest_181 ?_
    refine g_getP h fl_X10_10 dX10_digest_182 rfl rfl (by assumption) ?_
    refine g_getI h fl_X10_246 dX10_digest_185 rfl rfl ?_
    refine g_iconst h dX10_digest_188 (v := nI 4) rfl ?_
    refine g_imul h dX10_digest_189 ?_
    rw [eK, mulN, Nat.mul_comm (nK (dv I)) 4]
    refine g_icmp_ge h 220 dX10_digest_190 rfl (fun c190 => ?_) (fun c190 => ?_)
    · exact absurd (leN c190 (by omega) (by omega)) (by omega)
    · refine g_lload_1 h dX10_digest_193 ?_
      refine g_ldc2 h dX10_digest_194 lc_X10_257 ?_
      refine g_lmul h dX10_digest_197 ?_
      refine g_aload_0 h dX10_digest_198 ?_
      refine g_getC h fl_X10_58 dX10_digest_199 rfl rfl ?_
      refine g_iload_3 h dX10_digest_202 ?_
      refine g_iconst h dX10_digest_203 (v := nI 4) rfl ?_
      refine g_idiv h dX10_digest_204 (by decide) ?_
      refine g_iload_3 h dX10_digest_205 ?_
      refine g_iconst h dX10_digest_206 (v := nI 4) rfl ?_
      refine g_irem h dX10_digest_207 (by decide) ?_
      rw [remN (by omega) (by decide) (by decide), divN (by omega) (by decide) (by decide)]
      refine g_cVi2 h rok0 mi_X5_keeperTells dX10_digest_208 ml_X10_173 rfl rfl rfl (Nat.le_of_ble_eq_true rfl) (Nat.le_of_ble_eq_true rfl) (sp_X5_keeperTells_20 hT (by omega) (by omega) ?_)
      refine g_i2l h dX10_digest_211 ?_
      refine g_ladd h dX10_digest_212 ?_
      refine g_lstore_1 h dX10_digest_213 (by decide) rfl ?_
      refine g_iinc_3 h dX10_digest_214 (inc1 _) (by decide) rfl ?_
      refine g_goto h 180 dX10_digest_217 rfl ?_
      exact ih (i + 1) _ (by omega) K
set_option maxRecDepth 100000 in
set_option maxHeartbeats 4000000 in
theorem sp_X10_digest {d : Nat} {I : MI} {J : MJ} {P : MP} (hT : P 20 0 = some 36) (h0 : P 0 0 = some 36) (hD : tdOK (dv I)) {Q : Int64 → MI → MJ → MP → Prop} (hQ : Q (dgC I) I J P) : Sp yX10_digest cX10_digest 4 (some .long) (d + 8) [.ref 0] I J P (Ql Q) := by
  intro Γ h
  show VG Γ 0 0 0 [some (.ref 0), none, none, none] [] _ _ _ _
  obtain ⟨eC, lC⟩ := td_C hD
  obtain ⟨eN, lN⟩ := td_N hD
  obtain ⟨eT, lT⟩ := td_T hD
  obtain ⟨eK, lK⟩ := td_K hD
  have eS := td_S hD
  refine g_ldc2 h dX10_digest_0 lc_X10_255 ?_
  refine g_lstore_1 h dX10_digest_3 (by decide) rfl ?_
  refine g_iconst h dX10_digest_4 (v := nI 0) rfl ?_
  refine g_istore_3 h dX10_digest_5 (by decide) rfl ?_
  refine lc_dg1 hT hD h 12 0 _ (by omega) (fun s1 e1 => ?_)
  refine g_lload_1 h dX10_digest_34 ?_
  refine g_ldc2 h dX10_digest_35 lc_X10_257 ?_
  refine g_lmul h dX10_digest_38 ?_
  refine g_aload_0 h dX10_digest_39 ?_
  refine g_getC h fl_X10_22 dX10_digest_40 rfl rfl ?_
  refine g_cVi0 h rok0 mi_X6_length dX10_digest_43 ml_X10_76 rfl rfl rfl (Nat.le_of_ble_eq_true rfl) (Nat.le_of_ble_eq_true rfl) (sp_X6_length ?_)
  refine g_i2l h dX10_digest_46 ?_
  refine g_ladd h dX10_digest_47 ?_
  refine g_lstore_1 h dX10_digest_48 (by decide) rfl ?_
  refine g_iconst h dX10_digest_49 (v := nI 0) rfl ?_
  refine g_istore_3 h dX10_digest_50 (by decide) rfl ?_
  rw [e1]
  refine lc_dg2 hT h0 hD h (3 * nC (dv I)) 0 _ (by omega) ?_
  refine g_iconst h dX10_digest_91 (v := nI 0) rfl ?_
  refine g_istore_3 h dX10_digest_92 (by decide) rfl ?_
  refine lc_dg3 hT h0 hD h (9 * nN (dv I)) 0 _ (by omega) ?_
  refine g_iconst h dX10_digest_136 (v := nI 0) rfl ?_
  refine g_istore_3 h dX10_digest_137 (by decide) rfl ?_
  refine lc_dg4 hT h0 hD h (4 * nT (dv I)) 0 _ (by omega) ?_
  refine g_iconst h dX10_digest_178 (v := nI 0) rfl ?_
  refine g_istore_3 h dX10_digest_179 (by decide) rfl ?_
  refine lc_dg5 hT h0 hD h (4 * nK (dv I)) 0 _ (by omega) ?_
  refine g_lload_1 h dX10_digest_220 ?_
  refine g_ldc2 h dX10_digest_221 lc_X10_257 ?_
  refine g_lmul h dX10_digest_224 ?_
  refine g_aload_0 h dX10_digest_225 ?_
  refine g_getC h fl_X10_58 dX10_digest_226 rfl rfl ?_
  refine g_cVi0 h rok0 mi_X5_cordsOutOfOrder dX10_digest_229 ml_X10_189 rfl rfl rfl (Nat.le_of_ble_eq_true rfl) (Nat.le_of_ble_eq_true rfl) (sp_X5_cordsOutOfOrder_20 hT eN lN eC lC ?_)
  refine g_i2l h dX10_digest_232 ?_
  refine g_ladd h dX10_digest_233 ?_
  refine g_lret h dX10_digest_234 ?_
  exact hQ
set_option maxRecDepth 100000 in
set_option maxHeartbeats 4000000 in
theorem sp_X10_set {d : Nat} {x y : Int32} {I : MI} {J : MJ} {P : MP} (hT : P 20 0 = some 36) (h0 : P 0 0 = some 36) (hD : tdOK (dv I)) {Q : Int32 → MI → MJ → MP → Prop} (hQ : ∀ a w, a < nN (dv I) → w ≤ 9999 → x = nI a → y = nI w → Q (I 23 a) (setRow (setRow I 23 (upd (I 23) a y)) 24 (aab (I 22) (nN (dv I)) 4 (nI a) (y - I 23 a) (I 24))) J P) (hX1 : (¬ ∃ a, a < nN (dv I) ∧ x = nI a) → False) (hX2 : (∃ a, a < nN (dv I) ∧ x = nI a) → (¬ ∃ w, w ≤ 9999 ∧ y = nI w) → False) : Sp yX10_set cX10_set 4 (some .int) (d + 8) [.ref 0, .int x, .int y] I J P (Qi Q) := by
  intro Γ h
  show VG Γ 0 0 0 [some (.ref 0), some (.int x), some (.int y), none] [] _ _ _ _
  obtain ⟨eC, lC⟩ := td_C hD
  obtain ⟨eN, lN⟩ := td_N hD
  obtain ⟨eT, lT⟩ := td_T hD
  obtain ⟨eK, lK⟩ := td_K hD
  have eS := td_S hD
  refine g_aload_0 h dX10_set_0 ?_
  refine g_getP h fl_X10_10 dX10_set_1 rfl rfl (by assumption) ?_
  refine g_iload_1 h dX10_set_4 ?_
  refine g_cVi1 h rok0 mi_X9_hasCord dX10_set_5 ml_X10_142 rfl rfl rfl (Nat.le_of_ble_eq_true rfl) (Nat.le_of_ble_eq_true rfl) (sp_X9_hasCord (Or.inl rfl) ?_)
  rw [eN]
  refine g_if_ne h 21 dX10_set_8 rfl (fun c8 => ?_) (fun c8 => ?_)
  · obtain ⟨a, a1, a2⟩ := hasYes c8 (by decide) lN
    refine g_iload_2 h dX10_set_21 ?_
    refine g_if_lt h 32 dX10_set_22 rfl (fun c22 => ?_) (fun c22 => ?_)
    · refine False.elim ?_
      first
        | exact hX2 ⟨a, a1, a2⟩ (fun ⟨w, w1, w2⟩ => rngN w2 (Nat.lt_succ_of_le w1) (by decide) (Or.inl c22))
        | exact hX2 ⟨a, a1, a2⟩ (fun ⟨w, w1, w2⟩ => rngN w2 (Nat.lt_succ_of_le w1) (by decide) (Or.inr c29))
    · refine g_iload_2 h dX10_set_25 ?_
      refine g_sipush h dX10_set_26 (v := nI 9999) rfl ?_
      refine g_icmp_le h 42 dX10_set_29 rfl (fun c29 => ?_) (fun c29 => ?_)
      · obtain ⟨w, w1, w2⟩ := rngI c22 c29 (by decide)
        subst a2
        refine g_aload_0 h dX10_set_42 ?_
        refine g_getC h fl_X10_58 dX10_set_43 rfl rfl ?_
        refine g_getC h fl_X10_152 dX10_set_46 rfl rfl ?_
        refine g_iload_1 h dX10_set_49 ?_
        refine g_iald h a dX10_set_50 rfl rfl (by omega) ?_
        refine g_istore_3 h dX10_set_51 (by decide) rfl ?_
        refine g_aload_0 h dX10_set_52 ?_
        refine g_getC h fl_X10_58 dX10_set_53 rfl rfl ?_
        refine g_iload_1 h dX10_set_56 ?_
        refine g_iload_2 h dX10_set_57 ?_
        refine g_cVv2 h rok0 mi_X5_tieInto dX10_set_58 ml_X10_194 rfl rfl rfl (Nat.le_of_ble_eq_true rfl) (Nat.le_of_ble_eq_true rfl) (sp_X5_tieInto_20 hT eN lN (by omega) ?_)
        refine g_iload_3 h dX10_set_61 ?_
        refine g_iret h dX10_set_62 ?_
        exact hQ a w a1 (by omega) rfl w2
      · refine False.elim ?_
        first
          | exact hX2 ⟨a, a1, a2⟩ (fun ⟨w, w1, w2⟩ => rngN w2 (Nat.lt_succ_of_le w1) (by decide) (Or.inl c22))
          | exact hX2 ⟨a, a1, a2⟩ (fun ⟨w, w1, w2⟩ => rngN w2 (Nat.lt_succ_of_le w1) (by decide) (Or.inr c29))
  · refine False.elim ?_
    exact hX1 (fun ⟨a, a1, a2⟩ => hasNo c8 (by decide) lN a1 a2)
set_option maxRecDepth 100000 in
set_option maxHeartbeats 4000000 in
theorem sp_X10_rest {d : Nat} {x : Int32} {I : MI} {J : MJ} {P : MP} (hT : P 20 0 = some 36) (h0 : P 0 0 = some 36) (hD : tdOK (dv I)) {Q : Int32 → MI → MJ → MP → Prop} (hQ : ∀ a, a < nK (dv I) → x = nI a → Q (I 26 a) (up2 I 26 a (nI 0)) J P) (hX : (¬ ∃ a, a < nK (dv I) ∧ x = nI a) → False) : Sp yX10_rest cX10_rest 3 (some .int) (d + 8) [.ref 0, .int x] I J P (Qi Q) := by
  intro Γ h
  show VG Γ 0 0 0 [some (.ref 0), some (.int x), none] [] _ _ _ _
  obtain ⟨eC, lC⟩ := td_C hD
  obtain ⟨eN, lN⟩ := td_N hD
  obtain ⟨eT, lT⟩ := td_T hD
  obtain ⟨eK, lK⟩ := td_K hD
  have eS := td_S hD
  refine g_aload_0 h dX10_rest_0 ?_
  refine g_getP h fl_X10_10 dX10_rest_1 rfl rfl (by assumption) ?_
  refine g_iload_1 h dX10_rest_4 ?_
  refine g_cVi1 h rok0 mi_X9_hasKeeper dX10_rest_5 ml_X10_168 rfl rfl rfl (Nat.le_of_ble_eq_true rfl) (Nat.le_of_ble_eq_true rfl) (sp_X9_hasKeeper (Or.inl rfl) ?_)
  rw [eK]
  refine g_if_ne h 21 dX10_rest_8 rfl (fun c8 => ?_) (fun c8 => ?_)
  · obtain ⟨a, a1, a2⟩ := hasYes c8 (by decide) lK
    subst a2
    refine g_aload_0 h dX10_rest_21 ?_
    refine g_getC h fl_X10_58 dX10_rest_22 rfl rfl ?_
    refine g_getC h fl_X10_200 dX10_rest_25 rfl rfl ?_
    refine g_iload_1 h dX10_rest_28 ?_
    refine g_iald h a dX10_rest_29 rfl rfl (by omega) ?_
    refine g_istore_2 h dX10_rest_30 (by decide) rfl ?_
    refine g_aload_0 h dX10_rest_31 ?_
    refine g_getC h fl_X10_58 dX10_rest_32 rfl rfl ?_
    refine g_getC h fl_X10_200 dX10_rest_35 rfl rfl ?_
    refine g_iload_1 h dX10_rest_38 ?_
    refine g_iconst h dX10_rest_39 (v := nI 0) rfl ?_
    refine g_iast h a dX10_rest_40 rfl rfl (by omega) ?_
    refine g_iload_2 h dX10_rest_41 ?_
    refine g_iret h dX10_rest_42 ?_
    exact hQ a a1 rfl
  · refine False.elim ?_
    exact hX (fun ⟨a, a1, a2⟩ => hasNo c8 (by decide) lK a1 a2)
set_option maxRecDepth 100000 in
set_option maxHeartbeats 4000000 in
theorem sp_X10_dye {d : Nat} {x y : Int32} {I : MI} {J : MJ} {P : MP} (hT : P 20 0 = some 36) (h0 : P 0 0 = some 36) (hD : tdOK (dv I)) {Q : Int32 → MI → MJ → MP → Prop} (hQ : ∀ a b, a < nN (dv I) → b < nC (dv I) → x = nI a → y = nI b → Q (I 21 a) (up2 I 21 a y) J P) (hX : (¬ ((∃ a, a < nN (dv I) ∧ x = nI a) ∧ ∃ b, b < nC (dv I) ∧ y = nI b)) → False) : Sp yX10_dye cX10_dye 4 (some .int) (d + 8) [.ref 0, .int x, .int y] I J P (Qi Q) := by
  intro Γ h
  show VG Γ 0 0 0 [some (.ref 0), some (.int x), some (.int y), none] [] _ _ _ _
  obtain ⟨eC, lC⟩ := td_C hD
  obtain ⟨eN, lN⟩ := td_N hD
  obtain ⟨eT, lT⟩ := td_T hD
  obtain ⟨eK, lK⟩ := td_K hD
  have eS := td_S hD
  refine g_aload_0 h dX10_dye_0 ?_
  refine g_getP h fl_X10_10 dX10_dye_1 rfl rfl (by assumption) ?_
  refine g_iload_1 h dX10_dye_4 ?_
  refine g_cVi1 h rok0 mi_X9_hasCord dX10_dye_5 ml_X10_142 rfl rfl rfl (Nat.le_of_ble_eq_true rfl) (Nat.le_of_ble_eq_true rfl) (sp_X9_hasCord (Or.inl rfl) ?_)
  rw [eN]
  refine g_if_eq h 22 dX10_dye_8 rfl (fun c8 => ?_) (fun c8 => ?_)
  · refine False.elim ?_
    first
      | exact hX (fun ⟨⟨a, a1, a2⟩, _⟩ => hasNo c8 (by decide) lN a1 a2)
      | exact hX (fun ⟨_, b, b1, b2⟩ => hasNo c19 (by decide) lC b1 b2)
  · refine g_aload_0 h dX10_dye_11 ?_
    refine g_getP h fl_X10_10 dX10_dye_12 rfl rfl (by assumption) ?_
    refine g_iload_2 h dX10_dye_15 ?_
    refine g_cVi1 h rok0 mi_X9_hasColour dX10_dye_16 ml_X10_132 rfl rfl rfl (Nat.le_of_ble_eq_true rfl) (Nat.le_of_ble_eq_true rfl) (sp_X9_hasColour (Or.inl rfl) ?_)
    rw [eC]
    refine g_if_ne h 32 dX10_dye_19 rfl (fun c19 => ?_) (fun c19 => ?_)
    · obtain ⟨a, a1, a2⟩ := hasYes c8 (by decide) lN
      obtain ⟨b, b1, b2⟩ := hasYes c19 (by decide) lC
      subst a2
      refine g_aload_0 h dX10_dye_32 ?_
      refine g_getC h fl_X10_58 dX10_dye_33 rfl rfl ?_
      refine g_getC h fl_X10_205 dX10_dye_36 rfl rfl ?_
      refine g_iload_1 h dX10_dye_39 ?_
      refine g_iald h a dX10_dye_40 rfl rfl (by omega) ?_
      refine g_istore_3 h dX10_dye_41 (by decide) rfl ?_
      refine g_aload_0 h dX10_dye_42 ?_
      refine g_getC h fl_X10_58 dX10_dye_43 rfl rfl ?_
      refine g_getC h fl_X10_205 dX10_dye_46 rfl rfl ?_
      refine g_iload_1 h dX10_dye_49 ?_
      refine g_iload_2 h dX10_dye_50 ?_
      refine g_iast h a dX10_dye_51 rfl rfl (by omega) ?_
      refine g_iload_3 h dX10_dye_52 ?_
      refine g_iret h dX10_dye_53 ?_
      exact hQ a b a1 b1 rfl b2
    · refine False.elim ?_
      first
        | exact hX (fun ⟨⟨a, a1, a2⟩, _⟩ => hasNo c8 (by decide) lN a1 a2)
        | exact hX (fun ⟨_, b, b1, b2⟩ => hasNo c19 (by decide) lC b1 b2)
set_option maxRecDepth 100000 in
set_option maxHeartbeats 4000000 in
theorem sp_X10_hang {d : Nat} {x y : Int32} {I : MI} {J : MJ} {P : MP} (hT : P 20 0 = some 36) (h0 : P 0 0 = some 36) (hD : tdOK (dv I)) {Q : Int32 → MI → MJ → MP → Prop} (hQ : ∀ a, a < nN (dv I) → x = nI a → isU (nN (dv I)) y → wth (I 22) (nN (dv I)) x 4 y = false → (nI (dep (I 22) (nN (dv I)) 4 y) + (nI (hmx (I 22) (nN (dv I)) x (nN (dv I)) 0 0) - nI (dep (I 22) (nN (dv I)) 4 x) + nI 1) ≤ nI 4) → Q (nI (dep (upd (I 22) a y) (nN (dv I)) 4 x)) (setRow (setRow (setRow I 24 (aab (I 22) (nN (dv I)) 4 (I 22 a) (-(I 24 a)) (I 24))) 22 (upd (I 22) a y)) 24 (aab (upd (I 22) a y) (nN (dv I)) 4 y (aab (I 22) (nN (dv I)) 4 (I 22 a) (-(I 24 a)) (I 24) a) (aab (I 22) (nN (dv I)) 4 (I 22 a) (-(I 24 a)) (I 24)))) J P) (hX1 : (¬ ((∃ a, a < nN (dv I) ∧ x = nI a) ∧ isU (nN (dv I)) y)) → False) (hX2 : (∃ a, a < nN (dv I) ∧ x = nI a) → isU (nN (dv I)) y → (wth (I 22) (nN (dv I)) x 4 y = true ∨ (wth (I 22) (nN (dv I)) x 4 y = false ∧ ¬ (nI (dep (I 22) (nN (dv I)) 4 y) + (nI (hmx (I 22) (nN (dv I)) x (nN (dv I)) 0 0) - nI (dep (I 22) (nN (dv I)) 4 x) + nI 1) ≤ nI 4))) → False) : Sp yX10_hang cX10_hang 3 (some .int) (d + 8) [.ref 0, .int x, .int y] I J P (Qi Q) := by
  intro Γ h
  show VG Γ 0 0 0 [some (.ref 0), some (.int x), some (.int y)] [] _ _ _ _
  obtain ⟨eC, lC⟩ := td_C hD
  obtain ⟨eN, lN⟩ := td_N hD
  obtain ⟨eT, lT⟩ := td_T hD
  obtain ⟨eK, lK⟩ := td_K hD
  have eS := td_S hD
  refine g_aload_0 h dX10_hang_0 ?_
  refine g_getP h fl_X10_10 dX10_hang_1 rfl rfl (by assumption) ?_
  refine g_iload_1 h dX10_hang_4 ?_
  refine g_cVi1 h rok0 mi_X9_hasCord dX10_hang_5 ml_X10_142 rfl rfl rfl (Nat.le_of_ble_eq_true rfl) (Nat.le_of_ble_eq_true rfl) (sp_X9_hasCord (Or.inl rfl) ?_)
  rw [eN]
  refine g_if_eq h 27 dX10_hang_8 rfl (fun c8 => ?_) (fun c8 => ?_)
  · refine False.elim ?_
    first
      | exact hX1 (fun ⟨⟨a, a1, a2⟩, _⟩ => hasNo c8 (by decide) lN a1 a2)
      | exact hX1 (fun ⟨_, b⟩ => b.elim (fun q => c13 q) (fun ⟨b, b1, b2⟩ => hasNo c24 (by decide) lN b1 b2))
  · refine g_iload_2 h dX10_hang_11 ?_
    refine g_iconst h dX10_hang_12 (v := (-1)) rfl ?_
    refine g_icmp_eq h 37 dX10_hang_13 rfl (fun c13 => ?_) (fun c13 => ?_)
    · obtain ⟨a, a1, a2⟩ := hasYes c8 (by decide) lN
      have hu : isU (nN (dv I)) y := by
        first
        | exact Or.inl (by first | exact c13 | exact Classical.not_not.mp c13)
        | exact Or.inr (hasYes c24 (by decide) lN)
      refine g_aload_0 h dX10_hang_37 ?_
      refine g_getC h fl_X10_58 dX10_hang_38 rfl rfl ?_
      refine g_iload_2 h dX10_hang_41 ?_
      refine g_iload_1 h dX10_hang_42 ?_
      refine g_cVi2 h rok0 mi_X5_isWithin dX10_hang_43 ml_X10_208 rfl rfl rfl (Nat.le_of_ble_eq_true rfl) (Nat.le_of_ble_eq_true rfl) (sp_X5_isWithin_20 hT eN lN ?_)
      refine g_if_eq h 59 dX10_hang_46 rfl (fun c46 => ?_) (fun c46 => ?_)
      · have hw0 := b2i_0.mp c46
        refine g_aload_0 h dX10_hang_59 ?_
        refine g_getC h fl_X10_58 dX10_hang_60 rfl rfl ?_
        refine g_iload_2 h dX10_hang_63 ?_
        refine g_cVi1 h rok0 mi_X5_depthOf dX10_hang_64 ml_X10_214 rfl rfl rfl (Nat.le_of_ble_eq_true rfl) (Nat.le_of_ble_eq_true rfl) (sp_X5_depthOf_20 hT eN lN ?_)
        refine g_aload_0 h dX10_hang_67 ?_
        refine g_getC h fl_X10_58 dX10_hang_68 rfl rfl ?_
        refine g_iload_1 h dX10_hang_71 ?_
        refine g_cVi1 h rok0 mi_X5_heightOf dX10_hang_72 ml_X10_217 rfl rfl rfl (Nat.le_of_ble_eq_true rfl) (Nat.le_of_ble_eq_true rfl) (sp_X5_heightOf_20 hT eN lN ?_)
        refine g_iadd h dX10_hang_75 ?_
        refine g_iconst h dX10_hang_76 (v := nI 4) rfl ?_
        refine g_icmp_le h 90 dX10_hang_77 rfl (fun c77 => ?_) (fun c77 => ?_)
        · subst a2
          refine g_aload_0 h dX10_hang_90 ?_
          refine g_getC h fl_X10_58 dX10_hang_91 rfl rfl ?_
          refine g_iload_1 h dX10_hang_94 ?_
          refine g_iload_2 h dX10_hang_95 ?_
          refine g_cVv2 h rok0 mi_X5_hangFrom dX10_hang_96 ml_X10_222 rfl rfl rfl (Nat.le_of_ble_eq_true rfl) (Nat.le_of_ble_eq_true rfl) (sp_X5_hangFrom_20 hT eN lN (by omega) ?_)
          refine g_aload_0 h dX10_hang_99 ?_
          refine g_getC h fl_X10_58 dX10_hang_100 rfl rfl ?_
          refine g_iload_1 h dX10_hang_103 ?_
          refine g_cVi1 h rok0 mi_X5_depthOf dX10_hang_104 ml_X10_214 rfl rfl rfl (Nat.le_of_ble_eq_true rfl) (Nat.le_of_ble_eq_true rfl) (sp_X5_depthOf_20 hT (by rw [setRow_o (by decide), setRow_o (by decide), setRow_o (by decide)]; exact eN) lN ?_)
          refine g_iret h dX10_hang_107 ?_
          exact q_i (by rw [setRow_o (by decide), setRow_s]) (hQ a a1 rfl hu hw0 c77)
        · refine False.elim ?_
          exact hX2 ⟨a, a1, a2⟩ hu (Or.inr ⟨hw0, c77⟩)
      · refine False.elim ?_
        exact hX2 ⟨a, a1, a2⟩ hu (Or.inl (b2i_n0.mp c46))
    · refine g_aload_0 h dX10_hang_16 ?_
      refine g_getP h fl_X10_10 dX10_hang_17 rfl rfl (by assumption) ?_
      refine g_iload_2 h dX10_hang_20 ?_
      refine g_cVi1 h rok0 mi_X9_hasCord dX10_hang_21 ml_X10_142 rfl rfl rfl (Nat.le_of_ble_eq_true rfl) (Nat.le_of_ble_eq_true rfl) (sp_X9_hasCord (Or.inl rfl) ?_)
      rw [eN]
      refine g_if_ne h 37 dX10_hang_24 rfl (fun c24 => ?_) (fun c24 => ?_)
      · obtain ⟨a, a1, a2⟩ := hasYes c8 (by decide) lN
        have hu : isU (nN (dv I)) y := by
          first
          | exact Or.inl (by first | exact c13 | exact Classical.not_not.mp c13)
          | exact Or.inr (hasYes c24 (by decide) lN)
        refine g_aload_0 h dX10_hang_37 ?_
        refine g_getC h fl_X10_58 dX10_hang_38 rfl rfl ?_
        refine g_iload_2 h dX10_hang_41 ?_
        refine g_iload_1 h dX10_hang_42 ?_
        refine g_cVi2 h rok0 mi_X5_isWithin dX10_hang_43 ml_X10_208 rfl rfl rfl (Nat.le_of_ble_eq_true rfl) (Nat.le_of_ble_eq_true rfl) (sp_X5_isWithin_20 hT eN lN ?_)
        refine g_if_eq h 59 dX10_hang_46 rfl (fun c46 => ?_) (fun c46 => ?_)
        · have hw0 := b2i_0.mp c46
          refine g_aload_0 h dX10_hang_59 ?_
          refine g_getC h fl_X10_58 dX10_hang_60 rfl rfl ?_
          refine g_iload_2 h dX10_hang_63 ?_
          refine g_cVi1 h rok0 mi_X5_depthOf dX10_hang_64 ml_X10_214 rfl rfl rfl (Nat.le_of_ble_eq_true rfl) (Nat.le_of_ble_eq_true rfl) (sp_X5_depthOf_20 hT eN lN ?_)
          refine g_aload_0 h dX10_hang_67 ?_
          refine g_getC h fl_X10_58 dX10_hang_68 rfl rfl ?_
          refine g_iload_1 h dX10_hang_71 ?_
          refine g_cVi1 h rok0 mi_X5_heightOf dX10_hang_72 ml_X10_217 rfl rfl rfl (Nat.le_of_ble_eq_true rfl) (Nat.le_of_ble_eq_true rfl) (sp_X5_heightOf_20 hT eN lN ?_)
          refine g_iadd h dX10_hang_75 ?_
          refine g_iconst h dX10_hang_76 (v := nI 4) rfl ?_
          refine g_icmp_le h 90 dX10_hang_77 rfl (fun c77 => ?_) (fun c77 => ?_)
          · subst a2
            refine g_aload_0 h dX10_hang_90 ?_
            refine g_getC h fl_X10_58 dX10_hang_91 rfl rfl ?_
            refine g_iload_1 h dX10_hang_94 ?_
            refine g_iload_2 h dX10_hang_95 ?_
            refine g_cVv2 h rok0 mi_X5_hangFrom dX10_hang_96 ml_X10_222 rfl rfl rfl (Nat.le_of_ble_eq_true rfl) (Nat.le_of_ble_eq_true rfl) (sp_X5_hangFrom_20 hT eN lN (by omega) ?_)
            refine g_aload_0 h dX10_hang_99 ?_
            refine g_getC h fl_X10_58 dX10_hang_100 rfl rfl ?_
            refine g_iload_1 h dX10_hang_103 ?_
            refine g_cVi1 h rok0 mi_X5_depthOf dX10_hang_104 ml_X10_214 rfl rfl rfl (Nat.le_of_ble_eq_true rfl) (Nat.le_of_ble_eq_true rfl) (sp_X5_depthOf_20 hT (by rw [setRow_o (by decide), setRow_o (by decide), setRow_o (by decide)]; exact eN) lN ?_)
            refine g_iret h dX10_hang_107 ?_
            exact q_i (by rw [setRow_o (by decide), setRow_s]) (hQ a a1 rfl hu hw0 c77)
          · refine False.elim ?_
            exact hX2 ⟨a, a1, a2⟩ hu (Or.inr ⟨hw0, c77⟩)
        · refine False.elim ?_
          exact hX2 ⟨a, a1, a2⟩ hu (Or.inl (b2i_n0.mp c46))
      · refine False.elim ?_
        first
          | exact hX1 (fun ⟨⟨a, a1, a2⟩, _⟩ => hasNo c8 (by decide) lN a1 a2)
          | exact hX1 (fun ⟨_, b⟩ => b.elim (fun q => c13 q) (fun ⟨b, b1, b2⟩ => hasNo c24 (by decide) lN b1 b2))
set_option maxRecDepth 100000 in
set_option maxHeartbeats 4000000 in
theorem sp_X10_feed {Tp : Nat → Nat} {d L : Nat} {a b c d0 e : Int32} {I : MI} {J : MJ} {P : MP} (hTp : tpO Tp L I) {Q : Int32 → MI → MJ → MP → Prop} (hQ : L + 20 ≤ 2000 → ∀ I', tpO (fdT Tp L a b c d0 e) (L + 20) I' → (∀ k, k ≠ 1 → k ≠ 2 → I' k = I k) → Q (nI (L + 20)) I' J P) (hX : ¬ L + 20 ≤ 2000 → False) : Sp yX10_feed cX10_feed 6 (some .int) (d + 8) [.ref 0, .int a, .int b, .int c, .int d0, .int e] I J P (Qi Q) := by
  intro Γ h
  show VG Γ 0 0 0 [some (.ref 0), some (.int a), some (.int b), some (.int c), some (.int d0), some (.int e)] [] _ _ _ _
  have hl := hTp.2.1
  refine g_aload_0 h dX10_feed_0 ?_
  refine g_getC h fl_X10_22 dX10_feed_1 rfl rfl ?_
  refine g_cVi0 h rok0 mi_X6_length dX10_feed_4 ml_X10_76 rfl rfl rfl (Nat.le_of_ble_eq_true rfl) (Nat.le_of_ble_eq_true rfl) (sp_X6_length ?_)
  refine g_bipush h dX10_feed_7 (v := nI 20) rfl ?_
  refine g_iadd h dX10_feed_9 ?_
  refine g_sipush h dX10_feed_10 (v := nI 2000) rfl ?_
  rw [hTp.1, nI_add]
  refine g_icmp_le h 26 dX10_feed_13 rfl (fun c13 => ?_) (fun c13 => ?_)
  · have hc := leN c13 (by omega) (by decide)
    refine g_aload_0 h dX10_feed_26 ?_
    refine g_getC h fl_X10_22 dX10_feed_27 rfl rfl ?_
    refine g_iload_1 h dX10_feed_30 ?_
    refine g_cVv1 h rok0 mi_X6_append dX10_feed_31 ml_X10_87 rfl rfl rfl (Nat.le_of_ble_eq_true rfl) (Nat.le_of_ble_eq_true rfl) (sp_X6_append hTp (by omega) (fun I1 t1 o1 => ?_))
    refine g_aload_0 h dX10_feed_34 ?_
    refine g_getC h fl_X10_22 dX10_feed_35 rfl rfl ?_
    refine g_iload_2 h dX10_feed_38 ?_
    refine g_cVv1 h rok0 mi_X6_append dX10_feed_39 ml_X10_87 rfl rfl rfl (Nat.le_of_ble_eq_true rfl) (Nat.le_of_ble_eq_true rfl) (sp_X6_append t1 (by omega) (fun I2 t2 o2 => ?_))
    refine g_aload_0 h dX10_feed_42 ?_
    refine g_getC h fl_X10_22 dX10_feed_43 rfl rfl ?_
    refine g_iload_3 h dX10_feed_46 ?_
    refine g_cVv1 h rok0 mi_X6_append dX10_feed_47 ml_X10_87 rfl rfl rfl (Nat.le_of_ble_eq_true rfl) (Nat.le_of_ble_eq_true rfl) (sp_X6_append t2 (by omega) (fun I3 t3 o3 => ?_))
    refine g_aload_0 h dX10_feed_50 ?_
    refine g_getC h fl_X10_22 dX10_feed_51 rfl rfl ?_
    refine g_iload_4 h dX10_feed_54 ?_
    refine g_cVv1 h rok0 mi_X6_append dX10_feed_56 ml_X10_87 rfl rfl rfl (Nat.le_of_ble_eq_true rfl) (Nat.le_of_ble_eq_true rfl) (sp_X6_append t3 (by omega) (fun I4 t4 o4 => ?_))
    refine g_aload_0 h dX10_feed_59 ?_
    refine g_getC h fl_X10_22 dX10_feed_60 rfl rfl ?_
    refine g_iload_5 h dX10_feed_63 ?_
    refine g_cVv1 h rok0 mi_X6_append dX10_feed_65 ml_X10_87 rfl rfl rfl (Nat.le_of_ble_eq_true rfl) (Nat.le_of_ble_eq_true rfl) (sp_X6_append t4 (by omega) (fun I5 t5 o5 => ?_))
    refine g_aload_0 h dX10_feed_68 ?_
    refine g_getC h fl_X10_22 dX10_feed_69 rfl rfl ?_
    refine g_cVi0 h rok0 mi_X6_length dX10_feed_72 ml_X10_76 rfl rfl rfl (Nat.le_of_ble_eq_true rfl) (Nat.le_of_ble_eq_true rfl) (sp_X6_length ?_)
    refine g_iret h dX10_feed_75 ?_
    rw [t5.1]
    exact hQ hc I5 t5 (fun k k1 k2 => by rw [o5 k k1 k2, o4 k k1 k2, o3 k k1 k2, o2 k k1 k2, o1 k k1 k2])
  · refine False.elim ?_
    exact hX (fun q => c13 (nI_le q (by decide)))
set_option maxRecDepth 100000 in
set_option maxHeartbeats 4000000 in
theorem sp_X10_trim {d L : Nat} {x : Int32} {I : MI} {J : MJ} {P : MP} (hL : I 1 1 = nI L) (hL2 : L ≤ 2000) {Q : Int32 → MI → MJ → MP → Prop} (hQ : ∀ n, n ≤ L → x = nI n → Q x (up2 I 1 1 x) J P) (hX : (¬ ∃ n, n ≤ L ∧ x = nI n) → False) : Sp yX10_trim cX10_trim 2 (some .int) (d + 8) [.ref 0, .int x] I J P (Qi Q) := by
  intro Γ h
  show VG Γ 0 0 0 [some (.ref 0), some (.int x)] [] _ _ _ _
  refine g_iload_1 h dX10_trim_0 ?_
  refine g_if_lt h 15 dX10_trim_1 rfl (fun c1 => ?_) (fun c1 => ?_)
  · refine False.elim ?_
    first
      | exact hX (fun ⟨w, w1, w2⟩ => rngN w2 (Nat.lt_succ_of_le w1) (by omega) (Or.inl c1))
      | exact hX (fun ⟨w, w1, w2⟩ => rngN w2 (Nat.lt_succ_of_le w1) (by omega) (Or.inr c12))
  · refine g_iload_1 h dX10_trim_4 ?_
    refine g_aload_0 h dX10_trim_5 ?_
    refine g_getC h fl_X10_22 dX10_trim_6 rfl rfl ?_
    refine g_cVi0 h rok0 mi_X6_length dX10_trim_9 ml_X10_76 rfl rfl rfl (Nat.le_of_ble_eq_true rfl) (Nat.le_of_ble_eq_true rfl) (sp_X6_length ?_)
    rw [hL]
    refine g_icmp_le h 25 dX10_trim_12 rfl (fun c12 => ?_) (fun c12 => ?_)
    · obtain ⟨n, n1, n2⟩ := rngI c1 c12 (by omega)
      refine g_aload_0 h dX10_trim_25 ?_
      refine g_getC h fl_X10_22 dX10_trim_26 rfl rfl ?_
      refine g_iload_1 h dX10_trim_29 ?_
      refine g_cVv1 h rok0 mi_X6_cut dX10_trim_30 ml_X10_96 rfl rfl rfl (Nat.le_of_ble_eq_true rfl) (Nat.le_of_ble_eq_true rfl) (sp_X6_cut ?_)
      refine g_iload_1 h dX10_trim_33 ?_
      refine g_iret h dX10_trim_34 ?_
      exact hQ n (by omega) n2
    · refine False.elim ?_
      first
        | exact hX (fun ⟨w, w1, w2⟩ => rngN w2 (Nat.lt_succ_of_le w1) (by omega) (Or.inl c1))
        | exact hX (fun ⟨w, w1, w2⟩ => rngN w2 (Nat.lt_succ_of_le w1) (by omega) (Or.inr c12))
theorem rngJ {y : Int32} {m : Nat} (h1 : ¬ y < nI 1) (h2 : y ≤ nI m) (hm : m < 2 ^ 31) : ∃ w, 1 ≤ w ∧ w ≤ m ∧ y = nI w := by
  obtain ⟨j, hj, rfl⟩ := nI_of (x := y) (fun r => h1 (Int32.lt_trans r (by decide)))
  refine ⟨j, ?_, leN h2 hj hm, rfl⟩
  rcases Nat.lt_or_ge j 1 with q | q
  · obtain rfl : j = 0 := by omega
    exact absurd (by decide) h1
  · exact q
theorem rngM {y : Int32} {m w : Nat} (hy : y = nI w) (h1 : 1 ≤ w) (hw : w ≤ m) (hm : m < 2 ^ 31) (c : y < nI 1 ∨ ¬ y ≤ nI m) : False := by
  subst hy
  rcases c with c | c
  · exact absurd (nI_le h1 (by omega)) (Int32.not_le.mpr c)
  · exact c (nI_le hw (by omega))
set_option maxRecDepth 100000 in
set_option maxHeartbeats 4000000 in
theorem sp_X10_pass {d : Nat} {x : Int32} {I : MI} {J : MJ} {P : MP} (hT : P 20 0 = some 36) (hD : tdOK (dv I)) {Q : Int32 → MI → MJ → MP → Prop} (hQ : ∀ n, 1 ≤ n → n ≤ 120 → x = nI n → ∀ I', stS 20 I I' (psF (dv I) n (sv 20 I)) → Q (I' 20 2 - I 20 2) I' J P) (hX : (¬ ∃ n, 1 ≤ n ∧ n ≤ 120 ∧ x = nI n) → False) : Sp yX10_pass cX10_pass 3 (some .int) (d + 8) [.ref 0, .int x] I J P (Qi Q) := by
  intro Γ h
  show VG Γ 0 0 0 [some (.ref 0), some (.int x), none] [] _ _ _ _
  refine g_iload_1 h dX10_pass_0 ?_
  refine g_iconst h dX10_pass_1 (v := nI 1) rfl ?_
  refine g_icmp_lt h 11 dX10_pass_2 rfl (fun c2 => ?_) (fun c2 => ?_)
  · refine False.elim ?_
    first
      | exact hX (fun ⟨w, w0, w1, w2⟩ => rngM w2 w0 w1 (by decide) (Or.inl c2))
      | exact hX (fun ⟨w, w0, w1, w2⟩ => rngM w2 w0 w1 (by decide) (Or.inr c8))
  · refine g_iload_1 h dX10_pass_5 ?_
    refine g_bipush h dX10_pass_6 (v := nI 120) rfl ?_
    refine g_icmp_le h 21 dX10_pass_8 rfl (fun c8 => ?_) (fun c8 => ?_)
    · obtain ⟨n, n1, n2, n3⟩ := rngJ c2 c8 (by decide)
      subst n3
      refine g_aload_0 h dX10_pass_21 ?_
      refine g_getC h fl_X10_58 dX10_pass_22 rfl rfl ?_
      refine g_getI h fl_X10_227 dX10_pass_25 rfl rfl ?_
      refine g_istore_2 h dX10_pass_28 (by decide) rfl ?_
      refine g_aload_0 h dX10_pass_29 ?_
      refine g_getC h fl_X10_68 dX10_pass_30 rfl rfl ?_
      refine g_aload_0 h dX10_pass_33 ?_
      refine g_getC h fl_X10_58 dX10_pass_34 rfl rfl ?_
      refine g_iload_1 h dX10_pass_37 ?_
      refine g_cVv2 h rok0 mi_X0_letPass dX10_pass_38 ml_X10_230 rfl rfl rfl (Nat.le_of_ble_eq_true rfl) (Nat.le_of_ble_eq_true rfl) (sp_X0_letPass_20 (by omega) hT hD (fun I1 f1 => ?_))
      refine g_aload_0 h dX10_pass_41 ?_
      refine g_getC h fl_X10_58 dX10_pass_42 rfl rfl ?_
      refine g_getI h fl_X10_227 dX10_pass_45 rfl rfl ?_
      refine g_iload_2 h dX10_pass_48 ?_
      refine g_isub h dX10_pass_49 ?_
      refine g_iret h dX10_pass_50 ?_
      exact hQ n n1 n2 rfl I1 f1
    · refine False.elim ?_
      first
        | exact hX (fun ⟨w, w0, w1, w2⟩ => rngM w2 w0 w1 (by decide) (Or.inl c2))
        | exact hX (fun ⟨w, w0, w1, w2⟩ => rngM w2 w0 w1 (by decide) (Or.inr c8))
