/-! The reference's parser: readCord -/
theorem bkw_N {T I : MI} {a b c v : Int32} (h : bk T I) (hn : nN T < 16) (hc : c = -1 ∨ ∃ i, i < nN T ∧ c = nI i) : bk (ctT (setRow (setRow (setRow (setRow T 12 (upd (T 12) (nN T) a)) 2 (upd (T 2) (nN T) b)) 3 (upd (T 3) (nN T) c)) 4 (upd (T 4) (nN T) v)) 1 (nN T + 1)) (up2 (up2 (up2 (up2 (up2 I 87 (nN T) a) 106 (nN T) b) 107 (nN T) c) 108 (nN T) v) 104 1 (nI (nN T + 1))) := by
  obtain ⟨⟨h1, c0, c1, c2, c3, c4⟩, h3, h4, h5, h6, h7, h8⟩ := h
  have T0 : ∀ i, (ctT (setRow (setRow (setRow (setRow T 12 (upd (T 12) (nN T) a)) 2 (upd (T 2) (nN T) b)) 3 (upd (T 3) (nN T) c)) 4 (upd (T 4) (nN T) v)) 1 (nN T + 1)) 0 i = if i = 1 then nI (nN T + 1) else T 0 i := fun i => by simp [ctT, setRow, upd]
  have Tn : ∀ r, r ≠ 0 → r ≠ 2 → r ≠ 3 → r ≠ 4 → r ≠ 12 → (ctT (setRow (setRow (setRow (setRow T 12 (upd (T 12) (nN T) a)) 2 (upd (T 2) (nN T) b)) 3 (upd (T 3) (nN T) c)) 4 (upd (T 4) (nN T) v)) 1 (nN T + 1)) r = T r := fun r r0 r1 r2 r3 r4 => by simp [ctT, setRow, r0, r1, r2, r3, r4]
  have T2 : (ctT (setRow (setRow (setRow (setRow T 12 (upd (T 12) (nN T) a)) 2 (upd (T 2) (nN T) b)) 3 (upd (T 3) (nN T) c)) 4 (upd (T 4) (nN T) v)) 1 (nN T + 1)) 2 = upd (T 2) (nN T) b := by simp [ctT, setRow]
  have T3 : (ctT (setRow (setRow (setRow (setRow T 12 (upd (T 12) (nN T) a)) 2 (upd (T 2) (nN T) b)) 3 (upd (T 3) (nN T) c)) 4 (upd (T 4) (nN T) v)) 1 (nN T + 1)) 3 = upd (T 3) (nN T) c := by simp [ctT, setRow]
  have T4 : (ctT (setRow (setRow (setRow (setRow T 12 (upd (T 12) (nN T) a)) 2 (upd (T 2) (nN T) b)) 3 (upd (T 3) (nN T) c)) 4 (upd (T 4) (nN T) v)) 1 (nN T + 1)) 4 = upd (T 4) (nN T) v := by simp [ctT, setRow]
  have T12 : (ctT (setRow (setRow (setRow (setRow T 12 (upd (T 12) (nN T) a)) 2 (upd (T 2) (nN T) b)) 3 (upd (T 3) (nN T) c)) 4 (upd (T 4) (nN T) v)) 1 (nN T + 1)) 12 = upd (T 12) (nN T) a := by simp [ctT, setRow]
  generalize (ctT (setRow (setRow (setRow (setRow T 12 (upd (T 12) (nN T) a)) 2 (upd (T 2) (nN T) b)) 3 (upd (T 3) (nN T) c)) 4 (upd (T 4) (nN T) v)) 1 (nN T + 1)) = T' at T0 Tn T2 T3 T4 T12 ⊢
  have eN : nN T' = nN T + 1 := by unfold nN; rw [T0, if_pos rfl]; exact ix_n (show ix (T 0 1) + 1 < 2 ^ 31 by have : nN T = ix (T 0 1) := rfl; omega)
  have eC : nC T' = nC T := by unfold nC; rw [T0, if_neg (by decide)]
  have eT : nT T' = nT T := by unfold nT; rw [T0, if_neg (by decide)]
  have eK : nK T' = nK T := by unfold nK; rw [T0, if_neg (by decide)]
  have eO : nO T' = nO T := by unfold nO; rw [T0, if_neg (by decide)]
  generalize hI' : up2 (up2 (up2 (up2 (up2 I 87 (nN T) a) 106 (nN T) b) 107 (nN T) c) 108 (nN T) v) 104 1 (nI (nN T + 1)) = I'
  have In : ∀ r, r ≠ 87 → r ≠ 106 → r ≠ 107 → r ≠ 108 → r ≠ 104 → I' r = I r := fun r r0 r1 r2 r3 r4 => by rw [← hI', up2_o r4, up2_o r3, up2_o r2, up2_o r1, up2_o r0]
  have I4 : ∀ i, I' 104 i = if i = 1 then nI (nN T + 1) else I 104 i := fun i => by rw [← hI']; simp [up2]
  have I87 : ∀ k, I' 87 k = if k = nN T then a else I 87 k := fun k => by rw [← hI']; simp [up2]
  have I106 : ∀ k, I' 106 k = if k = nN T then b else I 106 k := fun k => by rw [← hI']; simp [up2]
  have I107 : ∀ k, I' 107 k = if k = nN T then c else I 107 k := fun k => by rw [← hI']; simp [up2]
  have I108 : ∀ k, I' 108 k = if k = nN T then v else I 108 k := fun k => by rw [← hI']; simp [up2]
  refine ⟨⟨fun i hi => ?_, by omega, by omega, by omega, by omega, by omega⟩, fun i hi k hk => ?_, fun k hk => ?_, fun k hk => ?_, fun k hk => ?_, fun k hk => ?_, fun q hq j hj => ?_⟩
  · rw [I4, T0]
    by_cases e : i = 1
    · rw [if_pos e, if_pos e, ix_n (by omega)]
    · rw [if_neg e, if_neg e]
      exact h1 i hi
  · by_cases e : i = 1
    · subst e
      have hk : k < nN T' := hk
      rw [T12, I87]
      by_cases e2 : k = nN T
      · rw [if_pos e2, e2, upd_s]
      · rw [if_neg e2, upd_n e2]
        exact h3 1 (by decide) k (by show k < nN T; omega)
    · rw [In (86 + i) (by omega) (by omega) (by omega) (by omega) (by omega), Tn (11 + i) (by omega) (by omega) (by omega) (by omega) (by omega)]
      exact h3 i hi k (by rw [T0, if_neg e] at hk; exact hk)
  · rw [eC] at hk
    rw [Tn 1 (by decide) (by decide) (by decide) (by decide) (by decide), In 105 (by decide) (by decide) (by decide) (by decide) (by decide)]
    exact h4 k hk
  · rw [T2, T3, T4, I106, I107, I108]
    by_cases e2 : k = nN T
    · rw [if_pos e2, if_pos e2, if_pos e2, e2, upd_s, upd_s, upd_s]
      exact ⟨rfl, rfl, rfl, hc⟩
    · rw [if_neg e2, if_neg e2, if_neg e2, upd_n e2, upd_n e2, upd_n e2]
      exact h5 k (by omega)
  · rw [eT] at hk
    rw [Tn 5 (by decide) (by decide) (by decide) (by decide) (by decide), In 109 (by decide) (by decide) (by decide) (by decide) (by decide)]
    exact h6 k hk
  · rw [eK] at hk
    rw [Tn 6 (by decide) (by decide) (by decide) (by decide) (by decide), In 110 (by decide) (by decide) (by decide) (by decide) (by decide)]
    exact h7 k hk
  · rw [eO] at hq
    rw [Tn 7 (by decide) (by decide) (by decide) (by decide) (by decide), In 111 (by decide) (by decide) (by decide) (by decide) (by decide)]
    exact h8 q hq j hj
set_option maxRecDepth 100000 in
set_option maxHeartbeats 4000000 in
theorem sp_readAbove_dd {d : Nat} {I : MI} {J : MJ} {P : MP} (hP : P 80 9 = some 104) {f : Nat} (hf4 : f < 2 ^ 31) (hf : I 80 16 = nI f) {Q : Int32 → MI → MJ → MP → Prop} (hQ : Q (-1) I J P) : Sp yX12_readAbove cX12_readAbove 3 (some .int) (d + 4) [.ref 80] I J P (Qi Q) := by
  intro Γ h
  show VG Γ 0 0 0 [some (.ref 80), none, none] [] _ _ _ _
  refine g_aload_0 h dX12_readAbove_0 ?_
  refine g_getI h fl_X12_118 dX12_readAbove_1 rfl rfl ?_
  refine g_istore_1 h dX12_readAbove_4 (by decide) rfl ?_
  refine g_aload_0 h dX12_readAbove_5 ?_
  refine g_cVi0 h rok0 mi_X12_knownCord dX12_readAbove_6 ml_X12_185 rfl rfl rfl (Nat.le_of_ble_eq_true rfl) (Nat.le_of_ble_eq_true rfl) (sp_knCord_dd hP hf4 hf ?_)
  refine g_istore_2 h dX12_readAbove_9 (by decide) rfl ?_
  refine g_aload_0 h dX12_readAbove_10 ?_
  refine g_cVi0 h rok0 mi_X12_isOk dX12_readAbove_11 ml_X12_121 rfl rfl rfl (Nat.le_of_ble_eq_true rfl) (Nat.le_of_ble_eq_true rfl) (sp_isOk_dd hf4 hf ?_)
  refine g_if_eq h 40 dX12_readAbove_14 rfl (fun _ => ?_) (fun c => absurd c (by decide))
  refine g_aload_0 h dX12_readAbove_40 ?_
  refine g_cVi0 h rok0 mi_X12_isOk dX12_readAbove_41 ml_X12_121 rfl rfl rfl (Nat.le_of_ble_eq_true rfl) (Nat.le_of_ble_eq_true rfl) (sp_isOk_dd hf4 hf ?_)
  refine g_if_eq h 51 dX12_readAbove_44 rfl (fun _ => ?_) (fun c => absurd c (by decide))
  refine g_iconst h dX12_readAbove_51 (v := (-1)) rfl ?_
  refine g_iret h dX12_readAbove_52 ?_
  exact hQ
set_option maxRecDepth 100000 in
set_option maxHeartbeats 4000000 in
theorem tl_readCord {Γ : Cx} {D n : Nat} {v1 v2 v3 v4 : Int32} {I : MI} {J : MJ} {P : MP} (hP : P 80 9 = some 104) (hn : n ≤ 16) (h0 : I 104 1 = nI n) {Q : MI → MJ → MP → Prop} (hQ6 : n = 16 → Q I J P) (hQ : n < 16 → Q (up2 (up2 (up2 (up2 (up2 I 87 n v1) 106 n v2) 107 n v3) 108 n v4) 104 1 (nI (n + 1))) J P) (h : Vc RX12 cX12_readCord 5 none (D) Γ) : VG Γ 0 0 107 [some (.ref 80), some (.int v1), some (.int v2), some (.int v3), some (.int v4)] [] I J P (Fnl Γ (Qv Q)) := by
  refine g_aload_0 h dX12_readCord_107 ?_
  refine g_getP h fl_X12_91 dX12_readCord_108 rfl rfl (by assumption) ?_
  refine g_getI h fl_X12_161 dX12_readCord_111 rfl rfl ?_
  rw [h0]
  refine g_bipush h dX12_readCord_114 (v := nI 16) rfl ?_
  refine g_icmp_ne h 120 dX12_readCord_116 rfl (fun c116 => ?_) (fun c116 => ?_)
  · refine g_aload_0 h dX12_readCord_120 ?_
    refine g_getC h fl_X12_97 dX12_readCord_121 rfl rfl ?_
    refine g_aload_0 h dX12_readCord_124 ?_
    refine g_getP h fl_X12_91 dX12_readCord_125 rfl rfl (by assumption) ?_
    refine g_getI h fl_X12_161 dX12_readCord_128 rfl rfl ?_
    refine g_iload_1 h dX12_readCord_131 ?_
    refine g_iast h n dX12_readCord_132 rfl h0 (by have : ¬ n = 16 := fun q => c116 (by rw [q]); omega) ?_
    refine g_aload_0 h dX12_readCord_133 ?_
    refine g_getP h fl_X12_91 dX12_readCord_134 rfl rfl (by assumption) ?_
    refine g_getC h fl_X12_245 dX12_readCord_137 rfl rfl ?_
    refine g_aload_0 h dX12_readCord_140 ?_
    refine g_getP h fl_X12_91 dX12_readCord_141 rfl rfl (by assumption) ?_
    refine g_getI h fl_X12_161 dX12_readCord_144 rfl rfl ?_
    refine g_iload_2 h dX12_readCord_147 ?_
    refine g_iast h n dX12_readCord_148 rfl (by rw [up2_o (by decide)]; exact h0) (by have : ¬ n = 16 := fun q => c116 (by rw [q]); omega) ?_
    refine g_aload_0 h dX12_readCord_149 ?_
    refine g_getP h fl_X12_91 dX12_readCord_150 rfl rfl (by assumption) ?_
    refine g_getC h fl_X12_248 dX12_readCord_153 rfl rfl ?_
    refine g_aload_0 h dX12_readCord_156 ?_
    refine g_getP h fl_X12_91 dX12_readCord_157 rfl rfl (by assumption) ?_
    refine g_getI h fl_X12_161 dX12_readCord_160 rfl rfl ?_
    refine g_iload_3 h dX12_readCord_163 ?_
    refine g_iast h n dX12_readCord_164 rfl (by rw [up2_o (by decide), up2_o (by decide)]; exact h0) (by have : ¬ n = 16 := fun q => c116 (by rw [q]); omega) ?_
    refine g_aload_0 h dX12_readCord_165 ?_
    refine g_getP h fl_X12_91 dX12_readCord_166 rfl rfl (by assumption) ?_
    refine g_getC h fl_X12_251 dX12_readCord_169 rfl rfl ?_
    refine g_aload_0 h dX12_readCord_172 ?_
    refine g_getP h fl_X12_91 dX12_readCord_173 rfl rfl (by assumption) ?_
    refine g_getI h fl_X12_161 dX12_readCord_176 rfl rfl ?_
    refine g_iload_4 h dX12_readCord_179 ?_
    refine g_iast h n dX12_readCord_181 rfl (by rw [up2_o (by decide), up2_o (by decide), up2_o (by decide)]; exact h0) (by have : ¬ n = 16 := fun q => c116 (by rw [q]); omega) ?_
    refine g_aload_0 h dX12_readCord_182 ?_
    refine g_getP h fl_X12_91 dX12_readCord_183 rfl rfl (by assumption) ?_
    refine g_dup h dX12_readCord_186 rfl ?_
    refine g_getI h fl_X12_161 dX12_readCord_187 rfl rfl ?_
    refine g_iconst h dX12_readCord_190 (v := nI 1) rfl ?_
    refine g_iadd h dX12_readCord_191 ?_
    refine g_putI h fp_X12_161 dX12_readCord_192 rfl rfl ?_
    refine g_vret h dX12_readCord_195 ?_
    have n6 : ¬ n = 16 := fun q => c116 (by rw [q])
    rw [show up2 (up2 (up2 (up2 I 87 n v1) 106 n v2) 107 n v3) 108 n v4 104 1 + nI 1 = nI (n + 1) by rw [up2_o (by decide), up2_o (by decide), up2_o (by decide), up2_o (by decide), h0]; exact nI_1 n]
    exact hQ (by omega)
  · refine g_vret h dX12_readCord_119 ?_
    exact hQ6 (eqN (by first | exact c116 | exact Classical.not_not.mp c116) (by omega) (by decide))
