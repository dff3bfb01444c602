/-! The reference's parser: readOrder, the end -/
theorem bkw_O {T I : MI} {a b c d e : Int32} {r8 r9 r10 : Nat → Int32} (h : bk T I) (hn : nO T < 20) : bk (ctT (setRow (setRow (setRow (setRow T 7 (upd (upd (upd (T 7) (5 * nO T) a) (5 * nO T + 1) b) (5 * nO T + 2) c)) 8 r8) 9 r9) 10 r10) 4 (nO T + 1)) (up2 (up2 (up2 (up2 (up2 (up2 I 111 (5 * nO T) a) 111 (5 * nO T + 1) b) 111 (5 * nO T + 2) c) 111 (5 * nO T + 3) d) 111 (5 * nO T + 4) e) 104 4 (nI (nO T + 1))) := by
  obtain ⟨⟨h1, c0, c1, c2, c3, c4⟩, h3, h4, h5, h6, h7, h8⟩ := h
  have T0 : ∀ i, (ctT (setRow (setRow (setRow (setRow T 7 (upd (upd (upd (T 7) (5 * nO T) a) (5 * nO T + 1) b) (5 * nO T + 2) c)) 8 r8) 9 r9) 10 r10) 4 (nO T + 1)) 0 i = if i = 4 then nI (nO T + 1) else T 0 i := fun i => by simp [ctT, setRow, upd]
  have Tn : ∀ r, r ≠ 0 → r ≠ 7 → r ≠ 8 → r ≠ 9 → r ≠ 10 → (ctT (setRow (setRow (setRow (setRow T 7 (upd (upd (upd (T 7) (5 * nO T) a) (5 * nO T + 1) b) (5 * nO T + 2) c)) 8 r8) 9 r9) 10 r10) 4 (nO T + 1)) r = T r := fun r r0 r1 r2 r3 r4 => by simp [ctT, setRow, r0, r1, r2, r3, r4]
  have T7 : (ctT (setRow (setRow (setRow (setRow T 7 (upd (upd (upd (T 7) (5 * nO T) a) (5 * nO T + 1) b) (5 * nO T + 2) c)) 8 r8) 9 r9) 10 r10) 4 (nO T + 1)) 7 = upd (upd (upd (T 7) (5 * nO T) a) (5 * nO T + 1) b) (5 * nO T + 2) c := by simp [ctT, setRow]
  generalize (ctT (setRow (setRow (setRow (setRow T 7 (upd (upd (upd (T 7) (5 * nO T) a) (5 * nO T + 1) b) (5 * nO T + 2) c)) 8 r8) 9 r9) 10 r10) 4 (nO T + 1)) = T' at T0 Tn T7 ⊢
  have eO : nO T' = nO T + 1 := by unfold nO; rw [T0, if_pos rfl]; exact ix_n (show ix (T 0 4) + 1 < 2 ^ 31 by have : nO T = ix (T 0 4) := rfl; omega)
  have eC : nC T' = nC T := by unfold nC; rw [T0, if_neg (by decide)]
  have eN : nN T' = nN T := by unfold nN; rw [T0, if_neg (by decide)]
  have eT : nT T' = nT T := by unfold nT; rw [T0, if_neg (by decide)]
  have eK : nK T' = nK T := by unfold nK; rw [T0, if_neg (by decide)]
  generalize hI' : (up2 (up2 (up2 (up2 (up2 (up2 I 111 (5 * nO T) a) 111 (5 * nO T + 1) b) 111 (5 * nO T + 2) c) 111 (5 * nO T + 3) d) 111 (5 * nO T + 4) e) 104 4 (nI (nO T + 1))) = I'
  have In : ∀ r, r ≠ 111 → r ≠ 104 → I' r = I r := fun r r0 r1 => by rw [← hI', up2_o r1, up2_o r0, up2_o r0, up2_o r0, up2_o r0, up2_o r0]
  have I4 : ∀ i, I' 104 i = if i = 4 then nI (nO T + 1) else I 104 i := fun i => by rw [← hI']; simp [up2]
  have I111 : ∀ k, I' 111 k = if k = 5 * nO T + 4 then e else if k = 5 * nO T + 3 then d else if k = 5 * nO T + 2 then c else if k = 5 * nO T + 1 then b else if k = 5 * nO T then a else I 111 k := fun k => by rw [← hI']; simp [up2]
  refine ⟨⟨fun i hi => ?_, by omega, by omega, by omega, by omega, by omega⟩, fun i hi k hk => ?_, fun k hk => ?_, fun k hk => ?_, fun k hk => ?_, fun k hk => ?_, fun q hq j hj => ?_⟩
  · rw [I4, T0]
    by_cases e : i = 4
    · rw [if_pos e, if_pos e, ix_n (by omega)]
    · rw [if_neg e, if_neg e]
      exact h1 i hi
  · rw [In (86 + i) (by omega) (by omega), Tn (11 + i) (by omega) (by omega) (by omega) (by omega) (by omega)]
    exact h3 i hi k (by rw [T0, if_neg (by omega)] at hk; exact hk)
  · rw [eC] at hk
    rw [Tn 1 (by decide) (by decide) (by decide) (by decide) (by decide), In 105 (by decide) (by decide)]
    exact h4 k hk
  · rw [eN] at hk
    rw [Tn 2 (by decide) (by decide) (by decide) (by decide) (by decide), Tn 3 (by decide) (by decide) (by decide) (by decide) (by decide), Tn 4 (by decide) (by decide) (by decide) (by decide) (by decide), In 106 (by decide) (by decide), In 107 (by decide) (by decide), In 108 (by decide) (by decide)]
    exact h5 k hk
  · rw [eT] at hk
    rw [Tn 5 (by decide) (by decide) (by decide) (by decide) (by decide), In 109 (by decide) (by decide)]
    exact h6 k hk
  · rw [eK] at hk
    rw [Tn 6 (by decide) (by decide) (by decide) (by decide) (by decide), In 110 (by decide) (by decide)]
    exact h7 k hk
  · rw [eO] at hq
    rw [I111, T7]
    by_cases e2 : q = nO T
    · subst e2
      rcases (show j = 0 ∨ j = 1 ∨ j = 2 by omega) with rfl | rfl | rfl
      · rw [if_neg (by omega), if_neg (by omega), if_neg (by omega), if_neg (by omega), if_pos (by omega), upd_n (by omega), upd_n (by omega), show 5 * nO T + 0 = 5 * nO T from rfl, upd_s]
      · rw [if_neg (by omega), if_neg (by omega), if_neg (by omega), if_pos (by omega), upd_n (by omega), upd_s]
      · rw [if_neg (by omega), if_neg (by omega), if_pos (by omega), upd_s]
    · rw [if_neg (by omega), if_neg (by omega), if_neg (by omega), if_neg (by omega), if_neg (by omega), upd_n (by omega), upd_n (by omega), upd_n (by omega)]
      exact h8 q (by omega) j hj
set_option maxRecDepth 100000 in
set_option maxHeartbeats 4000000 in
theorem tl_readOrder {Γ : Cx} {D n : Nat} {v1 v2 v3 v4 v5 : Int32} {I : MI} {J : MJ} {P : MP} (hP : P 80 9 = some 104) (hn : n ≤ 20) (h0 : I 104 4 = nI n) {Q : MI → MJ → MP → Prop} (hQ6 : n = 20 → Q I J P) (hQ : n < 20 → Q (up2 (up2 (up2 (up2 (up2 (up2 I 111 (5 * n) v1) 111 (5 * n + 1) v2) 111 (5 * n + 2) v3) 111 (5 * n + 3) v4) 111 (5 * n + 4) v5) 104 4 (nI (n + 1))) J P) (h : Vc RX12 cX12_readOrder 7 none (D) Γ) : VG Γ 0 0 112 [some (.ref 80), some (.int v1), some (.int v2), some (.int v3), some (.int v4), some (.int v5), none] [] I J P (Fnl Γ (Qv Q)) := by
  refine g_aload_0 h dX12_readOrder_112 ?_
  refine g_getP h fl_X12_91 dX12_readOrder_113 rfl rfl (by assumption) ?_
  refine g_getI h fl_X12_266 dX12_readOrder_116 rfl rfl ?_
  rw [h0]
  refine g_bipush h dX12_readOrder_119 (v := nI 20) rfl ?_
  refine g_icmp_ne h 125 dX12_readOrder_121 rfl (fun c121 => ?_) (fun c121 => ?_)
  · refine g_iconst h dX12_readOrder_125 (v := nI 5) rfl ?_
    refine g_aload_0 h dX12_readOrder_126 ?_
    refine g_getP h fl_X12_91 dX12_readOrder_127 rfl rfl (by assumption) ?_
    refine g_getI h fl_X12_266 dX12_readOrder_130 rfl rfl ?_
    refine g_imul h dX12_readOrder_133 ?_
    rw [h0, show (nI 5 * nI n : Int32) = nI (5 * n) from pk_mul 5 n]
    have n20 : ¬ n = 20 := fun q => c121 (by rw [q])
    refine g_istore_6 h dX12_readOrder_134 (by decide) rfl ?_
    refine g_aload_0 h dX12_readOrder_136 ?_
    refine g_getP h fl_X12_91 dX12_readOrder_137 rfl rfl (by assumption) ?_
    refine g_getC h fl_X12_269 dX12_readOrder_140 rfl rfl ?_
    refine g_iload_6 h dX12_readOrder_143 ?_
    refine g_iload_1 h dX12_readOrder_145 ?_
    refine g_iast h (5 * n) dX12_readOrder_146 rfl rfl (by omega) ?_
    refine g_aload_0 h dX12_readOrder_147 ?_
    refine g_getP h fl_X12_91 dX12_readOrder_148 rfl rfl (by assumption) ?_
    refine g_getC h fl_X12_269 dX12_readOrder_151 rfl rfl ?_
    refine g_iload_6 h dX12_readOrder_154 ?_
    refine g_iconst h dX12_readOrder_156 (v := nI 1) rfl ?_
    refine g_iadd h dX12_readOrder_157 ?_
    refine g_iload_2 h dX12_readOrder_158 ?_
    refine g_iast h (5 * n + 1) dX12_readOrder_159 rfl (nI_add (5 * n) 1) (by omega) ?_
    refine g_aload_0 h dX12_readOrder_160 ?_
    refine g_getP h fl_X12_91 dX12_readOrder_161 rfl rfl (by assumption) ?_
    refine g_getC h fl_X12_269 dX12_readOrder_164 rfl rfl ?_
    refine g_iload_6 h dX12_readOrder_167 ?_
    refine g_iconst h dX12_readOrder_169 (v := nI 2) rfl ?_
    refine g_iadd h dX12_readOrder_170 ?_
    refine g_iload_3 h dX12_readOrder_171 ?_
    refine g_iast h (5 * n + 2) dX12_readOrder_172 rfl (nI_add (5 * n) 2) (by omega) ?_
    refine g_aload_0 h dX12_readOrder_173 ?_
    refine g_getP h fl_X12_91 dX12_readOrder_174 rfl rfl (by assumption) ?_
    refine g_getC h fl_X12_269 dX12_readOrder_177 rfl rfl ?_
    refine g_iload_6 h dX12_readOrder_180 ?_
    refine g_iconst h dX12_readOrder_182 (v := nI 3) rfl ?_
    refine g_iadd h dX12_readOrder_183 ?_
    refine g_iload_4 h dX12_readOrder_184 ?_
    refine g_iast h (5 * n + 3) dX12_readOrder_186 rfl (nI_add (5 * n) 3) (by omega) ?_
    refine g_aload_0 h dX12_readOrder_187 ?_
    refine g_getP h fl_X12_91 dX12_readOrder_188 rfl rfl (by assumption) ?_
    refine g_getC h fl_X12_269 dX12_readOrder_191 rfl rfl ?_
    refine g_iload_6 h dX12_readOrder_194 ?_
    refine g_iconst h dX12_readOrder_196 (v := nI 4) rfl ?_
    refine g_iadd h dX12_readOrder_197 ?_
    refine g_iload_5 h dX12_readOrder_198 ?_
    refine g_iast h (5 * n + 4) dX12_readOrder_200 rfl (nI_add (5 * n) 4) (by omega) ?_
    refine g_aload_0 h dX12_readOrder_201 ?_
    refine g_getP h fl_X12_91 dX12_readOrder_202 rfl rfl (by assumption) ?_
    refine g_dup h dX12_readOrder_205 rfl ?_
    refine g_getI h fl_X12_266 dX12_readOrder_206 rfl rfl ?_
    refine g_iconst h dX12_readOrder_209 (v := nI 1) rfl ?_
    refine g_iadd h dX12_readOrder_210 ?_
    refine g_putI h fp_X12_266 dX12_readOrder_211 rfl rfl ?_
    refine g_vret h dX12_readOrder_214 ?_
    rw [show up2 (up2 (up2 (up2 (up2 I 111 (5 * n) v1) 111 (5 * n + 1) v2) 111 (5 * n + 2) v3) 111 (5 * n + 3) v4) 111 (5 * n + 4) v5 104 4 + nI 1 = nI (n + 1) by rw [up2_o (by decide), up2_o (by decide), up2_o (by decide), up2_o (by decide), up2_o (by decide), h0]; exact nI_1 n]
    exact hQ (by omega)
  · refine g_vret h dX12_readOrder_124 ?_
    exact hQ6 (eqN (by first | exact c121 | exact Classical.not_not.mp c121) (by omega) (by decide))
