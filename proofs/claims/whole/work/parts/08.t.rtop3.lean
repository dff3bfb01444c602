/-! The reference's parser: readTop, the end -/
theorem bkw_T {T I : MI} {a : Int32} {FF : (Nat → Int32) × Nat} (h : bk T I) (hn : nT T < 6) (hF : FF.2 ≤ 8) (hlo : ∀ k, k < 9 * nT T + 1 → FF.1 k = T 5 k) (hr : ∀ n, n < FF.2 → I 109 (9 * nT T + 1 + n) = FF.1 (9 * nT T + 1 + n)) : bk (ctT (setRow (setRow T 5 (upd FF.1 (9 * nT T) (nI FF.2))) 13 (upd (T 13) (nT T) a)) 2 (nT T + 1)) (up2 (up2 (up2 I 109 (9 * nT T) (nI FF.2)) 88 (nT T) a) 104 2 (nI (nT T + 1))) := by
  obtain ⟨⟨h1, c0, c1, c2, c3, c4⟩, h3, h4, h5, h6, h7, h8⟩ := h
  have T0 : ∀ i, (ctT (setRow (setRow T 5 (upd FF.1 (9 * nT T) (nI FF.2))) 13 (upd (T 13) (nT T) a)) 2 (nT T + 1)) 0 i = if i = 2 then nI (nT T + 1) else T 0 i := fun i => by simp [ctT, setRow, upd]
  have Tn : ∀ r, r ≠ 0 → r ≠ 5 → r ≠ 13 → (ctT (setRow (setRow T 5 (upd FF.1 (9 * nT T) (nI FF.2))) 13 (upd (T 13) (nT T) a)) 2 (nT T + 1)) r = T r := fun r r0 r1 r2 => by simp [ctT, setRow, r0, r1, r2]
  have T5 : (ctT (setRow (setRow T 5 (upd FF.1 (9 * nT T) (nI FF.2))) 13 (upd (T 13) (nT T) a)) 2 (nT T + 1)) 5 = upd FF.1 (9 * nT T) (nI FF.2) := by simp [ctT, setRow]
  have T13 : (ctT (setRow (setRow T 5 (upd FF.1 (9 * nT T) (nI FF.2))) 13 (upd (T 13) (nT T) a)) 2 (nT T + 1)) 13 = upd (T 13) (nT T) a := by simp [ctT, setRow]
  generalize (ctT (setRow (setRow T 5 (upd FF.1 (9 * nT T) (nI FF.2))) 13 (upd (T 13) (nT T) a)) 2 (nT T + 1)) = T' at T0 Tn T5 T13 ⊢
  have eT : nT T' = nT T + 1 := by unfold nT; rw [T0, if_pos rfl]; exact ix_n (show ix (T 0 2) + 1 < 2 ^ 31 by have : nT T = ix (T 0 2) := rfl; omega)
  have eC : nC T' = nC T := by unfold nC; rw [T0, if_neg (by decide)]
  have eN : nN T' = nN T := by unfold nN; rw [T0, if_neg (by decide)]
  have eK : nK T' = nK T := by unfold nK; rw [T0, if_neg (by decide)]
  have eO : nO T' = nO T := by unfold nO; rw [T0, if_neg (by decide)]
  generalize hI' : up2 (up2 (up2 I 109 (9 * nT T) (nI FF.2)) 88 (nT T) a) 104 2 (nI (nT T + 1)) = I'
  have In : ∀ r, r ≠ 109 → r ≠ 88 → r ≠ 104 → I' r = I r := fun r r0 r1 r2 => by rw [← hI', up2_o r2, up2_o r1, up2_o r0]
  have I4 : ∀ i, I' 104 i = if i = 2 then nI (nT T + 1) else I 104 i := fun i => by rw [← hI']; simp [up2]
  have I88 : ∀ k, I' 88 k = if k = nT T then a else I 88 k := fun k => by rw [← hI']; simp [up2]
  have I109 : ∀ k, I' 109 k = if k = 9 * nT T then nI FF.2 else I 109 k := fun k => by rw [← hI']; simp [up2]
  refine ⟨⟨fun i hi => ?_, by omega, by omega, by omega, by omega, by omega⟩, fun i hi k hk => ?_, fun k hk => ?_, fun k hk => ?_, fun k hk => ?_, fun k hk => ?_, fun q hq j hj => ?_⟩
  · rw [I4, T0]
    by_cases e : i = 2
    · rw [if_pos e, if_pos e, ix_n (by omega)]
    · rw [if_neg e, if_neg e]
      exact h1 i hi
  · by_cases e : i = 2
    · subst e
      have hk : k < nT T' := hk
      rw [T13, I88]
      by_cases e2 : k = nT T
      · rw [if_pos e2, e2, upd_s]
      · rw [if_neg e2, upd_n e2]
        exact h3 2 (by decide) k (by show k < nT T; omega)
    · rw [In (86 + i) (by omega) (by omega) (by omega), Tn (11 + i) (by omega) (by omega) (by omega)]
      exact h3 i hi k (by rw [T0, if_neg e] at hk; exact hk)
  · rw [eC] at hk
    rw [Tn 1 (by decide) (by decide) (by decide), In 105 (by decide) (by decide) (by decide)]
    exact h4 k hk
  · rw [eN] at hk
    rw [Tn 2 (by decide) (by decide) (by decide), Tn 3 (by decide) (by decide) (by decide), Tn 4 (by decide) (by decide) (by decide), In 106 (by decide) (by decide) (by decide), In 107 (by decide) (by decide) (by decide), In 108 (by decide) (by decide) (by decide)]
    exact h5 k hk
  · rw [eT] at hk
    by_cases e2 : k = nT T
    · refine ⟨FF.2, hF, by rw [T5, e2, upd_s], by rw [I109, if_pos (by omega)], fun n hn2 => ?_⟩
      rw [I109, if_neg (by omega), T5, upd_n (by omega), e2]
      exact hr n hn2
    · obtain ⟨y, y1, y2, y3, y4⟩ := h6 k (by omega)
      refine ⟨y, y1, by rw [T5, upd_n (by omega), hlo _ (by omega)]; exact y2, by rw [I109, if_neg (by omega)]; exact y3, fun n hn2 => ?_⟩
      rw [I109, if_neg (by omega), T5, upd_n (by omega), hlo _ (by omega)]
      exact y4 n hn2
  · rw [eK] at hk
    rw [Tn 6 (by decide) (by decide) (by decide), In 110 (by decide) (by decide) (by decide)]
    exact h7 k hk
  · rw [eO] at hq
    rw [Tn 7 (by decide) (by decide) (by decide), In 111 (by decide) (by decide) (by decide)]
    exact h8 q hq j hj
set_option maxRecDepth 100000 in
set_option maxHeartbeats 4000000 in
theorem tl_readTopA {Γ : Cx} {D n : Nat} {v1 v4 : Int32} {I : MI} {J : MJ} {P : MP} (hP : P 80 9 = some 104) (hn : n < 6) (h0 : I 104 2 = nI n) {Q : MI → MJ → MP → Prop} (hQ : Q (up2 (up2 (up2 I 109 (9 * n) v4) 88 n v1) 104 2 (nI (n + 1))) J P) (h : Vc RX12 cX12_readTop 5 none (D) Γ) : VG Γ 0 0 121 [some (.ref 80), some (.int v1), some (.int (nI 1)), some (.int (nI (9 * n))), some (.int v4)] [] I J P (Fnl Γ (Qv Q)) := by
  refine g_iload_2 h dX12_readTop_121 ?_
  refine g_if_ne h 126 dX12_readTop_122 rfl (fun _ => ?_) (fun c => absurd c (by decide))
  refine g_aload_0 h dX12_readTop_126 ?_
  refine g_getP h fl_X12_91 dX12_readTop_127 rfl rfl (by assumption) ?_
  refine g_getC h fl_X12_260 dX12_readTop_130 rfl rfl ?_
  refine g_iload_3 h dX12_readTop_133 ?_
  refine g_iload_4 h dX12_readTop_134 ?_
  refine g_iast h (9 * n) dX12_readTop_136 rfl rfl (by omega) ?_
  refine g_aload_0 h dX12_readTop_137 ?_
  refine g_getC h fl_X12_100 dX12_readTop_138 rfl rfl ?_
  refine g_aload_0 h dX12_readTop_141 ?_
  refine g_getP h fl_X12_91 dX12_readTop_142 rfl rfl (by assumption) ?_
  refine g_getI h fl_X12_164 dX12_readTop_145 rfl rfl ?_
  refine g_iload_1 h dX12_readTop_148 ?_
  refine g_iast h n dX12_readTop_149 rfl (by rw [up2_o (by decide)]; exact h0) (by omega) ?_
  refine g_aload_0 h dX12_readTop_150 ?_
  refine g_getP h fl_X12_91 dX12_readTop_151 rfl rfl (by assumption) ?_
  refine g_dup h dX12_readTop_154 rfl ?_
  refine g_getI h fl_X12_164 dX12_readTop_155 rfl rfl ?_
  refine g_iconst h dX12_readTop_158 (v := nI 1) rfl ?_
  refine g_iadd h dX12_readTop_159 ?_
  refine g_putI h fp_X12_164 dX12_readTop_160 rfl rfl ?_
  refine g_vret h dX12_readTop_163 ?_
  rw [show up2 (up2 I 109 (9 * n) v4) 88 n v1 104 2 + nI 1 = nI (n + 1) by rw [up2_o (by decide), up2_o (by decide), h0]; exact nI_1 n]
  exact hQ
set_option maxRecDepth 100000 in
set_option maxHeartbeats 4000000 in
theorem tl_readTopB {Γ : Cx} {D : Nat} {v1 v3 v4 : Int32} {I : MI} {J : MJ} {P : MP} {Q : MI → MJ → MP → Prop} (hQ : Q I J P) (h : Vc RX12 cX12_readTop 5 none (D) Γ) : VG Γ 0 0 121 [some (.ref 80), some (.int v1), some (.int (nI 0)), some (.int v3), some (.int v4)] [] I J P (Fnl Γ (Qv Q)) := by
  refine g_iload_2 h dX12_readTop_121 ?_
  refine g_if_ne h 126 dX12_readTop_122 rfl (fun c => absurd c (by decide)) (fun _ => ?_)
  refine g_vret h dX12_readTop_125 ?_
  exact hQ
set_option maxRecDepth 100000 in
set_option maxHeartbeats 4000000 in
theorem dd_readTop {Γ : Cx} {d n : Nat} {v1 : Int32} {I : MI} {J : MJ} {P : MP} (hP : P 80 9 = some 104) (hn : n ≤ 6) (h0 : I 104 2 = nI n) {f : Nat} (hf4 : f < 2 ^ 31) (hf : I 80 16 = nI f) {Q : MI → MJ → MP → Prop} (hQ : Q I J P) (hQ7 : ∀ v4, Q (up2 (up2 (up2 I 109 (9 * n) v4) 88 n v1) 104 2 (nI (n + 1))) J P) (h : Vc RX12 cX12_readTop 5 none (d + 5) Γ) : VG Γ 0 0 35 [some (.ref 80), some (.int v1), none, none, none] [] I J P (Fnl Γ (Qv Q)) := by
  by_cases n6 : n < 6
  · refine g_aload_0 h dX12_readTop_35 ?_
    refine g_getP h fl_X12_91 dX12_readTop_36 rfl rfl (by assumption) ?_
    refine g_getI h fl_X12_164 dX12_readTop_39 rfl rfl ?_
    refine g_bipush h dX12_readTop_42 (v := nI 6) rfl ?_
    rw [h0]
    refine g_icmp_ge h 51 dX12_readTop_44 rfl (fun c => absurd c (by rw [Int32.not_le]; exact nI_lt n6 (by decide))) (fun _ => ?_)
    refine g_iconst h dX12_readTop_47 (v := nI 1) rfl ?_
    refine g_goto h 52 dX12_readTop_48 rfl ?_
    refine g_istore_2 h dX12_readTop_52 (by decide) rfl ?_
    refine g_iload_2 h dX12_readTop_53 ?_
    refine g_if_eq h 70 dX12_readTop_54 rfl (fun c => absurd c (by decide)) (fun _ => ?_)
    refine g_bipush h dX12_readTop_57 (v := nI 9) rfl ?_
    refine g_aload_0 h dX12_readTop_59 ?_
    refine g_getP h fl_X12_91 dX12_readTop_60 rfl rfl (by assumption) ?_
    refine g_getI h fl_X12_164 dX12_readTop_63 rfl rfl ?_
    refine g_imul h dX12_readTop_66 ?_
    rw [h0, show (nI 9 * nI n : Int32) = nI (9 * n) from pk_mul 9 n]
    refine g_goto h 71 dX12_readTop_67 rfl ?_
    refine g_istore_3 h dX12_readTop_71 (by decide) rfl ?_
    refine g_aload_0 h dX12_readTop_72 ?_
    refine g_iload_3 h dX12_readTop_73 ?_
    refine g_iconst h dX12_readTop_74 (v := nI 0) rfl ?_
    refine g_cVi2 h rok0 mi_X12_readOver dX12_readTop_75 ml_X12_257 rfl rfl rfl (Nat.le_of_ble_eq_true rfl) (Nat.le_of_ble_eq_true rfl) (sp_readOver_dd hP hf4 hf ?_)
    refine g_istore_4 h dX12_readTop_78 (by decide) rfl ?_
    refine g_aload_0 h dX12_readTop_80 ?_
    refine g_iload_3 h dX12_readTop_81 ?_
    refine g_iload_4 h dX12_readTop_82 ?_
    refine g_cVi2 h rok0 mi_X12_readOver dX12_readTop_84 ml_X12_257 rfl rfl rfl (Nat.le_of_ble_eq_true rfl) (Nat.le_of_ble_eq_true rfl) (sp_readOver_dd hP hf4 hf ?_)
    refine g_istore_4 h dX12_readTop_87 (by decide) rfl ?_
    refine g_aload_0 h dX12_readTop_89 ?_
    refine g_cVi0 h rok0 mi_X12_isOk dX12_readTop_90 ml_X12_121 rfl rfl rfl (Nat.le_of_ble_eq_true rfl) (Nat.le_of_ble_eq_true rfl) (sp_isOk_dd hf4 hf ?_)
    refine g_if_eq h 121 dX12_readTop_93 rfl (fun _ => ?_) (fun c => absurd c (by decide))
    exact tl_readTopA hP n6 h0 (hQ7 _) h
  · refine g_aload_0 h dX12_readTop_35 ?_
    refine g_getP h fl_X12_91 dX12_readTop_36 rfl rfl (by assumption) ?_
    refine g_getI h fl_X12_164 dX12_readTop_39 rfl rfl ?_
    refine g_bipush h dX12_readTop_42 (v := nI 6) rfl ?_
    rw [h0]
    refine g_icmp_ge h 51 dX12_readTop_44 rfl (fun _ => ?_) (fun c => absurd (ltN (Int32.not_le.mp c) (by omega) (by decide)) n6)
    refine g_iconst h dX12_readTop_51 (v := nI 0) rfl ?_
    refine g_istore_2 h dX12_readTop_52 (by decide) rfl ?_
    refine g_iload_2 h dX12_readTop_53 ?_
    refine g_if_eq h 70 dX12_readTop_54 rfl (fun _ => ?_) (fun c => absurd c (by decide))
    refine g_iconst h dX12_readTop_70 (v := (-1)) rfl ?_
    refine g_istore_3 h dX12_readTop_71 (by decide) rfl ?_
    refine g_aload_0 h dX12_readTop_72 ?_
    refine g_iload_3 h dX12_readTop_73 ?_
    refine g_iconst h dX12_readTop_74 (v := nI 0) rfl ?_
    refine g_cVi2 h rok0 mi_X12_readOver dX12_readTop_75 ml_X12_257 rfl rfl rfl (Nat.le_of_ble_eq_true rfl) (Nat.le_of_ble_eq_true rfl) (sp_readOver_dd hP hf4 hf ?_)
    refine g_istore_4 h dX12_readTop_78 (by decide) rfl ?_
    refine g_aload_0 h dX12_readTop_80 ?_
    refine g_iload_3 h dX12_readTop_81 ?_
    refine g_iload_4 h dX12_readTop_82 ?_
    refine g_cVi2 h rok0 mi_X12_readOver dX12_readTop_84 ml_X12_257 rfl rfl rfl (Nat.le_of_ble_eq_true rfl) (Nat.le_of_ble_eq_true rfl) (sp_readOver_dd hP hf4 hf ?_)
    refine g_istore_4 h dX12_readTop_87 (by decide) rfl ?_
    refine g_aload_0 h dX12_readTop_89 ?_
    refine g_cVi0 h rok0 mi_X12_isOk dX12_readTop_90 ml_X12_121 rfl rfl rfl (Nat.le_of_ble_eq_true rfl) (Nat.le_of_ble_eq_true rfl) (sp_isOk_dd hf4 hf ?_)
    refine g_if_eq h 121 dX12_readTop_93 rfl (fun _ => ?_) (fun c => absurd c (by decide))
    exact tl_readTopB hQ h
