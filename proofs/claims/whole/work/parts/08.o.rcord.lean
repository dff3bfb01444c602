/-! The reference's parser: readCord -/
theorem er_nil {o : Option (Nat × Nat)} : er [] o = o := rfl
theorem bkw_N {T I : MI} {a b c v : Int32} (h : bk T I) (hn : nN T < 16) (hc : c = -1 ∨ ∃ i, i < nN T ∧ c = nI i) : bk (ctT (setRow (setRow (setRow (setRow T 12 (upd (T 12) (nN T) a)) 2 (upd (T 2) (nN T) b)) 3 (upd (T 3) (nN T) c)) 4 (upd (T 4) (nN T) v)) 1 (nN T + 1)) (up2 (up2 (up2 (up2 (up2 I 87 (nN T) a) 106 (nN T) b) 107 (nN T) c) 108 (nN T) v) 104 1 (nI (nN T + 1))) := by
  obtain ⟨⟨h1, c0, c1, c2, c3, c4⟩, h3, h4, h5, h6, h7, h8⟩ := h
  have T0 : ∀ i, (ctT (setRow (setRow (setRow (setRow T 12 (upd (T 12) (nN T) a)) 2 (upd (T 2) (nN T) b)) 3 (upd (T 3) (nN T) c)) 4 (upd (T 4) (nN T) v)) 1 (nN T + 1)) 0 i = if i = 1 then nI (nN T + 1) else T 0 i := fun i => by simp [ctT, setRow, upd]
  have Tn : ∀ r, r ≠ 0 → r ≠ 2 → r ≠ 3 → r ≠ 4 → r ≠ 12 → (ctT (setRow (setRow (setRow (setRow T 12 (upd (T 12) (nN T) a)) 2 (upd (T 2) (nN T) b)) 3 (upd (T 3) (nN T) c)) 4 (upd (T 4) (nN T) v)) 1 (nN T + 1)) r = T r := fun r r0 r1 r2 r3 r4 => by simp [ctT, setRow, r0, r1, r2, r3, r4]
  have T2 : (ctT (setRow (setRow (setRow (setRow T 12 (upd (T 12) (nN T) a)) 2 (upd (T 2) (nN T) b)) 3 (upd (T 3) (nN T) c)) 4 (upd (T 4) (nN T) v)) 1 (nN T + 1)) 2 = upd (T 2) (nN T) b := by simp [ctT, setRow]
  have T3 : (ctT (setRow (setRow (setRow (setRow T 12 (upd (T 12) (nN T) a)) 2 (upd (T 2) (nN T) b)) 3 (upd (T 3) (nN T) c)) 4 (upd (T 4) (nN T) v)) 1 (nN T + 1)) 3 = upd (T 3) (nN T) c := by simp [ctT, setRow]
  have T4 : (ctT (setRow (setRow (setRow (setRow T 12 (upd (T 12) (nN T) a)) 2 (upd (T 2) (nN T) b)) 3 (upd (T 3) (nN T) c)) 4 (upd (T 4) (nN T) v)) 1 (nN T + 1)) 4 = upd (T 4) (nN T) v := by simp [ctT, setRow]
  have T12 : (ctT (setRow (setRow (setRow (setRow T 12 (upd (T 12) (nN T) a)) 2 (upd (T 2) (nN T) b)) 3 (upd (T 3) (nN T) c)) 4 (upd (T 4) (nN T) v)) 1 (nN T + 1)) 12 = upd (T 12) (nN T) a := by simp [ctT, setRow]
  generalize (ctT (setRow (setRow (setRow (setRow T 12 (upd (T 12) (nN T) a)) 2 (upd (T 2) (nN T) b)) 3 (upd (T 3) (nN T) c)) 4 (upd (T 4) (nN T) v)) 1 (nN T + 1)) = T' at T0 Tn T2 T3 T4 T12 ⊢
  have eN : nN T' = nN T + 1 := by unfold nN; rw [T0, if_pos rfl]; exact ix_n (show ix (T 0 1) + 1 < 2 ^ 31 by have : nN T = ix (T 0 1) := rfl; omega)
  have eC : nC T' = nC T := by unfold nC; rw [T0, if_neg (by decide)]
  have eT : nT T' = nT T := by unfold nT; rw [T0, if_neg (by decide)]
  have eK : nK T' = nK T := by unfold nK; rw [T0, if_neg (by decide)]
  have eO : nO T' = nO T := by unfold nO; rw [T0, if_neg (by decide)]
  generalize hI' : up2 (up2 (up2 (up2 (up2 I 87 (nN T) a) 106 (nN T) b) 107 (nN T) c) 108 (nN T) v) 104 1 (nI (nN T + 1)) = I'
  have In : ∀ r, r ≠ 87 → r ≠ 106 → r ≠ 107 → r ≠ 108 → r ≠ 104 → I' r = I r := fun r r0 r1 r2 r3 r4 => by rw [← hI', up2_o r4, up2_o r3, up2_o r2, up2_o r1, up2_o r0]
  have I4 : ∀ i, I' 104 i = if i = 1 then nI (nN T + 1) else I 104 i := fun i => by rw [← hI']; simp [up2]
  have I87 : ∀ k, I' 87 k = if k = nN T then a else I 87 k := fun k => by rw [← hI']; simp [up2]
  have I106 : ∀ k, I' 106 k = if k = nN T then b else I 106 k := fun k => by rw [← hI']; simp [up2]
  have I107 : ∀ k, I' 107 k = if k = nN T then c else I 107 k := fun k => by rw [← hI']; simp [up2]
  have I108 : ∀ k, I' 108 k = if k = nN T then v else I 108 k := fun k => by rw [← hI']; simp [up2]
  refine ⟨⟨fun i hi => ?_, by omega, by omega, by omega, by omega, by omega⟩, fun i hi k hk => ?_, fun k hk => ?_, fun k hk => ?_, fun k hk => ?_, fun k hk => ?_, fun q hq j hj => ?_⟩
  · rw [I4, T0]
    by_cases e : i = 1
    · rw [if_pos e, if_pos e, ix_n (by omega)]
    · rw [if_neg e, if_neg e]
      exact h1 i hi
  · by_cases e : i = 1
    · subst e
      have hk : k < nN T' := hk
      rw [T12, I87]
      by_cases e2 : k = nN T
      · rw [if_pos e2, e2, upd_s]
      · rw [if_neg e2, upd_n e2]
        exact h3 1 (by decide) k (by show k < nN T; omega)
    · rw [In (86 + i) (by omega) (by omega) (by omega) (by omega) (by omega), Tn (11 + i) (by omega) (by omega) (by omega) (by omega) (by omega)]
      exact h3 i hi k (by rw [T0, if_neg e] at hk; exact hk)
  · rw [eC] at hk
    rw [Tn 1 (by decide) (by decide) (by decide) (by decide) (by decide), In 105 (by decide) (by decide) (by decide) (by decide) (by decide)]
    exact h4 k hk
  · rw [T2, T3, T4, I106, I107, I108]
    by_cases e2 : k = nN T
    · rw [if_pos e2, if_pos e2, if_pos e2, e2, upd_s, upd_s, upd_s]
      exact ⟨rfl, rfl, rfl, hc⟩
    · rw [if_neg e2, if_neg e2, if_neg e2, upd_n e2, upd_n e2, upd_n e2]
      exact h5 k (by omega)
  · rw [eT] at hk
    rw [Tn 5 (by decide) (by decide) (by decide) (by decide) (by decide), In 109 (by decide) (by decide) (by decide) (by decide) (by decide)]
    exact h6 k hk
  · rw [eK] at hk
    rw [Tn 6 (by decide) (by decide) (by decide) (by decide) (by decide), In 110 (by decide) (by decide) (by decide) (by decide) (by decide)]
    exact h7 k hk
  · rw [eO] at hq
    rw [Tn 7 (by decide) (by decide) (by decide) (by decide) (by decide), In 111 (by decide) (by decide) (by decide) (by decide) (by decide)]
    exact h8 q hq j hj
set_option maxRecDepth 100000 in
set_option maxHeartbeats 4000000 in
theorem sp_readAbove_dd {d : Nat} {I : MI} {J : MJ} {P : MP} (hP : P 80 9 = some 104) {f : Nat} (hf4 : f < 2 ^ 31) (hf : I 80 16 = nI f) {Q : Int32 → MI → MJ → MP → Prop} (hQ : Q (-1) I J P) : Sp yX12_readAbove cX12_readAbove 3 (some .int) (d + 4) [.ref 80] I J P (Qi Q) := by
  intro Γ h
  show VG Γ 0 0 0 [some (.ref 80), none, none] [] _ _ _ _
  refine g_aload_0 h dX12_readAbove_0 ?_
  refine g_getI h fl_X12_118 dX12_readAbove_1 rfl rfl ?_
  refine g_istore_1 h dX12_readAbove_4 (by decide) rfl ?_
  refine g_aload_0 h dX12_readAbove_5 ?_
  refine g_cVi0 h rok0 mi_X12_knownCord dX12_readAbove_6 ml_X12_185 rfl rfl rfl (Nat.le_of_ble_eq_true rfl) (Nat.le_of_ble_eq_true rfl) (sp_knCord_dd hP hf4 hf ?_)
  refine g_istore_2 h dX12_readAbove_9 (by decide) rfl ?_
  refine g_aload_0 h dX12_readAbove_10 ?_
  refine g_cVi0 h rok0 mi_X12_isOk dX12_readAbove_11 ml_X12_121 rfl rfl rfl (Nat.le_of_ble_eq_true rfl) (Nat.le_of_ble_eq_true rfl) (sp_isOk_dd hf4 hf ?_)
  refine g_if_eq h 40 dX12_readAbove_14 rfl (fun _ => ?_) (fun c => absurd c (by decide))
  refine g_aload_0 h dX12_readAbove_40 ?_
  refine g_cVi0 h rok0 mi_X12_isOk dX12_readAbove_41 ml_X12_121 rfl rfl rfl (Nat.le_of_ble_eq_true rfl) (Nat.le_of_ble_eq_true rfl) (sp_isOk_dd hf4 hf ?_)
  refine g_if_eq h 51 dX12_readAbove_44 rfl (fun _ => ?_) (fun c => absurd c (by decide))
  refine g_iconst h dX12_readAbove_51 (v := (-1)) rfl ?_
  refine g_iret h dX12_readAbove_52 ?_
  exact hQ
set_option maxRecDepth 100000 in
set_option maxHeartbeats 4000000 in
theorem tl_readCord {Γ : Cx} {D n : Nat} {v1 v2 v3 v4 : Int32} {I : MI} {J : MJ} {P : MP} (hP : P 80 9 = some 104) (hn : n ≤ 16) (h0 : I 104 1 = nI n) {Q : MI → MJ → MP → Prop} (hQ6 : n = 16 → Q I J P) (hQ : n < 16 → Q (up2 (up2 (up2 (up2 (up2 I 87 n v1) 106 n v2) 107 n v3) 108 n v4) 104 1 (nI (n + 1))) J P) (h : Vc RX12 cX12_readCord 5 none (D) Γ) : VG Γ 0 0 107 [some (.ref 80), some (.int v1), some (.int v2), some (.int v3), some (.int v4)] [] I J P (Fnl Γ (Qv Q)) := by
  refine g_aload_0 h dX12_readCord_107 ?_
  refine g_getP h fl_X12_91 dX12_readCord_108 rfl rfl (by assumption) ?_
  refine g_getI h fl_X12_161 dX12_readCord_111 rfl rfl ?_
  rw [h0]
  refine g_bipush h dX12_readCord_114 (v := nI 16) rfl ?_
  refine g_icmp_ne h 120 dX12_readCord_116 rfl (fun c116 => ?_) (fun c116 => ?_)
  · refine g_aload_0 h dX12_readCord_120 ?_
    refine g_getC h fl_X12_97 dX12_readCord_121 rfl rfl ?_
    refine g_aload_0 h dX12_readCord_124 ?_
    refine g_getP h fl_X12_91 dX12_readCord_125 rfl rfl (by assumption) ?_
    refine g_getI h fl_X12_161 dX12_readCord_128 rfl rfl ?_
    refine g_iload_1 h dX12_readCord_131 ?_
    refine g_iast h n dX12_readCord_132 rfl h0 (by have : ¬ n = 16 := fun q => c116 (by rw [q]); omega) ?_
    refine g_aload_0 h dX12_readCord_133 ?_
    refine g_getP h fl_X12_91 dX12_readCord_134 rfl rfl (by assumption) ?_
    refine g_getC h fl_X12_245 dX12_readCord_137 rfl rfl ?_
    refine g_aload_0 h dX12_readCord_140 ?_
    refine g_getP h fl_X12_91 dX12_readCord_141 rfl rfl (by assumption) ?_
    refine g_getI h fl_X12_161 dX12_readCord_144 rfl rfl ?_
    refine g_iload_2 h dX12_readCord_147 ?_
    refine g_iast h n dX12_readCord_148 rfl (by rw [up2_o (by decide)]; exact h0) (by have : ¬ n = 16 := fun q => c116 (by rw [q]); omega) ?_
    refine g_aload_0 h dX12_readCord_149 ?_
    refine g_getP h fl_X12_91 dX12_readCord_150 rfl rfl (by assumption) ?_
    refine g_getC h fl_X12_248 dX12_readCord_153 rfl rfl ?_
    refine g_aload_0 h dX12_readCord_156 ?_
    refine g_getP h fl_X12_91 dX12_readCord_157 rfl rfl (by assumption) ?_
    refine g_getI h fl_X12_161 dX12_readCord_160 rfl rfl ?_
    refine g_iload_3 h dX12_readCord_163 ?_
    refine g_iast h n dX12_readCord_164 rfl (by rw [up2_o (by decide), up2_o (by decide)]; exact h0) (by have : ¬ n = 16 := fun q => c116 (by rw [q]); omega) ?_
    refine g_aload_0 h dX12_readCord_165 ?_
    refine g_getP h fl_X12_91 dX12_readCord_166 rfl rfl (by assumption) ?_
    refine g_getC h fl_X12_251 dX12_readCord_169 rfl rfl ?_
    refine g_aload_0 h dX12_readCord_172 ?_
    refine g_getP h fl_X12_91 dX12_readCord_173 rfl rfl (by assumption) ?_
    refine g_getI h fl_X12_161 dX12_readCord_176 rfl rfl ?_
    refine g_iload_4 h dX12_readCord_179 ?_
    refine g_iast h n dX12_readCord_181 rfl (by rw [up2_o (by decide), up2_o (by decide), up2_o (by decide)]; exact h0) (by have : ¬ n = 16 := fun q => c116 (by rw [q]); omega) ?_
    refine g_aload_0 h dX12_readCord_182 ?_
    refine g_getP h fl_X12_91 dX12_readCord_183 rfl rfl (by assumption) ?_
    refine g_dup h dX12_readCord_186 rfl ?_
    refine g_getI h fl_X12_161 dX12_readCord_187 rfl rfl ?_
    refine g_iconst h dX12_readCord_190 (v := nI 1) rfl ?_
    refine g_iadd h dX12_readCord_191 ?_
    refine g_putI h fp_X12_161 dX12_readCord_192 rfl rfl ?_
    refine g_vret h dX12_readCord_195 ?_
    have n6 : ¬ n = 16 := fun q => c116 (by rw [q])
    rw [show up2 (up2 (up2 (up2 I 87 n v1) 106 n v2) 107 n v3) 108 n v4 104 1 + nI 1 = nI (n + 1) by rw [up2_o (by decide), up2_o (by decide), up2_o (by decide), up2_o (by decide), h0]; exact nI_1 n]
    exact hQ (by omega)
  · refine g_vret h dX12_readCord_119 ?_
    exact hQ6 (eqN (by first | exact c116 | exact Classical.not_not.mp c116) (by omega) (by decide))
set_option maxRecDepth 100000 in
set_option maxHeartbeats 4000000 in
theorem sp_readCord {K wd : Nat → Nat} {V ca : Nat → Int32} {M : Nat} {T : MI} {d p z : Nat} {x : Option (Nat × Nat)} {I : MI} {J : MJ} {P : MP} (hV : vR K V M) (hP : P 80 9 = some 104) (hR : rL K wd V M T I p z x) (hK : K p = 2) {Q : MI → MJ → MP → Prop} (hQ1 : ∀ I' q, pL K p = sqK K [34] q rtL → K (p + 1) = 28 → p < q → q ≤ M → rL K wd V M (lsT K V wd ca T p) I' q z (x.or (lerr K V wd T p)) → FRl I I' → FRo T z I I' → Q I' J P) (hQ0 : ∀ I' e, pL K p = (false, e) → rD M e I I' → Q I' J P) : Sp yX12_readCord cX12_readCord 5 none (d + 5) [.ref 80] I J P (Qv Q) := by
  intro Γ h
  show VG Γ 0 0 0 [some (.ref 80), none, none, none, none] [] _ _ _ _
  have hR0 := hR
  obtain ⟨hE, hb, hnm⟩ := hR
  obtain ⟨M4, K45, hp, hzp, c8⟩ := hE.M4
  have hpM := K_lt2 K45 hp (by omega)
  have hE1 := hE.at hpM
  have hcN : nN T ≤ 16 := hb.1.2.2.1
  have h0 : up2 I 80 14 (nI (p + 1)) 104 1 = nI (nN T) := by rw [up2_o (by decide)]; exact hb.1.1 1 (by decide)
  have e9 : up2 I 80 14 (nI (p + 1)) 87 = I 87 := up2_o (by decide)
  have elk : lkW wd (up2 I 80 14 (nI (p + 1)) 87) (nN T) (p + 1) = lkT wd T 1 (p + 1) := by rw [e9]; exact lkW_ext (fun k hk => hb.2.1 1 (by decide) k hk)
  have f1 : FRm z I (up2 I 80 14 (nI (p + 1))) := FRm.at (by decide) (by decide)
  have hpl : pL K p = sqK K [28, 3, 28, 4] (p + 1) (undL K) := by rw [pL, if_neg (by omega), if_pos hK, sqK, if_pos hK]
  have dead : ∀ (e : Nat) (I5 : MI) (v1 v2 v3 v4 : Int32), rD M e I I5 → I5 104 1 = nI (nN T) → pL K p = (false, e) → VG Γ 0 0 107 [some (.ref 80), some (.int v1), some (.int v2), some (.int v3), some (.int v4)] [] I5 J P (Fnl Γ (Qv Q)) := fun e I5 v1 v2 v3 v4 b5 c5 s5 => tl_readCord hP hcN c5 (fun _ => hQ0 _ _ s5 b5) (fun _ => hQ0 _ _ s5 (((((b5.up (by omega)).up (by omega)).up (by omega)).up (by omega)).up (by omega))) h
  have cnt : ∀ I5, FRm z I I5 → ∀ v, up2 I5 80 16 v 104 1 = nI (nN T) := fun I5 f v => by rw [up2_o (by decide)]; exact (f 104 1 (by omega) (by omega) (by omega)).trans (hb.1.1 1 (by decide))
  have fin : ∀ (I5 : MI) (q : Nat) (v2 v3 v4 : Int32) (y : Option (Nat × Nat)), pL K p = sqK K [34] q rtL → K (p + 1) = 28 → p < q → q ≤ M → rL K wd V M T I5 q z y → FRm z I I5 → y = x.or (lerr K V wd T p) → v2 = lkT wd T 0 (p + 3) → v3 = abT K wd T p → v4 = tdT K V p → VG Γ 0 0 107 [some (.ref 80), some (.int (nI (p + 1))), some (.int v2), some (.int v3), some (.int v4)] [] I5 J P (Fnl Γ (Qv Q)) := by
    intro I5 q v2 v3 v4 y s1 s2 s3 s4 r5 f5 ey e2 e3 e4
    subst ey
    have c5 : I5 104 1 = nI (nN T) := (f5 104 1 (by omega) (by omega) (by omega)).trans (hb.1.1 1 (by decide))
    refine tl_readCord hP hcN c5 (fun e6 => ?_) (fun n6 => ?_) h
    · have hT : lsT K V wd ca T p = T := by rw [lsT, if_neg (show ¬ K p = 0 by omega), if_pos hK, if_pos e6]
      exact hQ1 _ q s1 s2 s3 s4 (by rw [hT]; exact r5) f5.l f5.o
    · have hT : lsT K V wd ca T p = (ctT (setRow (setRow (setRow (setRow T 12 (upd (T 12) (nN T) (nI (p + 1)))) 2 (upd (T 2) (nN T) v2)) 3 (upd (T 3) (nN T) v3)) 4 (upd (T 4) (nN T) v4)) 1 (nN T + 1)) := by rw [lsT, if_neg (show ¬ K p = 0 by omega), if_pos hK, if_neg (by omega), e2, e3, e4]
      have hc : v3 = -1 ∨ ∃ i, i < nN T ∧ v3 = nI i := by
        rw [e3, abT]
        by_cases k5 : K (p + 5) = 5
        · rw [if_pos k5]; exact Or.inl rfl
        · rw [if_neg k5]; exact lkT_in (wd := wd) (T := T) (i := 1) (t := p + 5)
      refine hQ1 _ q s1 s2 s3 s4 (r5.set hV (fun a a1 a2 => by rw [up2_o (by omega), up2_o (by omega), up2_o (by omega), up2_o (by omega), up2_o (by omega)]) (by rw [up2_n (by decide), up2_o (by decide), up2_o (by decide), up2_o (by decide), up2_o (by decide)]) (by rw [hT]; exact bkw_N r5.2.1 n6 hc) (lsT_nm hnm ⟨hb.1.2.1, hb.1.2.2.1, hb.1.2.2.2.1, hb.1.2.2.2.2.1⟩ M4 (by omega) (by omega) s2)) (((((f5.l.tr (FRl.up (by omega))).tr (FRl.up (by omega))).tr (FRl.up (by omega))).tr (FRl.up (by omega))).tr (FRl.up (by omega))) (f5.o.tr (z1 := z) ⟨fun j _ => by rw [up2_o (by decide), up2_o (by decide), up2_o (by decide), up2_o (by decide), up2_o (by decide)], ?_⟩ (Nat.le_refl _))
      have w : ∀ j, j ≠ 1 → up2 (up2 (up2 (up2 (up2 I5 87 (nN T) (nI (p + 1))) 106 (nN T) v2) 107 (nN T) v3) 108 (nN T) v4) 104 1 (nI (nN T + 1)) 104 j = I5 104 j := fun j hj => by rw [up2_n hj, up2_o (by decide), up2_o (by decide), up2_o (by decide), up2_o (by decide)]
      have w2 : ∀ a, 112 ≤ a → up2 (up2 (up2 (up2 (up2 I5 87 (nN T) (nI (p + 1))) 106 (nN T) v2) 107 (nN T) v3) 108 (nN T) v4) 104 1 (nI (nN T + 1)) a = I5 a := fun a ha => by rw [up2_o (by omega), up2_o (by omega), up2_o (by omega), up2_o (by omega), up2_o (by omega)]
      refine ⟨fun n _ => ⟨congrFun (w2 112 (by decide)) n, congrFun (w2 113 (by decide)) n, congrFun (w2 114 (by decide)) n⟩, ?_, ?_, ?_⟩
      · show ix (I5 104 1) ≤ ix (up2 _ 104 1 _ 104 1)
        rw [up2_s, c5, ix_n (by omega), ix_n (by omega)]; exact Nat.le_succ _
      · show ix (I5 104 2) ≤ ix (up2 _ 104 1 _ 104 2)
        rw [w 2 (by decide)]; exact Nat.le_refl _
      · show ix (I5 104 3) ≤ ix (up2 _ 104 1 _ 104 3)
        rw [w 3 (by decide)]; exact Nat.le_refl _
  refine g_aload_0 h dX12_readCord_0 ?_
  refine g_dup h dX12_readCord_1 rfl ?_
  refine g_getI h fl_X12_118 dX12_readCord_2 rfl rfl ?_
  refine g_iconst h dX12_readCord_5 (v := nI 1) rfl ?_
  refine g_iadd h dX12_readCord_6 ?_
  refine g_putI h fp_X12_118 dX12_readCord_7 rfl rfl ?_
  rw [show I 80 14 + nI 1 = nI (p + 1) by rw [hE.2.1.1]; exact nI_1 p]
  refine g_aload_0 h dX12_readCord_10 ?_
  refine g_aload_0 h dX12_readCord_11 ?_
  refine g_getC h fl_X12_97 dX12_readCord_12 rfl rfl ?_
  refine g_aload_0 h dX12_readCord_15 ?_
  refine g_getP h fl_X12_91 dX12_readCord_16 rfl rfl (by assumption) ?_
  refine g_getI h fl_X12_161 dX12_readCord_19 rfl rfl ?_
  rw [h0]
  refine g_bipush h dX12_readCord_22 (v := nI 16) rfl ?_
  refine g_cVi3 h rok0 mi_X12_fresh dX12_readCord_24 ml_X12_233 rfl rfl rfl (Nat.le_of_ble_eq_true rfl) (Nat.le_of_ble_eq_true rfl) (sp_fresh rfl (by decide) hcN (by decide) (by decide) hE1 (by intro k hk; rw [e9, hb.2.1 1 (by decide) k hk]; exact hnm 1 (by decide) k hk) (fun q1 I2 f2 e2 => ?_) (fun q1 => ?_))
  · have g2 := f1.tr f2 (Nat.le_refl _)
    have m2 := e2.M4.2.2.1
    rw [elk] at e2
    refine g_istore_1 h dX12_readCord_27 (by decide) rfl ?_
    refine g_aload_0 h dX12_readCord_28 ?_
    refine g_iconst h dX12_readCord_29 (v := nI 2) rfl ?_
    refine g_iconst h dX12_readCord_30 (v := nI 3) rfl ?_
    refine g_cVv2 h rok0 mi_X12_take dX12_readCord_31 ml_X12_206 rfl rfl rfl (Nat.le_of_ble_eq_true rfl) (Nat.le_of_ble_eq_true rfl) (sp_take2 (k := 3) (by decide) e2.1 e2.2.1 e2.2.2.1 (fun q2 => ?_) (fun q2 => ?_))
    · have p2M := K_lt K45 m2 q2 (by decide)
      have e3 := e2.at p2M
      have g3 := g2.tr (FRm.at (k := 14) (v := nI (p + 1 + 1 + 1)) (by decide) (by decide)) (Nat.le_refl _)
      have r3 := hR0.fr e3 g3
      refine g_aload_0 h dX12_readCord_34 ?_
      refine g_cVi0 h rok0 mi_X12_knownColour dX12_readCord_35 ml_X12_239 rfl rfl rfl (Nat.le_of_ble_eq_true rfl) (Nat.le_of_ble_eq_true rfl) (sp_knColour hP r3 (fun q3 I4 f4 r4 => ?_) (fun q3 => ?_))
      · have g4 := g3.tr f4 (Nat.le_refl _)
        have m4 := r4.1.M4.2.2.1
        refine g_istore_2 h dX12_readCord_38 (by decide) rfl ?_
        refine g_aload_0 h dX12_readCord_39 ?_
        refine g_iconst h dX12_readCord_40 (v := nI 2) rfl ?_
        refine g_iconst h dX12_readCord_41 (v := nI 4) rfl ?_
        refine g_cVv2 h rok0 mi_X12_take dX12_readCord_42 ml_X12_206 rfl rfl rfl (Nat.le_of_ble_eq_true rfl) (Nat.le_of_ble_eq_true rfl) (sp_take2 (k := 4) (by decide) r4.1.1 r4.1.2.1 r4.1.2.2.1 (fun q4 => ?_) (fun q4 => ?_))
        · have p4M := K_lt K45 m4 q4 (by decide)
          have e5 := r4.1.at p4M
          have g5 := g4.tr (FRm.at (k := 14) (v := nI (p + 1 + 1 + 1 + 1 + 1)) (by decide) (by decide)) (Nat.le_refl _)
          have r5 := r4.fr e5 (FRm.at (by decide) (by decide))
          have m5 := r5.1.M4.2.2.1
          refine g_iconst h dX12_readCord_45 (v := (-1)) rfl ?_
          refine g_istore_3 h dX12_readCord_46 (by decide) rfl ?_
          refine g_aload_0 h dX12_readCord_47 ?_
          refine g_iconst h dX12_readCord_48 (v := nI 2) rfl ?_
          refine g_iconst h dX12_readCord_49 (v := nI 5) rfl ?_
          refine g_cVi2 h rok0 mi_X12_is dX12_readCord_50 ml_X12_125 rfl rfl rfl (Nat.le_of_ble_eq_true rfl) (Nat.le_of_ble_eq_true rfl) (sp_is2 (k := 5) (by decide) r5.1.1 r5.1.2.1 r5.1.2.2.1 (fun k5 => ?_) (fun k5 => ?_))
          · have p5M := K_lt K45 m5 k5 (by decide)
            refine g_if_eq h 69 dX12_readCord_53 rfl (fun c => absurd c (by decide)) (fun _ => ?_)
            refine g_aload_0 h dX12_readCord_56 ?_
            refine g_dup h dX12_readCord_57 rfl ?_
            refine g_getI h fl_X12_118 dX12_readCord_58 rfl rfl ?_
            refine g_iconst h dX12_readCord_61 (v := nI 1) rfl ?_
            refine g_iadd h dX12_readCord_62 ?_
            refine g_putI h fp_X12_118 dX12_readCord_63 rfl rfl ?_
            rw [show up2 I4 80 14 (nI (p + 1 + 1 + 1 + 1 + 1)) 80 14 + nI 1 = nI (p + 6) by rw [up2_s]; exact nI_1 (p + 5)]
            have k5 : K (p + 5) = 5 := k5
            have f5 : FRm z I _ := g5.tr (FRm.at (k := 14) (v := nI (p + 6)) (by decide) (by decide)) (Nat.le_refl _)
            have r5 : rL K wd V M T _ (p + 6) z _ := r5.fr (r5.1.at p5M) (FRm.at (by decide) (by decide))
            generalize up2 (up2 I4 80 14 (nI (p + 1 + 1 + 1 + 1 + 1))) 80 14 (nI (p + 6)) = I5 at f5 r5 ⊢
            refine g_goto h 74 dX12_readCord_66 rfl ?_
            refine g_iconst h dX12_readCord_74 (v := nI 0) rfl ?_
            refine g_istore_4 h dX12_readCord_75 (by decide) rfl ?_
            refine g_aload_0 h dX12_readCord_77 ?_
            refine g_iconst h dX12_readCord_78 (v := nI 2) rfl ?_
            refine g_bipush h dX12_readCord_79 (v := nI 6) rfl ?_
            refine g_cVi2 h rok0 mi_X12_is dX12_readCord_81 ml_X12_125 rfl rfl rfl (Nat.le_of_ble_eq_true rfl) (Nat.le_of_ble_eq_true rfl) (sp_is2 (k := 6) (by decide) r5.1.1 r5.1.2.1 r5.1.2.2.1 (fun k6 => ?_) (fun k6 => ?_))
            · have p6M : p + 6 < M := K_lt K45 r5.1.2.2.1 k6 (by decide)
              have r6 := r5.1.at p6M
              have f6 := f5.tr (FRm.at (k := 14) (v := nI (p + 6 + 1)) (by decide) (by decide)) (Nat.le_refl _)
              refine g_if_eq h 107 dX12_readCord_84 rfl (fun c => absurd c (by decide)) (fun _ => ?_)
              refine g_aload_0 h dX12_readCord_87 ?_
              refine g_dup h dX12_readCord_88 rfl ?_
              refine g_getI h fl_X12_118 dX12_readCord_89 rfl rfl ?_
              refine g_iconst h dX12_readCord_92 (v := nI 1) rfl ?_
              refine g_iadd h dX12_readCord_93 ?_
              refine g_putI h fp_X12_118 dX12_readCord_94 rfl rfl ?_
              rw [show I5 80 14 + nI 1 = nI (p + 6 + 1) by rw [r5.1.2.1.1]; exact nI_1 (p + 6)]
              refine g_aload_0 h dX12_readCord_97 ?_
              refine g_iconst h dX12_readCord_98 (v := nI 0) rfl ?_
              refine g_sipush h dX12_readCord_99 (v := nI 9999) rfl ?_
              refine g_cVi2 h rok0 mi_X12_number dX12_readCord_102 ml_X12_181 rfl rfl rfl (Nat.le_of_ble_eq_true rfl) (Nat.le_of_ble_eq_true rfl) (sp_numE r6 (fun q7 I7 f7 e7 => ?_) (fun q7 => ?_))
              · refine g_istore_4 h dX12_readCord_105 (by decide) rfl ?_
                have f8 := f6.tr f7 (Nat.le_refl _)
                exact fin _ (p + 8) _ _ _ _ (by rw [hpl]; simp only [sqK, if_pos q1, if_pos q2, if_pos q3, if_pos q4, undL]; rw [if_pos (show K (p + 5) = 5 ∨ K (p + 5) = 28 by omega), couL]; rw [if_pos k6]; simp only [sqK, if_pos k6]; rw [if_pos q7]) q1 (by omega) e7.M4.2.2.1 (r5.fr e7 (FRm.tr (FRm.at (by decide) (by decide)) f7 (Nat.le_refl _))) f8 (by rw [lerr, if_neg (show ¬ K p = 0 by omega), if_pos hK]; simp only [show p + 1 + 1 + 1 + 1 + 1 = p + 5 from rfl, show p + 1 + 1 + 1 = p + 3 from rfl, show p + 6 + 1 = p + 7 from rfl]; simp only [er_or, er_nil, Option.or_none, Option.or_assoc]; simp [k5, k6]) rfl (by rw [abT, if_pos k5]) (by rw [tdT, if_pos k6])
              · refine g_istore_4 h dX12_readCord_105 (by decide) rfl ?_
                exact dead (p + 7) _ _ _ _ _ (rD.new f6.l (by omega)) (cnt _ f6 _) (by rw [hpl]; simp only [sqK, if_pos q1, if_pos q2, if_pos q3, if_pos q4, undL]; rw [if_pos (show K (p + 5) = 5 ∨ K (p + 5) = 28 by omega), couL]; rw [if_pos k6]; simp only [sqK, if_pos k6]; rw [if_neg q7])
            · refine g_if_eq h 107 dX12_readCord_84 rfl (fun _ => ?_) (fun c => absurd c (by decide))
              exact fin _ (p + 6) _ _ _ _ (by rw [hpl]; simp only [sqK, if_pos q1, if_pos q2, if_pos q3, if_pos q4, undL]; rw [if_pos (show K (p + 5) = 5 ∨ K (p + 5) = 28 by omega), couL]; rw [if_neg k6]; rfl) q1 (by omega) r5.1.2.2.1 r5 f5 (by rw [lerr, if_neg (show ¬ K p = 0 by omega), if_pos hK]; simp only [show p + 1 + 1 + 1 + 1 + 1 = p + 5 from rfl, show p + 1 + 1 + 1 = p + 3 from rfl, show p + 6 + 1 = p + 7 from rfl]; simp only [er_or, er_nil, Option.or_none, Option.or_assoc]; simp [k5, k6]) rfl (by rw [abT, if_pos k5]) (by rw [tdT, if_neg k6])
          · have k5e : ¬ K (p + 5) = 5 := k5
            refine g_if_eq h 69 dX12_readCord_53 rfl (fun _ => ?_) (fun c => absurd c (by decide))
            refine g_aload_0 h dX12_readCord_69 ?_
            refine g_cVi0 h rok0 mi_X12_readAbove dX12_readCord_70 ml_X12_242 rfl rfl rfl (Nat.le_of_ble_eq_true rfl) (Nat.le_of_ble_eq_true rfl) (sp_readAbove hP r5 (fun k5 I5 f5 r5 => ?_) (fun k5 => ?_))
            · have k5 : K (p + 5) = 28 := k5
              have f5 := g5.tr f5 (Nat.le_refl _)
              have r5 : rL K wd V M T _ (p + 6) z _ := r5
              refine g_istore_3 h dX12_readCord_73 (by decide) rfl ?_
              refine g_iconst h dX12_readCord_74 (v := nI 0) rfl ?_
              refine g_istore_4 h dX12_readCord_75 (by decide) rfl ?_
              refine g_aload_0 h dX12_readCord_77 ?_
              refine g_iconst h dX12_readCord_78 (v := nI 2) rfl ?_
              refine g_bipush h dX12_readCord_79 (v := nI 6) rfl ?_
              refine g_cVi2 h rok0 mi_X12_is dX12_readCord_81 ml_X12_125 rfl rfl rfl (Nat.le_of_ble_eq_true rfl) (Nat.le_of_ble_eq_true rfl) (sp_is2 (k := 6) (by decide) r5.1.1 r5.1.2.1 r5.1.2.2.1 (fun k6 => ?_) (fun k6 => ?_))
              · have p6M : p + 6 < M := K_lt K45 r5.1.2.2.1 k6 (by decide)
                have r6 := r5.1.at p6M
                have f6 := f5.tr (FRm.at (k := 14) (v := nI (p + 6 + 1)) (by decide) (by decide)) (Nat.le_refl _)
                refine g_if_eq h 107 dX12_readCord_84 rfl (fun c => absurd c (by decide)) (fun _ => ?_)
                refine g_aload_0 h dX12_readCord_87 ?_
                refine g_dup h dX12_readCord_88 rfl ?_
                refine g_getI h fl_X12_118 dX12_readCord_89 rfl rfl ?_
                refine g_iconst h dX12_readCord_92 (v := nI 1) rfl ?_
                refine g_iadd h dX12_readCord_93 ?_
                refine g_putI h fp_X12_118 dX12_readCord_94 rfl rfl ?_
                rw [show I5 80 14 + nI 1 = nI (p + 6 + 1) by rw [r5.1.2.1.1]; exact nI_1 (p + 6)]
                refine g_aload_0 h dX12_readCord_97 ?_
                refine g_iconst h dX12_readCord_98 (v := nI 0) rfl ?_
                refine g_sipush h dX12_readCord_99 (v := nI 9999) rfl ?_
                refine g_cVi2 h rok0 mi_X12_number dX12_readCord_102 ml_X12_181 rfl rfl rfl (Nat.le_of_ble_eq_true rfl) (Nat.le_of_ble_eq_true rfl) (sp_numE r6 (fun q7 I7 f7 e7 => ?_) (fun q7 => ?_))
                · refine g_istore_4 h dX12_readCord_105 (by decide) rfl ?_
                  have f8 := f6.tr f7 (Nat.le_refl _)
                  exact fin _ (p + 8) _ _ _ _ (by rw [hpl]; simp only [sqK, if_pos q1, if_pos q2, if_pos q3, if_pos q4, undL]; rw [if_pos (show K (p + 5) = 5 ∨ K (p + 5) = 28 by omega), couL]; rw [if_pos k6]; simp only [sqK, if_pos k6]; rw [if_pos q7]) q1 (by omega) e7.M4.2.2.1 (r5.fr e7 (FRm.tr (FRm.at (by decide) (by decide)) f7 (Nat.le_refl _))) f8 (by rw [lerr, if_neg (show ¬ K p = 0 by omega), if_pos hK]; simp only [show p + 1 + 1 + 1 + 1 + 1 = p + 5 from rfl, show p + 1 + 1 + 1 = p + 3 from rfl, show p + 6 + 1 = p + 7 from rfl]; simp only [er_or, er_nil, Option.or_none, Option.or_assoc]; simp [k5, k6]) rfl (by rw [abT, if_neg (show ¬ K (p + 5) = 5 by omega)]) (by rw [tdT, if_pos k6])
                · refine g_istore_4 h dX12_readCord_105 (by decide) rfl ?_
                  exact dead (p + 7) _ _ _ _ _ (rD.new f6.l (by omega)) (cnt _ f6 _) (by rw [hpl]; simp only [sqK, if_pos q1, if_pos q2, if_pos q3, if_pos q4, undL]; rw [if_pos (show K (p + 5) = 5 ∨ K (p + 5) = 28 by omega), couL]; rw [if_pos k6]; simp only [sqK, if_pos k6]; rw [if_neg q7])
              · refine g_if_eq h 107 dX12_readCord_84 rfl (fun _ => ?_) (fun c => absurd c (by decide))
                exact fin _ (p + 6) _ _ _ _ (by rw [hpl]; simp only [sqK, if_pos q1, if_pos q2, if_pos q3, if_pos q4, undL]; rw [if_pos (show K (p + 5) = 5 ∨ K (p + 5) = 28 by omega), couL]; rw [if_neg k6]; rfl) q1 (by omega) r5.1.2.2.1 r5 f5 (by rw [lerr, if_neg (show ¬ K p = 0 by omega), if_pos hK]; simp only [show p + 1 + 1 + 1 + 1 + 1 = p + 5 from rfl, show p + 1 + 1 + 1 = p + 3 from rfl, show p + 6 + 1 = p + 7 from rfl]; simp only [er_or, er_nil, Option.or_none, Option.or_assoc]; simp [k5, k6]) rfl (by rw [abT, if_neg (show ¬ K (p + 5) = 5 by omega)]) (by rw [tdT, if_neg k6])
            · have b9 : rD M (p + 5) I (up2 _ 80 16 (nI (p + 5))) := rD.new g5.l (by omega)
              refine g_istore_3 h dX12_readCord_73 (by decide) rfl ?_
              refine g_iconst h dX12_readCord_74 (v := nI 0) rfl ?_
              refine g_istore_4 h dX12_readCord_75 (by decide) rfl ?_
              refine g_aload_0 h dX12_readCord_77 ?_
              refine g_iconst h dX12_readCord_78 (v := nI 2) rfl ?_
              refine g_bipush h dX12_readCord_79 (v := nI 6) rfl ?_
              refine g_cVi2 h rok0 mi_X12_is dX12_readCord_81 ml_X12_125 rfl rfl rfl (Nat.le_of_ble_eq_true rfl) (Nat.le_of_ble_eq_true rfl) (sp_is_dd (f := p + 5) (by omega) b9.2.1 ?_)
              refine g_if_eq h 107 dX12_readCord_84 rfl (fun _ => ?_) (fun c => absurd c (by decide))
              exact dead (p + 5) _ _ _ _ _ b9 (cnt _ g5 _) (by rw [hpl]; simp only [sqK, if_pos q1, if_pos q2, if_pos q3, if_pos q4, undL]; rw [if_neg (show ¬ (K (p + 5) = 5 ∨ K (p + 5) = 28) from fun w => w.elim (fun w => k5e w) (fun w => k5 w))])
        · have b9 : rD M (p + 4) I (up2 _ 80 16 (nI (p + 4))) := rD.new g4.l (by omega)
          refine g_iconst h dX12_readCord_45 (v := (-1)) rfl ?_
          refine g_istore_3 h dX12_readCord_46 (by decide) rfl ?_
          refine g_aload_0 h dX12_readCord_47 ?_
          refine g_iconst h dX12_readCord_48 (v := nI 2) rfl ?_
          refine g_iconst h dX12_readCord_49 (v := nI 5) rfl ?_
          refine g_cVi2 h rok0 mi_X12_is dX12_readCord_50 ml_X12_125 rfl rfl rfl (Nat.le_of_ble_eq_true rfl) (Nat.le_of_ble_eq_true rfl) (sp_is_dd (f := p + 4) (by omega) b9.2.1 ?_)
          refine g_if_eq h 69 dX12_readCord_53 rfl (fun _ => ?_) (fun c => absurd c (by decide))
          refine g_aload_0 h dX12_readCord_69 ?_
          refine g_cVi0 h rok0 mi_X12_readAbove dX12_readCord_70 ml_X12_242 rfl rfl rfl (Nat.le_of_ble_eq_true rfl) (Nat.le_of_ble_eq_true rfl) (sp_readAbove_dd hP (f := p + 4) (by omega) b9.2.1 ?_)
          refine g_istore_3 h dX12_readCord_73 (by decide) rfl ?_
          refine g_iconst h dX12_readCord_74 (v := nI 0) rfl ?_
          refine g_istore_4 h dX12_readCord_75 (by decide) rfl ?_
          refine g_aload_0 h dX12_readCord_77 ?_
          refine g_iconst h dX12_readCord_78 (v := nI 2) rfl ?_
          refine g_bipush h dX12_readCord_79 (v := nI 6) rfl ?_
          refine g_cVi2 h rok0 mi_X12_is dX12_readCord_81 ml_X12_125 rfl rfl rfl (Nat.le_of_ble_eq_true rfl) (Nat.le_of_ble_eq_true rfl) (sp_is_dd (f := p + 4) (by omega) b9.2.1 ?_)
          refine g_if_eq h 107 dX12_readCord_84 rfl (fun _ => ?_) (fun c => absurd c (by decide))
          exact dead (p + 4) _ _ _ _ _ b9 (cnt _ g4 _) (by rw [hpl]; simp only [sqK, if_pos q1, if_pos q2, if_pos q3, if_neg q4])
      · have b9 : rD M (p + 3) I (up2 _ 80 16 (nI (p + 3))) := rD.new g3.l (by omega)
        refine g_istore_2 h dX12_readCord_38 (by decide) rfl ?_
        refine g_aload_0 h dX12_readCord_39 ?_
        refine g_iconst h dX12_readCord_40 (v := nI 2) rfl ?_
        refine g_iconst h dX12_readCord_41 (v := nI 4) rfl ?_
        refine g_cVv2 h rok0 mi_X12_take dX12_readCord_42 ml_X12_206 rfl rfl rfl (Nat.le_of_ble_eq_true rfl) (Nat.le_of_ble_eq_true rfl) (sp_take_dd (f := p + 3) (by omega) b9.2.1 ?_)
        refine g_iconst h dX12_readCord_45 (v := (-1)) rfl ?_
        refine g_istore_3 h dX12_readCord_46 (by decide) rfl ?_
        refine g_aload_0 h dX12_readCord_47 ?_
        refine g_iconst h dX12_readCord_48 (v := nI 2) rfl ?_
        refine g_iconst h dX12_readCord_49 (v := nI 5) rfl ?_
        refine g_cVi2 h rok0 mi_X12_is dX12_readCord_50 ml_X12_125 rfl rfl rfl (Nat.le_of_ble_eq_true rfl) (Nat.le_of_ble_eq_true rfl) (sp_is_dd (f := p + 3) (by omega) b9.2.1 ?_)
        refine g_if_eq h 69 dX12_readCord_53 rfl (fun _ => ?_) (fun c => absurd c (by decide))
        refine g_aload_0 h dX12_readCord_69 ?_
        refine g_cVi0 h rok0 mi_X12_readAbove dX12_readCord_70 ml_X12_242 rfl rfl rfl (Nat.le_of_ble_eq_true rfl) (Nat.le_of_ble_eq_true rfl) (sp_readAbove_dd hP (f := p + 3) (by omega) b9.2.1 ?_)
        refine g_istore_3 h dX12_readCord_73 (by decide) rfl ?_
        refine g_iconst h dX12_readCord_74 (v := nI 0) rfl ?_
        refine g_istore_4 h dX12_readCord_75 (by decide) rfl ?_
        refine g_aload_0 h dX12_readCord_77 ?_
        refine g_iconst h dX12_readCord_78 (v := nI 2) rfl ?_
        refine g_bipush h dX12_readCord_79 (v := nI 6) rfl ?_
        refine g_cVi2 h rok0 mi_X12_is dX12_readCord_81 ml_X12_125 rfl rfl rfl (Nat.le_of_ble_eq_true rfl) (Nat.le_of_ble_eq_true rfl) (sp_is_dd (f := p + 3) (by omega) b9.2.1 ?_)
        refine g_if_eq h 107 dX12_readCord_84 rfl (fun _ => ?_) (fun c => absurd c (by decide))
        exact dead (p + 3) _ _ _ _ _ b9 (cnt _ g3 _) (by rw [hpl]; simp only [sqK, if_pos q1, if_pos q2, if_neg q3])
    · have b9 : rD M (p + 2) I (up2 _ 80 16 (nI (p + 2))) := rD.new g2.l (by omega)
      refine g_aload_0 h dX12_readCord_34 ?_
      refine g_cVi0 h rok0 mi_X12_knownColour dX12_readCord_35 ml_X12_239 rfl rfl rfl (Nat.le_of_ble_eq_true rfl) (Nat.le_of_ble_eq_true rfl) (sp_knColour_dd hP (f := p + 2) (by omega) b9.2.1 ?_)
      refine g_istore_2 h dX12_readCord_38 (by decide) rfl ?_
      refine g_aload_0 h dX12_readCord_39 ?_
      refine g_iconst h dX12_readCord_40 (v := nI 2) rfl ?_
      refine g_iconst h dX12_readCord_41 (v := nI 4) rfl ?_
      refine g_cVv2 h rok0 mi_X12_take dX12_readCord_42 ml_X12_206 rfl rfl rfl (Nat.le_of_ble_eq_true rfl) (Nat.le_of_ble_eq_true rfl) (sp_take_dd (f := p + 2) (by omega) b9.2.1 ?_)
      refine g_iconst h dX12_readCord_45 (v := (-1)) rfl ?_
      refine g_istore_3 h dX12_readCord_46 (by decide) rfl ?_
      refine g_aload_0 h dX12_readCord_47 ?_
      refine g_iconst h dX12_readCord_48 (v := nI 2) rfl ?_
      refine g_iconst h dX12_readCord_49 (v := nI 5) rfl ?_
      refine g_cVi2 h rok0 mi_X12_is dX12_readCord_50 ml_X12_125 rfl rfl rfl (Nat.le_of_ble_eq_true rfl) (Nat.le_of_ble_eq_true rfl) (sp_is_dd (f := p + 2) (by omega) b9.2.1 ?_)
      refine g_if_eq h 69 dX12_readCord_53 rfl (fun _ => ?_) (fun c => absurd c (by decide))
      refine g_aload_0 h dX12_readCord_69 ?_
      refine g_cVi0 h rok0 mi_X12_readAbove dX12_readCord_70 ml_X12_242 rfl rfl rfl (Nat.le_of_ble_eq_true rfl) (Nat.le_of_ble_eq_true rfl) (sp_readAbove_dd hP (f := p + 2) (by omega) b9.2.1 ?_)
      refine g_istore_3 h dX12_readCord_73 (by decide) rfl ?_
      refine g_iconst h dX12_readCord_74 (v := nI 0) rfl ?_
      refine g_istore_4 h dX12_readCord_75 (by decide) rfl ?_
      refine g_aload_0 h dX12_readCord_77 ?_
      refine g_iconst h dX12_readCord_78 (v := nI 2) rfl ?_
      refine g_bipush h dX12_readCord_79 (v := nI 6) rfl ?_
      refine g_cVi2 h rok0 mi_X12_is dX12_readCord_81 ml_X12_125 rfl rfl rfl (Nat.le_of_ble_eq_true rfl) (Nat.le_of_ble_eq_true rfl) (sp_is_dd (f := p + 2) (by omega) b9.2.1 ?_)
      refine g_if_eq h 107 dX12_readCord_84 rfl (fun _ => ?_) (fun c => absurd c (by decide))
      exact dead (p + 2) _ _ _ _ _ b9 (cnt _ g2 _) (by rw [hpl]; simp only [sqK, if_pos q1, if_neg q2])
  · have b9 : rD M (p + 1) I (up2 _ 80 16 (nI (p + 1))) := rD.new f1.l (by omega)
    refine g_istore_1 h dX12_readCord_27 (by decide) rfl ?_
    refine g_aload_0 h dX12_readCord_28 ?_
    refine g_iconst h dX12_readCord_29 (v := nI 2) rfl ?_
    refine g_iconst h dX12_readCord_30 (v := nI 3) rfl ?_
    refine g_cVv2 h rok0 mi_X12_take dX12_readCord_31 ml_X12_206 rfl rfl rfl (Nat.le_of_ble_eq_true rfl) (Nat.le_of_ble_eq_true rfl) (sp_take_dd (f := p + 1) (by omega) b9.2.1 ?_)
    refine g_aload_0 h dX12_readCord_34 ?_
    refine g_cVi0 h rok0 mi_X12_knownColour dX12_readCord_35 ml_X12_239 rfl rfl rfl (Nat.le_of_ble_eq_true rfl) (Nat.le_of_ble_eq_true rfl) (sp_knColour_dd hP (f := p + 1) (by omega) b9.2.1 ?_)
    refine g_istore_2 h dX12_readCord_38 (by decide) rfl ?_
    refine g_aload_0 h dX12_readCord_39 ?_
    refine g_iconst h dX12_readCord_40 (v := nI 2) rfl ?_
    refine g_iconst h dX12_readCord_41 (v := nI 4) rfl ?_
    refine g_cVv2 h rok0 mi_X12_take dX12_readCord_42 ml_X12_206 rfl rfl rfl (Nat.le_of_ble_eq_true rfl) (Nat.le_of_ble_eq_true rfl) (sp_take_dd (f := p + 1) (by omega) b9.2.1 ?_)
    refine g_iconst h dX12_readCord_45 (v := (-1)) rfl ?_
    refine g_istore_3 h dX12_readCord_46 (by decide) rfl ?_
    refine g_aload_0 h dX12_readCord_47 ?_
    refine g_iconst h dX12_readCord_48 (v := nI 2) rfl ?_
    refine g_iconst h dX12_readCord_49 (v := nI 5) rfl ?_
    refine g_cVi2 h rok0 mi_X12_is dX12_readCord_50 ml_X12_125 rfl rfl rfl (Nat.le_of_ble_eq_true rfl) (Nat.le_of_ble_eq_true rfl) (sp_is_dd (f := p + 1) (by omega) b9.2.1 ?_)
    refine g_if_eq h 69 dX12_readCord_53 rfl (fun _ => ?_) (fun c => absurd c (by decide))
    refine g_aload_0 h dX12_readCord_69 ?_
    refine g_cVi0 h rok0 mi_X12_readAbove dX12_readCord_70 ml_X12_242 rfl rfl rfl (Nat.le_of_ble_eq_true rfl) (Nat.le_of_ble_eq_true rfl) (sp_readAbove_dd hP (f := p + 1) (by omega) b9.2.1 ?_)
    refine g_istore_3 h dX12_readCord_73 (by decide) rfl ?_
    refine g_iconst h dX12_readCord_74 (v := nI 0) rfl ?_
    refine g_istore_4 h dX12_readCord_75 (by decide) rfl ?_
    refine g_aload_0 h dX12_readCord_77 ?_
    refine g_iconst h dX12_readCord_78 (v := nI 2) rfl ?_
    refine g_bipush h dX12_readCord_79 (v := nI 6) rfl ?_
    refine g_cVi2 h rok0 mi_X12_is dX12_readCord_81 ml_X12_125 rfl rfl rfl (Nat.le_of_ble_eq_true rfl) (Nat.le_of_ble_eq_true rfl) (sp_is_dd (f := p + 1) (by omega) b9.2.1 ?_)
    refine g_if_eq h 107 dX12_readCord_84 rfl (fun _ => ?_) (fun c => absurd c (by decide))
    exact dead (p + 1) _ _ _ _ _ b9 (cnt _ f1 _) (by rw [hpl]; simp only [sqK, if_neg q1])
