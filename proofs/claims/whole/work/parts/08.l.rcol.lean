/-! The reference's parser: colours, keepers -/
/-- what a line leaves of orders and nodes -/
def FRo (T : MI) (z : Nat) (I I' : MI) : Prop := (∀ j, j < 5 * nO T → I' 111 j = I 111 j) ∧ nvR z (nv I) (nv I')
theorem FRm.o {T I I' : MI} {z : Nat} (h : FRm z I I') : FRo T z I I' := ⟨fun j _ => h 111 j (by omega) (by omega) (by omega), h.R⟩
theorem FRo.tr {T I I1 I2 : MI} {z z1 : Nat} (h : FRo T z I I1) (h2 : FRo T z1 I1 I2) (hz : z ≤ z1) : FRo T z I I2 := ⟨fun j hj => (h2.1 j hj).trans (h.1 j hj), h.2.tr h2.2 hz⟩
theorem upd_s {f : Nat → Int32} {k : Nat} {v : Int32} : upd f k v k = v := by simp [upd]
theorem upd_n {f : Nat → Int32} {k j : Nat} {v : Int32} (h : j ≠ k) : upd f k v j = f j := by simp [upd, h]
theorem or_er {x A B C : Option (Nat × Nat)} : (x.or (A.or (B.or none))).or C = x.or (A.or (B.or (C.or none))) := by
  simp only [Option.or_none, Option.or_assoc]
theorem bkw_C {T I : MI} {a b : Int32} (h : bk T I) (hn : nC T < 6) : bk (ctT (setRow (setRow T 11 (upd (T 11) (nC T) a)) 1 (upd (T 1) (nC T) b)) 0 (nC T + 1)) (up2 (up2 (up2 I 86 (nC T) a) 105 (nC T) b) 104 0 (nI (nC T + 1))) := by
  obtain ⟨⟨h1, c0, c1, c2, c3, c4⟩, h3, h4, h5, h6, h7, h8⟩ := h
  have T0 : ∀ i, ctT (setRow (setRow T 11 (upd (T 11) (nC T) a)) 1 (upd (T 1) (nC T) b)) 0 (nC T + 1) 0 i = if i = 0 then nI (nC T + 1) else T 0 i := fun i => by simp [ctT, setRow, upd]
  have Tn : ∀ r, r ≠ 0 → r ≠ 1 → r ≠ 11 → ctT (setRow (setRow T 11 (upd (T 11) (nC T) a)) 1 (upd (T 1) (nC T) b)) 0 (nC T + 1) r = T r := fun r r0 r1 r2 => by simp [ctT, setRow, r0, r1, r2]
  have T1 : ctT (setRow (setRow T 11 (upd (T 11) (nC T) a)) 1 (upd (T 1) (nC T) b)) 0 (nC T + 1) 1 = upd (T 1) (nC T) b := by simp [ctT, setRow]
  have T11 : ctT (setRow (setRow T 11 (upd (T 11) (nC T) a)) 1 (upd (T 1) (nC T) b)) 0 (nC T + 1) 11 = upd (T 11) (nC T) a := by simp [ctT, setRow]
  generalize ctT (setRow (setRow T 11 (upd (T 11) (nC T) a)) 1 (upd (T 1) (nC T) b)) 0 (nC T + 1) = T' at T0 Tn T1 T11 ⊢
  have eC : nC T' = nC T + 1 := by unfold nC; rw [T0, if_pos rfl]; exact ix_n (show ix (T 0 0) + 1 < 2 ^ 31 by have : nC T = ix (T 0 0) := rfl; omega)
  have eN : nN T' = nN T := by unfold nN; rw [T0, if_neg (by decide)]
  have eT : nT T' = nT T := by unfold nT; rw [T0, if_neg (by decide)]
  have eK : nK T' = nK T := by unfold nK; rw [T0, if_neg (by decide)]
  have eO : nO T' = nO T := by unfold nO; rw [T0, if_neg (by decide)]
  refine ⟨⟨fun i hi => ?_, by omega, by omega, by omega, by omega, by omega⟩, fun i hi k hk => ?_, fun k hk => ?_, fun k hk => ?_, fun k hk => ?_, fun k hk => ?_, fun q hq j hj => ?_⟩
  · by_cases e : i = 0
    · subst e
      rw [up2_s, T0, if_pos rfl, ix_n (by omega)]
    · rw [up2_n e, up2_o (by decide), up2_o (by decide), T0, if_neg e]
      exact h1 i hi
  · rw [up2_o (by omega), up2_o (by omega)]
    by_cases e : i = 0
    · subst e
      rw [T11]
      have hk : k < nC T' := hk
      by_cases e2 : k = nC T
      · subst e2
        rw [up2_s, upd_s]
      · rw [up2_n e2, upd_n e2]
        exact h3 0 (by decide) k (by show k < nC T; omega)
    · rw [up2_o (by omega), Tn (11 + i) (by omega) (by omega) (by omega)]
      exact h3 i hi k (by rw [T0, if_neg e] at hk; exact hk)
  · rw [up2_o (by decide), T1]
    by_cases e2 : k = nC T
    · subst e2
      rw [up2_s, upd_s]
    · rw [up2_n e2, upd_n e2, up2_o (by decide)]
      exact h4 k (by omega)
  · rw [eN] at hk
    rw [Tn 2 (by decide) (by decide) (by decide), Tn 3 (by decide) (by decide) (by decide), Tn 4 (by decide) (by decide) (by decide)]
    simp only [up2_o (show (106 : Nat) ≠ 104 by decide), up2_o (show (106 : Nat) ≠ 105 by decide), up2_o (show (106 : Nat) ≠ 86 by decide), up2_o (show (107 : Nat) ≠ 104 by decide), up2_o (show (107 : Nat) ≠ 105 by decide), up2_o (show (107 : Nat) ≠ 86 by decide), up2_o (show (108 : Nat) ≠ 104 by decide), up2_o (show (108 : Nat) ≠ 105 by decide), up2_o (show (108 : Nat) ≠ 86 by decide)]
    exact h5 k hk
  · rw [eT] at hk
    rw [Tn 5 (by decide) (by decide) (by decide)]
    simp only [up2_o (show (109 : Nat) ≠ 104 by decide), up2_o (show (109 : Nat) ≠ 105 by decide), up2_o (show (109 : Nat) ≠ 86 by decide)]
    exact h6 k hk
  · rw [eK] at hk
    rw [Tn 6 (by decide) (by decide) (by decide), up2_o (by decide), up2_o (by decide), up2_o (by decide)]
    exact h7 k hk
  · rw [eO] at hq
    rw [Tn 7 (by decide) (by decide) (by decide), up2_o (by decide), up2_o (by decide), up2_o (by decide)]
    exact h8 q hq j hj
theorem bkw_K {T I : MI} {a b : Int32} (h : bk T I) (hn : nK T < 5) : bk (ctT (setRow (setRow T 14 (upd (T 14) (nK T) a)) 6 (upd (T 6) (nK T) b)) 3 (nK T + 1)) (up2 (up2 (up2 I 89 (nK T) a) 110 (nK T) b) 104 3 (nI (nK T + 1))) := by
  obtain ⟨⟨h1, c0, c1, c2, c3, c4⟩, h3, h4, h5, h6, h7, h8⟩ := h
  have T0 : ∀ i, ctT (setRow (setRow T 14 (upd (T 14) (nK T) a)) 6 (upd (T 6) (nK T) b)) 3 (nK T + 1) 0 i = if i = 3 then nI (nK T + 1) else T 0 i := fun i => by simp [ctT, setRow, upd]
  have Tn : ∀ r, r ≠ 0 → r ≠ 6 → r ≠ 14 → ctT (setRow (setRow T 14 (upd (T 14) (nK T) a)) 6 (upd (T 6) (nK T) b)) 3 (nK T + 1) r = T r := fun r r0 r1 r2 => by simp [ctT, setRow, r0, r1, r2]
  have T6 : ctT (setRow (setRow T 14 (upd (T 14) (nK T) a)) 6 (upd (T 6) (nK T) b)) 3 (nK T + 1) 6 = upd (T 6) (nK T) b := by simp [ctT, setRow]
  have T14 : ctT (setRow (setRow T 14 (upd (T 14) (nK T) a)) 6 (upd (T 6) (nK T) b)) 3 (nK T + 1) 14 = upd (T 14) (nK T) a := by simp [ctT, setRow]
  generalize ctT (setRow (setRow T 14 (upd (T 14) (nK T) a)) 6 (upd (T 6) (nK T) b)) 3 (nK T + 1) = T' at T0 Tn T6 T14 ⊢
  have eK : nK T' = nK T + 1 := by unfold nK; rw [T0, if_pos rfl]; exact ix_n (show ix (T 0 3) + 1 < 2 ^ 31 by have : nK T = ix (T 0 3) := rfl; omega)
  have eC : nC T' = nC T := by unfold nC; rw [T0, if_neg (by decide)]
  have eN : nN T' = nN T := by unfold nN; rw [T0, if_neg (by decide)]
  have eT : nT T' = nT T := by unfold nT; rw [T0, if_neg (by decide)]
  have eO : nO T' = nO T := by unfold nO; rw [T0, if_neg (by decide)]
  refine ⟨⟨fun i hi => ?_, by omega, by omega, by omega, by omega, by omega⟩, fun i hi k hk => ?_, fun k hk => ?_, fun k hk => ?_, fun k hk => ?_, fun k hk => ?_, fun q hq j hj => ?_⟩
  · by_cases e : i = 3
    · subst e
      rw [up2_s, T0, if_pos rfl, ix_n (by omega)]
    · rw [up2_n e, up2_o (by decide), up2_o (by decide), T0, if_neg e]
      exact h1 i hi
  · rw [up2_o (by omega), up2_o (by omega)]
    by_cases e : i = 3
    · subst e
      rw [T14]
      have hk : k < nK T' := hk
      by_cases e2 : k = nK T
      · subst e2
        rw [up2_s, upd_s]
      · rw [up2_n e2, upd_n e2]
        exact h3 3 (by decide) k (by show k < nK T; omega)
    · rw [up2_o (by omega), Tn (11 + i) (by omega) (by omega) (by omega)]
      exact h3 i hi k (by rw [T0, if_neg e] at hk; exact hk)
  · rw [eC] at hk
    rw [Tn 1 (by decide) (by decide) (by decide), up2_o (by decide), up2_o (by decide), up2_o (by decide)]
    exact h4 k hk
  · rw [eN] at hk
    rw [Tn 2 (by decide) (by decide) (by decide), Tn 3 (by decide) (by decide) (by decide), Tn 4 (by decide) (by decide) (by decide)]
    simp only [up2_o (show (106 : Nat) ≠ 104 by decide), up2_o (show (106 : Nat) ≠ 110 by decide), up2_o (show (106 : Nat) ≠ 89 by decide), up2_o (show (107 : Nat) ≠ 104 by decide), up2_o (show (107 : Nat) ≠ 110 by decide), up2_o (show (107 : Nat) ≠ 89 by decide), up2_o (show (108 : Nat) ≠ 104 by decide), up2_o (show (108 : Nat) ≠ 110 by decide), up2_o (show (108 : Nat) ≠ 89 by decide)]
    exact h5 k hk
  · rw [eT] at hk
    rw [Tn 5 (by decide) (by decide) (by decide)]
    simp only [up2_o (show (109 : Nat) ≠ 104 by decide), up2_o (show (109 : Nat) ≠ 110 by decide), up2_o (show (109 : Nat) ≠ 89 by decide)]
    exact h6 k hk
  · rw [up2_o (by decide), T6]
    by_cases e2 : k = nK T
    · subst e2
      rw [up2_s, upd_s]
    · rw [up2_n e2, upd_n e2, up2_o (by decide)]
      exact h7 k (by omega)
  · rw [eO] at hq
    rw [Tn 7 (by decide) (by decide) (by decide), up2_o (by decide), up2_o (by decide), up2_o (by decide)]
    exact h8 q hq j hj
set_option maxRecDepth 100000 in
set_option maxHeartbeats 4000000 in
theorem tl_readColour {Γ : Cx} {D n : Nat} {v1 v2 : Int32} {I : MI} {J : MJ} {P : MP} (hP : P 80 9 = some 104) (hn : n ≤ 6) (h0 : I 104 0 = nI n) {Q : MI → MJ → MP → Prop} (hQ6 : n = 6 → Q I J P) (hQ : n < 6 → Q (up2 (up2 (up2 I 86 n v1) 105 n v2) 104 0 (nI (n + 1))) J P) (h : Vc RX12 cX12_readColour 3 none (D) Γ) : VG Γ 0 0 42 [some (.ref 80), some (.int v1), some (.int v2)] [] I J P (Fnl Γ (Qv Q)) := by
  refine g_aload_0 h dX12_readColour_42 ?_
  refine g_getP h fl_X12_91 dX12_readColour_43 rfl rfl (by assumption) ?_
  refine g_getI h fl_X12_154 dX12_readColour_46 rfl rfl ?_
  rw [h0]
  refine g_bipush h dX12_readColour_49 (v := nI 6) rfl ?_
  refine g_icmp_ne h 55 dX12_readColour_51 rfl (fun c51 => ?_) (fun c51 => ?_)
  · refine g_aload_0 h dX12_readColour_55 ?_
    refine g_getC h fl_X12_94 dX12_readColour_56 rfl rfl ?_
    refine g_aload_0 h dX12_readColour_59 ?_
    refine g_getP h fl_X12_91 dX12_readColour_60 rfl rfl (by assumption) ?_
    refine g_getI h fl_X12_154 dX12_readColour_63 rfl rfl ?_
    refine g_iload_1 h dX12_readColour_66 ?_
    refine g_iast h n dX12_readColour_67 rfl h0 (by have : ¬ n = 6 := fun q => c51 (by rw [q]); omega) ?_
    refine g_aload_0 h dX12_readColour_68 ?_
    refine g_getP h fl_X12_91 dX12_readColour_69 rfl rfl (by assumption) ?_
    refine g_getC h fl_X12_236 dX12_readColour_72 rfl rfl ?_
    refine g_aload_0 h dX12_readColour_75 ?_
    refine g_getP h fl_X12_91 dX12_readColour_76 rfl rfl (by assumption) ?_
    refine g_getI h fl_X12_154 dX12_readColour_79 rfl rfl ?_
    refine g_iload_2 h dX12_readColour_82 ?_
    refine g_iast h n dX12_readColour_83 rfl (by rw [up2_o (by decide)]; exact h0) (by have : ¬ n = 6 := fun q => c51 (by rw [q]); omega) ?_
    refine g_aload_0 h dX12_readColour_84 ?_
    refine g_getP h fl_X12_91 dX12_readColour_85 rfl rfl (by assumption) ?_
    refine g_dup h dX12_readColour_88 rfl ?_
    refine g_getI h fl_X12_154 dX12_readColour_89 rfl rfl ?_
    refine g_iconst h dX12_readColour_92 (v := nI 1) rfl ?_
    refine g_iadd h dX12_readColour_93 ?_
    refine g_putI h fp_X12_154 dX12_readColour_94 rfl rfl ?_
    refine g_vret h dX12_readColour_97 ?_
    have n6 : ¬ n = 6 := fun q => c51 (by rw [q])
    rw [show up2 (up2 I 86 n v1) 105 n v2 104 0 + nI 1 = nI (n + 1) by rw [up2_o (by decide), up2_o (by decide), h0]; exact nI_1 n]
    exact hQ (by omega)
  · refine g_vret h dX12_readColour_54 ?_
    exact hQ6 (eqN (by first | exact c51 | exact Classical.not_not.mp c51) (by omega) (by decide))
set_option maxRecDepth 100000 in
set_option maxHeartbeats 4000000 in
theorem tl_readKeeper {Γ : Cx} {D n : Nat} {v1 v2 : Int32} {I : MI} {J : MJ} {P : MP} (hP : P 80 9 = some 104) (hn : n ≤ 5) (h0 : I 104 3 = nI n) {Q : MI → MJ → MP → Prop} (hQ6 : n = 5 → Q I J P) (hQ : n < 5 → Q (up2 (up2 (up2 I 89 n v1) 110 n v2) 104 3 (nI (n + 1))) J P) (h : Vc RX12 cX12_readKeeper 3 none (D) Γ) : VG Γ 0 0 42 [some (.ref 80), some (.int v1), some (.int v2)] [] I J P (Fnl Γ (Qv Q)) := by
  refine g_aload_0 h dX12_readKeeper_42 ?_
  refine g_getP h fl_X12_91 dX12_readKeeper_43 rfl rfl (by assumption) ?_
  refine g_getI h fl_X12_167 dX12_readKeeper_46 rfl rfl ?_
  rw [h0]
  refine g_iconst h dX12_readKeeper_49 (v := nI 5) rfl ?_
  refine g_icmp_ne h 54 dX12_readKeeper_50 rfl (fun c50 => ?_) (fun c50 => ?_)
  · refine g_aload_0 h dX12_readKeeper_54 ?_
    refine g_getC h fl_X12_103 dX12_readKeeper_55 rfl rfl ?_
    refine g_aload_0 h dX12_readKeeper_58 ?_
    refine g_getP h fl_X12_91 dX12_readKeeper_59 rfl rfl (by assumption) ?_
    refine g_getI h fl_X12_167 dX12_readKeeper_62 rfl rfl ?_
    refine g_iload_1 h dX12_readKeeper_65 ?_
    refine g_iast h n dX12_readKeeper_66 rfl h0 (by have : ¬ n = 5 := fun q => c50 (by rw [q]); omega) ?_
    refine g_aload_0 h dX12_readKeeper_67 ?_
    refine g_getP h fl_X12_91 dX12_readKeeper_68 rfl rfl (by assumption) ?_
    refine g_getC h fl_X12_263 dX12_readKeeper_71 rfl rfl ?_
    refine g_aload_0 h dX12_readKeeper_74 ?_
    refine g_getP h fl_X12_91 dX12_readKeeper_75 rfl rfl (by assumption) ?_
    refine g_getI h fl_X12_167 dX12_readKeeper_78 rfl rfl ?_
    refine g_iload_2 h dX12_readKeeper_81 ?_
    refine g_iast h n dX12_readKeeper_82 rfl (by rw [up2_o (by decide)]; exact h0) (by have : ¬ n = 5 := fun q => c50 (by rw [q]); omega) ?_
    refine g_aload_0 h dX12_readKeeper_83 ?_
    refine g_getP h fl_X12_91 dX12_readKeeper_84 rfl rfl (by assumption) ?_
    refine g_dup h dX12_readKeeper_87 rfl ?_
    refine g_getI h fl_X12_167 dX12_readKeeper_88 rfl rfl ?_
    refine g_iconst h dX12_readKeeper_91 (v := nI 1) rfl ?_
    refine g_iadd h dX12_readKeeper_92 ?_
    refine g_putI h fp_X12_167 dX12_readKeeper_93 rfl rfl ?_
    refine g_vret h dX12_readKeeper_96 ?_
    have n6 : ¬ n = 5 := fun q => c50 (by rw [q])
    rw [show up2 (up2 I 89 n v1) 110 n v2 104 3 + nI 1 = nI (n + 1) by rw [up2_o (by decide), up2_o (by decide), h0]; exact nI_1 n]
    exact hQ (by omega)
  · refine g_vret h dX12_readKeeper_53 ?_
    exact hQ6 (eqN (by first | exact c50 | exact Classical.not_not.mp c50) (by omega) (by decide))
