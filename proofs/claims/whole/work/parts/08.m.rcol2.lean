/-! The reference's parser: readColour, readKeeper -/
set_option maxRecDepth 100000 in
set_option maxHeartbeats 4000000 in
theorem sp_readColour {K wd : Nat → Nat} {V ca : Nat → Int32} {M : Nat} {T : MI} {d p z : Nat} {x : Option (Nat × Nat)} {I : MI} {J : MJ} {P : MP} (hV : vR K V M) (hP : P 80 9 = some 104) (hR : rL K wd V M T I p z x) (hK : K p = 0) {Q : MI → MJ → MP → Prop} (hQ1 : K (p + 1) = 28 → K (p + 2) = 1 → K (p + 3) = 29 → ∀ I', rL K wd V M (lsT K V wd ca T p) I' (p + 4) z (x.or (lerr K V wd T p)) → FRl I I' → FRo T z I I' → Q I' J P) (hQ0 : ∀ I' e, (∀ k, sqK K [0, 28, 1, 29] p k = (false, e)) → rD M e I I' → Q I' J P) : Sp yX12_readColour cX12_readColour 3 none (d + 5) [.ref 80] I J P (Qv Q) := by
  intro Γ h
  show VG Γ 0 0 0 [some (.ref 80), none, none] [] _ _ _ _
  obtain ⟨hE, hb, hnm⟩ := hR
  obtain ⟨M4, K45, hp, hzp, c8⟩ := hE.M4
  have hpM := K_lt2 K45 hp (by omega)
  have hE1 := hE.at hpM
  have hcN : nC T ≤ 6 := hb.1.2.1
  have h0 : up2 I 80 14 (nI (p + 1)) 104 0 = nI (nC T) := by rw [up2_o (by decide)]; exact hb.1.1 0 (by decide)
  have e9 : up2 I 80 14 (nI (p + 1)) 86 = I 86 := up2_o (by decide)
  have elk : lkW wd (up2 I 80 14 (nI (p + 1)) 86) (nC T) (p + 1) = lkT wd T 0 (p + 1) := by rw [e9]; exact lkW_ext (fun k hk => hb.2.1 0 (by decide) k hk)
  have f1 : FRm z I (up2 I 80 14 (nI (p + 1))) := FRm.at (by decide) (by decide)
  have sq1 : ∀ {e}, (K (p + 1) = 28 → K (p + 2) = 1 → K (p + 3) = 29 → False) → (e = if K (p + 1) = 28 then (if K (p + 2) = 1 then p + 3 else p + 2) else p + 1) → ∀ k, sqK K [0, 28, 1, 29] p k = (false, e) := by
    intro e hf he k
    rw [sqK, if_pos hK, sqK]
    by_cases a1 : K (p + 1) = 28
    · rw [if_pos a1] at he
      rw [if_pos a1, sqK]
      by_cases a2 : K (p + 1 + 1) = 1
      · rw [if_pos a2] at he
        rw [if_pos a2, sqK, if_neg (fun a3 => hf a1 a2 a3), he]
      · rw [if_neg a2] at he
        rw [if_neg a2, he]
    · rw [if_neg a1] at he
      rw [if_neg a1, he]
  have dead : ∀ (e : Nat) (I5 : MI) (v1 v2 : Int32), rD M e I I5 → I5 104 0 = nI (nC T) → (∀ k, sqK K [0, 28, 1, 29] p k = (false, e)) → VG Γ 0 0 42 [some (.ref 80), some (.int v1), some (.int v2)] [] I5 J P (Fnl Γ (Qv Q)) := fun e I5 v1 v2 b5 c5 s5 => tl_readColour hP hcN c5 (fun _ => hQ0 _ _ s5 b5) (fun _ => hQ0 _ _ s5 (((b5.up (by omega)).up (by omega)).up (by omega))) h
  refine g_aload_0 h dX12_readColour_0 ?_
  refine g_dup h dX12_readColour_1 rfl ?_
  refine g_getI h fl_X12_118 dX12_readColour_2 rfl rfl ?_
  refine g_iconst h dX12_readColour_5 (v := nI 1) rfl ?_
  refine g_iadd h dX12_readColour_6 ?_
  refine g_putI h fp_X12_118 dX12_readColour_7 rfl rfl ?_
  rw [show I 80 14 + nI 1 = nI (p + 1) by rw [hE.2.1.1]; exact nI_1 p]
  refine g_aload_0 h dX12_readColour_10 ?_
  refine g_aload_0 h dX12_readColour_11 ?_
  refine g_getC h fl_X12_94 dX12_readColour_12 rfl rfl ?_
  refine g_aload_0 h dX12_readColour_15 ?_
  refine g_getP h fl_X12_91 dX12_readColour_16 rfl rfl (by assumption) ?_
  refine g_getI h fl_X12_154 dX12_readColour_19 rfl rfl ?_
  rw [h0]
  refine g_bipush h dX12_readColour_22 (v := nI 6) rfl ?_
  refine g_cVi3 h rok0 mi_X12_fresh dX12_readColour_24 ml_X12_233 rfl rfl rfl (Nat.le_of_ble_eq_true rfl) (Nat.le_of_ble_eq_true rfl) (sp_fresh rfl (by decide) (by omega) (by decide) (by decide) hE1 (by intro k hk; rw [e9, hb.2.1 0 (by decide) k hk]; exact hnm 0 (by decide) k hk) (fun q1 I2 f2 e2 => ?_) (fun q1 => ?_))
  · have g2 := f1.tr f2 (Nat.le_refl _)
    have m2 := e2.M4
    rw [elk] at e2
    refine g_istore_1 h dX12_readColour_27 (by decide) rfl ?_
    refine g_aload_0 h dX12_readColour_28 ?_
    refine g_iconst h dX12_readColour_29 (v := nI 2) rfl ?_
    refine g_iconst h dX12_readColour_30 (v := nI 1) rfl ?_
    refine g_cVv2 h rok0 mi_X12_take dX12_readColour_31 ml_X12_206 rfl rfl rfl (Nat.le_of_ble_eq_true rfl) (Nat.le_of_ble_eq_true rfl) (sp_take2 (k := 1) (by decide) e2.1 e2.2.1 e2.2.2.1 (fun q2 => ?_) (fun q2 => ?_))
    · have p2M := K_lt K45 m2.2.2.1 q2 (by decide)
      have e3 := e2.at p2M
      have g3 := g2.tr (FRm.at (k := 14) (v := nI (p + 1 + 1 + 1)) (by decide) (by decide)) (Nat.le_refl _)
      refine g_aload_0 h dX12_readColour_34 ?_
      refine g_iconst h dX12_readColour_35 (v := nI 0) rfl ?_
      refine g_bipush h dX12_readColour_36 (v := nI 99) rfl ?_
      refine g_cVi2 h rok0 mi_X12_number dX12_readColour_38 ml_X12_181 rfl rfl rfl (Nat.le_of_ble_eq_true rfl) (Nat.le_of_ble_eq_true rfl) (sp_numE e3 (fun q3 I4 f4 e4 => ?_) (fun q3 => ?_))
      · refine g_istore_2 h dX12_readColour_41 (by decide) rfl ?_
        have g4 := g3.tr f4 (Nat.le_refl _)
        have eE : (x.or (er [(!decide (lkT wd T 0 (p + 1) = -1), 2, p + 1), (decide (nC T = 6), 4, p + 1)] none)).or (if (!inB (V (p + 1 + 1 + 1)) (nI 0) (nI 99)) = true then some (5, p + 1 + 1 + 1) else none) = x.or (lerr K V wd T p) := by
          rw [lerr, if_pos hK, er_or, er_or, er_or, er_or, er_or]
          simp only [er, Option.or_none, Option.or_assoc]
        rw [eE] at e4
        have r4 : rL K wd V M T I4 (p + 4) z (x.or (lerr K V wd T p)) := ⟨e4, hb.fr g4, hnm⟩
        have c4 : I4 104 0 = nI (nC T) := (g4 104 0 (by omega) (by omega) (by omega)).trans (hb.1.1 0 (by decide))
        refine tl_readColour hP hcN c4 (fun e6 => ?_) (fun n6 => ?_) h
        · have hT : lsT K V wd ca T p = T := by rw [lsT, if_pos hK, if_pos e6]
          exact hQ1 q1 q2 q3 _ (by rw [hT]; exact r4) g4.l g4.o
        · have hT : lsT K V wd ca T p = ctT (setRow (setRow T 11 (upd (T 11) (nC T) (nI (p + 1)))) 1 (upd (T 1) (nC T) (V (p + 3)))) 0 (nC T + 1) := by rw [lsT, if_pos hK, if_neg (by omega)]
          refine hQ1 q1 q2 q3 _ (r4.set hV (fun a a1 a2 => by rw [up2_o (by omega), up2_o (by omega), up2_o (by omega)]) (by rw [up2_n (by decide), up2_o (by decide), up2_o (by decide)]) (by rw [hT]; exact bkw_C r4.2.1 n6) (lsT_nm hnm ⟨hb.1.2.1, hb.1.2.2.1, hb.1.2.2.2.1, hb.1.2.2.2.2.1⟩ M4 (by omega) (by omega) q1)) (((g4.l.tr (FRl.up (by omega))).tr (FRl.up (by omega))).tr (FRl.up (by omega))) (g4.o.tr (z1 := z) ⟨fun j _ => by rw [up2_o (by decide), up2_o (by decide), up2_o (by decide)], ?_⟩ (Nat.le_refl _))
          have w : ∀ j, j ≠ 0 → up2 (up2 (up2 I4 86 (nC T) (nI (p + 1))) 105 (nC T) (V (p + 1 + 1 + 1))) 104 0 (nI (nC T + 1)) 104 j = I4 104 j := fun j hj => by rw [up2_n hj, up2_o (by decide), up2_o (by decide)]
          refine ⟨fun n _ => ⟨?_, ?_, ?_⟩, ?_, ?_, ?_⟩
          · show up2 _ 104 0 _ 112 n = _
            rw [up2_o (by decide), up2_o (by decide), up2_o (by decide)]; rfl
          · show up2 _ 104 0 _ 113 n = _
            rw [up2_o (by decide), up2_o (by decide), up2_o (by decide)]; rfl
          · show up2 _ 104 0 _ 114 n = _
            rw [up2_o (by decide), up2_o (by decide), up2_o (by decide)]; rfl
          · show ix (I4 104 1) ≤ ix (up2 _ 104 0 _ 104 1)
            rw [w 1 (by decide)]; exact Nat.le_refl _
          · show ix (I4 104 2) ≤ ix (up2 _ 104 0 _ 104 2)
            rw [w 2 (by decide)]; exact Nat.le_refl _
          · show ix (I4 104 3) ≤ ix (up2 _ 104 0 _ 104 3)
            rw [w 3 (by decide)]; exact Nat.le_refl _
      · refine g_istore_2 h dX12_readColour_41 (by decide) rfl ?_
        exact dead (p + 3) _ _ _ (rD.new g3.l (e3.M4.2.2.1)) (by rw [up2_o (by decide)]; exact (g3 104 0 (by omega) (by omega) (by omega)).trans (hb.1.1 0 (by decide))) (sq1 (fun _ _ r => q3 r) (by rw [if_pos q1, if_pos (show K (p + 2) = 1 from q2)]))
    · have b2 : rD M (p + 2) I (up2 I2 80 16 (nI (p + 1 + 1))) := rD.new g2.l m2.2.2.1
      refine g_aload_0 h dX12_readColour_34 ?_
      refine g_iconst h dX12_readColour_35 (v := nI 0) rfl ?_
      refine g_bipush h dX12_readColour_36 (v := nI 99) rfl ?_
      refine g_cVi2 h rok0 mi_X12_number dX12_readColour_38 ml_X12_181 rfl rfl rfl (Nat.le_of_ble_eq_true rfl) (Nat.le_of_ble_eq_true rfl) (sp_number_dd (f := p + 2) (by omega) b2.2.1 ?_)
      refine g_istore_2 h dX12_readColour_41 (by decide) rfl ?_
      exact dead (p + 2) _ _ _ b2 (by rw [up2_o (by decide)]; exact (g2 104 0 (by omega) (by omega) (by omega)).trans (hb.1.1 0 (by decide))) (sq1 (fun _ r _ => q2 r) (by rw [if_pos q1, if_neg (show ¬ K (p + 2) = 1 from q2)]))
  · have b2 : rD M (p + 1) I (up2 (up2 I 80 14 (nI (p + 1))) 80 16 (nI (p + 1))) := rD.new f1.l hpM
    refine g_istore_1 h dX12_readColour_27 (by decide) rfl ?_
    refine g_aload_0 h dX12_readColour_28 ?_
    refine g_iconst h dX12_readColour_29 (v := nI 2) rfl ?_
    refine g_iconst h dX12_readColour_30 (v := nI 1) rfl ?_
    refine g_cVv2 h rok0 mi_X12_take dX12_readColour_31 ml_X12_206 rfl rfl rfl (Nat.le_of_ble_eq_true rfl) (Nat.le_of_ble_eq_true rfl) (sp_take_dd (f := p + 1) (by omega) b2.2.1 ?_)
    refine g_aload_0 h dX12_readColour_34 ?_
    refine g_iconst h dX12_readColour_35 (v := nI 0) rfl ?_
    refine g_bipush h dX12_readColour_36 (v := nI 99) rfl ?_
    refine g_cVi2 h rok0 mi_X12_number dX12_readColour_38 ml_X12_181 rfl rfl rfl (Nat.le_of_ble_eq_true rfl) (Nat.le_of_ble_eq_true rfl) (sp_number_dd (f := p + 1) (by omega) b2.2.1 ?_)
    refine g_istore_2 h dX12_readColour_41 (by decide) rfl ?_
    exact dead (p + 1) _ _ _ b2 (by rw [up2_o (by decide)]; exact h0) (sq1 (fun r _ _ => q1 r) (by rw [if_neg q1]))
set_option maxRecDepth 100000 in
set_option maxHeartbeats 4000000 in
theorem sp_readKeeper {K wd : Nat → Nat} {V ca : Nat → Int32} {M : Nat} {T : MI} {d p z : Nat} {x : Option (Nat × Nat)} {I : MI} {J : MJ} {P : MP} (hV : vR K V M) (hP : P 80 9 = some 104) (hR : rL K wd V M T I p z x) (hK : K p = 9) {Q : MI → MJ → MP → Prop} (hQ1 : K (p + 1) = 28 → K (p + 2) = 10 → K (p + 3) = 29 → ∀ I', rL K wd V M (lsT K V wd ca T p) I' (p + 4) z (x.or (lerr K V wd T p)) → FRl I I' → FRo T z I I' → Q I' J P) (hQ0 : ∀ I' e, (∀ k, sqK K [9, 28, 10, 29] p k = (false, e)) → rD M e I I' → Q I' J P) : Sp yX12_readKeeper cX12_readKeeper 3 none (d + 5) [.ref 80] I J P (Qv Q) := by
  intro Γ h
  show VG Γ 0 0 0 [some (.ref 80), none, none] [] _ _ _ _
  obtain ⟨hE, hb, hnm⟩ := hR
  obtain ⟨M4, K45, hp, hzp, c8⟩ := hE.M4
  have hpM := K_lt2 K45 hp (by omega)
  have hE1 := hE.at hpM
  have hcN : nK T ≤ 5 := hb.1.2.2.2.2.1
  have h0 : up2 I 80 14 (nI (p + 1)) 104 3 = nI (nK T) := by rw [up2_o (by decide)]; exact hb.1.1 3 (by decide)
  have e9 : up2 I 80 14 (nI (p + 1)) 89 = I 89 := up2_o (by decide)
  have elk : lkW wd (up2 I 80 14 (nI (p + 1)) 89) (nK T) (p + 1) = lkT wd T 3 (p + 1) := by rw [e9]; exact lkW_ext (fun k hk => hb.2.1 3 (by decide) k hk)
  have f1 : FRm z I (up2 I 80 14 (nI (p + 1))) := FRm.at (by decide) (by decide)
  have sq1 : ∀ {e}, (K (p + 1) = 28 → K (p + 2) = 10 → K (p + 3) = 29 → False) → (e = if K (p + 1) = 28 then (if K (p + 2) = 10 then p + 3 else p + 2) else p + 1) → ∀ k, sqK K [9, 28, 10, 29] p k = (false, e) := by
    intro e hf he k
    rw [sqK, if_pos hK, sqK]
    by_cases a1 : K (p + 1) = 28
    · rw [if_pos a1] at he
      rw [if_pos a1, sqK]
      by_cases a2 : K (p + 1 + 1) = 10
      · rw [if_pos a2] at he
        rw [if_pos a2, sqK, if_neg (fun a3 => hf a1 a2 a3), he]
      · rw [if_neg a2] at he
        rw [if_neg a2, he]
    · rw [if_neg a1] at he
      rw [if_neg a1, he]
  have dead : ∀ (e : Nat) (I5 : MI) (v1 v2 : Int32), rD M e I I5 → I5 104 3 = nI (nK T) → (∀ k, sqK K [9, 28, 10, 29] p k = (false, e)) → VG Γ 0 0 42 [some (.ref 80), some (.int v1), some (.int v2)] [] I5 J P (Fnl Γ (Qv Q)) := fun e I5 v1 v2 b5 c5 s5 => tl_readKeeper hP hcN c5 (fun _ => hQ0 _ _ s5 b5) (fun _ => hQ0 _ _ s5 (((b5.up (by omega)).up (by omega)).up (by omega))) h
  refine g_aload_0 h dX12_readKeeper_0 ?_
  refine g_dup h dX12_readKeeper_1 rfl ?_
  refine g_getI h fl_X12_118 dX12_readKeeper_2 rfl rfl ?_
  refine g_iconst h dX12_readKeeper_5 (v := nI 1) rfl ?_
  refine g_iadd h dX12_readKeeper_6 ?_
  refine g_putI h fp_X12_118 dX12_readKeeper_7 rfl rfl ?_
  rw [show I 80 14 + nI 1 = nI (p + 1) by rw [hE.2.1.1]; exact nI_1 p]
  refine g_aload_0 h dX12_readKeeper_10 ?_
  refine g_aload_0 h dX12_readKeeper_11 ?_
  refine g_getC h fl_X12_103 dX12_readKeeper_12 rfl rfl ?_
  refine g_aload_0 h dX12_readKeeper_15 ?_
  refine g_getP h fl_X12_91 dX12_readKeeper_16 rfl rfl (by assumption) ?_
  refine g_getI h fl_X12_167 dX12_readKeeper_19 rfl rfl ?_
  rw [h0]
  refine g_iconst h dX12_readKeeper_22 (v := nI 5) rfl ?_
  refine g_cVi3 h rok0 mi_X12_fresh dX12_readKeeper_23 ml_X12_233 rfl rfl rfl (Nat.le_of_ble_eq_true rfl) (Nat.le_of_ble_eq_true rfl) (sp_fresh rfl (by decide) (by omega) (by decide) (by decide) hE1 (by intro k hk; rw [e9, hb.2.1 3 (by decide) k hk]; exact hnm 3 (by decide) k hk) (fun q1 I2 f2 e2 => ?_) (fun q1 => ?_))
  · have g2 := f1.tr f2 (Nat.le_refl _)
    have m2 := e2.M4
    rw [elk] at e2
    refine g_istore_1 h dX12_readKeeper_26 (by decide) rfl ?_
    refine g_aload_0 h dX12_readKeeper_27 ?_
    refine g_iconst h dX12_readKeeper_28 (v := nI 2) rfl ?_
    refine g_bipush h dX12_readKeeper_29 (v := nI 10) rfl ?_
    refine g_cVv2 h rok0 mi_X12_take dX12_readKeeper_31 ml_X12_206 rfl rfl rfl (Nat.le_of_ble_eq_true rfl) (Nat.le_of_ble_eq_true rfl) (sp_take2 (k := 10) (by decide) e2.1 e2.2.1 e2.2.2.1 (fun q2 => ?_) (fun q2 => ?_))
    · have p2M := K_lt K45 m2.2.2.1 q2 (by decide)
      have e3 := e2.at p2M
      have g3 := g2.tr (FRm.at (k := 14) (v := nI (p + 1 + 1 + 1)) (by decide) (by decide)) (Nat.le_refl _)
      refine g_aload_0 h dX12_readKeeper_34 ?_
      refine g_iconst h dX12_readKeeper_35 (v := nI 1) rfl ?_
      refine g_bipush h dX12_readKeeper_36 (v := nI 9) rfl ?_
      refine g_cVi2 h rok0 mi_X12_number dX12_readKeeper_38 ml_X12_181 rfl rfl rfl (Nat.le_of_ble_eq_true rfl) (Nat.le_of_ble_eq_true rfl) (sp_numE e3 (fun q3 I4 f4 e4 => ?_) (fun q3 => ?_))
      · refine g_istore_2 h dX12_readKeeper_41 (by decide) rfl ?_
        have g4 := g3.tr f4 (Nat.le_refl _)
        have eE : (x.or (er [(!decide (lkT wd T 3 (p + 1) = -1), 2, p + 1), (decide (nK T = 5), 4, p + 1)] none)).or (if (!inB (V (p + 1 + 1 + 1)) (nI 1) (nI 9)) = true then some (5, p + 1 + 1 + 1) else none) = x.or (lerr K V wd T p) := by
          rw [lerr, if_neg (show ¬ K p = 0 by omega), if_neg (show ¬ K p = 2 by omega), if_neg (show ¬ K p = 7 by omega), if_pos hK, er_or, er_or, er_or, er_or, er_or]
          simp only [er, Option.or_none, Option.or_assoc]
        rw [eE] at e4
        have r4 : rL K wd V M T I4 (p + 4) z (x.or (lerr K V wd T p)) := ⟨e4, hb.fr g4, hnm⟩
        have c4 : I4 104 3 = nI (nK T) := (g4 104 3 (by omega) (by omega) (by omega)).trans (hb.1.1 3 (by decide))
        refine tl_readKeeper hP hcN c4 (fun e6 => ?_) (fun n6 => ?_) h
        · have hT : lsT K V wd ca T p = T := by rw [lsT, if_neg (show ¬ K p = 0 by omega), if_neg (show ¬ K p = 2 by omega), if_neg (show ¬ K p = 7 by omega), if_pos hK, if_pos e6]
          exact hQ1 q1 q2 q3 _ (by rw [hT]; exact r4) g4.l g4.o
        · have hT : lsT K V wd ca T p = ctT (setRow (setRow T 14 (upd (T 14) (nK T) (nI (p + 1)))) 6 (upd (T 6) (nK T) (V (p + 3)))) 3 (nK T + 1) := by rw [lsT, if_neg (show ¬ K p = 0 by omega), if_neg (show ¬ K p = 2 by omega), if_neg (show ¬ K p = 7 by omega), if_pos hK, if_neg (by omega)]
          refine hQ1 q1 q2 q3 _ (r4.set hV (fun a a1 a2 => by rw [up2_o (by omega), up2_o (by omega), up2_o (by omega)]) (by rw [up2_n (by decide), up2_o (by decide), up2_o (by decide)]) (by rw [hT]; exact bkw_K r4.2.1 n6) (lsT_nm hnm ⟨hb.1.2.1, hb.1.2.2.1, hb.1.2.2.2.1, hb.1.2.2.2.2.1⟩ M4 (by omega) (by omega) q1)) (((g4.l.tr (FRl.up (by omega))).tr (FRl.up (by omega))).tr (FRl.up (by omega))) (g4.o.tr (z1 := z) ⟨fun j _ => by rw [up2_o (by decide), up2_o (by decide), up2_o (by decide)], ?_⟩ (Nat.le_refl _))
          have w : ∀ j, j ≠ 3 → up2 (up2 (up2 I4 89 (nK T) (nI (p + 1))) 110 (nK T) (V (p + 1 + 1 + 1))) 104 3 (nI (nK T + 1)) 104 j = I4 104 j := fun j hj => by rw [up2_n hj, up2_o (by decide), up2_o (by decide)]
          refine ⟨fun n _ => ⟨?_, ?_, ?_⟩, ?_, ?_, ?_⟩
          · show up2 _ 104 3 _ 112 n = _
            rw [up2_o (by decide), up2_o (by decide), up2_o (by decide)]; rfl
          · show up2 _ 104 3 _ 113 n = _
            rw [up2_o (by decide), up2_o (by decide), up2_o (by decide)]; rfl
          · show up2 _ 104 3 _ 114 n = _
            rw [up2_o (by decide), up2_o (by decide), up2_o (by decide)]; rfl
          · show ix (I4 104 1) ≤ ix (up2 _ 104 3 _ 104 1)
            rw [w 1 (by decide)]; exact Nat.le_refl _
          · show ix (I4 104 2) ≤ ix (up2 _ 104 3 _ 104 2)
            rw [w 2 (by decide)]; exact Nat.le_refl _
          · show ix (I4 104 3) ≤ ix (up2 _ 104 3 _ 104 3)
            rw [up2_s, c4, ix_n (by omega), ix_n (by omega)]; exact Nat.le_succ _
      · refine g_istore_2 h dX12_readKeeper_41 (by decide) rfl ?_
        exact dead (p + 3) _ _ _ (rD.new g3.l (e3.M4.2.2.1)) (by rw [up2_o (by decide)]; exact (g3 104 3 (by omega) (by omega) (by omega)).trans (hb.1.1 3 (by decide))) (sq1 (fun _ _ r => q3 r) (by rw [if_pos q1, if_pos (show K (p + 2) = 10 from q2)]))
    · have b2 : rD M (p + 2) I (up2 I2 80 16 (nI (p + 1 + 1))) := rD.new g2.l m2.2.2.1
      refine g_aload_0 h dX12_readKeeper_34 ?_
      refine g_iconst h dX12_readKeeper_35 (v := nI 1) rfl ?_
      refine g_bipush h dX12_readKeeper_36 (v := nI 9) rfl ?_
      refine g_cVi2 h rok0 mi_X12_number dX12_readKeeper_38 ml_X12_181 rfl rfl rfl (Nat.le_of_ble_eq_true rfl) (Nat.le_of_ble_eq_true rfl) (sp_number_dd (f := p + 2) (by omega) b2.2.1 ?_)
      refine g_istore_2 h dX12_readKeeper_41 (by decide) rfl ?_
      exact dead (p + 2) _ _ _ b2 (by rw [up2_o (by decide)]; exact (g2 104 3 (by omega) (by omega) (by omega)).trans (hb.1.1 3 (by decide))) (sq1 (fun _ r _ => q2 r) (by rw [if_pos q1, if_neg (show ¬ K (p + 2) = 10 from q2)]))
  · have b2 : rD M (p + 1) I (up2 (up2 I 80 14 (nI (p + 1))) 80 16 (nI (p + 1))) := rD.new f1.l hpM
    refine g_istore_1 h dX12_readKeeper_26 (by decide) rfl ?_
    refine g_aload_0 h dX12_readKeeper_27 ?_
    refine g_iconst h dX12_readKeeper_28 (v := nI 2) rfl ?_
    refine g_bipush h dX12_readKeeper_29 (v := nI 10) rfl ?_
    refine g_cVv2 h rok0 mi_X12_take dX12_readKeeper_31 ml_X12_206 rfl rfl rfl (Nat.le_of_ble_eq_true rfl) (Nat.le_of_ble_eq_true rfl) (sp_take_dd (f := p + 1) (by omega) b2.2.1 ?_)
    refine g_aload_0 h dX12_readKeeper_34 ?_
    refine g_iconst h dX12_readKeeper_35 (v := nI 1) rfl ?_
    refine g_bipush h dX12_readKeeper_36 (v := nI 9) rfl ?_
    refine g_cVi2 h rok0 mi_X12_number dX12_readKeeper_38 ml_X12_181 rfl rfl rfl (Nat.le_of_ble_eq_true rfl) (Nat.le_of_ble_eq_true rfl) (sp_number_dd (f := p + 1) (by omega) b2.2.1 ?_)
    refine g_istore_2 h dX12_readKeeper_41 (by decide) rfl ?_
    exact dead (p + 1) _ _ _ b2 (by rw [up2_o (by decide)]; exact h0) (sq1 (fun r _ _ => q1 r) (by rw [if_neg q1]))
