/-! The reference's parser: deep, known names, readAbove -/
set_option maxRecDepth 100000 in
set_option maxHeartbeats 4000000 in
theorem lp_deep {Γ : Cx} {d N D : Nat} {u : Nat → Int32} {I : MI} {J : MJ} {P : MP} (hN : N ≤ 16) (hu : ∀ k, k < N → I 107 k = u k ∧ (u k = -1 ∨ ∃ i, i < k ∧ u k = nI i)) {Q : Int32 → MI → MJ → MP → Prop} (hQ : Q (nI D) I J P) (h : Vc RX11 cX11_deep 4 (some .int) (d) Γ) {w1 : Int32} : ∀ (f a : Nat) (c : Int32), (c = -1 ∨ ∃ j, j < N ∧ j < f ∧ c = nI j) → a + dpt u f c = D → VG Γ 0 0 4 [some (.ref 104), some (.int w1), some (.int (nI a)), some (.int c)] [] I J P (Fnl Γ (Qi Q)) := by
  have fin : ∀ a, a = D → VG Γ 0 0 22 [some (.ref 104), some (.int w1), some (.int (nI a)), some (.int (-1))] [] I J P (Fnl Γ (Qi Q)) := by
    rintro a rfl
    refine g_iload_2 h dX11_deep_22 ?_
    refine g_iret h dX11_deep_23 ?_
    exact hQ
  intro f
  induction f with
  | zero =>
    intro a c hc ha
    have e : c = -1 := by
      rcases hc with e | ⟨j, _, j2, _⟩
      · exact e
      · omega
    subst e
    refine g_iload_3 h dX11_deep_4 ?_
    refine g_iconst h dX11_deep_5 (v := (-1)) rfl ?_
    refine g_icmp_eq h 22 dX11_deep_6 rfl (fun _ => ?_) (fun c => absurd rfl c)
    exact fin a (by rw [← ha]; rfl)
  | succ f ih =>
    intro a c hc ha
    by_cases e : c = -1
    · subst e
      refine g_iload_3 h dX11_deep_4 ?_
      refine g_iconst h dX11_deep_5 (v := (-1)) rfl ?_
      refine g_icmp_eq h 22 dX11_deep_6 rfl (fun _ => ?_) (fun c => absurd rfl c)
      exact fin a (by rw [← ha]; rfl)
    · obtain ⟨j, j1, j2, rfl⟩ : ∃ j, j < N ∧ j < f + 1 ∧ c = nI j := by
        rcases hc with q | q
        · exact absurd q e
        · exact q
      rw [dpt, if_neg e, ix_n (by omega)] at ha
      obtain ⟨u1, u2⟩ := hu j j1
      refine g_iload_3 h dX11_deep_4 ?_
      refine g_iconst h dX11_deep_5 (v := (-1)) rfl ?_
      refine g_icmp_eq h 22 dX11_deep_6 rfl (fun c => absurd c e) (fun _ => ?_)
      refine g_iinc_2 h dX11_deep_9 (inc1 _) (by decide) rfl ?_
      refine g_aload_0 h dX11_deep_12 ?_
      refine g_getC h fl_X11_18 dX11_deep_13 rfl rfl ?_
      refine g_iload_3 h dX11_deep_16 ?_
      refine g_iald h j dX11_deep_17 rfl rfl (by omega) ?_
      rw [u1]
      refine g_istore_3 h dX11_deep_18 (by decide) rfl ?_
      refine g_goto h 4 dX11_deep_19 rfl ?_
      refine ih (a + 1) (u j) ?_ (by omega)
      rcases u2 with q | ⟨i, i1, i2⟩
      · exact Or.inl q
      · exact Or.inr ⟨i, by omega, by omega, i2⟩
set_option maxRecDepth 100000 in
set_option maxHeartbeats 4000000 in
theorem sp_deep {d N : Nat} {u : Nat → Int32} {I : MI} {J : MJ} {P : MP} (hN : N ≤ 16) (hu : ∀ k, k < N → I 107 k = u k ∧ (u k = -1 ∨ ∃ i, i < k ∧ u k = nI i)) {c : Int32} (hc : c = -1 ∨ ∃ j, j < N ∧ c = nI j) {Q : Int32 → MI → MJ → MP → Prop} (hQ : Q (nI (dpt u 17 c)) I J P) : Sp yX11_deep cX11_deep 4 (some .int) d [.ref 104, .int c] I J P (Qi Q) := by
  intro Γ h
  show VG Γ 0 0 0 [some (.ref 104), some (.int c), none, none] [] _ _ _ _
  refine g_iconst h dX11_deep_0 (v := nI 0) rfl ?_
  refine g_istore_2 h dX11_deep_1 (by decide) rfl ?_
  refine g_iload_1 h dX11_deep_2 ?_
  refine g_istore_3 h dX11_deep_3 (by decide) rfl ?_
  refine lp_deep hN hu hQ h 17 0 c ?_ (by omega)
  rcases hc with q | ⟨j, j1, j2⟩
  · exact Or.inl q
  · exact Or.inr ⟨j, j1, by omega, j2⟩
set_option maxRecDepth 100000 in
set_option maxHeartbeats 4000000 in
theorem sp_knColour {K wd : Nat → Nat} {V : Nat → Int32} {M : Nat} {T : MI} {d p z : Nat} {x : Option (Nat × Nat)} {I : MI} {J : MJ} {P : MP} (hP : P 80 9 = some 104) (hR : rL K wd V M T I p z x) {Q : Int32 → MI → MJ → MP → Prop} (hQ1 : K p = 28 → ∀ I', FRm z I I' → rL K wd V M T I' (p + 1) z (x.or (if lkT wd T 0 p = -1 then some (3, p) else none)) → Q (lkT wd T 0 p) I' J P) (hQ0 : ¬ K p = 28 → Q (nI 0) (up2 I 80 16 (nI p)) J P) : Sp yX12_knownColour cX12_knownColour 1 (some .int) (d + 3) [.ref 80] I J P (Qi Q) := by
  intro Γ h
  show VG Γ 0 0 0 [some (.ref 80)] [] _ _ _ _
  have hR' := hR
  obtain ⟨hE, hb, hnm⟩ := hR
  have hM := hE.M4
  have hx := hE.2.2.2.2.2.1
  have hcN : nC T ≤ 16 := by have := hb.1.2.1; omega
  have h0 : I 104 0 = nI (nC T) := hb.1.1 0 (by decide)
  have elk : lkW wd (I 86) (nC T) p = lkT wd T 0 p := lkW_ext (fun k hk => hb.2.1 0 (by decide) k hk)
  refine g_aload_0 h dX12_knownColour_0 ?_
  refine g_aload_0 h dX12_knownColour_1 ?_
  refine g_getC h fl_X12_94 dX12_knownColour_2 rfl rfl ?_
  refine g_aload_0 h dX12_knownColour_5 ?_
  refine g_getP h fl_X12_91 dX12_knownColour_6 rfl rfl (by assumption) ?_
  refine g_getI h fl_X12_154 dX12_knownColour_9 rfl rfl ?_
  rw [h0]
  refine g_cVi2 h rok0 mi_X12_known dX12_knownColour_12 ml_X12_157 rfl rfl rfl (Nat.le_of_ble_eq_true rfl) (Nat.le_of_ble_eq_true rfl) (sp_known rfl (by decide) hb.1.2.1 (by decide) hE.1 hE.2.1 hE.2.2.1 hE.2.2.2.2.1 (fun k hk => by rw [hb.2.1 0 (by decide) k hk]; exact hnm 0 (by decide) k hk) (fun q I2 f2 a2 e2 => ?_) (fun q => ?_))
  · refine g_iret h dX12_knownColour_15 ?_
    rw [elk] at e2 ⊢
    have hpM : p < M := K_lt hM.2.1 hM.2.2.1 q (by decide)
    have eo : (if lkT wd T 0 p = -1 then tl x 3 p else x) = x.or (if lkT wd T 0 p = -1 then some (3, p) else none) := by
      by_cases r : lkT wd T 0 p = -1
      · rw [if_pos r, if_pos r, tl_or hx]
      · rw [if_neg r, if_neg r, Option.or_none]
    rw [eo] at e2
    obtain ⟨s1, s2⟩ := hE.mv f2 a2 e2 (or_lt hx (q := p + 1) (fun w hw => by
      by_cases r : lkT wd T 0 p = -1
      · rw [if_pos r] at hw
        rw [← Option.some.inj hw]
        exact Nat.lt_succ_self p
      · rw [if_neg r] at hw
        cases hw) (by omega)) hpM
    exact hQ1 q I2 s2 (hR'.fr s1 s2)
  · refine g_iret h dX12_knownColour_15 ?_
    exact hQ0 q
set_option maxRecDepth 100000 in
set_option maxHeartbeats 4000000 in
theorem sp_knColour_dd {d : Nat} {I : MI} {J : MJ} {P : MP} (hP : P 80 9 = some 104) {f : Nat} (hf4 : f < 2 ^ 31) (hf : I 80 16 = nI f) {Q : Int32 → MI → MJ → MP → Prop} (hQ : Q (nI 0) I J P) : Sp yX12_knownColour cX12_knownColour 1 (some .int) (d + 3) [.ref 80] I J P (Qi Q) := by
  intro Γ h
  show VG Γ 0 0 0 [some (.ref 80)] [] _ _ _ _
  refine g_aload_0 h dX12_knownColour_0 ?_
  refine g_aload_0 h dX12_knownColour_1 ?_
  refine g_getC h fl_X12_94 dX12_knownColour_2 rfl rfl ?_
  refine g_aload_0 h dX12_knownColour_5 ?_
  refine g_getP h fl_X12_91 dX12_knownColour_6 rfl rfl (by assumption) ?_
  refine g_getI h fl_X12_154 dX12_knownColour_9 rfl rfl ?_
  refine g_cVi2 h rok0 mi_X12_known dX12_knownColour_12 ml_X12_157 rfl rfl rfl (Nat.le_of_ble_eq_true rfl) (Nat.le_of_ble_eq_true rfl) (sp_known_dd hf4 hf ?_)
  refine g_iret h dX12_knownColour_15 ?_
  exact hQ
set_option maxRecDepth 100000 in
set_option maxHeartbeats 4000000 in
theorem sp_knCord {K wd : Nat → Nat} {V : Nat → Int32} {M : Nat} {T : MI} {d p z : Nat} {x : Option (Nat × Nat)} {I : MI} {J : MJ} {P : MP} (hP : P 80 9 = some 104) (hR : rL K wd V M T I p z x) {Q : Int32 → MI → MJ → MP → Prop} (hQ1 : K p = 28 → ∀ I', FRm z I I' → rL K wd V M T I' (p + 1) z (x.or (if lkT wd T 1 p = -1 then some (3, p) else none)) → Q (lkT wd T 1 p) I' J P) (hQ0 : ¬ K p = 28 → Q (nI 0) (up2 I 80 16 (nI p)) J P) : Sp yX12_knownCord cX12_knownCord 1 (some .int) (d + 3) [.ref 80] I J P (Qi Q) := by
  intro Γ h
  show VG Γ 0 0 0 [some (.ref 80)] [] _ _ _ _
  have hR' := hR
  obtain ⟨hE, hb, hnm⟩ := hR
  have hM := hE.M4
  have hx := hE.2.2.2.2.2.1
  have hcN : nN T ≤ 16 := by have := hb.1.2.2.1; omega
  have h0 : I 104 1 = nI (nN T) := hb.1.1 1 (by decide)
  have elk : lkW wd (I 87) (nN T) p = lkT wd T 1 p := lkW_ext (fun k hk => hb.2.1 1 (by decide) k hk)
  refine g_aload_0 h dX12_knownCord_0 ?_
  refine g_aload_0 h dX12_knownCord_1 ?_
  refine g_getC h fl_X12_97 dX12_knownCord_2 rfl rfl ?_
  refine g_aload_0 h dX12_knownCord_5 ?_
  refine g_getP h fl_X12_91 dX12_knownCord_6 rfl rfl (by assumption) ?_
  refine g_getI h fl_X12_161 dX12_knownCord_9 rfl rfl ?_
  rw [h0]
  refine g_cVi2 h rok0 mi_X12_known dX12_knownCord_12 ml_X12_157 rfl rfl rfl (Nat.le_of_ble_eq_true rfl) (Nat.le_of_ble_eq_true rfl) (sp_known rfl (by decide) hcN (by decide) hE.1 hE.2.1 hE.2.2.1 hE.2.2.2.2.1 (fun k hk => by rw [hb.2.1 1 (by decide) k hk]; exact hnm 1 (by decide) k hk) (fun q I2 f2 a2 e2 => ?_) (fun q => ?_))
  · refine g_iret h dX12_knownCord_15 ?_
    rw [elk] at e2 ⊢
    have hpM : p < M := K_lt hM.2.1 hM.2.2.1 q (by decide)
    have eo : (if lkT wd T 1 p = -1 then tl x 3 p else x) = x.or (if lkT wd T 1 p = -1 then some (3, p) else none) := by
      by_cases r : lkT wd T 1 p = -1
      · rw [if_pos r, if_pos r, tl_or hx]
      · rw [if_neg r, if_neg r, Option.or_none]
    rw [eo] at e2
    obtain ⟨s1, s2⟩ := hE.mv f2 a2 e2 (or_lt hx (q := p + 1) (fun w hw => by
      by_cases r : lkT wd T 1 p = -1
      · rw [if_pos r] at hw
        rw [← Option.some.inj hw]
        exact Nat.lt_succ_self p
      · rw [if_neg r] at hw
        cases hw) (by omega)) hpM
    exact hQ1 q I2 s2 (hR'.fr s1 s2)
  · refine g_iret h dX12_knownCord_15 ?_
    exact hQ0 q
set_option maxRecDepth 100000 in
set_option maxHeartbeats 4000000 in
theorem sp_knCord_dd {d : Nat} {I : MI} {J : MJ} {P : MP} (hP : P 80 9 = some 104) {f : Nat} (hf4 : f < 2 ^ 31) (hf : I 80 16 = nI f) {Q : Int32 → MI → MJ → MP → Prop} (hQ : Q (nI 0) I J P) : Sp yX12_knownCord cX12_knownCord 1 (some .int) (d + 3) [.ref 80] I J P (Qi Q) := by
  intro Γ h
  show VG Γ 0 0 0 [some (.ref 80)] [] _ _ _ _
  refine g_aload_0 h dX12_knownCord_0 ?_
  refine g_aload_0 h dX12_knownCord_1 ?_
  refine g_getC h fl_X12_97 dX12_knownCord_2 rfl rfl ?_
  refine g_aload_0 h dX12_knownCord_5 ?_
  refine g_getP h fl_X12_91 dX12_knownCord_6 rfl rfl (by assumption) ?_
  refine g_getI h fl_X12_161 dX12_knownCord_9 rfl rfl ?_
  refine g_cVi2 h rok0 mi_X12_known dX12_knownCord_12 ml_X12_157 rfl rfl rfl (Nat.le_of_ble_eq_true rfl) (Nat.le_of_ble_eq_true rfl) (sp_known_dd hf4 hf ?_)
  refine g_iret h dX12_knownCord_15 ?_
  exact hQ
set_option maxRecDepth 100000 in
set_option maxHeartbeats 4000000 in
theorem sp_knTop {K wd : Nat → Nat} {V : Nat → Int32} {M : Nat} {T : MI} {d p z : Nat} {x : Option (Nat × Nat)} {I : MI} {J : MJ} {P : MP} (hP : P 80 9 = some 104) (hR : rL K wd V M T I p z x) {Q : Int32 → MI → MJ → MP → Prop} (hQ1 : K p = 28 → ∀ I', FRm z I I' → rL K wd V M T I' (p + 1) z (x.or (if lkT wd T 2 p = -1 then some (3, p) else none)) → Q (lkT wd T 2 p) I' J P) (hQ0 : ¬ K p = 28 → Q (nI 0) (up2 I 80 16 (nI p)) J P) : Sp yX12_knownTop cX12_knownTop 1 (some .int) (d + 3) [.ref 80] I J P (Qi Q) := by
  intro Γ h
  show VG Γ 0 0 0 [some (.ref 80)] [] _ _ _ _
  have hR' := hR
  obtain ⟨hE, hb, hnm⟩ := hR
  have hM := hE.M4
  have hx := hE.2.2.2.2.2.1
  have hcN : nT T ≤ 16 := by have := hb.1.2.2.2.1; omega
  have h0 : I 104 2 = nI (nT T) := hb.1.1 2 (by decide)
  have elk : lkW wd (I 88) (nT T) p = lkT wd T 2 p := lkW_ext (fun k hk => hb.2.1 2 (by decide) k hk)
  refine g_aload_0 h dX12_knownTop_0 ?_
  refine g_aload_0 h dX12_knownTop_1 ?_
  refine g_getC h fl_X12_100 dX12_knownTop_2 rfl rfl ?_
  refine g_aload_0 h dX12_knownTop_5 ?_
  refine g_getP h fl_X12_91 dX12_knownTop_6 rfl rfl (by assumption) ?_
  refine g_getI h fl_X12_164 dX12_knownTop_9 rfl rfl ?_
  rw [h0]
  refine g_cVi2 h rok0 mi_X12_known dX12_knownTop_12 ml_X12_157 rfl rfl rfl (Nat.le_of_ble_eq_true rfl) (Nat.le_of_ble_eq_true rfl) (sp_known rfl (by decide) hb.1.2.2.2.1 (by decide) hE.1 hE.2.1 hE.2.2.1 hE.2.2.2.2.1 (fun k hk => by rw [hb.2.1 2 (by decide) k hk]; exact hnm 2 (by decide) k hk) (fun q I2 f2 a2 e2 => ?_) (fun q => ?_))
  · refine g_iret h dX12_knownTop_15 ?_
    rw [elk] at e2 ⊢
    have hpM : p < M := K_lt hM.2.1 hM.2.2.1 q (by decide)
    have eo : (if lkT wd T 2 p = -1 then tl x 3 p else x) = x.or (if lkT wd T 2 p = -1 then some (3, p) else none) := by
      by_cases r : lkT wd T 2 p = -1
      · rw [if_pos r, if_pos r, tl_or hx]
      · rw [if_neg r, if_neg r, Option.or_none]
    rw [eo] at e2
    obtain ⟨s1, s2⟩ := hE.mv f2 a2 e2 (or_lt hx (q := p + 1) (fun w hw => by
      by_cases r : lkT wd T 2 p = -1
      · rw [if_pos r] at hw
        rw [← Option.some.inj hw]
        exact Nat.lt_succ_self p
      · rw [if_neg r] at hw
        cases hw) (by omega)) hpM
    exact hQ1 q I2 s2 (hR'.fr s1 s2)
  · refine g_iret h dX12_knownTop_15 ?_
    exact hQ0 q
set_option maxRecDepth 100000 in
set_option maxHeartbeats 4000000 in
theorem sp_knTop_dd {d : Nat} {I : MI} {J : MJ} {P : MP} (hP : P 80 9 = some 104) {f : Nat} (hf4 : f < 2 ^ 31) (hf : I 80 16 = nI f) {Q : Int32 → MI → MJ → MP → Prop} (hQ : Q (nI 0) I J P) : Sp yX12_knownTop cX12_knownTop 1 (some .int) (d + 3) [.ref 80] I J P (Qi Q) := by
  intro Γ h
  show VG Γ 0 0 0 [some (.ref 80)] [] _ _ _ _
  refine g_aload_0 h dX12_knownTop_0 ?_
  refine g_aload_0 h dX12_knownTop_1 ?_
  refine g_getC h fl_X12_100 dX12_knownTop_2 rfl rfl ?_
  refine g_aload_0 h dX12_knownTop_5 ?_
  refine g_getP h fl_X12_91 dX12_knownTop_6 rfl rfl (by assumption) ?_
  refine g_getI h fl_X12_164 dX12_knownTop_9 rfl rfl ?_
  refine g_cVi2 h rok0 mi_X12_known dX12_knownTop_12 ml_X12_157 rfl rfl rfl (Nat.le_of_ble_eq_true rfl) (Nat.le_of_ble_eq_true rfl) (sp_known_dd hf4 hf ?_)
  refine g_iret h dX12_knownTop_15 ?_
  exact hQ
set_option maxRecDepth 100000 in
set_option maxHeartbeats 4000000 in
theorem sp_knKeeper {K wd : Nat → Nat} {V : Nat → Int32} {M : Nat} {T : MI} {d p z : Nat} {x : Option (Nat × Nat)} {I : MI} {J : MJ} {P : MP} (hP : P 80 9 = some 104) (hR : rL K wd V M T I p z x) {Q : Int32 → MI → MJ → MP → Prop} (hQ1 : K p = 28 → ∀ I', FRm z I I' → rL K wd V M T I' (p + 1) z (x.or (if lkT wd T 3 p = -1 then some (3, p) else none)) → Q (lkT wd T 3 p) I' J P) (hQ0 : ¬ K p = 28 → Q (nI 0) (up2 I 80 16 (nI p)) J P) : Sp yX12_knownKeeper cX12_knownKeeper 1 (some .int) (d + 3) [.ref 80] I J P (Qi Q) := by
  intro Γ h
  show VG Γ 0 0 0 [some (.ref 80)] [] _ _ _ _
  have hR' := hR
  obtain ⟨hE, hb, hnm⟩ := hR
  have hM := hE.M4
  have hx := hE.2.2.2.2.2.1
  have hcN : nK T ≤ 16 := by have := hb.1.2.2.2.2.1; omega
  have h0 : I 104 3 = nI (nK T) := hb.1.1 3 (by decide)
  have elk : lkW wd (I 89) (nK T) p = lkT wd T 3 p := lkW_ext (fun k hk => hb.2.1 3 (by decide) k hk)
  refine g_aload_0 h dX12_knownKeeper_0 ?_
  refine g_aload_0 h dX12_knownKeeper_1 ?_
  refine g_getC h fl_X12_103 dX12_knownKeeper_2 rfl rfl ?_
  refine g_aload_0 h dX12_knownKeeper_5 ?_
  refine g_getP h fl_X12_91 dX12_knownKeeper_6 rfl rfl (by assumption) ?_
  refine g_getI h fl_X12_167 dX12_knownKeeper_9 rfl rfl ?_
  rw [h0]
  refine g_cVi2 h rok0 mi_X12_known dX12_knownKeeper_12 ml_X12_157 rfl rfl rfl (Nat.le_of_ble_eq_true rfl) (Nat.le_of_ble_eq_true rfl) (sp_known rfl (by decide) hb.1.2.2.2.2.1 (by decide) hE.1 hE.2.1 hE.2.2.1 hE.2.2.2.2.1 (fun k hk => by rw [hb.2.1 3 (by decide) k hk]; exact hnm 3 (by decide) k hk) (fun q I2 f2 a2 e2 => ?_) (fun q => ?_))
  · refine g_iret h dX12_knownKeeper_15 ?_
    rw [elk] at e2 ⊢
    have hpM : p < M := K_lt hM.2.1 hM.2.2.1 q (by decide)
    have eo : (if lkT wd T 3 p = -1 then tl x 3 p else x) = x.or (if lkT wd T 3 p = -1 then some (3, p) else none) := by
      by_cases r : lkT wd T 3 p = -1
      · rw [if_pos r, if_pos r, tl_or hx]
      · rw [if_neg r, if_neg r, Option.or_none]
    rw [eo] at e2
    obtain ⟨s1, s2⟩ := hE.mv f2 a2 e2 (or_lt hx (q := p + 1) (fun w hw => by
      by_cases r : lkT wd T 3 p = -1
      · rw [if_pos r] at hw
        rw [← Option.some.inj hw]
        exact Nat.lt_succ_self p
      · rw [if_neg r] at hw
        cases hw) (by omega)) hpM
    exact hQ1 q I2 s2 (hR'.fr s1 s2)
  · refine g_iret h dX12_knownKeeper_15 ?_
    exact hQ0 q
set_option maxRecDepth 100000 in
set_option maxHeartbeats 4000000 in
theorem sp_knKeeper_dd {d : Nat} {I : MI} {J : MJ} {P : MP} (hP : P 80 9 = some 104) {f : Nat} (hf4 : f < 2 ^ 31) (hf : I 80 16 = nI f) {Q : Int32 → MI → MJ → MP → Prop} (hQ : Q (nI 0) I J P) : Sp yX12_knownKeeper cX12_knownKeeper 1 (some .int) (d + 3) [.ref 80] I J P (Qi Q) := by
  intro Γ h
  show VG Γ 0 0 0 [some (.ref 80)] [] _ _ _ _
  refine g_aload_0 h dX12_knownKeeper_0 ?_
  refine g_aload_0 h dX12_knownKeeper_1 ?_
  refine g_getC h fl_X12_103 dX12_knownKeeper_2 rfl rfl ?_
  refine g_aload_0 h dX12_knownKeeper_5 ?_
  refine g_getP h fl_X12_91 dX12_knownKeeper_6 rfl rfl (by assumption) ?_
  refine g_getI h fl_X12_167 dX12_knownKeeper_9 rfl rfl ?_
  refine g_cVi2 h rok0 mi_X12_known dX12_knownKeeper_12 ml_X12_157 rfl rfl rfl (Nat.le_of_ble_eq_true rfl) (Nat.le_of_ble_eq_true rfl) (sp_known_dd hf4 hf ?_)
  refine g_iret h dX12_knownKeeper_15 ?_
  exact hQ
theorem dpt_le {u : Nat → Int32} : ∀ (f : Nat) (c : Int32), dpt u f c ≤ f := by
  intro f
  induction f with
  | zero => exact fun c => Nat.le_refl _
  | succ f ih =>
    intro c
    rw [dpt]
    by_cases q : c = -1
    · rw [if_pos q]; omega
    · rw [if_neg q]
      have := ih (u (ix c))
      omega
set_option maxRecDepth 100000 in
set_option maxHeartbeats 4000000 in
theorem sp_readAbove {K wd : Nat → Nat} {V : Nat → Int32} {M : Nat} {T : MI} {d p z : Nat} {x : Option (Nat × Nat)} {I : MI} {J : MJ} {P : MP} (hP : P 80 9 = some 104) (hR : rL K wd V M T I p z x) {Q : Int32 → MI → MJ → MP → Prop} (hQ1 : K p = 28 → ∀ I', FRm z I I' → rL K wd V M T I' (p + 1) z (x.or (er [(decide (lkT wd T 1 p = -1), 3, p), (decide (dpt (T 3) 17 (lkT wd T 1 p) = 4), 5, p)] none)) → Q (lkT wd T 1 p) I' J P) (hQ0 : ¬ K p = 28 → Q (-1) (up2 I 80 16 (nI p)) J P) : Sp yX12_readAbove cX12_readAbove 3 (some .int) (d + 4) [.ref 80] I J P (Qi Q) := by
  intro Γ h
  show VG Γ 0 0 0 [some (.ref 80), none, none] [] _ _ _ _
  have hat : I 80 14 = nI p := hR.1.2.1.1
  have hM := hR.1.M4
  have hx := hR.1.2.2.2.2.2.1
  refine g_aload_0 h dX12_readAbove_0 ?_
  refine g_getI h fl_X12_118 dX12_readAbove_1 rfl rfl ?_
  rw [hat]
  refine g_istore_1 h dX12_readAbove_4 (by decide) rfl ?_
  refine g_aload_0 h dX12_readAbove_5 ?_
  refine g_cVi0 h rok0 mi_X12_knownCord dX12_readAbove_6 ml_X12_185 rfl rfl rfl (Nat.le_of_ble_eq_true rfl) (Nat.le_of_ble_eq_true rfl) (sp_knCord hP hR (fun q I2 f2 r2 => ?_) (fun q => ?_))
  · have hcc : lkT wd T 1 p = -1 ∨ ∃ j, j < nN T ∧ lkT wd T 1 p = nI j := lkT_in (wd := wd) (T := T) (i := 1) (t := p)
    refine g_istore_2 h dX12_readAbove_9 (by decide) rfl ?_
    refine g_aload_0 h dX12_readAbove_10 ?_
    refine g_cVi0 h rok0 mi_X12_isOk dX12_readAbove_11 ml_X12_121 rfl rfl rfl (Nat.le_of_ble_eq_true rfl) (Nat.le_of_ble_eq_true rfl) (sp_isOk_al r2.1.2.1 ?_)
    refine g_if_eq h 40 dX12_readAbove_14 rfl (fun c => absurd c (by decide)) (fun _ => ?_)
    refine g_iload_2 h dX12_readAbove_17 ?_
    refine g_iconst h dX12_readAbove_18 (v := (-1)) rfl ?_
    refine g_icmp_eq h 40 dX12_readAbove_19 rfl (fun c19 => ?_) (fun c19 => ?_)
    · refine g_aload_0 h dX12_readAbove_40 ?_
      refine g_cVi0 h rok0 mi_X12_isOk dX12_readAbove_41 ml_X12_121 rfl rfl rfl (Nat.le_of_ble_eq_true rfl) (Nat.le_of_ble_eq_true rfl) (sp_isOk_al r2.1.2.1 ?_)
      refine g_if_eq h 51 dX12_readAbove_44 rfl (fun c => absurd c (by decide)) (fun _ => ?_)
      refine g_iload_2 h dX12_readAbove_47 ?_
      refine g_goto h 52 dX12_readAbove_48 rfl ?_
      refine g_iret h dX12_readAbove_52 ?_
      refine hQ1 q I2 f2 ?_
      by_cases n1 : lkT wd T 1 p = -1
      · rw [er, if_pos (by simp [n1])]
        rw [if_pos n1] at r2
        exact r2
      · rw [if_neg n1] at r2
        have d4 : ¬ dpt (T 3) 17 (lkT wd T 1 p) = 4 := by
          first
            | exact fun w => absurd (by first | exact c19 | exact Classical.not_not.mp c19) n1
            | exact fun w => c31 (by rw [w])
        rw [er, if_neg (by simp [n1]), er, if_neg (by simp [d4]), er]
        exact r2
    · refine g_aload_0 h dX12_readAbove_22 ?_
      refine g_getP h fl_X12_91 dX12_readAbove_23 rfl rfl (by assumption) ?_
      refine g_iload_2 h dX12_readAbove_26 ?_
      refine g_cVi1 h rok0 mi_X11_deep dX12_readAbove_27 ml_X12_254 rfl rfl rfl (Nat.le_of_ble_eq_true rfl) (Nat.le_of_ble_eq_true rfl) (sp_deep r2.2.1.1.2.2.1 (fun k hk => ⟨(r2.2.1.2.2.2.1 k hk).2.1, (r2.2.1.2.2.2.1 k hk).2.2.2⟩) hcc ?_)
      refine g_iconst h dX12_readAbove_30 (v := nI 4) rfl ?_
      refine g_icmp_ne h 40 dX12_readAbove_31 rfl (fun c31 => ?_) (fun c31 => ?_)
      · refine g_aload_0 h dX12_readAbove_40 ?_
        refine g_cVi0 h rok0 mi_X12_isOk dX12_readAbove_41 ml_X12_121 rfl rfl rfl (Nat.le_of_ble_eq_true rfl) (Nat.le_of_ble_eq_true rfl) (sp_isOk_al r2.1.2.1 ?_)
        refine g_if_eq h 51 dX12_readAbove_44 rfl (fun c => absurd c (by decide)) (fun _ => ?_)
        refine g_iload_2 h dX12_readAbove_47 ?_
        refine g_goto h 52 dX12_readAbove_48 rfl ?_
        refine g_iret h dX12_readAbove_52 ?_
        refine hQ1 q I2 f2 ?_
        by_cases n1 : lkT wd T 1 p = -1
        · rw [er, if_pos (by simp [n1])]
          rw [if_pos n1] at r2
          exact r2
        · rw [if_neg n1] at r2
          have d4 : ¬ dpt (T 3) 17 (lkT wd T 1 p) = 4 := by
            first
              | exact fun w => absurd (by first | exact c19 | exact Classical.not_not.mp c19) n1
              | exact fun w => c31 (by rw [w])
          rw [er, if_neg (by simp [n1]), er, if_neg (by simp [d4]), er]
          exact r2
      · refine g_aload_0 h dX12_readAbove_34 ?_
        refine g_iconst h dX12_readAbove_35 (v := nI 5) rfl ?_
        refine g_iload_1 h dX12_readAbove_36 ?_
        refine g_cVv2 h rok0 mi_X12_tell dX12_readAbove_37 ml_X12_151 rfl rfl rfl (Nat.le_of_ble_eq_true rfl) (Nat.le_of_ble_eq_true rfl) (sp_tell (by decide) (by omega) r2.1.2.2.2.2.1 (fun I3 f3 e3 => ?_))
        · have n1 : ¬ lkT wd T 1 p = -1 := by first | exact c19 | exact fun w => c19 w
          have d4 : dpt (T 3) 17 (lkT wd T 1 p) = 4 := eqN (by first | exact c31 | exact Classical.not_not.mp c31) (by have := dpt_le (u := T 3) 17 (lkT wd T 1 p); omega) (by decide)
          rw [if_neg n1, Option.or_none, tl_or hx] at e3
          rw [if_neg n1, Option.or_none] at r2
          obtain ⟨s1, s2⟩ := r2.1.tell f3 e3 (or_lt hx (q := p + 1) (fun w hw => by rw [← Option.some.inj hw]; exact Nat.lt_succ_self p) (by omega))
          refine g_aload_0 h dX12_readAbove_40 ?_
          refine g_cVi0 h rok0 mi_X12_isOk dX12_readAbove_41 ml_X12_121 rfl rfl rfl (Nat.le_of_ble_eq_true rfl) (Nat.le_of_ble_eq_true rfl) (sp_isOk_al s1.2.1 ?_)
          refine g_if_eq h 51 dX12_readAbove_44 rfl (fun c => absurd c (by decide)) (fun _ => ?_)
          refine g_iload_2 h dX12_readAbove_47 ?_
          refine g_goto h 52 dX12_readAbove_48 rfl ?_
          refine g_iret h dX12_readAbove_52 ?_
          refine hQ1 q I3 (f2.tr s2 (Nat.le_refl _)) ?_
          rw [er, if_neg (by simp [n1]), er, if_pos (by simp [d4])]
          exact r2.fr s1 s2
  · refine g_istore_2 h dX12_readAbove_9 (by decide) rfl ?_
    refine g_aload_0 h dX12_readAbove_10 ?_
    refine g_cVi0 h rok0 mi_X12_isOk dX12_readAbove_11 ml_X12_121 rfl rfl rfl (Nat.le_of_ble_eq_true rfl) (Nat.le_of_ble_eq_true rfl) (sp_isOk_dd (f := p) (by omega) up2_s ?_)
    refine g_if_eq h 40 dX12_readAbove_14 rfl (fun _ => ?_) (fun c => absurd c (by decide))
    refine g_aload_0 h dX12_readAbove_40 ?_
    refine g_cVi0 h rok0 mi_X12_isOk dX12_readAbove_41 ml_X12_121 rfl rfl rfl (Nat.le_of_ble_eq_true rfl) (Nat.le_of_ble_eq_true rfl) (sp_isOk_dd (f := p) (by omega) up2_s ?_)
    refine g_if_eq h 51 dX12_readAbove_44 rfl (fun _ => ?_) (fun c => absurd c (by decide))
    refine g_iconst h dX12_readAbove_51 (v := (-1)) rfl ?_
    refine g_iret h dX12_readAbove_52 ?_
    exact hQ0 q
