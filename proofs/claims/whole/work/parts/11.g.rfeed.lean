/-! Bytes: both tapes are fed -/
def shI (i : Nat) : Int32 := if i = 0 then nI 24 else if i = 1 then nI 16 else if i = 2 then nI 8 else if i = 3 then nI 0 else -8
def bts (x : Int32) (i : Nat) : Nat := x.toBitVec.toNat / 2 ^ (24 - 8 * i) % 256
theorem shI_s : ∀ i, i < 4 → shI i + Int32.ofInt (-8) = shI (i + 1) := by decide
theorem shI_n : ∀ i, i < 4 → ¬ shI i < 0 := by decide
theorem bts_lt (x : Int32) (i : Nat) : bts x i < 256 := Nat.mod_lt _ (by decide)
theorem toInt8_eq {a b : Int32} (h : a.toBitVec.toNat % 256 = b.toBitVec.toNat % 256) : a.toInt8 = b.toInt8 := by
  apply Int8.toBitVec_inj.mp
  show a.toBitVec.signExtend 8 = b.toBitVec.signExtend 8
  rw [BitVec.signExtend_eq_setWidth_of_le _ (by decide), BitVec.signExtend_eq_setWidth_of_le _ (by decide)]
  apply BitVec.eq_of_toNat_eq
  rw [BitVec.toNat_setWidth, BitVec.toNat_setWidth]
  exact h
theorem bt_c (x : Int32) : ∀ i, i < 4 → ((x.toUInt32 >>> ((shI i).toUInt32 &&& Int32.toUInt32 31)).toInt32).toInt8.toInt32 = (nI (bts x i)).toInt8.toInt32 := by
  intro i hi
  have key : ∀ (s : Int32) (k : Nat), ((s.toUInt32 &&& Int32.toUInt32 31).toBitVec % 32).toNat = k → bts x i = x.toBitVec.toNat / 2 ^ k % 256 → ((x.toUInt32 >>> (s.toUInt32 &&& Int32.toUInt32 31)).toInt32).toInt8.toInt32 = (nI (bts x i)).toInt8.toInt32 := fun s k hs hb => by
    rw [toInt8_eq (b := nI (bts x i))]
    rw [pk_ushr x s k hs, pk_tn (by have := bts_lt x i; omega), hb, Nat.mod_mod]
  rcases (show i = 0 ∨ i = 1 ∨ i = 2 ∨ i = 3 by omega) with rfl | rfl | rfl | rfl
  · exact key (nI 24) 24 (by decide) rfl
  · exact key (nI 16) 16 (by decide) rfl
  · exact key (nI 8) 8 (by decide) rfl
  · exact key (nI 0) 0 (by decide) rfl
theorem bt_r (x : Int32) : ∀ i, i < 4 → (x >>> (shI i &&& 31)) &&& nI 255 = nI (bts x i) := by
  intro i hi
  have key : ∀ (s : Int32) (k : Nat), (s.toBitVec.smod 32).toNat = k → (k = 24 ∨ k = 16 ∨ k = 8 ∨ k = 0) → bts x i = x.toBitVec.toNat / 2 ^ k % 256 → (x >>> s) &&& nI 255 = nI (bts x i) := fun s k hs hk hb => by
    rw [pk_and (x >>> s) 8 (by decide), hb]
    congr 1
    have h1 : (x >>> s).toInt = x.toInt >>> k := pk_shr x s k hs
    rw [Int.shiftRight_eq_div_pow] at h1
    have h2 : (x >>> s).toInt = if 2 * (x >>> s).toBitVec.toNat < 2 ^ 32 then ((x >>> s).toBitVec.toNat : Int) else ((x >>> s).toBitVec.toNat : Int) - (2 ^ 32 : Nat) := BitVec.toInt_eq_toNat_cond _
    have h3 : x.toInt = if 2 * x.toBitVec.toNat < 2 ^ 32 then (x.toBitVec.toNat : Int) else (x.toBitVec.toNat : Int) - (2 ^ 32 : Nat) := BitVec.toInt_eq_toNat_cond _
    have l1 := (x >>> s).toBitVec.isLt
    have l2 := x.toBitVec.isLt
    generalize (x >>> s).toInt = r at h1 h2
    generalize x.toInt = y at h1 h3
    generalize (x >>> s).toBitVec.toNat = n at h2 l1 ⊢
    generalize x.toBitVec.toNat = m at h3 l2 ⊢
    rcases hk with rfl | rfl | rfl | rfl
    all_goals (simp only [Nat.reducePow, Int.reducePow] at h1 h2 h3 l1 l2 ⊢)
    all_goals (split at h2 <;> split at h3 <;> omega)
  rcases (show i = 0 ∨ i = 1 ∨ i = 2 ∨ i = 3 by omega) with rfl | rfl | rfl | rfl
  · exact key (nI 24 &&& 31) 24 (by decide) (by decide) rfl
  · exact key (nI 16 &&& 31) 16 (by decide) (by decide) rfl
  · exact key (nI 8 &&& 31) 8 (by decide) (by decide) rfl
  · exact key (nI 0 &&& 31) 0 (by decide) (by decide) rfl
/-- the tape with the bytes of a number behind it -/
def apT (Tp : Nat → Nat) (L : Nat) (x : Int32) : Nat → Nat := fun j => if j < L then Tp j else bts x (j - L)
def fdT (Tp : Nat → Nat) (L : Nat) (a b c d e : Int32) : Nat → Nat := apT (apT (apT (apT (apT Tp L a) (L + 4) b) (L + 8) c) (L + 12) d) (L + 16) e
set_option maxRecDepth 100000 in
set_option maxHeartbeats 4000000 in
theorem lp_X12_append {Γ : Cx} {Tp : Nat → Nat} {d L : Nat} {I0 : MI} {J : MJ} {P : MP} {x : Int32} (hL : L + 4 ≤ 2000) {Q : MI → MJ → MP → Prop} (hQ : ∀ I', I' 80 2 = nI (L + 4) → (∀ j, j < L + 4 → I' 81 j = nI (apT Tp L x j)) → (∀ a, a ≠ 80 → a ≠ 81 → I' a = I0 a) → (∀ j, j ≠ 2 → I' 80 j = I0 80 j) → Q I' J P) (h : Vc RX12 cX12_append 3 none (d) Γ) : ∀ (f i : Nat) (I : MI), i + f = 4 → I 80 2 = nI (L + i) → (∀ j, j < L + i → I 81 j = nI (apT Tp L x j)) → (∀ a, a ≠ 80 → a ≠ 81 → I a = I0 a) → (∀ j, j ≠ 2 → I 80 j = I0 80 j) → VG Γ 0 0 3 [some (.ref 80), some (.int x), some (.int (shI i))] [] I J P (Fnl Γ (Qv Q)) := by
  intro f
  induction f with
  | zero =>
    intro i I hi h1 h2 h3 h4
    obtain rfl : i = 4 := by omega
    refine g_iload_2 h dX12_append_3 ?_
    refine g_if_lt h 39 dX12_append_4 rfl (fun _ => ?_) (fun c => absurd (by decide) c)
    refine g_vret h dX12_append_39 ?_
    exact hQ I h1 h2 h3 h4
  | succ f ih =>
    intro i I hi h1 h2 h3 h4
    refine g_iload_2 h dX12_append_3 ?_
    refine g_if_lt h 39 dX12_append_4 rfl (fun c => absurd c (shI_n i (by omega))) (fun _ => ?_)
    refine g_aload_0 h dX12_append_7 ?_
    refine g_getC h fl_X12_18 dX12_append_8 rfl rfl ?_
    refine g_aload_0 h dX12_append_11 ?_
    refine g_getI h fl_X12_7 dX12_append_12 rfl rfl ?_
    refine g_iload_1 h dX12_append_15 ?_
    refine g_iload_2 h dX12_append_16 ?_
    refine g_ishr h dX12_append_17 ?_
    refine g_sipush h dX12_append_18 (v := nI 255) rfl ?_
    refine g_iand h dX12_append_21 ?_
    rw [bt_r x i (by omega)]
    refine g_iast h (L + i) dX12_append_22 rfl h1 (by omega) ?_
    refine g_aload_0 h dX12_append_23 ?_
    refine g_dup h dX12_append_24 rfl ?_
    refine g_getI h fl_X12_7 dX12_append_25 rfl rfl ?_
    refine g_iconst h dX12_append_28 (v := nI 1) rfl ?_
    refine g_iadd h dX12_append_29 ?_
    rw [show up2 I 81 (L + i) (nI (bts x i)) 80 2 = nI (L + i) by rw [up2_o (by decide)]; exact h1, show nI (L + i) + nI 1 = nI (L + (i + 1)) from nI_1 (L + i)]
    refine g_putI h fp_X12_7 dX12_append_30 rfl rfl ?_
    refine g_iinc_2 h dX12_append_33 (shI_s i (by omega)) (by decide) rfl ?_
    refine g_goto h 3 dX12_append_36 rfl ?_
    refine ih (i + 1) _ (by omega) up2_s (fun j hj => ?_) (fun a a1 a2 => by rw [up2_o a1, up2_o a2]; exact h3 a a1 a2) (fun j hj => by rw [up2_n hj, up2_o (by decide)]; exact h4 j hj)
    rw [up2_o (by decide)]
    by_cases e : j = L + i
    · rw [e, up2_s, apT, if_neg (by omega), Nat.add_sub_cancel_left]
    · rw [up2_n e]
      exact h2 j (by omega)
set_option maxRecDepth 100000 in
set_option maxHeartbeats 4000000 in
theorem sp_X12_append {Tp : Nat → Nat} {d L : Nat} {x : Int32} {I : MI} {J : MJ} {P : MP} (hT : rtO Tp L I) (hL : L + 4 ≤ 2000) {Q : MI → MJ → MP → Prop} (hQ : ∀ I', rtO (apT Tp L x) (L + 4) I' → (∀ a, a ≠ 80 → a ≠ 81 → I' a = I a) → (∀ j, j ≠ 2 → I' 80 j = I 80 j) → Q I' J P) : Sp yX12_append cX12_append 3 none (d) [.ref 80, .int x] I J P (Qv Q) := by
  intro Γ h
  show VG Γ 0 0 0 [some (.ref 80), some (.int x), none] [] _ _ _ _
  refine g_bipush h dX12_append_0 (v := nI 24) rfl ?_
  refine g_istore_2 h dX12_append_2 (by decide) rfl ?_
  refine lp_X12_append (Tp := Tp) hL (fun I' e1 e2 e3 e4 => hQ I' ⟨e1, hL, fun j hj => ⟨e2 j hj, ?_⟩⟩ e3 e4) h 4 0 I (by decide) hT.1 (fun j hj => ?_) (fun _ _ _ => rfl) (fun _ _ => rfl)
  · unfold apT
    by_cases c : j < L
    · rw [if_pos c]; exact (hT.2.2 j c).2
    · rw [if_neg c]; exact bts_lt _ _
  · rw [apT, if_pos (by omega)]
    exact (hT.2.2 j (by omega)).1
set_option maxRecDepth 100000 in
set_option maxHeartbeats 4000000 in
theorem sp_X12_feed {Tp : Nat → Nat} {d L : Nat} {a b c d0 e : Int32} {I : MI} {J : MJ} {P : MP} (hT : rtO Tp L I) {Q : Int32 → MI → MJ → MP → Prop} (hQ1 : L + 20 ≤ 2000 → ∀ I', rtO (fdT Tp L a b c d0 e) (L + 20) I' → (∀ k, k ≠ 80 → k ≠ 81 → I' k = I k) → (∀ j, j ≠ 2 → I' 80 j = up2 I 80 0 (nI 0) 80 j) → Q (nI (L + 20)) I' J P) (hQ0 : ¬ L + 20 ≤ 2000 → Q (nI 0) (up2 (up2 I 80 0 (nI 0)) 80 0 (nI 1)) J P) : Sp yX12_feed cX12_feed 6 (some .int) (d + 1) [.ref 80, .int a, .int b, .int c, .int d0, .int e] I J P (Qi Q) := by
  intro Γ h
  show VG Γ 0 0 0 [some (.ref 80), some (.int a), some (.int b), some (.int c), some (.int d0), some (.int e)] [] _ _ _ _
  have hT0 : rtO Tp L (up2 I 80 0 (nI 0)) := ⟨by rw [up2_n (by decide)]; exact hT.1, hT.2.1, by rw [up2_o (by decide)]; exact hT.2.2⟩
  have hl := hT.2.1
  by_cases hc : L + 20 ≤ 2000
  · refine g_aload_0 h dX12_feed_0 ?_
    refine g_iconst h dX12_feed_1 (v := nI 0) rfl ?_
    refine g_putI h fp_X12_1 dX12_feed_2 rfl rfl ?_
    refine g_aload_0 h dX12_feed_5 ?_
    refine g_getI h fl_X12_7 dX12_feed_6 rfl rfl ?_
    refine g_bipush h dX12_feed_9 (v := nI 20) rfl ?_
    refine g_iadd h dX12_feed_11 ?_
    rw [hT0.1, nI_add]
    refine g_sipush h dX12_feed_12 (v := nI 2000) rfl ?_
    refine g_icmp_le h 24 dX12_feed_15 rfl (fun _ => ?_) (fun c => absurd (nI_le hc (by decide)) c)
    refine g_aload_0 h dX12_feed_24 ?_
    refine g_iload_1 h dX12_feed_25 ?_
    refine g_cVv1 h rok0 mi_X12_append dX12_feed_26 ml_X12_14 rfl rfl rfl (Nat.le_of_ble_eq_true rfl) (Nat.le_of_ble_eq_true rfl) (sp_X12_append hT0 (by omega) (fun I1 t1 o1 p1 => ?_))
    refine g_aload_0 h dX12_feed_29 ?_
    refine g_iload_2 h dX12_feed_30 ?_
    refine g_cVv1 h rok0 mi_X12_append dX12_feed_31 ml_X12_14 rfl rfl rfl (Nat.le_of_ble_eq_true rfl) (Nat.le_of_ble_eq_true rfl) (sp_X12_append t1 (by omega) (fun I2 t2 o2 p2 => ?_))
    refine g_aload_0 h dX12_feed_34 ?_
    refine g_iload_3 h dX12_feed_35 ?_
    refine g_cVv1 h rok0 mi_X12_append dX12_feed_36 ml_X12_14 rfl rfl rfl (Nat.le_of_ble_eq_true rfl) (Nat.le_of_ble_eq_true rfl) (sp_X12_append t2 (by omega) (fun I3 t3 o3 p3 => ?_))
    refine g_aload_0 h dX12_feed_39 ?_
    refine g_iload_4 h dX12_feed_40 ?_
    refine g_cVv1 h rok0 mi_X12_append dX12_feed_42 ml_X12_14 rfl rfl rfl (Nat.le_of_ble_eq_true rfl) (Nat.le_of_ble_eq_true rfl) (sp_X12_append t3 (by omega) (fun I4 t4 o4 p4 => ?_))
    refine g_aload_0 h dX12_feed_45 ?_
    refine g_iload_5 h dX12_feed_46 ?_
    refine g_cVv1 h rok0 mi_X12_append dX12_feed_48 ml_X12_14 rfl rfl rfl (Nat.le_of_ble_eq_true rfl) (Nat.le_of_ble_eq_true rfl) (sp_X12_append t4 (by omega) (fun I5 t5 o5 p5 => ?_))
    refine g_aload_0 h dX12_feed_51 ?_
    refine g_getI h fl_X12_7 dX12_feed_52 rfl rfl ?_
    refine g_iret h dX12_feed_55 ?_
    rw [t5.1]
    exact hQ1 hc I5 t5 (fun k k1 k2 => by rw [o5 k k1 k2, o4 k k1 k2, o3 k k1 k2, o2 k k1 k2, o1 k k1 k2, up2_o k1]) (fun j hj => by rw [p5 j hj, p4 j hj, p3 j hj, p2 j hj, p1 j hj])
  · refine g_aload_0 h dX12_feed_0 ?_
    refine g_iconst h dX12_feed_1 (v := nI 0) rfl ?_
    refine g_putI h fp_X12_1 dX12_feed_2 rfl rfl ?_
    refine g_aload_0 h dX12_feed_5 ?_
    refine g_getI h fl_X12_7 dX12_feed_6 rfl rfl ?_
    refine g_bipush h dX12_feed_9 (v := nI 20) rfl ?_
    refine g_iadd h dX12_feed_11 ?_
    rw [hT0.1, nI_add]
    refine g_sipush h dX12_feed_12 (v := nI 2000) rfl ?_
    refine g_icmp_le h 24 dX12_feed_15 rfl (fun c => absurd (leN c (by omega) (by decide)) hc) (fun _ => ?_)
    refine g_aload_0 h dX12_feed_18 ?_
    refine g_iconst h dX12_feed_19 (v := nI 1) rfl ?_
    refine g_cVi1 h rok0 mi_X12_no dX12_feed_20 ml_X12_10 rfl rfl rfl (Nat.le_of_ble_eq_true rfl) (Nat.le_of_ble_eq_true rfl) (sp_X12_no ?_)
    refine g_iret h dX12_feed_23 ?_
    exact hQ0 hc
set_option maxRecDepth 100000 in
set_option maxHeartbeats 4000000 in
theorem lp_X6_append {Γ : Cx} {Tp : Nat → Nat} {d L : Nat} {I0 : MI} {J : MJ} {P : MP} {x : Int32} (hL : L + 4 ≤ 2000) {Q : MI → MJ → MP → Prop} (hQ : ∀ I', I' 1 1 = nI (L + 4) → (∀ j, j < L + 4 → I' 2 j = (nI (apT Tp L x j)).toInt8.toInt32) → (∀ a, a ≠ 1 → a ≠ 2 → I' a = I0 a) → Q I' J P) (h : Vc RX6 cX6_append 3 none (d) Γ) : ∀ (f i : Nat) (I : MI), i + f = 4 → I 1 1 = nI (L + i) → (∀ j, j < L + i → I 2 j = (nI (apT Tp L x j)).toInt8.toInt32) → (∀ a, a ≠ 1 → a ≠ 2 → I a = I0 a) → VG Γ 0 0 3 [some (.ref 1), some (.int x), some (.int (shI i))] [] I J P (Fnl Γ (Qv Q)) := by
  intro f
  induction f with
  | zero =>
    intro i I hi h1 h2 h3
    obtain rfl : i = 4 := by omega
    refine g_iload_2 h dX6_append_3 ?_
    refine g_if_lt h 46 dX6_append_4 rfl (fun _ => ?_) (fun c => absurd (by decide) c)
    refine g_vret h dX6_append_46 ?_
    exact hQ I h1 h2 h3
  | succ f ih =>
    intro i I hi h1 h2 h3
    refine g_iload_2 h dX6_append_3 ?_
    refine g_if_lt h 46 dX6_append_4 rfl (fun c => absurd c (shI_n i (by omega))) (fun _ => ?_)
    refine g_aload_0 h dX6_append_7 ?_
    refine g_getI h fl_X6_13 dX6_append_8 rfl rfl ?_
    refine g_sipush h dX6_append_11 (v := nI 2000) rfl ?_
    refine g_icmp_ge h 46 dX6_append_14 rfl (fun c => absurd (leN (a := 2000) (by rw [h1] at c; exact c) (by decide) (by omega)) (by omega)) (fun _ => ?_)
    refine g_aload_0 h dX6_append_17 ?_
    refine g_getC h fl_X6_9 dX6_append_18 rfl rfl ?_
    refine g_aload_0 h dX6_append_21 ?_
    refine g_getI h fl_X6_13 dX6_append_22 rfl rfl ?_
    refine g_iload_1 h dX6_append_25 ?_
    refine g_iload_2 h dX6_append_26 ?_
    refine g_iushr h dX6_append_27 rfl ?_
    refine g_i2b h dX6_append_28 ?_
    rw [bt_c x i (by omega)]
    refine g_bast h (L + i) dX6_append_29 rfl h1 (by omega) ?_
    rw [pk_vb]
    refine g_aload_0 h dX6_append_30 ?_
    refine g_dup h dX6_append_31 rfl ?_
    refine g_getI h fl_X6_13 dX6_append_32 rfl rfl ?_
    refine g_iconst h dX6_append_35 (v := nI 1) rfl ?_
    refine g_iadd h dX6_append_36 ?_
    rw [show up2 I 2 (L + i) (nI (bts x i)).toInt8.toInt32 1 1 = nI (L + i) by rw [up2_o (by decide)]; exact h1, show nI (L + i) + nI 1 = nI (L + (i + 1)) from nI_1 (L + i)]
    refine g_putI h fp_X6_13 dX6_append_37 rfl rfl ?_
    refine g_iinc_2 h dX6_append_40 (shI_s i (by omega)) (by decide) rfl ?_
    refine g_goto h 3 dX6_append_43 rfl ?_
    refine ih (i + 1) _ (by omega) up2_s (fun j hj => ?_) (fun a a1 a2 => by rw [up2_o a1, up2_o a2]; exact h3 a a1 a2)
    rw [up2_o (by decide)]
    by_cases e : j = L + i
    · rw [e, up2_s, apT, if_neg (by omega), Nat.add_sub_cancel_left]
    · rw [up2_n e]
      exact h2 j (by omega)
set_option maxRecDepth 100000 in
set_option maxHeartbeats 4000000 in
theorem sp_X6_append {Tp : Nat → Nat} {d L : Nat} {x : Int32} {I : MI} {J : MJ} {P : MP} (hT : tpO Tp L I) (hL : L + 4 ≤ 2000) {Q : MI → MJ → MP → Prop} (hQ : ∀ I', tpO (apT Tp L x) (L + 4) I' → (∀ a, a ≠ 1 → a ≠ 2 → I' a = I a) → Q I' J P) : Sp yX6_append cX6_append 3 none (d) [.ref 1, .int x] I J P (Qv Q) := by
  intro Γ h
  show VG Γ 0 0 0 [some (.ref 1), some (.int x), none] [] _ _ _ _
  refine g_bipush h dX6_append_0 (v := nI 24) rfl ?_
  refine g_istore_2 h dX6_append_2 (by decide) rfl ?_
  refine lp_X6_append (Tp := Tp) hL (fun I' e1 e2 e3 => hQ I' ⟨e1, hL, fun j hj => ⟨e2 j hj, ?_⟩⟩ e3) h 4 0 I (by decide) hT.1 (fun j hj => ?_) (fun _ _ _ => rfl)
  · unfold apT
    by_cases c : j < L
    · rw [if_pos c]; exact (hT.2.2 j c).2
    · rw [if_neg c]; exact bts_lt _ _
  · rw [apT, if_pos (by omega)]
    exact (hT.2.2 j (by omega)).1
def adF (wk : Nat → Int32) : Nat → Nat → Int32 → Int32 → Int32
  | 0, _, best, _ => best
  | f + 1, k, best, least => if wk k < least then adF wk f (k + 1) (nI k) (wk k) else adF wk f (k + 1) best least
def wrB (B : MI) (row : Nat → Int32) : Int32 := sumF (fun a => b2i (wrgB (row (19 + a)) (dueB B row a))) (nT B) 0 (nI 0)
def a35 (r r0 : Nat → Int32) : Prop := ∀ j, j < 35 → r j = r0 j
set_option maxRecDepth 100000 in
set_option maxHeartbeats 4000000 in
theorem lp_X12_advise {Γ : Cx} {d m : Nat} {I0 : MI} {J : MJ} {P : MP} (hm : m ≤ 90) (hB : P 80 8 = some 93) {ts : Nat → Option EX} {es : Nat → EX} {wk : Nat → Int32} {v : Int32} {Q : Int32 → MI → MJ → MP → Prop} (hQ : ∀ I', (∀ b, b ≠ 92 → I' b = I0 b) → Q v I' J P) (hK0 : bkOK (bv I0)) (ho0 : ∀ q, q < nO (bv I0) → orK (bv I0) q (ts q) (es q)) (hwk : ∀ k, k < nK (bv I0) → ∀ r, a35 r (I0 91) → wrB (bv I0) (psR (bv I0) ts es m (upd r (25 + k) (nI 0))) = wk k) (h : Vc RX12 cX12_advise 5 (some .int) (d + 412) Γ) : ∀ (f k : Nat) (I : MI) (be le : Int32), k + f = nK (bv I0) → (∀ b, b ≠ 92 → I b = I0 b) → adF wk f k be le = v → VG Γ 0 0 48 [some (.ref 80), some (.int (nI m)), some (.int le), some (.int be), some (.int (nI k))] [] I J P (Fnl Γ (Qi Q)) := by
  have hKn := (bk_K hK0).1
  have hK5 := (bk_K hK0).2
  have ebv : ∀ I : MI, (∀ b, b ≠ 92 → I b = I0 b) → bv I = bv I0 := fun I hI => funext fun a => hI _ (by omega)
  intro f
  induction f with
  | zero =>
    intro k I be le hk hI hv
    refine g_iload_4 h dX12_advise_48 ?_
    refine g_aload_0 h dX12_advise_50 ?_
    refine g_getP h fl_X12_87 dX12_advise_51 rfl rfl (by assumption) ?_
    refine g_getI h fl_X12_167 dX12_advise_54 rfl rfl ?_
    refine g_icmp_ge h 117 dX12_advise_57 rfl (fun _ => ?_) (fun c => absurd (by rw [hI 93 (by decide), hKn]; exact nI_le (by omega) (by omega)) c)
    refine g_iload_3 h dX12_advise_117 ?_
    refine g_iret h dX12_advise_118 ?_
    exact q_i hv (hQ I hI)
  | succ f ih =>
    intro k I be le hk hI hv
    have hK : bkOK (bv I) := by rw [ebv I hI]; exact hK0
    rw [adF] at hv
    generalize hc : va_cpy (I 91) (I 92) 0 0 35 = cp
    have hcp : a35 cp (I0 91) := fun j hj => by rw [← hc, cpy_in hj, hI 91 (by decide)]
    have hw := hwk k (by omega) cp hcp
    have i1 : ∀ b, b ≠ 92 → setRow I 92 cp b = I0 b := fun b hb => (setRow_o hb).trans (hI b hb)
    have i2 : ∀ b, b ≠ 92 → up2 (setRow I 92 cp) 92 (25 + k) (nI 0) b = I0 b := fun b hb => (up2_o hb).trans (i1 b hb)
    have e2 : up2 (setRow I 92 cp) 92 (25 + k) (nI 0) 92 = upd cp (25 + k) (nI 0) := by rw [up2_row, setRow_s, setRow_s]
    have i3 : ∀ b, b ≠ 92 → setRow (up2 (setRow I 92 cp) 92 (25 + k) (nI 0)) 92 (psR (bv I0) ts es m (upd cp (25 + k) (nI 0))) b = I0 b := fun b hb => (setRow_o hb).trans (i2 b hb)
    have WR : ∀ (d' : Nat) (Q' : Int32 → MI → MJ → MP → Prop), Q' (wk k) (setRow (up2 (setRow I 92 cp) 92 (25 + k) (nI 0)) 92 (psR (bv I0) ts es m (upd cp (25 + k) (nI 0)))) J P → Sp yX12_wrongs cX12_wrongs 4 (some .int) (d' + 7) [.ref 80, .ref 92] (setRow (up2 (setRow I 92 cp) 92 (25 + k) (nI 0)) 92 (psR (bv I0) ts es m (upd cp (25 + k) (nI 0)))) J P (Qi Q') := fun d' Q' hq => by
      have eb := ebv _ i3
      refine sp_X12_wrongs (Tn := nT (bv I0)) (Or.inr rfl) hB (by rw [eb]; exact hK0) (by rw [eb]) (by rw [i3 93 (by decide)]; exact (bk_T hK0).1) (bk_T hK0).2 ?_
      rw [eb, setRow_s]
      exact q_i hw hq
    refine g_iload_4 h dX12_advise_48 ?_
    refine g_aload_0 h dX12_advise_50 ?_
    refine g_getP h fl_X12_87 dX12_advise_51 rfl rfl (by assumption) ?_
    refine g_getI h fl_X12_167 dX12_advise_54 rfl rfl ?_
    refine g_icmp_ge h 117 dX12_advise_57 rfl (fun c => absurd (leN (by rw [hI 93 (by decide), hKn] at c; exact c) (by omega) (by omega)) (by omega)) (fun _ => ?_)
    refine g_aload_0 h dX12_advise_60 ?_
    refine g_cVv0 h rok0 mi_X12_lookAhead dX12_advise_61 ml_X12_411 rfl rfl rfl (Nat.le_of_ble_eq_true rfl) (Nat.le_of_ble_eq_true rfl) (sp_X12_lookAhead ?_)
    rw [hc]
    refine g_aload_0 h dX12_advise_64 ?_
    refine g_getC h fl_X12_112 dX12_advise_65 rfl rfl ?_
    refine g_bipush h dX12_advise_68 (v := nI 25) rfl ?_
    refine g_iload_4 h dX12_advise_70 ?_
    refine g_iadd h dX12_advise_72 ?_
    refine g_iconst h dX12_advise_73 (v := nI 0) rfl ?_
    refine g_iast h (25 + k) dX12_advise_74 rfl (nI_add 25 k) (by omega) ?_
    refine g_aload_0 h dX12_advise_75 ?_
    refine g_aload_0 h dX12_advise_76 ?_
    refine g_getC h fl_X12_112 dX12_advise_77 rfl rfl ?_
    refine g_iload_1 h dX12_advise_80 ?_
    refine g_cVv2 h rok0 mi_X12_passAll dX12_advise_81 ml_X12_408 rfl rfl rfl (Nat.le_of_ble_eq_true rfl) (Nat.le_of_ble_eq_true rfl) (sp_X12_passAll (m := m) (by omega) (Or.inr rfl) hB (by rw [ebv _ i2]; exact hK0) (ts := ts) (es := es) (by rw [ebv _ i2]; exact ho0) ?_)
    rw [ebv _ i2, e2]
    refine g_aload_0 h dX12_advise_84 ?_
    refine g_aload_0 h dX12_advise_85 ?_
    refine g_getC h fl_X12_112 dX12_advise_86 rfl rfl ?_
    refine g_cVi1 h rok0 mi_X12_wrongs dX12_advise_89 ml_X12_353 rfl rfl rfl (Nat.le_of_ble_eq_true rfl) (Nat.le_of_ble_eq_true rfl) (WR _ _ ?_)
    refine g_iload_2 h dX12_advise_92 ?_
    refine g_icmp_lt h 99 dX12_advise_93 rfl (fun c93 => ?_) (fun c93 => ?_)
    · refine g_iload_4 h dX12_advise_99 ?_
      refine g_istore_3 h dX12_advise_101 (by decide) rfl ?_
      refine g_aload_0 h dX12_advise_102 ?_
      refine g_aload_0 h dX12_advise_103 ?_
      refine g_getC h fl_X12_112 dX12_advise_104 rfl rfl ?_
      refine g_cVi1 h rok0 mi_X12_wrongs dX12_advise_107 ml_X12_353 rfl rfl rfl (Nat.le_of_ble_eq_true rfl) (Nat.le_of_ble_eq_true rfl) (WR _ _ ?_)
      refine g_istore_2 h dX12_advise_110 (by decide) rfl ?_
      refine g_iinc_4 h dX12_advise_111 (inc1 _) (by decide) rfl ?_
      refine g_goto h 48 dX12_advise_114 rfl ?_
      first
        | exact ih (k + 1) _ _ _ (by omega) i3 (by rw [if_pos (show wk k < le by first | exact c93 | exact Int32.not_le.mp c93)] at hv; exact hv)
        | exact ih (k + 1) _ _ _ (by omega) i3 (by rw [if_neg (show ¬ wk k < le from c93)] at hv; exact hv)
    · refine g_goto h 111 dX12_advise_96 rfl ?_
      refine g_iinc_4 h dX12_advise_111 (inc1 _) (by decide) rfl ?_
      refine g_goto h 48 dX12_advise_114 rfl ?_
      first
        | exact ih (k + 1) _ _ _ (by omega) i3 (by rw [if_pos (show wk k < le by first | exact c93 | exact Int32.not_le.mp c93)] at hv; exact hv)
        | exact ih (k + 1) _ _ _ (by omega) i3 (by rw [if_neg (show ¬ wk k < le from c93)] at hv; exact hv)
set_option maxRecDepth 100000 in
set_option maxHeartbeats 4000000 in
theorem sp_X12_advise {d : Nat} {x : Int32} {I : MI} {J : MJ} {P : MP} (hB : P 80 8 = some 93) (hK : bkOK (bv I)) {ts : Nat → Option EX} {es : Nat → EX} (ho : ∀ q, q < nO (bv I) → orK (bv I) q (ts q) (es q)) {w0 : Nat → Int32} {wk : Nat → Nat → Int32} (hw0 : ∀ m, m ≤ 90 → ∀ r, a35 r (I 91) → wrB (bv I) (psR (bv I) ts es m r) = w0 m) (hwk : ∀ m, m ≤ 90 → ∀ k, k < nK (bv I) → ∀ r, a35 r (I 91) → wrB (bv I) (psR (bv I) ts es m (upd r (25 + k) (nI 0))) = wk m k) {Q : Int32 → MI → MJ → MP → Prop} (hQ1 : ∀ m, 1 ≤ m → m ≤ 90 → x = nI m → ∀ I', (∀ b, b ≠ 92 → I' b = up2 I 80 0 (nI 0) b) → Q (adF (wk m) (nK (bv I)) 0 (-1) (w0 m)) I' J P) (hQ0 : (¬ ∃ m, 1 ≤ m ∧ m ≤ 90 ∧ x = nI m) → Q (nI 0) (up2 (up2 I 80 0 (nI 0)) 80 0 (nI 1)) J P) : Sp yX12_advise cX12_advise 5 (some .int) (d + 412) [.ref 80, .int x] I J P (Qi Q) := by
  intro Γ h
  show VG Γ 0 0 0 [some (.ref 80), some (.int x), none, none, none] [] _ _ _ _
  have hB1 : P 80 8 = some 93 := hB
  have hK1 : bkOK (bv (up2 I 80 0 (nI 0))) := by rw [bv80]; exact hK
  have e91 : up2 I 80 0 (nI 0) 91 = I 91 := up2_o (by decide)
  have e93 : up2 I 80 0 (nI 0) 93 = I 93 := up2_o (by decide)
  have e80 : up2 I 80 0 (nI 0) 80 2 = I 80 2 := up2_n (by decide)
  have hi1 := inB_1 (x := x) (a := 1) (m := 90) (by decide) (by decide)
  by_cases h1 : ∃ m, 1 ≤ m ∧ m ≤ 90 ∧ x = nI m
  · obtain ⟨m, m1, m2, m3⟩ := id h1
    generalize hc : va_cpy (up2 I 80 0 (nI 0) 91) (up2 I 80 0 (nI 0) 92) 0 0 35 = cp
    have hcp : a35 cp (I 91) := fun j hj => by rw [← hc, cpy_in hj, e91]
    have ebv : ∀ I' : MI, (∀ b, b ≠ 92 → I' b = up2 I 80 0 (nI 0) b) → bv I' = bv I := fun I' hI => by rw [← bv80 (I := I) (k := 0) (v := nI 0)]; exact funext fun a => hI _ (by omega)
    have i1 : ∀ b, b ≠ 92 → setRow (up2 I 80 0 (nI 0)) 92 cp b = up2 I 80 0 (nI 0) b := fun b hb => setRow_o hb
    have i2 : ∀ b, b ≠ 92 → setRow (setRow (up2 I 80 0 (nI 0)) 92 cp) 92 (psR (bv I) ts es m cp) b = up2 I 80 0 (nI 0) b := fun b hb => (setRow_o hb).trans (i1 b hb)
    refine g_aload_0 h dX12_advise_0 ?_
    refine g_iconst h dX12_advise_1 (v := nI 0) rfl ?_
    refine g_putI h fp_X12_1 dX12_advise_2 rfl rfl ?_
    refine g_iload_1 h dX12_advise_5 ?_
    refine g_iconst h dX12_advise_6 (v := nI 1) rfl ?_
    refine g_bipush h dX12_advise_7 (v := nI 90) rfl ?_
    refine g_cSi3 h rok0 mi_X12_isIn dX12_advise_9 ml_X12_22 (Nat.le_of_ble_eq_true rfl) (Nat.le_of_ble_eq_true rfl) (sp_X12_isIn ?_)
    rw [show b2i (inB x (nI 1) _) = b2i true from congrArg b2i (hi1.mpr h1)]
    refine g_if_ne h 21 dX12_advise_12 rfl (fun _ => ?_) (fun c => absurd c (by decide))
    refine g_aload_0 h dX12_advise_21 ?_
    refine g_cVv0 h rok0 mi_X12_lookAhead dX12_advise_22 ml_X12_411 rfl rfl rfl (Nat.le_of_ble_eq_true rfl) (Nat.le_of_ble_eq_true rfl) (sp_X12_lookAhead ?_)
    rw [hc]
    refine g_aload_0 h dX12_advise_25 ?_
    refine g_aload_0 h dX12_advise_26 ?_
    refine g_getC h fl_X12_112 dX12_advise_27 rfl rfl ?_
    refine g_iload_1 h dX12_advise_30 ?_
    rw [m3]
    refine g_cVv2 h rok0 mi_X12_passAll dX12_advise_31 ml_X12_408 rfl rfl rfl (Nat.le_of_ble_eq_true rfl) (Nat.le_of_ble_eq_true rfl) (sp_X12_passAll (m := m) (by omega) (Or.inr rfl) hB1 (by rw [ebv _ i1]; exact hK) (ts := ts) (es := es) (by rw [ebv _ i1]; exact ho) ?_)
    rw [ebv _ i1, setRow_s]
    refine g_aload_0 h dX12_advise_34 ?_
    refine g_aload_0 h dX12_advise_35 ?_
    refine g_getC h fl_X12_112 dX12_advise_36 rfl rfl ?_
    refine g_cVi1 h rok0 mi_X12_wrongs dX12_advise_39 ml_X12_353 rfl rfl rfl (Nat.le_of_ble_eq_true rfl) (Nat.le_of_ble_eq_true rfl) (sp_X12_wrongs (Tn := nT (bv I)) (Or.inr rfl) hB1 (by rw [ebv _ i2]; exact hK) (by rw [ebv _ i2]) (by rw [i2 93 (by decide), e93]; exact (bk_T hK).1) (bk_T hK).2 ?_)
    rw [ebv _ i2, setRow_s]
    refine g_istore_2 h dX12_advise_42 (by decide) rfl ?_
    refine g_iconst h dX12_advise_43 (v := (-1)) rfl ?_
    refine g_istore_3 h dX12_advise_44 (by decide) rfl ?_
    refine g_iconst h dX12_advise_45 (v := nI 0) rfl ?_
    refine g_istore_4 h dX12_advise_46 (by decide) rfl ?_
    subst m3
    have eb0 : bv (up2 I 80 0 (nI 0)) = bv I := bv80
    exact lp_X12_advise (d := d) (I0 := up2 I 80 0 (nI 0)) m2 hB1 (hQ1 m m1 m2 rfl) (by rw [eb0]; exact hK) (by rw [eb0]; exact ho) (by rw [eb0, e91]; exact hwk m m2) h (nK (bv I)) 0 _ _ _ (by rw [eb0]; omega) i2 (by rw [← hw0 m m2 cp hcp]; rfl)
  · refine g_aload_0 h dX12_advise_0 ?_
    refine g_iconst h dX12_advise_1 (v := nI 0) rfl ?_
    refine g_putI h fp_X12_1 dX12_advise_2 rfl rfl ?_
    refine g_iload_1 h dX12_advise_5 ?_
    refine g_iconst h dX12_advise_6 (v := nI 1) rfl ?_
    refine g_bipush h dX12_advise_7 (v := nI 90) rfl ?_
    refine g_cSi3 h rok0 mi_X12_isIn dX12_advise_9 ml_X12_22 (Nat.le_of_ble_eq_true rfl) (Nat.le_of_ble_eq_true rfl) (sp_X12_isIn ?_)
    rw [show b2i (inB x (nI 1) _) = b2i false from congrArg b2i (inB_f hi1 h1)]
    refine g_if_ne h 21 dX12_advise_12 rfl (fun c => absurd rfl c) (fun _ => ?_)
    refine g_aload_0 h dX12_advise_15 ?_
    refine g_iconst h dX12_advise_16 (v := nI 1) rfl ?_
    refine g_cVi1 h rok0 mi_X12_no dX12_advise_17 ml_X12_10 rfl rfl rfl (Nat.le_of_ble_eq_true rfl) (Nat.le_of_ble_eq_true rfl) (sp_X12_no ?_)
    refine g_iret h dX12_advise_20 ?_
    exact hQ0 h1
