/-! helpers of the public methods -/
def shI (i : Nat) : Int32 := if i = 0 then nI 24 else if i = 1 then nI 16 else if i = 2 then nI 8 else if i = 3 then nI 0 else -8
def bts (x : Int32) (i : Nat) : Nat := x.toBitVec.toNat / 2 ^ (24 - 8 * i) % 256
theorem shI_s : ∀ i, i < 4 → shI i + Int32.ofInt (-8) = shI (i + 1) := by decide
theorem shI_n : ∀ i, i < 4 → ¬ shI i < 0 := by decide
theorem bts_lt (x : Int32) (i : Nat) : bts x i < 256 := Nat.mod_lt _ (by decide)
theorem toInt8_eq {a b : Int32} (h : a.toBitVec.toNat % 256 = b.toBitVec.toNat % 256) : a.toInt8 = b.toInt8 := by
  apply Int8.toBitVec_inj.mp
  show a.toBitVec.signExtend 8 = b.toBitVec.signExtend 8
  rw [BitVec.signExtend_eq_setWidth_of_le _ (by decide), BitVec.signExtend_eq_setWidth_of_le _ (by decide)]
  apply BitVec.eq_of_toNat_eq
  rw [BitVec.toNat_setWidth, BitVec.toNat_setWidth]
  exact h
theorem bt_c (x : Int32) : ∀ i, i < 4 → ((x.toUInt32 >>> ((shI i).toUInt32 &&& Int32.toUInt32 31)).toInt32).toInt8.toInt32 = (nI (bts x i)).toInt8.toInt32 := by
  intro i hi
  have key : ∀ (s : Int32) (k : Nat), ((s.toUInt32 &&& Int32.toUInt32 31).toBitVec % 32).toNat = k → bts x i = x.toBitVec.toNat / 2 ^ k % 256 → ((x.toUInt32 >>> (s.toUInt32 &&& Int32.toUInt32 31)).toInt32).toInt8.toInt32 = (nI (bts x i)).toInt8.toInt32 := fun s k hs hb => by
    rw [toInt8_eq (b := nI (bts x i))]
    rw [pk_ushr x s k hs, pk_tn (by have := bts_lt x i; omega), hb, Nat.mod_mod]
  rcases (show i = 0 ∨ i = 1 ∨ i = 2 ∨ i = 3 by omega) with rfl | rfl | rfl | rfl
  · exact key (nI 24) 24 (by decide) rfl
  · exact key (nI 16) 16 (by decide) rfl
  · exact key (nI 8) 8 (by decide) rfl
  · exact key (nI 0) 0 (by decide) rfl
/-- the tape with the bytes of a number behind it -/
def apT (Tp : Nat → Nat) (L : Nat) (x : Int32) : Nat → Nat := fun j => if j < L then Tp j else bts x (j - L)
def fdT (Tp : Nat → Nat) (L : Nat) (a b c d e : Int32) : Nat → Nat := apT (apT (apT (apT (apT Tp L a) (L + 4) b) (L + 8) c) (L + 12) d) (L + 16) e
set_option maxRecDepth 100000 in
set_option maxHeartbeats 4000000 in
theorem lp_X6_append {Γ : Cx} {Tp : Nat → Nat} {d L : Nat} {I0 : MI} {J : MJ} {P : MP} {x : Int32} (hL : L + 4 ≤ 2000) {Q : MI → MJ → MP → Prop} (hQ : ∀ I', I' 1 1 = nI (L + 4) → (∀ j, j < L + 4 → I' 2 j = (nI (apT Tp L x j)).toInt8.toInt32) → (∀ a, a ≠ 1 → a ≠ 2 → I' a = I0 a) → Q I' J P) (h : Vc RX6 cX6_append 3 none (d) Γ) : ∀ (f i : Nat) (I : MI), i + f = 4 → I 1 1 = nI (L + i) → (∀ j, j < L + i → I 2 j = (nI (apT Tp L x j)).toInt8.toInt32) → (∀ a, a ≠ 1 → a ≠ 2 → I a = I0 a) → VG Γ 0 0 3 [some (.ref 1), some (.int x), some (.int (shI i))] [] I J P (Fnl Γ (Qv Q)) := by
  intro f
  induction f with
  | zero =>
    intro i I hi h1 h2 h3
    obtain rfl : i = 4 := by omega
    refine g_iload_2 h dX6_append_3 ?_
    refine g_if_lt h 46 dX6_append_4 rfl (fun _ => ?_) (fun c => absurd (by decide) c)
    refine g_vret h dX6_append_46 ?_
    exact hQ I h1 h2 h3
  | succ f ih =>
    intro i I hi h1 h2 h3
    refine g_iload_2 h dX6_append_3 ?_
    refine g_if_lt h 46 dX6_append_4 rfl (fun c => absurd c (shI_n i (by omega))) (fun _ => ?_)
    refine g_aload_0 h dX6_append_7 ?_
    refine g_getI h fl_X6_13 dX6_append_8 rfl rfl ?_
    refine g_sipush h dX6_append_11 (v := nI 2000) rfl ?_
    refine g_icmp_ge h 46 dX6_append_14 rfl (fun c => absurd (leN (a := 2000) (by rw [h1] at c; exact c) (by decide) (by omega)) (by omega)) (fun _ => ?_)
    refine g_aload_0 h dX6_append_17 ?_
    refine g_getC h fl_X6_9 dX6_append_18 rfl rfl ?_
    refine g_aload_0 h dX6_append_21 ?_
    refine g_getI h fl_X6_13 dX6_append_22 rfl rfl ?_
    refine g_iload_1 h dX6_append_25 ?_
    refine g_iload_2 h dX6_append_26 ?_
    refine g_iushr h dX6_append_27 rfl ?_
    refine g_i2b h dX6_append_28 ?_
    rw [bt_c x i (by omega)]
    refine g_bast h (L + i) dX6_append_29 rfl h1 (by omega) ?_
    rw [pk_vb]
    refine g_aload_0 h dX6_append_30 ?_
    refine g_dup h dX6_append_31 rfl ?_
    refine g_getI h fl_X6_13 dX6_append_32 rfl rfl ?_
    refine g_iconst h dX6_append_35 (v := nI 1) rfl ?_
    refine g_iadd h dX6_append_36 ?_
    rw [show up2 I 2 (L + i) (nI (bts x i)).toInt8.toInt32 1 1 = nI (L + i) by rw [up2_o (by decide)]; exact h1, show nI (L + i) + nI 1 = nI (L + (i + 1)) from nI_1 (L + i)]
    refine g_putI h fp_X6_13 dX6_append_37 rfl rfl ?_
    refine g_iinc_2 h dX6_append_40 (shI_s i (by omega)) (by decide) rfl ?_
    refine g_goto h 3 dX6_append_43 rfl ?_
    refine ih (i + 1) _ (by omega) up2_s (fun j hj => ?_) (fun a a1 a2 => by rw [up2_o a1, up2_o a2]; exact h3 a a1 a2)
    rw [up2_o (by decide)]
    by_cases e : j = L + i
    · rw [e, up2_s, apT, if_neg (by omega), Nat.add_sub_cancel_left]
    · rw [up2_n e]
      exact h2 j (by omega)
set_option maxRecDepth 100000 in
set_option maxHeartbeats 4000000 in
theorem sp_X6_append {Tp : Nat → Nat} {d L : Nat} {x : Int32} {I : MI} {J : MJ} {P : MP} (hT : tpO Tp L I) (hL : L + 4 ≤ 2000) {Q : MI → MJ → MP → Prop} (hQ : ∀ I', tpO (apT Tp L x) (L + 4) I' → (∀ a, a ≠ 1 → a ≠ 2 → I' a = I a) → Q I' J P) : Sp yX6_append cX6_append 3 none (d) [.ref 1, .int x] I J P (Qv Q) := by
  intro Γ h
  show VG Γ 0 0 0 [some (.ref 1), some (.int x), none] [] _ _ _ _
  refine g_bipush h dX6_append_0 (v := nI 24) rfl ?_
  refine g_istore_2 h dX6_append_2 (by decide) rfl ?_
  refine lp_X6_append (Tp := Tp) hL (fun I' e1 e2 e3 => hQ I' ⟨e1, hL, fun j hj => ⟨e2 j hj, ?_⟩⟩ e3) h 4 0 I (by decide) hT.1 (fun j hj => ?_) (fun _ _ _ => rfl)
  · unfold apT
    by_cases c : j < L
    · rw [if_pos c]; exact (hT.2.2 j c).2
    · rw [if_neg c]; exact bts_lt _ _
  · rw [apT, if_pos (by omega)]
    exact (hT.2.2 j (by omega)).1
def adF (wk : Nat → Int32) : Nat → Nat → Int32 → Int32 → Int32
  | 0, _, best, _ => best
  | f + 1, k, best, least => if wk k < least then adF wk f (k + 1) (nI k) (wk k) else adF wk f (k + 1) best least
def a35 (r r0 : Nat → Int32) : Prop := ∀ j, j < 35 → r j = r0 j
def dgS (f : Nat → Int32) : Nat → Nat → Int64 → Int64
  | 0, _, d => d
  | n + 1, i, d => dgS f n (i + 1) (d * 31 + (f i).toInt64)
theorem mulN (a b : Nat) : nI a * nI b = nI (a * b) := by simp [nI, Int32.ofNat_mul]
theorem divN {a d : Nat} (ha : a < 2 ^ 31) (h0 : 0 < d) (hd : d < 2 ^ 31) : nI a / nI d = nI (a / d) := pk_div ha h0 hd
theorem remN {a d : Nat} (ha : a < 2 ^ 31) (h0 : 0 < d) (hd : d < 2 ^ 31) : nI a - nI a / nI d * nI d = nI (a % d) := pk_rem ha h0 hd
