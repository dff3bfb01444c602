/-! Doubles -/
theorem g_i2d {own : String} {cc : ByteArray} {nL d kc kn pc : Nat} {ret : Option FieldType} {Γ : Cx} {lv : List (Option Value)} {st : List Value} {I : MI} {J : MJ} {P : MP} {Φ : State → Prop} (h : Vc own cc nL ret d Γ) {x : Int32} (hd : decode cc pc = .ok (.i2d, 1)) (k : VG Γ kc kn (pc + 1) lv (.double (FP.i2d x) :: st) I J P Φ) : VG Γ kc kn pc lv (.int x :: st) I J P Φ := by
  obtain ⟨p, l, e, R, s, m, args, below, meth, c, ad, dC, dI, cy, A⟩ := Γ
  obtain ⟨hx, hb, hml, hr, hown, hts, hlk, hK, hA, hin, hAd, hf, hlo, hRO⟩ := h
  intro H locs ls hP hS hl
  exact lv_i2d hx hb hd (k H locs ls hP hS hl)
theorem g_dconst0 {own : String} {cc : ByteArray} {nL d kc kn pc : Nat} {ret : Option FieldType} {Γ : Cx} {lv : List (Option Value)} {st : List Value} {I : MI} {J : MJ} {P : MP} {Φ : State → Prop} (h : Vc own cc nL ret d Γ) (hd : decode cc pc = .ok (.dconst 0, 1)) (k : VG Γ kc kn (pc + 1) lv (.double FP.dconst0 :: st) I J P Φ) : VG Γ kc kn pc lv st I J P Φ := by
  obtain ⟨p, l, e, R, s, m, args, below, meth, c, ad, dC, dI, cy, A⟩ := Γ
  obtain ⟨hx, hb, hml, hr, hown, hts, hlk, hK, hA, hin, hAd, hf, hlo, hRO⟩ := h
  intro H locs ls hP hS hl
  exact lv_dconst0 hx hb hd (k H locs ls hP hS hl)
theorem g_ddiv {own : String} {cc : ByteArray} {nL d kc kn pc : Nat} {ret : Option FieldType} {Γ : Cx} {lv : List (Option Value)} {st : List Value} {I : MI} {J : MJ} {P : MP} {Φ : State → Prop} (h : Vc own cc nL ret d Γ) {x y : UInt64} (hd : decode cc pc = .ok (.ddiv, 1)) (hne : vf_n64 (FP.ddiv x y)) (k : VG Γ kc kn (pc + 1) lv (.double (FP.ddiv x y) :: st) I J P Φ) : VG Γ kc kn pc lv (.double y :: .double x :: st) I J P Φ := by
  obtain ⟨p, l, e, R, s, m, args, below, meth, c, ad, dC, dI, cy, A⟩ := Γ
  obtain ⟨hx, hb, hml, hr, hown, hts, hlk, hK, hA, hin, hAd, hf, hlo, hRO⟩ := h
  intro H locs ls hP hS hl
  exact lv_ddiv hx hb hd hne (k H locs ls hP hS hl)
def Qd (Q : UInt64 → MI → MJ → MP → Prop) : Option Value → MI → MJ → MP → Prop := fun r I J P => ∃ x, r = some (.double x) ∧ Q x I J P
theorem g_dret {own : String} {cc : ByteArray} {nL d pc : Nat} {Γ : Cx} {lv : List (Option Value)} {I : MI} {J : MJ} {P : MP} {x : UInt64} {Q : UInt64 → MI → MJ → MP → Prop} (h : Vc own cc nL (some .double) d Γ) (hd : decode cc pc = .ok (.dreturn, 1)) (hq : Q x I J P) : VG Γ 0 0 pc lv [.double x] I J P (Fnl Γ (Qd Q)) := by
  obtain ⟨p, l, e, R, s, m, args, below, meth, c, ad, dC, dI, cy, A⟩ := Γ
  obtain ⟨hx, hb, hml, hr, hown, hts, hlk, hK, hA, hin, hAd, hf, hlo, hRO⟩ := h
  intro H locs ls hP hS hl
  rw [fnl_eq]
  exact W.dret (v := x) hx hb hr (fun t ht hW => ⟨⟨_, I, J, P, rfl, ⟨_, rfl, hq⟩, by rw [ht]; exact hP, va_K.moved hW.alike hK⟩, hS.F ht⟩) hS.2.2 hd hlk
theorem val_n64 {a : UInt64} (h : FP.Core.val64 a ≠ .nan) : vf_n64 a := by
  unfold vf_n64
  rw [UInt64.le_iff_toNat_le, UInt64.toNat_and, show (0x7fffffffffffffff : UInt64).toNat = 2 ^ 63 - 1 from rfl, Nat.and_two_pow_sub_one_eq_mod, show (0x7ff0000000000000 : UInt64).toNat = 2047 * 2 ^ 52 from rfl]
  refine Nat.le_of_not_lt (fun hn => h ?_)
  unfold FP.Core.val64 FP.Core.decode
  have e1 : FP.Core.b64.tails = 2 ^ 52 := by decide
  have e2 : FP.Core.b64.exps = 2048 := by decide
  have hE : FP.Core.fieldE FP.Core.b64 a.toNat = FP.Core.b64.exps - 1 := by
    rw [FP.Core.fieldE, e1, e2]; omega
  have hT : ¬ FP.Core.fieldT FP.Core.b64 a.toNat = 0 := by
    rw [FP.Core.fieldT, e1]; omega
  rw [if_pos hE, if_neg hT]
theorem roundRatio_nn {f : FP.Core.Fmt} {s : Bool} {a b : Nat} {e : Int} : FP.Core.roundRatio f s a b e ≠ .nan := by
  unfold FP.Core.roundRatio FP.Core.roundAt FP.Core.settle FP.Core.bound
  split
  · exact fun q => by cases q
  · split <;> split <;> exact fun q => by cases q
theorem mean_nn {a b : Int32} (h : ¬ b = 0) : FP.Core.val64 (FP.ddiv (FP.i2d a) (FP.i2d b)) ≠ .nan := by
  have ha := FP.Core.i2d_int a
  have hb := FP.Core.i2d_int b
  unfold FP.Core.DInt at ha hb
  have hz : ¬ b.toInt = 0 := fun q => h (Int32.toInt_inj.mp q)
  have hv := FP.Core.val64_ddiv (FP.Core.i2d a) (FP.Core.i2d b)
  unfold FP.ddiv FP.i2d
  rw [hv]
  generalize FP.Core.val64 (FP.Core.i2d a) = u at ha ⊢
  generalize FP.Core.val64 (FP.Core.i2d b) = w at hb ⊢
  cases u with
  | nan => exact ha.elim
  | inf s => exact ha.elim
  | fin s c q =>
    cases w with
    | nan => exact hb.elim
    | inf s => exact hb.elim
    | fin t d r =>
      have hd : ¬ d = 0 := fun q => hz ((FP.Core.whole_zero hb).mp q)
      rw [FP.Core.quotient, if_neg hd]
      exact roundRatio_nn
def meD (n s : Int32) : UInt64 := if n = 0 then FP.dconst0 else FP.ddiv (FP.i2d s) (FP.i2d n)
theorem meD_nn (n s : Int32) : FP.Core.val64 (meD n s) ≠ .nan := by
  unfold meD
  split
  · decide
  · exact mean_nn ‹_›
theorem meD_cmp (n s : Int32) : FP.dcmp (meD n s) (meD n s) = some .eq := FP.Core.dcmp_self (meD_nn n s)
def rtN (B : MI) : Int32 := sumF (fun i => if B 3 i = -1 then nI 1 else nI 0) (nN B) 0 (nI 0)
def rtS (B : MI) (row : Nat → Int32) : Int32 := sumF (fun i => if B 3 i = -1 then smB B row i else nI 0) (nN B) 0 (nI 0)
set_option maxRecDepth 100000 in
set_option maxHeartbeats 4000000 in
theorem lp_X12_mean {Γ : Cx} {d : Nat} {I : MI} {J : MJ} {P : MP} (hB : P 80 8 = some 93) (hK : bkOK (bv I)) {Φ : State → Prop} (h : Vc RX12 cX12_mean 4 (some .double) (d + 5) Γ) : ∀ (f i : Nat) (a b : Int32), i + f = nN (bv I) → VG Γ 0 0 59 [some (.ref 80), some (.int (sumF (fun i => if I 96 i = -1 then nI 1 else nI 0) f i a)), some (.int (sumF (fun i => if I 96 i = -1 then smB (bv I) (I 91) i else nI 0) f i b)), some (.int (nI (nN (bv I))))] [] I J P Φ → VG Γ 0 0 11 [some (.ref 80), some (.int (a)), some (.int (b)), some (.int (nI i))] [] I J P Φ := by
  obtain ⟨hN, hN16⟩ := bk_N hK
  intro f
  induction f with
  | zero =>
    intro i a b hi K
    obtain rfl : i = nN (bv I) := by omega
    refine g_iload_3 h dX12_mean_11 ?_
    refine g_aload_0 h dX12_mean_12 ?_
    refine g_getP h fl_X12_87 dX12_mean_13 rfl rfl (by assumption) ?_
    refine g_getI h fl_X12_161 dX12_mean_16 rfl rfl ?_
    refine g_icmp_ge h 59 dX12_mean_19 rfl (fun c19 => ?_) (fun c19 => ?_)
    · exact K
    · exact absurd (by rw [hN]; exact nI_le (by omega) (by omega)) c19
  | succ f ih =>
    intro i a b hi K
    refine g_iload_3 h dX12_mean_11 ?_
    refine g_aload_0 h dX12_mean_12 ?_
    refine g_getP h fl_X12_87 dX12_mean_13 rfl rfl (by assumption) ?_
    refine g_getI h fl_X12_161 dX12_mean_16 rfl rfl ?_
    refine g_icmp_ge h 59 dX12_mean_19 rfl (fun c19 => ?_) (fun c19 => ?_)
    · exact absurd (leN (by simpa only [hN] using c19) (by omega) (by omega)) (by omega)
    · refine g_aload_0 h dX12_mean_22 ?_
      refine g_getP h fl_X12_87 dX12_mean_23 rfl rfl (by assumption) ?_
      refine g_getC h fl_X12_248 dX12_mean_26 rfl rfl ?_
      refine g_iload_3 h dX12_mean_29 ?_
      refine g_iald h i dX12_mean_30 rfl rfl (by omega) ?_
      refine g_iconst h dX12_mean_31 (v := (-1)) rfl ?_
      refine g_icmp_eq h 38 dX12_mean_32 rfl (fun c32 => ?_) (fun c32 => ?_)
      · refine g_iinc_1 h dX12_mean_38 (v := a + nI 1) rfl (by decide) rfl ?_
        refine g_iload_2 h dX12_mean_41 ?_
        refine g_aload_0 h dX12_mean_42 ?_
        refine g_aload_0 h dX12_mean_43 ?_
        refine g_getC h fl_X12_109 dX12_mean_44 rfl rfl ?_
        refine g_iload_3 h dX12_mean_47 ?_
        refine g_cVi2 h rok0 mi_X12_sumOf dX12_mean_48 ml_X12_287 rfl rfl rfl (Nat.le_of_ble_eq_true rfl) (Nat.le_of_ble_eq_true rfl) (sp_X12_sumOf (Or.inl rfl) hB hN hN16 4 _ i (by omega) (bk_t hK i (by omega)) ?_)
        refine g_iadd h dX12_mean_51 ?_
        refine g_istore_2 h dX12_mean_52 (by decide) rfl ?_
        refine g_iinc_3 h dX12_mean_53 (inc1 _) (by decide) rfl ?_
        refine g_goto h 11 dX12_mean_56 rfl ?_
        refine ih (i + 1) _ _ (by omega) ?_
        first
          | (simp only [sumF, if_pos c32] at K; exact K)
          | (simp only [sumF, if_neg c32, add0] at K; exact K)
      · refine g_goto h 53 dX12_mean_35 rfl ?_
        refine g_iinc_3 h dX12_mean_53 (inc1 _) (by decide) rfl ?_
        refine g_goto h 11 dX12_mean_56 rfl ?_
        refine ih (i + 1) _ _ (by omega) ?_
        first
          | (simp only [sumF, if_pos c32] at K; exact K)
          | (simp only [sumF, if_neg c32, add0] at K; exact K)
set_option maxRecDepth 100000 in
set_option maxHeartbeats 4000000 in
theorem sp_X12_mean {d : Nat} {I : MI} {J : MJ} {P : MP} (hB : P 80 8 = some 93) (hK : bkOK (bv I)) {Q : UInt64 → MI → MJ → MP → Prop} (hQ : Q (meD (rtN (bv I)) (rtS (bv I) (I 91))) (up2 I 80 0 (nI 0)) J P) : Sp yX12_mean cX12_mean 4 (some .double) (d + 5) [.ref 80] I J P (Qd Q) := by
  intro Γ h
  show VG Γ 0 0 0 [some (.ref 80), none, none, none] [] _ _ _ _
  have hB1 : P 80 8 = some 93 := hB
  have hK1 : bkOK (bv (up2 I 80 0 (nI 0))) := by rw [bv80]; exact hK
  have e91 : up2 I 80 0 (nI 0) 91 = I 91 := up2_o (by decide)
  have e93 : up2 I 80 0 (nI 0) 93 = I 93 := up2_o (by decide)
  have e80 : up2 I 80 0 (nI 0) 80 2 = I 80 2 := up2_n (by decide)
  have E1 : rtN (bv I) = sumF (fun i => if up2 I 80 0 (nI 0) 96 i = -1 then nI 1 else nI 0) (nN (bv (up2 I 80 0 (nI 0)))) 0 (nI 0) := by rw [bv80]; rfl
  have E2 : rtS (bv I) (I 91) = sumF (fun i => if up2 I 80 0 (nI 0) 96 i = -1 then smB (bv (up2 I 80 0 (nI 0))) (up2 I 80 0 (nI 0) 91) i else nI 0) (nN (bv (up2 I 80 0 (nI 0)))) 0 (nI 0) := by rw [bv80, e91]; rfl
  rw [E1, E2] at hQ
  refine g_aload_0 h dX12_mean_0 ?_
  refine g_iconst h dX12_mean_1 (v := nI 0) rfl ?_
  refine g_putI h fp_X12_1 dX12_mean_2 rfl rfl ?_
  refine g_iconst h dX12_mean_5 (v := nI 0) rfl ?_
  refine g_istore_1 h dX12_mean_6 (by decide) rfl ?_
  refine g_iconst h dX12_mean_7 (v := nI 0) rfl ?_
  refine g_istore_2 h dX12_mean_8 (by decide) rfl ?_
  refine g_iconst h dX12_mean_9 (v := nI 0) rfl ?_
  refine g_istore_3 h dX12_mean_10 (by decide) rfl ?_
  refine lp_X12_mean hB1 hK1 h (nN (bv (up2 I 80 0 (nI 0)))) 0 _ _ (by omega) ?_
  refine g_iload_1 h dX12_mean_59 ?_
  refine g_if_ne h 67 dX12_mean_60 rfl (fun c60 => ?_) (fun c60 => ?_)
  · refine g_iload_2 h dX12_mean_67 ?_
    refine g_i2d h dX12_mean_68 ?_
    refine g_iload_1 h dX12_mean_69 ?_
    refine g_i2d h dX12_mean_70 ?_
    refine g_ddiv h dX12_mean_71 (val_n64 (mean_nn c60)) ?_
    refine g_dret h dX12_mean_72 ?_
    rw [meD, if_neg c60] at hQ
    exact hQ
  · refine g_dconst0 h dX12_mean_63 ?_
    refine g_goto h 72 dX12_mean_64 rfl ?_
    refine g_dret h dX12_mean_72 ?_
    rw [meD, if_pos c60] at hQ
    exact hQ
