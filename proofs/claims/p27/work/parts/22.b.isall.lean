/-! The law: whether all that is told belongs together -/
theorem g_ishl {own : String} {cc : ByteArray} {nL d kc kn pc : Nat} {ret : Option FieldType} {Γ : Cx} {lv : List (Option Value)} {st : List Value} {I : MI} {J : MJ} {P : MP} {Φ : State → Prop} (h : Vc own cc nL ret d Γ) {x y : Int32} (hd : decode cc pc = .ok (.ishl, 1)) (k : VG Γ kc kn (pc + 1) lv (.int (x <<< (y &&& 31)) :: st) I J P Φ) : VG Γ kc kn pc lv (.int y :: .int x :: st) I J P Φ := by
  obtain ⟨p, l, e, R, s, m, args, below, meth, c, ad, dC, dI, cy, A⟩ := Γ
  obtain ⟨hx, hb, hml, hr, hown, hts, hlk, hK, hA, hin, hAd, hf, hlo, hRO⟩ := h
  intro H locs ls hP hS hl
  exact lv_ishl hx hb hd (k H locs ls hP hS hl)
section LQ2
variable {I : MI} {J : MJ} {P : MP} {T0 C0 d : Nat} {Q : Int32 → MI → MJ → MP → Prop}
theorem qc1 (h : LW I P T0 C0) {a : Nat} (ha : a < 5) (hQ : Q (I 22 a) I J P) : Sp yX10_cord cX10_cord 3 (some .int) (d + 8) [.ref 0, .int (nI a), .int (nI 1)] I J P (Qi Q) := qc h ha (by decide) hQ
theorem qc2 (h : LW I P T0 C0) {a : Nat} (ha : a < 5) (hQ : Q (nI (dep (I 22) 5 4 (nI a))) I J P) : Sp yX10_cord cX10_cord 3 (some .int) (d + 8) [.ref 0, .int (nI a), .int (nI 2)] I J P (Qi Q) := qc h ha (by decide) hQ
theorem qc3 (h : LW I P T0 C0) {a : Nat} (ha : a < 5) (hQ : Q (I 23 a) I J P) : Sp yX10_cord cX10_cord 3 (some .int) (d + 8) [.ref 0, .int (nI a), .int (nI 3)] I J P (Qi Q) := qc h ha (by decide) hQ
theorem qc4 (h : LW I P T0 C0) {a : Nat} (ha : a < 5) (hQ : Q (I 24 a) I J P) : Sp yX10_cord cX10_cord 3 (some .int) (d + 8) [.ref 0, .int (nI a), .int (nI 4)] I J P (Qi Q) := qc h ha (by decide) hQ
theorem qc5 (h : LW I P T0 C0) {a : Nat} (ha : a < 5) (hQ : Q (kno (I 23 a)) I J P) : Sp yX10_cord cX10_cord 3 (some .int) (d + 8) [.ref 0, .int (nI a), .int (nI 5)] I J P (Qi Q) := qc h ha (by decide) hQ
theorem qc6 (h : LW I P T0 C0) {a : Nat} (ha : a < 5) (hQ : Q (tur (I 23 a)) I J P) : Sp yX10_cord cX10_cord 3 (some .int) (d + 8) [.ref 0, .int (nI a), .int (nI 6)] I J P (Qi Q) := qc h ha (by decide) hQ
theorem qc7 (h : LW I P T0 C0) {a : Nat} (ha : a < 5) (hQ : Q (sumF (fun i => if I 22 i = nI a then nI 1 else nI 0) 5 0 (nI 0)) I J P) : Sp yX10_cord cX10_cord 3 (some .int) (d + 8) [.ref 0, .int (nI a), .int (nI 7)] I J P (Qi Q) := qc h ha (by decide) hQ
theorem qt1 (h : LW I P T0 C0) {a : Nat} (ha : a < 2) (hQ : Q (I 25 a) I J P) : Sp yX10_top cX10_top 3 (some .int) (d + 8) [.ref 0, .int (nI a), .int (nI 1)] I J P (Qi Q) := qtop h ha (by decide) hQ
theorem qt2 (h : LW I P T0 C0) {a : Nat} (ha : a < 2) (hQ : Q (cnb 5 (I 24) (I (43 + a)) (zS (dv I) a)) I J P) : Sp yX10_top cX10_top 3 (some .int) (d + 8) [.ref 0, .int (nI a), .int (nI 2)] I J P (Qi Q) := qtop h ha (by decide) hQ
theorem qt3 (h : LW I P T0 C0) {a : Nat} (ha : a < 2) (hQ : Q (b2i (wrgB (I 25 a) (cnb 5 (I 24) (I (43 + a)) (zS (dv I) a)))) I J P) : Sp yX10_top cX10_top 3 (some .int) (d + 8) [.ref 0, .int (nI a), .int (nI 3)] I J P (Qi Q) := qtop h ha (by decide) hQ
theorem qk1 (h : LW I P T0 C0) {a : Nat} (ha : a < 2) (hQ : Q (I 26 a) I J P) : Sp yX10_keeper cX10_keeper 3 (some .int) (d + 8) [.ref 0, .int (nI a), .int (nI 1)] I J P (Qi Q) := qkee h ha (by decide) hQ
theorem qkno {x : Int32} (hx : ∃ w, w ≤ 9999 ∧ x = nI w) (hQ : Q (kno x) I J P) : Sp yL_knots cL_knots 1 (some .int) (d + 8) [.int x] I J P (Qi Q) := by
  obtain ⟨w, w1, rfl⟩ := hx
  exact sp_L_knots (by omega) hQ
theorem qtur {x : Int32} (hx : ∃ w, w ≤ 9999 ∧ x = nI w) (hQ : Q (tur x) I J P) : Sp yL_turns cL_turns 1 (some .int) (d + 8) [.int x] I J P (Qi Q) := by
  obtain ⟨w, w1, rfl⟩ := hx
  exact sp_L_turns (by omega) hQ
theorem LW.val (h : LW I P T0 C0) {k : Nat} (hk : k < 5) : ∃ w, w ≤ 9999 ∧ I 23 k = nI w := (h.2.2.2.2.1 k (by rw [h.2.2.2.1.2.1]; exact hk)).2.1
theorem LW.hN (h : LW I P T0 C0) : nN (dv I) = 5 := h.2.2.2.1.2.1
theorem LW.hch (h : LW I P T0 C0) : ∀ k, k < 5 → chn (I 22) 5 4 (nI k) := fun k hk => by
  have := (h.2.2.2.2.1 k (by rw [h.hN]; exact hk)).2.2
  rw [h.hN] at this
  exact this
theorem LW.clo (h : LW I P T0 C0) : clo (I 22) 5 := chn_clo (by decide) h.hch
theorem LW.lcl (h : LW I P T0 C0) : lcl (I 22) (I 23) (I 24) 5 := by
  have := h.2.2.2.2.2.1
  rw [h.hN] at this
  exact this
theorem LW.up (h : LW I P T0 C0) {k : Nat} (hk : k < 5) : I 22 k = -1 ∨ ∃ j, j < 5 ∧ I 22 k = nI j := h.clo.2 k hk
theorem LW.dep (h : LW I P T0 C0) {k : Nat} (hk : k < 5) : dep (I 22) 5 4 (nI k) = dep (I 22) 5 4 (I 22 k) + 1 := dep_j (by decide) h.hch hk
theorem qc2x (h : LW I P T0 C0) {x : Int32} (hx : ∃ j, j < 5 ∧ x = nI j) (hQ : Q (nI (dep (I 22) 5 4 x)) I J P) : Sp yX10_cord cX10_cord 3 (some .int) (d + 8) [.ref 0, .int x, .int (nI 2)] I J P (Qi Q) := by
  obtain ⟨j, j1, rfl⟩ := hx
  exact qc2 h j1 hQ
theorem stp_rf {u : Nat → Int32} {N f : Nat} {a : Int32} : stpF u N (f + 1) a a = 0 := if_pos rfl
end LQ2
set_option maxRecDepth 100000 in
set_option maxHeartbeats 4000000 in
theorem lp_iA1 {Γ : Cx} {T0 C0 d : Nat} {I : MI} {J : MJ} {P : MP} {Φ : State → Prop} (hW : LW I P T0 C0) (h : Vc RL cL_isAll 9 (some .boolean) (d + 9) Γ) {k : Nat} (hk : k < 5) {v1 v2 v3 x5 : Int32} {S B : Int32} (K : VG Γ 0 0 76 [some (.ref 0), some (.int (v1)), some (.int (v2)), some (.int (v3)), some (.int (nI k)), some (.int (x5)), some (.int (S)), some (.int (B)), some (.int (nI 5))] [] I J P Φ) : ∀ (f i : Nat) (s b : Int32), i + f = 5 → sumF (fun j => if I 22 j = nI k then I 24 j else nI 0) f i s = S → sumF (fun j => if I 22 j = nI k then nI 1 else nI 0) f i b = B → VG Γ 0 0 34 [some (.ref 0), some (.int (v1)), some (.int (v2)), some (.int (v3)), some (.int (nI k)), some (.int (x5)), some (.int (s)), some (.int (b)), some (.int (nI i))] [] I J P Φ := by
  intro f
  induction f with
  | zero =>
    intro i s b hi hs hb
    obtain rfl : i = 5 := by omega
    obtain rfl : s = S := hs
    obtain rfl : b = B := hb
    refine g_iload_8 h dL_isAll_34 ?_
    refine g_iconst h dL_isAll_36 (v := nI 5) rfl ?_
    refine g_icmp_ge h 76 dL_isAll_37 rfl (fun _ => ?_) (fun c => absurd (Int32.le_refl _) c)
    exact K
  | succ f ih =>
    intro i s b hf hs hb
    have hi : i < 5 := by omega
    refine g_iload_8 h dL_isAll_34 ?_
    refine g_iconst h dL_isAll_36 (v := nI 5) rfl ?_
    refine g_icmp_ge h 76 dL_isAll_37 rfl (fun c => absurd c (nI_ge hi (by decide))) (fun _ => ?_)
    refine g_aload_0 h dL_isAll_40 ?_
    refine g_iload_8 h dL_isAll_41 ?_
    refine g_iconst h dL_isAll_43 (v := nI 1) rfl ?_
    refine g_cVi2 h rok0 mi_X10_cord dL_isAll_44 ml_L_213 rfl rfl rfl (Nat.le_of_ble_eq_true rfl) (Nat.le_of_ble_eq_true rfl) (qc1 hW hi ?_)
    refine g_iload_4 h dL_isAll_47 ?_
    refine g_icmp_eq h 55 dL_isAll_49 rfl (fun c49 => ?_) (fun c49 => ?_)
    · refine g_iload_6 h dL_isAll_55 ?_
      refine g_aload_0 h dL_isAll_57 ?_
      refine g_iload_8 h dL_isAll_58 ?_
      refine g_iconst h dL_isAll_60 (v := nI 4) rfl ?_
      refine g_cVi2 h rok0 mi_X10_cord dL_isAll_61 ml_L_213 rfl rfl rfl (Nat.le_of_ble_eq_true rfl) (Nat.le_of_ble_eq_true rfl) (qc4 hW hi ?_)
      refine g_iadd h dL_isAll_64 ?_
      refine g_istore_6 h dL_isAll_65 (by decide) rfl ?_
      refine g_iinc_7 h dL_isAll_67 (show b + Int32.ofInt 1 = b + nI 1 from rfl) (by decide) rfl ?_
      refine g_iinc_8 h dL_isAll_70 (inc1 _) (by decide) rfl ?_
      refine g_goto h 34 dL_isAll_73 rfl ?_
      refine ih (i + 1) _ _ (by omega) ?_ ?_
      · rw [← hs, sumF, if_pos c49]
      · rw [← hb, sumF, if_pos c49]
    · refine g_goto h 70 dL_isAll_52 rfl ?_
      refine g_iinc_8 h dL_isAll_70 (inc1 _) (by decide) rfl ?_
      refine g_goto h 34 dL_isAll_73 rfl ?_
      refine ih (i + 1) _ _ (by omega) ?_ ?_
      · rw [← hs, sumF, if_neg c49, add0]
      · rw [← hb, sumF, if_neg c49, add0]
set_option maxRecDepth 100000 in
set_option maxHeartbeats 4000000 in
theorem lp_iA2 {Γ : Cx} {T0 C0 d : Nat} {I : MI} {J : MJ} {P : MP} {Φ : State → Prop} (hW : LW I P T0 C0) (h : Vc RL cL_isAll 9 (some .boolean) (d + 9) Γ) {V M : Int32} (K : ∀ v5 v6 v7 v8, VG Γ 0 0 317 [some (.ref 0), some (.int (V)), some (.int (M)), some (.int (nI 31)), some (.int (nI 5)), v5, v6, v7, v8] [] I J P Φ) : ∀ (f k : Nat) (vl mn : Int32) (v5 v6 v7 v8 : Option Value), k + f = 5 → sumF (I 23) f k vl = V → sumF (fun j => if I 22 j = -1 then I 24 j else nI 0) f k mn = M → VG Γ 0 0 9 [some (.ref 0), some (.int (vl)), some (.int (mn)), some (.int (orP (I 37) (I 21) (I 24) 3 5 k)), some (.int (nI k)), v5, v6, v7, v8] [] I J P Φ := by
  intro f
  induction f with
  | zero =>
    intro k vl mn v5 v6 v7 v8 hf hv hm
    obtain rfl : k = 5 := by omega
    obtain rfl : vl = V := hv
    obtain rfl : mn = M := hm
    rw [orP_5]
    refine g_iload_4 h dL_isAll_9 ?_
    refine g_iconst h dL_isAll_11 (v := nI 5) rfl ?_
    refine g_icmp_ge h 317 dL_isAll_12 rfl (fun _ => ?_) (fun c => absurd (Int32.le_refl _) c)
    exact K _ _ _ _
  | succ f ih =>
    intro k vl mn v5 v6 v7 v8 hf hv hm
    have hk : k < 5 := by omega
    obtain ⟨w, w1, w2⟩ := hW.val hk
    have hS : I 24 k = sumF (fun j => if I 22 j = nI k then I 24 j else nI 0) 5 0 (I 23 k) := hW.lcl k hk
    have KB : VG Γ 0 0 222 [some (.ref 0), some (.int (vl + I 23 k)), some (.int (mn + (if I 22 k = -1 then I 24 k else nI 0))), some (.int (orP (I 37) (I 21) (I 24) 3 5 (k + 1))), some (.int (nI k)), some (.int (I 23 k)), some (.int (I 24 k)), some (.int (sumF (fun i => if I 22 i = nI k then nI 1 else nI 0) 5 0 (nI 0))), some (.int (I 22 k))] [] I J P Φ := by
      refine g_aload_0 h dL_isAll_222 ?_
      refine g_iload_4 h dL_isAll_223 ?_
      refine g_iconst h dL_isAll_225 (v := nI 2) rfl ?_
      refine g_cVi2 h rok0 mi_X10_cord dL_isAll_226 ml_L_213 rfl rfl rfl (Nat.le_of_ble_eq_true rfl) (Nat.le_of_ble_eq_true rfl) (qc2 hW hk ?_)
      refine g_iconst h dL_isAll_229 (v := nI 4) rfl ?_
      refine g_icmp_gt h 261 dL_isAll_230 rfl (fun c => absurd c (nI_nlt (dep_le _ _ 4 _) (by decide))) (fun _ => ?_)
      refine g_aload_0 h dL_isAll_233 ?_
      refine g_iload_4 h dL_isAll_234 ?_
      refine g_iload_4 h dL_isAll_236 ?_
      refine g_cVi2 h rok0 mi_X10_apart dL_isAll_238 ml_L_237 rfl rfl rfl (Nat.le_of_ble_eq_true rfl) (Nat.le_of_ble_eq_true rfl) (qapt hW hk hk ?_)
      refine g_if_ne h 261 dL_isAll_241 rfl (fun c => absurd (congrArg nI stp_rf) c) (fun _ => ?_)
      refine g_aload_0 h dL_isAll_244 ?_
      refine g_iload_4 h dL_isAll_245 ?_
      refine g_iconst h dL_isAll_247 (v := nI 0) rfl ?_
      refine g_cVi2 h rok0 mi_X10_apart dL_isAll_248 ml_L_237 rfl rfl rfl (Nat.le_of_ble_eq_true rfl) (Nat.le_of_ble_eq_true rfl) (qapt hW hk (by decide) ?_)
      refine g_aload_0 h dL_isAll_251 ?_
      refine g_iconst h dL_isAll_252 (v := nI 0) rfl ?_
      refine g_iload_4 h dL_isAll_253 ?_
      refine g_cVi2 h rok0 mi_X10_apart dL_isAll_255 ml_L_237 rfl rfl rfl (Nat.le_of_ble_eq_true rfl) (Nat.le_of_ble_eq_true rfl) (qapt hW (by decide) hk ?_)
      refine g_icmp_eq h 263 dL_isAll_258 rfl (fun _ => ?_) (fun c => absurd (congrArg nI (stp_8 (by decide) hW.clo hW.hch hk (by decide))) c)
      refine g_iload_5 h dL_isAll_263 ?_
      refine g_sipush h dL_isAll_265 (v := nI 1000) rfl ?_
      refine g_aload_0 h dL_isAll_268 ?_
      refine g_iload_4 h dL_isAll_269 ?_
      refine g_iconst h dL_isAll_271 (v := nI 3) rfl ?_
      refine g_cVi2 h rok0 mi_X10_digit dL_isAll_272 ml_L_240 rfl rfl rfl (Nat.le_of_ble_eq_true rfl) (Nat.le_of_ble_eq_true rfl) (qdig hW hk (by decide) ?_)
      refine g_imul h dL_isAll_275 ?_
      refine g_bipush h dL_isAll_276 (v := nI 100) rfl ?_
      refine g_aload_0 h dL_isAll_278 ?_
      refine g_iload_4 h dL_isAll_279 ?_
      refine g_iconst h dL_isAll_281 (v := nI 2) rfl ?_
      refine g_cVi2 h rok0 mi_X10_digit dL_isAll_282 ml_L_240 rfl rfl rfl (Nat.le_of_ble_eq_true rfl) (Nat.le_of_ble_eq_true rfl) (qdig hW hk (by decide) ?_)
      refine g_imul h dL_isAll_285 ?_
      refine g_iadd h dL_isAll_286 ?_
      refine g_bipush h dL_isAll_287 (v := nI 10) rfl ?_
      refine g_aload_0 h dL_isAll_289 ?_
      refine g_iload_4 h dL_isAll_290 ?_
      refine g_iconst h dL_isAll_292 (v := nI 1) rfl ?_
      refine g_cVi2 h rok0 mi_X10_digit dL_isAll_293 ml_L_240 rfl rfl rfl (Nat.le_of_ble_eq_true rfl) (Nat.le_of_ble_eq_true rfl) (qdig hW hk (by decide) ?_)
      refine g_imul h dL_isAll_296 ?_
      refine g_iadd h dL_isAll_297 ?_
      refine g_aload_0 h dL_isAll_298 ?_
      refine g_iload_4 h dL_isAll_299 ?_
      refine g_iconst h dL_isAll_301 (v := nI 0) rfl ?_
      refine g_cVi2 h rok0 mi_X10_digit dL_isAll_302 ml_L_240 rfl rfl rfl (Nat.le_of_ble_eq_true rfl) (Nat.le_of_ble_eq_true rfl) (qdig hW hk (by decide) ?_)
      refine g_iadd h dL_isAll_305 ?_
      refine g_icmp_eq h 311 dL_isAll_306 rfl (fun _ => ?_) (fun c => absurd (by rw [w2]; exact (dg_sum w1).symm) c)
      refine g_iinc_4 h dL_isAll_311 (inc1 _) (by decide) rfl ?_
      refine g_goto h 9 dL_isAll_314 rfl ?_
      exact ih (k + 1) _ _ _ _ _ _ (by omega) (by rw [← hv]; rfl) (by rw [← hm]; rfl)
    have KA : VG Γ 0 0 105 [some (.ref 0), some (.int (vl + I 23 k)), some (.int (mn + (if I 22 k = -1 then I 24 k else nI 0))), some (.int (orP (I 37) (I 21) (I 24) 3 5 k)), some (.int (nI k)), some (.int (I 23 k)), some (.int (I 24 k)), some (.int (sumF (fun i => if I 22 i = nI k then nI 1 else nI 0) 5 0 (nI 0))), some (.int (nI 5))] [] I J P Φ := by
      refine g_iload_3 h dL_isAll_105 ?_
      refine g_iconst h dL_isAll_106 (v := nI 1) rfl ?_
      refine g_aload_0 h dL_isAll_107 ?_
      refine g_iload_4 h dL_isAll_108 ?_
      refine g_cVi1 h rok0 mi_X10_order dL_isAll_110 ml_L_228 rfl rfl rfl (Nat.le_of_ble_eq_true rfl) (Nat.le_of_ble_eq_true rfl) (qord hW hk ?_)
      refine g_ishl h dL_isAll_113 ?_
      refine g_ior h dL_isAll_114 ?_
      refine g_istore_3 h dL_isAll_115 (by decide) rfl ?_
      refine g_aload_0 h dL_isAll_116 ?_
      refine g_iload_4 h dL_isAll_117 ?_
      refine g_iconst h dL_isAll_119 (v := nI 1) rfl ?_
      refine g_cVi2 h rok0 mi_X10_cord dL_isAll_120 ml_L_213 rfl rfl rfl (Nat.le_of_ble_eq_true rfl) (Nat.le_of_ble_eq_true rfl) (qc1 hW hk ?_)
      refine g_istore_8 h dL_isAll_123 (by decide) rfl ?_
      refine g_iload_5 h dL_isAll_125 ?_
      refine g_if_lt h 261 dL_isAll_127 rfl (fun c => absurd c (by rw [w2]; exact nI_pos (by omega))) (fun _ => ?_)
      refine g_iload_5 h dL_isAll_130 ?_
      refine g_sipush h dL_isAll_132 (v := nI 9999) rfl ?_
      refine g_icmp_gt h 261 dL_isAll_135 rfl (fun c => absurd c (by rw [w2]; exact nI_nlt (by omega) (by decide))) (fun _ => ?_)
      refine g_aload_0 h dL_isAll_138 ?_
      refine g_iload_4 h dL_isAll_139 ?_
      refine g_iconst h dL_isAll_141 (v := nI 4) rfl ?_
      refine g_cVi2 h rok0 mi_X10_cord dL_isAll_142 ml_L_213 rfl rfl rfl (Nat.le_of_ble_eq_true rfl) (Nat.le_of_ble_eq_true rfl) (qc4 hW hk ?_)
      refine g_iload_6 h dL_isAll_145 ?_
      refine g_icmp_ne h 261 dL_isAll_147 rfl (fun c => absurd rfl c) (fun _ => ?_)
      refine g_aload_0 h dL_isAll_150 ?_
      refine g_iload_4 h dL_isAll_151 ?_
      refine g_bipush h dL_isAll_153 (v := nI 7) rfl ?_
      refine g_cVi2 h rok0 mi_X10_cord dL_isAll_155 ml_L_213 rfl rfl rfl (Nat.le_of_ble_eq_true rfl) (Nat.le_of_ble_eq_true rfl) (qc7 hW hk ?_)
      refine g_iload_7 h dL_isAll_158 ?_
      refine g_icmp_ne h 261 dL_isAll_160 rfl (fun c => absurd rfl c) (fun _ => ?_)
      refine g_aload_0 h dL_isAll_163 ?_
      refine g_iload_4 h dL_isAll_164 ?_
      refine g_iconst h dL_isAll_166 (v := nI 5) rfl ?_
      refine g_cVi2 h rok0 mi_X10_cord dL_isAll_167 ml_L_213 rfl rfl rfl (Nat.le_of_ble_eq_true rfl) (Nat.le_of_ble_eq_true rfl) (qc5 hW hk ?_)
      refine g_iload_5 h dL_isAll_170 ?_
      refine g_cSi1 h rok0 mi_L_knots dL_isAll_172 ml_L_231 (Nat.le_of_ble_eq_true rfl) (Nat.le_of_ble_eq_true rfl) (qkno ⟨w, w1, w2⟩ ?_)
      refine g_icmp_ne h 261 dL_isAll_175 rfl (fun c => absurd rfl c) (fun _ => ?_)
      refine g_aload_0 h dL_isAll_178 ?_
      refine g_iload_4 h dL_isAll_179 ?_
      refine g_bipush h dL_isAll_181 (v := nI 6) rfl ?_
      refine g_cVi2 h rok0 mi_X10_cord dL_isAll_183 ml_L_213 rfl rfl rfl (Nat.le_of_ble_eq_true rfl) (Nat.le_of_ble_eq_true rfl) (qc6 hW hk ?_)
      refine g_iload_5 h dL_isAll_186 ?_
      refine g_cSi1 h rok0 mi_L_turns dL_isAll_188 ml_L_234 (Nat.le_of_ble_eq_true rfl) (Nat.le_of_ble_eq_true rfl) (qtur ⟨w, w1, w2⟩ ?_)
      refine g_icmp_ne h 261 dL_isAll_191 rfl (fun c => absurd rfl c) (fun _ => ?_)
      refine g_aload_0 h dL_isAll_194 ?_
      refine g_iload_4 h dL_isAll_195 ?_
      refine g_iconst h dL_isAll_197 (v := nI 2) rfl ?_
      refine g_cVi2 h rok0 mi_X10_cord dL_isAll_198 ml_L_213 rfl rfl rfl (Nat.le_of_ble_eq_true rfl) (Nat.le_of_ble_eq_true rfl) (qc2 hW hk ?_)
      refine g_iload_8 h dL_isAll_201 ?_
      rcases hW.up hk with e | ⟨j, j1, e⟩
      · refine g_if_ge h 210 dL_isAll_203 rfl (fun c => absurd c (by rw [e]; decide)) (fun _ => ?_)
        refine g_iconst h dL_isAll_206 (v := nI 1) rfl ?_
        refine g_goto h 219 dL_isAll_207 rfl ?_
        refine g_icmp_ne h 261 dL_isAll_219 rfl (fun c => absurd (congrArg nI (show dep (I 22) 5 4 (nI k) = 1 by rw [hW.dep hk, e, dep_m1])) c) (fun _ => ?_)
        exact KB
      · refine g_if_ge h 210 dL_isAll_203 rfl (fun _ => ?_) (fun c => absurd (by rw [e]; exact nI_pos' (by omega)) c)
        refine g_aload_0 h dL_isAll_210 ?_
        refine g_iload_8 h dL_isAll_211 ?_
        refine g_iconst h dL_isAll_213 (v := nI 2) rfl ?_
        refine g_cVi2 h rok0 mi_X10_cord dL_isAll_214 ml_L_213 rfl rfl rfl (Nat.le_of_ble_eq_true rfl) (Nat.le_of_ble_eq_true rfl) (qc2x hW ⟨j, j1, e⟩ ?_)
        refine g_iconst h dL_isAll_217 (v := nI 1) rfl ?_
        refine g_iadd h dL_isAll_218 ?_
        refine g_icmp_ne h 261 dL_isAll_219 rfl (fun c => absurd (by rw [hW.dep hk, nI_add]) c) (fun _ => ?_)
        exact KB
    refine g_iload_4 h dL_isAll_9 ?_
    refine g_iconst h dL_isAll_11 (v := nI 5) rfl ?_
    refine g_icmp_ge h 317 dL_isAll_12 rfl (fun c => absurd c (nI_ge hk (by decide))) (fun _ => ?_)
    refine g_aload_0 h dL_isAll_15 ?_
    refine g_iload_4 h dL_isAll_16 ?_
    refine g_iconst h dL_isAll_18 (v := nI 3) rfl ?_
    refine g_cVi2 h rok0 mi_X10_cord dL_isAll_19 ml_L_213 rfl rfl rfl (Nat.le_of_ble_eq_true rfl) (Nat.le_of_ble_eq_true rfl) (qc3 hW hk ?_)
    refine g_istore_5 h dL_isAll_22 (by decide) rfl ?_
    refine g_iload_5 h dL_isAll_24 ?_
    refine g_istore_6 h dL_isAll_26 (by decide) rfl ?_
    refine g_iconst h dL_isAll_28 (v := nI 0) rfl ?_
    refine g_istore_7 h dL_isAll_29 (by decide) rfl ?_
    refine g_iconst h dL_isAll_31 (v := nI 0) rfl ?_
    refine g_istore_8 h dL_isAll_32 (by decide) rfl ?_
    refine lp_iA1 hW h hk ?_ 5 0 (I 23 k) (nI 0) rfl hS.symm rfl
    refine g_iload_1 h dL_isAll_76 ?_
    refine g_iload_5 h dL_isAll_77 ?_
    refine g_iadd h dL_isAll_79 ?_
    refine g_istore_1 h dL_isAll_80 (by decide) rfl ?_
    refine g_iload_2 h dL_isAll_81 ?_
    refine g_aload_0 h dL_isAll_82 ?_
    refine g_iload_4 h dL_isAll_83 ?_
    refine g_iconst h dL_isAll_85 (v := nI 1) rfl ?_
    refine g_cVi2 h rok0 mi_X10_cord dL_isAll_86 ml_L_213 rfl rfl rfl (Nat.le_of_ble_eq_true rfl) (Nat.le_of_ble_eq_true rfl) (qc1 hW hk ?_)
    rcases hW.up hk with e | ⟨j, j1, e⟩
    · refine g_if_ge h 102 dL_isAll_89 rfl (fun c => absurd c (by rw [e]; decide)) (fun _ => ?_)
      refine g_aload_0 h dL_isAll_92 ?_
      refine g_iload_4 h dL_isAll_93 ?_
      refine g_iconst h dL_isAll_95 (v := nI 4) rfl ?_
      refine g_cVi2 h rok0 mi_X10_cord dL_isAll_96 ml_L_213 rfl rfl rfl (Nat.le_of_ble_eq_true rfl) (Nat.le_of_ble_eq_true rfl) (qc4 hW hk ?_)
      refine g_goto h 103 dL_isAll_99 rfl ?_
      refine g_iadd h dL_isAll_103 ?_
      refine g_istore_2 h dL_isAll_104 (by decide) rfl ?_
      rw [if_pos e] at KA
      exact KA
    · refine g_if_ge h 102 dL_isAll_89 rfl (fun _ => ?_) (fun c => absurd (by rw [e]; exact nI_pos' (by omega)) c)
      refine g_iconst h dL_isAll_102 (v := nI 0) rfl ?_
      refine g_iadd h dL_isAll_103 ?_
      refine g_istore_2 h dL_isAll_104 (by decide) rfl ?_
      rw [if_neg (by rw [e]; exact nI_nm (by omega))] at KA
      exact KA
set_option maxRecDepth 100000 in
set_option maxHeartbeats 4000000 in
theorem lp_iA3 {Γ : Cx} {T0 C0 d : Nat} {I : MI} {J : MJ} {P : MP} {Φ : State → Prop} (hW : LW I P T0 C0) (h : Vc RL cL_isAll 9 (some .boolean) (d + 9) Γ) (hT0 : T0 < 1000000) {v1 v2 v3 W : Int32} {v6 v7 v8 : Option Value} (K : VG Γ 0 0 401 [some (.ref 0), some (.int v1), some (.int v2), some (.int v3), some (.int (W)), some (.int (nI 2)), v6, v7, v8] [] I J P Φ) : ∀ (f k : Nat) (wr : Int32), k + f = 2 → sumF (fun i => b2i (wrgB (I 25 i) (cnb 5 (I 24) (I (43 + i)) (zS (dv I) i)))) f k wr = W → VG Γ 0 0 323 [some (.ref 0), some (.int v1), some (.int v2), some (.int v3), some (.int (wr)), some (.int (nI k)), v6, v7, v8] [] I J P Φ := by
  intro f
  induction f with
  | zero =>
    intro k wr hf hs
    obtain rfl : k = 2 := by omega
    obtain rfl : wr = W := hs
    refine g_iload_5 h dL_isAll_323 ?_
    refine g_iconst h dL_isAll_325 (v := nI 2) rfl ?_
    refine g_icmp_ge h 401 dL_isAll_326 rfl (fun _ => ?_) (fun c => absurd (Int32.le_refl _) c)
    exact K
  | succ f ih =>
    intro k wr hf hs
    have hk : k < 2 := by omega
    obtain ⟨t, t1, t2⟩ := hW.2.2.2.2.2.2.1 k (by rw [hW.2.2.2.1.2.2.1]; exact hk)
    have t2 : I 25 k = nI t := t2
    obtain ⟨u, u1, u2⟩ := hW.2.2.2.2.2.2.2.1 k (by rw [hW.2.2.2.1.2.2.2]; exact hk)
    have u2 : I 26 k = nI u := u2
    refine g_iload_5 h dL_isAll_323 ?_
    refine g_iconst h dL_isAll_325 (v := nI 2) rfl ?_
    refine g_icmp_ge h 401 dL_isAll_326 rfl (fun c => absurd c (nI_ge hk (by decide))) (fun _ => ?_)
    refine g_iload_4 h dL_isAll_329 ?_
    refine g_aload_0 h dL_isAll_331 ?_
    refine g_iload_5 h dL_isAll_332 ?_
    refine g_iconst h dL_isAll_334 (v := nI 3) rfl ?_
    refine g_cVi2 h rok0 mi_X10_top dL_isAll_335 ml_L_194 rfl rfl rfl (Nat.le_of_ble_eq_true rfl) (Nat.le_of_ble_eq_true rfl) (qt3 hW hk ?_)
    refine g_iadd h dL_isAll_338 ?_
    refine g_istore_4 h dL_isAll_339 (by decide) rfl ?_
    refine g_aload_0 h dL_isAll_341 ?_
    refine g_iload_5 h dL_isAll_342 ?_
    refine g_iconst h dL_isAll_344 (v := nI 3) rfl ?_
    refine g_cVi2 h rok0 mi_X10_top dL_isAll_345 ml_L_194 rfl rfl rfl (Nat.le_of_ble_eq_true rfl) (Nat.le_of_ble_eq_true rfl) (qt3 hW hk ?_)
    refine g_aload_0 h dL_isAll_348 ?_
    refine g_iload_5 h dL_isAll_349 ?_
    refine g_iconst h dL_isAll_351 (v := nI 1) rfl ?_
    refine g_cVi2 h rok0 mi_X10_top dL_isAll_352 ml_L_194 rfl rfl rfl (Nat.le_of_ble_eq_true rfl) (Nat.le_of_ble_eq_true rfl) (qt1 hW hk ?_)
    refine g_aload_0 h dL_isAll_355 ?_
    refine g_iload_5 h dL_isAll_356 ?_
    refine g_iconst h dL_isAll_358 (v := nI 2) rfl ?_
    refine g_cVi2 h rok0 mi_X10_top dL_isAll_359 ml_L_194 rfl rfl rfl (Nat.le_of_ble_eq_true rfl) (Nat.le_of_ble_eq_true rfl) (qt2 hW hk ?_)
    refine g_icmp_ne h 369 dL_isAll_362 rfl (fun c362 => ?_) (fun c362 => ?_)
    · refine g_iconst h dL_isAll_369 (v := nI 1) rfl ?_
      refine g_icmp_ne h 393 dL_isAll_370 rfl (fun c => absurd (by first | (rw [wrgB, decide_eq_false c362]; rfl) | (rw [wrgB, decide_eq_true c362]; rfl)) c) (fun _ => ?_)
      refine g_aload_0 h dL_isAll_373 ?_
      refine g_iload_5 h dL_isAll_374 ?_
      refine g_iconst h dL_isAll_376 (v := nI 1) rfl ?_
      refine g_cVi2 h rok0 mi_X10_top dL_isAll_377 ml_L_194 rfl rfl rfl (Nat.le_of_ble_eq_true rfl) (Nat.le_of_ble_eq_true rfl) (qt1 hW hk ?_)
      refine g_if_lt h 393 dL_isAll_380 rfl (fun c => absurd c (by rw [t2]; exact nI_pos t1)) (fun _ => ?_)
      refine g_aload_0 h dL_isAll_383 ?_
      refine g_iload_5 h dL_isAll_384 ?_
      refine g_iconst h dL_isAll_386 (v := nI 1) rfl ?_
      refine g_cVi2 h rok0 mi_X10_keeper dL_isAll_387 ml_L_243 rfl rfl rfl (Nat.le_of_ble_eq_true rfl) (Nat.le_of_ble_eq_true rfl) (qk1 hW hk ?_)
      refine g_if_ge h 395 dL_isAll_390 rfl (fun _ => ?_) (fun c => absurd (by rw [u2]; exact nI_pos' (by omega)) c)
      refine g_iinc_5 h dL_isAll_395 (inc1 _) (by decide) rfl ?_
      refine g_goto h 323 dL_isAll_398 rfl ?_
      exact ih (k + 1) _ (by omega) (by rw [← hs]; rfl)
    · refine g_iconst h dL_isAll_365 (v := nI 0) rfl ?_
      refine g_goto h 370 dL_isAll_366 rfl ?_
      refine g_icmp_ne h 393 dL_isAll_370 rfl (fun c => absurd (by first | (rw [wrgB, decide_eq_false c362]; rfl) | (rw [wrgB, decide_eq_true c362]; rfl)) c) (fun _ => ?_)
      refine g_aload_0 h dL_isAll_373 ?_
      refine g_iload_5 h dL_isAll_374 ?_
      refine g_iconst h dL_isAll_376 (v := nI 1) rfl ?_
      refine g_cVi2 h rok0 mi_X10_top dL_isAll_377 ml_L_194 rfl rfl rfl (Nat.le_of_ble_eq_true rfl) (Nat.le_of_ble_eq_true rfl) (qt1 hW hk ?_)
      refine g_if_lt h 393 dL_isAll_380 rfl (fun c => absurd c (by rw [t2]; exact nI_pos t1)) (fun _ => ?_)
      refine g_aload_0 h dL_isAll_383 ?_
      refine g_iload_5 h dL_isAll_384 ?_
      refine g_iconst h dL_isAll_386 (v := nI 1) rfl ?_
      refine g_cVi2 h rok0 mi_X10_keeper dL_isAll_387 ml_L_243 rfl rfl rfl (Nat.le_of_ble_eq_true rfl) (Nat.le_of_ble_eq_true rfl) (qk1 hW hk ?_)
      refine g_if_ge h 395 dL_isAll_390 rfl (fun _ => ?_) (fun c => absurd (by rw [u2]; exact nI_pos' (by omega)) c)
      refine g_iinc_5 h dL_isAll_395 (inc1 _) (by decide) rfl ?_
      refine g_goto h 323 dL_isAll_398 rfl ?_
      exact ih (k + 1) _ (by omega) (by rw [← hs]; rfl)
set_option maxRecDepth 100000 in
set_option maxHeartbeats 4000000 in
theorem sp_L_isAll {T0 C0 d : Nat} {I : MI} {J : MJ} {P : MP} {Q : Int32 → MI → MJ → MP → Prop} (hW : LW I P T0 C0) (hT0 : T0 < 1000000) (hQ : Q (nI 1) I J P) : Sp yL_isAll cL_isAll 9 (some .boolean) (d + 9) [.ref 0] I J P (Qi Q) := by
  intro Γ h
  show VG Γ 0 0 0 [some (.ref 0), none, none, none, none, none, none, none, none] [] _ _ _ _
  have eT := hW.2.2.2.1.2.2.1
  have e6 : cntC I 6 = sumF (I 23) 5 0 (nI 0) := by
    show sumF (fun i => I (20 + 3) i) (nN (dv I)) 0 (nI 0) = _
    rw [hW.hN]
  have e9 : cntC I 9 = sumF (fun i => b2i (wrgB (I 25 i) (cnb 5 (I 24) (I (43 + i)) (zS (dv I) i)))) 2 0 (nI 0) := by
    show sumF (fun i => b2i (wrgB (I (20 + 5) i) (cnb (nN (dv I)) (I (20 + 4)) (I (43 + i)) (zS (dv I) i)))) (nT (dv I)) 0 (nI 0) = _
    rw [hW.hN, eT]
  have eM : sumF (fun j => if I 22 j = -1 then I 24 j else nI 0) 5 0 (nI 0) = sumF (I 23) 5 0 (nI 0) := (root_sum hW.lcl hW.clo).symm
  have ef : ¬ frst (fun i => decide (I 24 i = I 24 4)) 5 0 < 0 := by
    obtain ⟨k, -, k2, -, k4⟩ := frst_some (p := fun i => decide (I 24 i = I 24 4)) 5 0 4 (by decide) (by decide) (decide_eq_true rfl)
    rw [k4]
    exact nI_pos (by omega)
  have eC : colT I 5 0 2 + colT I 5 1 2 + colT I 5 2 2 = sumF (I 23) 5 0 (nI 0) := by
    show sumF (fun i => if I 21 i = nI 0 then I 23 i else nI 0) 5 0 (nI 0) + sumF (fun i => if I 21 i = nI 1 then I 23 i else nI 0) 5 0 (nI 0) + sumF (fun i => if I 21 i = nI 2 then I 23 i else nI 0) 5 0 (nI 0) = _
    rw [← sumF_add, ← sumF_add]
    refine sumF_ext _ _ _ (fun i _ hi => ?_)
    obtain ⟨j, j1, j2⟩ := (hW.2.2.2.2.1 i (by rw [hW.hN]; omega)).1
    have j2 : I 21 i = nI j := j2
    rw [hW.2.2.2.1.1] at j1
    rw [j2]
    rcases (show j = 0 ∨ j = 1 ∨ j = 2 by omega) with rfl | rfl | rfl
    · rw [if_pos rfl, if_neg (by decide), if_neg (by decide), add0, add0]
    · rw [if_neg (by decide), if_pos rfl, if_neg (by decide), add0, Int32.add_comm, add0]
    · rw [if_neg (by decide), if_neg (by decide), if_pos rfl, add0, Int32.add_comm, add0]
  refine g_iconst h dL_isAll_0 (v := nI 0) rfl ?_
  refine g_istore_1 h dL_isAll_1 (by decide) rfl ?_
  refine g_iconst h dL_isAll_2 (v := nI 0) rfl ?_
  refine g_istore_2 h dL_isAll_3 (by decide) rfl ?_
  refine g_iconst h dL_isAll_4 (v := nI 0) rfl ?_
  refine g_istore_3 h dL_isAll_5 (by decide) rfl ?_
  refine g_iconst h dL_isAll_6 (v := nI 0) rfl ?_
  refine g_istore_4 h dL_isAll_7 (by decide) rfl ?_
  refine lp_iA2 hW h (fun v5 v6 v7 v8 => ?_) 5 0 (nI 0) (nI 0) _ _ _ _ rfl rfl rfl
  refine g_iconst h dL_isAll_317 (v := nI 0) rfl ?_
  refine g_istore_4 h dL_isAll_318 (by decide) rfl ?_
  refine g_iconst h dL_isAll_320 (v := nI 0) rfl ?_
  refine g_istore_5 h dL_isAll_321 (by decide) rfl ?_
  refine lp_iA3 hW h hT0 ?_ 2 0 (nI 0) rfl rfl
  refine g_aload_0 h dL_isAll_401 ?_
  refine g_bipush h dL_isAll_402 (v := nI 6) rfl ?_
  refine g_cVi1 h rok0 mi_X10_count dL_isAll_404 ml_L_25 rfl rfl rfl (Nat.le_of_ble_eq_true rfl) (Nat.le_of_ble_eq_true rfl) (qcnt (w := 6) hW (by decide) ?_)
  refine g_iload_1 h dL_isAll_407 ?_
  refine g_icmp_ne h 474 dL_isAll_408 rfl (fun c => absurd e6 c) (fun _ => ?_)
  refine g_iload_2 h dL_isAll_411 ?_
  refine g_iload_1 h dL_isAll_412 ?_
  refine g_icmp_ne h 474 dL_isAll_413 rfl (fun c => absurd eM c) (fun _ => ?_)
  refine g_iload_3 h dL_isAll_416 ?_
  refine g_bipush h dL_isAll_417 (v := nI 31) rfl ?_
  refine g_icmp_ne h 474 dL_isAll_419 rfl (fun c => absurd rfl c) (fun _ => ?_)
  refine g_aload_0 h dL_isAll_422 ?_
  refine g_bipush h dL_isAll_423 (v := nI 9) rfl ?_
  refine g_cVi1 h rok0 mi_X10_count dL_isAll_425 ml_L_25 rfl rfl rfl (Nat.le_of_ble_eq_true rfl) (Nat.le_of_ble_eq_true rfl) (qcnt (w := 9) hW (by decide) ?_)
  refine g_iload_4 h dL_isAll_428 ?_
  refine g_icmp_ne h 474 dL_isAll_430 rfl (fun c => absurd e9 c) (fun _ => ?_)
  refine g_aload_0 h dL_isAll_433 ?_
  refine g_aload_0 h dL_isAll_434 ?_
  refine g_iconst h dL_isAll_435 (v := nI 4) rfl ?_
  refine g_iconst h dL_isAll_436 (v := nI 4) rfl ?_
  refine g_cVi2 h rok0 mi_X10_cord dL_isAll_437 ml_L_213 rfl rfl rfl (Nat.le_of_ble_eq_true rfl) (Nat.le_of_ble_eq_true rfl) (qc4 (a := 4) hW (by decide) ?_)
  refine g_cVi1 h rok0 mi_X10_find dL_isAll_440 ml_L_246 rfl rfl rfl (Nat.le_of_ble_eq_true rfl) (Nat.le_of_ble_eq_true rfl) (qfnd hW ?_)
  refine g_if_lt h 474 dL_isAll_443 rfl (fun c => absurd c ef) (fun _ => ?_)
  refine g_aload_0 h dL_isAll_446 ?_
  refine g_iconst h dL_isAll_447 (v := nI 0) rfl ?_
  refine g_iconst h dL_isAll_448 (v := nI 2) rfl ?_
  refine g_cVi2 h rok0 mi_X10_colour dL_isAll_449 ml_L_249 rfl rfl rfl (Nat.le_of_ble_eq_true rfl) (Nat.le_of_ble_eq_true rfl) (qcol (a := 0) (w := 2) hW (by decide) (by decide) ?_)
  refine g_aload_0 h dL_isAll_452 ?_
  refine g_iconst h dL_isAll_453 (v := nI 1) rfl ?_
  refine g_iconst h dL_isAll_454 (v := nI 2) rfl ?_
  refine g_cVi2 h rok0 mi_X10_colour dL_isAll_455 ml_L_249 rfl rfl rfl (Nat.le_of_ble_eq_true rfl) (Nat.le_of_ble_eq_true rfl) (qcol (a := 1) (w := 2) hW (by decide) (by decide) ?_)
  refine g_iadd h dL_isAll_458 ?_
  refine g_aload_0 h dL_isAll_459 ?_
  refine g_iconst h dL_isAll_460 (v := nI 2) rfl ?_
  refine g_iconst h dL_isAll_461 (v := nI 2) rfl ?_
  refine g_cVi2 h rok0 mi_X10_colour dL_isAll_462 ml_L_249 rfl rfl rfl (Nat.le_of_ble_eq_true rfl) (Nat.le_of_ble_eq_true rfl) (qcol (a := 2) (w := 2) hW (by decide) (by decide) ?_)
  refine g_iadd h dL_isAll_465 ?_
  refine g_iload_1 h dL_isAll_466 ?_
  refine g_icmp_ne h 474 dL_isAll_467 rfl (fun c => absurd eC c) (fun _ => ?_)
  refine g_iconst h dL_isAll_470 (v := nI 1) rfl ?_
  refine g_goto h 475 dL_isAll_471 rfl ?_
  refine g_zret h dL_isAll_475 (by first | rfl | exact nar_b2i _) ?_
  exact hQ
