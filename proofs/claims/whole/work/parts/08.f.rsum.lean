/-! The reference's parser: rows of one sign -/
def rgE (K wd : Nat → Nat) (V : Nat → Int32) (M : Nat) (mm : Nat → Int32) (I : MI) (c p z : Nat) (x : Option (Nat × Nat)) (p' z' : Nat) (I' : MI) : Prop := FRm z I I' ∧ rE K wd V M mm I' c p' z' (x.or (fbd K mm (p' - p) p)) ∧ z ≤ z' ∧ z' + p ≤ z + p' ∧ p < p'
def cE (K wd : Nat → Nat) (V : Nat → Int32) (M : Nat) (mm : Nat → Int32) (y : MethodName) (cb : ByteArray) (nL D c : Nat) (s : Bool) (g : Nat → PRs) : Prop := ∀ (p z : Nat) (x : Option (Nat × Nat)) (I : MI) (J : MJ) (P : MP), P 80 9 = some 104 → rE K wd V M mm I c p z x → ∀ {Q : Int32 → MI → MJ → MP → Prop}, (∀ I' v z', (g p).1 = true → rgE K wd V M mm I c p z x (g p).2.1 z' I' → (fbd K mm ((g p).2.1 - p) p = none → nd s I' z' v (g p).2.2) → Q v I' J P) → (∀ I' v, (g p).1 = false → rB M I p z (g p).2.1 I' → Q v I' J P) → Sp y cb nL (some .int) D [.ref 80] I J P (Qi Q)
def pd (K : Nat → Nat) (lo hi : Nat) (cl : Nat → Bool) (g : Nat → PRs) (f p w : Nat) (A : EX) : PRs := if (g p).1 then opL K lo hi cl g f (g p).2.1 w A (g p).2.2 else (false, (g p).2.1, zE)
def cFS (K wd : Nat → Nat) (V : Nat → Int32) (M : Nat) (mm : Nat → Int32) (c : Nat) (s : Bool) (lo hi : Nat) (cl : Nat → Bool) (g : Nat → PRs) (f p z : Nat) (x : Option (Nat × Nat)) (I : MI) (Q : Int32 → MI → Prop) : Prop := ∀ I' v z' p' f' E, (∀ w A, pd K lo hi cl g f p w A = opL K lo hi cl g f' p' w A E) → ¬ (lo ≤ K p' ∧ K p' ≤ hi ∧ cl (K p') = true) → M < p' + f' → rgE K wd V M mm I c p z x p' z' I' → (fbd K mm (p' - p) p = none → nd s I' z' v E) → Q v I'
def cFF (K : Nat → Nat) (M lo hi : Nat) (cl : Nat → Bool) (g : Nat → PRs) (f p z : Nat) (I : MI) (Q : Int32 → MI → Prop) : Prop := ∀ I' v e, (∀ w A, pd K lo hi cl g f p w A = (false, e, zE)) → rB M I p z e I' → Q v I'
def cF (K wd : Nat → Nat) (V : Nat → Int32) (M : Nat) (mm : Nat → Int32) (y : MethodName) (cb : ByteArray) (nL D c : Nat) (s : Bool) (lo hi : Nat) (cl : Nat → Bool) (g : Nat → PRs) : Prop := ∀ (p z : Nat) (x : Option (Nat × Nat)) (I : MI) (J : MJ) (P : MP), P 80 9 = some 104 → rE K wd V M mm I c p z x → ∀ f, M < p + f → ∀ {Q : Int32 → MI → MJ → MP → Prop}, cFS K wd V M mm c s lo hi cl g f p z x I (fun v I' => Q v I' J P) → cFF K M lo hi cl g f p z I (fun v I' => Q v I' J P) → Sp y cb nL (some .int) D [.ref 80] I J P (Qi Q)
theorem pd_t {K : Nat → Nat} {lo hi : Nat} {cl : Nat → Bool} {g : Nat → PRs} {f p w : Nat} {A : EX} (h : (g p).1 = true) : pd K lo hi cl g f p w A = opL K lo hi cl g f (g p).2.1 w A (g p).2.2 := by rw [pd, if_pos h]
theorem pd_f {K : Nat → Nat} {lo hi : Nat} {cl : Nat → Bool} {g : Nat → PRs} {f p w : Nat} {A : EX} (h : (g p).1 = false) : pd K lo hi cl g f p w A = (false, (g p).2.1, zE) := by rw [pd, if_neg (by rw [h]; decide)]
theorem opL_cl {K : Nat → Nat} {lo hi : Nat} {cl : Nat → Bool} {g : Nat → PRs} {f p w : Nat} {A E : EX} (h : lo ≤ K p ∧ K p ≤ hi) (hc : cl (K p) = true) : opL K lo hi cl g (f + 1) p w A E = if (g (p + 1)).1 then opL K lo hi cl g f (g (p + 1)).2.1 w A (joE (K p) E (g (p + 1)).2.2) else (false, (g (p + 1)).2.1, zE) := by
  rw [opL, if_pos h, if_pos hc, if_pos hc, if_pos hc]
theorem opL_op {K : Nat → Nat} {lo hi : Nat} {cl : Nat → Bool} {g : Nat → PRs} {f p w : Nat} {A E : EX} (h : lo ≤ K p ∧ K p ≤ hi) (hc : ¬ cl (K p) = true) : opL K lo hi cl g (f + 1) p w A E = pd K lo hi cl g f (p + 1) (K p) (wtE w A E) := by
  rw [opL, if_pos h, if_neg hc, if_neg hc, if_neg hc, pd]
theorem opL_no {K : Nat → Nat} {lo hi : Nat} {cl : Nat → Bool} {g : Nat → PRs} {f p w : Nat} {A E : EX} (h : ¬ (lo ≤ K p ∧ K p ≤ hi)) : opL K lo hi cl g f p w A E = (true, p, wtE w A E) := by
  cases f with
  | zero => rfl
  | succ f => rw [opL, if_neg h]
theorem opS_pd {K : Nat → Nat} {lo hi : Nat} {cl : Nat → Bool} {g : Nat → PRs} {p : Nat} : opS K lo hi cl g p = pd K lo hi cl g 401 p 48 zE := rfl
theorem rgE.st {K wd : Nat → Nat} {V mm : Nat → Int32} {M : Nat} {I0 I I2 I3 : MI} {c p0 z0 p z p2 z2 : Nat} {x0 : Option (Nat × Nat)} {a b d : Int32} (h : rgE K wd V M mm I0 c p0 z0 x0 p z I) (hK : ¬ K p = 28) (h2 : rgE K wd V M mm (up2 I 80 14 (nI (p + 1))) c (p + 1) z (x0.or (fbd K mm (p - p0) p0)) p2 z2 I2) (w : nwF z2 a b d I2 I3) : rgE K wd V M mm I0 c p0 z0 x0 p2 (z2 + 1) I3 ∧ fbd K mm (p2 - p0) p0 = (fbd K mm (p - p0) p0).or (fbd K mm (p2 - (p + 1)) (p + 1)) ∧ FRm z I I3 ∧ FRm z2 I2 I3 ∧ p2 ≤ M := by
  obtain ⟨a1, a2, a3, a4, a5⟩ := h
  obtain ⟨b1, b2, b3, b4, b5⟩ := h2
  have m1 := a2.M4
  have m2 := b2.M4
  have e : fbd K mm (p2 - p0) p0 = (fbd K mm (p - p0) p0).or (fbd K mm (p2 - (p + 1)) (p + 1)) := by
    rw [fbd_2 (show p0 ≤ p by omega) (show p ≤ p2 by omega), fbd_0 (show p < p2 by omega) hK]
  have f1 : FRm z I I3 := ((FRm.at (by decide) (by decide)).tr b1 (Nat.le_refl _)).tr w.1 b3
  refine ⟨⟨a1.tr f1 a3, ?_, by omega, by omega, by omega⟩, e, f1, w.1, by omega⟩
  rw [e, ← Option.or_assoc]
  exact b2.nw (by omega) w
theorem rB.st {K wd : Nat → Nat} {V mm : Nat → Int32} {M : Nat} {I0 I I2 I3 : MI} {c p0 z0 p z zz e : Nat} {x0 : Option (Nat × Nat)} {a b d : Int32} (h : rgE K wd V M mm I0 c p0 z0 x0 p z I) (h2 : rB M (up2 I 80 14 (nI (p + 1))) (p + 1) z e I2) (hz : I2 104 12 = nI zz) (h4 : zz < 401) (w : nwF zz a b d I2 I3) : rB M I0 p0 z0 e I3 := by
  obtain ⟨a1, a2, a3, a4, a5⟩ := h
  have m1 := a2.M4
  obtain ⟨b1, b2, b3, b4, y, y1, y2, y3⟩ := h2
  obtain ⟨w1, w2, w3, w4, w5, w6⟩ := w
  obtain rfl : zz = y := eqN (hz.symm.trans y1) (by omega) (by omega)
  have f1 : FRm z I I3 := ((FRm.at (by decide) (by decide)).tr b1 (Nat.le_refl _)).tr w1 y2
  exact ⟨a1.tr f1 a3, by rw [w6]; exact b2, by omega, b4, _, w5, by omega, by omega⟩
theorem rB.cnt {M : Nat} {I I' : MI} {p z e : Nat} (h : rB M I p z e I') (hz : z ≤ p) (hM : M ≤ 400) (hp : 0 < p) (hzp : z < p) : ∃ y, I' 104 12 = nI y ∧ y < 401 := by
  obtain ⟨b1, b2, b3, b4, y, y1, y2, y3⟩ := h
  exact ⟨y, y1, by omega⟩
theorem rE.cnt {K wd : Nat → Nat} {V mm : Nat → Int32} {M : Nat} {I : MI} {c p z : Nat} {x : Option (Nat × Nat)} (h : rE K wd V M mm I c p z x) : I 104 12 = nI z := h.2.2.2.2.2.2.1.1
theorem rE.val {K wd : Nat → Nat} {V mm : Nat → Int32} {M : Nat} {I : MI} {c p z : Nat} {x : Option (Nat × Nat)} (h : rE K wd V M mm I c p z x) (h1 : 30 ≤ K p ∧ K p ≤ 44) : I 83 p = nI (sgC (K p)) := (h.1.2.2.1 p h.2.2.1).2.2.2.2 h1.1 h1.2
theorem rE.key {K wd : Nat → Nat} {V mm : Nat → Int32} {M : Nat} {I : MI} {c p z : Nat} {x : Option (Nat × Nat)} (h : rE K wd V M mm I c p z x) (h1 : K p < 28) : I 83 p = nI (K p) := (h.1.2.2.1 p h.2.2.1).2.2.1 h1
theorem rgE.z0 {K wd : Nat → Nat} {V mm : Nat → Int32} {M : Nat} {I : MI} {c p z : Nat} {x : Option (Nat × Nat)} (h : rE K wd V M mm I c p z x) : x.or (fbd K mm (p - p) p) = x := by rw [Nat.sub_self]; cases x <;> rfl
set_option maxRecDepth 100000 in
set_option maxHeartbeats 4000000 in
theorem sp_one_dd {d : Nat} {I : MI} {J : MJ} {P : MP} {f : Nat} (hf4 : f < 2 ^ 31) (hf : I 80 16 = nI f) {Q : Int32 → MI → MJ → MP → Prop} (hQ : Q (nI 0) I J P) : Sp yX12_one cX12_one 2 (some .int) (d + 2) [.ref 80] I J P (Qi Q) := by
  intro Γ h
  show VG Γ 0 0 0 [some (.ref 80), none] [] _ _ _ _
  refine g_aload_0 h dX12_one_0 ?_
  refine g_cVi0 h rok0 mi_X12_isOk dX12_one_1 ml_X12_121 rfl rfl rfl (Nat.le_of_ble_eq_true rfl) (Nat.le_of_ble_eq_true rfl) (sp_isOk_dd hf4 hf ?_)
  refine g_if_ne h 9 dX12_one_4 rfl (fun c => absurd c (by decide)) (fun _ => ?_)
  refine g_iconst h dX12_one_7 (v := nI 0) rfl ?_
  refine g_iret h dX12_one_8 ?_
  exact hQ
set_option maxRecDepth 100000 in
set_option maxHeartbeats 4000000 in
theorem sp_product_dd {d : Nat} {I : MI} {J : MJ} {P : MP} {f : Nat} (hf4 : f < 2 ^ 31) (hf : I 80 16 = nI f) {Q : Int32 → MI → MJ → MP → Prop} (hQ : Q (nI 0) I J P) : Sp yX12_product cX12_product 3 (some .int) (d + 3) [.ref 80] I J P (Qi Q) := by
  intro Γ h
  show VG Γ 0 0 0 [some (.ref 80), none, none] [] _ _ _ _
  refine g_aload_0 h dX12_product_0 ?_
  refine g_cVi0 h rok0 mi_X12_one dX12_product_1 ml_X12_177 rfl rfl rfl (Nat.le_of_ble_eq_true rfl) (Nat.le_of_ble_eq_true rfl) (sp_one_dd hf4 hf ?_)
  refine g_istore_1 h dX12_product_4 (by decide) rfl ?_
  refine g_aload_0 h dX12_product_5 ?_
  refine g_iconst h dX12_product_6 (v := nI 4) rfl ?_
  refine g_bipush h dX12_product_7 (v := nI 42) rfl ?_
  refine g_cVi2 h rok0 mi_X12_is dX12_product_9 ml_X12_125 rfl rfl rfl (Nat.le_of_ble_eq_true rfl) (Nat.le_of_ble_eq_true rfl) (sp_is_dd hf4 hf ?_)
  refine g_if_ne h 25 dX12_product_12 rfl (fun c => absurd c (by decide)) (fun _ => ?_)
  refine g_aload_0 h dX12_product_15 ?_
  refine g_iconst h dX12_product_16 (v := nI 4) rfl ?_
  refine g_bipush h dX12_product_17 (v := nI 47) rfl ?_
  refine g_cVi2 h rok0 mi_X12_is dX12_product_19 ml_X12_125 rfl rfl rfl (Nat.le_of_ble_eq_true rfl) (Nat.le_of_ble_eq_true rfl) (sp_is_dd hf4 hf ?_)
  refine g_if_eq h 62 dX12_product_22 rfl (fun _ => ?_) (fun c => absurd c (by decide))
  refine g_iload_1 h dX12_product_62 ?_
  refine g_iret h dX12_product_63 ?_
  exact hQ
set_option maxRecDepth 100000 in
set_option maxHeartbeats 4000000 in
theorem sp_sum_dd {d : Nat} {I : MI} {J : MJ} {P : MP} {f : Nat} (hf4 : f < 2 ^ 31) (hf : I 80 16 = nI f) {Q : Int32 → MI → MJ → MP → Prop} (hQ : Q (nI 0) I J P) : Sp yX12_sum cX12_sum 3 (some .int) (d + 4) [.ref 80] I J P (Qi Q) := by
  intro Γ h
  show VG Γ 0 0 0 [some (.ref 80), none, none] [] _ _ _ _
  refine g_aload_0 h dX12_sum_0 ?_
  refine g_cVi0 h rok0 mi_X12_product dX12_sum_1 ml_X12_170 rfl rfl rfl (Nat.le_of_ble_eq_true rfl) (Nat.le_of_ble_eq_true rfl) (sp_product_dd hf4 hf ?_)
  refine g_istore_1 h dX12_sum_4 (by decide) rfl ?_
  refine g_aload_0 h dX12_sum_5 ?_
  refine g_iconst h dX12_sum_6 (v := nI 4) rfl ?_
  refine g_bipush h dX12_sum_7 (v := nI 43) rfl ?_
  refine g_cVi2 h rok0 mi_X12_is dX12_sum_9 ml_X12_125 rfl rfl rfl (Nat.le_of_ble_eq_true rfl) (Nat.le_of_ble_eq_true rfl) (sp_is_dd hf4 hf ?_)
  refine g_if_ne h 25 dX12_sum_12 rfl (fun c => absurd c (by decide)) (fun _ => ?_)
  refine g_aload_0 h dX12_sum_15 ?_
  refine g_iconst h dX12_sum_16 (v := nI 4) rfl ?_
  refine g_bipush h dX12_sum_17 (v := nI 45) rfl ?_
  refine g_cVi2 h rok0 mi_X12_is dX12_sum_19 ml_X12_125 rfl rfl rfl (Nat.le_of_ble_eq_true rfl) (Nat.le_of_ble_eq_true rfl) (sp_is_dd hf4 hf ?_)
  refine g_if_eq h 62 dX12_sum_22 rfl (fun _ => ?_) (fun c => absurd c (by decide))
  refine g_iload_1 h dX12_sum_62 ?_
  refine g_iret h dX12_sum_63 ?_
  exact hQ
set_option maxRecDepth 100000 in
set_option maxHeartbeats 4000000 in
theorem lp_product {Γ : Cx} {K wd : Nat → Nat} {V mm : Nat → Int32} {M : Nat} {c D : Nat} {g : Nat → PRs} {I0 : MI} {J : MJ} {P : MP} {p0 z0 f0 : Nat} {x0 : Option (Nat × Nat)} (hP : P 80 9 = some 104) (hz0 : z0 ≤ p0) (hG : cE K wd V M mm yX12_one cX12_one 2 (D + 6) c true g) {Q : Int32 → MI → MJ → MP → Prop} (hS : cFS K wd V M mm c true 36 39 clS g f0 p0 z0 x0 I0 (fun v I' => Q v I' J P)) (hF : cFF K M 36 39 clS g f0 p0 z0 I0 (fun v I' => Q v I' J P)) (h : Vc RX12 cX12_product 3 (some .int) (D + 7) Γ) : ∀ (f p z : Nat) (I : MI) (v : Int32) (E : EX) (x2 : Option Value) , (∀ w A, pd K 36 39 clS g f0 p0 w A = opL K 36 39 clS g f p w A E) → M < p + f → rgE K wd V M mm I0 c p0 z0 x0 p z I → (fbd K mm (p - p0) p0 = none → nd true I z v E) → VG Γ 0 0 5 [some (.ref 80), some (.int v), x2] [] I J P (Fnl Γ (Qi Q)) := by
  intro f
  induction f with
  | zero =>
    intro p z I v E x2 hR hf hr hn
    have := hr.2.1.M4
    omega
  | succ f ih =>
    intro p z I v E x2 hR hf hr hn
    have hE := hr.2.1
    obtain ⟨M4, K45, hp, hzp, c8⟩ := hE.M4
    obtain ⟨-, -, u3, u4, u5⟩ := id hr
    by_cases k1 : K p = 38
    · have hpM := K_lt K45 hp k1 (by decide)
      refine g_aload_0 h dX12_product_5 ?_
      refine g_iconst h dX12_product_6 (v := nI 4) rfl ?_
      refine g_bipush h dX12_product_7 (v := nI 42) rfl ?_
      refine g_cVi2 h rok0 mi_X12_is dX12_product_9 ml_X12_125 rfl rfl rfl (Nat.le_of_ble_eq_true rfl) (Nat.le_of_ble_eq_true rfl) (sgC_is (k := 38) rfl (by decide) hE.1 hE.2.1 hE.2.2.1 (fun _ => ?_) (fun q => absurd (show K p = 38 by omega) q))
      refine g_if_ne h 25 dX12_product_12 rfl (fun _ => ?_) (fun c => absurd c (by decide))
      refine g_aload_0 h dX12_product_25 ?_
      refine g_getC h fl_X12_42 dX12_product_26 rfl rfl ?_
      refine g_aload_0 h dX12_product_29 ?_
      refine g_getI h fl_X12_118 dX12_product_30 rfl rfl ?_
      refine g_iald h p dX12_product_33 rfl hE.2.1.1 (by omega) ?_
      rw [show I 83 p = nI 42 by rw [hE.val (by omega), k1]; rfl]
      refine g_istore_2 h dX12_product_34 (by decide) rfl ?_
      refine g_aload_0 h dX12_product_35 ?_
      refine g_dup h dX12_product_36 rfl ?_
      refine g_getI h fl_X12_118 dX12_product_37 rfl rfl ?_
      refine g_iconst h dX12_product_40 (v := nI 1) rfl ?_
      refine g_iadd h dX12_product_41 ?_
      refine g_putI h fp_X12_118 dX12_product_42 rfl rfl ?_
      rw [show I 80 14 + nI 1 = nI (p + 1) by rw [hE.2.1.1]; exact nI_1 p]
      refine g_aload_0 h dX12_product_45 ?_
      refine g_getP h fl_X12_91 dX12_product_46 rfl rfl (by assumption) ?_
      refine g_iload_2 h dX12_product_49 ?_
      refine g_iload_1 h dX12_product_50 ?_
      refine g_aload_0 h dX12_product_51 ?_
      refine g_cVi0 h rok0 mi_X12_one dX12_product_52 ml_X12_177 rfl rfl rfl (Nat.le_of_ble_eq_true rfl) (Nat.le_of_ble_eq_true rfl) (hG (p + 1) z _ _ J P hP (hE.at hpM) (fun I2 v2 z2 e2 q2 n2 => ?_) (fun I2 v2 e2 b2 => ?_))
      · obtain ⟨-, -, t3, t4, t5⟩ := id q2
        have t6 := q2.2.1.M4
        refine g_cVi3 h rok0 mi_X11_node dX12_product_55 ml_X12_173 rfl rfl rfl (Nat.le_of_ble_eq_true rfl) (Nat.le_of_ble_eq_true rfl) (sp_nodeW (z := z2) (by omega) q2.2.1.cnt (fun I3 w3 => ?_))
        refine g_istore_1 h dX12_product_58 (by decide) rfl ?_
        refine g_goto h 5 dX12_product_59 rfl ?_
        obtain ⟨s1, s2, s3, s4, s5⟩ := hr.st (by omega) q2 w3
        refine ih (g (p + 1)).2.1 (z2 + 1) I3 _ (joE (K p) E (g (p + 1)).2.2) _ (fun w A => ?_) (by omega) s1 (fun hb => ?_)
        · rw [hR, opL_cl (by omega) (by rw [k1]; rfl), if_pos e2]
        · rw [s2] at hb
          obtain ⟨h1, h2⟩ := Option.or_eq_none_iff.mp hb
          exact nd_bin (k := K p) (by rw [k1]; simp [arK]) ((hn h1).mv s3 (show z ≤ z2 from t3)) ((n2 h2).mv s4 (Nat.le_refl _)) (Nat.le_refl _) (Nat.le_refl _) (by omega) (w3.2.1) w3.2.2.1 w3.2.2.2.1
      · obtain ⟨y2, y3, y4⟩ := b2.cnt (by omega) M4 (by omega) (by omega)
        have t6 := b2.2.2.2.1
        refine g_cVi3 h rok0 mi_X11_node dX12_product_55 ml_X12_173 rfl rfl rfl (Nat.le_of_ble_eq_true rfl) (Nat.le_of_ble_eq_true rfl) (sp_nodeW (z := y2) y4 y3 (fun I3 w3 => ?_))
        refine g_istore_1 h dX12_product_58 (by decide) rfl ?_
        refine g_goto h 5 dX12_product_59 rfl ?_
        have bb := rB.st hr b2 y3 y4 w3
        refine g_aload_0 h dX12_product_5 ?_
        refine g_iconst h dX12_product_6 (v := nI 4) rfl ?_
        refine g_bipush h dX12_product_7 (v := nI 42) rfl ?_
        refine g_cVi2 h rok0 mi_X12_is dX12_product_9 ml_X12_125 rfl rfl rfl (Nat.le_of_ble_eq_true rfl) (Nat.le_of_ble_eq_true rfl) (sp_is_dd (f := (g (p + 1)).2.1) (by omega) bb.2.1 ?_)
        refine g_if_ne h 25 dX12_product_12 rfl (fun c => absurd c (by decide)) (fun _ => ?_)
        refine g_aload_0 h dX12_product_15 ?_
        refine g_iconst h dX12_product_16 (v := nI 4) rfl ?_
        refine g_bipush h dX12_product_17 (v := nI 47) rfl ?_
        refine g_cVi2 h rok0 mi_X12_is dX12_product_19 ml_X12_125 rfl rfl rfl (Nat.le_of_ble_eq_true rfl) (Nat.le_of_ble_eq_true rfl) (sp_is_dd (f := (g (p + 1)).2.1) (by omega) bb.2.1 ?_)
        refine g_if_eq h 62 dX12_product_22 rfl (fun _ => ?_) (fun c => absurd c (by decide))
        refine g_iload_1 h dX12_product_62 ?_
        refine g_iret h dX12_product_63 ?_
        refine hF _ _ _ (fun w A => ?_) bb
        rw [hR, opL_cl (by omega) (by rw [k1]; rfl), if_neg (by rw [e2]; decide)]
    by_cases k1 : K p = 39
    · have hpM := K_lt K45 hp k1 (by decide)
      refine g_aload_0 h dX12_product_5 ?_
      refine g_iconst h dX12_product_6 (v := nI 4) rfl ?_
      refine g_bipush h dX12_product_7 (v := nI 42) rfl ?_
      refine g_cVi2 h rok0 mi_X12_is dX12_product_9 ml_X12_125 rfl rfl rfl (Nat.le_of_ble_eq_true rfl) (Nat.le_of_ble_eq_true rfl) (sgC_is (k := 38) rfl (by decide) hE.1 hE.2.1 hE.2.2.1 (fun q => absurd q (by omega)) (fun _ => ?_))
      refine g_if_ne h 25 dX12_product_12 rfl (fun c => absurd c (by decide)) (fun _ => ?_)
      refine g_aload_0 h dX12_product_15 ?_
      refine g_iconst h dX12_product_16 (v := nI 4) rfl ?_
      refine g_bipush h dX12_product_17 (v := nI 47) rfl ?_
      refine g_cVi2 h rok0 mi_X12_is dX12_product_19 ml_X12_125 rfl rfl rfl (Nat.le_of_ble_eq_true rfl) (Nat.le_of_ble_eq_true rfl) (sgC_is (k := 39) rfl (by decide) hE.1 hE.2.1 hE.2.2.1 (fun _ => ?_) (fun q => absurd (show K p = 39 by omega) q))
      refine g_if_eq h 62 dX12_product_22 rfl (fun c => absurd c (by decide)) (fun _ => ?_)
      refine g_aload_0 h dX12_product_25 ?_
      refine g_getC h fl_X12_42 dX12_product_26 rfl rfl ?_
      refine g_aload_0 h dX12_product_29 ?_
      refine g_getI h fl_X12_118 dX12_product_30 rfl rfl ?_
      refine g_iald h p dX12_product_33 rfl hE.2.1.1 (by omega) ?_
      rw [show I 83 p = nI 47 by rw [hE.val (by omega), k1]; rfl]
      refine g_istore_2 h dX12_product_34 (by decide) rfl ?_
      refine g_aload_0 h dX12_product_35 ?_
      refine g_dup h dX12_product_36 rfl ?_
      refine g_getI h fl_X12_118 dX12_product_37 rfl rfl ?_
      refine g_iconst h dX12_product_40 (v := nI 1) rfl ?_
      refine g_iadd h dX12_product_41 ?_
      refine g_putI h fp_X12_118 dX12_product_42 rfl rfl ?_
      rw [show I 80 14 + nI 1 = nI (p + 1) by rw [hE.2.1.1]; exact nI_1 p]
      refine g_aload_0 h dX12_product_45 ?_
      refine g_getP h fl_X12_91 dX12_product_46 rfl rfl (by assumption) ?_
      refine g_iload_2 h dX12_product_49 ?_
      refine g_iload_1 h dX12_product_50 ?_
      refine g_aload_0 h dX12_product_51 ?_
      refine g_cVi0 h rok0 mi_X12_one dX12_product_52 ml_X12_177 rfl rfl rfl (Nat.le_of_ble_eq_true rfl) (Nat.le_of_ble_eq_true rfl) (hG (p + 1) z _ _ J P hP (hE.at hpM) (fun I2 v2 z2 e2 q2 n2 => ?_) (fun I2 v2 e2 b2 => ?_))
      · obtain ⟨-, -, t3, t4, t5⟩ := id q2
        have t6 := q2.2.1.M4
        refine g_cVi3 h rok0 mi_X11_node dX12_product_55 ml_X12_173 rfl rfl rfl (Nat.le_of_ble_eq_true rfl) (Nat.le_of_ble_eq_true rfl) (sp_nodeW (z := z2) (by omega) q2.2.1.cnt (fun I3 w3 => ?_))
        refine g_istore_1 h dX12_product_58 (by decide) rfl ?_
        refine g_goto h 5 dX12_product_59 rfl ?_
        obtain ⟨s1, s2, s3, s4, s5⟩ := hr.st (by omega) q2 w3
        refine ih (g (p + 1)).2.1 (z2 + 1) I3 _ (joE (K p) E (g (p + 1)).2.2) _ (fun w A => ?_) (by omega) s1 (fun hb => ?_)
        · rw [hR, opL_cl (by omega) (by rw [k1]; rfl), if_pos e2]
        · rw [s2] at hb
          obtain ⟨h1, h2⟩ := Option.or_eq_none_iff.mp hb
          exact nd_bin (k := K p) (by rw [k1]; simp [arK]) ((hn h1).mv s3 (show z ≤ z2 from t3)) ((n2 h2).mv s4 (Nat.le_refl _)) (Nat.le_refl _) (Nat.le_refl _) (by omega) (w3.2.1) w3.2.2.1 w3.2.2.2.1
      · obtain ⟨y2, y3, y4⟩ := b2.cnt (by omega) M4 (by omega) (by omega)
        have t6 := b2.2.2.2.1
        refine g_cVi3 h rok0 mi_X11_node dX12_product_55 ml_X12_173 rfl rfl rfl (Nat.le_of_ble_eq_true rfl) (Nat.le_of_ble_eq_true rfl) (sp_nodeW (z := y2) y4 y3 (fun I3 w3 => ?_))
        refine g_istore_1 h dX12_product_58 (by decide) rfl ?_
        refine g_goto h 5 dX12_product_59 rfl ?_
        have bb := rB.st hr b2 y3 y4 w3
        refine g_aload_0 h dX12_product_5 ?_
        refine g_iconst h dX12_product_6 (v := nI 4) rfl ?_
        refine g_bipush h dX12_product_7 (v := nI 42) rfl ?_
        refine g_cVi2 h rok0 mi_X12_is dX12_product_9 ml_X12_125 rfl rfl rfl (Nat.le_of_ble_eq_true rfl) (Nat.le_of_ble_eq_true rfl) (sp_is_dd (f := (g (p + 1)).2.1) (by omega) bb.2.1 ?_)
        refine g_if_ne h 25 dX12_product_12 rfl (fun c => absurd c (by decide)) (fun _ => ?_)
        refine g_aload_0 h dX12_product_15 ?_
        refine g_iconst h dX12_product_16 (v := nI 4) rfl ?_
        refine g_bipush h dX12_product_17 (v := nI 47) rfl ?_
        refine g_cVi2 h rok0 mi_X12_is dX12_product_19 ml_X12_125 rfl rfl rfl (Nat.le_of_ble_eq_true rfl) (Nat.le_of_ble_eq_true rfl) (sp_is_dd (f := (g (p + 1)).2.1) (by omega) bb.2.1 ?_)
        refine g_if_eq h 62 dX12_product_22 rfl (fun _ => ?_) (fun c => absurd c (by decide))
        refine g_iload_1 h dX12_product_62 ?_
        refine g_iret h dX12_product_63 ?_
        refine hF _ _ _ (fun w A => ?_) bb
        rw [hR, opL_cl (by omega) (by rw [k1]; rfl), if_neg (by rw [e2]; decide)]
    refine g_aload_0 h dX12_product_5 ?_
    refine g_iconst h dX12_product_6 (v := nI 4) rfl ?_
    refine g_bipush h dX12_product_7 (v := nI 42) rfl ?_
    refine g_cVi2 h rok0 mi_X12_is dX12_product_9 ml_X12_125 rfl rfl rfl (Nat.le_of_ble_eq_true rfl) (Nat.le_of_ble_eq_true rfl) (sgC_is (k := 38) rfl (by decide) hE.1 hE.2.1 hE.2.2.1 (fun q => absurd q (by omega)) (fun _ => ?_))
    refine g_if_ne h 25 dX12_product_12 rfl (fun c => absurd c (by decide)) (fun _ => ?_)
    refine g_aload_0 h dX12_product_15 ?_
    refine g_iconst h dX12_product_16 (v := nI 4) rfl ?_
    refine g_bipush h dX12_product_17 (v := nI 47) rfl ?_
    refine g_cVi2 h rok0 mi_X12_is dX12_product_19 ml_X12_125 rfl rfl rfl (Nat.le_of_ble_eq_true rfl) (Nat.le_of_ble_eq_true rfl) (sgC_is (k := 39) rfl (by decide) hE.1 hE.2.1 hE.2.2.1 (fun q => absurd q (by omega)) (fun _ => ?_))
    refine g_if_eq h 62 dX12_product_22 rfl (fun _ => ?_) (fun c => absurd c (by decide))
    refine g_iload_1 h dX12_product_62 ?_
    refine g_iret h dX12_product_63 ?_
    exact hS _ _ _ _ _ _ hR (fun q => by have q3 := q.2.2; simp [clS] at q3; omega) hf hr hn
set_option maxRecDepth 100000 in
set_option maxHeartbeats 4000000 in
theorem cF_product {K wd : Nat → Nat} {V mm : Nat → Int32} {M : Nat} {c D : Nat} {g : Nat → PRs} (hG : cE K wd V M mm yX12_one cX12_one 2 (D + 6) c true g) : cF K wd V M mm yX12_product cX12_product 3 (D + 7) c true 36 39 clS g := by
  intro p z x I J P hP hE f hf Q hS hF Γ h
  show VG Γ 0 0 0 [some (.ref 80), none, none] [] _ _ _ _
  refine g_aload_0 h dX12_product_0 ?_
  refine g_cVi0 h rok0 mi_X12_one dX12_product_1 ml_X12_177 rfl rfl rfl (Nat.le_of_ble_eq_true rfl) (Nat.le_of_ble_eq_true rfl) (hG p z x I J P hP hE (fun I2 v2 z2 e2 q2 n2 => ?_) (fun I2 v2 e2 b2 => ?_))
  · refine g_istore_1 h dX12_product_4 (by decide) rfl ?_
    exact lp_product hP hE.M4.2.2.2.1 hG hS hF h f _ z2 I2 v2 _ _ (fun w A => pd_t e2) (by have := q2.2.2.2.2; omega) q2 n2
  · refine g_istore_1 h dX12_product_4 (by decide) rfl ?_
    refine g_aload_0 h dX12_product_5 ?_
    refine g_iconst h dX12_product_6 (v := nI 4) rfl ?_
    refine g_bipush h dX12_product_7 (v := nI 42) rfl ?_
    refine g_cVi2 h rok0 mi_X12_is dX12_product_9 ml_X12_125 rfl rfl rfl (Nat.le_of_ble_eq_true rfl) (Nat.le_of_ble_eq_true rfl) (sp_is_dd (f := (g p).2.1) (by have := hE.M4; have := b2.2.2.2.1; omega) b2.2.1 ?_)
    refine g_if_ne h 25 dX12_product_12 rfl (fun c => absurd c (by decide)) (fun _ => ?_)
    refine g_aload_0 h dX12_product_15 ?_
    refine g_iconst h dX12_product_16 (v := nI 4) rfl ?_
    refine g_bipush h dX12_product_17 (v := nI 47) rfl ?_
    refine g_cVi2 h rok0 mi_X12_is dX12_product_19 ml_X12_125 rfl rfl rfl (Nat.le_of_ble_eq_true rfl) (Nat.le_of_ble_eq_true rfl) (sp_is_dd (f := (g p).2.1) (by have := hE.M4; have := b2.2.2.2.1; omega) b2.2.1 ?_)
    refine g_if_eq h 62 dX12_product_22 rfl (fun _ => ?_) (fun c => absurd c (by decide))
    refine g_iload_1 h dX12_product_62 ?_
    refine g_iret h dX12_product_63 ?_
    exact hF _ _ _ (fun w A => pd_f e2) b2
set_option maxRecDepth 100000 in
set_option maxHeartbeats 4000000 in
theorem lp_sum {Γ : Cx} {K wd : Nat → Nat} {V mm : Nat → Int32} {M : Nat} {c D : Nat} {g : Nat → PRs} {I0 : MI} {J : MJ} {P : MP} {p0 z0 : Nat} {x0 : Option (Nat × Nat)} (hP : P 80 9 = some 104) (hz0 : z0 ≤ p0) (hG : cF K wd V M mm yX12_product cX12_product 3 (D + 7) c true 36 39 clS g) {Q : Int32 → MI → MJ → MP → Prop} (hS : ∀ I' v z', (opS K 36 39 clS g p0).1 = true → rgE K wd V M mm I0 c p0 z0 x0 (opS K 36 39 clS g p0).2.1 z' I' → (fbd K mm ((opS K 36 39 clS g p0).2.1 - p0) p0 = none → nd true I' z' v (opS K 36 39 clS g p0).2.2) → Q v I' J P) (hF : ∀ I' v, (opS K 36 39 clS g p0).1 = false → rB M I0 p0 z0 (opS K 36 39 clS g p0).2.1 I' → Q v I' J P) (h : Vc RX12 cX12_sum 3 (some .int) (D + 8) Γ) : ∀ (N f p z w : Nat) (I : MI) (v : Int32) (A E : EX) (x2 : Option Value) , (opS K 36 39 clS g p0) = opL K 36 39 clS g f p w A E → ¬ (36 ≤ K p ∧ K p ≤ 39 ∧ clS (K p) = true) → M < p + f → M < p + N → rgE K wd V M mm I0 c p0 z0 x0 p z I → (fbd K mm (p - p0) p0 = none → nd true I z v (wtE w A E)) → VG Γ 0 0 5 [some (.ref 80), some (.int v), x2] [] I J P (Fnl Γ (Qi Q)) := by
  intro N
  induction N with
  | zero =>
    intro f p z w I v A E x2 hR hcl hf hN hr hn
    have := hr.2.1.M4
    omega
  | succ N ih =>
    intro f p z w I v A E x2 hR hcl hf hN hr hn
    have hE := hr.2.1
    obtain ⟨M4, K45, hp, hzp, c8⟩ := hE.M4
    obtain ⟨-, -, u3, u4, u5⟩ := id hr
    obtain ⟨f, rfl⟩ : ∃ f', f = f' + 1 := ⟨f - 1, by omega⟩
    by_cases k1 : K p = 36
    · have hpM := K_lt K45 hp k1 (by decide)
      refine g_aload_0 h dX12_sum_5 ?_
      refine g_iconst h dX12_sum_6 (v := nI 4) rfl ?_
      refine g_bipush h dX12_sum_7 (v := nI 43) rfl ?_
      refine g_cVi2 h rok0 mi_X12_is dX12_sum_9 ml_X12_125 rfl rfl rfl (Nat.le_of_ble_eq_true rfl) (Nat.le_of_ble_eq_true rfl) (sgC_is (k := 36) rfl (by decide) hE.1 hE.2.1 hE.2.2.1 (fun _ => ?_) (fun q => absurd (show K p = 36 by omega) q))
      refine g_if_ne h 25 dX12_sum_12 rfl (fun _ => ?_) (fun c => absurd c (by decide))
      refine g_aload_0 h dX12_sum_25 ?_
      refine g_getC h fl_X12_42 dX12_sum_26 rfl rfl ?_
      refine g_aload_0 h dX12_sum_29 ?_
      refine g_getI h fl_X12_118 dX12_sum_30 rfl rfl ?_
      refine g_iald h p dX12_sum_33 rfl hE.2.1.1 (by omega) ?_
      rw [show I 83 p = nI 43 by rw [hE.val (by omega), k1]; rfl]
      refine g_istore_2 h dX12_sum_34 (by decide) rfl ?_
      refine g_aload_0 h dX12_sum_35 ?_
      refine g_dup h dX12_sum_36 rfl ?_
      refine g_getI h fl_X12_118 dX12_sum_37 rfl rfl ?_
      refine g_iconst h dX12_sum_40 (v := nI 1) rfl ?_
      refine g_iadd h dX12_sum_41 ?_
      refine g_putI h fp_X12_118 dX12_sum_42 rfl rfl ?_
      rw [show I 80 14 + nI 1 = nI (p + 1) by rw [hE.2.1.1]; exact nI_1 p]
      refine g_aload_0 h dX12_sum_45 ?_
      refine g_getP h fl_X12_91 dX12_sum_46 rfl rfl (by assumption) ?_
      refine g_iload_2 h dX12_sum_49 ?_
      refine g_iload_1 h dX12_sum_50 ?_
      refine g_aload_0 h dX12_sum_51 ?_
      refine g_cVi0 h rok0 mi_X12_product dX12_sum_52 ml_X12_170 rfl rfl rfl (Nat.le_of_ble_eq_true rfl) (Nat.le_of_ble_eq_true rfl) (hG (p + 1) z _ _ J P hP (hE.at hpM) f (by omega) (fun I2 v2 z2 p2 f2 E2 e2 c2 f3 q2 n2 => ?_) (fun I2 v2 e e2 b2 => ?_))
      · obtain ⟨-, -, t3, t4, t5⟩ := id q2
        have t6 := q2.2.1.M4
        refine g_cVi3 h rok0 mi_X11_node dX12_sum_55 ml_X12_173 rfl rfl rfl (Nat.le_of_ble_eq_true rfl) (Nat.le_of_ble_eq_true rfl) (sp_nodeW (z := z2) (by omega) q2.2.1.cnt (fun I3 w3 => ?_))
        refine g_istore_1 h dX12_sum_58 (by decide) rfl ?_
        refine g_goto h 5 dX12_sum_59 rfl ?_
        obtain ⟨s1, s2, s3, s4, s5⟩ := hr.st (by omega) q2 w3
        refine ih f2 p2 (z2 + 1) (K p) I3 _ (wtE w A E) E2 _ (by rw [hR, opL_op (by omega) (by rw [k1]; decide), e2]) c2 (by omega) (by omega) s1 (fun hb => ?_)
        rw [s2] at hb
        obtain ⟨h1, h2⟩ := Option.or_eq_none_iff.mp hb
        rw [show wtE (K p) (wtE w A E) E2 = joE (K p) (wtE w A E) E2 by rw [wtE, if_neg (by omega)]]
        exact nd_bin (k := K p) (by rw [k1]; simp [arK]) ((hn h1).mv s3 (show z ≤ z2 from t3)) ((n2 h2).mv s4 (Nat.le_refl _)) (Nat.le_refl _) (Nat.le_refl _) (by omega) (w3.2.1) w3.2.2.1 w3.2.2.2.1
      · obtain ⟨y2, y3, y4⟩ := b2.cnt (by omega) M4 (by omega) (by omega)
        have t6 := b2.2.2.2.1
        refine g_cVi3 h rok0 mi_X11_node dX12_sum_55 ml_X12_173 rfl rfl rfl (Nat.le_of_ble_eq_true rfl) (Nat.le_of_ble_eq_true rfl) (sp_nodeW (z := y2) y4 y3 (fun I3 w3 => ?_))
        refine g_istore_1 h dX12_sum_58 (by decide) rfl ?_
        refine g_goto h 5 dX12_sum_59 rfl ?_
        have bb := rB.st hr b2 y3 y4 w3
        refine g_aload_0 h dX12_sum_5 ?_
        refine g_iconst h dX12_sum_6 (v := nI 4) rfl ?_
        refine g_bipush h dX12_sum_7 (v := nI 43) rfl ?_
        refine g_cVi2 h rok0 mi_X12_is dX12_sum_9 ml_X12_125 rfl rfl rfl (Nat.le_of_ble_eq_true rfl) (Nat.le_of_ble_eq_true rfl) (sp_is_dd (f := e) (by omega) bb.2.1 ?_)
        refine g_if_ne h 25 dX12_sum_12 rfl (fun c => absurd c (by decide)) (fun _ => ?_)
        refine g_aload_0 h dX12_sum_15 ?_
        refine g_iconst h dX12_sum_16 (v := nI 4) rfl ?_
        refine g_bipush h dX12_sum_17 (v := nI 45) rfl ?_
        refine g_cVi2 h rok0 mi_X12_is dX12_sum_19 ml_X12_125 rfl rfl rfl (Nat.le_of_ble_eq_true rfl) (Nat.le_of_ble_eq_true rfl) (sp_is_dd (f := e) (by omega) bb.2.1 ?_)
        refine g_if_eq h 62 dX12_sum_22 rfl (fun _ => ?_) (fun c => absurd c (by decide))
        refine g_iload_1 h dX12_sum_62 ?_
        refine g_iret h dX12_sum_63 ?_
        have hR2 : (opS K 36 39 clS g p0) = (false, e, zE) := by rw [hR, opL_op (by omega) (by rw [k1]; decide), e2]
        exact hF _ _ (by rw [hR2]) (by rw [hR2]; exact bb)
    by_cases k1 : K p = 37
    · have hpM := K_lt K45 hp k1 (by decide)
      refine g_aload_0 h dX12_sum_5 ?_
      refine g_iconst h dX12_sum_6 (v := nI 4) rfl ?_
      refine g_bipush h dX12_sum_7 (v := nI 43) rfl ?_
      refine g_cVi2 h rok0 mi_X12_is dX12_sum_9 ml_X12_125 rfl rfl rfl (Nat.le_of_ble_eq_true rfl) (Nat.le_of_ble_eq_true rfl) (sgC_is (k := 36) rfl (by decide) hE.1 hE.2.1 hE.2.2.1 (fun q => absurd q (by omega)) (fun _ => ?_))
      refine g_if_ne h 25 dX12_sum_12 rfl (fun c => absurd c (by decide)) (fun _ => ?_)
      refine g_aload_0 h dX12_sum_15 ?_
      refine g_iconst h dX12_sum_16 (v := nI 4) rfl ?_
      refine g_bipush h dX12_sum_17 (v := nI 45) rfl ?_
      refine g_cVi2 h rok0 mi_X12_is dX12_sum_19 ml_X12_125 rfl rfl rfl (Nat.le_of_ble_eq_true rfl) (Nat.le_of_ble_eq_true rfl) (sgC_is (k := 37) rfl (by decide) hE.1 hE.2.1 hE.2.2.1 (fun _ => ?_) (fun q => absurd (show K p = 37 by omega) q))
      refine g_if_eq h 62 dX12_sum_22 rfl (fun c => absurd c (by decide)) (fun _ => ?_)
      refine g_aload_0 h dX12_sum_25 ?_
      refine g_getC h fl_X12_42 dX12_sum_26 rfl rfl ?_
      refine g_aload_0 h dX12_sum_29 ?_
      refine g_getI h fl_X12_118 dX12_sum_30 rfl rfl ?_
      refine g_iald h p dX12_sum_33 rfl hE.2.1.1 (by omega) ?_
      rw [show I 83 p = nI 45 by rw [hE.val (by omega), k1]; rfl]
      refine g_istore_2 h dX12_sum_34 (by decide) rfl ?_
      refine g_aload_0 h dX12_sum_35 ?_
      refine g_dup h dX12_sum_36 rfl ?_
      refine g_getI h fl_X12_118 dX12_sum_37 rfl rfl ?_
      refine g_iconst h dX12_sum_40 (v := nI 1) rfl ?_
      refine g_iadd h dX12_sum_41 ?_
      refine g_putI h fp_X12_118 dX12_sum_42 rfl rfl ?_
      rw [show I 80 14 + nI 1 = nI (p + 1) by rw [hE.2.1.1]; exact nI_1 p]
      refine g_aload_0 h dX12_sum_45 ?_
      refine g_getP h fl_X12_91 dX12_sum_46 rfl rfl (by assumption) ?_
      refine g_iload_2 h dX12_sum_49 ?_
      refine g_iload_1 h dX12_sum_50 ?_
      refine g_aload_0 h dX12_sum_51 ?_
      refine g_cVi0 h rok0 mi_X12_product dX12_sum_52 ml_X12_170 rfl rfl rfl (Nat.le_of_ble_eq_true rfl) (Nat.le_of_ble_eq_true rfl) (hG (p + 1) z _ _ J P hP (hE.at hpM) f (by omega) (fun I2 v2 z2 p2 f2 E2 e2 c2 f3 q2 n2 => ?_) (fun I2 v2 e e2 b2 => ?_))
      · obtain ⟨-, -, t3, t4, t5⟩ := id q2
        have t6 := q2.2.1.M4
        refine g_cVi3 h rok0 mi_X11_node dX12_sum_55 ml_X12_173 rfl rfl rfl (Nat.le_of_ble_eq_true rfl) (Nat.le_of_ble_eq_true rfl) (sp_nodeW (z := z2) (by omega) q2.2.1.cnt (fun I3 w3 => ?_))
        refine g_istore_1 h dX12_sum_58 (by decide) rfl ?_
        refine g_goto h 5 dX12_sum_59 rfl ?_
        obtain ⟨s1, s2, s3, s4, s5⟩ := hr.st (by omega) q2 w3
        refine ih f2 p2 (z2 + 1) (K p) I3 _ (wtE w A E) E2 _ (by rw [hR, opL_op (by omega) (by rw [k1]; decide), e2]) c2 (by omega) (by omega) s1 (fun hb => ?_)
        rw [s2] at hb
        obtain ⟨h1, h2⟩ := Option.or_eq_none_iff.mp hb
        rw [show wtE (K p) (wtE w A E) E2 = joE (K p) (wtE w A E) E2 by rw [wtE, if_neg (by omega)]]
        exact nd_bin (k := K p) (by rw [k1]; simp [arK]) ((hn h1).mv s3 (show z ≤ z2 from t3)) ((n2 h2).mv s4 (Nat.le_refl _)) (Nat.le_refl _) (Nat.le_refl _) (by omega) (w3.2.1) w3.2.2.1 w3.2.2.2.1
      · obtain ⟨y2, y3, y4⟩ := b2.cnt (by omega) M4 (by omega) (by omega)
        have t6 := b2.2.2.2.1
        refine g_cVi3 h rok0 mi_X11_node dX12_sum_55 ml_X12_173 rfl rfl rfl (Nat.le_of_ble_eq_true rfl) (Nat.le_of_ble_eq_true rfl) (sp_nodeW (z := y2) y4 y3 (fun I3 w3 => ?_))
        refine g_istore_1 h dX12_sum_58 (by decide) rfl ?_
        refine g_goto h 5 dX12_sum_59 rfl ?_
        have bb := rB.st hr b2 y3 y4 w3
        refine g_aload_0 h dX12_sum_5 ?_
        refine g_iconst h dX12_sum_6 (v := nI 4) rfl ?_
        refine g_bipush h dX12_sum_7 (v := nI 43) rfl ?_
        refine g_cVi2 h rok0 mi_X12_is dX12_sum_9 ml_X12_125 rfl rfl rfl (Nat.le_of_ble_eq_true rfl) (Nat.le_of_ble_eq_true rfl) (sp_is_dd (f := e) (by omega) bb.2.1 ?_)
        refine g_if_ne h 25 dX12_sum_12 rfl (fun c => absurd c (by decide)) (fun _ => ?_)
        refine g_aload_0 h dX12_sum_15 ?_
        refine g_iconst h dX12_sum_16 (v := nI 4) rfl ?_
        refine g_bipush h dX12_sum_17 (v := nI 45) rfl ?_
        refine g_cVi2 h rok0 mi_X12_is dX12_sum_19 ml_X12_125 rfl rfl rfl (Nat.le_of_ble_eq_true rfl) (Nat.le_of_ble_eq_true rfl) (sp_is_dd (f := e) (by omega) bb.2.1 ?_)
        refine g_if_eq h 62 dX12_sum_22 rfl (fun _ => ?_) (fun c => absurd c (by decide))
        refine g_iload_1 h dX12_sum_62 ?_
        refine g_iret h dX12_sum_63 ?_
        have hR2 : (opS K 36 39 clS g p0) = (false, e, zE) := by rw [hR, opL_op (by omega) (by rw [k1]; decide), e2]
        exact hF _ _ (by rw [hR2]) (by rw [hR2]; exact bb)
    refine g_aload_0 h dX12_sum_5 ?_
    refine g_iconst h dX12_sum_6 (v := nI 4) rfl ?_
    refine g_bipush h dX12_sum_7 (v := nI 43) rfl ?_
    refine g_cVi2 h rok0 mi_X12_is dX12_sum_9 ml_X12_125 rfl rfl rfl (Nat.le_of_ble_eq_true rfl) (Nat.le_of_ble_eq_true rfl) (sgC_is (k := 36) rfl (by decide) hE.1 hE.2.1 hE.2.2.1 (fun q => absurd q (by omega)) (fun _ => ?_))
    refine g_if_ne h 25 dX12_sum_12 rfl (fun c => absurd c (by decide)) (fun _ => ?_)
    refine g_aload_0 h dX12_sum_15 ?_
    refine g_iconst h dX12_sum_16 (v := nI 4) rfl ?_
    refine g_bipush h dX12_sum_17 (v := nI 45) rfl ?_
    refine g_cVi2 h rok0 mi_X12_is dX12_sum_19 ml_X12_125 rfl rfl rfl (Nat.le_of_ble_eq_true rfl) (Nat.le_of_ble_eq_true rfl) (sgC_is (k := 37) rfl (by decide) hE.1 hE.2.1 hE.2.2.1 (fun q => absurd q (by omega)) (fun _ => ?_))
    refine g_if_eq h 62 dX12_sum_22 rfl (fun _ => ?_) (fun c => absurd c (by decide))
    refine g_iload_1 h dX12_sum_62 ?_
    refine g_iret h dX12_sum_63 ?_
    have hR2 : (opS K 36 39 clS g p0) = (true, p, wtE w A E) := by rw [hR, opL_no (fun q => hcl ⟨q.1, q.2, decide_eq_true (show 38 ≤ K p by omega)⟩)]
    exact hS _ _ _ (by rw [hR2]) (by rw [hR2]; exact hr) (by rw [hR2]; exact hn)
set_option maxRecDepth 100000 in
set_option maxHeartbeats 4000000 in
theorem cE_sum {K wd : Nat → Nat} {V mm : Nat → Int32} {M : Nat} {c D : Nat} {g : Nat → PRs} (hG : cF K wd V M mm yX12_product cX12_product 3 (D + 7) c true 36 39 clS g) : cE K wd V M mm yX12_sum cX12_sum 3 (D + 8) c true (opS K 36 39 clS g) := by
  intro p z x I J P hP hE Q hS hF Γ h
  show VG Γ 0 0 0 [some (.ref 80), none, none] [] _ _ _ _
  refine g_aload_0 h dX12_sum_0 ?_
  refine g_cVi0 h rok0 mi_X12_product dX12_sum_1 ml_X12_170 rfl rfl rfl (Nat.le_of_ble_eq_true rfl) (Nat.le_of_ble_eq_true rfl) (hG p z x I J P hP hE 401 (by have := hE.M4; omega) (fun I2 v2 z2 p2 f2 E2 e2 c2 f3 q2 n2 => ?_) (fun I2 v2 e e2 b2 => ?_))
  · refine g_istore_1 h dX12_sum_4 (by decide) rfl ?_
    exact lp_sum hP hE.M4.2.2.2.1 hG hS hF h f2 f2 p2 z2 48 I2 v2 zE E2 _ (opS_pd.trans (e2 48 zE)) c2 f3 f3 q2 (by rw [show wtE 48 zE E2 = E2 from if_pos rfl]; exact n2)
  · have hR2 := opS_pd.trans (e2 48 zE)
    refine g_istore_1 h dX12_sum_4 (by decide) rfl ?_
    refine g_aload_0 h dX12_sum_5 ?_
    refine g_iconst h dX12_sum_6 (v := nI 4) rfl ?_
    refine g_bipush h dX12_sum_7 (v := nI 43) rfl ?_
    refine g_cVi2 h rok0 mi_X12_is dX12_sum_9 ml_X12_125 rfl rfl rfl (Nat.le_of_ble_eq_true rfl) (Nat.le_of_ble_eq_true rfl) (sp_is_dd (f := e) (by have := hE.M4; have := b2.2.2.2.1; omega) b2.2.1 ?_)
    refine g_if_ne h 25 dX12_sum_12 rfl (fun c => absurd c (by decide)) (fun _ => ?_)
    refine g_aload_0 h dX12_sum_15 ?_
    refine g_iconst h dX12_sum_16 (v := nI 4) rfl ?_
    refine g_bipush h dX12_sum_17 (v := nI 45) rfl ?_
    refine g_cVi2 h rok0 mi_X12_is dX12_sum_19 ml_X12_125 rfl rfl rfl (Nat.le_of_ble_eq_true rfl) (Nat.le_of_ble_eq_true rfl) (sp_is_dd (f := e) (by have := hE.M4; have := b2.2.2.2.1; omega) b2.2.1 ?_)
    refine g_if_eq h 62 dX12_sum_22 rfl (fun _ => ?_) (fun c => absurd c (by decide))
    refine g_iload_1 h dX12_sum_62 ?_
    refine g_iret h dX12_sum_63 ?_
    exact hF _ _ (by rw [hR2]) (by rw [hR2]; exact b2)
