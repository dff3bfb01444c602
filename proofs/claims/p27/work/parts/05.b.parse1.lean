/-! The class's parser: take, append, sums -/
def tsO (dflt lo hi : Int) (offs : Array Int) (k : Nat) : Int := if (k : Int) < lo ∨ hi < (k : Int) then dflt else (offs[((k : Int) - lo).toNat]?).getD dflt
section GT
variable {own : String} {cc : ByteArray} {nL d kc kn pc : Nat} {ret : Option FieldType} {Γ : Cx} {lv : List (Option Value)} {st : List Value} {I : MI} {J : MJ} {P : MP} {Φ : State → Prop}
theorem g_ts (h : Vc own cc nL ret d Γ) {dflt lo hi off : Int} {offs : Array Int} {len : Nat} {x : Int32} (k tgt : Nat) (hd : decode cc pc = .ok (.tableswitch dflt lo hi offs, len)) (hx : x = nI k) (hk : k < 2 ^ 31) (hs : (hi - lo + 1).toNat = offs.size) (ho : tsO dflt lo hi offs k = off) (ht : (pc : Int) + off = (tgt : Int)) (kk : VG Γ kc kn tgt lv st I J P Φ) : VG Γ kc kn pc lv (.int x :: st) I J P Φ := by
  subst hx
  unfold tsO at ho
  by_cases hr : (k : Int) < lo ∨ hi < (k : Int)
  · rw [if_pos hr] at ho
    subst ho
    exact g_tsOut h tgt hd (by rw [nI_toInt hk]; exact hr) ht kk
  · rw [if_neg hr] at ho
    have hlt : ((k : Int) - lo).toNat < offs.size := by omega
    rw [Array.getElem?_eq_getElem hlt] at ho
    exact g_tsIn h tgt hd (by rw [nI_toInt hk]; omega) (by rw [nI_toInt hk]; omega) (by rw [nI_toInt hk, Array.getElem?_eq_getElem hlt]; exact congrArg some ho) ht kk
theorem g_lk (h : Vc own cc nL ret d Γ) {dflt off : Int} {ps : Array (Int × Int)} {len : Nat} {x : Int32} (k tgt : Nat) (hd : decode cc pc = .ok (.lookupswitch dflt ps, len)) (hx : x = nI k) (hk : k < 2 ^ 31) (hp : (ps.toList.zip (ps.toList.drop 1)).all (fun (a, next) => a.1 < next.1) = true) (ho : Op.lookupswitch.offset ps.toList dflt (k : Int) = off) (ht : (pc : Int) + off = (tgt : Int)) (kk : VG Γ kc kn tgt lv st I J P Φ) : VG Γ kc kn pc lv (.int x :: st) I J P Φ := by
  subst hx
  exact g_lkup h tgt hd hp (by rw [nI_toInt hk]; exact ho) ht kk
end GT
def psO (K : Nat → Nat) (V : Nat → Int32) (M : Nat) (I : MI) (J : MJ) : Prop := (∀ t, t ≤ M → I 4 t = nI (K t) ∧ K t < 49) ∧ (∀ t, t ≤ M → K t = 29 → (J 5 t).toInt32 = V t) ∧ I 3 4 = nI (M + 1) ∧ M ≤ 400 ∧ 45 ≤ K M
def paS (K : Nat → Nat) (p z : Nat) (I : MI) : Prop := I 8 3 = nI (K p) ∧ I 8 4 = nI p ∧ I 77 2 = nI z
def paR (p z : Nat) (I I' : MI) : Prop := (∀ a, a ≠ 8 → a ≠ 9 → a ≠ 77 → a ≠ 78 → a ≠ 79 → I' a = I a) ∧ (∀ t, t < p → I' 9 t = I 9 t) ∧ (∀ n, n < z → I' 78 n = I 78 n ∧ I' 79 n = I 79 n)
theorem paR.rf {p z : Nat} {I : MI} : paR p z I I := ⟨fun _ _ _ _ _ _ => rfl, fun _ _ => rfl, fun _ _ => ⟨rfl, rfl⟩⟩
theorem paR.tr {p z p1 z1 : Nat} {I I1 I2 : MI} (h : paR p z I I1) (h2 : paR p1 z1 I1 I2) (hp : p ≤ p1) (hz : z ≤ z1) : paR p z I I2 := ⟨fun a a1 a2 a3 a4 a5 => (h2.1 a a1 a2 a3 a4 a5).trans (h.1 a a1 a2 a3 a4 a5), fun t ht => (h2.2.1 t (by omega)).trans (h.2.1 t ht), fun n hn => ⟨(h2.2.2 n (by omega)).1.trans (h.2.2 n hn).1, (h2.2.2 n (by omega)).2.trans (h.2.2 n hn).2⟩⟩
theorem paR.ps {K : Nat → Nat} {V : Nat → Int32} {M p z : Nat} {I I' : MI} {J : MJ} (h : paR p z I I') (k : psO K V M I J) : psO K V M I' J := by
  obtain ⟨k1, k2, k3, k4, k5⟩ := k
  exact ⟨fun t ht => ⟨(congrFun (h.1 4 (by decide) (by decide) (by decide) (by decide) (by decide)) t).trans (k1 t ht).1, (k1 t ht).2⟩, k2, (congrFun (h.1 3 (by decide) (by decide) (by decide) (by decide) (by decide)) 4).trans k3, k4, k5⟩
theorem paR.sg {m : Nat → Int32} {p z z0 z1 : Nat} {I I' : MI} {F : (Nat → Int32 → Int32) → List Int32 → List Int32} (h : paR p z I I') (k : rnC m I z0 z1 F) (hz : z1 ≤ z) : rnC m I' z0 z1 F := k.ext (fun n _ hn => h.2.2 n (by omega))

set_option maxRecDepth 100000 in
set_option maxHeartbeats 8000000 in
theorem sp_X1_append {d p z : Nat} {K : Nat → Nat} {I : MI} {J : MJ} {P : MP} (ha : paS K p z I) (hz4 : z < 400) {k x : Int32} {Q : Int32 → MI → MJ → MP → Prop} (hQ : ∀ I', paR p z I I' → paS K p (z + 1) I' → I' 78 z = k → I' 79 z = x → Q (nI 1) I' J P) : Sp yX1_append cX1_append 3 (some .boolean) d [.ref 77, .int k, .int x] I J P (Qi Q) := by
  obtain ⟨ha1, ha2, hz⟩ := ha
  intro Γ h
  show VG Γ 0 0 0 [some (.ref 77), some (.int k), some (.int x)] [] _ _ _ _
  refine g_aload_0 h dX1_append_0 ?_
  refine g_getI h fl_X1_18 dX1_append_1 rfl rfl ?_
  refine g_sipush h dX1_append_4 (v := nI 400) rfl ?_
  refine g_icmp_lt h 12 dX1_append_7 rfl (fun _ => ?_) (fun c => absurd (nI_lt hz4 (by decide)) (by rw [hz] at c; exact c))
  refine g_aload_0 h dX1_append_12 ?_
  refine g_getC h fl_X1_9 dX1_append_13 rfl rfl ?_
  refine g_aload_0 h dX1_append_16 ?_
  refine g_getI h fl_X1_18 dX1_append_17 rfl rfl ?_
  refine g_iload_1 h dX1_append_20 ?_
  refine g_iast h z dX1_append_21 rfl hz (by omega) ?_
  refine g_aload_0 h dX1_append_22 ?_
  refine g_getC h fl_X1_15 dX1_append_23 rfl rfl ?_
  refine g_aload_0 h dX1_append_26 ?_
  refine g_getI h fl_X1_18 dX1_append_27 rfl rfl ?_
  refine g_iload_2 h dX1_append_30 ?_
  refine g_iast h z dX1_append_31 rfl (by simp [up2]; exact hz) (by omega) ?_
  refine g_aload_0 h dX1_append_32 ?_
  refine g_dup h dX1_append_33 rfl ?_
  refine g_getI h fl_X1_18 dX1_append_34 rfl rfl ?_
  refine g_iconst h dX1_append_37 (v := nI 1) rfl ?_
  refine g_iadd h dX1_append_38 ?_
  refine g_putI h fp_X1_18 dX1_append_39 rfl rfl ?_
  refine g_iconst h dX1_append_42 (v := nI 1) rfl ?_
  refine g_zret h dX1_append_43 (by first | rfl | exact nar_b2i _) ?_
  have e1 : I 77 2 + nI 1 = nI (z + 1) := by rw [hz]; exact nI_1 z
  refine hQ _ ⟨fun a b1 b2 b3 b4 b5 => ?_, fun t ht => ?_, fun n hn => ?_⟩ ⟨?_, ?_, ?_⟩ ?_ ?_
  · rw [up2_o b3, up2_o b5, up2_o b4]
  · simp [up2]
  · simp [up2, Nat.ne_of_lt hn]
  · simp [up2, ha1]
  · simp [up2, ha2]
  · simp [up2, e1]
  · simp [up2]
  · simp [up2]
set_option maxRecDepth 100000 in
set_option maxHeartbeats 8000000 in
theorem sp_X4_take {d p z k M : Nat} {K : Nat → Nat} {V : Nat → Int32} {I : MI} {J : MJ} {P : MP} (hK : psO K V M I J) (hP : P 8 2 = some 77) (ha : paS K p z I) (hp : p ≤ M) (hk : k < 45) {Q : Int32 → MI → MJ → MP → Prop} (h1 : K p = k → ∀ I', paR p z I I' → paS K (p + 1) z I' → I' 9 p = nI z → Q (nI 1) I' J P) (h0 : ¬ K p = k → Q (nI 0) I J P) : Sp yX4_take cX4_take 2 (some .boolean) d [.ref 8, .int (nI k)] I J P (Qi Q) := by
  obtain ⟨ha1, ha2, hz⟩ := ha
  obtain ⟨k1, k2, k3, k4, k5⟩ := hK
  have e1 : I 8 4 + nI 1 = nI (p + 1) := by rw [ha2]; exact nI_1 p
  have kp := (k1 p hp).2
  intro Γ h
  show VG Γ 0 0 0 [some (.ref 8), some (.int (nI k))] [] _ _ _ _
  refine g_aload_0 h dX4_take_0 ?_
  refine g_getI h fl_X4_17 dX4_take_1 rfl rfl ?_
  refine g_iload_1 h dX4_take_4 ?_
  refine g_icmp_ne h 18 dX4_take_5 rfl (fun c5 => ?_) (fun c5 => ?_)
  · refine g_iconst h dX4_take_18 (v := nI 0) rfl ?_
    refine g_zret h dX4_take_19 (by first | rfl | exact nar_b2i _) ?_
    exact h0 (fun q => c5 (by rw [ha1, q]))
  · have ek : K p = k := eqN (by rw [← ha1]; exact c5) (by omega) (by omega)
    have hpM : p < M := K_lt k5 hp ek hk
    refine g_aload_0 h dX4_take_8 ?_
    refine g_getI h fl_X4_21 dX4_take_9 rfl rfl ?_
    refine g_sipush h dX4_take_12 (v := nI 400) rfl ?_
    refine g_icmp_lt h 20 dX4_take_15 rfl (fun c15 => ?_) (fun c15 => ?_)
    · refine g_aload_0 h dX4_take_20 ?_
      refine g_getC h fl_X4_9 dX4_take_21 rfl rfl ?_
      refine g_aload_0 h dX4_take_24 ?_
      refine g_getI h fl_X4_21 dX4_take_25 rfl rfl ?_
      refine g_aload_0 h dX4_take_28 ?_
      refine g_getP h fl_X4_28 dX4_take_29 rfl rfl hP ?_
      refine g_getI h fl_X4_71 dX4_take_32 rfl rfl ?_
      refine g_iast h p dX4_take_35 rfl ha2 (by omega) ?_
      refine g_aload_0 h dX4_take_36 ?_
      refine g_dup h dX4_take_37 rfl ?_
      refine g_getI h fl_X4_21 dX4_take_38 rfl rfl ?_
      refine g_iconst h dX4_take_41 (v := nI 1) rfl ?_
      refine g_iadd h dX4_take_42 ?_
      refine g_putI h fp_X4_21 dX4_take_43 rfl rfl ?_
      refine g_aload_0 h dX4_take_46 ?_
      refine g_aload_0 h dX4_take_47 ?_
      refine g_getC h fl_X4_24 dX4_take_48 rfl rfl ?_
      refine g_getC h fl_X4_74 dX4_take_51 rfl rfl ?_
      refine g_aload_0 h dX4_take_54 ?_
      refine g_getI h fl_X4_21 dX4_take_55 rfl rfl ?_
      refine g_iald h (p + 1) dX4_take_58 rfl (by simp [up2, e1]) (by omega) ?_
      refine g_putI h fp_X4_17 dX4_take_59 rfl rfl ?_
      refine g_iconst h dX4_take_62 (v := nI 1) rfl ?_
      refine g_zret h dX4_take_63 (by first | rfl | exact nar_b2i _) ?_
      refine h1 ek _ ⟨fun a b1 b2 b3 b4 b5 => ?_, fun t ht => ?_, fun n hn => ?_⟩ ⟨?_, ?_, ?_⟩ ?_
      · rw [up2_o b1, up2_o b1, up2_o b2]
      · simp [up2, Nat.ne_of_lt ht]
      · simp [up2]
      · simp [up2, (k1 (p + 1) hpM).1]
      · simp [up2, e1]
      · simp [up2, hz]
      · simp [up2, hz]
    · exact absurd (by rw [ha2]; exact nI_lt (by omega) (by decide)) c15
set_option maxRecDepth 100000 in
set_option maxHeartbeats 8000000 in
theorem sp_X8_numberOf {d t M : Nat} {K : Nat → Nat} {V : Nat → Int32} {I : MI} {J : MJ} {P : MP} (hK : psO K V M I J) (ht : t ≤ M) (hk : K t = 29) {Q : Int32 → MI → MJ → MP → Prop} (hQ : Q (V t) I J P) : Sp yX8_numberOf cX8_numberOf 2 (some .int) d [.ref 3, .int (nI t)] I J P (Qi Q) := by
  obtain ⟨k1, k2, k3, k4, k5⟩ := hK
  intro Γ h
  show VG Γ 0 0 0 [some (.ref 3), some (.int (nI t))] [] _ _ _ _
  refine g_iload_1 h dX8_numberOf_0 ?_
  refine g_if_lt h 12 dX8_numberOf_1 rfl (fun c => absurd c (nI_pos (by omega))) (fun _ => ?_)
  refine g_iload_1 h dX8_numberOf_4 ?_
  refine g_aload_0 h dX8_numberOf_5 ?_
  refine g_getI h fl_X8_25 dX8_numberOf_6 rfl rfl ?_
  refine g_icmp_lt h 16 dX8_numberOf_9 rfl (fun _ => ?_) (fun c => absurd (by rw [k3]; exact nI_lt (by omega) (by omega)) c)
  refine g_aload_0 h dX8_numberOf_16 ?_
  refine g_getC h fl_X8_13 dX8_numberOf_17 rfl rfl ?_
  refine g_iload_1 h dX8_numberOf_20 ?_
  refine g_lald h t dX8_numberOf_21 rfl rfl (by omega) ?_
  refine g_l2i h dX8_numberOf_22 ?_
  refine g_iret h dX8_numberOf_23 ?_
  exact q_i (k2 t ht hk) hQ
def cP (K : Nat → Nat) (V m : Nat → Int32) (M : Nat) (y : MethodName) (cb : ByteArray) (nL D : Nat) (dep : Int32) (g : Nat → PRs) : Prop := ∀ (p z : Nat) (I : MI) (J : MJ) (P : MP), psO K V M I J → P 8 2 = some 77 → paS K p z I → p ≤ M → z ≤ p → ∀ Q : Int32 → MI → MJ → MP → Prop, ((g p).1 = true → ∀ I' z', paR p z I I' → paS K (g p).2.1 z' I' → z ≤ z' → z' + p ≤ z + (g p).2.1 → seg m I' z z' (g p).2.2 → Q (nI 1) I' J P) → ((g p).1 = false → ∀ I' z', paR p z I I' → paS K (g p).2.1 z' I' → z ≤ z' → z' + p ≤ z + (g p).2.1 → Q (nI 0) I' J P) → Sp y cb nL (some .boolean) D [.ref 8, .int dep] I J P (Qi Q)
theorem sub8 {c : Nat} (h : c + 1 ≤ 8) : nI (8 - (c + 1)) + nI 1 = nI (8 - c) := by rw [nI_add, show 8 - (c + 1) + 1 = 8 - c by omega]

set_option maxRecDepth 100000 in
set_option maxHeartbeats 8000000 in
theorem cs_valueAt {K : Nat → Nat} {V m : Nat → Int32} {M : Nat} (b : Bool) (g : Nat → PRs) (hgB : b = true → gB M g) (D : Nat) (dep : Int32) (hdl : dep ≤ nI 8) (hd8 : nI 8 ≤ dep ↔ b = false) (hV : b = true → cP K V m M yX4_valueAt cX4_valueAt 3 D (dep + nI 1) g) (hS : b = true → cP K V m M yX4_sumAt cX4_sumAt 7 D (dep + nI 1) (opS K 36 39 clS g)) : cP K V m M yX4_valueAt cX4_valueAt 3 (D + 1) dep (vS K V m b g) := by
  intro p z I J P hK hP ha hp hz Q h1 h0 Γ h
  have hK' := hK
  obtain ⟨k1, k2, k3, k4, k5⟩ := hK'
  have kp := (k1 p hp).2
  have ha' := ha
  obtain ⟨ha1, ha2, ha3⟩ := ha'
  have c7 : K p = 29 ∨ K p = 16 ∨ (17 ≤ K p ∧ K p ≤ 21) ∨ K p = 37 ∨ K p = 30 ∨ (K p = 26 ∨ K p = 27) ∨ (¬ K p = 29 ∧ ¬ K p = 16 ∧ ¬ (17 ≤ K p ∧ K p ≤ 21) ∧ ¬ K p = 37 ∧ ¬ K p = 30 ∧ ¬ (K p = 26 ∨ K p = 27)) := by omega
  unfold vS at h1 h0
  show VG Γ 0 0 0 [some (.ref 8), some (.int dep), none] [] _ _ _ _
  refine g_iload_1 h dX4_valueAt_0 ?_
  refine g_bipush h dX4_valueAt_1 (v := nI 8) rfl ?_
  refine g_icmp_le h 8 dX4_valueAt_3 rfl (fun _ => ?_) (fun c => absurd hdl c)
  refine g_aload_0 h dX4_valueAt_8 ?_
  refine g_getI h fl_X4_17 dX4_valueAt_9 rfl rfl ?_
  refine g_istore_2 h dX4_valueAt_12 (by decide) rfl ?_
  refine g_iload_2 h dX4_valueAt_13 ?_
  rw [ha1]
  rcases c7 with e29 | e16 | e17 | e37 | e30 | e26 | eo
  · rw [if_pos e29] at h1 h0
    refine g_ts h (K p) 116 dX4_valueAt_14 rfl (by omega) (by decide) ((by decide : ∀ k, k < 49 → k = 29 → tsO 373 16 37 #[142, 170, 170, 170, 170, 170, 373, 373, 373, 373, 294, 294, 373, 102, 254, 373, 373, 373, 373, 373, 373, 210] k = 102) _ kp e29) rfl ?_
    refine g_aload_0 h dX4_valueAt_116 ?_
    refine g_bipush h dX4_valueAt_117 (v := nI 29) rfl ?_
    refine g_cVi1 h rok0 mi_X4_take dX4_valueAt_119 ml_X4_45 rfl rfl rfl (Nat.le_of_ble_eq_true rfl) (Nat.le_of_ble_eq_true rfl) (sp_X4_take hK hP ha hp (by omega) (fun e1 I1 r1 a1 n1 => ?_) (fun e => absurd e29 e))
    · have pM : p < M := K_lt2 k5 hp (by omega)
      have ez : z < 400 := by omega
      refine g_if_eq h 154 dX4_valueAt_122 rfl (fun c => absurd c (by decide)) (fun _ => ?_)
      refine g_aload_0 h dX4_valueAt_125 ?_
      refine g_getP h fl_X4_28 dX4_valueAt_126 rfl rfl (by assumption) ?_
      refine g_bipush h dX4_valueAt_129 (v := nI 29) rfl ?_
      refine g_aload_0 h dX4_valueAt_131 ?_
      refine g_getC h fl_X4_24 dX4_valueAt_132 rfl rfl ?_
      refine g_aload_0 h dX4_valueAt_135 ?_
      refine g_getI h fl_X4_21 dX4_valueAt_136 rfl rfl ?_
      refine g_iconst h dX4_valueAt_139 (v := nI 1) rfl ?_
      refine g_isub h dX4_valueAt_140 ?_
      rw [a1.2.1, show nI (p + 1) - nI 1 = nI p from nI_sub1 p]
      refine g_cVi1 h rok0 mi_X8_numberOf dX4_valueAt_141 ml_X4_68 rfl rfl rfl (Nat.le_of_ble_eq_true rfl) (Nat.le_of_ble_eq_true rfl) (sp_X8_numberOf (r1.ps hK) hp e29 ?_)
      refine g_cVi2 h rok0 mi_X1_append dX4_valueAt_144 ml_X4_61 rfl rfl rfl (Nat.le_of_ble_eq_true rfl) (Nat.le_of_ble_eq_true rfl) (sp_X1_append a1 ez (fun I2 r2 a2 s1 s2 => ?_))
      · refine g_if_eq h 154 dX4_valueAt_147 rfl (fun c => absurd c (by decide)) (fun _ => ?_)
        refine g_iconst h dX4_valueAt_150 (v := nI 1) rfl ?_
        refine g_goto h 155 dX4_valueAt_151 rfl ?_
        refine g_zret h dX4_valueAt_155 (by first | rfl | exact nar_b2i _) ?_
        refine h1 rfl I2 (z + 1) (r1.tr r2 (by omega) (by omega)) a2 (by omega) (by show z + 1 + p ≤ z + (p + 1); omega) ?_
        exact (seg_leaf s1 (Or.inr rfl) s2 (fun a b => absurd b (by decide))).eq (fun ev L => rfl)
  · have e29 : ¬ K p = 29 := by omega
    rw [if_neg e29, if_pos e16] at h1 h0
    refine g_ts h (K p) 156 dX4_valueAt_14 rfl (by omega) (by decide) ((by decide : ∀ k, k < 49 → k = 16 → tsO 373 16 37 #[142, 170, 170, 170, 170, 170, 373, 373, 373, 373, 294, 294, 373, 102, 254, 373, 373, 373, 373, 373, 373, 210] k = 142) _ kp e16) rfl ?_
    refine g_aload_0 h dX4_valueAt_156 ?_
    refine g_bipush h dX4_valueAt_157 (v := nI 16) rfl ?_
    refine g_cVi1 h rok0 mi_X4_take dX4_valueAt_159 ml_X4_45 rfl rfl rfl (Nat.le_of_ble_eq_true rfl) (Nat.le_of_ble_eq_true rfl) (sp_X4_take hK hP ha hp (by omega) (fun e1 I1 r1 a1 n1 => ?_) (fun e => absurd e16 e))
    · have pM : p < M := K_lt2 k5 hp (by omega)
      have ez : z < 400 := by omega
      refine g_if_eq h 182 dX4_valueAt_162 rfl (fun c => absurd c (by decide)) (fun _ => ?_)
      refine g_aload_0 h dX4_valueAt_165 ?_
      refine g_getP h fl_X4_28 dX4_valueAt_166 rfl rfl (by assumption) ?_
      refine g_bipush h dX4_valueAt_169 (v := nI 16) rfl ?_
      refine g_iconst h dX4_valueAt_171 (v := nI 0) rfl ?_
      refine g_cVi2 h rok0 mi_X1_append dX4_valueAt_172 ml_X4_61 rfl rfl rfl (Nat.le_of_ble_eq_true rfl) (Nat.le_of_ble_eq_true rfl) (sp_X1_append a1 ez (fun I2 r2 a2 s1 s2 => ?_))
      · refine g_if_eq h 182 dX4_valueAt_175 rfl (fun c => absurd c (by decide)) (fun _ => ?_)
        refine g_iconst h dX4_valueAt_178 (v := nI 1) rfl ?_
        refine g_goto h 183 dX4_valueAt_179 rfl ?_
        refine g_zret h dX4_valueAt_183 (by first | rfl | exact nar_b2i _) ?_
        refine h1 rfl I2 (z + 1) (r1.tr r2 (by omega) (by omega)) a2 (by omega) (by show z + 1 + p ≤ z + (p + 1); omega) ?_
        exact (seg_leaf s1 (Or.inl (by decide)) s2 (fun a b => absurd a (by decide))).eq (fun ev L => rfl)
  · have e29 : ¬ K p = 29 := by omega
    have e16 : ¬ K p = 16 := by omega
    rw [if_neg e29, if_neg e16, if_pos e17] at h1 h0
    refine g_ts h (K p) 184 dX4_valueAt_14 rfl (by omega) (by decide) ((by decide : ∀ k, k < 49 → (17 ≤ k ∧ k ≤ 21) → tsO 373 16 37 #[142, 170, 170, 170, 170, 170, 373, 373, 373, 373, 294, 294, 373, 102, 254, 373, 373, 373, 373, 373, 373, 210] k = 170) _ kp e17) rfl ?_
    refine g_aload_0 h dX4_valueAt_184 ?_
    refine g_iload_2 h dX4_valueAt_185 ?_
    refine g_cVi1 h rok0 mi_X4_take dX4_valueAt_186 ml_X4_45 rfl rfl rfl (Nat.le_of_ble_eq_true rfl) (Nat.le_of_ble_eq_true rfl) (sp_X4_take hK hP ha hp (by omega) (fun e1 I1 r1 a1 n1 => ?_) (fun e => absurd rfl e))
    · have pM : p < M := K_lt2 k5 hp (by omega)
      have ez : z < 400 := by omega
      refine g_if_eq h 222 dX4_valueAt_189 rfl (fun c => absurd c (by decide)) (fun _ => ?_)
      refine g_aload_0 h dX4_valueAt_192 ?_
      refine g_bipush h dX4_valueAt_193 (v := nI 28) rfl ?_
      refine g_cVi1 h rok0 mi_X4_take dX4_valueAt_195 ml_X4_45 rfl rfl rfl (Nat.le_of_ble_eq_true rfl) (Nat.le_of_ble_eq_true rfl) (sp_X4_take (r1.ps hK) hP a1 (by omega) (by omega) (fun e2 I2 r2 a2 n2 => ?_) (fun e2 => ?_))
      · rw [if_pos e2] at h1 h0
        refine g_if_eq h 222 dX4_valueAt_198 rfl (fun c => absurd c (by decide)) (fun _ => ?_)
        refine g_aload_0 h dX4_valueAt_201 ?_
        refine g_getP h fl_X4_28 dX4_valueAt_202 rfl rfl (by assumption) ?_
        refine g_iload_2 h dX4_valueAt_205 ?_
        refine g_aload_0 h dX4_valueAt_206 ?_
        refine g_getI h fl_X4_21 dX4_valueAt_207 rfl rfl ?_
        refine g_iconst h dX4_valueAt_210 (v := nI 1) rfl ?_
        refine g_isub h dX4_valueAt_211 ?_
        rw [a2.2.1, show nI (p + 1 + 1) - nI 1 = nI (p + 1) from nI_sub1 (p + 1)]
        refine g_cVi2 h rok0 mi_X1_append dX4_valueAt_212 ml_X4_61 rfl rfl rfl (Nat.le_of_ble_eq_true rfl) (Nat.le_of_ble_eq_true rfl) (sp_X1_append a2 ez (fun I3 r3 a3 s1 s2 => ?_))
        · refine g_if_eq h 222 dX4_valueAt_215 rfl (fun c => absurd c (by decide)) (fun _ => ?_)
          refine g_iconst h dX4_valueAt_218 (v := nI 1) rfl ?_
          refine g_goto h 223 dX4_valueAt_219 rfl ?_
          refine g_zret h dX4_valueAt_223 (by first | rfl | exact nar_b2i _) ?_
          refine h1 rfl I3 (z + 1) ((r1.tr r2 (by omega) (by omega)).tr r3 (by omega) (by omega)) a3 (by omega) (by show z + 1 + p ≤ z + (p + 2); omega) ?_
          have q1 := e17.1
          have q2 := e17.2
          refine (seg_leaf s1 (Or.inl (by omega)) s2 (fun a b => ⟨p + 1, by omega, rfl⟩)).eq (fun ev L => ?_)
          show evm m ev (K p) (nI (p + 1)) :: L = ev (K p) (m (p + 1)) :: L
          rw [evm, if_neg (by omega), if_neg (by omega), ix_n (by omega)]
      · rw [if_neg e2] at h1 h0
        refine g_if_eq h 222 dX4_valueAt_198 rfl (fun _ => ?_) (fun c => absurd c (by decide))
        refine g_iconst h dX4_valueAt_222 (v := nI 0) rfl ?_
        refine g_zret h dX4_valueAt_223 (by first | rfl | exact nar_b2i _) ?_
        exact h0 rfl I1 z r1 a1 (by omega) (by show z + p ≤ z + (p + 1); omega)
  · have e29 : ¬ K p = 29 := by omega
    have e16 : ¬ K p = 16 := by omega
    have e17 : ¬ (17 ≤ K p ∧ K p ≤ 21) := by omega
    rw [if_neg e29, if_neg e16, if_neg e17, if_pos e37] at h1 h0
    refine g_ts h (K p) 224 dX4_valueAt_14 rfl (by omega) (by decide) ((by decide : ∀ k, k < 49 → k = 37 → tsO 373 16 37 #[142, 170, 170, 170, 170, 170, 373, 373, 373, 373, 294, 294, 373, 102, 254, 373, 373, 373, 373, 373, 373, 210] k = 210) _ kp e37) rfl ?_
    refine g_iload_1 h dX4_valueAt_224 ?_
    refine g_bipush h dX4_valueAt_225 (v := nI 8) rfl ?_
    refine g_icmp_ge h 266 dX4_valueAt_227 rfl (fun c227 => ?_) (fun c227 => ?_)
    · refine g_iconst h dX4_valueAt_266 (v := nI 0) rfl ?_
      refine g_zret h dX4_valueAt_267 (by first | rfl | exact nar_b2i _) ?_
      have hb : b = false := hd8.mp c227
      subst hb
      rw [if_neg (by decide)] at h1 h0
      exact h0 rfl I z paR.rf ha (by omega) (by show z + p ≤ z + p; omega)
    · have hb : b = true := by
        cases b with
        | true => rfl
        | false => exact absurd (hd8.mpr rfl) c227
      subst hb
      rw [if_pos rfl] at h1 h0
      refine g_aload_0 h dX4_valueAt_230 ?_
      refine g_bipush h dX4_valueAt_231 (v := nI 37) rfl ?_
      refine g_cVi1 h rok0 mi_X4_take dX4_valueAt_233 ml_X4_45 rfl rfl rfl (Nat.le_of_ble_eq_true rfl) (Nat.le_of_ble_eq_true rfl) (sp_X4_take hK hP ha hp (by omega) (fun e1 I1 r1 a1 n1 => ?_) (fun e => absurd e37 e))
      · have pM : p < M := K_lt2 k5 hp (by omega)
        refine g_if_eq h 266 dX4_valueAt_236 rfl (fun c => absurd c (by decide)) (fun _ => ?_)
        refine g_aload_0 h dX4_valueAt_239 ?_
        refine g_iload_1 h dX4_valueAt_240 ?_
        refine g_iconst h dX4_valueAt_241 (v := nI 1) rfl ?_
        refine g_iadd h dX4_valueAt_242 ?_
        refine g_cVi1 h rok0 mi_X4_valueAt dX4_valueAt_243 ml_X4_65 rfl rfl rfl (Nat.le_of_ble_eq_true rfl) (Nat.le_of_ble_eq_true rfl) (hV rfl (p + 1) z I1 J P (r1.ps hK) hP a1 (by omega) (by omega) _ (fun e2 I2 z2 r2 a2 l1 l2 s2 => ?_) (fun e2 I2 z2 r2 a2 l1 l2 => ?_))
        · obtain ⟨b1, b2, b3⟩ := hgB rfl (p + 1) (by omega)
          have b4 := b3 e2
          rw [e2] at h1 h0
          refine g_if_eq h 266 dX4_valueAt_246 rfl (fun c => absurd c (by decide)) (fun _ => ?_)
          refine g_aload_0 h dX4_valueAt_249 ?_
          refine g_getP h fl_X4_28 dX4_valueAt_250 rfl rfl (by assumption) ?_
          refine g_bipush h dX4_valueAt_253 (v := nI 47) rfl ?_
          refine g_iconst h dX4_valueAt_255 (v := nI 0) rfl ?_
          refine g_cVi2 h rok0 mi_X1_append dX4_valueAt_256 ml_X4_61 rfl rfl rfl (Nat.le_of_ble_eq_true rfl) (Nat.le_of_ble_eq_true rfl) (sp_X1_append a2 (by omega) (fun I3 r3 a3 s1 s3 => ?_))
          · refine g_if_eq h 266 dX4_valueAt_259 rfl (fun c => absurd c (by decide)) (fun _ => ?_)
            refine g_iconst h dX4_valueAt_262 (v := nI 1) rfl ?_
            refine g_goto h 267 dX4_valueAt_263 rfl ?_
            refine g_zret h dX4_valueAt_267 (by first | rfl | exact nar_b2i _) ?_
            refine h1 rfl I3 (z2 + 1) ((r1.tr r2 (by omega) (by omega)).tr r3 (by omega) (by omega)) a3 (by omega) (by show z2 + 1 + p ≤ z + (g (p + 1)).2.1; omega) ?_
            exact seg_neg (r3.sg s2 (by omega)) s1
        · obtain ⟨b1, b2, b3⟩ := hgB rfl (p + 1) (by omega)
          rw [e2] at h1 h0
          refine g_if_eq h 266 dX4_valueAt_246 rfl (fun _ => ?_) (fun c => absurd c (by decide))
          refine g_iconst h dX4_valueAt_266 (v := nI 0) rfl ?_
          refine g_zret h dX4_valueAt_267 (by first | rfl | exact nar_b2i _) ?_
          exact h0 rfl I2 z2 (r1.tr r2 (by omega) (by omega)) a2 l1 (by show z2 + p ≤ z + (g (p + 1)).2.1; omega)
  · have e29 : ¬ K p = 29 := by omega
    have e16 : ¬ K p = 16 := by omega
    have e17 : ¬ (17 ≤ K p ∧ K p ≤ 21) := by omega
    have e37 : ¬ K p = 37 := by omega
    rw [if_neg e29, if_neg e16, if_neg e17, if_neg e37, if_pos e30] at h1 h0
    refine g_ts h (K p) 268 dX4_valueAt_14 rfl (by omega) (by decide) ((by decide : ∀ k, k < 49 → k = 30 → tsO 373 16 37 #[142, 170, 170, 170, 170, 170, 373, 373, 373, 373, 294, 294, 373, 102, 254, 373, 373, 373, 373, 373, 373, 210] k = 254) _ kp e30) rfl ?_
    refine g_iload_1 h dX4_valueAt_268 ?_
    refine g_bipush h dX4_valueAt_269 (v := nI 8) rfl ?_
    refine g_icmp_ge h 306 dX4_valueAt_271 rfl (fun c271 => ?_) (fun c271 => ?_)
    · refine g_iconst h dX4_valueAt_306 (v := nI 0) rfl ?_
      refine g_zret h dX4_valueAt_307 (by first | rfl | exact nar_b2i _) ?_
      have hb : b = false := hd8.mp c271
      subst hb
      rw [if_neg (by decide)] at h1 h0
      exact h0 rfl I z paR.rf ha (by omega) (by show z + p ≤ z + p; omega)
    · have hb : b = true := by
        cases b with
        | true => rfl
        | false => exact absurd (hd8.mpr rfl) c271
      subst hb
      rw [if_pos rfl] at h1 h0
      refine g_aload_0 h dX4_valueAt_274 ?_
      refine g_bipush h dX4_valueAt_275 (v := nI 30) rfl ?_
      refine g_cVi1 h rok0 mi_X4_take dX4_valueAt_277 ml_X4_45 rfl rfl rfl (Nat.le_of_ble_eq_true rfl) (Nat.le_of_ble_eq_true rfl) (sp_X4_take hK hP ha hp (by omega) (fun e1 I1 r1 a1 n1 => ?_) (fun e => absurd e30 e))
      · have pM : p < M := K_lt2 k5 hp (by omega)
        refine g_if_eq h 306 dX4_valueAt_280 rfl (fun c => absurd c (by decide)) (fun _ => ?_)
        refine g_aload_0 h dX4_valueAt_283 ?_
        refine g_iload_1 h dX4_valueAt_284 ?_
        refine g_iconst h dX4_valueAt_285 (v := nI 1) rfl ?_
        refine g_iadd h dX4_valueAt_286 ?_
        refine g_cVi1 h rok0 mi_X4_sumAt dX4_valueAt_287 ml_X4_52 rfl rfl rfl (Nat.le_of_ble_eq_true rfl) (Nat.le_of_ble_eq_true rfl) (hS rfl (p + 1) z I1 J P (r1.ps hK) hP a1 (by omega) (by omega) _ (fun e2 I2 z2 r2 a2 l1 l2 s2 => ?_) (fun e2 I2 z2 r2 a2 l1 l2 => ?_))
        · obtain ⟨b1, b2, b3⟩ := opS_B (lo := 36) (cl := clS) k5 (show 39 < 45 by decide) (hgB rfl) (p + 1) (by omega)
          have b4 := b3 e2
          unfold cloP at h1 h0
          rw [if_pos e2] at h1 h0
          refine g_if_eq h 306 dX4_valueAt_290 rfl (fun c => absurd c (by decide)) (fun _ => ?_)
          refine g_aload_0 h dX4_valueAt_293 ?_
          refine g_bipush h dX4_valueAt_294 (v := nI 31) rfl ?_
          refine g_cVi1 h rok0 mi_X4_take dX4_valueAt_296 ml_X4_45 rfl rfl rfl (Nat.le_of_ble_eq_true rfl) (Nat.le_of_ble_eq_true rfl) (sp_X4_take ((r1.tr r2 (by omega) (by omega)).ps hK) hP a2 b2 (by omega) (fun e3 I3 r3 a3 n3 => ?_) (fun e3 => ?_))
          · rw [if_pos e3] at h1 h0
            refine g_if_eq h 306 dX4_valueAt_299 rfl (fun c => absurd c (by decide)) (fun _ => ?_)
            refine g_iconst h dX4_valueAt_302 (v := nI 1) rfl ?_
            refine g_goto h 307 dX4_valueAt_303 rfl ?_
            refine g_zret h dX4_valueAt_307 (by first | rfl | exact nar_b2i _) ?_
            exact h1 rfl I3 z2 ((r1.tr r2 (by omega) (by omega)).tr r3 (by omega) (by omega)) a3 l1 (by show z2 + p ≤ z + ((opS K 36 39 clS g (p + 1)).2.1 + 1); omega) (r3.sg s2 (by omega))
          · rw [if_neg e3] at h1 h0
            refine g_if_eq h 306 dX4_valueAt_299 rfl (fun _ => ?_) (fun c => absurd c (by decide))
            refine g_iconst h dX4_valueAt_306 (v := nI 0) rfl ?_
            refine g_zret h dX4_valueAt_307 (by first | rfl | exact nar_b2i _) ?_
            exact h0 rfl I2 z2 (r1.tr r2 (by omega) (by omega)) a2 l1 (by show z2 + p ≤ z + (opS K 36 39 clS g (p + 1)).2.1; omega)
        · obtain ⟨b1, b2, b3⟩ := opS_B (lo := 36) (cl := clS) k5 (show 39 < 45 by decide) (hgB rfl) (p + 1) (by omega)
          unfold cloP at h1 h0
          rw [if_neg (by rw [e2]; decide)] at h1 h0
          refine g_if_eq h 306 dX4_valueAt_290 rfl (fun _ => ?_) (fun c => absurd c (by decide))
          refine g_iconst h dX4_valueAt_306 (v := nI 0) rfl ?_
          refine g_zret h dX4_valueAt_307 (by first | rfl | exact nar_b2i _) ?_
          exact h0 rfl I2 z2 (r1.tr r2 (by omega) (by omega)) a2 l1 (by show z2 + p ≤ z + (opS K 36 39 clS g (p + 1)).2.1; omega)
  · have e29 : ¬ K p = 29 := by omega
    have e16 : ¬ K p = 16 := by omega
    have e17 : ¬ (17 ≤ K p ∧ K p ≤ 21) := by omega
    have e37 : ¬ K p = 37 := by omega
    have e30 : ¬ K p = 30 := by omega
    rw [if_neg e29, if_neg e16, if_neg e17, if_neg e37, if_neg e30, if_pos e26] at h1 h0
    refine g_ts h (K p) 308 dX4_valueAt_14 rfl (by omega) (by decide) ((by decide : ∀ k, k < 49 → (k = 26 ∨ k = 27) → tsO 373 16 37 #[142, 170, 170, 170, 170, 170, 373, 373, 373, 373, 294, 294, 373, 102, 254, 373, 373, 373, 373, 373, 373, 210] k = 294) _ kp e26) rfl ?_
    refine g_aload_0 h dX4_valueAt_308 ?_
    refine g_iload_2 h dX4_valueAt_309 ?_
    refine g_cVi1 h rok0 mi_X4_take dX4_valueAt_310 ml_X4_45 rfl rfl rfl (Nat.le_of_ble_eq_true rfl) (Nat.le_of_ble_eq_true rfl) (sp_X4_take hK hP ha hp (by omega) (fun e1 I1 r1 a1 n1 => ?_) (fun e => absurd rfl e))
    · have pM : p < M := K_lt2 k5 hp (by omega)
      refine g_if_eq h 385 dX4_valueAt_313 rfl (fun c => absurd c (by decide)) (fun _ => ?_)
      refine g_iload_1 h dX4_valueAt_316 ?_
      refine g_bipush h dX4_valueAt_317 (v := nI 8) rfl ?_
      refine g_icmp_ge h 385 dX4_valueAt_319 rfl (fun c319 => ?_) (fun c319 => ?_)
      · refine g_iconst h dX4_valueAt_385 (v := nI 0) rfl ?_
        refine g_zret h dX4_valueAt_386 (by first | rfl | exact nar_b2i _) ?_
        have hb : b = false := hd8.mp c319
        subst hb
        rw [if_neg (fun q => by cases q.1)] at h1 h0
        exact h0 rfl I1 z r1 a1 (by omega) (by show z + p ≤ z + (p + 1); omega)
      · have hb : b = true := by
          cases b with
          | true => rfl
          | false => exact absurd (hd8.mpr rfl) c319
        subst hb
        refine g_aload_0 h dX4_valueAt_322 ?_
        refine g_bipush h dX4_valueAt_323 (v := nI 30) rfl ?_
        refine g_cVi1 h rok0 mi_X4_take dX4_valueAt_325 ml_X4_45 rfl rfl rfl (Nat.le_of_ble_eq_true rfl) (Nat.le_of_ble_eq_true rfl) (sp_X4_take (r1.ps hK) hP a1 (by omega) (by omega) (fun e2 I2 r2 a2 n2 => ?_) (fun e2 => ?_))
        · have p2M : p + 1 < M := K_lt k5 (by omega) e2 (by decide)
          rw [if_pos ⟨rfl, e2⟩] at h1 h0
          refine g_if_eq h 385 dX4_valueAt_328 rfl (fun c => absurd c (by decide)) (fun _ => ?_)
          refine g_aload_0 h dX4_valueAt_331 ?_
          refine g_iload_1 h dX4_valueAt_332 ?_
          refine g_iconst h dX4_valueAt_333 (v := nI 1) rfl ?_
          refine g_iadd h dX4_valueAt_334 ?_
          refine g_cVi1 h rok0 mi_X4_sumAt dX4_valueAt_335 ml_X4_52 rfl rfl rfl (Nat.le_of_ble_eq_true rfl) (Nat.le_of_ble_eq_true rfl) (hS rfl (p + 2) z I2 J P ((r1.tr r2 (by omega) (by omega)).ps hK) hP a2 (by omega) (by omega) _ (fun e3 I3 z3 r3 a3 l1 l2 s3 => ?_) (fun e3 I3 z3 r3 a3 l1 l2 => ?_))
          · have rr3 := (r1.tr r2 (by omega) (by omega)).tr r3 (by omega) (by omega)
            obtain ⟨b1, b2, b3⟩ := opS_B (lo := 36) (cl := clS) k5 (show 39 < 45 by decide) (hgB rfl) (p + 2) (by omega)
            have b4 := b3 e3
            refine g_if_eq h 385 dX4_valueAt_338 rfl (fun c => absurd c (by decide)) (fun _ => ?_)
            refine g_aload_0 h dX4_valueAt_341 ?_
            refine g_bipush h dX4_valueAt_342 (v := nI 35) rfl ?_
            refine g_cVi1 h rok0 mi_X4_take dX4_valueAt_344 ml_X4_45 rfl rfl rfl (Nat.le_of_ble_eq_true rfl) (Nat.le_of_ble_eq_true rfl) (sp_X4_take (rr3.ps hK) hP a3 b2 (by omega) (fun e4 I4 r4 a4 n4 => ?_) (fun e4 => ?_))
            · have rr4 := rr3.tr r4 (by omega) (by omega)
              have p4M := K_lt k5 b2 e4 (by decide)
              have ec : (cloP K 35 (opS K 36 39 clS g (p + 2))) = (true, (opS K 36 39 clS g (p + 2)).2.1 + 1, (opS K 36 39 clS g (p + 2)).2.2) := by rw [cloP, if_pos e3, if_pos e4]
              rw [ec] at h1 h0
              rw [if_pos rfl] at h1 h0
              dsimp only at h1 h0
              refine g_if_eq h 385 dX4_valueAt_347 rfl (fun c => absurd c (by decide)) (fun _ => ?_)
              refine g_aload_0 h dX4_valueAt_350 ?_
              refine g_iload_1 h dX4_valueAt_351 ?_
              refine g_iconst h dX4_valueAt_352 (v := nI 1) rfl ?_
              refine g_iadd h dX4_valueAt_353 ?_
              refine g_cVi1 h rok0 mi_X4_sumAt dX4_valueAt_354 ml_X4_52 rfl rfl rfl (Nat.le_of_ble_eq_true rfl) (Nat.le_of_ble_eq_true rfl) (hS rfl ((opS K 36 39 clS g (p + 2)).2.1 + 1) z3 I4 J P (rr4.ps hK) hP a4 (by omega) (by omega) _ (fun e5 I5 z5 r5 a5 l3 l4 s5 => ?_) (fun e5 I5 z5 r5 a5 l3 l4 => ?_))
              · have rr5 := rr4.tr r5 (by omega) (by omega)
                obtain ⟨d1, d2, d3⟩ := opS_B (lo := 36) (cl := clS) k5 (show 39 < 45 by decide) (hgB rfl) ((opS K 36 39 clS g (p + 2)).2.1 + 1) (by omega)
                have d4 := d3 e5
                refine g_if_eq h 385 dX4_valueAt_357 rfl (fun c => absurd c (by decide)) (fun _ => ?_)
                refine g_aload_0 h dX4_valueAt_360 ?_
                refine g_bipush h dX4_valueAt_361 (v := nI 31) rfl ?_
                refine g_cVi1 h rok0 mi_X4_take dX4_valueAt_363 ml_X4_45 rfl rfl rfl (Nat.le_of_ble_eq_true rfl) (Nat.le_of_ble_eq_true rfl) (sp_X4_take (rr5.ps hK) hP a5 d2 (by omega) (fun e6 I6 r6 a6 n6 => ?_) (fun e6 => ?_))
                · have rr6 := rr5.tr r6 (by omega) (by omega)
                  have p6M := K_lt k5 d2 e6 (by decide)
                  have ec : cloP K 31 (opS K 36 39 clS g ((opS K 36 39 clS g (p + 2)).2.1 + 1)) = (true, (opS K 36 39 clS g ((opS K 36 39 clS g (p + 2)).2.1 + 1)).2.1 + 1, (opS K 36 39 clS g ((opS K 36 39 clS g (p + 2)).2.1 + 1)).2.2) := by rw [cloP, if_pos e5, if_pos e6]
                  rw [ec] at h1 h0
                  refine g_if_eq h 385 dX4_valueAt_366 rfl (fun c => absurd c (by decide)) (fun _ => ?_)
                  refine g_aload_0 h dX4_valueAt_369 ?_
                  refine g_getP h fl_X4_28 dX4_valueAt_370 rfl rfl (by assumption) ?_
                  refine g_iload_2 h dX4_valueAt_373 ?_
                  refine g_iconst h dX4_valueAt_374 (v := nI 0) rfl ?_
                  refine g_cVi2 h rok0 mi_X1_append dX4_valueAt_375 ml_X4_61 rfl rfl rfl (Nat.le_of_ble_eq_true rfl) (Nat.le_of_ble_eq_true rfl) (sp_X1_append a6 (by omega) (fun I7 r7 a7 s1 s2 => ?_))
                  · refine g_if_eq h 385 dX4_valueAt_378 rfl (fun c => absurd c (by decide)) (fun _ => ?_)
                    refine g_iconst h dX4_valueAt_381 (v := nI 1) rfl ?_
                    refine g_goto h 386 dX4_valueAt_382 rfl ?_
                    refine g_zret h dX4_valueAt_386 (by first | rfl | exact nar_b2i _) ?_
                    refine h1 rfl I7 (z5 + 1) (rr6.tr r7 (by omega) (by omega)) a7 (by omega) (by show z5 + 1 + p ≤ z + ((opS K 36 39 clS g ((opS K 36 39 clS g (p + 2)).2.1 + 1)).2.1 + 1); omega) ?_
                    exact seg_jo ((r4.tr (r5.tr (r6.tr r7 (by omega) (by omega)) (by omega) (by omega)) (by omega) (by omega)).sg s3 (by omega)) ((r6.tr r7 (by omega) (by omega)).sg s5 (by omega)) (Or.inl (by omega)) s1
                · have ec : cloP K 31 (opS K 36 39 clS g ((opS K 36 39 clS g (p + 2)).2.1 + 1)) = (false, (opS K 36 39 clS g ((opS K 36 39 clS g (p + 2)).2.1 + 1)).2.1, zE) := by rw [cloP, if_pos e5, if_neg e6]
                  rw [ec] at h1 h0
                  refine g_if_eq h 385 dX4_valueAt_366 rfl (fun _ => ?_) (fun c => absurd c (by decide))
                  refine g_iconst h dX4_valueAt_385 (v := nI 0) rfl ?_
                  refine g_zret h dX4_valueAt_386 (by first | rfl | exact nar_b2i _) ?_
                  exact h0 rfl I5 z5 rr5 a5 (by omega) (by show z5 + p ≤ z + (opS K 36 39 clS g ((opS K 36 39 clS g (p + 2)).2.1 + 1)).2.1; omega)
              · have rr5 := rr4.tr r5 (by omega) (by omega)
                obtain ⟨d1, d2, d3⟩ := opS_B (lo := 36) (cl := clS) k5 (show 39 < 45 by decide) (hgB rfl) ((opS K 36 39 clS g (p + 2)).2.1 + 1) (by omega)
                have ec : cloP K 31 (opS K 36 39 clS g ((opS K 36 39 clS g (p + 2)).2.1 + 1)) = (false, (opS K 36 39 clS g ((opS K 36 39 clS g (p + 2)).2.1 + 1)).2.1, zE) := by rw [cloP, if_neg (by rw [e5]; decide)]
                rw [ec] at h1 h0
                refine g_if_eq h 385 dX4_valueAt_357 rfl (fun _ => ?_) (fun c => absurd c (by decide))
                refine g_iconst h dX4_valueAt_385 (v := nI 0) rfl ?_
                refine g_zret h dX4_valueAt_386 (by first | rfl | exact nar_b2i _) ?_
                exact h0 rfl I5 z5 rr5 a5 (by omega) (by show z5 + p ≤ z + (opS K 36 39 clS g ((opS K 36 39 clS g (p + 2)).2.1 + 1)).2.1; omega)
            · have ec : (cloP K 35 (opS K 36 39 clS g (p + 2))) = (false, (opS K 36 39 clS g (p + 2)).2.1, zE) := by rw [cloP, if_pos e3, if_neg e4]
              rw [ec] at h1 h0
              rw [if_neg (fun q => Bool.noConfusion q)] at h1 h0
              refine g_if_eq h 385 dX4_valueAt_347 rfl (fun _ => ?_) (fun c => absurd c (by decide))
              refine g_iconst h dX4_valueAt_385 (v := nI 0) rfl ?_
              refine g_zret h dX4_valueAt_386 (by first | rfl | exact nar_b2i _) ?_
              exact h0 rfl I3 z3 rr3 a3 l1 (by show z3 + p ≤ z + (opS K 36 39 clS g (p + 2)).2.1; omega)
          · have rr3 := (r1.tr r2 (by omega) (by omega)).tr r3 (by omega) (by omega)
            obtain ⟨b1, b2, b3⟩ := opS_B (lo := 36) (cl := clS) k5 (show 39 < 45 by decide) (hgB rfl) (p + 2) (by omega)
            have ec : (cloP K 35 (opS K 36 39 clS g (p + 2))) = (false, (opS K 36 39 clS g (p + 2)).2.1, zE) := by rw [cloP, if_neg (by rw [e3]; decide)]
            rw [ec] at h1 h0
            rw [if_neg (fun q => Bool.noConfusion q)] at h1 h0
            refine g_if_eq h 385 dX4_valueAt_338 rfl (fun _ => ?_) (fun c => absurd c (by decide))
            refine g_iconst h dX4_valueAt_385 (v := nI 0) rfl ?_
            refine g_zret h dX4_valueAt_386 (by first | rfl | exact nar_b2i _) ?_
            exact h0 rfl I3 z3 rr3 a3 l1 (by show z3 + p ≤ z + (opS K 36 39 clS g (p + 2)).2.1; omega)
        · rw [if_neg (fun q => e2 q.2)] at h1 h0
          refine g_if_eq h 385 dX4_valueAt_328 rfl (fun _ => ?_) (fun c => absurd c (by decide))
          refine g_iconst h dX4_valueAt_385 (v := nI 0) rfl ?_
          refine g_zret h dX4_valueAt_386 (by first | rfl | exact nar_b2i _) ?_
          exact h0 rfl I1 z r1 a1 (by omega) (by show z + p ≤ z + (p + 1); omega)
  · have eo' := eo
    obtain ⟨e29, e16, e17, e37, e30, e26⟩ := eo'
    rw [if_neg e29, if_neg e16, if_neg e17, if_neg e37, if_neg e30, if_neg e26] at h1 h0
    refine g_ts h (K p) 387 dX4_valueAt_14 rfl (by omega) (by decide) ((by decide : ∀ k, k < 49 → (¬ k = 29 ∧ ¬ k = 16 ∧ ¬ (17 ≤ k ∧ k ≤ 21) ∧ ¬ k = 37 ∧ ¬ k = 30 ∧ ¬ (k = 26 ∨ k = 27)) → tsO 373 16 37 #[142, 170, 170, 170, 170, 170, 373, 373, 373, 373, 294, 294, 373, 102, 254, 373, 373, 373, 373, 373, 373, 210] k = 373) _ kp eo) rfl ?_
    refine g_iconst h dX4_valueAt_387 (v := nI 0) rfl ?_
    refine g_zret h dX4_valueAt_388 (by first | rfl | exact nar_b2i _) ?_
    exact h0 rfl I z paR.rf ha (by omega) (by show z + p ≤ z + p; omega)
