/-! A builder of text: append -/
theorem fb_15 : FP RJ5 15 10 0 (.array .byte) := ⟨_, _, _, tyJ4, rfl, by decide, inW_J4, Or.inl (bw_in (tb_4 (List.mem_of_getElem? (i := 95) rfl)) rfl), tyJ4_ok, nmJ4, rfl, tyJ4_ok 0 (by decide)⟩
theorem fb_22 : FP RJ5 22 10 1 .byte := ⟨_, _, _, tyJ4, rfl, by decide, inW_J4, Or.inl (bw_in (tb_4 (List.mem_of_getElem? (i := 96) rfl)) rfl), tyJ4_ok, nmJ4, rfl, tyJ4_ok 1 (by decide)⟩
theorem fb_79 : FP RJ5 79 10 3 .int := ⟨_, _, _, tyJ4, rfl, by decide, inW_J4, Or.inl (bw_in (tb_4 (List.mem_of_getElem? (i := 98) rfl)) rfl), tyJ4_ok, nmJ4, rfl, tyJ4_ok 3 (by decide)⟩
theorem lb_15 : FL RJ5 15 10 0 := ⟨_, _, _, rfl, by decide, inW_J4, Or.inl (bw_in (tb_4 (List.mem_of_getElem? (i := 95) rfl)) rfl)⟩
theorem lb_22 : FL RJ5 22 10 1 := ⟨_, _, _, rfl, by decide, inW_J4, Or.inl (bw_in (tb_4 (List.mem_of_getElem? (i := 96) rfl)) rfl)⟩
theorem lb_79 : FL RJ5 79 10 3 := ⟨_, _, _, rfl, by decide, inW_J4, Or.inl (bw_in (tb_4 (List.mem_of_getElem? (i := 98) rfl)) rfl)⟩
theorem fw_J5_18 : Cond.fieldLink RJ5 18 "java/lang/String" "COMPACT_STRINGS" "Z" ∈ bigW := bw_in (tb_4 (List.mem_of_getElem? (i := 87) rfl)) rfl
theorem nnJ5 (i : Nat) : ∀ host C n dd, (RJ5, i, C, n, dd, host) ∉ nestF := by
  intro host C n dd q
  rw [nestF, List.mem_singleton] at q
  exact absurd (congrArg (fun z => z.1) q) (by show RJ5 ≠ RX4; decide)
theorem nnJ0 (i : Nat) : ∀ host C n dd, (RJ0, i, C, n, dd, host) ∉ nestF := by
  intro host C n dd q
  rw [nestF, List.mem_singleton] at q
  exact absurd (congrArg (fun z => z.1) q) (by show RJ0 ≠ RX4; decide)
theorem cu_pub {own : String} {idx : Nat} {y : MethodName} {cb : ByteArray} {mL n : Nat} {rt : Option FieldType} (hl : Cond.methodLink own idx y ∈ bigW) (hsm : Cond.sameMethod y.cls y.cls y.name y.desc ∈ bigW) (hsel : Cond.selects RJ4 y y ∈ bigW) (him : Cond.instanceMethod y ∈ bigW) (hini : Cond.initialized y.cls ∈ bigW) (hcode : Cond.code y cb mL rt ∈ bigW) (hd : y.cls ≠ "java/lang/invoke/MethodHandle" ∧ y.cls ≠ "java/lang/invoke/VarHandle" ∧ (parseMethodDescriptor y.desc).map (fun d => d.parameters.length) = some n) (hmL : mL ≤ 45) : CUk own RJ4 y.cls idx y y cb mL rt n := by
  intro R s args d c0 n0 hts hNc hf hlo
  refine va_cwU n hts (fun w hw => ?_) rfl rfl rfl rfl hd ⟨hf, by show 8 + (mL + 11) + 64 * d ≤ R.locals; omega⟩
  have hmem : w ∈ bigW := by
    rcases List.mem_append.mp hw with h1 | h1
    · simp only [List.mem_cons, List.not_mem_nil, or_false] at h1
      rcases h1 with rfl | rfl | rfl | rfl | rfl <;> assumption
    · rcases List.mem_cons.mp h1 with rfl | h1 <;> assumption
  exact ⟨hmem, bw_good hmem⟩
theorem se_SB_isLatin1 : Cond.selects RJ4 yJ5_isLatin1_aae02 yJ5_isLatin1_aae02 ∈ bigW := bw_in (tb_4 (List.mem_of_getElem? (i := 151) rfl)) rfl
theorem im_ASB_isLatin1 : Cond.instanceMethod yJ5_isLatin1_aae02 ∈ bigW := bw_in (tb_4 (List.mem_of_getElem? (i := 149) rfl)) rfl
theorem cu_prv {own : String} {idx : Nat} {y : MethodName} {cb : ByteArray} {mL n : Nat} {rt : Option FieldType} (hse : Cond.selects RJ4 y y ∈ selB) (hl : Cond.methodLink own idx y ∈ bigW) (hsm : Cond.sameMethod y.cls y.cls y.name y.desc ∈ bigW) (him : Cond.instanceMethod y ∈ bigW) (hini : Cond.initialized y.cls ∈ bigW) (hcode : Cond.code y cb mL rt ∈ bigW) (hd : y.cls ≠ "java/lang/invoke/MethodHandle" ∧ y.cls ≠ "java/lang/invoke/VarHandle" ∧ (parseMethodDescriptor y.desc).map (fun d => d.parameters.length) = some n) (hmL : mL ≤ 45) : CUk own RJ4 y.cls idx y y cb mL rt n := by
  intro R s args d c0 n0 hts hNc hf hlo
  have hsel : (Cond.selects RJ4 y y).before args s = true := va_Nw.use rfl (hNc.2.2 _ hse)
  refine va_cwU (Ts := Cond.selects RJ4 y y :: bigW) n (fun w hw => ?_) (fun w hw => ?_) rfl rfl rfl rfl hd ⟨hf, by show 8 + (mL + 11) + 64 * d ≤ R.locals; omega⟩
  · rcases List.mem_cons.mp hw with rfl | h1
    · exact hsel
    · exact hts _ h1
  · have hmem : w = Cond.selects RJ4 y y ∨ w ∈ bigW := by
      rcases List.mem_append.mp hw with h1 | h1
      · simp only [List.mem_cons, List.not_mem_nil, or_false] at h1
        rcases h1 with rfl | rfl | rfl | rfl | rfl
        · exact Or.inr hl
        · exact Or.inr hsm
        · exact Or.inl rfl
        · exact Or.inr him
        · exact Or.inr hini
      · rcases List.mem_cons.mp h1 with rfl | h1
        · exact Or.inr hcode
        · exact Or.inr h1
    rcases hmem with rfl | h1
    · exact ⟨List.mem_cons_self, Or.inl rfl⟩
    · exact ⟨List.mem_cons_of_mem _ h1, bw_good h1⟩
theorem cu_ensure : CUk RJ5 RJ4 yJ5_ensureCapacityInternal_d00df.cls 100 yJ5_ensureCapacityInternal_d00df yJ5_ensureCapacityInternal_d00df cJ5_ensureCapacityInternal_d00df 3 none 1 := cu_prv (List.mem_of_getElem? (i := 0) rfl) ml_J5_100 (bw_in (tb_6 (List.mem_of_getElem? (i := 169) rfl)) rfl) (bw_in (tb_4 (List.mem_of_getElem? (i := 121) rfl)) rfl) ini_J5 (bw_in (tb_4 (List.mem_of_getElem? (i := 122) rfl)) rfl) ⟨by decide +kernel, by decide +kernel, by decide +kernel⟩ (by decide)
theorem cu_newCapacity : CUk RJ5 RJ4 yJ5_newCapacity_0f7a4.cls 104 yJ5_newCapacity_0f7a4 yJ5_newCapacity_0f7a4 cJ5_newCapacity_0f7a4 6 (some .int) 1 := cu_prv (List.mem_of_getElem? (i := 1) rfl) ml_J5_104 (bw_in (tb_6 (List.mem_of_getElem? (i := 170) rfl)) rfl) (bw_in (tb_4 (List.mem_of_getElem? (i := 125) rfl)) rfl) ini_J5 (bw_in (tb_4 (List.mem_of_getElem? (i := 126) rfl)) rfl) ⟨by decide +kernel, by decide +kernel, by decide +kernel⟩ (by decide)
theorem cu_putString : CUk RJ5 RJ4 yJ5_putStringAt_47b60.cls 208 yJ5_putStringAt_47b60 yJ5_putStringAt_47b60 cJ5_putStringAt_47b60 3 none 2 := cu_prv (List.mem_of_getElem? (i := 2) rfl) ml_J5_208 (bw_in (tb_6 (List.mem_of_getElem? (i := 171) rfl)) rfl) (bw_in (tb_4 (List.mem_of_getElem? (i := 171) rfl)) rfl) ini_J5 (bw_in (tb_4 (List.mem_of_getElem? (i := 172) rfl)) rfl) ⟨by decide +kernel, by decide +kernel, by decide +kernel⟩ (by decide)
theorem cu_inflateIf : CUk RJ5 RJ4 yJ5_inflateIfNeededFor_a7421.cls 397 yJ5_inflateIfNeededFor_a7421 yJ5_inflateIfNeededFor_a7421 cJ5_inflateIfNeededFor_a7421 2 none 1 := cu_prv (List.mem_of_getElem? (i := 3) rfl) ml_J5_397 (bw_in (tb_6 (List.mem_of_getElem? (i := 172) rfl)) rfl) (bw_in (tb_4 (List.mem_of_getElem? (i := 175) rfl)) rfl) ini_J5 (bw_in (tb_4 (List.mem_of_getElem? (i := 176) rfl)) rfl) ⟨by decide +kernel, by decide +kernel, by decide +kernel⟩ (by decide)
abbrev wB (cy : Nat → ClassId) (a v m : Nat) (g : Nat → Int32) (ml : Int32) (n : Nat) : va_W := [(a, eB v ml n), (v, eA cy m g)]
section KTB
variable {ad : Nat → Nat} {tx : TXo} {cy : Nat → ClassId} {d : Nat} {a v m n : Nat} {g : Nat → Int32} {ml : Int32}
theorem kt_newCapacity {q : Nat} (hmq : m < q) (hq : q ≤ 2100) : KM cy ad tx yJ5_newCapacity_0f7a4 cJ5_newCapacity_0f7a4 6 (some .int) (d + 2) 0 0 [.ref a, .int (nI q)] (wB cy a v m g ml n) (fun r w => r = some (.int (nI (sb_cap q m))) ∧ w = wB cy a v m g ml n) := by
  intro Γ hv h hr _ _
  show CW Γ 0 0 0 [some (.ref a), some (.int (nI q)), none, none, none, none] [] (wB cy a v m g ml n) _
  refine kw_alod h 0 dJ5_newCapacity_0f7a4_0 rfl rfl ?_
  refine k_get h 0 lb_15 rfl (v := .ref v) rfl (nnJ5 _) dJ5_newCapacity_0f7a4_1 ?_
  refine kw_blen h hv.1 1 1 (fun _ => rfl) rfl dJ5_newCapacity_0f7a4_4 ?_
  refine kw_isto h 2 dJ5_newCapacity_0f7a4_5 rfl (by decide) rfl ?_
  refine kw_ilod h 1 dJ5_newCapacity_0f7a4_6 rfl rfl ?_
  refine kw_alod h 0 dJ5_newCapacity_0f7a4_7 rfl rfl ?_
  refine k_get h 0 lb_22 rfl (v := .int 0) rfl (nnJ5 _) dJ5_newCapacity_0f7a4_8 ?_
  refine kw_ishl h dJ5_newCapacity_0f7a4_11 ?_
  rw [sb_shl0]
  refine kw_isto h 3 dJ5_newCapacity_0f7a4_12 rfl (by decide) rfl ?_
  refine kw_ilod h 3 dJ5_newCapacity_0f7a4_13 rfl rfl ?_
  refine kw_ilod h 2 dJ5_newCapacity_0f7a4_14 rfl rfl ?_
  refine kw_isub h dJ5_newCapacity_0f7a4_15 ?_
  rw [pk_sub (show m ≤ q by omega)]
  refine kw_istow h 4 dJ5_newCapacity_0f7a4_16 (by decide) rfl ?_
  refine kw_ilod h 2 dJ5_newCapacity_0f7a4_18 rfl rfl ?_
  refine kw_ilodw h 4 dJ5_newCapacity_0f7a4_19 rfl ?_
  refine kw_ilod h 2 dJ5_newCapacity_0f7a4_21 rfl rfl ?_
  refine kw_ic h dJ5_newCapacity_0f7a4_22 (v := nI 2) rfl ?_
  refine kw_alod h 0 dJ5_newCapacity_0f7a4_23 rfl rfl ?_
  refine k_get h 0 lb_22 rfl (v := .int 0) rfl (nnJ5 _) dJ5_newCapacity_0f7a4_24 ?_
  refine kw_ishl h dJ5_newCapacity_0f7a4_27 ?_
  rw [sb_shl0]
  refine kw_iadd h dJ5_newCapacity_0f7a4_28 ?_
  rw [nI_add]
  refine km_leafS (As := [.int (nI m), .int (nI (q - m)), .int (nI (m + 2))]) hv h rk0 none mi_J8_newLength_cabcc (by decide) dJ5_newCapacity_0f7a4_29 ml_J5_114 (Nat.le_of_ble_eq_true rfl) rfl (Nat.le_of_ble_eq_true rfl) ts_none (kt_newLength (by omega) (by omega) (by omega) (by omega)) (fun r z => ?_)
  subst z
  have hc : m + (if q - m < m + 2 then m + 2 else q - m) = sb_cap q m := by
    unfold sb_cap
    rw [if_neg (show ¬ q ≤ m by omega)]
    split <;> split <;> omega
  have hcl : sb_cap q m ≤ 10000 := by rw [← hc]; split <;> omega
  rw [hc]
  show CW Γ 0 0 32 _ (.int (nI (sb_cap q m)) :: []) _ _
  refine kw_istow h 5 dJ5_newCapacity_0f7a4_32 (by decide) rfl ?_
  refine kw_ilodw h 5 dJ5_newCapacity_0f7a4_34 rfl ?_
  refine kw_ldcI h dJ5_newCapacity_0f7a4_36 lc_J5_39 ?_
  refine kw_icmp_ne h 51 dJ5_newCapacity_0f7a4_38 rfl (fun _ => ?_) (fun c => absurd ((nI_eq (by omega) (by decide)).mp (show nI (sb_cap q m) = nI 2147483647 from c)) (by omega))
  refine kw_ilodw h 5 dJ5_newCapacity_0f7a4_51 rfl ?_
  refine kw_alod h 0 dJ5_newCapacity_0f7a4_53 rfl rfl ?_
  refine k_get h 0 lb_22 rfl (v := .int 0) rfl (nnJ5 _) dJ5_newCapacity_0f7a4_54 ?_
  refine kw_ishr h dJ5_newCapacity_0f7a4_57 ?_
  rw [sb_shr0]
  exact km_iret h hr dJ5_newCapacity_0f7a4_58 ⟨rfl, rfl⟩
theorem kt_ensure {q : Nat} (hm : m ≤ 4300) (hq : q ≤ 2100) (hf : sb_Fit g) : KM cy ad tx yJ5_ensureCapacityInternal_d00df cJ5_ensureCapacityInternal_d00df 3 none (d + 3) 1 4300 [.ref a, .int (nI q)] (wB cy a v m g ml n) (fun r w => r = none ∧ ∃ v' g', w = wB cy a v' (sb_cap q m) g' ml n ∧ sb_Fit g' ∧ ∀ j, j < m → g' j = g j) := by
  intro Γ hv h hr _ hR
  show CW Γ 0 0 0 [some (.ref a), some (.int (nI q)), none] [] (wB cy a v m g ml n) _
  refine kw_alod h 0 dJ5_ensureCapacityInternal_d00df_0 rfl rfl ?_
  refine k_get h 0 lb_15 rfl (v := .ref v) rfl (nnJ5 _) dJ5_ensureCapacityInternal_d00df_1 ?_
  refine kw_blen h hv.1 1 1 (fun _ => rfl) rfl dJ5_ensureCapacityInternal_d00df_4 ?_
  refine kw_alod h 0 dJ5_ensureCapacityInternal_d00df_5 rfl rfl ?_
  refine k_get h 0 lb_22 rfl (v := .int 0) rfl (nnJ5 _) dJ5_ensureCapacityInternal_d00df_6 ?_
  refine kw_ishr h dJ5_ensureCapacityInternal_d00df_9 ?_
  rw [sb_shr0]
  refine kw_isto h 2 dJ5_ensureCapacityInternal_d00df_10 rfl (by decide) rfl ?_
  refine kw_ilod h 1 dJ5_ensureCapacityInternal_d00df_11 rfl rfl ?_
  refine kw_ilod h 2 dJ5_ensureCapacityInternal_d00df_12 rfl rfl ?_
  refine kw_isub h dJ5_ensureCapacityInternal_d00df_13 ?_
  have e1 : (nI q - nI m).toInt = (q : Int) - m := pk_sub_toInt (by omega) (by omega)
  refine kw_if_le h 38 dJ5_ensureCapacityInternal_d00df_14 rfl (fun c => ?_) (fun c => ?_)
  · rw [Int32.le_iff_toInt_le, e1, Int32.toInt_zero] at c
    have hcap : sb_cap q m = m := by unfold sb_cap; rw [if_pos (by omega)]
    refine k_pad (kc' := 1) (kn' := 4300) (by omega) (by omega) ?_
    exact km_vret h hr dJ5_ensureCapacityInternal_d00df_38 ⟨rfl, v, g, by rw [hcap], hf, fun _ _ => rfl⟩
  · rw [Int32.le_iff_toInt_le, e1, Int32.toInt_zero] at c
    have hmq : m < q := by omega
    have hcl : sb_cap q m ≤ 4300 ∧ m < sb_cap q m := by
      unfold sb_cap
      rw [if_neg (by omega)]
      split <;> omega
    refine kw_alod h 0 dJ5_ensureCapacityInternal_d00df_17 rfl rfl ?_
    refine kw_alod h 0 dJ5_ensureCapacityInternal_d00df_18 rfl rfl ?_
    refine k_get h 0 lb_15 rfl (v := .ref v) rfl (nnJ5 _) dJ5_ensureCapacityInternal_d00df_19 ?_
    refine kw_alod h 0 dJ5_ensureCapacityInternal_d00df_22 rfl rfl ?_
    refine kw_ilod h 1 dJ5_ensureCapacityInternal_d00df_23 rfl rfl ?_
    refine km_callU (As := [.int (nI q)]) (c0 := 0) (n0 := 0) (wc := wB cy a v m g ml n) (wr := []) hv h [0, 1] [] none rk0 cu_newCapacity (by decide +kernel) (by decide) dJ5_ensureCapacityInternal_d00df_24 0 rfl (Nat.le_of_ble_eq_true rfl) rfl (Nat.le_of_ble_eq_true rfl) rfl rfl rfl rfl (fun _ z => (List.not_mem_nil z).elim) ts_none (kt_newCapacity hmq hq) (fun r w1 z => ?_)
    obtain ⟨rfl, rfl⟩ := z
    show CW Γ 0 0 27 _ (.int (nI (sb_cap q m)) :: .ref v :: .ref a :: []) (wB cy a v m g ml n) _
    refine kw_alod h 0 dJ5_ensureCapacityInternal_d00df_27 rfl rfl ?_
    refine k_get h 0 lb_22 rfl (v := .int 0) rfl (nnJ5 _) dJ5_ensureCapacityInternal_d00df_28 ?_
    refine kw_ishl h dJ5_ensureCapacityInternal_d00df_31 ?_
    rw [sb_shl0]
    refine km_callS (As := [.ref v, .int (nI (sb_cap q m))]) (c0 := 1) (n0 := sb_cap q m) (wc := [(v, eA cy m g)]) (wr := [(a, eB v ml n)]) hv h [1] [0] none (rk_le hR (by omega) (by omega)) mi_J7_copyOf_9075b (by decide) dJ5_ensureCapacityInternal_d00df_32 ml_J5_108 (Nat.le_of_ble_eq_true rfl) rfl (Nat.le_of_ble_eq_true rfl) rfl rfl rfl rfl (by decide) ts_none (kt_copyOf hcl.2 (by omega) hf) (fun r w1 z => ?_)
    obtain ⟨v', rfl, rfl⟩ := z
    show CW Γ (0 + 1) (0 + sb_cap q m) 35 _ (.ref v' :: .ref a :: []) [(a, eB v ml n), (v, eA cy m g), (v', eA cy (sb_cap q m) (va_cpy g (fun _ => nI 0) 0 0 m))] _
    refine k_put h 0 fb_15 rfl rfl rfl (Nat.le_of_ble_eq_true rfl) (nnJ5 _) dJ5_ensureCapacityInternal_d00df_35 ?_
    show CW Γ (0 + 1) (0 + sb_cap q m) 38 _ [] [(a, eB v' ml n), (v, eA cy m g), (v', eA cy (sb_cap q m) (va_cpy g (fun _ => nI 0) 0 0 m))] _
    refine k_drop [0, 2] (ws' := wB cy a v' (sb_cap q m) (va_cpy g (fun _ => nI 0) 0 0 m) ml n) rfl rfl ?_
    refine k_pad (kc' := 1) (kn' := 4300) (by omega) (by omega) ?_
    exact km_vret h hr dJ5_ensureCapacityInternal_d00df_38 ⟨rfl, v', _, rfl, sb_fitC hf sb_fit0, fun j hj => sb_cpy0 hj⟩
variable {b y : Nat} {tl : List Nat}
theorem kt_inflateIf : KM cy ad (some (b, y, tl)) yJ5_inflateIfNeededFor_a7421 cJ5_inflateIfNeededFor_a7421 2 none (d + 1) 0 0 [.ref a, .ref b] [(a, eB v ml n)] (fun r w => r = none ∧ w = [(a, eB v ml n)]) := by
  intro Γ hv h hr _ _
  show CW Γ 0 0 0 [some (.ref a), some (.ref b)] [] [(a, eB v ml n)] _
  refine kw_gsC hv.2.1 h fw_J5_18 dJ5_inflateIfNeededFor_a7421_0 ?_
  refine kw_if_eq h 21 dJ5_inflateIfNeededFor_a7421_3 rfl (fun c => absurd c (by decide)) (fun _ => ?_)
  refine kw_alod h 0 dJ5_inflateIfNeededFor_a7421_6 rfl rfl ?_
  refine k_get h 0 lb_22 rfl (v := .int 0) rfl (nnJ5 _) dJ5_inflateIfNeededFor_a7421_7 ?_
  refine kw_alod h 1 dJ5_inflateIfNeededFor_a7421_10 rfl rfl ?_
  refine km_leafV (As := []) hv h rk0 (some (b, y, tl)) mi_J0_coder_7d493 (by decide) dJ5_inflateIfNeededFor_a7421_11 ml_J5_40 (Or.inr (Or.inl ⟨y, tl, rfl, rfl⟩)) (Nat.le_of_ble_eq_true rfl) rfl (Nat.le_of_ble_eq_true rfl) (ts_same hv.2.2.2) kt_coder (fun r q => ?_)
  subst q
  show CW Γ 0 0 14 _ (.int 0 :: .int 0 :: []) _ _
  refine kw_icmp_eq h 21 dJ5_inflateIfNeededFor_a7421_14 rfl (fun _ => ?_) (fun c => absurd rfl c)
  exact km_vret h hr dJ5_inflateIfNeededFor_a7421_21 ⟨rfl, rfl⟩
theorem kt_getBytes {o : Nat} (ho : o + tl.length ≤ m) (hm : m ≤ 10000) : KM cy ad (some (b, y, tl)) yJ0_getBytes_840e7 cJ0_getBytes_840e7 4 none (d + 1) 0 0 [.ref b, .ref v, .int (nI o), .int 0] [(v, eA cy m g)] (fun r w => r = none ∧ w = [(v, eA cy m (va_cpy (fun j => nI (tl.getD j 0)) g 0 o tl.length))]) := by
  intro Γ hv h hr _ _
  show CW Γ 0 0 0 [some (.ref b), some (.ref v), some (.int (nI o)), some (.int 0)] [] [(v, eA cy m g)] _
  refine kw_alod h 0 dJ0_getBytes_840e7_0 rfl rfl ?_
  refine km_leafV (As := []) hv h rk0 (some (b, y, tl)) mi_J0_coder_7d493 (by decide) dJ0_getBytes_840e7_1 ml_J0_335 (Or.inr (Or.inl ⟨y, tl, rfl, rfl⟩)) (Nat.le_of_ble_eq_true rfl) rfl (Nat.le_of_ble_eq_true rfl) (ts_same hv.2.2.2) kt_coder (fun r q => ?_)
  subst q
  show CW Γ 0 0 4 _ (.int 0 :: []) _ _
  refine kw_ilod h 3 dJ0_getBytes_840e7_4 rfl rfl ?_
  refine kw_icmp_ne h 28 dJ0_getBytes_840e7_5 rfl (fun c => absurd rfl c) (fun _ => ?_)
  refine kw_alod h 0 dJ0_getBytes_840e7_8 rfl rfl ?_
  refine km_txV hv h fw_J0_9 dJ0_getBytes_840e7_9 ?_
  refine kw_ic h dJ0_getBytes_840e7_12 (v := nI 0) rfl ?_
  refine kw_alod h 1 dJ0_getBytes_840e7_13 rfl rfl ?_
  refine kw_ilod h 2 dJ0_getBytes_840e7_14 rfl rfl ?_
  refine kw_ilod h 3 dJ0_getBytes_840e7_15 rfl rfl ?_
  refine kw_ishl h dJ0_getBytes_840e7_16 ?_
  rw [sb_shl0]
  refine kw_alod h 0 dJ0_getBytes_840e7_17 rfl rfl ?_
  refine km_txV hv h fw_J0_9 dJ0_getBytes_840e7_18 ?_
  refine km_txL hv h dJ0_getBytes_840e7_21 (fun hl => ?_)
  refine km_copyt hv h 0 rfl ml_J0_212 (sp := 0) (dp := o) (n := tl.length) (by omega) (by omega) (by omega) (Nat.le_of_ble_eq_true rfl) dJ0_getBytes_840e7_22 ?_
  refine kw_goto h 43 dJ0_getBytes_840e7_25 rfl ?_
  exact km_vret h hr dJ0_getBytes_840e7_43 ⟨rfl, rfl⟩
theorem kt_putString {o : Nat} (ho : o + tl.length ≤ m) (hm : m ≤ 10000) : KM cy ad (some (b, y, tl)) yJ5_putStringAt_47b60 cJ5_putStringAt_47b60 3 none (d + 2) 0 0 [.ref a, .int (nI o), .ref b] (wB cy a v m g ml n) (fun r w => r = none ∧ w = wB cy a v m (va_cpy (fun j => nI (tl.getD j 0)) g 0 o tl.length) ml n) := by
  intro Γ hv h hr _ _
  show CW Γ 0 0 0 [some (.ref a), some (.int (nI o)), some (.ref b)] [] (wB cy a v m g ml n) _
  refine kw_alod h 0 dJ5_putStringAt_47b60_0 rfl rfl ?_
  refine kw_alod h 2 dJ5_putStringAt_47b60_1 rfl rfl ?_
  refine km_callU (As := [.ref b]) (c0 := 0) (n0 := 0) (wc := [(a, eB v ml n)]) (wr := [(v, eA cy m g)]) hv h [0] [1] (some (b, y, tl)) rk0 cu_inflateIf (by decide +kernel) (by decide) dJ5_putStringAt_47b60_2 0 rfl (Nat.le_of_ble_eq_true rfl) rfl (Nat.le_of_ble_eq_true rfl) rfl rfl rfl rfl (by decide) (ts_same hv.2.2.2) kt_inflateIf (fun r w1 z => ?_)
  obtain ⟨rfl, rfl⟩ := z
  show CW Γ 0 0 5 _ [] [(v, eA cy m g), (a, eB v ml n)] _
  refine kw_alod h 2 dJ5_putStringAt_47b60_5 rfl rfl ?_
  refine kw_alod h 0 dJ5_putStringAt_47b60_6 rfl rfl ?_
  refine k_get h 1 lb_15 rfl (v := .ref v) rfl (nnJ5 _) dJ5_putStringAt_47b60_7 ?_
  refine kw_ilod h 1 dJ5_putStringAt_47b60_10 rfl rfl ?_
  refine kw_alod h 0 dJ5_putStringAt_47b60_11 rfl rfl ?_
  refine k_get h 1 lb_22 rfl (v := .int 0) rfl (nnJ5 _) dJ5_putStringAt_47b60_12 ?_
  refine km_callV (As := [.ref v, .int (nI o), .int 0]) (c0 := 0) (n0 := 0) (wc := [(v, eA cy m g)]) (wr := [(a, eB v ml n)]) hv h [0] [1] (some (b, y, tl)) rk0 mi_J0_getBytes_840e7 (by decide) dJ5_putStringAt_47b60_15 ml_J5_399 (Or.inr (Or.inl ⟨y, tl, rfl, rfl⟩)) (Nat.le_of_ble_eq_true rfl) rfl (Nat.le_of_ble_eq_true rfl) rfl rfl rfl rfl (by decide) (ts_same hv.2.2.2) (kt_getBytes ho hm) (fun r w1 z => ?_)
  obtain ⟨rfl, rfl⟩ := z
  exact km_vret h hr dJ5_putStringAt_47b60_18 ⟨rfl, rfl⟩
/-- what append makes of a builder -/
def apQ (cy : Nat → ClassId) (a m n : Nat) (g : Nat → Int32) (ml : Int32) (tl : List Nat) (r : Option Value) (w : va_W) : Prop := r = some (.ref a) ∧ ∃ v' g', w = wB cy a v' (sb_cap (n + tl.length) m) g' ml (n + tl.length) ∧ sb_Fit g' ∧ (∀ j, j < n → g' j = g j) ∧ ∀ j, j < tl.length → g' (n + j) = nI (tl.getD j 0)
theorem kt_append5 (hnm : n ≤ m) (hm : m ≤ 4300) (hf : sb_Fit g) (hq : n + tl.length ≤ 2100) (ht : ∀ j, j < tl.length → tl.getD j 0 < 128) : KM cy ad (some (b, y, tl)) yJ5_append_cf1ce cJ5_append_cf1ce 3 (some (.object "java/lang/AbstractStringBuilder")) (d + 4) 1 4300 [.ref a, .ref b] (wB cy a v m g ml n) (apQ cy a m n g ml tl) := by
  intro Γ hv h hr _ hR
  show CW Γ 0 0 0 [some (.ref a), some (.ref b), none] [] (wB cy a v m g ml n) _
  refine kw_alod h 1 dJ5_append_cf1ce_0 rfl rfl ?_
  refine kw_ifnn h 9 dJ5_append_cf1ce_1 rfl ?_
  refine kw_alod h 1 dJ5_append_cf1ce_9 rfl rfl ?_
  refine km_leafV (As := []) hv h rk0 (some (b, y, tl)) mi_J0_length_8abf5 (by decide) dJ5_append_cf1ce_10 ml_J5_32 (Or.inr (Or.inl ⟨y, tl, rfl, rfl⟩)) (Nat.le_of_ble_eq_true rfl) rfl (Nat.le_of_ble_eq_true rfl) (ts_same hv.2.2.2) kt_length (fun r q => ?_)
  subst q
  show CW Γ 0 0 13 _ (.int (nI tl.length) :: []) _ _
  refine kw_isto h 2 dJ5_append_cf1ce_13 rfl (by decide) rfl ?_
  refine kw_alod h 0 dJ5_append_cf1ce_14 rfl rfl ?_
  refine kw_alod h 0 dJ5_append_cf1ce_15 rfl rfl ?_
  refine k_get h 0 lb_79 rfl (v := .int (nI n)) rfl (nnJ5 _) dJ5_append_cf1ce_16 ?_
  refine kw_ilod h 2 dJ5_append_cf1ce_19 rfl rfl ?_
  refine kw_iadd h dJ5_append_cf1ce_20 ?_
  rw [nI_add]
  refine km_callU (As := [.int (nI (n + tl.length))]) (c0 := 1) (n0 := 4300) (wc := wB cy a v m g ml n) (wr := []) hv h [0, 1] [] none hR cu_ensure (by decide +kernel) (by decide) dJ5_append_cf1ce_21 0 rfl (Nat.le_of_ble_eq_true rfl) rfl (Nat.le_of_ble_eq_true rfl) rfl rfl rfl rfl (fun _ z => (List.not_mem_nil z).elim) ts_none (kt_ensure hm hq hf) (fun r w1 z => ?_)
  obtain ⟨rfl, v', g', rfl, z1, z2⟩ := z
  have hcl : n + tl.length ≤ sb_cap (n + tl.length) m ∧ sb_cap (n + tl.length) m ≤ 10000 := by
    refine ⟨sb_cap_ge _ _, ?_⟩
    unfold sb_cap
    split
    · omega
    · split <;> omega
  show CW Γ (0 + 1) (0 + 4300) 24 _ [] (wB cy a v' (sb_cap (n + tl.length) m) g' ml n) _
  refine kw_alod h 0 dJ5_append_cf1ce_24 rfl rfl ?_
  refine kw_alod h 0 dJ5_append_cf1ce_25 rfl rfl ?_
  refine k_get h 0 lb_79 rfl (v := .int (nI n)) rfl (nnJ5 _) dJ5_append_cf1ce_26 ?_
  refine kw_alod h 1 dJ5_append_cf1ce_29 rfl rfl ?_
  refine km_callU (As := [.int (nI n), .ref b]) (c0 := 0) (n0 := 0) (wc := wB cy a v' (sb_cap (n + tl.length) m) g' ml n) (wr := []) hv h [0, 1] [] (some (b, y, tl)) hR cu_putString (by decide +kernel) (by decide) dJ5_append_cf1ce_30 0 rfl (Nat.le_of_ble_eq_true rfl) rfl (Nat.le_of_ble_eq_true rfl) rfl rfl rfl rfl (fun _ z => (List.not_mem_nil z).elim) (ts_same hv.2.2.2) (kt_putString hcl.1 hcl.2) (fun r w1 z => ?_)
  obtain ⟨rfl, rfl⟩ := z
  show CW Γ (0 + 1) (0 + 4300) 33 _ [] (wB cy a v' (sb_cap (n + tl.length) m) (va_cpy (fun j => nI (tl.getD j 0)) g' 0 n tl.length) ml n) _
  refine kw_alod h 0 dJ5_append_cf1ce_33 rfl rfl ?_
  refine kw_dup h dJ5_append_cf1ce_34 rfl ?_
  refine k_get h 0 lb_79 rfl (v := .int (nI n)) rfl (nnJ5 _) dJ5_append_cf1ce_35 ?_
  refine kw_ilod h 2 dJ5_append_cf1ce_38 rfl rfl ?_
  refine kw_iadd h dJ5_append_cf1ce_39 ?_
  rw [nI_add]
  refine k_put h 0 fb_79 rfl rfl rfl (Nat.le_of_ble_eq_true rfl) (nnJ5 _) dJ5_append_cf1ce_40 ?_
  show CW Γ (0 + 1) (0 + 4300) 43 _ [] (wB cy a v' (sb_cap (n + tl.length) m) (va_cpy (fun j => nI (tl.getD j 0)) g' 0 n tl.length) ml (n + tl.length)) _
  refine kw_alod h 0 dJ5_append_cf1ce_43 rfl rfl ?_
  refine km_aret h hr (Or.inl ⟨_, rfl⟩) dJ5_append_cf1ce_44 ⟨rfl, v', _, rfl, fun j => ?_, fun j hj => ?_, fun j hj => ?_⟩
  · unfold va_cpy
    split
    · exact fit_lt (ht _ (by omega))
    · exact z1 j
  · rw [pk_cpy_out (by omega)]
    exact z2 j (by omega)
  · rw [pk_cpy_in (by omega) (by omega), show 0 + (n + j - n) = j by omega]
theorem kt_append4 (hnm : n ≤ m) (hm : m ≤ 4300) (hf : sb_Fit g) (hq : n + tl.length ≤ 2100) (ht : ∀ j, j < tl.length → tl.getD j 0 < 128) : KM cy ad (some (b, y, tl)) yJ4_append_15ec4 cJ4_append_15ec4 2 (some (.object "java/lang/StringBuilder")) (d + 5) 1 4300 [.ref a, .ref b] (wB cy a v m g ml n) (apQ cy a m n g ml tl) := by
  intro Γ hv h hr _ hR
  show CW Γ 0 0 0 [some (.ref a), some (.ref b)] [] (wB cy a v m g ml n) _
  refine kw_alod h 0 dJ4_append_15ec4_0 rfl rfl ?_
  refine kw_alod h 1 dJ4_append_15ec4_1 rfl rfl ?_
  refine km_callSU (As := [.ref b]) (c0 := 1) (n0 := 4300) (wc := wB cy a v m g ml n) (wr := []) hv h [0, 1] [] (some (b, y, tl)) hR cd_yJ5_append_cf1ce (fun w hw => ?_) ⟨by decide, (by show _ = some 1; decide +kernel)⟩ (by decide) (by decide +kernel) dJ4_append_15ec4_2 0 rfl (Nat.le_of_ble_eq_true rfl) rfl (Nat.le_of_ble_eq_true rfl) rfl rfl rfl rfl (fun _ z => (List.not_mem_nil z).elim) (ts_same hv.2.2.2) (kt_append5 hnm hm hf hq ht) (fun r w1 z => ?_)
  · simp only [List.mem_cons, List.not_mem_nil, or_false] at hw
    rcases hw with rfl | rfl | rfl | rfl | rfl
    · exact ml_J4_29
    · exact bw_in (tb_6 (List.mem_of_getElem? (i := 167) rfl)) rfl
    · exact bw_in (tb_4 (List.mem_of_getElem? (i := 107) rfl)) rfl
    · exact bw_in (tb_4 (List.mem_of_getElem? (i := 113) rfl)) rfl
    · exact ini_J5
  obtain ⟨rfl, z⟩ := z
  show CW Γ (0 + 1) (0 + 4300) 5 _ (.ref a :: []) w1 _
  refine kw_pop h dJ4_append_15ec4_5 rfl ?_
  refine kw_alod h 0 dJ4_append_15ec4_6 rfl rfl ?_
  exact km_aret h hr (Or.inl ⟨_, rfl⟩) dJ4_append_15ec4_7 ⟨rfl, z⟩
end KTB
