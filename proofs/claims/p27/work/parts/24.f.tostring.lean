/-! A builder of text: making one, and its text -/
abbrev eS (y : Nat) : va_E := .inr (9, [.ref y, .int 0, .int 0, .int 0])
abbrev wT (cy : Nat → ClassId) (b y : Nat) (l : List Nat) (g : Nat → Int32) : va_W := [(b, eS y), (y, eA cy l.length g)]
theorem mk_J5_init : MIk yJ5_init_d00df cJ5_init_d00df 2 1 := ⟨bw_in (tb_4 (List.mem_of_getElem? (i := 85) rfl)) rfl, bw_in (tb_4 (List.mem_of_getElem? (i := 84) rfl)) rfl, ini_J5, by decide +kernel, rfl, ⟨by decide +kernel, by decide +kernel, by decide +kernel⟩, by decide⟩
theorem mk_J4_init : MIk yJ4_init_da8c8 cJ4_init_da8c8 1 0 := ⟨bw_in (tb_4 (List.mem_of_getElem? (i := 82) rfl)) rfl, bw_in (tb_4 (List.mem_of_getElem? (i := 81) rfl)) rfl, ini_J4, by decide +kernel, rfl, ⟨by decide +kernel, by decide +kernel, by decide +kernel⟩, by decide⟩
theorem mk_J0_031 : MIk yJ0_init_031fb cJ0_init_031fb 3 2 := ⟨bw_in (tb_4 (List.mem_of_getElem? (i := 235) rfl)) rfl, bw_in (tb_4 (List.mem_of_getElem? (i := 234) rfl)) rfl, ini_J0, by decide +kernel, rfl, ⟨by decide +kernel, by decide +kernel, by decide +kernel⟩, by decide⟩
theorem mk_J0_812 : MIk yJ0_init_81219 cJ0_init_81219 2 1 := ⟨bw_in (tb_5 (List.mem_of_getElem? (i := 32) rfl)) rfl, bw_in (tb_5 (List.mem_of_getElem? (i := 31) rfl)) rfl, ini_J0, by decide +kernel, rfl, ⟨by decide +kernel, by decide +kernel, by decide +kernel⟩, by decide⟩
theorem mk_J0_db4 : MIk yJ0_init_db425 cJ0_init_db425 5 2 := ⟨bw_in (tb_5 (List.mem_of_getElem? (i := 35) rfl)) rfl, bw_in (tb_5 (List.mem_of_getElem? (i := 34) rfl)) rfl, ini_J0, by decide +kernel, rfl, ⟨by decide +kernel, by decide +kernel, by decide +kernel⟩, by decide⟩
theorem ol_J5 : Cond.methodLink RJ5 3 Lib.objectInit ∈ bigW := bw_in (tb_4 (List.mem_of_getElem? (i := 86) rfl)) rfl
theorem ol_J0 : Cond.methodLink RJ0 1 Lib.objectInit ∈ bigW := bw_in (tb_4 (List.mem_of_getElem? (i := 236) rfl)) rfl
theorem ff_J0_9 : FPF RJ0 9 9 0 (.array .byte) := ⟨_, _, _, tyJ0, rfl, by decide, inW_J0, Or.inl fw_J0_9, tyJ0_ok, nmJ0, ⟨rfl, rfl⟩, tyJ0_ok 0 (by decide)⟩
theorem ff_J0_15 : FPF RJ0 15 9 1 .byte := ⟨_, _, _, tyJ0, rfl, by decide, inW_J0, Or.inl fw_J0_15, tyJ0_ok, nmJ0, ⟨rfl, rfl⟩, tyJ0_ok 1 (by decide)⟩
theorem nw_J4_18 : NWk RJ4 18 9 4 [.null, .int 0, .int 0, .int 0] := ⟨_, _, tyJ0, rfl, inW_J0, tyJ0_ok, bw_in (tb_5 (List.mem_of_getElem? (i := 29) rfl)) rfl, bw_in (tb_4 (List.mem_of_getElem? (i := 223) rfl)) rfl, ini_J0, fun j hj => by rcases (show j = 0 ∨ j = 1 ∨ j = 2 ∨ j = 3 by omega) with rfl | rfl | rfl | rfl <;> rfl⟩
theorem nw_J1_1 : NWk RJ1 1 9 4 [.null, .int 0, .int 0, .int 0] := ⟨_, _, tyJ0, rfl, inW_J0, tyJ0_ok, bw_in (tb_4 (List.mem_of_getElem? (i := 222) rfl)) rfl, bw_in (tb_4 (List.mem_of_getElem? (i := 223) rfl)) rfl, ini_J0, fun j hj => by rcases (show j = 0 ∨ j = 1 ∨ j = 2 ∨ j = 3 by omega) with rfl | rfl | rfl | rfl <;> rfl⟩
theorem nw_L_47 : NWk RL 47 10 4 [.null, .int 0, .int 0, .int 0] := ⟨_, _, tyJ4, rfl, inW_J4, tyJ4_ok, bw_in (tb_4 (List.mem_of_getElem? (i := 78) rfl)) rfl, bw_in (tb_4 (List.mem_of_getElem? (i := 79) rfl)) rfl, ini_J4, fun j hj => by rcases (show j = 0 ∨ j = 1 ∨ j = 2 ∨ j = 3 by omega) with rfl | rfl | rfl | rfl <;> rfl⟩
theorem cu_getValue : CUk RJ0 RJ4 yJ5_getValue_6d5f1.cls 552 yJ5_getValue_6d5f1 yJ5_getValue_6d5f1 cJ5_getValue_6d5f1 1 (some (.array .byte)) 0 := cu_pub ml_J0_552 (bw_in (tb_5 (List.mem_of_getElem? (i := 38) rfl)) rfl) (bw_in (tb_5 (List.mem_of_getElem? (i := 39) rfl)) rfl) (bw_in (tb_5 (List.mem_of_getElem? (i := 37) rfl)) rfl) ini_J5 (bw_in (tb_5 (List.mem_of_getElem? (i := 40) rfl)) rfl) ⟨by decide +kernel, by decide +kernel, by decide +kernel⟩ (by decide)
theorem cu_isLatin1 : CUk RJ0 RJ4 yJ5_isLatin1_aae02.cls 1047 yJ5_isLatin1_aae02 yJ5_isLatin1_aae02 cJ5_isLatin1_aae02 1 (some .boolean) 0 := cu_pub ml_J0_1047 (bw_in (tb_4 (List.mem_of_getElem? (i := 150) rfl)) rfl) se_SB_isLatin1 im_ASB_isLatin1 ini_J5 (bw_in (tb_4 (List.mem_of_getElem? (i := 152) rfl)) rfl) ⟨by decide +kernel, by decide +kernel, by decide +kernel⟩ (by decide)
theorem cd_ASB_length : Cond.code yJ5_length_8abf5 cJ5_length_8abf5 1 (some .int) ∈ bigW := bw_in (tb_5 (List.mem_of_getElem? (i := 48) rfl)) rfl
theorem cd_SB_length : Cond.code yJ4_length_8abf5 cJ4_length_8abf5 1 (some .int) ∈ bigW := bw_in (tb_5 (List.mem_of_getElem? (i := 46) rfl)) rfl
theorem cu_length : CUk RJ0 RJ4 RJ5 549 yJ5_length_8abf5 yJ4_length_8abf5 cJ4_length_8abf5 1 (some .int) 0 := by
  intro R s args d c0 n0 hts hNc hf hlo
  refine va_cwO 0 hts (fun w hw => ?_) rfl rfl rfl (b0 := cJ5_length_8abf5) (m0 := 1) (r0 := some .int) cd_ASB_length ⟨by decide +kernel, by decide +kernel, by decide +kernel⟩ ⟨hf, by show 8 + (1 + 11) + 64 * d ≤ R.locals; omega⟩
  have hmem : w ∈ bigW := by
    rcases List.mem_append.mp hw with h1 | h1
    · simp only [List.mem_cons, List.not_mem_nil, or_false] at h1
      rcases h1 with rfl | rfl | rfl | rfl | rfl | rfl
      · exact ml_J0_549
      · exact bw_in (tb_5 (List.mem_of_getElem? (i := 43) rfl)) rfl
      · exact bw_in (tb_5 (List.mem_of_getElem? (i := 42) rfl)) rfl
      · exact bw_in (tb_5 (List.mem_of_getElem? (i := 44) rfl)) rfl
      · exact bw_in (tb_5 (List.mem_of_getElem? (i := 45) rfl)) rfl
      · exact ini_J4
    · rcases List.mem_cons.mp h1 with rfl | h1
      · exact cd_SB_length
      · exact h1
  exact ⟨hmem, bw_good hmem⟩
section KTS
variable {ad : Nat → Nat} {tx : TXo} {cy : Nat → ClassId} {d : Nat} {a v m n : Nat} {g : Nat → Int32} {ml : Int32}
theorem kt_init5 : KM cy ad tx yJ5_init_d00df cJ5_init_d00df 2 none (d + 1) 1 16 [.ref a, .int (nI 16)] [(a, .inr (10, [.null, .int 0, .int 0, .int 0]))] (fun r w => r = none ∧ ∃ v, w = wB cy a v 16 (fun _ => nI 0) 0 0) := by
  intro Γ hv h hr hi hR
  show CW Γ 0 0 0 [some (.ref a), some (.int (nI 16))] [] [(a, .inr (10, [.null, .int 0, .int 0, .int 0]))] _
  refine kw_alod h 0 dJ5_init_d00df_0 rfl rfl ?_
  refine k_obj h ol_J5 oi_m oi_c dJ5_init_d00df_1 (by decide) ?_
  refine kw_gsC hv.2.1 h fw_J5_18 dJ5_init_d00df_4 ?_
  refine kw_if_eq h 25 dJ5_init_d00df_7 rfl (fun c => absurd c (by decide)) (fun _ => ?_)
  refine kw_alod h 0 dJ5_init_d00df_10 rfl rfl ?_
  refine kw_ilod h 1 dJ5_init_d00df_11 rfl rfl ?_
  refine k_na h hv.1 (at_ := .byte) (ty := .byte) (N := 16) (a0 := (16, .inl (fun _ => nI 0))) 1 (rk_le hR (by decide) (by decide)) ac_byte rfl (fun _ => rfl) (fun _ z => by cases z) (fun _ => rfl) (by decide) (by decide) (by decide) dJ5_init_d00df_12 (fun v => ?_)
  show CW Γ (0 + 1) (0 + 16) 14 _ _ [(a, .inr (10, [.null, .int 0, .int 0, .int 0])), (v, eA cy 16 (fun _ => nI 0))] _
  refine k_put h 0 fb_15 rfl rfl rfl (Nat.le_of_ble_eq_true rfl) (nnJ5 _) dJ5_init_d00df_14 ?_
  show CW Γ (0 + 1) (0 + 16) 17 _ _ [(a, .inr (10, [.ref v, .int 0, .int 0, .int 0])), (v, eA cy 16 (fun _ => nI 0))] _
  refine kw_alod h 0 dJ5_init_d00df_17 rfl rfl ?_
  refine kw_ic h dJ5_init_d00df_18 (v := 0) rfl ?_
  refine k_put h 0 fb_22 rfl rfl rfl (Nat.le_of_ble_eq_true rfl) (nnJ5 _) dJ5_init_d00df_19 ?_
  show CW Γ (0 + 1) (0 + 16) 22 _ _ (wB cy a v 16 (fun _ => nI 0) 0 0) _
  refine kw_goto h 38 dJ5_init_d00df_22 rfl ?_
  exact km_vret h hr dJ5_init_d00df_38 ⟨rfl, v, rfl⟩
theorem kt_init4 : KM cy ad tx yJ4_init_da8c8 cJ4_init_da8c8 1 none (d + 2) 1 16 [.ref a] [(a, .inr (10, [.null, .int 0, .int 0, .int 0]))] (fun r w => r = none ∧ ∃ v, w = wB cy a v 16 (fun _ => nI 0) 0 0) := by
  intro Γ hv h hr hi hR
  show CW Γ 0 0 0 [some (.ref a)] [] [(a, .inr (10, [.null, .int 0, .int 0, .int 0]))] _
  refine kw_alod h 0 dJ4_init_da8c8_0 rfl rfl ?_
  refine kw_bp h dJ4_init_da8c8_1 (v := nI 16) rfl ?_
  refine km_callC (As := [.int (nI 16)]) (c0 := 1) (n0 := 16) (wc := [(a, .inr (10, [.null, .int 0, .int 0, .int 0]))]) (wr := []) hv h [0] [] none hR mk_J5_init dJ4_init_da8c8_3 ml_J4_1 (Nat.le_of_ble_eq_true rfl) rfl (Nat.le_of_ble_eq_true rfl) rfl rfl rfl rfl (fun _ z => (List.not_mem_nil z).elim) ts_none kt_init5 (fun r w1 z => ?_)
  obtain ⟨rfl, v, rfl⟩ := z
  exact km_vret h hr dJ4_init_da8c8_6 ⟨rfl, v, rfl⟩
theorem kt_len5 : KM cy ad tx yJ5_length_8abf5 cJ5_length_8abf5 1 (some .int) d 0 0 [.ref a] [(a, eB v ml n)] (fun r w => r = some (.int (nI n)) ∧ w = [(a, eB v ml n)]) := by
  intro Γ hv h hr _ _
  show CW Γ 0 0 0 [some (.ref a)] [] [(a, eB v ml n)] _
  refine kw_alod h 0 dJ5_length_8abf5_0 rfl rfl ?_
  refine k_get h 0 lb_79 rfl (v := .int (nI n)) rfl (nnJ5 _) dJ5_length_8abf5_1 ?_
  exact km_iret h hr dJ5_length_8abf5_4 ⟨rfl, rfl⟩
theorem kt_len4 : KM cy ad tx yJ4_length_8abf5 cJ4_length_8abf5 1 (some .int) (d + 1) 0 0 [.ref a] [(a, eB v ml n)] (fun r w => r = some (.int (nI n)) ∧ w = [(a, eB v ml n)]) := by
  intro Γ hv h hr _ _
  show CW Γ 0 0 0 [some (.ref a)] [] [(a, eB v ml n)] _
  refine kw_alod h 0 dJ4_length_8abf5_0 rfl rfl ?_
  refine km_callSU (As := []) (c0 := 0) (n0 := 0) (wc := [(a, eB v ml n)]) (wr := []) hv h [0] [] none rk0 cd_ASB_length (fun w hw => ?_) ⟨by decide, (by show _ = some 0; decide +kernel)⟩ (by decide) (by decide +kernel) dJ4_length_8abf5_1 0 rfl (Nat.le_of_ble_eq_true rfl) rfl (Nat.le_of_ble_eq_true rfl) rfl rfl rfl rfl (fun _ z => (List.not_mem_nil z).elim) ts_none kt_len5 (fun r w1 z => ?_)
  · simp only [List.mem_cons, List.not_mem_nil, or_false] at hw
    rcases hw with rfl | rfl | rfl | rfl | rfl
    · exact ml_J4_343
    · exact bw_in (tb_5 (List.mem_of_getElem? (i := 43) rfl)) rfl
    · exact bw_in (tb_4 (List.mem_of_getElem? (i := 107) rfl)) rfl
    · exact bw_in (tb_5 (List.mem_of_getElem? (i := 42) rfl)) rfl
    · exact ini_J5
  obtain ⟨rfl, rfl⟩ := z
  exact km_iret h hr dJ4_length_8abf5_4 ⟨rfl, rfl⟩
theorem kt_getValue : KM cy ad tx yJ5_getValue_6d5f1 cJ5_getValue_6d5f1 1 (some (.array .byte)) d 0 0 [.ref a] [(a, eB v ml n)] (fun r w => r = some (.ref v) ∧ w = [(a, eB v ml n)]) := by
  intro Γ hv h hr _ _
  show CW Γ 0 0 0 [some (.ref a)] [] [(a, eB v ml n)] _
  refine kw_alod h 0 dJ5_getValue_6d5f1_0 rfl rfl ?_
  refine k_get h 0 lb_15 rfl (v := .ref v) rfl (nnJ5 _) dJ5_getValue_6d5f1_1 ?_
  exact km_aret h hr (Or.inr ⟨_, rfl⟩) dJ5_getValue_6d5f1_4 ⟨rfl, rfl⟩
theorem kt_lat5 : KM cy ad tx yJ5_isLatin1_aae02 cJ5_isLatin1_aae02 1 (some .boolean) d 0 0 [.ref a] [(a, eB v ml n)] (fun r w => r = some (.int (nI 1)) ∧ w = [(a, eB v ml n)]) := by
  intro Γ hv h hr _ _
  show CW Γ 0 0 0 [some (.ref a)] [] [(a, eB v ml n)] _
  refine kw_gsC hv.2.1 h fw_J5_18 dJ5_isLatin1_aae02_0 ?_
  refine kw_if_eq h 17 dJ5_isLatin1_aae02_3 rfl (fun c => absurd c (by decide)) (fun _ => ?_)
  refine kw_alod h 0 dJ5_isLatin1_aae02_6 rfl rfl ?_
  refine k_get h 0 lb_22 rfl (v := .int 0) rfl (nnJ5 _) dJ5_isLatin1_aae02_7 ?_
  refine kw_if_ne h 17 dJ5_isLatin1_aae02_10 rfl (fun c => absurd rfl c) (fun _ => ?_)
  refine kw_ic h dJ5_isLatin1_aae02_13 (v := nI 1) rfl ?_
  refine kw_goto h 18 dJ5_isLatin1_aae02_14 rfl ?_
  exact km_zret h hr dJ5_isLatin1_aae02_18 (by first | rfl | exact nar_b2i _) ⟨rfl, rfl⟩
theorem kt_checkLength {f t : Nat} (h1 : f ≤ t) (h2 : t < 2 ^ 31) : KM cy ad tx yJ7_checkLength_df160 cJ7_checkLength_df160 2 none d 0 0 [.int (nI f), .int (nI t)] [] (lfQ fun r => r = none) := by
  intro Γ hv h hr _ _
  show CW Γ 0 0 0 [some (.int (nI f)), some (.int (nI t))] [] [] _
  refine kw_ilod h 1 dJ7_checkLength_df160_0 rfl rfl ?_
  refine kw_ilod h 0 dJ7_checkLength_df160_1 rfl rfl ?_
  refine kw_icmp_ge h 37 dJ7_checkLength_df160_2 rfl (fun _ => ?_) (fun c => absurd (nI_le h1 h2) c)
  exact km_vret h hr dJ7_checkLength_df160_37 ⟨rfl, rfl⟩
/-- a piece of a row of bytes -/
theorem kt_cRB {t : Nat} (ht : t ≤ m) (hm : m ≤ 10000) (hf : sb_Fit g) : KM cy ad tx yJ7_copyOfRangeByte_39247 cJ7_copyOfRangeByte_39247 5 (some (.array .byte)) (d + 1) 1 t [.ref v, .int (nI 0), .int (nI t)] [(v, eA cy m g)] (fun r w => ∃ v' g', r = some (.ref v') ∧ w = [(v, eA cy m g), (v', eA cy t g')] ∧ sb_Fit g' ∧ ∀ j, j < t → g' j = g j) := by
  intro Γ hv h hr _ hR
  show CW Γ 0 0 0 [some (.ref v), some (.int (nI 0)), some (.int (nI t)), none, none] [] [(v, eA cy m g)] _
  refine kw_ilod h 1 dJ7_copyOfRangeByte_39247_0 rfl rfl ?_
  refine kw_ilod h 2 dJ7_copyOfRangeByte_39247_1 rfl rfl ?_
  refine km_leafS (As := [.int (nI 0), .int (nI t)]) hv h rk0 none mi_J7_checkLength_df160 (by decide) dJ7_copyOfRangeByte_39247_2 ml_J7_343 (Nat.le_of_ble_eq_true rfl) rfl (Nat.le_of_ble_eq_true rfl) ts_none (kt_checkLength (by omega) (by omega)) (fun r z => ?_)
  subst z
  show CW Γ 0 0 5 _ [] _ _
  refine kw_ilod h 2 dJ7_copyOfRangeByte_39247_5 rfl rfl ?_
  refine kw_ilod h 1 dJ7_copyOfRangeByte_39247_6 rfl rfl ?_
  refine kw_isub h dJ7_copyOfRangeByte_39247_7 ?_
  rw [pk_sub (show 0 ≤ t by omega), Nat.sub_zero]
  refine kw_isto h 3 dJ7_copyOfRangeByte_39247_8 rfl (by decide) rfl ?_
  refine kw_ilod h 3 dJ7_copyOfRangeByte_39247_9 rfl rfl ?_
  refine k_na h hv.1 (at_ := .byte) (ty := .byte) (N := t) (a0 := (t, .inl (fun _ => nI 0))) 1 (rk_le hR (by omega) (by omega)) ac_byte rfl (fun _ => rfl) (fun _ z => by cases z) (fun _ => rfl) (nI_pos (by omega)) (nI_clamp (by omega)) (by show t * 1 ≤ _; omega) dJ7_copyOfRangeByte_39247_10 (fun a' => ?_)
  refine kw_astow h 4 dJ7_copyOfRangeByte_39247_12 (by decide) rfl ?_
  refine kw_alod h 0 dJ7_copyOfRangeByte_39247_14 rfl rfl ?_
  refine kw_ilod h 1 dJ7_copyOfRangeByte_39247_15 rfl rfl ?_
  refine kw_alodw h 4 dJ7_copyOfRangeByte_39247_16 rfl ?_
  refine kw_ic h dJ7_copyOfRangeByte_39247_18 (v := nI 0) rfl ?_
  refine kw_alod h 0 dJ7_copyOfRangeByte_39247_19 rfl rfl ?_
  refine kw_blen h hv.1 0 1 (fun _ => rfl) rfl dJ7_copyOfRangeByte_39247_20 ?_
  refine kw_ilod h 1 dJ7_copyOfRangeByte_39247_21 rfl rfl ?_
  refine kw_isub h dJ7_copyOfRangeByte_39247_22 ?_
  rw [pk_sub (show 0 ≤ m by omega), Nat.sub_zero]
  refine kw_ilod h 3 dJ7_copyOfRangeByte_39247_23 rfl rfl ?_
  refine kw_mmin h dJ7_copyOfRangeByte_39247_24 ml_J7_304 (rk_le hR (by omega) (by omega)) (Nat.le_of_ble_eq_true rfl) ?_
  rw [n_min (by omega) (by omega), show (if t < m then t else m) = t by split <;> omega]
  refine km_copyi hv h 0 1 rfl rfl ml_J7_150 hf (sp := 0) (dp := 0) (n := t) (by omega) (by omega) (by omega) (by omega) (Nat.le_of_ble_eq_true rfl) dJ7_copyOfRangeByte_39247_27 ?_
  refine kw_alodw h 4 dJ7_copyOfRangeByte_39247_30 rfl ?_
  rw [show (0 + t : Nat) = t by omega]
  exact km_aret h hr (Or.inr ⟨_, rfl⟩) dJ7_copyOfRangeByte_39247_32 ⟨a', _, rfl, rfl, sb_fitC hf sb_fit0, fun j hj => sb_cpy0 hj⟩
theorem kt_cR (hn : n ≤ m) (hm : m ≤ 10000) (hf : sb_Fit g) : KM cy ad tx yJ7_copyOfRange_39247 cJ7_copyOfRange_39247 3 (some (.array .byte)) (d + 2) 1 n [.ref v, .int (nI 0), .int (nI n)] [(v, eA cy m g)] (fun r w => ∃ v' g', r = some (.ref v') ∧ w = [(v, eA cy m g), (v', eA cy n g')] ∧ sb_Fit g' ∧ ∀ j, j < n → g' j = g j) := by
  intro Γ hv h hr _ hR
  show CW Γ 0 0 0 [some (.ref v), some (.int (nI 0)), some (.int (nI n))] [] [(v, eA cy m g)] _
  refine kw_ilod h 1 dJ7_copyOfRange_39247_0 rfl rfl ?_
  refine kw_if_ne h 10 dJ7_copyOfRange_39247_1 rfl (fun c => absurd rfl c) (fun _ => ?_)
  refine kw_ilod h 2 dJ7_copyOfRange_39247_4 rfl rfl ?_
  refine kw_alod h 0 dJ7_copyOfRange_39247_5 rfl rfl ?_
  refine kw_blen h hv.1 0 1 (fun _ => rfl) rfl dJ7_copyOfRange_39247_6 ?_
  refine kw_icmp_eq h 17 dJ7_copyOfRange_39247_7 rfl (fun c => ?_) (fun _ => ?_)
  · obtain rfl : n = m := (nI_eq (by omega) (by omega)).mp c
    refine kw_alod h 0 dJ7_copyOfRange_39247_17 rfl rfl ?_
    refine km_clone hv h (rk_le hR (by omega) (by omega)) 0 rfl hf (bw_in (tb_4 (List.mem_of_getElem? (i := 139) rfl)) rfl) (bw_in (tb_4 (List.mem_of_getElem? (i := 140) rfl)) rfl) (bw_in (tb_4 (List.mem_of_getElem? (i := 141) rfl)) rfl) (bw_in (tb_4 (List.mem_of_getElem? (i := 142) rfl)) rfl) (bw_in (tb_4 (List.mem_of_getElem? (i := 143) rfl)) rfl) (Nat.le_of_ble_eq_true rfl) dJ7_copyOfRange_39247_18 (fun v' => ?_)
    refine km_castB hv h 1 rfl (bw_in (tb_4 (List.mem_of_getElem? (i := 145) rfl)) rfl) dJ7_copyOfRange_39247_21 ?_
    rw [show (0 + n : Nat) = n by omega]
    exact km_aret h hr (Or.inr ⟨_, rfl⟩) dJ7_copyOfRange_39247_24 ⟨v', g, rfl, rfl, hf, fun _ _ => rfl⟩
  · refine kw_alod h 0 dJ7_copyOfRange_39247_10 rfl rfl ?_
    refine kw_ilod h 1 dJ7_copyOfRange_39247_11 rfl rfl ?_
    refine kw_ilod h 2 dJ7_copyOfRange_39247_12 rfl rfl ?_
    refine km_callS (As := [.ref v, .int (nI 0), .int (nI n)]) (c0 := 1) (n0 := n) (wc := [(v, eA cy m g)]) (wr := []) hv h [0] [] none (rk_le hR (by omega) (by omega)) mi_J7_copyOfRangeByte_39247 (by decide) dJ7_copyOfRange_39247_13 ml_J7_339 (Nat.le_of_ble_eq_true rfl) rfl (Nat.le_of_ble_eq_true rfl) rfl rfl rfl rfl (fun _ z => (List.not_mem_nil z).elim) ts_none (kt_cRB hn hm hf) (fun r w1 z => ?_)
    obtain ⟨v', g', rfl, rfl, z1, z2⟩ := z
    rw [show (0 + n : Nat) = n by omega]
    exact km_aret h hr (Or.inr ⟨_, rfl⟩) dJ7_copyOfRange_39247_16 ⟨v', g', rfl, rfl, z1, z2⟩
/-- the text of a builder -/
theorem kt_initV {b : Nat} (hn : n ≤ m) (hm : m ≤ 10000) (hf : sb_Fit g) : KM cy ad tx yJ0_init_db425 cJ0_init_db425 5 none (d + 3) 1 n [.ref b, .ref a, .null] [(b, .inr (9, [.null, .int 0, .int 0, .int 0])), (a, eB v ml n), (v, eA cy m g)] (fun r w => r = none ∧ ∃ v' g', w = [(b, eS v'), (v', eA cy n g')] ∧ sb_Fit g' ∧ ∀ j, j < n → g' j = g j) := by
  intro Γ hv h hr hi hR
  have hi := hi rfl
  show CW Γ 0 0 0 [some (.ref b), some (.ref a), some .null, none, none] [] [(b, .inr (9, [.null, .int 0, .int 0, .int 0])), (a, eB v ml n), (v, eA cy m g)] _
  refine kw_alod h 0 dJ0_init_db425_0 rfl rfl ?_
  refine k_obj h ol_J0 oi_m oi_c dJ0_init_db425_1 (by decide) ?_
  refine kw_alod h 1 dJ0_init_db425_4 rfl rfl ?_
  refine km_callU (As := []) (c0 := 0) (n0 := 0) (wc := [(a, eB v ml n)]) (wr := [(b, .inr (9, [.null, .int 0, .int 0, .int 0])), (v, eA cy m g)]) hv h [1] [0, 2] none rk0 cu_getValue (by decide +kernel) (by decide) dJ0_init_db425_5 1 rfl (Nat.le_of_ble_eq_true rfl) rfl (Nat.le_of_ble_eq_true rfl) rfl rfl rfl rfl (by decide) ts_none kt_getValue (fun r w1 z => ?_)
  obtain ⟨rfl, rfl⟩ := z
  show CW Γ 0 0 8 _ [.ref v] [(b, .inr (9, [.null, .int 0, .int 0, .int 0])), (v, eA cy m g), (a, eB v ml n)] _
  refine kw_asto h 3 dJ0_init_db425_8 rfl (by decide) rfl ?_
  refine kw_alod h 1 dJ0_init_db425_9 rfl rfl ?_
  refine km_callU (As := []) (c0 := 0) (n0 := 0) (wc := [(a, eB v ml n)]) (wr := [(b, .inr (9, [.null, .int 0, .int 0, .int 0])), (v, eA cy m g)]) hv h [2] [0, 1] none rk0 cu_length (by decide +kernel) (by decide) dJ0_init_db425_10 2 rfl (Nat.le_of_ble_eq_true rfl) rfl (Nat.le_of_ble_eq_true rfl) rfl rfl rfl rfl (by decide) ts_none kt_len4 (fun r w1 z => ?_)
  obtain ⟨rfl, rfl⟩ := z
  show CW Γ 0 0 13 _ [.int (nI n)] [(b, .inr (9, [.null, .int 0, .int 0, .int 0])), (v, eA cy m g), (a, eB v ml n)] _
  refine kw_istow h 4 dJ0_init_db425_13 (by decide) rfl ?_
  refine kw_alod h 1 dJ0_init_db425_15 rfl rfl ?_
  refine km_callU (As := []) (c0 := 0) (n0 := 0) (wc := [(a, eB v ml n)]) (wr := [(b, .inr (9, [.null, .int 0, .int 0, .int 0])), (v, eA cy m g)]) hv h [2] [0, 1] none rk0 cu_isLatin1 (by decide +kernel) (by decide) dJ0_init_db425_16 2 rfl (Nat.le_of_ble_eq_true rfl) rfl (Nat.le_of_ble_eq_true rfl) rfl rfl rfl rfl (by decide) ts_none kt_lat5 (fun r w1 z => ?_)
  obtain ⟨rfl, rfl⟩ := z
  show CW Γ 0 0 19 _ [.int (nI 1)] [(b, .inr (9, [.null, .int 0, .int 0, .int 0])), (v, eA cy m g), (a, eB v ml n)] _
  refine kw_if_eq h 41 dJ0_init_db425_19 rfl (fun c => absurd c (by decide)) (fun _ => ?_)
  refine kw_alod h 0 dJ0_init_db425_22 rfl rfl ?_
  refine kw_ic h dJ0_init_db425_23 (v := 0) rfl ?_
  refine k_putF h hi 0 ff_J0_15 rfl rfl rfl (Nat.le_of_ble_eq_true rfl) (nnJ0 _) dJ0_init_db425_24 ?_
  show CW Γ 0 0 27 _ [] [(b, .inr (9, [.null, .int 0, .int 0, .int 0])), (v, eA cy m g), (a, eB v ml n)] _
  refine kw_alod h 0 dJ0_init_db425_27 rfl rfl ?_
  refine kw_alod h 3 dJ0_init_db425_28 rfl rfl ?_
  refine kw_ic h dJ0_init_db425_29 (v := nI 0) rfl ?_
  refine kw_ilodw h 4 dJ0_init_db425_30 rfl ?_
  refine km_callS (As := [.ref v, .int (nI 0), .int (nI n)]) (c0 := 1) (n0 := n) (wc := [(v, eA cy m g)]) (wr := [(b, .inr (9, [.null, .int 0, .int 0, .int 0])), (a, eB v ml n)]) hv h [1] [0, 2] none (rk_le hR (by omega) (by omega)) mi_J7_copyOfRange_39247 (by decide) dJ0_init_db425_32 ml_J0_54 (Nat.le_of_ble_eq_true rfl) rfl (Nat.le_of_ble_eq_true rfl) rfl rfl rfl rfl (by decide) ts_none (kt_cR hn hm hf) (fun r w1 z => ?_)
  obtain ⟨v', g', rfl, rfl, z1, z2⟩ := z
  show CW Γ (0 + 1) (0 + n) 35 _ (.ref v' :: .ref b :: []) [(b, .inr (9, [.null, .int 0, .int 0, .int 0])), (a, eB v ml n), (v, eA cy m g), (v', eA cy n g')] _
  refine k_putF h hi 0 ff_J0_9 rfl rfl rfl (Nat.le_of_ble_eq_true rfl) (nnJ0 _) dJ0_init_db425_35 ?_
  show CW Γ (0 + 1) (0 + n) 38 _ [] [(b, eS v'), (a, eB v ml n), (v, eA cy m g), (v', eA cy n g')] _
  refine kw_goto h 97 dJ0_init_db425_38 rfl ?_
  refine k_drop [0, 3] (ws' := [(b, eS v'), (v', eA cy n g')]) rfl rfl ?_
  rw [show (0 + n : Nat) = n by omega]
  exact km_vret h hr dJ0_init_db425_97 ⟨rfl, v', g', rfl, z1, z2⟩
theorem kt_initS {b : Nat} (hn : n ≤ m) (hm : m ≤ 10000) (hf : sb_Fit g) : KM cy ad tx yJ0_init_81219 cJ0_init_81219 2 none (d + 4) 1 n [.ref b, .ref a] [(b, .inr (9, [.null, .int 0, .int 0, .int 0])), (a, eB v ml n), (v, eA cy m g)] (fun r w => r = none ∧ ∃ v' g', w = [(b, eS v'), (v', eA cy n g')] ∧ sb_Fit g' ∧ ∀ j, j < n → g' j = g j) := by
  intro Γ hv h hr hi hR
  show CW Γ 0 0 0 [some (.ref b), some (.ref a)] [] [(b, .inr (9, [.null, .int 0, .int 0, .int 0])), (a, eB v ml n), (v, eA cy m g)] _
  refine kw_alod h 0 dJ0_init_81219_0 rfl rfl ?_
  refine kw_alod h 1 dJ0_init_81219_1 rfl rfl ?_
  refine kw_null h dJ0_init_81219_2 ?_
  refine km_callC (As := [.ref a, .null]) (c0 := 1) (n0 := n) (wc := [(b, .inr (9, [.null, .int 0, .int 0, .int 0])), (a, eB v ml n), (v, eA cy m g)]) (wr := []) hv h [0, 1, 2] [] none (rk_le hR (by omega) (by omega)) mk_J0_db4 dJ0_init_81219_3 ml_J0_489 (Nat.le_of_ble_eq_true rfl) rfl (Nat.le_of_ble_eq_true rfl) rfl rfl rfl rfl (fun _ z => (List.not_mem_nil z).elim) ts_none (kt_initV hn hm hf) (fun r w1 z => ?_)
  obtain ⟨rfl, z⟩ := z
  rw [show (0 + n : Nat) = n by omega]
  exact km_vret h hr dJ0_init_81219_6 ⟨rfl, z⟩
theorem kt_toString (hn : n ≤ m) (hm : m ≤ 10000) (hn2 : n ≤ 2100) (hf : sb_Fit g) : KM cy ad tx yJ4_toString_0e30d cJ4_toString_0e30d 1 (some (.object "java/lang/String")) (d + 5) 2 2104 [.ref a] (wB cy a v m g ml n) (fun r w => ∃ b v' g', r = some (.ref b) ∧ w = [(b, eS v'), (v', eA cy n g')] ∧ sb_Fit g' ∧ ∀ j, j < n → g' j = g j) := by
  intro Γ hv h hr _ hR
  show CW Γ 0 0 0 [some (.ref a)] [] (wB cy a v m g ml n) _
  refine k_new h (rk_le hR (by omega) (by omega)) nw_J4_18 dJ4_toString_0e30d_0 (fun b => ?_)
  refine kw_dup h dJ4_toString_0e30d_3 rfl ?_
  refine kw_alod h 0 dJ4_toString_0e30d_4 rfl rfl ?_
  refine km_callC (As := [.ref a]) (c0 := 1) (n0 := n) (wc := [(b, .inr (9, [.null, .int 0, .int 0, .int 0])), (a, eB v ml n), (v, eA cy m g)]) (wr := []) hv h [2, 0, 1] [] none (rk_le hR (by omega) (by omega)) mk_J0_812 dJ4_toString_0e30d_5 ml_J4_137 (Nat.le_of_ble_eq_true rfl) rfl (Nat.le_of_ble_eq_true rfl) rfl rfl rfl rfl (fun _ z => (List.not_mem_nil z).elim) ts_none (kt_initS hn hm hf) (fun r w1 z => ?_)
  obtain ⟨rfl, v', g', rfl, z1, z2⟩ := z
  refine k_pad (kc' := 2) (kn' := 2104) (by omega) (by omega) ?_
  exact km_aret h hr (Or.inl ⟨_, rfl⟩) dJ4_toString_0e30d_8 ⟨b, v', g', rfl, rfl, z1, z2⟩
end KTS
