/-! Numbers as texts; the law's numbers -/
section KTN
variable {ad : Nat → Nat} {tx : TXo} {cy : Nat → ClassId} {d : Nat} {b y : Nat} {tl : List Nat}
theorem sb_fitT (hc : ∀ j, j < tl.length → tl.getD j 0 < 128) : sb_Fit (fun j => nI (tl.getD j 0)) := fun j => by
  rcases Nat.lt_or_ge j tl.length with q | q
  · exact fit_lt (hc j q)
  · show fits .byte (.int (nI (tl.getD j 0))) = true
    rw [List.getD_eq_getElem?_getD, List.getElem?_eq_none q]
    exact fit_lt (by decide)
theorem kt_cRBt {f t : Nat} (h1 : f ≤ t) (h2 : t ≤ tl.length) (hl : tl.length ≤ 10000) (hc : ∀ j, j < tl.length → tl.getD j 0 < 128) : KM cy ad (some (b, y, tl)) yJ7_copyOfRangeByte_39247 cJ7_copyOfRangeByte_39247 5 (some (.array .byte)) (d + 1) 1 (t - f) [.ref y, .int (nI f), .int (nI t)] [] (fun r w => ∃ v' g', r = some (.ref v') ∧ w = [(v', eA cy (t - f) g')] ∧ ∀ j, j < t - f → g' j = nI (tl.getD (f + j) 0)) := by
  intro Γ hv h hr _ hR
  show CW Γ 0 0 0 [some (.ref y), some (.int (nI f)), some (.int (nI t)), none, none] [] [] _
  refine kw_ilod h 1 dJ7_copyOfRangeByte_39247_0 rfl rfl ?_
  refine kw_ilod h 2 dJ7_copyOfRangeByte_39247_1 rfl rfl ?_
  refine km_leafS (As := [.int (nI f), .int (nI t)]) hv h rk0 none mi_J7_checkLength_df160 (by decide) dJ7_copyOfRangeByte_39247_2 ml_J7_343 (Nat.le_of_ble_eq_true rfl) rfl (Nat.le_of_ble_eq_true rfl) ts_none (kt_checkLength (by omega) (by omega)) (fun r z => ?_)
  subst z
  show CW Γ 0 0 5 _ [] _ _
  refine kw_ilod h 2 dJ7_copyOfRangeByte_39247_5 rfl rfl ?_
  refine kw_ilod h 1 dJ7_copyOfRangeByte_39247_6 rfl rfl ?_
  refine kw_isub h dJ7_copyOfRangeByte_39247_7 ?_
  rw [pk_sub h1]
  refine kw_isto h 3 dJ7_copyOfRangeByte_39247_8 rfl (by decide) rfl ?_
  refine kw_ilod h 3 dJ7_copyOfRangeByte_39247_9 rfl rfl ?_
  refine k_na h hv.1 (at_ := .byte) (ty := .byte) (N := t - f) (a0 := (t - f, .inl (fun _ => nI 0))) 1 (rk_le hR (by omega) (by omega)) ac_byte rfl (fun _ => rfl) (fun _ z => by cases z) (fun _ => rfl) (nI_pos (by omega)) (nI_clamp (by omega)) (by show (t - f) * 1 ≤ _; omega) dJ7_copyOfRangeByte_39247_10 (fun a' => ?_)
  refine kw_astow h 4 dJ7_copyOfRangeByte_39247_12 (by decide) rfl ?_
  refine kw_alod h 0 dJ7_copyOfRangeByte_39247_14 rfl rfl ?_
  refine kw_ilod h 1 dJ7_copyOfRangeByte_39247_15 rfl rfl ?_
  refine kw_alodw h 4 dJ7_copyOfRangeByte_39247_16 rfl ?_
  refine kw_ic h dJ7_copyOfRangeByte_39247_18 (v := nI 0) rfl ?_
  refine kw_alod h 0 dJ7_copyOfRangeByte_39247_19 rfl rfl ?_
  refine km_txL hv h dJ7_copyOfRangeByte_39247_20 (fun _ => ?_)
  refine kw_ilod h 1 dJ7_copyOfRangeByte_39247_21 rfl rfl ?_
  refine kw_isub h dJ7_copyOfRangeByte_39247_22 ?_
  rw [pk_sub (show f ≤ tl.length by omega)]
  refine kw_ilod h 3 dJ7_copyOfRangeByte_39247_23 rfl rfl ?_
  refine kw_mmin h dJ7_copyOfRangeByte_39247_24 ml_J7_304 (rk_le hR (by omega) (by omega)) (Nat.le_of_ble_eq_true rfl) ?_
  rw [n_min (by omega) (by omega), show (if t - f < tl.length - f then t - f else tl.length - f) = t - f by split <;> omega]
  refine km_copyt hv h 0 rfl ml_J7_150 (sp := f) (dp := 0) (n := t - f) (by omega) (by omega) (by omega) (Nat.le_of_ble_eq_true rfl) dJ7_copyOfRangeByte_39247_27 ?_
  refine kw_alodw h 4 dJ7_copyOfRangeByte_39247_30 rfl ?_
  rw [show (0 + (t - f) : Nat) = t - f by omega]
  exact km_aret h hr (Or.inr ⟨_, rfl⟩) dJ7_copyOfRangeByte_39247_32 ⟨a', _, rfl, rfl, fun j hj => by rw [pk_cpy_in (by omega) (by omega), Nat.sub_zero]⟩
theorem kt_cRt {f t : Nat} (h1 : f ≤ t) (h2 : t ≤ tl.length) (hl : tl.length ≤ 10000) (hc : ∀ j, j < tl.length → tl.getD j 0 < 128) (h0 : f = 0 → t < tl.length) : KM cy ad (some (b, y, tl)) yJ7_copyOfRange_39247 cJ7_copyOfRange_39247 3 (some (.array .byte)) (d + 2) 1 (t - f) [.ref y, .int (nI f), .int (nI t)] [] (fun r w => ∃ v' g', r = some (.ref v') ∧ w = [(v', eA cy (t - f) g')] ∧ ∀ j, j < t - f → g' j = nI (tl.getD (f + j) 0)) := by
  intro Γ hv h hr _ hR
  show CW Γ 0 0 0 [some (.ref y), some (.int (nI f)), some (.int (nI t))] [] [] _
  have tl10 : CW Γ 0 0 10 [some (.ref y), some (.int (nI f)), some (.int (nI t))] [] [] (FnM Γ (fun r w => ∃ v' g', r = some (.ref v') ∧ w = [(v', eA cy (t - f) g')] ∧ ∀ j, j < t - f → g' j = nI (tl.getD (f + j) 0)) 1 (t - f)) := by
    refine kw_alod h 0 dJ7_copyOfRange_39247_10 rfl rfl ?_
    refine kw_ilod h 1 dJ7_copyOfRange_39247_11 rfl rfl ?_
    refine kw_ilod h 2 dJ7_copyOfRange_39247_12 rfl rfl ?_
    refine km_callS (As := [.ref y, .int (nI f), .int (nI t)]) (c0 := 1) (n0 := t - f) (wc := []) (wr := []) hv h [] [] (some (b, y, tl)) (rk_le hR (by omega) (by omega)) mi_J7_copyOfRangeByte_39247 (by decide) dJ7_copyOfRange_39247_13 ml_J7_339 (Nat.le_of_ble_eq_true rfl) rfl (Nat.le_of_ble_eq_true rfl) rfl rfl rfl rfl (fun _ z => (List.not_mem_nil z).elim) (ts_same hv.2.2.2) (kt_cRBt h1 h2 hl hc) (fun r w1 z => ?_)
    obtain ⟨v', g', rfl, rfl, z1⟩ := z
    rw [show (0 + (t - f) : Nat) = t - f by omega]
    exact km_aret h hr (Or.inr ⟨_, rfl⟩) dJ7_copyOfRange_39247_16 ⟨v', g', rfl, rfl, z1⟩
  refine kw_ilod h 1 dJ7_copyOfRange_39247_0 rfl rfl ?_
  refine kw_if_ne h 10 dJ7_copyOfRange_39247_1 rfl (fun _ => tl10) (fun c0 => ?_)
  have c1 := h0 ((nI_eq (a := f) (b := 0) (by omega) (by decide)).mp c0)
  refine kw_ilod h 2 dJ7_copyOfRange_39247_4 rfl rfl ?_
  refine kw_alod h 0 dJ7_copyOfRange_39247_5 rfl rfl ?_
  refine km_txL hv h dJ7_copyOfRange_39247_6 (fun _ => ?_)
  refine kw_icmp_eq h 17 dJ7_copyOfRange_39247_7 rfl (fun c => absurd ((nI_eq (by omega) (by omega)).mp c) (by omega)) (fun _ => tl10)
theorem kt_init0 {v : Nat} : KM cy ad tx yJ0_init_031fb cJ0_init_031fb 3 none (d + 1) 0 0 [.ref b, .ref v, .int 0] [(b, .inr (9, [.null, .int 0, .int 0, .int 0]))] (fun r w => r = none ∧ w = [(b, eS v)]) := by
  intro Γ hv h hr hi hR
  have hi := hi rfl
  show CW Γ 0 0 0 [some (.ref b), some (.ref v), some (.int 0)] [] [(b, .inr (9, [.null, .int 0, .int 0, .int 0]))] _
  refine kw_alod h 0 dJ0_init_031fb_0 rfl rfl ?_
  refine k_obj h ol_J0 oi_m oi_c dJ0_init_031fb_1 (by decide) ?_
  refine kw_alod h 0 dJ0_init_031fb_4 rfl rfl ?_
  refine kw_alod h 1 dJ0_init_031fb_5 rfl rfl ?_
  refine k_putF h hi 0 ff_J0_9 rfl rfl rfl (Nat.le_of_ble_eq_true rfl) (nnJ0 _) dJ0_init_031fb_6 ?_
  show CW Γ 0 0 9 _ [] [(b, eS v)] _
  refine kw_alod h 0 dJ0_init_031fb_9 rfl rfl ?_
  refine kw_ilod h 2 dJ0_init_031fb_10 rfl rfl ?_
  refine k_putF h hi 0 ff_J0_15 rfl rfl rfl (Nat.le_of_ble_eq_true rfl) (nnJ0 _) dJ0_init_031fb_11 ?_
  exact km_vret h hr dJ0_init_031fb_14 ⟨rfl, rfl⟩
theorem kt_newString {i : Nat} (hi : i + 1 ≤ tl.length) (hi0 : 1 < tl.length) (hl : tl.length ≤ 10000) (hc : ∀ j, j < tl.length → tl.getD j 0 < 128) : KM cy ad (some (b, y, tl)) yJ1_newString_b4f7a cJ1_newString_b4f7a 3 (some (.object "java/lang/String")) (d + 3) 2 5 [.ref y, .int (nI i), .int (nI 1)] [] (fun r w => ∃ b' v' g', r = some (.ref b') ∧ w = wT cy b' v' [tl.getD i 0] g' ∧ LT [tl.getD i 0] g') := by
  intro Γ hv h hr _ hR
  show CW Γ 0 0 0 [some (.ref y), some (.int (nI i)), some (.int (nI 1))] [] [] _
  refine kw_ilod h 2 dJ1_newString_b4f7a_0 rfl rfl ?_
  refine kw_if_ne h 7 dJ1_newString_b4f7a_1 rfl (fun _ => ?_) (fun c => absurd c (by decide))
  refine k_new h (rk_le hR (by omega) (by omega)) nw_J1_1 dJ1_newString_b4f7a_7 (fun b' => ?_)
  refine kw_dup h dJ1_newString_b4f7a_10 rfl ?_
  refine kw_alod h 0 dJ1_newString_b4f7a_11 rfl rfl ?_
  refine kw_ilod h 1 dJ1_newString_b4f7a_12 rfl rfl ?_
  refine kw_ilod h 1 dJ1_newString_b4f7a_13 rfl rfl ?_
  refine kw_ilod h 2 dJ1_newString_b4f7a_14 rfl rfl ?_
  refine kw_iadd h dJ1_newString_b4f7a_15 ?_
  rw [nI_add]
  refine km_callS (As := [.ref y, .int (nI i), .int (nI (i + 1))]) (c0 := 1) (n0 := i + 1 - i) (wc := []) (wr := [(b', .inr (9, [.null, .int 0, .int 0, .int 0]))]) hv h [] [0] (some (b, y, tl)) (rk_le hR (by omega) (by omega)) mi_J7_copyOfRange_39247 (by decide) dJ1_newString_b4f7a_16 ml_J1_232 (Nat.le_of_ble_eq_true rfl) rfl (Nat.le_of_ble_eq_true rfl) rfl rfl rfl rfl (by decide) (ts_same hv.2.2.2) (kt_cRt (by omega) hi hl hc (fun _ => by omega)) (fun r w1 z => ?_)
  obtain ⟨v', g', rfl, rfl, z1⟩ := z
  have e1 : i + 1 - i = 1 := by omega
  rw [e1] at z1 ⊢
  show CW Γ _ _ 19 _ (.ref v' :: .ref b' :: .ref b' :: []) [(b', .inr (9, [.null, .int 0, .int 0, .int 0])), (v', eA cy 1 g')] _
  refine kw_ic h dJ1_newString_b4f7a_19 (v := 0) rfl ?_
  refine km_callC (As := [.ref v', .int 0]) (c0 := 0) (n0 := 0) (wc := [(b', .inr (9, [.null, .int 0, .int 0, .int 0]))]) (wr := [(v', eA cy 1 g')]) hv h [0] [1] none (rk_le hR (by omega) (by omega)) mk_J0_031 dJ1_newString_b4f7a_20 ml_J1_112 (Nat.le_of_ble_eq_true rfl) rfl (Nat.le_of_ble_eq_true rfl) rfl rfl rfl rfl (by decide) ts_none kt_init0 (fun r w1 z => ?_)
  obtain ⟨rfl, rfl⟩ := z
  refine k_drop [1, 0] (ws' := [(b', eS v'), (v', eA cy 1 g')]) rfl rfl ?_
  refine k_pad (kc' := 2) (kn' := 5) (by omega) (by omega) ?_
  refine km_aret h hr (Or.inl ⟨_, rfl⟩) dJ1_newString_b4f7a_23 ⟨b', v', g', rfl, rfl, by simp, fun j hj => ?_⟩
  have : j = 0 := by simpa using hj
  subst this
  exact ⟨z1 0 (by omega), hc i (by omega)⟩
theorem kt_cFT {f t n : Nat} (h1 : f ≤ t) (h2 : t ≤ n) (hn : n < 2 ^ 31) {v : Value} (hvv : v = .null ∨ ∃ a, v = .ref a) : KM cy ad tx yJ3_checkFromToIndex_8c36e cJ3_checkFromToIndex_8c36e 4 (some .int) d 0 0 [.int (nI f), .int (nI t), .int (nI n), v] [] (lfQ fun r => r = some (.int (nI f))) := by
  intro Γ hv h hr _ _
  show CW Γ 0 0 0 (ent [.int (nI f), .int (nI t), .int (nI n), v] 4) [] [] _
  have e : ent [.int (nI f), .int (nI t), .int (nI n), v] 4 = [some (.int (nI f)), some (.int (nI t)), some (.int (nI n)), some v] := by rcases hvv with rfl | ⟨a, rfl⟩ <;> rfl
  rw [e]
  refine kw_ilod h 0 dJ3_checkFromToIndex_8c36e_0 rfl rfl ?_
  refine kw_if_lt h 14 dJ3_checkFromToIndex_8c36e_1 rfl (fun c => absurd c (nI_pos (by omega))) (fun _ => ?_)
  refine kw_ilod h 0 dJ3_checkFromToIndex_8c36e_4 rfl rfl ?_
  refine kw_ilod h 1 dJ3_checkFromToIndex_8c36e_5 rfl rfl ?_
  refine kw_icmp_gt h 14 dJ3_checkFromToIndex_8c36e_6 rfl (fun c => absurd (nI_le h1 (by omega)) (Int32.not_le.mpr c)) (fun _ => ?_)
  refine kw_ilod h 1 dJ3_checkFromToIndex_8c36e_9 rfl rfl ?_
  refine kw_ilod h 2 dJ3_checkFromToIndex_8c36e_10 rfl rfl ?_
  refine kw_icmp_le h 22 dJ3_checkFromToIndex_8c36e_11 rfl (fun _ => ?_) (fun c => absurd (nI_le h2 hn) c)
  refine kw_ilod h 0 dJ3_checkFromToIndex_8c36e_22 rfl rfl ?_
  exact km_iret h hr dJ3_checkFromToIndex_8c36e_23 ⟨rfl, rfl⟩
theorem kt_cBE {f t n : Nat} (h1 : f ≤ t) (h2 : t ≤ n) (hn : n < 2 ^ 31) : KM cy ad tx yJ0_checkBoundsBeginEnd_23922 cJ0_checkBoundsBeginEnd_23922 3 none (d + 1) 0 0 [.int (nI f), .int (nI t), .int (nI n)] [] (lfQ fun r => r = none) := by
  intro Γ hv h hr _ _
  show CW Γ 0 0 0 [some (.int (nI f)), some (.int (nI t)), some (.int (nI n))] [] [] _
  refine kw_ilod h 0 dJ0_checkBoundsBeginEnd_23922_0 rfl rfl ?_
  refine kw_ilod h 1 dJ0_checkBoundsBeginEnd_23922_1 rfl rfl ?_
  refine kw_ilod h 2 dJ0_checkBoundsBeginEnd_23922_2 rfl rfl ?_
  refine kw_gsF hv.2.1 h fw_J0_1053 dJ0_checkBoundsBeginEnd_23922_3 (fun v hvv => ?_)
  refine km_leafS (As := [.int (nI f), .int (nI t), .int (nI n), v]) hv h rk0 none mi_J3_checkFromToIndex_8c36e (by decide) dJ0_checkBoundsBeginEnd_23922_6 ml_J0_1062 (by rcases hvv with rfl | ⟨a, rfl⟩ <;> exact (Nat.le_of_ble_eq_true rfl)) rfl (Nat.le_of_ble_eq_true rfl) ts_none (kt_cFT h1 h2 hn hvv) (fun r q => ?_)
  subst q
  show CW Γ 0 0 9 _ (.int (nI f) :: []) _ _
  refine kw_pop h dJ0_checkBoundsBeginEnd_23922_9 rfl ?_
  exact km_vret h hr dJ0_checkBoundsBeginEnd_23922_10 ⟨rfl, rfl⟩
theorem kt_substring {i : Nat} (hi : i + 1 ≤ tl.length) (hi0 : 1 < tl.length) (hl : tl.length ≤ 10000) (hc : ∀ j, j < tl.length → tl.getD j 0 < 128) : KM cy ad (some (b, y, tl)) yJ0_substring_37a41 cJ0_substring_37a41 5 (some (.object "java/lang/String")) (d + 4) 2 5 [.ref b, .int (nI i), .int (nI (i + 1))] [] (fun r w => ∃ b' v' g', r = some (.ref b') ∧ w = wT cy b' v' [tl.getD i 0] g' ∧ LT [tl.getD i 0] g') := by
  intro Γ hv h hr _ hR
  show CW Γ 0 0 0 [some (.ref b), some (.int (nI i)), some (.int (nI (i + 1))), none, none] [] [] _
  have tl22 : ∀ lv, lv = [some (.ref b), some (.int (nI i)), some (.int (nI (i + 1))), some (.int (nI tl.length)), none] → CW Γ 0 0 22 lv [] [] (FnM Γ (fun r w => ∃ b' v' g', r = some (.ref b') ∧ w = wT cy b' v' [tl.getD i 0] g' ∧ LT [tl.getD i 0] g') 2 5) := by
    rintro lv rfl
    refine kw_ilod h 2 dJ0_substring_37a41_22 rfl rfl ?_
    refine kw_ilod h 1 dJ0_substring_37a41_23 rfl rfl ?_
    refine kw_isub h dJ0_substring_37a41_24 ?_
    rw [pk_sub (show i ≤ i + 1 by omega), show i + 1 - i = 1 by omega]
    refine kw_istow h 4 dJ0_substring_37a41_25 (by decide) rfl ?_
    refine kw_alod h 0 dJ0_substring_37a41_27 rfl rfl ?_
    refine km_leafV (As := []) hv h rk0 (some (b, y, tl)) mi_J0_isLatin1_aae02 (by decide) dJ0_substring_37a41_28 ml_J0_492 (Or.inr (Or.inl ⟨y, tl, rfl, rfl⟩)) (Nat.le_of_ble_eq_true rfl) rfl (Nat.le_of_ble_eq_true rfl) (ts_same hv.2.2.2) kt_isLatin1 (fun r q => ?_)
    subst q
    show CW Γ 0 0 31 _ (.int (nI 1) :: []) _ _
    refine kw_if_eq h 47 dJ0_substring_37a41_31 rfl (fun c => absurd c (by decide)) (fun _ => ?_)
    refine kw_alod h 0 dJ0_substring_37a41_34 rfl rfl ?_
    refine km_txV hv h fw_J0_9 dJ0_substring_37a41_35 ?_
    refine kw_ilod h 1 dJ0_substring_37a41_38 rfl rfl ?_
    refine kw_ilodw h 4 dJ0_substring_37a41_39 rfl ?_
    refine km_callS (As := [.ref y, .int (nI i), .int (nI 1)]) (c0 := 2) (n0 := 5) (wc := []) (wr := []) hv h [] [] (some (b, y, tl)) hR mi_J1_newString_b4f7a (by decide) dJ0_substring_37a41_41 ml_J0_685 (Nat.le_of_ble_eq_true rfl) rfl (Nat.le_of_ble_eq_true rfl) rfl rfl rfl rfl (fun _ z => (List.not_mem_nil z).elim) (ts_same hv.2.2.2) (kt_newString hi hi0 hl hc) (fun r w1 z => ?_)
    obtain ⟨b', v', g', rfl, rfl, z1⟩ := z
    show CW Γ (0 + 2) (0 + 5) 44 _ (.ref b' :: []) _ _
    refine kw_goto h 57 dJ0_substring_37a41_44 rfl ?_
    exact km_aret h hr (Or.inl ⟨_, rfl⟩) dJ0_substring_37a41_57 ⟨b', v', g', rfl, rfl, z1⟩
  refine kw_alod h 0 dJ0_substring_37a41_0 rfl rfl ?_
  refine km_leafV (As := []) hv h rk0 (some (b, y, tl)) mi_J0_length_8abf5 (by decide) dJ0_substring_37a41_1 ml_J0_505 (Or.inr (Or.inl ⟨y, tl, rfl, rfl⟩)) (Nat.le_of_ble_eq_true rfl) rfl (Nat.le_of_ble_eq_true rfl) (ts_same hv.2.2.2) kt_length (fun r q => ?_)
  subst q
  show CW Γ 0 0 4 _ (.int (nI tl.length) :: []) _ _
  refine kw_isto h 3 dJ0_substring_37a41_4 rfl (by decide) rfl ?_
  refine kw_ilod h 1 dJ0_substring_37a41_5 rfl rfl ?_
  refine kw_ilod h 2 dJ0_substring_37a41_6 rfl rfl ?_
  refine kw_ilod h 3 dJ0_substring_37a41_7 rfl rfl ?_
  refine km_leafS (As := [.int (nI i), .int (nI (i + 1)), .int (nI tl.length)]) hv h rk0 none mi_J0_checkBoundsBeginEnd_23922 (by decide) dJ0_substring_37a41_8 ml_J0_521 (Nat.le_of_ble_eq_true rfl) rfl (Nat.le_of_ble_eq_true rfl) ts_none (kt_cBE (by omega) (by omega) (by omega)) (fun r q => ?_)
  subst q
  show CW Γ 0 0 11 _ [] _ _
  refine kw_ilod h 1 dJ0_substring_37a41_11 rfl rfl ?_
  refine kw_if_ne h 22 dJ0_substring_37a41_12 rfl (fun _ => tl22 _ rfl) (fun c0 => ?_)
  have c1 := (nI_eq (a := i) (b := 0) (by omega) (by decide)).mp c0
  refine kw_ilod h 2 dJ0_substring_37a41_15 rfl rfl ?_
  refine kw_ilod h 3 dJ0_substring_37a41_16 rfl rfl ?_
  exact kw_icmp_ne h 22 dJ0_substring_37a41_17 rfl (fun _ => tl22 _ rfl) (fun c => absurd ((nI_eq (by omega) (by omega)).mp c) (by omega))
end KTN
