/-! A builder of text: the library's methods on its world -/
theorem dJ8_newLength_cabcc_0 : decode cJ8_newLength_cabcc 0 = .ok (.iload_n 0, 1) := by decide +kernel
theorem dJ8_newLength_cabcc_1 : decode cJ8_newLength_cabcc 1 = .ok (.iload_n 1, 1) := by decide +kernel
theorem dJ8_newLength_cabcc_2 : decode cJ8_newLength_cabcc 2 = .ok (.iload_n 2, 1) := by decide +kernel
theorem dJ8_newLength_cabcc_3 : decode cJ8_newLength_cabcc 3 = .ok (.invokestatic 194, 3) := by decide +kernel
theorem dJ8_newLength_cabcc_6 : decode cJ8_newLength_cabcc 6 = .ok (.iadd, 1) := by decide +kernel
theorem dJ8_newLength_cabcc_7 : decode cJ8_newLength_cabcc 7 = .ok (.istore_n 3, 1) := by decide +kernel
theorem dJ8_newLength_cabcc_8 : decode cJ8_newLength_cabcc 8 = .ok (.iconst 0, 1) := by decide +kernel
theorem dJ8_newLength_cabcc_9 : decode cJ8_newLength_cabcc 9 = .ok (.iload_n 3, 1) := by decide +kernel
theorem dJ8_newLength_cabcc_10 : decode cJ8_newLength_cabcc 10 = .ok (.if_icmp .ge 11, 3) := by decide +kernel
theorem dJ8_newLength_cabcc_13 : decode cJ8_newLength_cabcc 13 = .ok (.iload_n 3, 1) := by decide +kernel
theorem dJ8_newLength_cabcc_14 : decode cJ8_newLength_cabcc 14 = .ok (.ldc 200, 2) := by decide +kernel
theorem dJ8_newLength_cabcc_16 : decode cJ8_newLength_cabcc 16 = .ok (.if_icmp .gt 5, 3) := by decide +kernel
theorem dJ8_newLength_cabcc_19 : decode cJ8_newLength_cabcc 19 = .ok (.iload_n 3, 1) := by decide +kernel
theorem dJ8_newLength_cabcc_20 : decode cJ8_newLength_cabcc 20 = .ok (.ireturn, 1) := by decide +kernel
theorem lc_J8_200 : Cond.constant RJ8 200 2147483639 ∈ bigW := bw_in (tb_4 (List.mem_of_getElem? (i := 131) rfl)) rfl
theorem lc_J5_39 : Cond.constant RJ5 39 2147483647 ∈ bigW := bw_in (tb_4 (List.mem_of_getElem? (i := 135) rfl)) rfl
theorem map_range_all {α : Type} (w : List α) : (List.range w.length).map (fun i => w[i]?) = w.map some := by
  apply List.ext_getElem?
  intro i
  rw [List.getElem?_map, List.getElem?_map]
  by_cases h : i < w.length
  · rw [List.getElem?_range h, Option.map_some, List.getElem?_eq_getElem h]
    rfl
  · rw [List.getElem?_eq_none (by simp; omega), List.getElem?_eq_none (by omega)]
    rfl
section KML
variable {own : String} {cc : ByteArray} {nL d kc kn pc : Nat} {Γ : Cz} {lv : List (Option Value)} {st : List Value} {ws : va_W} {Φ : State → Prop} {ad : Nat → Nat} {tx : TXo} {cy0 : Nat → ClassId}
/-- fewer cells -/
theorem k_drop {ws' : va_W} (is : List Nat) (hs : is.map (fun i => ws[i]?) = ws'.map some) (hnd : va_nd is = true) (k : CW Γ kc kn pc lv st ws' Φ) : CW Γ kc kn pc lv st ws Φ := by
  obtain ⟨p, l, e, R, s, m, args, below, meth, c, dC, dI, cy, A⟩ := Γ
  intro H locs ls hP hD hS hl
  refine k H locs ls (fun k q hk => ?_) (hD.sub (ws' := ws') is hnd hs) hS hl
  have h1 : (is.map (fun i => ws[i]?))[k]? = some (some q) := by rw [hs, List.getElem?_map, hk]; rfl
  rw [List.getElem?_map] at h1
  obtain ⟨i, i1, i2⟩ := Option.map_eq_some_iff.mp h1
  exact hP i q i2
def lfQ (Q : Option Value → Prop) : Option Value → va_W → Prop := fun r w => w = [] ∧ Q r
theorem km_leafS (hv : VM ad tx cy0 Γ) (h : Vk own cc nL (d + 1) Γ) (hrk : Rk Γ kc kn) {y : MethodName} {cb : ByteArray} {mL idx : Nat} {rt : Option FieldType} {As : List Value} {stk : List Value} {Q : Option Value → Prop} (tx' : TXo) (hm : MIs y cb mL rt As.length) (hvi : y.name ≠ "<init>") (hd : decode cc pc = .ok (.invokestatic idx, 3)) (hl0 : Cond.methodLink own idx y ∈ bigW) (hent : (lg_sl As).length ≤ mL) (hstk : stk = As.reverse ++ st) (hcat : (st.map fun v => v.category).sum ≤ 8)
    (hT : TSrc Γ ws [] tx') (hc : KM cy0 ad tx' y cb mL rt d 0 0 As [] (lfQ Q)) (k : ∀ r, Q r → CW Γ kc kn (pc + 3) lv (r.toList ++ st) ws Φ) : CW Γ kc kn pc lv stk ws Φ :=
  km_callS (c0 := 0) (n0 := 0) (wc := []) (wr := ws) hv h [] (List.range ws.length) tx' hrk hm hvi hd hl0 hent hstk hcat rfl rfl (map_range_all ws) (nd_range _) (fun _ _ q => (List.not_mem_nil q).elim) hT hc (fun r w1 q => by
    obtain ⟨rfl, q⟩ := q
    rw [List.append_nil]
    exact k r q)
theorem km_leafV (hv : VM ad tx cy0 Γ) (h : Vk own cc nL (d + 1) Γ) (hrk : Rk Γ kc kn) {y : MethodName} {cb : ByteArray} {mL idx b : Nat} {rt : Option FieldType} {As : List Value} {stk : List Value} {Q : Option Value → Prop} (tx' : TXo) (hm : MIv y cb mL rt As.length) (hvi : y.name ≠ "<init>") (hd : decode cc pc = .ok (.invokevirtual idx, 3)) (hl0 : Cond.methodLink own idx y ∈ bigW)
    (hrecv : (∃ (q0 ci : Nat) (fs : List Value) (qc : vw_C), vwCl[ci]? = some qc ∧ qc.1 = y.cls ∧ ws[q0]? = some (b, .inr (ci, fs))) ∨ (∃ yy l, tx = some (b, yy, l) ∧ y.cls = "java/lang/String") ∨ (∃ i, i < 48 ∧ b = ad (200 + i) ∧ y.cls = "java/lang/String"))
    (hent : (lg_sl (.ref b :: As)).length ≤ mL) (hstk : stk = As.reverse ++ .ref b :: st) (hcat : (st.map fun v => v.category).sum ≤ 8)
    (hT : TSrc Γ ws [] tx') (hc : KM cy0 ad tx' y cb mL rt d 0 0 (.ref b :: As) [] (lfQ Q)) (k : ∀ r, Q r → CW Γ kc kn (pc + 3) lv (r.toList ++ st) ws Φ) : CW Γ kc kn pc lv stk ws Φ :=
  km_callV (c0 := 0) (n0 := 0) (wc := []) (wr := ws) hv h [] (List.range ws.length) tx' hrk hm hvi hd hl0 hrecv hent hstk hcat rfl rfl (map_range_all ws) (nd_range _) (fun _ _ q => (List.not_mem_nil q).elim) hT hc (fun r w1 q => by
    obtain ⟨rfl, q⟩ := q
    rw [List.append_nil]
    exact k r q)
theorem kw_mmax (h : Vk own cc nL (d + 1) Γ) {x y : Int32} {idx : Nat} (hd : decode cc pc = .ok (.invokestatic idx, 3)) (hl0 : Cond.methodLink own idx Lib.Math.max.name ∈ bigW) (hrk : Rk Γ kc kn) (hcat : (st.map fun v => v.category).sum ≤ 8) (k : CW Γ kc kn (pc + 3) lv (.int (if x < y then y else x) :: st) ws Φ) : CW Γ kc kn pc lv (.int y :: .int x :: st) ws Φ := by
  obtain ⟨p, l, e, R, s, m, args, below, meth, c, dC, dI, cy, A⟩ := Γ
  obtain ⟨hx, hb, hml, hown, hts, hlk, hK, hA, hf, hlo⟩ := h
  intro H locs ls hP hD hS hl
  exact va_mmax hx hb hl.1.symm hown (hts _ hl0) (hts _ w_mmax.1) (hts _ w_mmax.2.1) (hts _ w_mmax.2.2) (by omega) (by omega) hrk.1 hrk.2 hd (k H locs ls hP hD hS hl)
theorem kw_mmin (h : Vk own cc nL (d + 1) Γ) {x y : Int32} {idx : Nat} (hd : decode cc pc = .ok (.invokestatic idx, 3)) (hl0 : Cond.methodLink own idx Lib.Math.min.name ∈ bigW) (hrk : Rk Γ kc kn) (hcat : (st.map fun v => v.category).sum ≤ 8) (k : CW Γ kc kn (pc + 3) lv (.int (if y < x then y else x) :: st) ws Φ) : CW Γ kc kn pc lv (.int y :: .int x :: st) ws Φ := by
  obtain ⟨p, l, e, R, s, m, args, below, meth, c, dC, dI, cy, A⟩ := Γ
  obtain ⟨hx, hb, hml, hown, hts, hlk, hK, hA, hf, hlo⟩ := h
  intro H locs ls hP hD hS hl
  exact va_mmin hx hb hl.1.symm hown (hts _ hl0) (hts _ w_mmin.1) (hts _ w_mmin.2.1) (hts _ w_mmin.2.2) (by omega) (by omega) hrk.1 hrk.2 hd (k H locs ls hP hD hS hl)
theorem n_max {a b : Nat} (ha : a < 2 ^ 31) (hb : b < 2 ^ 31) : (if nI a < nI b then nI b else nI a) = nI (if a < b then b else a) := by
  by_cases c : a < b
  · rw [if_pos c, if_pos ((nI_ltI ha hb).mpr c)]
  · rw [if_neg c, if_neg (fun q => c ((nI_ltI ha hb).mp q))]
theorem n_min {a b : Nat} (ha : a < 2 ^ 31) (hb : b < 2 ^ 31) : (if nI b < nI a then nI b else nI a) = nI (if b < a then b else a) := by
  by_cases c : b < a
  · rw [if_pos c, if_pos ((nI_ltI hb ha).mpr c)]
  · rw [if_neg c, if_neg (fun q => c ((nI_ltI hb ha).mp q))]
end KML
section KMT
variable {ad : Nat → Nat} {tx : TXo} {cy : Nat → ClassId} {d : Nat}
theorem kt_newLength {a b c : Nat} (ha : a < 10000) (hb : b < 10000) (hc : c < 10000) (h0 : 0 < b) : KM cy ad tx yJ8_newLength_cabcc cJ8_newLength_cabcc 4 (some .int) (d + 1) 0 0 [.int (nI a), .int (nI b), .int (nI c)] [] (lfQ fun r => r = some (.int (nI (a + if b < c then c else b)))) := by
  intro Γ hv h hr _ _
  show CW Γ 0 0 0 [some (.int (nI a)), some (.int (nI b)), some (.int (nI c)), none] [] [] _
  refine kw_ilod h 0 dJ8_newLength_cabcc_0 rfl rfl ?_
  refine kw_ilod h 1 dJ8_newLength_cabcc_1 rfl rfl ?_
  refine kw_ilod h 2 dJ8_newLength_cabcc_2 rfl rfl ?_
  refine kw_mmax h dJ8_newLength_cabcc_3 ml_J8_194 rk0 (Nat.le_of_ble_eq_true rfl) ?_
  rw [n_max (by omega) (by omega)]
  have hz : (if b < c then c else b) < 10000 ∧ 0 < (if b < c then c else b) := by split <;> omega
  generalize (if b < c then c else b) = z at *
  refine kw_iadd h dJ8_newLength_cabcc_6 ?_
  rw [nI_add]
  refine kw_isto h 3 dJ8_newLength_cabcc_7 rfl (by decide) rfl ?_
  refine kw_ic h dJ8_newLength_cabcc_8 (v := nI 0) rfl ?_
  refine kw_ilod h 3 dJ8_newLength_cabcc_9 rfl rfl ?_
  refine kw_icmp_ge h 21 dJ8_newLength_cabcc_10 rfl (fun c => absurd c ?_) (fun _ => ?_)
  · exact fun q => by have := (nI_leI (by omega) (by omega)).mp q; omega
  refine kw_ilod h 3 dJ8_newLength_cabcc_13 rfl rfl ?_
  refine kw_ldcI h dJ8_newLength_cabcc_14 lc_J8_200 ?_
  refine kw_icmp_gt h 21 dJ8_newLength_cabcc_16 rfl (fun c => absurd c ?_) (fun _ => ?_)
  · show ¬ nI 2147483639 < nI (a + z)
    exact fun q => by have := (nI_ltI (by decide) (by omega)).mp q; omega
  refine kw_ilod h 3 dJ8_newLength_cabcc_19 rfl rfl ?_
  exact km_iret h hr dJ8_newLength_cabcc_20 ⟨rfl, rfl⟩
/-! texts -/
variable {b y : Nat} {tl : List Nat}
theorem kt_coder : KM cy ad (some (b, y, tl)) yJ0_coder_7d493 cJ0_coder_7d493 1 (some .byte) d 0 0 [.ref b] [] (lfQ fun r => r = some (.int 0)) := by
  intro Γ hv h hr _ _
  show CW Γ 0 0 0 [some (.ref b)] [] [] _
  refine kw_gsC hv.2.1 h fw_J0_38 dJ0_coder_7d493_0 ?_
  refine kw_if_eq h 13 dJ0_coder_7d493_3 rfl (fun c => absurd c (by decide)) (fun _ => ?_)
  refine kw_alod h 0 dJ0_coder_7d493_6 rfl rfl ?_
  refine km_txC hv h fw_J0_15 dJ0_coder_7d493_7 ?_
  refine kw_goto h 14 dJ0_coder_7d493_10 rfl ?_
  exact km_zret h hr dJ0_coder_7d493_14 (by first | rfl | exact nar_b2i _) ⟨rfl, rfl⟩
theorem kt_isLatin1 : KM cy ad (some (b, y, tl)) yJ0_isLatin1_aae02 cJ0_isLatin1_aae02 1 (some .boolean) d 0 0 [.ref b] [] (lfQ fun r => r = some (.int (nI 1))) := by
  intro Γ hv h hr _ _
  show CW Γ 0 0 0 [some (.ref b)] [] [] _
  refine kw_gsC hv.2.1 h fw_J0_38 dJ0_isLatin1_aae02_0 ?_
  refine kw_if_eq h 17 dJ0_isLatin1_aae02_3 rfl (fun c => absurd c (by decide)) (fun _ => ?_)
  refine kw_alod h 0 dJ0_isLatin1_aae02_6 rfl rfl ?_
  refine km_txC hv h fw_J0_15 dJ0_isLatin1_aae02_7 ?_
  refine kw_if_ne h 17 dJ0_isLatin1_aae02_10 rfl (fun c => absurd c (by decide)) (fun _ => ?_)
  refine kw_ic h dJ0_isLatin1_aae02_13 (v := nI 1) rfl ?_
  refine kw_goto h 18 dJ0_isLatin1_aae02_14 rfl ?_
  exact km_zret h hr dJ0_isLatin1_aae02_18 (by first | rfl | exact nar_b2i _) ⟨rfl, rfl⟩
theorem kt_length : KM cy ad (some (b, y, tl)) yJ0_length_8abf5 cJ0_length_8abf5 1 (some .int) (d + 1) 0 0 [.ref b] [] (lfQ fun r => r = some (.int (nI tl.length))) := by
  intro Γ hv h hr _ _
  show CW Γ 0 0 0 [some (.ref b)] [] [] _
  refine kw_alod h 0 dJ0_length_8abf5_0 rfl rfl ?_
  refine km_txV hv h fw_J0_9 dJ0_length_8abf5_1 ?_
  refine km_txL hv h dJ0_length_8abf5_4 (fun hl => ?_)
  refine kw_alod h 0 dJ0_length_8abf5_5 rfl rfl ?_
  refine km_leafV (As := []) hv h rk0 (some (b, y, tl)) mi_J0_coder_7d493 (by decide) dJ0_length_8abf5_6 ml_J0_335 (Or.inr (Or.inl ⟨y, tl, rfl, rfl⟩)) (Nat.le_of_ble_eq_true rfl) rfl (Nat.le_of_ble_eq_true rfl) (ts_same hv.2.2.2) kt_coder (fun r q => ?_)
  subst q
  show CW Γ 0 0 9 _ (.int 0 :: .int (nI tl.length) :: []) [] _
  refine kw_ishr h dJ0_length_8abf5_9 ?_
  rw [sc_shr0 (by omega)]
  exact km_iret h hr dJ0_length_8abf5_10 ⟨rfl, rfl⟩
/-! rows of bytes -/
abbrev eA (cy : Nat → ClassId) (m : Nat) (g : Nat → Int32) : va_E := .inl (cy 1, m, .inl g)
abbrev eB (v : Nat) (ml : Int32) (n : Nat) : va_E := .inr (10, [.ref v, .int 0, .int ml, .int (nI n)])
theorem kt_copyOf {a m q : Nat} {g : Nat → Int32} (hmq : m < q) (hq : q ≤ 10000) (hf : sb_Fit g) : KM cy ad tx yJ7_copyOf_9075b cJ7_copyOf_9075b 3 (some (.array .byte)) (d + 1) 1 q [.ref a, .int (nI q)] [(a, eA cy m g)] (fun r w => ∃ a', r = some (.ref a') ∧ w = [(a, eA cy m g), (a', eA cy q (va_cpy g (fun _ => nI 0) 0 0 m))]) := by
  intro Γ hv h hr _ hR
  show CW Γ 0 0 0 [some (.ref a), some (.int (nI q)), none] [] [(a, eA cy m g)] _
  refine kw_ilod h 1 dJ7_copyOf_9075b_0 rfl rfl ?_
  refine kw_alod h 0 dJ7_copyOf_9075b_1 rfl rfl ?_
  refine kw_blen h hv.1 0 1 (fun _ => rfl) rfl dJ7_copyOf_9075b_2 ?_
  refine kw_icmp_ne h 14 dJ7_copyOf_9075b_3 rfl (fun _ => ?_) (fun c => absurd ((nI_eq (by omega) (by omega)).mp c) (by omega))
  refine kw_ilod h 1 dJ7_copyOf_9075b_14 rfl rfl ?_
  refine k_na h hv.1 (at_ := .byte) (ty := .byte) (N := q) (a0 := (q, .inl (fun _ => nI 0))) 1 (rk_le hR (by omega) (by omega)) ac_byte rfl (fun _ => rfl) (fun _ z => by cases z) (fun _ => rfl) (nI_pos (by omega)) (nI_clamp (by omega)) (by show q * 1 ≤ _; omega) dJ7_copyOf_9075b_15 (fun a' => ?_)
  refine kw_asto h 2 dJ7_copyOf_9075b_17 rfl (by decide) rfl ?_
  refine kw_alod h 0 dJ7_copyOf_9075b_18 rfl rfl ?_
  refine kw_ic h dJ7_copyOf_9075b_19 (v := nI 0) rfl ?_
  refine kw_alod h 2 dJ7_copyOf_9075b_20 rfl rfl ?_
  refine kw_ic h dJ7_copyOf_9075b_21 (v := nI 0) rfl ?_
  refine kw_alod h 0 dJ7_copyOf_9075b_22 rfl rfl ?_
  refine kw_blen h hv.1 0 1 (fun _ => rfl) rfl dJ7_copyOf_9075b_23 ?_
  refine kw_ilod h 1 dJ7_copyOf_9075b_24 rfl rfl ?_
  refine kw_mmin h dJ7_copyOf_9075b_25 ml_J7_304 (rk_le hR (by omega) (by omega)) (Nat.le_of_ble_eq_true rfl) ?_
  rw [n_min (by omega) (by omega), if_neg (by omega)]
  refine km_copyi hv h 0 1 rfl rfl ml_J7_150 hf (sp := 0) (dp := 0) (n := m) (by omega) (by omega) (by omega) (by omega) (Nat.le_of_ble_eq_true rfl) dJ7_copyOf_9075b_28 ?_
  refine kw_alod h 2 dJ7_copyOf_9075b_31 rfl rfl ?_
  rw [show (0 + q : Nat) = q by omega]
  exact km_aret h hr (Or.inr ⟨_, rfl⟩) dJ7_copyOf_9075b_32 ⟨a', rfl, rfl⟩
end KMT
