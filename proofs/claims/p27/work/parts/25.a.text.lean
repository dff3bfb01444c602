/-! The pure view with one text: contracts that know the text's letters -/
def adO (Γ : Cx) : Nat → Nat := match Γ with
  | (_, _, _, _, _, _, _, _, _, _, ad, _, _, _, _) => ad
def SpA (ad0 : Nat → Nat) (y : MethodName) (cb : ByteArray) (mL : Nat) (rt : Option FieldType) (d : Nat) (as : List Value) (I : MI) (J : MJ) (P : MP) (Q : Option Value → MI → MJ → MP → Prop) : Prop := ∀ Γ : Cx, adO Γ = ad0 → Vc y.cls cb mL rt d Γ → VG Γ 0 0 0 (ent as mL) [] I J P (Fnl Γ Q)
theorem met_ofA {d : Nat} {y : MethodName} {cb : ByteArray} {mL : Nat} {rt : Option FieldType} {as : List Value} {I : MI} {J : MJ} {P : MP} {Q : Option Value → MI → MJ → MP → Prop} {ad : Nat → Nat} (hy : plainName y.cls = true) (he : (entA as).length ≤ mL) (hS : SpA ad y cb mL rt d as I J P Q) (l : Launch) (dC : Nat → ClassId) (dI : Nat → Nat → Nat) (cy : Nat → ClassId) (sz : Nat) (hin : ∀ i j, i < 80 → j < 80 → ad i = ad j → i = j) : Met l y (Cond.code y cb mL rt :: bigW) (rmO d) (va_Pc (as.map (vmap ad)) (PcO ad dC dI cy sz I J P)) (Qn ad dC dI cy (va_A (wsO ad cy I J P) sz) Q) 0 0 (va_A (wsO ad cy I J P) sz) := by
  refine Met.ofW (cc := cb) (maxL := mL) (ret := rt) hy rfl ?_
  intro p e s m args below meth c s₁ B hml hv
  obtain ⟨rfl, hsz, hP, hK, hRO⟩ := hv
  have hts := atoms_spec (ws := Cond.code y cb mL rt :: bigW) B.pre
  have hk := hS (p, l, e, (headSpec (Cond.code y cb mL rt :: bigW) (rmO d)).room, s, m, _, below, meth, c, ad, dC, dI, cy, va_A (wsO ad cy I J P) sz) rfl ⟨B.exec, B.bytes, hml, B.returns, findClass_of_methodNamed B.named, fun w hw => hts w (List.mem_cons_of_mem _ hw), B.notSynchronized, hK, fun q hq => Or.inr (by rw [← hsz]; exact hq), hin, fun i hi => va_A.in (wsO_at hi), (show d ≤ d from Nat.le_refl _), (show 64 * d ≤ 64 * d from Nat.le_refl _), hRO⟩
  rw [lg_entry_eq]
  have hl := lv_entry (as.map (vmap ad)) (n := mL) (by rw [ent_len]; exact he)
  rw [fnl_eq] at hk
  refine hk s.heap [] _ hP va_S.rf ?_
  rw [hml]
  rw [ent, asl_app, asl_ent]
  exact hl
section GA
variable {own : String} {cc : ByteArray} {nL d kc kn pc : Nat} {ret : Option FieldType} {Γ : Cx} {lv : List (Option Value)} {st : List Value} {I : MI} {J : MJ} {P : MP} {Φ : State → Prop}
theorem ga_callS (h : Vc own cc nL ret (d + 1) Γ) (hrk : Rok Γ kc kn) {y : MethodName} {cb : ByteArray} {mL idx : Nat} {rt : Option FieldType} {As : List Value} {stk : List Value} (hm : MIs y cb mL rt As.length) (hd : decode cc pc = .ok (.invokestatic idx, 3)) (hl0 : Cond.methodLink own idx y ∈ bigW) (hent : (entA As).length ≤ mL) (hstk : stk = As.reverse ++ st) (hcat : (st.map fun v => v.category).sum ≤ 8) (hc : SpA (adO Γ) y cb mL rt d As I J P (fun r I' J' P' => VG Γ kc kn (pc + 3) lv (r.toList ++ st) I' J' P' Φ)) : VG Γ kc kn pc lv stk I J P Φ := by
  subst hstk
  obtain ⟨p, l, e, R, s, m, args, below, meth, c, ad, dC, dI, cy, A⟩ := Γ
  obtain ⟨hx, hb, hml, hr, hown, hts, hlk, hK, hA, hin, hAd, hf, hlo, hRO⟩ := h
  obtain ⟨m1, m2, m4, m5, m6, m7⟩ := hm
  intro H locs ls hP hS hl
  have hM := met_ofA m5 hent hc l dC dI cy H.size hin
  have hA1 := gA1 (I := I) (J := J) (P := P) (cy := cy) hAd hA hS
  have hG : ∀ w ∈ va_wsS own idx y (Cond.code y cb mL rt :: bigW), w ∈ bigW := by
    intro w hw
    rcases List.mem_append.mp hw with h1 | h1
    · simp only [List.mem_cons, List.not_mem_nil, or_false] at h1
      rcases h1 with rfl | rfl | rfl <;> assumption
    · rcases List.mem_cons.mp h1 with rfl | h1 <;> assumption
  have hG2 : GoodIn bigW (Cond.code y cb mL rt :: bigW) := fun w hw => ⟨hG w (List.mem_append_right _ hw), bw_good (hG w (List.mem_append_right _ hw))⟩
  have hcb : CallB R s args own idx y cb mL rt (Cond.code y cb mL rt :: bigW) (rmO d) 0 0 As.length := callB_of As.length hts hG2 rfl rfl rfl (hts _ m4) (hts _ hl0) m6 ⟨hf, by show 8 + (mL + 11) + 64 * d ≤ R.locals; omega⟩
  have hrun := va_runS (As := As.map (vmap ad)) (rest := st.map (vmap ad)) (g := F0 m pc ls ((As.reverse ++ st).map (vmap ad))) (cells := kc) (slots := kn) (H := H) (locs := locs) (R := R) (e := e) (l := l) (below := below) (meth := meth) ⟨hx, hb, hml, hown, hts⟩ hM ⟨hcb, hts _ m2⟩ ⟨pco_blind, fun U hU hW => ⟨rfl, by rw [hU], by rw [hU]; exact hP, va_K.moved hW.alike hK, hRO.call hS hW hU hA1⟩⟩ rfl (by simp) (by show ls.size = nL; rw [hl.1, hml]) (by simp) (lv_room (by rw [vmap_cats]; exact hcat)) hd ⟨hrk.1, hrk.2⟩
  exact run_back hrun hS hA1 hA1 hl (fun r I1 J1 P1 hq1 => hq1)
/-- a method of the text -/
theorem ga_callT (h : Vc own cc nL ret (d + 1) Γ) (ht : adO Γ 603 = 1) (hrk : Rok Γ kc kn) {y : MethodName} {cb : ByteArray} {mL idx : Nat} {rt : Option FieldType} {As : List Value} {stk : List Value} (hm : MIv y cb mL rt As.length) (hd : decode cc pc = .ok (.invokevirtual idx, 3)) (hl0 : Cond.methodLink own idx y ∈ bigW) (hq : "java/lang/String" = y.cls) (hent : (entA (.ref 600 :: As)).length ≤ mL) (hstk : stk = As.reverse ++ .ref 600 :: st) (hcat : (st.map fun v => v.category).sum ≤ 8) (hc : SpA (adO Γ) y cb mL rt d (.ref 600 :: As) I J P (fun r I' J' P' => VG Γ kc kn (pc + 3) lv (r.toList ++ st) I' J' P' Φ)) : VG Γ kc kn pc lv stk I J P Φ := by
  subst hstk
  obtain ⟨p, l, e, R, s, m, args, below, meth, c, ad, dC, dI, cy, A⟩ := Γ
  obtain ⟨hx, hb, hml, hr, hown, hts, hlk, hK, hA, hin, hAd, hf, hlo, hRO⟩ := h
  obtain ⟨m1, m2, m3, m4, m5, m6, m7⟩ := hm
  have ht : ad 603 = 1 := ht
  intro H locs ls hP hS hl
  have hM := met_ofA m5 hent hc l dC dI cy H.size hin
  have hA1 := gA1 (I := I) (J := J) (P := P) (cy := cy) hAd hA hS
  have hX : TX (ad 600) (ad 601) (ad 602) (txN ad) A s s.heap := hRO.tx.resolve_left (by omega)
  have hrecv : ∃ cell : Cell, H[ad 600]? = some cell ∧ cell.vm.isStatics = false ∧ s.vm.findClass y.cls = some cell.cls := by
    rw [← hq]
    obtain ⟨cell, r1, r2, r3, -⟩ := hX.1.kept hS.2.1
    exact ⟨cell, r1, r2, r3⟩
  have hG : GoodIn bigW (wsV own idx y.cls y (Cond.code y cb mL rt :: bigW)) := by
    intro w hw
    have hmem : w ∈ bigW := by
      rcases List.mem_append.mp hw with h1 | h1
      · simp only [List.mem_cons, List.not_mem_nil, or_false] at h1
        rcases h1 with rfl | rfl | rfl | rfl <;> assumption
      · rcases List.mem_cons.mp h1 with rfl | h1 <;> assumption
    exact ⟨hmem, bw_good hmem⟩
  have hrun := va_runV (As := As.map (vmap ad)) (rest := st.map (vmap ad)) (g := F0 m pc ls ((As.reverse ++ .ref 600 :: st).map (vmap ad))) (cells := kc) (slots := kn) (H := H) (locs := locs) (R := R) (e := e) (l := l) (below := below) (meth := meth) (b := ad 600) (C := y.cls) ⟨hx, hb, hml, hown, hts⟩ hM (cwV As.length hts hG rfl rfl rfl ⟨rfl, m6⟩ ⟨hf, by show 8 + (mL + 11) + 64 * d ≤ R.locals; omega⟩) ⟨pco_blind, hrecv, fun U hU hW => ⟨rfl, by rw [hU], by rw [hU]; exact hP, va_K.moved hW.alike hK, hRO.call hS hW hU hA1⟩⟩ rfl (by simp) (by show ls.size = nL; rw [hl.1, hml]) (by simp [vmap]) (lv_room (by rw [vmap_cats]; exact hcat)) hd ⟨hrk.1, hrk.2⟩
  exact run_back hrun hS hA1 hA1 hl (fun r I1 J1 P1 hq1 => hq1)
/-- reading the text -/
theorem ga_txV (h : Vc own cc nL ret d Γ) (ht : adO Γ 603 = 1) {idx : Nat} (hl0 : Cond.fieldLink own idx "java/lang/String" "value" "[B" ∈ bigW) (hd : decode cc pc = .ok (.getfield idx, 3)) (K : VG Γ kc kn (pc + 3) lv (.ref 601 :: st) I J P Φ) : VG Γ kc kn pc lv (.ref 600 :: st) I J P Φ := by
  obtain ⟨p, l, e, R, s, m, args, below, meth, c, ad, dC, dI, cy, A⟩ := Γ
  obtain ⟨hx, hb, hml, hr, hown, hts, hlk, hK, hA, hin, hAd, hf, hlo, hRO⟩ := h
  have ht : ad 603 = 1 := ht
  have hX : TX (ad 600) (ad 601) (ad 602) (txN ad) A s s.heap := hRO.tx.resolve_left (by omega)
  intro H locs ls hP hS hl
  exact vk_getf hx hb hX.2.2.1 hS hown (hts _ hl0) (fun _ h9 => h9) hd (K H locs ls hP hS hl)
theorem ga_txC (h : Vc own cc nL ret d Γ) (ht : adO Γ 603 = 1) {idx : Nat} (hl0 : Cond.fieldLink own idx "java/lang/String" "coder" "B" ∈ bigW) (hd : decode cc pc = .ok (.getfield idx, 3)) (K : VG Γ kc kn (pc + 3) lv (.int 0 :: st) I J P Φ) : VG Γ kc kn pc lv (.ref 600 :: st) I J P Φ := by
  obtain ⟨p, l, e, R, s, m, args, below, meth, c, ad, dC, dI, cy, A⟩ := Γ
  obtain ⟨hx, hb, hml, hr, hown, hts, hlk, hK, hA, hin, hAd, hf, hlo, hRO⟩ := h
  have ht : ad 603 = 1 := ht
  have hX : TX (ad 600) (ad 601) (ad 602) (txN ad) A s s.heap := hRO.tx.resolve_left (by omega)
  intro H locs ls hP hS hl
  exact vk_getf hx hb hX.2.1 hS hown (hts _ hl0) (fun _ h9 => h9) hd (K H locs ls hP hS hl)
theorem ga_txL (h : Vc own cc nL ret d Γ) (ht : adO Γ 603 = 1) (hd : decode cc pc = .ok (.arraylength, 1)) (K : adO Γ 602 < 65536 → VG Γ kc kn (pc + 1) lv (.int (nI (adO Γ 602)) :: st) I J P Φ) : VG Γ kc kn pc lv (.ref 601 :: st) I J P Φ := by
  obtain ⟨p, l, e, R, s, m, args, below, meth, c, ad, dC, dI, cy, A⟩ := Γ
  obtain ⟨hx, hb, hml, hr, hown, hts, hlk, hK, hA, hin, hAd, hf, hlo, hRO⟩ := h
  have ht : ad 603 = 1 := ht
  have hX : TX (ad 600) (ad 601) (ad 602) (txN ad) A s s.heap := hRO.tx.resolve_left (by omega)
  intro H locs ls hP hS hl
  exact va_tlen hx hb hX.2.2.2.1 hS rfl hd (K hX.let.1 H locs ls hP hS hl)
theorem ga_txB (h : Vc own cc nL ret d Γ) (ht : adO Γ 603 = 1) (j : Nat) (hd : decode cc pc = .ok (.baload, 1)) (hn : j < adO Γ 602) (K : txN (adO Γ) j < 128 → VG Γ kc kn (pc + 1) lv (.int (nI (txN (adO Γ) j)) :: st) I J P Φ) : VG Γ kc kn pc lv (.int (nI j) :: .ref 601 :: st) I J P Φ := by
  obtain ⟨p, l, e, R, s, m, args, below, meth, c, ad, dC, dI, cy, A⟩ := Γ
  obtain ⟨hx, hb, hml, hr, hown, hts, hlk, hK, hA, hin, hAd, hf, hlo, hRO⟩ := h
  have ht : ad 603 = 1 := ht
  have hn : j < ad 602 := hn
  have hX : TX (ad 600) (ad 601) (ad 602) (txN ad) A s s.heap := hRO.tx.resolve_left (by omega)
  have hl9 := hX.let
  intro H locs ls hP hS hl
  exact va_tb hx hb hX.2.2.2.1 hS (vp_in_nI hn (by omega)) (v := .int (nI (txN ad j))) (by rw [nI_clamp (by omega)]) hd (K (hl9.2 j hn) H locs ls hP hS hl)
end GA
section ST
variable {ad : Nat → Nat} {d : Nat} {I : MI} {J : MJ} {P : MP} {Q : Int32 → MI → MJ → MP → Prop}
theorem sa_coder (ht : ad 603 = 1) (hQ : Q 0 I J P) : SpA ad yJ0_coder_7d493 cJ0_coder_7d493 1 (some .byte) d [.ref 600] I J P (Qi Q) := by
  rintro Γ rfl h
  show VG Γ 0 0 0 [some (.ref 600)] [] _ _ _ _
  refine g_gsC h fw_J0_38 dJ0_coder_7d493_0 ?_
  refine g_if_eq h 13 dJ0_coder_7d493_3 rfl (fun c => absurd c (by decide)) (fun _ => ?_)
  refine g_aload_0 h dJ0_coder_7d493_6 ?_
  refine ga_txC h ht fw_J0_15 dJ0_coder_7d493_7 ?_
  refine g_goto h 14 dJ0_coder_7d493_10 rfl ?_
  refine g_zret h dJ0_coder_7d493_14 (by first | rfl | exact nar_b2i _) ?_
  exact hQ
theorem sa_isLatin1 (ht : ad 603 = 1) (hQ : Q (nI 1) I J P) : SpA ad yJ0_isLatin1_aae02 cJ0_isLatin1_aae02 1 (some .boolean) d [.ref 600] I J P (Qi Q) := by
  rintro Γ rfl h
  show VG Γ 0 0 0 [some (.ref 600)] [] _ _ _ _
  refine g_gsC h fw_J0_38 dJ0_isLatin1_aae02_0 ?_
  refine g_if_eq h 17 dJ0_isLatin1_aae02_3 rfl (fun c => absurd c (by decide)) (fun _ => ?_)
  refine g_aload_0 h dJ0_isLatin1_aae02_6 ?_
  refine ga_txC h ht fw_J0_15 dJ0_isLatin1_aae02_7 ?_
  refine g_if_ne h 17 dJ0_isLatin1_aae02_10 rfl (fun c => absurd c (by decide)) (fun _ => ?_)
  refine g_iconst h dJ0_isLatin1_aae02_13 (v := nI 1) rfl ?_
  refine g_goto h 18 dJ0_isLatin1_aae02_14 rfl ?_
  refine g_zret h dJ0_isLatin1_aae02_18 (by first | rfl | exact nar_b2i _) ?_
  exact hQ
theorem sa_length (ht : ad 603 = 1) (hQ : ad 602 < 65536 → Q (nI (ad 602)) I J P) : SpA ad yJ0_length_8abf5 cJ0_length_8abf5 1 (some .int) (d + 1) [.ref 600] I J P (Qi Q) := by
  rintro Γ rfl h
  show VG Γ 0 0 0 [some (.ref 600)] [] _ _ _ _
  refine g_aload_0 h dJ0_length_8abf5_0 ?_
  refine ga_txV h ht fw_J0_9 dJ0_length_8abf5_1 ?_
  refine ga_txL h ht dJ0_length_8abf5_4 (fun hl => ?_)
  refine g_aload_0 h dJ0_length_8abf5_5 ?_
  refine ga_callT (As := []) h ht rok0 mi_J0_coder_7d493 dJ0_length_8abf5_6 ml_J0_335 rfl (Nat.le_of_ble_eq_true rfl) rfl (Nat.le_of_ble_eq_true rfl) (fun Γ2 e2 h2 => fnl_mono (fun r I1 J1 P1 hq => by obtain ⟨x, rfl, hq⟩ := hq; exact hq) (sa_coder (ad := adO Γ) ht (Q := fun x I J P => VG Γ 0 0 9 _ (.int x :: .int (nI (adO Γ 602)) :: []) I J P _) ?_ Γ2 e2 h2))
  refine g_ishr h dJ0_length_8abf5_9 ?_
  refine g_iret h dJ0_length_8abf5_10 ?_
  exact q_i (sc_shr0 (by omega)) (hQ hl)
theorem sa_charAt1 {j : Nat} (ht : ad 603 = 1) (hj : j < ad 602) (hQ : ad 602 < 65536 → txN ad j < 128 → Q (nI (txN ad j)) I J P) : SpA ad yJ1_charAt_3b067 cJ1_charAt_3b067 2 (some .char) (d + 2) [.ref 601, .int (nI j)] I J P (Qi Q) := by
  rintro Γ rfl h
  show VG Γ 0 0 0 [some (.ref 601), some (.int (nI j))] [] _ _ _ _
  refine g_iload_1 h dJ1_charAt_3b067_0 ?_
  refine g_aload_0 h dJ1_charAt_3b067_1 ?_
  refine ga_txL h ht dJ1_charAt_3b067_2 (fun hl => ?_)
  refine g_cSv2 h rok0 mi_J0_checkIndex_df160 dJ1_charAt_3b067_3 ml_J1_9 (Nat.le_of_ble_eq_true rfl) (Nat.le_of_ble_eq_true rfl) (sp_J0_checkIndex hj (by omega) ?_)
  refine g_aload_0 h dJ1_charAt_3b067_6 ?_
  refine g_iload_1 h dJ1_charAt_3b067_7 ?_
  refine ga_txB h ht j dJ1_charAt_3b067_8 hj (fun hc => ?_)
  refine g_sipush h dJ1_charAt_3b067_9 (v := nI 255) rfl ?_
  refine g_iand h dJ1_charAt_3b067_12 ?_
  refine g_i2c h dJ1_charAt_3b067_13 ?_
  have key : ∀ c, c < 128 → ((nI c &&& 255).toUInt32 % 65536).toInt32 = nI c ∧ narrow .char (.int (nI c)) = .int (nI c) := by decide +kernel
  refine g_zret h dJ1_charAt_3b067_14 (by show narrow .char (.int ((nI (txN (adO Γ) j) &&& 255).toUInt32 % 65536).toInt32) = .int ((nI (txN (adO Γ) j) &&& 255).toUInt32 % 65536).toInt32; rw [(key _ hc).1]; exact (key _ hc).2) ?_
  exact q_i (key _ hc).1 (hQ hl hc)
theorem sa_charAt {j : Nat} (ht : ad 603 = 1) (hj : j < ad 602) (hQ : ad 602 < 65536 → txN ad j < 128 → Q (nI (txN ad j)) I J P) : SpA ad yJ0_charAt_5068e cJ0_charAt_5068e 2 (some .char) (d + 3) [.ref 600, .int (nI j)] I J P (Qi Q) := by
  rintro Γ rfl h
  show VG Γ 0 0 0 [some (.ref 600), some (.int (nI j))] [] _ _ _ _
  have key : ∀ c, c < 128 → narrow .char (.int (nI c)) = .int (nI c) := by decide +kernel
  refine g_aload_0 h dJ0_charAt_5068e_0 ?_
  refine ga_callT (As := []) h ht rok0 mi_J0_isLatin1_aae02 dJ0_charAt_5068e_1 ml_J0_492 rfl (Nat.le_of_ble_eq_true rfl) rfl (Nat.le_of_ble_eq_true rfl) (fun Γ2 e2 h2 => fnl_mono (fun r I1 J1 P1 hq => by obtain ⟨x, rfl, hq⟩ := hq; exact hq) (sa_isLatin1 (ad := adO Γ) ht (Q := fun x I J P => VG Γ 0 0 4 _ (.int x :: []) I J P _) ?_ Γ2 e2 h2))
  refine g_if_eq h 16 dJ0_charAt_5068e_4 rfl (fun c => absurd c (by decide)) (fun _ => ?_)
  refine g_aload_0 h dJ0_charAt_5068e_7 ?_
  refine ga_txV h ht fw_J0_9 dJ0_charAt_5068e_8 ?_
  refine g_iload_1 h dJ0_charAt_5068e_11 ?_
  refine ga_callS (As := [.ref 601, .int (nI j)]) h rok0 mi_J1_charAt_3b067 dJ0_charAt_5068e_12 ml_J0_495 (Nat.le_of_ble_eq_true rfl) rfl (Nat.le_of_ble_eq_true rfl) (fun Γ2 e2 h2 => fnl_mono (fun r I1 J1 P1 hq => by obtain ⟨x, rfl, hq⟩ := hq; exact hq) (sa_charAt1 (ad := adO Γ) ht hj (Q := fun x I J P => VG Γ 0 0 15 _ (.int x :: []) I J P _) (fun hl hc => ?_) Γ2 e2 h2))
  refine g_zret h dJ0_charAt_5068e_15 (key _ hc) ?_
  exact hQ hl hc
end ST
