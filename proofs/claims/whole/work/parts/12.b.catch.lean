/-! Exceptions: calls of throwing methods, handlers, helpers with handlers -/
def rmX (d : Nat) : Room := { frames := d, cells := 1, slots := 6, locals := 64 * d }
def PcX (ad : Nat → Nat) (dC : Nat → ClassId) (dI : Nat → Nat → Nat) (cy : Nat → ClassId) (sz : Nat) (I : MI) (J : MJ) (P : MP) : State → Prop := fun U => PcO ad dC dI cy sz I J P U ∧ NX U
theorem pcx_blind {as : List Value} {ad : Nat → Nat} {dC : Nat → ClassId} {dI : Nat → Nat → Nat} {cy : Nat → ClassId} {sz : Nat} {I : MI} {J : MJ} {P : MP} : FrameBlind (va_Pc as (PcX ad dC dI cy sz I J P)) := by
  intro a U g mk q
  obtain ⟨q0, ⟨q1, qP, qK, qR⟩, qX⟩ := q
  exact ⟨q0, ⟨q1, qP, va_K.moved (u := U) (U := U.calling g mk a) (Vm.Alike.refl U.vm) qK, qR.calling⟩, NX.same (s := U) (U := U.calling g mk a) rfl qX⟩
theorem met_ofX {y : MethodName} {cb : ByteArray} {mL d : Nat} {rt : Option FieldType} {as : List Value} {I : MI} {J : MJ} {P : MP} {Q : Option Value → MI → MJ → MP → Prop} {X : String → MI → MJ → MP → Prop} (hy : plainName y.cls = true) (he : (entA as).length ≤ mL) (hS : SpX y cb mL rt d as I J P Q X) (hd : 6 ≤ d) (l : Launch) (hst : l.stackTraces = false) (ad : Nat → Nat) (dC : Nat → ClassId) (dI : Nat → Nat → Nat) (cy : Nat → ClassId) (sz : Nat) (hin : ∀ i j, i < 115 → j < 115 → ad i = ad j → i = j) : vx_Met l y (Cond.code y cb mL rt :: bigW) (rmX d) (va_Pc (as.map (vmap ad)) (PcX ad dC dI cy sz I J P)) (Qn ad dC dI cy (va_A (wsO ad cy I J P) sz) Q) (Xn ad dC dI cy (va_A (wsO ad cy I J P) sz) X) 1 6 (va_A (wsO ad cy I J P) sz) := by
  refine vx_ofW (cc := cb) (maxL := mL) (ret := rt) hy rfl ?_
  intro p e s m args below meth c s₁ B hml htab hv
  obtain ⟨rfl, ⟨hsz, hP, hK, hRO⟩, hNX⟩ := hv
  have hts := atoms_spec (ws := Cond.code y cb mL rt :: bigW) B.pre
  have hk := hS (p, l, e, (headSpec (Cond.code y cb mL rt :: bigW) (rmX d)).room, s, m, _, below, meth, c, ad, dC, dI, cy, va_A (wsO ad cy I J P) sz) ⟨B.exec, B.bytes, hml, B.returns, findClass_of_methodNamed B.named, fun w hw => hts w (List.mem_cons_of_mem _ hw), B.notSynchronized, hK, fun q hq => Or.inr (by rw [← hsz]; exact hq), hin, fun i hi => va_A.in (wsO_at hi), (show d ≤ d from Nat.le_refl _), (show 64 * d ≤ 64 * d from Nat.le_refl _), hRO⟩ ⟨hst, hNX, htab, hd, (show 384 ≤ 64 * d by omega), (show 1 ≤ 1 from Nat.le_refl _), (show 6 ≤ 6 from Nat.le_refl _)⟩
  rw [lg_entry_eq]
  have hl := lv_entry (as.map (vmap ad)) (n := mL) (by rw [ent_len]; exact he)
  rw [fnx_eq] at hk
  refine hk s.heap [] _ hP va_S.rf ?_
  rw [hml]
  rw [ent, asl_app, asl_ent]
  exact hl
/-- the context of a helper with handlers -/
def Xh (hh : List (Nat × Nat × Nat × Nat)) (Γ : Cx) : Prop := match Γ with
  | (_, l, _, R, s, _, _, _, _, c, _, _, _, _, _) => l.stackTraces = false ∧ NX s ∧ c.exceptionTable.toList = tableOf hh ∧ 1 ≤ R.cells ∧ 6 ≤ R.slots
/-- where q was thrown over the frame -/
def VT (Γ : Cx) (E : String) (pc : Nat) (lv : List (Option Value)) (st : List Value) (I : MI) (J : MJ) (P : MP) (Φ : State → Prop) : Prop := match Γ with
  | (p, l, e, R, s, m, args, below, meth, c, ad, dC, dI, cy, A) => ∀ (H : Heap) (locs : List Loc) (ls : Array Slot) (ce : Cell) (q : Nat), va_P (dC, dI) vwCl (wsO ad cy I J P) H → va_S A s.heap H locs → lv_has ls c.maxLocals (asl ad 0 lv) → H[q]? = some ce → ce.vm = .none → s.vm.findClass E = some ce.cls → vx_W p l e R s m args below meth c H locs 1 6 Φ (F0 m pc ls (st.map (vmap ad))) q
section GX
variable {own : String} {cc : ByteArray} {nL d pc : Nat} {ret : Option FieldType} {Γ : Cx} {lv : List (Option Value)} {st : List Value} {I : MI} {J : MJ} {P : MP} {Φ : State → Prop}
theorem g_try (h : Vc own cc nL ret (d + 1) Γ) {hh : List (Nat × Nat × Nat × Nat)} (hx : Xh hh Γ) (hd6 : 6 ≤ d) {y : MethodName} {cb : ByteArray} {mL idx b ci : Nat} {rt : Option FieldType} {ks : List Nat} {As : List Value} {q : vw_C} {stk : List Value} (hm : MIv y cb mL rt As.length) (hd : decode cc pc = .ok (.invokevirtual idx, 3)) (hl0 : Cond.methodLink own idx y ∈ bigW) (hs : shp b = .inl (ci, ks)) (hci : vwCl[ci]? = some q) (hq : q.1 = y.cls) (hent : (entA (.ref b :: As)).length ≤ mL) (hstk : stk = As.reverse ++ .ref b :: st) (hcat : (st.map fun v => v.category).sum ≤ 8) (hc : SpX y cb mL rt d (.ref b :: As) I J P (fun r I' J' P' => VG Γ 1 6 (pc + 3) lv (r.toList ++ st) I' J' P' Φ) (fun E I' J' P' => VT Γ E pc lv st I' J' P' Φ)) : VG Γ 0 0 pc lv stk I J P Φ := by
  subst hstk
  obtain ⟨p, l, e, R, s, m, args, below, meth, c, ad, dC, dI, cy, A⟩ := Γ
  obtain ⟨hx1, hb, hml, hr, hown, hts, hlk, hK, hA, hin, hAd, hf, hlo, hRO⟩ := h
  obtain ⟨hst, hNX, htab, hR1, hR2⟩ := hx
  obtain ⟨m1, m2, m3, m4, m5, m6, m7⟩ := hm
  intro H locs ls hP hS hl
  have hM := met_ofX m5 hent hc hd6 l hst ad dC dI cy H.size hin
  have hA1 := gA1 (I := I) (J := J) (P := P) (cy := cy) hAd hA hS
  have he := wsO_at (ad := ad) (cy := cy) (I := I) (J := J) (P := P) (shp_lo hs (by
    have := (List.getElem?_eq_some_iff.mp hci).1
    exact Nat.lt_of_lt_of_le this (by decide)))
  rw [cel_o hs] at he
  have hrecv := va_recv hK hP (ci := ci) (q0 := b) hci he
  rw [hq] at hrecv
  have hG : GoodIn bigW (wsV own idx y.cls y (Cond.code y cb mL rt :: bigW)) := by
    intro w hw
    have hmem : w ∈ bigW := by
      rcases List.mem_append.mp hw with h1 | h1
      · simp only [List.mem_cons, List.not_mem_nil, or_false] at h1
        rcases h1 with rfl | rfl | rfl | rfl <;> assumption
      · rcases List.mem_cons.mp h1 with rfl | h1 <;> assumption
    exact ⟨hmem, bw_good hmem⟩
  have hrun := vx_runV (As := As.map (vmap ad)) (rest := st.map (vmap ad)) (g := F0 m pc ls ((As.reverse ++ .ref b :: st).map (vmap ad))) (cells := 0) (slots := 0) (H := H) (locs := locs) (R := R) (e := e) (l := l) (below := below) (meth := meth) (b := ad b) (C := y.cls) ⟨hx1, hb, hml, hown, hts⟩ hM (cwV As.length hts hG rfl rfl rfl ⟨rfl, m6⟩ ⟨hf, by show 8 + (mL + 11) + 64 * d ≤ R.locals; omega⟩) ⟨pcx_blind, hrecv, fun U hU hW => ⟨rfl, ⟨by rw [hU], by rw [hU]; exact hP, va_K.moved hW.alike hK, hRO.call hS hW hU hA1⟩, hNX.warm hW⟩⟩ rfl (by simp) (by show ls.size = nL; rw [hl.1, hml]) (by simp [vmap]) (lv_room (by rw [vmap_cats]; exact hcat)) hd ⟨by omega, by omega⟩
  intro T hT Y
  have key : ∀ (st₀ t T' : State) (L : List Loc), st₀.heap = H → T'.heap = t.heap → (∀ z ∈ L, va_A (wsO ad cy I J P) H.size z.base) → va_F (va_A (wsO ad cy I J P) H.size) st₀ t → va_S A s.heap T'.heap (locs ++ L) := by
    intro st₀ t T' L h0 e1 hL hF
    obtain ⟨hz, hk⟩ := hF
    rw [h0] at hz hk
    exact ⟨Nat.le_trans hS.1 (by rw [e1]; exact hz), fun q h1 h2 => by rw [e1, hk q (Nat.lt_of_lt_of_le h1 hS.1) (fun z => h2 (hA1 q z))]; exact hS.2.1 q h1 h2, fun q hq => by
      rcases List.mem_append.mp hq with h | h
      · exact hS.2.2 q h
      · exact hA1 _ (hL q h)⟩
  rcases hrun T hT Y with ⟨v, st₀, t, T', L, h0, X', hL, e1, e2, ⟨⟨r, I1, J1, P1, hv, hq1, hP1, -⟩, hF⟩, stp⟩ | ⟨q9, st₀, t, T', L, E, ce, h0, X', hL, e1, e2, ⟨⟨I1, J1, P1, hq1, hP1, -⟩, hF⟩, hce, hcv, hcl, stp⟩
  · cases hv
    obtain ⟨t2, a1, b1⟩ := hq1 T'.heap (locs ++ L) ls (by rw [e1]; exact hP1) (key st₀ t T' L h0 e1 hL hF) hl T' rfl X'
    refine ⟨t2, stp t2 ?_, b1⟩
    have ee : (r.toList ++ st).map (vmap ad) = (r.map (vmap ad)).toList ++ st.map (vmap ad) := by cases r <;> rfl
    rw [ee] at a1
    exact a1
  · obtain ⟨t2, a1, b1⟩ := hq1 T'.heap (locs ++ L) ls ce q9 (by rw [e1]; exact hP1) (key st₀ t T' L h0 e1 hL hF) hl (by rw [e1]; exact hce) hcv hcl T' rfl X'
    exact ⟨t2, stp.trans a1, b1⟩
theorem g_catch (h : Vc RL cc nL ret d Γ) {hh : List (Nat × Nat × Nat × Nat)} (hx : Xh hh Γ) {E : String} (pre suf : List ExceptionTableEntry) (x : ExceptionTableEntry) (hsplit : tableOf hh = pre ++ x :: suf) (hpass : ∀ z ∈ pre, z.catchType ≠ 0 ∧ ∃ nm : String, Cond.classLink RL z.catchType nm ∈ bigW ∧ ∀ s, NX s → va_Nc E nm s) (hcov : covers x pc = true) (h0 : x.catchType ≠ 0) (hlink : Cond.classLink RL x.catchType E ∈ bigW) (hE : Cond.castable E E ∈ nxW) {i ln : Nat}
    (hst : (∃ n : Fin 4, (n : Nat) = i ∧ ln = 1 ∧ decode cc x.handlerPc = .ok (.astore_n n, 1)) ∨ (ln = 2 ∧ decode cc x.handlerPc = .ok (.astore i, 2))) (hi : i < nL) (hfil : ∀ ad : Nat → Nat, (asl ad 0 lv).filter (fun q => !(q.1 == i) && !(q.1 + 1 == i && q.2.category == 2)) = asl ad 0 lv) (k : VG Γ 1 6 (x.handlerPc + ln) lv [] I J P Φ) : VT Γ E pc lv st I J P Φ := by
  obtain ⟨p, l, e, R, s, m, args, below, meth, c, ad, dC, dI, cy, A⟩ := Γ
  obtain ⟨hx1, hb, hml, hr, hown, hts, hlk, hK, hA, hin, hAd, hf, hlo, hRO⟩ := h
  obtain ⟨hst1, hNX, htab, hR1, hR2⟩ := hx
  intro H locs ls ce q hP hS hl hce hcv hcl
  refine vx_catch hown pre x suf (by rw [htab]; exact hsplit) (fun z hz => Or.inr ⟨(hpass z hz).1, ?_⟩) hcov h0 (hts _ hlink) ((hNX.1 _ hE).use rfl) hce hcv hcl ?_
  · obtain ⟨nm, n1, n2⟩ := (hpass z hz).2
    exact ⟨nm, hts _ n1, n2 s hNX⟩
  · have done : ∀ ls' : Array Slot, lv_has ls' nL ((i, Value.ref q) :: asl ad 0 lv) → W p l e R s m args below meth c H locs 1 6 Φ (F0 m (x.handlerPc + ln) ls' []) := by
      intro ls' h'
      refine k H locs ls' hP hS ⟨h'.1.trans hml.symm, h'.2.1, fun z hz => h'.2.2 z (List.mem_cons_of_mem _ hz)⟩
    rw [hml] at hl
    rcases hst with ⟨n, n1, n2, n3⟩ | ⟨n2, n3⟩
    · subst n2
      exact lv_astore_n hx1 hb n3 n1 hl hi (by rw [hfil ad]) done
    · subst n2
      exact lv_astore hx1 hb n3 hl hi (by rw [hfil ad]) done
end GX
def FnH (Γ : Cx) (Q : Option Value → MI → MJ → MP → Prop) : State → Prop := match Γ with
  | (_, _, _, _, s, _, args, below, _, _, ad, dC, dI, cy, A) => vx_MQ below (Qn ad dC dI cy A Q) (fun _ _ _ => False) args s 1 6 A
theorem g_iretH {own : String} {cc : ByteArray} {nL d pc : Nat} {Γ : Cx} {lv : List (Option Value)} {I : MI} {J : MJ} {P : MP} {x : Int32} {Q : Int32 → MI → MJ → MP → Prop} (h : Vc own cc nL (some .int) d Γ) (hd : decode cc pc = .ok (.ireturn, 1)) (hq : Q x I J P) : VG Γ 1 6 pc lv [.int x] I J P (FnH Γ (Qi Q)) := by
  obtain ⟨p, l, e, R, s, m, args, below, meth, c, ad, dC, dI, cy, A⟩ := Γ
  obtain ⟨hx, hb, hml, hr, hown, hts, hlk, hK, hA, hin, hAd, hf, hlo, hRO⟩ := h
  intro H locs ls hP hS hl
  show W p l e R s m args below meth c H locs 1 6 (vx_MQ below (Qn ad dC dI cy A (Qi Q)) (fun _ _ _ => False) args s 1 6 A) _
  refine vx_ret ?_
  exact W.iret (v := x) hx hb hr (fun t ht hW => ⟨⟨_, I, J, P, rfl, ⟨_, rfl, hq⟩, by rw [ht]; exact hP, va_K.moved hW.alike hK⟩, hS.F ht⟩) hS.2.2 hd hlk
def SpH (y : MethodName) (cb : ByteArray) (mL : Nat) (hh : List (Nat × Nat × Nat × Nat)) (d : Nat) (as : List Value) (I : MI) (J : MJ) (P : MP) (Q : Option Value → MI → MJ → MP → Prop) : Prop := ∀ Γ : Cx, Vc y.cls cb mL (some .int) d Γ → Xh hh Γ → VG Γ 0 0 0 (ent as mL) [] I J P (FnH Γ Q)
def MIh (y : MethodName) (cb : ByteArray) (mL : Nat) (hh : List (Nat × Nat × Nat × Nat)) (n : Nat) : Prop := Cond.codeWith y cb mL (some .int) hh ∈ bigW ∧ Cond.static y ∈ bigW ∧ Cond.initialized y.cls ∈ bigW ∧ plainName y.cls = true ∧ (y.cls ≠ "java/lang/invoke/MethodHandle" ∧ y.cls ≠ "java/lang/invoke/VarHandle" ∧ (parseMethodDescriptor y.desc).map (fun d => d.parameters.length) = some n) ∧ mL ≤ 45
theorem met_ofH {y : MethodName} {cb : ByteArray} {mL d : Nat} {hh : List (Nat × Nat × Nat × Nat)} {as : List Value} {I : MI} {J : MJ} {P : MP} {Q : Option Value → MI → MJ → MP → Prop} (hy : plainName y.cls = true) (he : (entA as).length ≤ mL) (hS : SpH y cb mL hh d as I J P Q) (l : Launch) (hst : l.stackTraces = false) (ad : Nat → Nat) (dC : Nat → ClassId) (dI : Nat → Nat → Nat) (cy : Nat → ClassId) (sz : Nat) (hin : ∀ i j, i < 115 → j < 115 → ad i = ad j → i = j) : vx_Met l y (Cond.codeWith y cb mL (some .int) hh :: bigW) (rmX d) (va_Pc (as.map (vmap ad)) (PcX ad dC dI cy sz I J P)) (Qn ad dC dI cy (va_A (wsO ad cy I J P) sz) Q) (fun _ _ _ => False) 1 6 (va_A (wsO ad cy I J P) sz) := by
  refine vx_ofWH (cc := cb) (maxL := mL) (ret := some .int) (hh := hh) hy rfl ?_
  intro p e s m args below meth c s₁ B hml hv
  obtain ⟨rfl, ⟨hsz, hP, hK, hRO⟩, hNX⟩ := hv
  have hts := atoms_spec (ws := Cond.codeWith y cb mL (some .int) hh :: bigW) B.pre
  have htab := vx_table (x := y) B (hts _ List.mem_cons_self)
  have hk := hS (p, l, e, (headSpec (Cond.codeWith y cb mL (some .int) hh :: bigW) (rmX d)).room, s, m, _, below, meth, c, ad, dC, dI, cy, va_A (wsO ad cy I J P) sz) ⟨B.exec, B.bytes, hml, B.returns, findClass_of_methodNamed B.named, fun w hw => hts w (List.mem_cons_of_mem _ hw), B.notSynchronized, hK, fun q hq => Or.inr (by rw [← hsz]; exact hq), hin, fun i hi => va_A.in (wsO_at hi), (show d ≤ d from Nat.le_refl _), (show 64 * d ≤ 64 * d from Nat.le_refl _), hRO⟩ ⟨hst, hNX, htab, (show 1 ≤ 1 from Nat.le_refl _), (show 6 ≤ 6 from Nat.le_refl _)⟩
  rw [lg_entry_eq]
  have hl := lv_entry (as.map (vmap ad)) (n := mL) (by rw [ent_len]; exact he)
  refine hk s.heap [] _ hP va_S.rf ?_
  rw [hml]
  rw [ent, asl_app, asl_ent]
  exact hl
/-- the context of the law -/
def Xl (Γ : Cx) : Prop := match Γ with
  | (_, l, _, _, s, _, _, _, _, _, _, _, _, _, _) => l.stackTraces = false ∧ NX s
section GH
variable {own : String} {cc : ByteArray} {nL d kc kn pc : Nat} {ret : Option FieldType} {Γ : Cx} {lv : List (Option Value)} {st : List Value} {I : MI} {J : MJ} {P : MP} {Φ : State → Prop}
theorem g_help (h : Vc own cc nL ret (d + 1) Γ) (hx : Xl Γ) (hrk : Rok Γ (kc + 1) (kn + 6)) {y : MethodName} {cb : ByteArray} {mL idx : Nat} {hh : List (Nat × Nat × Nat × Nat)} {As : List Value} {stk : List Value} (hm : MIh y cb mL hh As.length) (hd : decode cc pc = .ok (.invokestatic idx, 3)) (hl0 : Cond.methodLink own idx y ∈ bigW) (hent : (entA As).length ≤ mL) (hstk : stk = As.reverse ++ st) (hcat : (st.map fun v => v.category).sum ≤ 8) (hc : SpH y cb mL hh d As I J P (fun r I' J' P' => VG Γ (kc + 1) (kn + 6) (pc + 3) lv (r.toList ++ st) I' J' P' Φ)) : VG Γ kc kn pc lv stk I J P Φ := by
  subst hstk
  obtain ⟨p, l, e, R, s, m, args, below, meth, c, ad, dC, dI, cy, A⟩ := Γ
  obtain ⟨hx1, hb, hml, hr, hown, hts, hlk, hK, hA, hin, hAd, hf, hlo, hRO⟩ := h
  obtain ⟨hst, hNX⟩ := hx
  obtain ⟨m1, m2, m4, m5, m6, m7⟩ := hm
  intro H locs ls hP hS hl
  have hM := met_ofH m5 hent hc l hst ad dC dI cy H.size hin
  have hA1 := gA1 (I := I) (J := J) (P := P) (cy := cy) hAd hA hS
  have hG : GoodIn bigW (va_wsS own idx y (Cond.codeWith y cb mL (some .int) hh :: bigW)) := by
    intro w hw
    have hmem : w ∈ bigW := by
      rcases List.mem_append.mp hw with h1 | h1
      · simp only [List.mem_cons, List.not_mem_nil, or_false] at h1
        rcases h1 with rfl | rfl | rfl <;> assumption
      · rcases List.mem_cons.mp h1 with rfl | h1 <;> assumption
    exact ⟨hmem, bw_good hmem⟩
  have hrun := vx_runSX (As := As.map (vmap ad)) (rest := st.map (vmap ad)) (g := F0 m pc ls ((As.reverse ++ st).map (vmap ad))) (cells := kc) (slots := kn) (H := H) (locs := locs) (R := R) (e := e) (l := l) (below := below) (meth := meth) (hh := hh) ⟨hx1, hb, hml, hown, hts⟩ hM (vx_cwSW As.length hts hG rfl rfl rfl m6 ⟨hf, by show 8 + (mL + 11) + 64 * d ≤ R.locals; omega⟩) ⟨pcx_blind, fun U hU hW => ⟨rfl, ⟨by rw [hU], by rw [hU]; exact hP, va_K.moved hW.alike hK, hRO.call hS hW hU hA1⟩, hNX.warm hW⟩⟩ rfl (by simp) (by show ls.size = nL; rw [hl.1, hml]) (by simp) (lv_room (by rw [vmap_cats]; exact hcat)) hd ⟨hrk.1, hrk.2⟩
  intro T hT Y
  rcases hrun T hT Y with ⟨v, st₀, t, T', L, h0, X', hL, e1, e2, ⟨⟨r, I1, J1, P1, hv, hq1, hP1, -⟩, hF⟩, stp⟩ | ⟨q9, st₀, t, T', L, E, ce, h0, X', hL, e1, e2, hq1, hce, hcv, hcl, stp⟩
  · cases hv
    obtain ⟨hz, hk⟩ := hF
    rw [h0] at hz hk
    have hS1 : va_S A s.heap T'.heap (locs ++ L) := ⟨Nat.le_trans hS.1 (by rw [e1]; exact hz), fun q h1 h2 => by rw [e1, hk q (Nat.lt_of_lt_of_le h1 hS.1) (fun z => h2 (hA1 q z))]; exact hS.2.1 q h1 h2, fun q hq => by
      rcases List.mem_append.mp hq with h | h
      · exact hS.2.2 q h
      · exact hA1 _ (hL q h)⟩
    obtain ⟨t2, a1, b1⟩ := hq1 T'.heap (locs ++ L) ls (by rw [e1]; exact hP1) hS1 hl T' rfl X'
    refine ⟨t2, stp t2 ?_, b1⟩
    have ee : (r.toList ++ st).map (vmap ad) = (r.map (vmap ad)).toList ++ st.map (vmap ad) := by cases r <;> rfl
    rw [ee] at a1
    exact a1
  · exact hq1.elim
end GH
