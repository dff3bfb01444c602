/-! Calls on a builder of text, copies of bytes, where texts come from -/
theorem sel_sub {C : String} {y z : MethodName} {s : State} {args : Array Value} (hz : z.cls = y.cls) (hzi : (Cond.instanceMethod z).before args s = true) (hsel : (Cond.selects C z z).before args s = true) (hy : y.cls ≠ "java/lang/invoke/MethodHandle" ∧ y.cls ≠ "java/lang/invoke/VarHandle") (hpriv : (Cond.privateMethod y).before args s = true) (hinst : (Cond.instanceMethod y).before args s = true) : (Cond.selects C y y).before args s = true := by
  obtain ⟨c, r, m, g1, -, g3, -, k, g5, g6⟩ := Cond.selects_spec hsel
  obtain ⟨mk, methM, hnamed, hmethM, -, -⟩ := Cond.instanceMethod_spec hinst
  have hfound : s.methodFound? y.cls y.name y.desc = some mk := State.methodFound?_of_named hnamed hy
  have hcls : mk.cls = m.cls := Option.some.inj ((findClass_of_methodNamed hnamed).symm.trans (by rw [← hz]; exact findClass_of_methodNamed g3))
  have hs : selectMethod {} s.vm c mk = .method mk := selectMethod_private hmethM (Cond.privateMethod_at hpriv mk methM hnamed hmethM)
  simp only [Cond.before, Cond.holds, Cond.value, g1, hfound, hnamed, hs, hcls, g5]
  simp; exact g6
section KMU
variable {own : String} {cc : ByteArray} {nL d kc kn pc : Nat} {Γ : Cz} {lv : List (Option Value)} {st : List Value} {ws : va_W} {Φ : State → Prop} {ad : Nat → Nat} {tx : TXo} {cy0 : Nat → ClassId}
/-- what a call on a builder stands on -/
def CUk (own C owner : String) (idx : Nat) (x y : MethodName) (cb : ByteArray) (mL : Nat) (rt : Option FieldType) (n : Nat) : Prop := ∀ (R : Room) (s : State) (args : Array Value) (d c0 n0 : Nat), (∀ w ∈ bigW, w.before args s = true) → NWc s → d + 1 ≤ R.frames → 64 * (d + 1) ≤ R.locals → va_CU R s args own C owner idx x y cb mL rt (Cond.code y cb mL rt :: bigW) (rmK d c0 n0) c0 n0 n
theorem km_callU (hv : VM ad tx cy0 Γ) (h : Vk own cc nL (d + 1) Γ) {owner : String} {x y : MethodName} {cb : ByteArray} {mL idx b c0 n0 : Nat} {rt : Option FieldType} {As : List Value} {stk : List Value} {wc wr : va_W} {Q : Option Value → va_W → Prop} (isC isR : List Nat) (tx' : TXo) (hr : Rk Γ (kc + c0) (kn + n0)) (hcu : CUk own RJ4 owner idx x y cb mL rt As.length) (hpl : plainName y.cls = true) (hvi : y.name ≠ "<init>") (hd : decode cc pc = .ok (.invokevirtual idx, 3))
    (q0 : Nat) {fs : List Value} (hrecv : ws[q0]? = some (b, .inr (10, fs)))
    (hent : (lg_sl (.ref b :: As)).length ≤ mL) (hstk : stk = As.reverse ++ .ref b :: st) (hcat : (st.map fun v => v.category).sum ≤ 8)
    (hC : isC.map (fun i => ws[i]?) = wc.map some) (hndC : va_nd isC = true) (hR : isR.map (fun i => ws[i]?) = wr.map some) (hnd : va_nd isR = true) (hCR : ∀ i ∈ isR, i ∉ isC) (hT : TSrc Γ ws wc tx') (hc : KM cy0 ad tx' y cb mL rt d c0 n0 (.ref b :: As) wc Q) (k : ∀ r w1, Q r w1 → CW Γ (kc + c0) (kn + n0) (pc + 3) lv (r.toList ++ st) (wr ++ w1) Φ) : CW Γ kc kn pc lv stk ws Φ := by
  subst hstk
  obtain ⟨p, l, e, R, s, m, args, below, meth, c, dC, dI, cy, A⟩ := Γ
  obtain ⟨hx, hb, hml, hown, hts, hlk, hK, hA, hf, hlo⟩ := h
  intro H locs ls hP hD hS hl
  obtain ⟨rfl, hA1, hpre⟩ := preM hv hK hA hT isC hC hndC hP hD hS
  have hM := met_ofM hpl hent (fun q => absurd q hvi) hc l dC dI H.size
  have hNc : NWc s := hv.2.2.2.2
  have hcell := va_recv (q0 := q0) (ci := 10) (q := (RJ4, TJ4, 4)) hK hP rfl hrecv
  have hrun := va_runU (As := As) (rest := st) (g := F0 m pc ls (As.reverse ++ .ref b :: st)) (cells := kc) (slots := kn) (H := H) (locs := locs) (R := R) (e := e) (l := l) (below := below) (meth := meth) (b := b) (C := RJ4) ⟨hx, hb, hml, hown, hts⟩ hM (hcu R s args d c0 n0 hts hNc hf hlo) ⟨pcm_blind, hcell, fun U hU hW => ⟨rfl, hpre U hU hW⟩⟩ rfl rfl (by show ls.size = nL; rw [hl.1, hml]) rfl (lv_room hcat) hd ⟨hr.1, hr.2⟩
  exact run_backM isC isR hrun hS hA1 hP hD hl hC hR hnd hCR k
/-- a method of the superclass -/
theorem km_callSU (hv : VM ad tx cy0 Γ) (h : Vk RJ4 cc nL (d + 1) Γ) {y : MethodName} {cb : ByteArray} {mL idx b c0 n0 : Nat} {rt : Option FieldType} {As : List Value} {stk : List Value} {wc wr : va_W} {Q : Option Value → va_W → Prop} (isC isR : List Nat) (tx' : TXo) (hr : Rk Γ (kc + c0) (kn + n0)) (hcode : Cond.code y cb mL rt ∈ bigW) (hw : ∀ w ∈ ([.methodLink RJ4 idx y, .sameMethod y.cls y.cls y.name y.desc, .superclass RJ4 y.cls, .instanceMethod y, .initialized y.cls] : List Cond), w ∈ bigW) (hnm : y.name ≠ "<init>" ∧ (parseMethodDescriptor y.desc).map (fun d => d.parameters.length) = some As.length) (hmL : mL ≤ 45) (hpl : plainName y.cls = true) (hd : decode cc pc = .ok (.invokespecial idx, 3))
    (q0 : Nat) {fs : List Value} (hrecv : ws[q0]? = some (b, .inr (10, fs)))
    (hent : (lg_sl (.ref b :: As)).length ≤ mL) (hstk : stk = As.reverse ++ .ref b :: st) (hcat : (st.map fun v => v.category).sum ≤ 8)
    (hC : isC.map (fun i => ws[i]?) = wc.map some) (hndC : va_nd isC = true) (hR : isR.map (fun i => ws[i]?) = wr.map some) (hnd : va_nd isR = true) (hCR : ∀ i ∈ isR, i ∉ isC) (hT : TSrc Γ ws wc tx') (hc : KM cy0 ad tx' y cb mL rt d c0 n0 (.ref b :: As) wc Q) (k : ∀ r w1, Q r w1 → CW Γ (kc + c0) (kn + n0) (pc + 3) lv (r.toList ++ st) (wr ++ w1) Φ) : CW Γ kc kn pc lv stk ws Φ := by
  subst hstk
  obtain ⟨p, l, e, R, s, m, args, below, meth, c, dC, dI, cy, A⟩ := Γ
  obtain ⟨hx, hb, hml, hown, hts, hlk, hK, hA, hf, hlo⟩ := h
  intro H locs ls hP hD hS hl
  obtain ⟨rfl, hA1, hpre⟩ := preM hv hK hA hT isC hC hndC hP hD hS
  have hM := met_ofM hpl hent (fun q => absurd q hnm.1) hc l dC dI H.size
  have hcell := va_recv (q0 := q0) (ci := 10) (q := (RJ4, TJ4, 4)) hK hP rfl hrecv
  have hG : GoodIn bigW (va_wsSU RJ4 idx y (Cond.code y cb mL rt :: bigW)) := by
    intro w hw1
    have hmem : w ∈ bigW := by
      rcases List.mem_append.mp hw1 with h1 | h1
      · exact hw w h1
      · rcases List.mem_cons.mp h1 with rfl | h1 <;> assumption
    exact ⟨hmem, bw_good hmem⟩
  have hrun := va_runSU (As := As) (rest := st) (g := F0 m pc ls (As.reverse ++ .ref b :: st)) (cells := kc) (slots := kn) (H := H) (locs := locs) (R := R) (e := e) (l := l) (below := below) (meth := meth) (b := b) (C := RJ4) (hK.1 10 (RJ4, TJ4, 4) rfl).2 ⟨hx, hb, hml, hown, hts⟩ hM (va_cwSU As.length hts hG rfl rfl rfl hnm ⟨hf, by show 8 + (mL + 11) + 64 * d ≤ R.locals; omega⟩) ⟨pcm_blind, hcell, fun U hU hW => ⟨rfl, hpre U hU hW⟩⟩ rfl rfl (by show ls.size = nL; rw [hl.1, hml]) rfl (lv_room hcat) hd ⟨hr.1, hr.2⟩
  exact run_backM isC isR hrun hS hA1 hP hD hl hC hR hnd hCR k
/-- a copy of a row of bytes -/
theorem km_clone (hv : VM ad tx cy0 Γ) (h : Vk RJ7 cc nL (d + 1) Γ) {a n : Nat} {f : Nat → Int32} (hr : Rk Γ (kc + 1) (kn + n)) (q0 : Nat) (he : ws[q0]? = some (a, .inl (cy0 1, n, .inl f))) (hfit : sb_Fit f)
    (w1 : Cond.methodLink RJ7 310 ⟨"[B", "clone", "()Ljava/lang/Object;"⟩ ∈ bigW) (w2 : Cond.sameMethod "[B" "java/lang/Object" "clone" "()Ljava/lang/Object;" ∈ bigW) (w3 : Cond.native ⟨"java/lang/Object", "clone", "()Ljava/lang/Object;"⟩ ∈ bigW) (w4 : Cond.instanceMethod ⟨"java/lang/Object", "clone", "()Ljava/lang/Object;"⟩ ∈ bigW) (w5 : Cond.selects "[B" ⟨"[B", "clone", "()Ljava/lang/Object;"⟩ ⟨"java/lang/Object", "clone", "()Ljava/lang/Object;"⟩ ∈ bigW)
    (hcat : (st.map fun v => v.category).sum ≤ 8) (hd : decode cc pc = .ok (.invokevirtual 310, 3)) (k : ∀ q, CW Γ (kc + 1) (kn + n) (pc + 3) lv (.ref q :: st) (ws ++ [(q, .inl (cy0 1, n, .inl f))]) Φ) : CW Γ kc kn pc lv (.ref a :: st) ws Φ := by
  obtain ⟨p, l, e, R, s, m, args, below, meth, c, dC, dI, cy, A⟩ := Γ
  obtain ⟨hcy, hv2, hv3, hv4⟩ := hv
  have hcy : cy = cy0 := hcy
  subst hcy
  obtain ⟨hx, hb, hml, hown, hts, hlk, hK, hA, hf, hlo⟩ := h
  intro H locs ls hP hD hS hl
  exact va_clone (x := (n, .inl f)) hx hb hl.1.symm hown (hts _ w1) (hts _ w2) (hts _ w3) (hts _ w4) (hts _ w5) hv4.2.1 hK hP hD hS hA q0 1 he rfl (va_nm_byte (hK.2 1 _ rfl).2) (va_fit (fun i _ => hfit i)) (by omega) (by omega) hr.1 hr.2 hd (fun q H1 _ hP1 hD1 hS1 => k q H1 locs ls hP1 hD1 hS1 hl)
theorem km_castB (hv : VM ad tx cy0 Γ) (h : Vk own cc nL d Γ) {a n idx : Nat} {f : Nat → Int32} (q0 : Nat) (he : ws[q0]? = some (a, .inl (cy0 1, n, .inl f))) (w1 : Cond.classLink own idx "[B" ∈ bigW) (hd : decode cc pc = .ok (.checkcast idx, 3)) (k : CW Γ kc kn (pc + 3) lv (.ref a :: st) ws Φ) : CW Γ kc kn pc lv (.ref a :: st) ws Φ := by
  obtain ⟨p, l, e, R, s, m, args, below, meth, c, dC, dI, cy, A⟩ := Γ
  obtain ⟨hcy, hv2, hv3, hv4⟩ := hv
  have hcy : cy = cy0 := hcy
  subst hcy
  obtain ⟨hx, hb, hml, hown, hts, hlk, hK, hA, hf, hlo⟩ := h
  intro H locs ls hP hD hS hl
  exact va_castA (x := (n, .inl f)) hx hb hown (hts _ w1) hP q0 he (va_nm_byte (hK.2 1 _ rfl).2) hd (k H locs ls hP hD hS hl)
/-- System.arraycopy of bytes -/
theorem km_copyi (hv : VM ad tx cy0 Γ) (h : Vk own cc nL (d + 1) Γ) {a0 a1 n0 n1 idx sp dp n : Nat} {f g : Nat → Int32} (q0 q1 : Nat) (he0 : ws[q0]? = some (a0, .inl (cy0 1, n0, .inl f))) (he1 : ws[q1]? = some (a1, .inl (cy0 1, n1, .inl g))) (w1 : Cond.methodLink own idx arraycopyName ∈ bigW) (hfit : sb_Fit f) (h4 : sp + n ≤ n0) (h5 : dp + n ≤ n1) (hb0 : n0 < 2 ^ 31) (hb1 : n1 < 2 ^ 31) (hcat : (st.map fun v => v.category).sum ≤ 8) (hd : decode cc pc = .ok (.invokestatic idx, 3))
    (k : CW Γ kc kn (pc + 3) lv st (ws.set q1 (a1, .inl (cy0 1, n1, .inl (va_cpy f g sp dp n)))) Φ) : CW Γ kc kn pc lv (.int (nI n) :: .int (nI dp) :: .ref a1 :: .int (nI sp) :: .ref a0 :: st) ws Φ := by
  obtain ⟨p, l, e, R, s, m, args, below, meth, c, dC, dI, cy, A⟩ := Γ
  obtain ⟨hcy, hv2, hv3, hv4⟩ := hv
  have hcy : cy = cy0 := hcy
  subst hcy
  obtain ⟨hx, hb, hml, hown, hts, hlk, hK, hA, hf, hlo⟩ := h
  intro H locs ls hP hD hS hl
  have hl2 : (st.map fun v => v.category).sum + (nativeFrameWords "java/lang/System" "arraycopy" 5 + 11) ≤ R.locals := by
    have : nativeFrameWords "java/lang/System" "arraycopy" 5 ≤ 40 := by decide +kernel
    omega
  refine va_copyi (q0 := q0) (q1 := q1) (t0 := 1) (t1 := 1) (ty := .byte) hx hb hl.1.symm hown (hts _ w1) (hts _ nat_ac) (hts _ sm_ac) (hts _ ini_J10) hK hP hD hS he0 he1 rfl rfl rfl (nI_pos (by omega)) (nI_pos (by omega)) (nI_pos (by omega)) (by rw [nI_clamp (by omega), nI_clamp (by omega)]; exact h4) (by rw [nI_clamp (by omega), nI_clamp (by omega)]; exact h5) (fun i _ => hfit _) (by omega) hl2 hd (fun H1 locs1 hP1 hD1 hS1 => ?_)
  rw [nI_clamp (n := sp) (by omega), nI_clamp (n := dp) (by omega), nI_clamp (n := n) (by omega)] at hP1 hD1
  exact k H1 locs1 ls hP1 hD1 hS1 hl
theorem va_T.to {ty : FieldType} {t N : Nat} {f g : Nat → Value} {A : Nat → Prop} {U : State} {H : Heap} (h : va_T ty t N f A U H) (e : ∀ j, j < N → f j = g j) : va_T ty t N g A U H := by
  obtain ⟨cell, h1, h2, h3, h4, h5, h6, h7⟩ := h
  exact ⟨cell, h1, h2, h3, h4, h5, fun j hj => by rw [← e j hj]; exact h6 j hj, h7⟩
theorem fit_lt {c : Nat} (h : c < 128) : fits .byte (.int (nI c)) = true := by
  have : ∀ c, c < 128 → fits .byte (.int (nI c)) = true := by decide +kernel
  exact this c h
theorem TX.let {b y n : Nat} {f : Nat → Nat} {A : Nat → Prop} {U : State} {H : Heap} (h : TX b y n f A U H) : n < 65536 ∧ ∀ j, j < n → f j < 128 := h.2.2.2.2
/-- System.arraycopy of the text's bytes -/
theorem km_copyt {b y : Nat} {tl : List Nat} (hv : VM ad (some (b, y, tl)) cy0 Γ) (h : Vk own cc nL (d + 1) Γ) {a1 n1 idx sp dp n : Nat} {g : Nat → Int32} (q1 : Nat) (he1 : ws[q1]? = some (a1, .inl (cy0 1, n1, .inl g))) (w1 : Cond.methodLink own idx arraycopyName ∈ bigW) (h4 : sp + n ≤ tl.length) (h5 : dp + n ≤ n1) (hb1 : n1 < 2 ^ 31) (hcat : (st.map fun v => v.category).sum ≤ 8) (hd : decode cc pc = .ok (.invokestatic idx, 3))
    (k : CW Γ kc kn (pc + 3) lv st (ws.set q1 (a1, .inl (cy0 1, n1, .inl (va_cpy (fun j => nI (tl.getD j 0)) g sp dp n)))) Φ) : CW Γ kc kn pc lv (.int (nI n) :: .int (nI dp) :: .ref a1 :: .int (nI sp) :: .ref y :: st) ws Φ := by
  obtain ⟨p, l, e, R, s, m, args, below, meth, c, dC, dI, cy, A⟩ := Γ
  obtain ⟨hcy, hv2, hv3, hv4⟩ := hv
  have hcy : cy = cy0 := hcy
  subst hcy
  have hX : TX b y tl.length (fun j => tl.getD j 0) A s s.heap := hv4.1
  obtain ⟨hn, hc128⟩ := hX.let
  obtain ⟨hx, hb, hml, hown, hts, hlk, hK, hA, hf, hlo⟩ := h
  intro H locs ls hP hD hS hl
  have hl2 : (st.map fun v => v.category).sum + (nativeFrameWords "java/lang/System" "arraycopy" 5 + 11) ≤ R.locals := by
    have : nativeFrameWords "java/lang/System" "arraycopy" 5 ≤ 40 := by decide +kernel
    omega
  refine vk_copyt (q1 := q1) (t1 := 1) (f := fun j => nI (tl.getD j 0)) hx hb hl.1.symm hown (hts _ w1) (hts _ nat_ac) (hts _ sm_ac) (hts _ ini_J10) hK hP hD hS hX.2.2.2.1 he1 rfl (nI_pos (by omega)) (nI_pos (by omega)) (nI_pos (by omega)) (by rw [nI_clamp (by omega), nI_clamp (by omega)]; exact h4) (by rw [nI_clamp (by omega), nI_clamp (by omega)]; exact h5) (fun i hi => by rw [nI_clamp (by omega)] at hi ⊢; exact fit_lt (hc128 _ (by omega))) (by omega) hl2 hd (fun H1 locs1 hP1 hD1 hS1 => ?_)
  rw [nI_clamp (n := sp) (by omega), nI_clamp (n := dp) (by omega), nI_clamp (n := n) (by omega)] at hP1 hD1
  exact k H1 locs1 ls hP1 hD1 hS1 hl
/-- reading the text -/
theorem km_txV {b y : Nat} {tl : List Nat} (hv : VM ad (some (b, y, tl)) cy0 Γ) (h : Vk own cc nL d Γ) {idx : Nat} (hl0 : Cond.fieldLink own idx "java/lang/String" "value" "[B" ∈ bigW) (hd : decode cc pc = .ok (.getfield idx, 3)) (k : CW Γ kc kn (pc + 3) lv (.ref y :: st) ws Φ) : CW Γ kc kn pc lv (.ref b :: st) ws Φ := by
  obtain ⟨p, l, e, R, s, m, args, below, meth, c, dC, dI, cy, A⟩ := Γ
  have hX : TX b y tl.length (fun j => tl.getD j 0) A s s.heap := hv.2.2.2.1
  obtain ⟨hx, hb, hml, hown, hts, hlk, hK, hA, hf, hlo⟩ := h
  intro H locs ls hP hD hS hl
  exact vk_getf hx hb hX.2.2.1 hS hown (hts _ hl0) (fun _ h9 => h9) hd (k H locs ls hP hD hS hl)
theorem km_txC {b y : Nat} {tl : List Nat} (hv : VM ad (some (b, y, tl)) cy0 Γ) (h : Vk own cc nL d Γ) {idx : Nat} (hl0 : Cond.fieldLink own idx "java/lang/String" "coder" "B" ∈ bigW) (hd : decode cc pc = .ok (.getfield idx, 3)) (k : CW Γ kc kn (pc + 3) lv (.int 0 :: st) ws Φ) : CW Γ kc kn pc lv (.ref b :: st) ws Φ := by
  obtain ⟨p, l, e, R, s, m, args, below, meth, c, dC, dI, cy, A⟩ := Γ
  have hX : TX b y tl.length (fun j => tl.getD j 0) A s s.heap := hv.2.2.2.1
  obtain ⟨hx, hb, hml, hown, hts, hlk, hK, hA, hf, hlo⟩ := h
  intro H locs ls hP hD hS hl
  exact vk_getf hx hb hX.2.1 hS hown (hts _ hl0) (fun _ h9 => h9) hd (k H locs ls hP hD hS hl)
theorem km_txL {b y : Nat} {tl : List Nat} (hv : VM ad (some (b, y, tl)) cy0 Γ) (h : Vk own cc nL d Γ) (hd : decode cc pc = .ok (.arraylength, 1)) (k : tl.length < 65536 → CW Γ kc kn (pc + 1) lv (.int (nI tl.length) :: st) ws Φ) : CW Γ kc kn pc lv (.ref y :: st) ws Φ := by
  obtain ⟨p, l, e, R, s, m, args, below, meth, c, dC, dI, cy, A⟩ := Γ
  have hX : TX b y tl.length (fun j => tl.getD j 0) A s s.heap := hv.2.2.2.1
  obtain ⟨hx, hb, hml, hown, hts, hlk, hK, hA, hf, hlo⟩ := h
  intro H locs ls hP hD hS hl
  exact va_tlen hx hb hX.2.2.2.1 hS rfl hd (k hX.let.1 H locs ls hP hD hS hl)
end KMU
/-! where texts come from -/
theorem inW_J0 : ∀ w ∈ u_ws RJ0 TJ0 4, w ∈ bigW := fun w h => bw_in ((by decide +kernel : ∀ w ∈ u_ws RJ0 TJ0 4, w ∈ lw_tbl) w h) ((by decide +kernel : ∀ w ∈ u_ws RJ0 TJ0 4, goodWord w = true) w h)
theorem inW_J4 : ∀ w ∈ u_ws RJ4 TJ4 4, w ∈ bigW := fun w h => bw_in ((by decide +kernel : ∀ w ∈ u_ws RJ4 TJ4 4, w ∈ lw_tbl) w h) ((by decide +kernel : ∀ w ∈ u_ws RJ4 TJ4 4, goodWord w = true) w h)
def kS (i : Nat) : List Nat := (kByt.getD i []).map (fun c => c.toNatClampNeg)
theorem kS_ok : ∀ i, i < 48 → kLen.getD i 0 = (kS i).length ∧ (kS i).length < 65536 ∧ ∀ j, j < (kS i).length → (kByt.getD i []).getD j 0 = nI ((kS i).getD j 0) ∧ (kS i).getD j 0 < 128 := by decide +kernel
theorem ts_ro {Γ : Cz} {ws wc : va_W} {ad : Nat → Nat} (h : Vs ad Γ) {i : Nat} (hi : i < 48) : TSrc Γ ws wc (some (ad (200 + i), ad (300 + i), kS i)) := by
  obtain ⟨p, l, e, R, s, m, args, below, meth, c, dC, dI, cy, A⟩ := Γ
  have hRO : RO ad A s s.heap := h
  obtain ⟨e1, e2, e3⟩ := kS_ok i hi
  obtain ⟨g1, g2, g3, g4⟩ := hRO.str.1 i hi
  rw [e1] at g4
  have hX : TX (ad (200 + i)) (ad (300 + i)) (kS i).length (fun j => (kS i).getD j 0) A s s.heap := ⟨g1, g2, g3, g4.to (fun j hj => by rw [(e3 j hj).1]), e2, fun j hj => (e3 j hj).2⟩
  intro H locs U hP hD hS hU hW hF hK
  subst hU
  exact (((hX.kept hS.2.1).moved hW.alike).narrow hF : TX (ad (200 + i)) (ad (300 + i)) (kS i).length (fun j => (kS i).getD j 0) (va_A wc U.heap.size) U U.heap)
/-- a text of the world: its letters are these bytes -/
def LT (l : List Nat) (g : Nat → Int32) : Prop := l.length < 65536 ∧ ∀ j, j < l.length → g j = nI (l.getD j 0) ∧ l.getD j 0 < 128
theorem ts_w {Γ : Cz} {ws wc : va_W} {own : String} {cc : ByteArray} {nL d : Nat} (h : Vk own cc nL d Γ) {cy0 : Nat → ClassId} (hcy : cyOf Γ = cy0) (isC : List Nat) (hC : isC.map (fun i => ws[i]?) = wc.map some) {b y : Nat} {u v : Value} {l : List Nat} {g : Nat → Int32} (q1 q2 : Nat) (h1 : ws[q1]? = some (b, .inr (9, [.ref y, .int 0, u, v]))) (h2 : ws[q2]? = some (y, .inl (cy0 1, l.length, .inl g))) (hl : LT l g) (n1 : q1 ∉ isC) (n2 : q2 ∉ isC) : TSrc Γ ws wc (some (b, y, l)) := by
  subst hcy
  obtain ⟨p, lc, e, R, s, m, args, below, meth, c, dC, dI, cy, A⟩ := Γ
  obtain ⟨hx, hb, hml, hown, hts, hlk, hK0, hA, hf, hlo⟩ := h
  intro H locs U hP hD hS hU hW hF hK
  subst hU
  have nin : ∀ (q : Nat) (z : Nat × va_E), ws[q]? = some z → q ∉ isC → z.1 < U.heap.size → ¬ va_A wc U.heap.size z.1 := by
    intro q z hz hq hlt hA1
    rcases hA1 with ⟨k, e, hk⟩ | hk
    · have h9 : (isC.map (fun i => ws[i]?))[k]? = some (some (z.1, e)) := by rw [hC, List.getElem?_map, hk]; rfl
      rw [List.getElem?_map] at h9
      obtain ⟨i, i1, i2⟩ := Option.map_eq_some_iff.mp h9
      have := hD.1 q i z (z.1, e) hz i2 rfl
      subst this
      exact hq (List.mem_of_getElem? i1)
    · omega
  have l1 := (hP q1 _ h1).lt
  have l2 := (hP q2 _ h2).lt
  obtain ⟨r, r1, cell, r2, r3, r4, r5⟩ := hP q1 _ h1
  cases r1
  have hKn := hK.1 9 (RJ0, TJ0, 4) rfl
  have fld : ∀ k, k < 4 → ∀ w, vp_V [.ref y, .int 0, u, v] k = w → va_OF (TJ0 k).1 (TJ0 k).2.1 (TJ0 k).2.2.1 w b (va_A wc U.heap.size) U U.heap := by
    intro k hk w hw
    obtain ⟨cf, kf, fi, fd, f1, f2⟩ := (hK0.1 9 (RJ0, TJ0, 4) rfl).1 k hk
    obtain ⟨s1, kC, s2, s3⟩ := (hK0.1 9 (RJ0, TJ0, 4) rfl).2
    obtain ⟨f3, -, -⟩ := u_facts s1 s2 (u_lays hts inW_J0 hk) f1
    have z : va_OF (TJ0 k).1 (TJ0 k).2.1 (TJ0 k).2.2.1 w b (va_A wc U.heap.size) s U.heap := ⟨cf, kf, fi, fd, cell, f1, f3, r2, (by rw [r4]; exact fun q => (by cases q)), (by rw [f2, ← hw]; exact r5 k hk), nin q1 _ h1 n1 l1⟩
    exact z.moved hW.alike
  have hO : va_O "java/lang/String" b (va_A wc U.heap.size) U U.heap := ⟨cell, r2, by rw [r4]; rfl, by rw [r3]; exact hKn.2.1, nin q1 _ h1 n1 l1⟩
  have hcell : U.heap[y]? = some (arrV (cy 1) l.length (fun j => .int (g j))) := hP q2 _ h2
  refine (⟨hO, fld 1 (by decide) _ rfl, fld 0 (by decide) _ rfl, ⟨_, hcell, (hK.2 1 _ rfl).1 l.length _, fun q => (by cases q), (by rw [arrV_size] <;> exact Nat.le_refl _), (by rw [arrV_size] <;> rfl), fun j hj => by rw [arrV_read _ _ hj, (hl.2 j hj).1], nin q2 _ h2 n2 l2⟩, hl.1, fun j hj => (hl.2 j hj).2⟩ : TX b y l.length (fun j => l.getD j 0) (va_A wc U.heap.size) U U.heap)
