/-! Calls of the pure view's methods from the world's view -/
theorem ga_SpA {y : MethodName} {cb : ByteArray} {mL : Nat} {rt : Option FieldType} {d : Nat} {as : List Value} {I : MI} {J : MJ} {P : MP} {Q : Option Value → MI → MJ → MP → Prop} {ad : Nat → Nat} (h : Sp y cb mL rt d as I J P Q) : SpA ad y cb mL rt d as I J P Q := fun Γ _ hv => h Γ hv
theorem RO.narrow {ad : Nat → Nat} {A B : Nat → Prop} {U : State} {H : Heap} (h : RO ad A U H) (hAB : ∀ q, B q → A q) : RO ad B U H :=
  RO.mk h.nw (h.str.narrow hAB) (h.cs.narrow hAB) (h.fmt.elim (fun q => .inl (q.narrow hAB)) (fun q => .inr (q.narrow hAB))) (h.nms.narrow hAB) (h.nmT.narrow hAB) h.kwR h.syR h.lwR (h.sx.narrow hAB) h.sl (h.tx.elim Or.inl (fun q => Or.inr (q.narrow hAB)))
theorem lawK_lt : ∀ q ∈ lawK, q.2 < 48 := by decide
/-- the read-only things by other numbers, with another text -/
theorem ro_tx {ad ad' : Nat → Nat} {A : Nat → Prop} {U : State} {H : Heap} (h : RO ad A U H) (e : ∀ i, 80 ≤ i → i < 600 → ad' i = ad i) (e2 : ∀ i, 5000 ≤ i → i < 10000 → ad' i = ad i) (ht : ad' 603 = 0 ∨ TX (ad' 600) (ad' 601) (ad' 602) (txN ad') A U H) : RO ad' A U H := by
  refine RO.mk h.nw ⟨fun i hi => ?_, fun i j hi hj q => ?_⟩ h.cs ?_ ?_ ?_ ?_ ?_ (fun q hq => ?_) ?_ ?_ ht
  · dsimp only
    rw [e (200 + i) (by omega) (by omega), e (300 + i) (by omega) (by omega)]
    exact h.str.1 i hi
  · dsimp only at q
    rw [e (200 + i) (by omega) (by omega), e (200 + j) (by omega) (by omega)] at q
    exact h.str.2 i j hi hj q
  · rw [e 400 (by decide) (by decide)]
    exact h.fmt
  · rw [e 401 (by decide) (by decide)]
    exact h.nms
  · rw [e 401 (by decide) (by decide)]
    exact h.nmT.to (fun j hj => by rw [e (236 + j) (by omega) (by omega)])
  · rw [e 228 (by decide) (by decide)]
    exact h.kwR
  · rw [e 229 (by decide) (by decide)]
    exact h.syR
  · have := lawK_lt q hq
    rw [e (200 + q.2) (by omega) (by omega)]
    exact h.lwR q hq
  · have hs := h.sl
    rw [e 500 (by decide) (by decide), e 501 (by decide) (by decide)]
    exact h.sx.to (fun j hj => by unfold sxI; rw [e2 (5000 + j) (by omega) (by omega)])
  · rw [e 501 (by decide) (by decide)]
    exact h.sl
section KMP
variable {own : String} {cc : ByteArray} {nL d kc kn pc : Nat} {Γ : Cz} {lv : List (Option Value)} {st : List Value} {ws : va_W} {Φ : State → Prop} {ad0 : Nat → Nat} {tx : TXo} {cy0 : Nat → ClassId}
/-- the same world in other words -/
theorem k_conv {ws' : va_W} (hP : ∀ (D : va_G) (cl : List vw_C) (H : Heap), va_P D cl ws H → va_P D cl ws' H) (hD : ∀ A : Nat → Prop, va_D A ws → va_D A ws') (k : CW Γ kc kn pc lv st ws' Φ) : CW Γ kc kn pc lv st ws Φ := by
  obtain ⟨p, l, e, R, s, m, args, below, meth, c, dC, dI, cy, A⟩ := Γ
  intro H locs ls hP1 hD1 hS hl
  exact k H locs ls (hP _ _ _ hP1) (hD _ hD1) hS hl
theorem preP {p : Program} {l : Launch} {e : Env} {R : Room} {s : State} {m : MethodId} {args : Array Value} {below : List Frame} {meth : Method} {c : Code} {dC : Nat → ClassId} {dI : Nat → Nat → Nat} {cy : Nat → ClassId} {A : Nat → Prop} {ad : Nat → Nat} {wm : va_W} {tx' : TXo} {I : MI} {J : MJ} {P : MP} {H : Heap} {locs : List Loc}
    (hv : VM ad0 tx cy0 (p, l, e, R, s, m, args, below, meth, c, dC, dI, cy, A)) (hK : va_K (dC, dI) vwCl (tysO cy) s) (hA : ∀ q, s.heap.size ≤ q → A q) (hT : TSrc (p, l, e, R, s, m, args, below, meth, c, dC, dI, cy, A) ws wm tx') (is : List Nat) (hC : is.map (fun i => ws[i]?) = wm.map some) (hnd : va_nd is = true)
    (hWP : ∀ (D : va_G) (cl : List vw_C) (H : Heap), va_P D cl wm H → va_P D cl (wsO ad cy0 I J P) H) (hWD : ∀ A : Nat → Prop, va_D A wm → (∀ i j, i < 80 → j < 80 → ad i = ad j → i = j) ∧ ∀ i, i < 80 → A (ad i))
    (e1 : ∀ i, 80 ≤ i → i < 600 → ad i = ad0 i) (e2 : ∀ i, 5000 ≤ i → i < 10000 → ad i = ad0 i) (etx : ad 603 = 0 ∨ ∃ b y tl, tx' = some (b, y, tl) ∧ ad 600 = b ∧ ad 601 = y ∧ ad 602 = tl.length ∧ txN ad = fun j => tl.getD j 0)
    (hP : va_P (dC, dI) vwCl ws H) (hD : va_D A ws) (hS : va_S A s.heap H locs) : cy = cy0 ∧ (∀ i j, i < 80 → j < 80 → ad i = ad j → i = j) ∧ (∀ i, i < 80 → A (ad i)) ∧ (∀ q, va_A (wsO ad cy0 I J P) H.size q → A q) ∧ (∀ q, va_A (wsO ad cy0 I J P) H.size q → va_A wm H.size q) ∧ ∀ U : State, U.heap = H → s.WarmedH U.vm → PcO ad dC dI cy0 H.size I J P U := by
  have hv0 := hv
  obtain ⟨h1, h2, h3, h4⟩ := hv
  have h1 : cy = cy0 := h1
  subst h1
  have hRO : RO ad0 A s s.heap := h2
  have hPm : va_P (dC, dI) vwCl wm H := fun k q hk => by
    have h1 : (is.map (fun i => ws[i]?))[k]? = some (some q) := by rw [hC, List.getElem?_map, hk]; rfl
    rw [List.getElem?_map] at h1
    obtain ⟨i, i1, i2⟩ := Option.map_eq_some_iff.mp h1
    exact hP i q i2
  have hDm := hD.sub (ws' := wm) is hnd hC
  obtain ⟨d1, d2⟩ := hWD A hDm
  obtain ⟨-, d3⟩ := hWD _ (hDm.self (sz := H.size))
  have hFm := va_free (wc := wm) hD hS hA is hC
  have hsub : ∀ q, va_A (wsO ad cy I J P) H.size q → va_A wm H.size q := fun q z => by
    rcases z with ⟨k, e, hk⟩ | z
    · obtain ⟨k1, k2⟩ := wsO_ix hk
      have := d3 k k1
      rw [show ad k = q from (congrArg Prod.fst k2).symm] at this
      exact this
    · exact Or.inr z
  refine ⟨rfl, d1, d2, fun q z => hFm q (hsub q z), hsub, fun U hU hW => ⟨by rw [hU], by rw [hU]; exact hWP _ _ _ hPm, va_K.moved hW.alike hK, ?_⟩⟩
  have hX := hT H locs U hP hD hS hU hW hFm (va_K.moved hW.alike hK)
  refine RO.narrow (A := va_A wm H.size) (ro_tx (hRO.call hS hW hU hFm) e1 e2 ?_) hsub
  rcases etx with q | ⟨b, y, tl, q1, q2, q3, q4, q5⟩
  · exact Or.inl q
  · subst q1
    rw [q2, q3, q4, q5]
    exact Or.inr hX
theorem run_backP {st : List Value} {lv : List (Option Value)} {wm wr : va_W} {p : Program} {l : Launch} {e : Env} {R : Room} {s : State} {m : MethodId} {args : Array Value} {below : List Frame} {meth : Method} {c : Code} {H : Heap} {locs : List Loc} {ls : Array Slot} {dC : Nat → ClassId} {dI : Nat → Nat → Nat} {cy : Nat → ClassId} {A : Nat → Prop} {stk : List Value} {a : Array Value} {ad : Nat → Nat} {I : MI} {J : MJ} {P : MP} {Q : Option Value → MI → MJ → MP → Prop} (is isR : List Nat)
    (hr : va_Run p l e R s m args below meth c H locs kc kn 0 0 (F0 m pc ls stk) st (Qn ad dC dI cy (va_A (wsO ad cy I J P) H.size) Q a) (va_A (wsO ad cy I J P) H.size)) (hS : va_S A s.heap H locs) (hA1 : ∀ q, va_A (wsO ad cy I J P) H.size q → A q) (hsub : ∀ q, va_A (wsO ad cy I J P) H.size q → va_A wm H.size q) (hin : ∀ i j, i < 80 → j < 80 → ad i = ad j → i = j) (hAd : ∀ i, i < 80 → va_A wm H.size (ad i)) (hFm : ∀ q, va_A wm H.size q → A q) (hP : va_P (dC, dI) vwCl ws H) (hD : va_D A ws) (hl : lv_has ls c.maxLocals (asl id 0 lv))
    (hC : is.map (fun i => ws[i]?) = wm.map some) (hR : isR.map (fun i => ws[i]?) = wr.map some) (hnd : va_nd isR = true) (hCR : ∀ i ∈ isR, i ∉ is)
    (hq : ∀ r I' J' P', Q r I' J' P' → CW (p, l, e, R, s, m, args, below, meth, c, dC, dI, cy, A) kc kn (pc + 3) lv ((r.map (vmap ad)).toList ++ st) (wr ++ wsO ad cy I' J' P') Φ) : W p l e R s m args below meth c H locs kc kn Φ (F0 m pc ls stk) := by
  intro T hT X
  obtain ⟨v, st₀, t, T', L, h0, X', hL, e1, e2, ⟨⟨r, I1, J1, P1, hv, hq1, hP1, -⟩, hz, hk⟩, stp⟩ := hr T hT X
  cases hv
  rw [h0] at hz hk
  have hS1 : va_S A s.heap T'.heap (locs ++ L) := ⟨Nat.le_trans hS.1 (by rw [e1]; exact hz), fun q h1 h2 => by rw [e1, hk q (Nat.lt_of_lt_of_le h1 hS.1) (fun z => h2 (hA1 q z))]; exact hS.2.1 q h1 h2, fun q hq => by
      rcases List.mem_append.mp hq with h | h
      · exact hS.2.2 q h
      · exact hA1 _ (hL q h)⟩
  rw [← e1] at hP1
  obtain ⟨hP2, hD2⟩ := va_join (wr := wr) (w1 := wsO ad cy I1 J1 P1) hP hD is isR hC hR hnd hCR (fun q h1 h2 => by rw [e1]; exact hk q h1 (fun z => h2 (hsub q z))) hFm hP1 (wsO_D hin hAd)
  obtain ⟨t2, a1, b1⟩ := hq _ _ _ _ hq1 T'.heap (locs ++ L) ls hP2 hD2 hS1 hl T' rfl X'
  exact ⟨t2, stp t2 a1, b1⟩
/-- a static method of the pure view -/
theorem km_callSP (hv : VM ad0 tx cy0 Γ) (h : Vk own cc nL (d + 1) Γ) (hrk : Rk Γ kc kn) {y : MethodName} {cb : ByteArray} {mL idx : Nat} {rt : Option FieldType} {As : List Value} {stk : List Value} {wm wr : va_W} {ad : Nat → Nat} {I : MI} {J : MJ} {P : MP} {Q : Option Value → MI → MJ → MP → Prop} (is isR : List Nat) (tx' : TXo) (hm : MIs y cb mL rt As.length) (hd : decode cc pc = .ok (.invokestatic idx, 3)) (hl0 : Cond.methodLink own idx y ∈ bigW) (hent : (entA As).length ≤ mL) (hstk : stk = (As.map (vmap ad)).reverse ++ st) (hcat : (st.map fun v => v.category).sum ≤ 8)
    (hT : TSrc Γ ws wm tx') (hC : is.map (fun i => ws[i]?) = wm.map some) (hndC : va_nd is = true) (hR : isR.map (fun i => ws[i]?) = wr.map some) (hnd : va_nd isR = true) (hCR : ∀ i ∈ isR, i ∉ is)
    (hWP : ∀ (D : va_G) (cl : List vw_C) (H : Heap), va_P D cl wm H → va_P D cl (wsO ad cy0 I J P) H) (hWD : ∀ A : Nat → Prop, va_D A wm → (∀ i j, i < 80 → j < 80 → ad i = ad j → i = j) ∧ ∀ i, i < 80 → A (ad i))
    (e1 : ∀ i, 80 ≤ i → i < 600 → ad i = ad0 i) (e2 : ∀ i, 5000 ≤ i → i < 10000 → ad i = ad0 i) (etx : ad 603 = 0 ∨ ∃ b y tl, tx' = some (b, y, tl) ∧ ad 600 = b ∧ ad 601 = y ∧ ad 602 = tl.length ∧ txN ad = fun j => tl.getD j 0)
    (hc : SpA ad y cb mL rt d As I J P Q) (k : ∀ r I' J' P', Q r I' J' P' → CW Γ kc kn (pc + 3) lv ((r.map (vmap ad)).toList ++ st) (wr ++ wsO ad cy0 I' J' P') Φ) : CW Γ kc kn pc lv stk ws Φ := by
  subst hstk
  obtain ⟨p, l, e, R, s, m, args, below, meth, c, dC, dI, cy, A⟩ := Γ
  obtain ⟨hx, hb, hml, hown, hts, hlk, hK, hA, hf, hlo⟩ := h
  obtain ⟨m1, m2, m4, m5, m6, m7⟩ := hm
  intro H locs ls hP hD hS hl
  obtain ⟨rfl, hin, hAd, hA1, hsub, hpre⟩ := preP hv hK hA hT is hC hndC hWP hWD e1 e2 etx hP hD hS
  have hDm := hD.sub (ws' := wm) is hndC hC
  have hFm := va_free (wc := wm) hD hS hA is hC
  have hM := met_ofA m5 hent hc l dC dI cy H.size hin
  have hG : ∀ w ∈ va_wsS own idx y (Cond.code y cb mL rt :: bigW), w ∈ bigW := by
    intro w hw
    rcases List.mem_append.mp hw with h1 | h1
    · simp only [List.mem_cons, List.not_mem_nil, or_false] at h1
      rcases h1 with rfl | rfl | rfl <;> assumption
    · rcases List.mem_cons.mp h1 with rfl | h1 <;> assumption
  have hG2 : GoodIn bigW (Cond.code y cb mL rt :: bigW) := fun w hw => ⟨hG w (List.mem_append_right _ hw), bw_good (hG w (List.mem_append_right _ hw))⟩
  have hcb : CallB R s args own idx y cb mL rt (Cond.code y cb mL rt :: bigW) (rmO d) 0 0 As.length := callB_of As.length hts hG2 rfl rfl rfl (hts _ m4) (hts _ hl0) m6 ⟨hf, by show 8 + (mL + 11) + 64 * d ≤ R.locals; omega⟩
  have hrun := va_runS (As := As.map (vmap ad)) (rest := st) (g := F0 m pc ls ((As.map (vmap ad)).reverse ++ st)) (cells := kc) (slots := kn) (H := H) (locs := locs) (R := R) (e := e) (l := l) (below := below) (meth := meth) ⟨hx, hb, hml, hown, hts⟩ hM ⟨hcb, hts _ m2⟩ ⟨pco_blind, fun U hU hW => ⟨rfl, hpre U hU hW⟩⟩ rfl (by simp) (by show ls.size = nL; rw [hl.1, hml]) rfl (lv_room hcat) hd ⟨hrk.1, hrk.2⟩
  exact run_backP is isR hrun hS hA1 hsub hin (hWD _ (hDm.self (sz := H.size))).2 hFm hP hD hl hC hR hnd hCR k
/-- a method of an object -/
theorem km_callVP (hv : VM ad0 tx cy0 Γ) (h : Vk own cc nL (d + 1) Γ) (hrk : Rk Γ kc kn) {y : MethodName} {cb : ByteArray} {mL idx b ci : Nat} {ks : List Nat} {qc : vw_C} {rt : Option FieldType} {As : List Value} {stk : List Value} {wm wr : va_W} {ad : Nat → Nat} {I : MI} {J : MJ} {P : MP} {Q : Option Value → MI → MJ → MP → Prop} (is isR : List Nat) (tx' : TXo) (hm : MIv y cb mL rt As.length) (hd : decode cc pc = .ok (.invokevirtual idx, 3)) (hl0 : Cond.methodLink own idx y ∈ bigW) (hs : shp b = .inl (ci, ks)) (hci : vwCl[ci]? = some qc) (hqc : qc.1 = y.cls) (hb80 : b < 80) (hent : (entA (.ref b :: As)).length ≤ mL) (hstk : stk = (As.map (vmap ad)).reverse ++ .ref (ad b) :: st) (hcat : (st.map fun v => v.category).sum ≤ 8)
    (hT : TSrc Γ ws wm tx') (hC : is.map (fun i => ws[i]?) = wm.map some) (hndC : va_nd is = true) (hR : isR.map (fun i => ws[i]?) = wr.map some) (hnd : va_nd isR = true) (hCR : ∀ i ∈ isR, i ∉ is)
    (hWP : ∀ (D : va_G) (cl : List vw_C) (H : Heap), va_P D cl wm H → va_P D cl (wsO ad cy0 I J P) H) (hWD : ∀ A : Nat → Prop, va_D A wm → (∀ i j, i < 80 → j < 80 → ad i = ad j → i = j) ∧ ∀ i, i < 80 → A (ad i))
    (e1 : ∀ i, 80 ≤ i → i < 600 → ad i = ad0 i) (e2 : ∀ i, 5000 ≤ i → i < 10000 → ad i = ad0 i) (etx : ad 603 = 0 ∨ ∃ b y tl, tx' = some (b, y, tl) ∧ ad 600 = b ∧ ad 601 = y ∧ ad 602 = tl.length ∧ txN ad = fun j => tl.getD j 0)
    (hc : SpA ad y cb mL rt d (.ref b :: As) I J P Q) (k : ∀ r I' J' P', Q r I' J' P' → CW Γ kc kn (pc + 3) lv ((r.map (vmap ad)).toList ++ st) (wr ++ wsO ad cy0 I' J' P') Φ) : CW Γ kc kn pc lv stk ws Φ := by
  subst hstk
  obtain ⟨p, l, e, R, s, m, args, below, meth, c, dC, dI, cy, A⟩ := Γ
  obtain ⟨hx, hb, hml, hown, hts, hlk, hK, hA, hf, hlo⟩ := h
  obtain ⟨m1, m2, m3, m4, m5, m6, m7⟩ := hm
  intro H locs ls hP hD hS hl
  obtain ⟨rfl, hin, hAd, hA1, hsub, hpre⟩ := preP hv hK hA hT is hC hndC hWP hWD e1 e2 etx hP hD hS
  have hDm := hD.sub (ws' := wm) is hndC hC
  have hFm := va_free (wc := wm) hD hS hA is hC
  have hM := met_ofA m5 hent hc l dC dI cy H.size hin
  have hPm : va_P (dC, dI) vwCl wm H := fun k q hk => by
    have h1 : (is.map (fun i => ws[i]?))[k]? = some (some q) := by rw [hC, List.getElem?_map, hk]; rfl
    rw [List.getElem?_map] at h1
    obtain ⟨i, i1, i2⟩ := Option.map_eq_some_iff.mp h1
    exact hP i q i2
  have he : (wsO ad cy I J P)[b]? = some (ad b, .inr (ci, fvs ad I J P b 0 ks)) := by rw [wsO_at hb80, cel, hs]
  have hrecv := va_recv hK (hWP _ _ _ hPm) (ci := ci) (q0 := b) hci he
  rw [hqc] at hrecv
  have hG : GoodIn bigW (wsV own idx y.cls y (Cond.code y cb mL rt :: bigW)) := by
    intro w hw
    have hmem : w ∈ bigW := by
      rcases List.mem_append.mp hw with h1 | h1
      · simp only [List.mem_cons, List.not_mem_nil, or_false] at h1
        rcases h1 with rfl | rfl | rfl | rfl <;> assumption
      · rcases List.mem_cons.mp h1 with rfl | h1 <;> assumption
    exact ⟨hmem, bw_good hmem⟩
  have hrun := va_runV (As := As.map (vmap ad)) (rest := st) (g := F0 m pc ls ((As.map (vmap ad)).reverse ++ .ref (ad b) :: st)) (cells := kc) (slots := kn) (H := H) (locs := locs) (R := R) (e := e) (l := l) (below := below) (meth := meth) (b := ad b) (C := y.cls) ⟨hx, hb, hml, hown, hts⟩ hM (cwV As.length hts hG rfl rfl rfl ⟨rfl, m6⟩ ⟨hf, by show 8 + (mL + 11) + 64 * d ≤ R.locals; omega⟩) ⟨pco_blind, hrecv, fun U hU hW => ⟨rfl, hpre U hU hW⟩⟩ rfl (by simp) (by show ls.size = nL; rw [hl.1, hml]) rfl (lv_room hcat) hd ⟨hrk.1, hrk.2⟩
  exact run_backP is isR hrun hS hA1 hsub hin (hWD _ (hDm.self (sz := H.size))).2 hFm hP hD hl hC hR hnd hCR k
end KMP
