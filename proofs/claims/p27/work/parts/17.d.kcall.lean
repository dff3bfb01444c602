/-! The making of objects: new, and calls of constructors -/
def NWk (own : String) (idx ci N : Nat) (fs : List Value) : Prop := ∃ (C : String) (T : u_T) (ty0 : Nat → FieldType), vwCl[ci]? = some (C, T, N) ∧ (∀ w ∈ u_ws C T N, w ∈ bigW) ∧ (∀ k, k < N → parseFieldDescriptor (T k).2.2.1 = some (ty0 k)) ∧ Cond.classLink own idx C ∈ bigW ∧ Cond.instantiable C N ∈ bigW ∧ Cond.initialized C ∈ bigW ∧ ∀ j, j < N → defaultValue (ty0 j) = vp_V fs j
def mnF : List (String × Nat × MethodName × String) := [(RX10, 9, yX9_init, "QuipuKeepers"), (RX9, 67, yX1_init, "QuipuKeepers"), (RX10, 21, yX6_init, "QuipuKeepers"), (RX10, 48, yX7_init, "QuipuKeepers"), (RX10, 67, yX0_init, "QuipuKeepers")]
def MNW (U : State) : Prop := (∀ q ∈ mnF, va_Nw (.methodLinkNest q.1 q.2.1 q.2.2.1 q.2.2.2) U) ∧ va_AOA .int U
theorem MNW.warm {s U : State} (hW : s.WarmedH U.vm) (h : MNW s) : MNW U := ⟨fun q hq => (h.1 q hq).warmM hW, h.2.moved hW.alike⟩
theorem MNW.same {s U : State} (hv : s.vm = U.vm) (h : MNW s) : MNW U := ⟨fun q hq => (h.1 q hq).same rfl hv, h.2.moved (hv ▸ Vm.Alike.refl s.vm)⟩
def ROx (A : Nat → Prop) (U : State) : Prop := ∃ ad, RO ad A U U.heap
def Vn (Γ : Cz) : Prop := match Γ with
  | (_, _, _, _, s, _, _, _, _, _, _, _, _, A) => MNW s ∧ ROx A s
def rmK (d c n : Nat) : Room := { frames := d, cells := c, slots := n, locals := 64 * d }
def PcK (dC : Nat → ClassId) (dI : Nat → Nat → Nat) (cy : Nat → ClassId) (sz : Nat) (ws : va_W) : State → Prop := fun U => U.heap.size = sz ∧ va_P (dC, dI) vwCl ws U.heap ∧ va_K (dC, dI) vwCl (tysO cy) U ∧ va_D (fun _ => True) ws ∧ MNW U ∧ ROx (va_A ws sz) U
def cyOf (Γ : Cz) : Nat → ClassId := Γ.2.2.2.2.2.2.2.2.2.2.2.2.1
theorem k_na {own : String} {cc : ByteArray} {nL d kc kn pc : Nat} {Γ : Cz} {lv : List (Nat × Value)} {st : List Value} {ws : va_W} {Φ : State → Prop} (h : Vk own cc nL d Γ) {cy0 : Nat → ClassId} (hcy : cyOf Γ = cy0) {at_ : ArrayType} {ty : FieldType} {n : Int32} {N : Nat} {a0 : vp_A} (t : Nat) (hr : Rk Γ (kc + 1) (kn + N)) (hw : Cond.arrayClass (newarray.typeOf at_) ∈ bigW) (hty : newarray.typeOf at_ = ty) (ht : ∀ cy : Nat → ClassId, (tysO cy)[t]? = some (cy t, ty)) (ho : ∀ C, ty ≠ .object C) (ha : ∀ cA : ClassId, vp_cell cA a0 = arrV cA N (fun _ => defaultValue ty)) (hn : ¬ n < 0) (hN : n.toNatClampNeg = N) (hbytes : N * componentBytes ty ≤ 536870912) (hd : decode cc pc = .ok (.newarray at_, 2))
    (k : ∀ q, CV Γ (kc + 1) (kn + N) (pc + 2) lv (.ref q :: st) (ws ++ [(q, .inl (cy0 t, a0))]) Φ) : CV Γ kc kn pc lv (.int n :: st) ws Φ := by
  subst hcy
  exact k_newa h t hr hw hty ht ho ha hn hN hbytes hd k
def KS (cy0 : Nat → ClassId) (y : MethodName) (cb : ByteArray) (mL d c n : Nat) (as : List Value) (lv : List (Nat × Value)) (ws : va_W) (Q : va_W → Prop) 
    : Prop := ∀ Γ : Cz, cyOf Γ = cy0 → Vn Γ → Vk y.cls cb mL d Γ → Vi Γ → Rk Γ c n → CV Γ 0 0 0 lv [] ws (FnK Γ Q c n)
def MIk (y : MethodName) (cb : ByteArray) (mL n : Nat) : Prop := Cond.code y cb mL none ∈ bigW ∧ Cond.instanceMethod y ∈ bigW ∧ Cond.initialized y.cls ∈ bigW ∧ plainName y.cls = true ∧ y.name = "<init>" ∧ (y.cls ≠ "java/lang/invoke/MethodHandle" ∧ y.cls ≠ "java/lang/invoke/VarHandle" ∧ (parseMethodDescriptor y.desc).map (fun d => d.parameters.length) = some n) ∧ mL ≤ 45
theorem met_ofK {y : MethodName} {cb : ByteArray} {mL d c n : Nat} {as : List Value} {lv : List (Nat × Value)} {ws : va_W} {Q : va_W → Prop} (hy : plainName y.cls = true) (hyn : y.name = "<init>") (hlv : ∀ ls : Array Slot, ls = (lg_sl as ++ List.replicate (mL - (lg_sl as).length) Slot.unset).toArray → lv_has ls mL lv) {cy : Nat → ClassId} (hS : KS cy y cb mL d c n as lv ws Q) (l : Launch) (dC : Nat → ClassId) (dI : Nat → Nat → Nat) (sz : Nat) : Met l y (Cond.code y cb mL none :: bigW) (rmK d c n) (va_Pc as (PcK dC dI cy sz ws)) (va_Qv Q (fun ws' t => va_P (dC, dI) vwCl ws' t.heap ∧ va_K (dC, dI) vwCl (tysO cy) t ∧ va_D (va_A ws sz) ws') (va_A ws sz)) c n (va_A ws sz) := by
  refine Met.ofW (cc := cb) (maxL := mL) (ret := none) hy rfl ?_
  intro p e s m args below meth c0 s₁ B hml hv
  obtain ⟨rfl, hsz, hP, hK, hD, hN, hRx⟩ := hv
  have hts := atoms_spec (ws := Cond.code y cb mL none :: bigW) B.pre
  have hin : meth.name = "<init>" := (name_of_methodNamed B.named B.method).1.trans hyn
  have hk := hS (p, l, e, (headSpec (Cond.code y cb mL none :: bigW) (rmK d c n)).room, s, m, _, below, meth, c0, dC, dI, cy, va_A ws sz) rfl ⟨hN, hRx⟩ ⟨B.exec, B.bytes, hml, findClass_of_methodNamed B.named, fun w hw => hts w (List.mem_cons_of_mem _ hw), B.notSynchronized, hK, fun q hq => Or.inr (by rw [← hsz]; exact hq), (show d ≤ d from Nat.le_refl _), (show 64 * d ≤ 64 * d from Nat.le_refl _)⟩ ⟨hin, B.returns⟩ ⟨Nat.le_refl _, Nat.le_refl _⟩
  rw [lg_entry_eq]
  refine hk s.heap [] _ hP hD.self va_S.rf ?_
  rw [hml]
  exact hlv _ rfl
theorem pck_blind {as : List Value} {dC : Nat → ClassId} {dI : Nat → Nat → Nat} {cy : Nat → ClassId} {sz : Nat} {ws : va_W} : FrameBlind (va_Pc as (PcK dC dI cy sz ws)) := by
  intro a U g mk q
  obtain ⟨q0, q1, qP, qK, qD, qN, qR⟩ := q
  exact ⟨q0, q1, qP, va_K.moved (u := U) (U := U.calling g mk a) (Vm.Alike.refl U.vm) qK, qD, MNW.same (s := U) (U := U.calling g mk a) rfl qN, qR.elim fun ad k => ⟨ad, k.calling⟩⟩
section KC
variable {own : String} {cc : ByteArray} {nL d kc kn pc : Nat} {Γ : Cz} {lv : List (Nat × Value)} {st : List Value} {ws : va_W} {Φ : State → Prop}
theorem k_new (h : Vk own cc nL d Γ) {idx ci N : Nat} {fs : List Value} (hr : Rk Γ (kc + 1) (kn + N)) (F : NWk own idx ci N fs) (hd : decode cc pc = .ok (.new idx, 3)) (k : ∀ q, CV Γ (kc + 1) (kn + N) (pc + 3) lv (.ref q :: st) (ws ++ [(q, .inr (ci, fs))]) Φ) : CV Γ kc kn pc lv st ws Φ := by
  obtain ⟨p, l, e, R, s, m, args, below, meth, c, dC, dI, cy, A⟩ := Γ
  obtain ⟨hx, hb, hml, hown, hts, hlk, hK, hA, hf, hlo⟩ := h
  obtain ⟨C, T, ty0, f1, f2, f3, f4, f5, f6, f7⟩ := F
  intro H locs ls hP hD hS hl
  exact va_new hx hb hts f2 ty0 f3 hown (hts _ f4) (hts _ f5) (hts _ f6) hK hP hD hS hA f1 f7 hr.1 hr.2 hd (fun q H1 hP1 hD1 hS1 => k q H1 locs ls hP1 hD1 hS1 hl)
theorem k_call (hn : Vn Γ) (h : Vk own cc nL (d + 1) Γ) {y : MethodName} {cb : ByteArray} {mL idx a c0 n0 : Nat} {As : List Value} {lv2 : List (Nat × Value)} {stk : List Value} {wc wr : va_W} {Q : va_W → Prop} (isC isR : List Nat) (hr : Rk Γ (kc + c0) (kn + n0)) (hm : MIk y cb mL As.length) (hd : decode cc pc = .ok (.invokespecial idx, 3)) (hl0 : Cond.methodLink own idx y ∈ bigW ∨ ∃ host, (own, idx, y, host) ∈ mnF) (hstk : stk = As.reverse ++ .ref a :: st) (hcat : (st.map fun v => v.category).sum ≤ 8) (hlv : ∀ ls : Array Slot, ls = (lg_sl (.ref a :: As) ++ List.replicate (mL - (lg_sl (.ref a :: As)).length) Slot.unset).toArray → lv_has ls mL lv2)
    (hC : isC.map (fun i => ws[i]?) = wc.map some) (hndC : va_nd isC = true) (hR : isR.map (fun i => ws[i]?) = wr.map some) (hnd : va_nd isR = true) (hCR : ∀ i ∈ isR, i ∉ isC) (hc : KS (cyOf Γ) y cb mL d c0 n0 (.ref a :: As) lv2 wc Q) (k : ∀ w1, Q w1 → CV Γ (kc + c0) (kn + n0) (pc + 3) lv st (wr ++ w1) Φ) : CV Γ kc kn pc lv stk ws Φ := by
  subst hstk
  obtain ⟨p, l, e, R, s, m, args, below, meth, c, dC, dI, cy, A⟩ := Γ
  obtain ⟨hx, hb, hml, hown, hts, hlk, hK, hA, hf, hlo⟩ := h
  obtain ⟨m1, m2, m3, m4, m5, m6, m7⟩ := hm
  intro H locs ls hP hD hS hl
  have hM := met_ofK (cy := cy) m4 m5 hlv hc l dC dI H.size
  have hPc : va_P (dC, dI) vwCl wc H := fun k q hk => by
    have h1 : (isC.map (fun i => ws[i]?))[k]? = some (some q) := by rw [hC, List.getElem?_map, hk]; rfl
    rw [List.getElem?_map] at h1
    obtain ⟨i, i1, i2⟩ := Option.map_eq_some_iff.mp h1
    exact hP i q i2
  have hDc := hD.sub (ws' := wc) isC hndC hC
  have hFc := va_free (wc := wc) hD hS hA isC hC
  have hG2 : GoodIn bigW (Cond.code y cb mL none :: bigW) := fun w hw => by
    have : w ∈ bigW := (List.mem_cons.mp hw).elim (fun q => by rw [q]; exact m1) id
    exact ⟨this, bw_good this⟩
  have hp : PreS s H (va_Pc (.ref a :: As) (PcK dC dI cy H.size wc)) (.ref a :: As) := ⟨pck_blind, fun U hU hW => ⟨rfl, by rw [hU], by rw [hU]; exact hPc, va_K.moved hW.alike hK, hDc.weaken (fun _ _ _ _ => trivial), MNW.warm hW hn.1, hn.2.elim fun ad k => ⟨ad, k.call hS hW hU hFc⟩⟩⟩
  have hrun : va_Run p l e R s m args below meth c H locs kc kn c0 n0 (F0 m pc ls (As.reverse ++ .ref a :: st)) st (va_Qv Q (fun ws' t => va_P (dC, dI) vwCl ws' t.heap ∧ va_K (dC, dI) vwCl (tysO cy) t ∧ va_D (va_A wc H.size) ws') (va_A wc H.size) (Value.ref a :: As).toArray) (va_A wc H.size) := by
    rcases hl0 with hl0 | ⟨host, hl0⟩
    · exact va_runI (As := As) (rest := st) ⟨hx, hb, hml, hown, hts⟩ hM (cwI As.length hts hG2 rfl rfl rfl (hts _ m3) (hts _ hl0) (hts _ m2) m5 m6 ⟨hf, by show 8 + (mL + 11) + 64 * d ≤ R.locals; omega⟩) hp rfl rfl (hl.1.trans hml) rfl (lv_room hcat) hd ⟨hr.1, hr.2⟩
    · exact va_runIN (As := As) (rest := st) ⟨hx, hb, hml, hown, hts⟩ hM ⟨va_cnB As.length hts hG2 rfl rfl rfl (hn.1.1 _ hl0) (hts _ m3) m6 ⟨hf, by show 8 + (mL + 11) + 64 * d ≤ R.locals; omega⟩, m5, hts _ m2⟩ hp rfl rfl (hl.1.trans hml) rfl (lv_room hcat) hd ⟨hr.1, hr.2⟩
  refine va_callv hrun hS (fun q _ h => hFc q h) hFc (fun u t H1 locs1 ht hvm hw hB hz1 hk1 hS1 => ?_)
  obtain ⟨hP1, hK1, hD1⟩ := hB
  rw [ht] at hP1
  obtain ⟨hP2, hD2⟩ := va_join (wr := wr) (w1 := u) hP hD isC isR hC hR hnd hCR hk1 hFc hP1 hD1
  exact k u hw H1 locs1 ls hP2 hD2 hS1 hl
end KC
