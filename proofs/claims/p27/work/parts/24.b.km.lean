/-! Methods that make cells and answer values: contracts over worlds, with one text -/
abbrev TXo : Type := Option (Nat × Nat × List Nat)
def VXs (tx : TXo) (A : Nat → Prop) (U : State) (H : Heap) : Prop := match tx with
  | none => True
  | some (b, y, l) => TX b y l.length (fun j => l.getD j 0) A U H
theorem VXs.moved {tx : TXo} {A : Nat → Prop} {u U : State} {H : Heap} (hvm : u.vm.Alike U.vm) (h : VXs tx A u H) : VXs tx A U H := by
  match tx, h with
  | none, _ => exact trivial
  | some (b, y, l), h => exact TX.moved hvm h
theorem VXs.kept {tx : TXo} {A : Nat → Prop} {U : State} {H H1 : Heap} (h : VXs tx A U H) (hq : ∀ a : Nat, a < H.size → ¬ A a → H1[a]? = H[a]?) : VXs tx A U H1 := by
  match tx, h with
  | none, _ => exact trivial
  | some (b, y, l), h => exact TX.kept h hq
theorem VXs.narrow {tx : TXo} {A B : Nat → Prop} {U : State} {H : Heap} (h : VXs tx A U H) (hAB : ∀ q, B q → A q) : VXs tx B U H := by
  match tx, h with
  | none, _ => exact trivial
  | some (b, y, l), h => exact TX.narrow h hAB
/-- calls of a builder's private methods -/
def selB : List Cond := [.selects RJ4 yJ5_ensureCapacityInternal_d00df yJ5_ensureCapacityInternal_d00df, .selects RJ4 yJ5_newCapacity_0f7a4 yJ5_newCapacity_0f7a4, .selects RJ4 yJ5_putStringAt_47b60 yJ5_putStringAt_47b60, .selects RJ4 yJ5_inflateIfNeededFor_a7421 yJ5_inflateIfNeededFor_a7421]
theorem selB_good : ∀ w ∈ selB, goodWord w = true ∧ (w.onTables && w.keeps) = true ∧ w.onTables = true := by
  intro w hw
  simp only [selB, List.mem_cons, List.not_mem_nil, or_false] at hw
  rcases hw with rfl | rfl | rfl | rfl <;> exact ⟨rfl, rfl, rfl⟩
def NWc (U : State) : Prop := va_Nw (.castable "[B" "java/lang/Cloneable") U ∧ va_AO "java/lang/String" U ∧ ∀ w ∈ selB, va_Nw w U
theorem NWc.warm {s U : State} (hW : s.WarmedH U.vm) (h : NWc s) : NWc U := ⟨va_Nw.warmC hW h.1, h.2.1.moved hW.alike, fun w hw => word_at hW (Or.inl (selB_good w hw).2.1) (h.2.2 w hw)⟩
theorem NWc.same {s U : State} (hv : s.vm = U.vm) (h : NWc s) : NWc U := ⟨va_Nw.same rfl hv h.1, h.2.1.moved (hv ▸ Vm.Alike.refl s.vm), fun w hw => va_Nw.same (selB_good w hw).2.2 hv (h.2.2 w hw)⟩
def Vx (tx : TXo) (Γ : Cz) : Prop := match Γ with
  | (_, _, _, _, s, _, _, _, _, _, _, _, _, A) => VXs tx A s s.heap ∧ NWc s
def QnM (cy : Nat → ClassId) (dC : Nat → ClassId) (dI : Nat → Nat → Nat) (A : Nat → Prop) (Q : Option Value → va_W → Prop) : Array Value → State → Outcome → State → Prop := fun _ st oc t => (∃ r ws, oc = .returned r ∧ Q r ws ∧ va_P (dC, dI) vwCl ws t.heap ∧ va_K (dC, dI) vwCl (tysO cy) t ∧ va_D A ws) ∧ va_F A st t
def FnM (Γ : Cz) (Q : Option Value → va_W → Prop) (kc kn : Nat) : State → Prop := match Γ with
  | (_, _, _, _, s, _, args, below, _, _, dC, dI, cy, A) => MQ below (QnM cy dC dI A Q) args s kc kn A
/-- all that a method of the world's view stands on -/
def VM (ad : Nat → Nat) (tx : TXo) (cy0 : Nat → ClassId) (Γ : Cz) : Prop := cyOf Γ = cy0 ∧ Vs ad Γ ∧ Vn Γ ∧ Vx tx Γ
def KM (cy0 : Nat → ClassId) (ad : Nat → Nat) (tx : TXo) (y : MethodName) (cb : ByteArray) (mL : Nat) (rt : Option FieldType) (d c n : Nat) (as : List Value) (ws : va_W) (Q : Option Value → va_W → Prop) : Prop := ∀ Γ : Cz, VM ad tx cy0 Γ → Vk y.cls cb mL d Γ → Vt rt Γ → (y.name = "<init>" → Vi Γ) → Rk Γ c n → CW Γ 0 0 0 (ent as mL) [] ws (FnM Γ Q c n)
section KMR
variable {own : String} {cc : ByteArray} {nL d kc kn pc : Nat} {Γ : Cz} {lv : List (Option Value)} {st : List Value} {ws : va_W} {Φ : State → Prop} {ad : Nat → Nat} {Q : Option Value → va_W → Prop}
theorem km_iret {x : Int32} (h : Vk own cc nL d Γ) (hr : Vt (some .int) Γ) (hd : decode cc pc = .ok (.ireturn, 1)) (hq : Q (some (.int x)) ws) : CW Γ kc kn pc lv [.int x] ws (FnM Γ Q kc kn) := by
  obtain ⟨p, l, e, R, s, m, args, below, meth, c, dC, dI, cy, A⟩ := Γ
  obtain ⟨hx, hb, hml, hown, hts, hlk, hK, hA, hf, hlo⟩ := h
  intro H locs ls hP hD hS hl
  exact W.iret (v := x) hx hb hr (fun t ht hW => ⟨⟨_, ws, rfl, hq, by rw [ht]; exact hP, va_K.moved hW.alike hK, hD⟩, hS.F ht⟩) hS.2.2 hd hlk
theorem km_zret {x : Int32} {ty : FieldType} (h : Vk own cc nL d Γ) (hr : Vt (some ty) Γ) (hd : decode cc pc = .ok (.ireturn, 1)) (hn : narrow ty (.int x) = .int x) (hq : Q (some (.int x)) ws) : CW Γ kc kn pc lv [.int x] ws (FnM Γ Q kc kn) := by
  obtain ⟨p, l, e, R, s, m, args, below, meth, c, dC, dI, cy, A⟩ := Γ
  obtain ⟨hx, hb, hml, hown, hts, hlk, hK, hA, hf, hlo⟩ := h
  intro H locs ls hP hD hS hl
  exact W.zret (v := x) hx hb hr hn (fun t ht hW => ⟨⟨_, ws, rfl, hq, by rw [ht]; exact hP, va_K.moved hW.alike hK, hD⟩, hS.F ht⟩) hS.2.2 hd hlk
theorem km_vret (h : Vk own cc nL d Γ) (hr : Vt none Γ) (hd : decode cc pc = .ok (.return_, 1)) (hq : Q none ws) : CW Γ kc kn pc lv [] ws (FnM Γ Q kc kn) := by
  obtain ⟨p, l, e, R, s, m, args, below, meth, c, dC, dI, cy, A⟩ := Γ
  obtain ⟨hx, hb, hml, hown, hts, hlk, hK, hA, hf, hlo⟩ := h
  intro H locs ls hP hD hS hl
  exact W.vret hx hb hr (fun t ht hW => ⟨⟨_, ws, rfl, hq, by rw [ht]; exact hP, va_K.moved hW.alike hK, hD⟩, hS.F ht⟩) hS.2.2 hd hlk
theorem km_aret {x : Nat} {ty : FieldType} (h : Vk own cc nL d Γ) (hr : Vt (some ty) Γ) (hty : (∃ n, ty = .object n) ∨ ∃ t, ty = .array t) (hd : decode cc pc = .ok (.areturn, 1)) (hq : Q (some (.ref x)) ws) : CW Γ kc kn pc lv [.ref x] ws (FnM Γ Q kc kn) := by
  obtain ⟨p, l, e, R, s, m, args, below, meth, c, dC, dI, cy, A⟩ := Γ
  obtain ⟨hx, hb, hml, hown, hts, hlk, hK, hA, hf, hlo⟩ := h
  intro H locs ls hP hD hS hl
  exact W.aret (v := .ref x) hx hb hr hty (Or.inr ⟨_, rfl⟩) (fun t ht hW => ⟨⟨_, ws, rfl, hq, by rw [ht]; exact hP, va_K.moved hW.alike hK, hD⟩, hS.F ht⟩) hS.2.2 hd hlk
end KMR
def PcM (ad : Nat → Nat) (tx : TXo) (dC : Nat → ClassId) (dI : Nat → Nat → Nat) (cy : Nat → ClassId) (sz : Nat) (ws : va_W) : State → Prop := fun U => (U.heap.size = sz ∧ va_P (dC, dI) vwCl ws U.heap ∧ va_K (dC, dI) vwCl (tysO cy) U ∧ va_D (fun _ => True) ws) ∧ MNW U ∧ RO ad (va_A ws sz) U U.heap ∧ VXs tx (va_A ws sz) U U.heap ∧ NWc U
theorem pcm_blind {as : List Value} {ad : Nat → Nat} {tx : TXo} {dC : Nat → ClassId} {dI : Nat → Nat → Nat} {cy : Nat → ClassId} {sz : Nat} {ws : va_W} : FrameBlind (va_Pc as (PcM ad tx dC dI cy sz ws)) := by
  intro a U g mk q
  obtain ⟨q0, ⟨q1, qP, qK, qD⟩, qN, qR, qX, qC⟩ := q
  exact ⟨q0, ⟨q1, qP, va_K.moved (u := U) (U := U.calling g mk a) (Vm.Alike.refl U.vm) qK, qD⟩, MNW.same (s := U) (U := U.calling g mk a) rfl qN, qR.calling, VXs.moved (u := U) (U := U.calling g mk a) (Vm.Alike.refl U.vm) qX, NWc.same (s := U) (U := U.calling g mk a) rfl qC⟩
theorem met_ofM {y : MethodName} {cb : ByteArray} {mL d c n : Nat} {rt : Option FieldType} {as : List Value} {ws : va_W} {Q : Option Value → va_W → Prop} {ad : Nat → Nat} {tx : TXo} {cy : Nat → ClassId} (hy : plainName y.cls = true) (he : (lg_sl as).length ≤ mL) (hvi : y.name = "<init>" → rt = none) (hS : KM cy ad tx y cb mL rt d c n as ws Q) (l : Launch) (dC : Nat → ClassId) (dI : Nat → Nat → Nat) (sz : Nat) : Met l y (Cond.code y cb mL rt :: bigW) (rmK d c n) (va_Pc as (PcM ad tx dC dI cy sz ws)) (QnM cy dC dI (va_A ws sz) Q) c n (va_A ws sz) := by
  refine Met.ofW (cc := cb) (maxL := mL) (ret := rt) hy rfl ?_
  intro p e s m args below meth c0 s₁ B hml hv
  obtain ⟨rfl, ⟨hsz, hP, hK, hD⟩, hN, hRO, hX, hC⟩ := hv
  have hts := atoms_spec (ws := Cond.code y cb mL rt :: bigW) B.pre
  have hk := hS (p, l, e, (headSpec (Cond.code y cb mL rt :: bigW) (rmK d c n)).room, s, m, _, below, meth, c0, dC, dI, cy, va_A ws sz) ⟨rfl, hRO, ⟨hN, ad, hRO⟩, hX, hC⟩ ⟨B.exec, B.bytes, hml, findClass_of_methodNamed B.named, fun w hw => hts w (List.mem_cons_of_mem _ hw), B.notSynchronized, hK, fun q hq => Or.inr (by rw [← hsz]; exact hq), (show d ≤ d from Nat.le_refl _), (show 64 * d ≤ 64 * d from Nat.le_refl _)⟩ B.returns
    (fun q => ⟨(name_of_methodNamed B.named B.method).1.trans q, by rw [B.returns]; exact hvi q⟩) ⟨Nat.le_refl _, Nat.le_refl _⟩
  rw [lg_entry_eq]
  have hl := lv_entry as (n := mL) he
  refine hk s.heap [] _ hP hD.self va_S.rf ?_
  rw [hml]
  show lv_has _ mL (asl id 0 (ent as mL))
  rw [ent, asl_app, asl_ent, vmap_id]
  exact hl
/-- a text for a callee -/
def TSrc (Γ : Cz) (ws wc : va_W) (tx : TXo) : Prop := match Γ with
  | (_, _, _, _, s, _, _, _, _, _, dC, dI, cy, A) => ∀ (H : Heap) (locs : List Loc) (U : State), va_P (dC, dI) vwCl ws H → va_D A ws → va_S A s.heap H locs → U.heap = H → s.WarmedH U.vm → (∀ q, va_A wc H.size q → A q) → va_K (dC, dI) vwCl (tysO cy) U → VXs tx (va_A wc H.size) U U.heap
theorem ts_none {Γ : Cz} {ws wc : va_W} : TSrc Γ ws wc none := by
  obtain ⟨p, l, e, R, s, m, args, below, meth, c, dC, dI, cy, A⟩ := Γ
  intro H locs U _ _ _ _ _ _ _
  exact trivial
theorem ts_same {Γ : Cz} {ws wc : va_W} {tx : TXo} (h : Vx tx Γ) : TSrc Γ ws wc tx := by
  obtain ⟨p, l, e, R, s, m, args, below, meth, c, dC, dI, cy, A⟩ := Γ
  obtain ⟨hx, -⟩ := h
  intro H locs U hP hD hS hU hW hF hK
  subst hU
  exact ((hx.kept hS.2.1).moved hW.alike).narrow hF
/-- what a callee begins with -/
theorem preM {p : Program} {l : Launch} {e : Env} {R : Room} {s : State} {m : MethodId} {args : Array Value} {below : List Frame} {meth : Method} {c : Code} {dC : Nat → ClassId} {dI : Nat → Nat → Nat} {cy : Nat → ClassId} {A : Nat → Prop} {ad : Nat → Nat} {tx tx' : TXo} {cy0 : Nat → ClassId} {ws wc : va_W} {H : Heap} {locs : List Loc}
    (hv : VM ad tx cy0 (p, l, e, R, s, m, args, below, meth, c, dC, dI, cy, A)) (hK : va_K (dC, dI) vwCl (tysO cy) s) (hA : ∀ q, s.heap.size ≤ q → A q) (hT : TSrc (p, l, e, R, s, m, args, below, meth, c, dC, dI, cy, A) ws wc tx') (isC : List Nat) (hC : isC.map (fun i => ws[i]?) = wc.map some) (hndC : va_nd isC = true)
    (hP : va_P (dC, dI) vwCl ws H) (hD : va_D A ws) (hS : va_S A s.heap H locs) : cy = cy0 ∧ (∀ q, va_A wc H.size q → A q) ∧ ∀ U : State, U.heap = H → s.WarmedH U.vm → PcM ad tx' dC dI cy0 H.size wc U := by
  obtain ⟨h1, h2, h3, h4⟩ := hv
  have h1 : cy = cy0 := h1
  subst h1
  have hFc := va_free (wc := wc) hD hS hA isC hC
  have hPc : va_P (dC, dI) vwCl wc H := fun k q hk => by
    have h1 : (isC.map (fun i => ws[i]?))[k]? = some (some q) := by rw [hC, List.getElem?_map, hk]; rfl
    rw [List.getElem?_map] at h1
    obtain ⟨i, i1, i2⟩ := Option.map_eq_some_iff.mp h1
    exact hP i q i2
  have hDc := hD.sub (ws' := wc) isC hndC hC
  have hRO : RO ad A s s.heap := h2
  refine ⟨rfl, hFc, fun U hU hW => ⟨⟨by rw [hU], by rw [hU]; exact hPc, va_K.moved hW.alike hK, hDc.weaken (fun _ _ _ _ => trivial)⟩, MNW.warm hW h3.1, hRO.call hS hW hU hFc, hT H locs U hP hD hS hU hW hFc (va_K.moved hW.alike hK), NWc.warm hW h4.2⟩⟩
/-- behind a call -/
theorem run_backM {pc kc kn c0 n0 : Nat} {st : List Value} {lv : List (Option Value)} {ws wc wr : va_W} {Φ : State → Prop} {p : Program} {l : Launch} {e : Env} {R : Room} {s : State} {m : MethodId} {args : Array Value} {below : List Frame} {meth : Method} {c : Code} {H : Heap} {locs : List Loc} {ls : Array Slot} {dC : Nat → ClassId} {dI : Nat → Nat → Nat} {cy : Nat → ClassId} {A : Nat → Prop} {stk : List Value} {a : Array Value} {Q : Option Value → va_W → Prop} (isC isR : List Nat)
    (hr : va_Run p l e R s m args below meth c H locs kc kn c0 n0 (F0 m pc ls stk) st (QnM cy dC dI (va_A wc H.size) Q a) (va_A wc H.size)) (hS : va_S A s.heap H locs) (hA1 : ∀ q, va_A wc H.size q → A q) (hP : va_P (dC, dI) vwCl ws H) (hD : va_D A ws) (hl : lv_has ls c.maxLocals (asl id 0 lv))
    (hC : isC.map (fun i => ws[i]?) = wc.map some) (hR : isR.map (fun i => ws[i]?) = wr.map some) (hnd : va_nd isR = true) (hCR : ∀ i ∈ isR, i ∉ isC)
    (hq : ∀ r w1, Q r w1 → CW (p, l, e, R, s, m, args, below, meth, c, dC, dI, cy, A) (kc + c0) (kn + n0) (pc + 3) lv (r.toList ++ st) (wr ++ w1) Φ) : W p l e R s m args below meth c H locs kc kn Φ (F0 m pc ls stk) := by
  intro T hT X
  obtain ⟨v, st₀, t, T', L, h0, X', hL, e1, e2, ⟨⟨r, w1, hv, hq1, hP1, hK1, hD1⟩, hz, hk⟩, stp⟩ := hr T hT X
  cases hv
  rw [h0] at hz hk
  have hS1 : va_S A s.heap T'.heap (locs ++ L) := ⟨Nat.le_trans hS.1 (by rw [e1]; exact hz), fun q h1 h2 => by rw [e1, hk q (Nat.lt_of_lt_of_le h1 hS.1) (fun z => h2 (hA1 q z))]; exact hS.2.1 q h1 h2, fun q hq => by
      rcases List.mem_append.mp hq with h | h
      · exact hS.2.2 q h
      · exact hA1 _ (hL q h)⟩
  rw [← e1] at hP1
  obtain ⟨hP2, hD2⟩ := va_join (wr := wr) (w1 := w1) hP hD isC isR hC hR hnd hCR (fun q h1 h2 => by rw [e1]; exact hk q h1 h2) hA1 hP1 hD1
  obtain ⟨t2, a1, b1⟩ := hq _ _ hq1 T'.heap (locs ++ L) ls hP2 hD2 hS1 hl T' rfl X'
  exact ⟨t2, stp t2 a1, b1⟩
section KMC
variable {own : String} {cc : ByteArray} {nL d kc kn pc : Nat} {Γ : Cz} {lv : List (Option Value)} {st : List Value} {ws : va_W} {Φ : State → Prop} {ad : Nat → Nat} {tx : TXo} {cy0 : Nat → ClassId}
/-- a static method -/
theorem km_callS (hv : VM ad tx cy0 Γ) (h : Vk own cc nL (d + 1) Γ) {y : MethodName} {cb : ByteArray} {mL idx c0 n0 : Nat} {rt : Option FieldType} {As : List Value} {stk : List Value} {wc wr : va_W} {Q : Option Value → va_W → Prop} (isC isR : List Nat) (tx' : TXo) (hr : Rk Γ (kc + c0) (kn + n0)) (hm : MIs y cb mL rt As.length) (hvi : y.name ≠ "<init>") (hd : decode cc pc = .ok (.invokestatic idx, 3)) (hl0 : Cond.methodLink own idx y ∈ bigW) (hent : (lg_sl As).length ≤ mL) (hstk : stk = As.reverse ++ st) (hcat : (st.map fun v => v.category).sum ≤ 8)
    (hC : isC.map (fun i => ws[i]?) = wc.map some) (hndC : va_nd isC = true) (hR : isR.map (fun i => ws[i]?) = wr.map some) (hnd : va_nd isR = true) (hCR : ∀ i ∈ isR, i ∉ isC) (hT : TSrc Γ ws wc tx') (hc : KM cy0 ad tx' y cb mL rt d c0 n0 As wc Q) (k : ∀ r w1, Q r w1 → CW Γ (kc + c0) (kn + n0) (pc + 3) lv (r.toList ++ st) (wr ++ w1) Φ) : CW Γ kc kn pc lv stk ws Φ := by
  subst hstk
  obtain ⟨p, l, e, R, s, m, args, below, meth, c, dC, dI, cy, A⟩ := Γ
  obtain ⟨hx, hb, hml, hown, hts, hlk, hK, hA, hf, hlo⟩ := h
  obtain ⟨m1, m2, m4, m5, m6, m7⟩ := hm
  intro H locs ls hP hD hS hl
  obtain ⟨rfl, hA1, hpre⟩ := preM hv hK hA hT isC hC hndC hP hD hS
  have hM := met_ofM m5 hent (fun q => absurd q hvi) hc l dC dI H.size
  have hG : ∀ w ∈ va_wsS own idx y (Cond.code y cb mL rt :: bigW), w ∈ bigW := by
    intro w hw
    rcases List.mem_append.mp hw with h1 | h1
    · simp only [List.mem_cons, List.not_mem_nil, or_false] at h1
      rcases h1 with rfl | rfl | rfl <;> assumption
    · rcases List.mem_cons.mp h1 with rfl | h1 <;> assumption
  have hG2 : GoodIn bigW (Cond.code y cb mL rt :: bigW) := fun w hw => ⟨hG w (List.mem_append_right _ hw), bw_good (hG w (List.mem_append_right _ hw))⟩
  have hcb : CallB R s args own idx y cb mL rt (Cond.code y cb mL rt :: bigW) (rmK d c0 n0) c0 n0 As.length := callB_of As.length hts hG2 rfl rfl rfl (hts _ m4) (hts _ hl0) m6 ⟨hf, by show 8 + (mL + 11) + 64 * d ≤ R.locals; omega⟩
  have hrun := va_runS (As := As) (rest := st) (g := F0 m pc ls (As.reverse ++ st)) (cells := kc) (slots := kn) (H := H) (locs := locs) (R := R) (e := e) (l := l) (below := below) (meth := meth) ⟨hx, hb, hml, hown, hts⟩ hM ⟨hcb, hts _ m2⟩ ⟨pcm_blind, fun U hU hW => ⟨rfl, hpre U hU hW⟩⟩ rfl rfl (by show ls.size = nL; rw [hl.1, hml]) rfl (lv_room hcat) hd ⟨hr.1, hr.2⟩
  exact run_backM isC isR hrun hS hA1 hP hD hl hC hR hnd hCR k
/-- a method of an object of the world, or of the text -/
theorem km_callV (hv : VM ad tx cy0 Γ) (h : Vk own cc nL (d + 1) Γ) {y : MethodName} {cb : ByteArray} {mL idx b c0 n0 : Nat} {rt : Option FieldType} {As : List Value} {stk : List Value} {wc wr : va_W} {Q : Option Value → va_W → Prop} (isC isR : List Nat) (tx' : TXo) (hr : Rk Γ (kc + c0) (kn + n0)) (hm : MIv y cb mL rt As.length) (hvi : y.name ≠ "<init>") (hd : decode cc pc = .ok (.invokevirtual idx, 3)) (hl0 : Cond.methodLink own idx y ∈ bigW)
    (hrecv : (∃ (q0 ci : Nat) (fs : List Value) (qc : vw_C), vwCl[ci]? = some qc ∧ qc.1 = y.cls ∧ ws[q0]? = some (b, .inr (ci, fs))) ∨ (∃ yy l, tx = some (b, yy, l) ∧ y.cls = "java/lang/String") ∨ (∃ i, i < 48 ∧ b = ad (200 + i) ∧ y.cls = "java/lang/String"))
    (hent : (lg_sl (.ref b :: As)).length ≤ mL) (hstk : stk = As.reverse ++ .ref b :: st) (hcat : (st.map fun v => v.category).sum ≤ 8)
    (hC : isC.map (fun i => ws[i]?) = wc.map some) (hndC : va_nd isC = true) (hR : isR.map (fun i => ws[i]?) = wr.map some) (hnd : va_nd isR = true) (hCR : ∀ i ∈ isR, i ∉ isC) (hT : TSrc Γ ws wc tx') (hc : KM cy0 ad tx' y cb mL rt d c0 n0 (.ref b :: As) wc Q) (k : ∀ r w1, Q r w1 → CW Γ (kc + c0) (kn + n0) (pc + 3) lv (r.toList ++ st) (wr ++ w1) Φ) : CW Γ kc kn pc lv stk ws Φ := by
  subst hstk
  obtain ⟨p, l, e, R, s, m, args, below, meth, c, dC, dI, cy, A⟩ := Γ
  have hv0 := hv
  obtain ⟨hx, hb, hml, hown, hts, hlk, hK, hA, hf, hlo⟩ := h
  obtain ⟨m1, m2, m3, m4, m5, m6, m7⟩ := hm
  intro H locs ls hP hD hS hl
  obtain ⟨rfl, hA1, hpre⟩ := preM hv hK hA hT isC hC hndC hP hD hS
  have hM := met_ofM m5 hent (fun q => absurd q hvi) hc l dC dI H.size
  have hcell : ∃ cell : Cell, H[b]? = some cell ∧ cell.vm.isStatics = false ∧ s.vm.findClass y.cls = some cell.cls := by
    obtain ⟨-, h2, h3, h4⟩ := hv0
    rcases hrecv with ⟨q0, ci, fs, qc, g1, g2, g3⟩ | ⟨yy, tl, g1, g2⟩ | ⟨i, g1, g2, g3⟩
    · rw [← g2]
      exact va_recv hK hP g1 g3
    · subst g1
      rw [g2]
      have hX : TX b yy tl.length (fun j => tl.getD j 0) A s s.heap := h4.1
      obtain ⟨cell, r1, r2, r3, -⟩ := hX.1.kept hS.2.1
      exact ⟨cell, r1, r2, r3⟩
    · rw [g3, g2]
      have hRO : RO ad A s s.heap := h2
      have z := vk_recv hRO.str g1 hS
      exact z
  have hG : GoodIn bigW (wsV own idx y.cls y (Cond.code y cb mL rt :: bigW)) := by
    intro w hw
    have hmem : w ∈ bigW := by
      rcases List.mem_append.mp hw with h1 | h1
      · simp only [List.mem_cons, List.not_mem_nil, or_false] at h1
        rcases h1 with rfl | rfl | rfl | rfl <;> assumption
      · rcases List.mem_cons.mp h1 with rfl | h1 <;> assumption
    exact ⟨hmem, bw_good hmem⟩
  have hrun := va_runV (As := As) (rest := st) (g := F0 m pc ls (As.reverse ++ .ref b :: st)) (cells := kc) (slots := kn) (H := H) (locs := locs) (R := R) (e := e) (l := l) (below := below) (meth := meth) (b := b) (C := y.cls) ⟨hx, hb, hml, hown, hts⟩ hM (cwV As.length hts hG rfl rfl rfl ⟨rfl, m6⟩ ⟨hf, by show 8 + (mL + 11) + 64 * d ≤ R.locals; omega⟩) ⟨pcm_blind, hcell, fun U hU hW => ⟨rfl, hpre U hU hW⟩⟩ rfl rfl (by show ls.size = nL; rw [hl.1, hml]) rfl (lv_room hcat) hd ⟨hr.1, hr.2⟩
  exact run_backM isC isR hrun hS hA1 hP hD hl hC hR hnd hCR k
/-- a constructor -/
theorem km_callC (hv : VM ad tx cy0 Γ) (h : Vk own cc nL (d + 1) Γ) {y : MethodName} {cb : ByteArray} {mL idx b c0 n0 : Nat} {As : List Value} {stk : List Value} {wc wr : va_W} {Q : Option Value → va_W → Prop} (isC isR : List Nat) (tx' : TXo) (hr : Rk Γ (kc + c0) (kn + n0)) (hm : MIk y cb mL As.length) (hd : decode cc pc = .ok (.invokespecial idx, 3)) (hl0 : Cond.methodLink own idx y ∈ bigW)
    (hent : (lg_sl (.ref b :: As)).length ≤ mL) (hstk : stk = As.reverse ++ .ref b :: st) (hcat : (st.map fun v => v.category).sum ≤ 8)
    (hC : isC.map (fun i => ws[i]?) = wc.map some) (hndC : va_nd isC = true) (hR : isR.map (fun i => ws[i]?) = wr.map some) (hnd : va_nd isR = true) (hCR : ∀ i ∈ isR, i ∉ isC) (hT : TSrc Γ ws wc tx') (hc : KM cy0 ad tx' y cb mL none d c0 n0 (.ref b :: As) wc Q) (k : ∀ r w1, Q r w1 → CW Γ (kc + c0) (kn + n0) (pc + 3) lv (r.toList ++ st) (wr ++ w1) Φ) : CW Γ kc kn pc lv stk ws Φ := by
  subst hstk
  obtain ⟨p, l, e, R, s, m, args, below, meth, c, dC, dI, cy, A⟩ := Γ
  obtain ⟨hx, hb, hml, hown, hts, hlk, hK, hA, hf, hlo⟩ := h
  obtain ⟨m1, m2, m3, m4, m5, m6, m7⟩ := hm
  intro H locs ls hP hD hS hl
  obtain ⟨rfl, hA1, hpre⟩ := preM hv hK hA hT isC hC hndC hP hD hS
  have hM := met_ofM m4 hent (fun _ => rfl) hc l dC dI H.size
  have hG2 : GoodIn bigW (Cond.code y cb mL none :: bigW) := fun w hw => by
    have : w ∈ bigW := (List.mem_cons.mp hw).elim (fun q => by rw [q]; exact m1) id
    exact ⟨this, bw_good this⟩
  have hrun := va_runI (As := As) (rest := st) (g := F0 m pc ls (As.reverse ++ .ref b :: st)) (cells := kc) (slots := kn) (H := H) (locs := locs) (R := R) (e := e) (l := l) (below := below) (meth := meth) (b := b) ⟨hx, hb, hml, hown, hts⟩ hM (cwI As.length hts hG2 rfl rfl rfl (hts _ m3) (hts _ hl0) (hts _ m2) m5 m6 ⟨hf, by show 8 + (mL + 11) + 64 * d ≤ R.locals; omega⟩) ⟨pcm_blind, fun U hU hW => ⟨rfl, hpre U hU hW⟩⟩ rfl rfl (by show ls.size = nL; rw [hl.1, hml]) rfl (lv_room hcat) hd ⟨hr.1, hr.2⟩
  exact run_backM isC isR hrun hS hA1 hP hD hl hC hR hnd hCR k
end KMC
