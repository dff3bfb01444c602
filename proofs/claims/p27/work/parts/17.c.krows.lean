/-! The making of objects: a view of constructors over a list of cells -/
abbrev Cz : Type := Program × Launch × Env × Room × State × MethodId × Array Value × List Frame × Method × Code × (Nat → ClassId) × (Nat → Nat → Nat) × (Nat → ClassId) × (Nat → Prop)
def Vk (own : String) (cc : ByteArray) (nL d : Nat) (Γ : Cz) : Prop := match Γ with
  | (p, _, _, R, s, m, args, _, meth, c, dC, dI, cy, A) => p.tables.exec = Jvm.exec ∧ c.code = cc ∧ c.maxLocals = nL ∧ s.vm.findClass own = some m.cls ∧ (∀ w ∈ bigW, w.before args s = true) ∧ meth.locks = false ∧ va_K (dC, dI) vwCl (tysO cy) s ∧ (∀ q, s.heap.size ≤ q → A q) ∧ d ≤ R.frames ∧ 64 * d ≤ R.locals
def Vi (Γ : Cz) : Prop := match Γ with
  | (_, _, _, _, _, _, _, _, meth, _, _, _, _, _) => meth.name = "<init>" ∧ meth.sig.returnType = none
def Rk (Γ : Cz) (kc kn : Nat) : Prop := match Γ with
  | (_, _, _, R, _, _, _, _, _, _, _, _, _, _) => kc ≤ R.cells ∧ kn ≤ R.slots
def CV (Γ : Cz) (kc kn pc : Nat) (lv : List (Nat × Value)) (st : List Value) (ws : va_W) (Φ : State → Prop) : Prop := match Γ with
  | (p, l, e, R, s, m, args, below, meth, c, dC, dI, _, A) => ∀ (H : Heap) (locs : List Loc) (ls : Array Slot), va_P (dC, dI) vwCl ws H → va_D A ws → va_S A s.heap H locs → lv_has ls c.maxLocals lv → W p l e R s m args below meth c H locs kc kn Φ (F0 m pc ls st)
def FnK (Γ : Cz) (Q : va_W → Prop) (kc kn : Nat) : State → Prop := match Γ with
  | (_, _, _, _, s, _, args, below, _, _, dC, dI, cy, A) => MQ below (va_Qv Q (fun ws t => va_P (dC, dI) vwCl ws t.heap ∧ va_K (dC, dI) vwCl (tysO cy) t ∧ va_D A ws) A) args s kc kn A
def FPF (own : String) (idx ci k : Nat) (ty : FieldType) : Prop := ∃ (C : String) (T : u_T) (N : Nat) (ty0 : Nat → FieldType), vwCl[ci]? = some (C, T, N) ∧ k < N ∧ (∀ w ∈ u_ws C T N, w ∈ bigW) ∧ (Cond.fieldLink own idx (T k).1 (T k).2.1 (T k).2.2.1 ∈ bigW ∨ ∃ host, (own, idx, (T k).1, (T k).2.1, (T k).2.2.1, host) ∈ nestF) ∧ (∀ j, j < N → parseFieldDescriptor (T j).2.2.1 = some (ty0 j)) ∧ (∀ a, a < N → ∀ b, b < N → a ≠ b → (T a).2.1 ≠ (T b).2.1) ∧ ((T k).2.2.2 = true ∧ (T k).1 = own) ∧ parseFieldDescriptor (T k).2.2.1 = some ty
section KR
variable {own : String} {cc : ByteArray} {nL d kc kn pc : Nat} {Γ : Cz} {lv : List (Nat × Value)} {st : List Value} {ws : va_W} {Φ : State → Prop}
theorem k_al (h : Vk own cc nL d Γ) {n : Fin 4} {a : Nat} (i j : Nat) (hd : decode cc pc = .ok (.aload_n n, 1)) (hn : (n : Nat) = i) (hl0 : lv[j]? = some (i, .ref a)) (k : CV Γ kc kn (pc + 1) lv (.ref a :: st) ws Φ) : CV Γ kc kn pc lv st ws Φ := by
  obtain ⟨p, l, e, R, s, m, args, below, meth, c, dC, dI, cy, A⟩ := Γ
  obtain ⟨hx, hb, hml, hown, hts, hlk, hK, hA, hf, hlo⟩ := h
  intro H locs ls hP hD hS hl
  exact lv_aload_n hx hb hd hn (lv_at hl j hl0) (k H locs ls hP hD hS hl)
theorem k_ic (h : Vk own cc nL d Γ) {n : Int} {v : Int32} (hd : decode cc pc = .ok (.iconst n, 1)) (hv : Int32.ofInt n = v) (k : CV Γ kc kn (pc + 1) lv (.int v :: st) ws Φ) : CV Γ kc kn pc lv st ws Φ := by
  obtain ⟨p, l, e, R, s, m, args, below, meth, c, dC, dI, cy, A⟩ := Γ
  obtain ⟨hx, hb, hml, hown, hts, hlk, hK, hA, hf, hlo⟩ := h
  intro H locs ls hP hD hS hl
  exact lv_iconst hx hb hd hv (k H locs ls hP hD hS hl)
theorem k_bp (h : Vk own cc nL d Γ) {n : Int} {v : Int32} (hd : decode cc pc = .ok (.bipush n, 2)) (hv : (Int8.ofInt n).toInt32 = v) (k : CV Γ kc kn (pc + 2) lv (.int v :: st) ws Φ) : CV Γ kc kn pc lv st ws Φ := by
  obtain ⟨p, l, e, R, s, m, args, below, meth, c, dC, dI, cy, A⟩ := Γ
  obtain ⟨hx, hb, hml, hown, hts, hlk, hK, hA, hf, hlo⟩ := h
  intro H locs ls hP hD hS hl
  exact lv_bipush hx hb hd hv (k H locs ls hP hD hS hl)
theorem k_sp (h : Vk own cc nL d Γ) {n : Int} {v : Int32} (hd : decode cc pc = .ok (.sipush n, 3)) (hv : (Int16.ofInt n).toInt32 = v) (k : CV Γ kc kn (pc + 3) lv (.int v :: st) ws Φ) : CV Γ kc kn pc lv st ws Φ := by
  obtain ⟨p, l, e, R, s, m, args, below, meth, c, dC, dI, cy, A⟩ := Γ
  obtain ⟨hx, hb, hml, hown, hts, hlk, hK, hA, hf, hlo⟩ := h
  intro H locs ls hP hD hS hl
  exact lv_sipush hx hb hd hv (k H locs ls hP hD hS hl)
theorem k_dup (h : Vk own cc nL d Γ) {v : Value} (hd : decode cc pc = .ok (.dup, 1)) (hv : v.category = 1) (k : CV Γ kc kn (pc + 1) lv (v :: v :: st) ws Φ) : CV Γ kc kn pc lv (v :: st) ws Φ := by
  obtain ⟨p, l, e, R, s, m, args, below, meth, c, dC, dI, cy, A⟩ := Γ
  obtain ⟨hx, hb, hml, hown, hts, hlk, hK, hA, hf, hlo⟩ := h
  intro H locs ls hP hD hS hl
  exact lv_dup hx hb hd hv (k H locs ls hP hD hS hl)
theorem k_obj (h : Vk own cc nL (d + 1) Γ) {idx a : Nat} (hl0 : Cond.methodLink own idx Lib.objectInit ∈ bigW) (h2 : Cond.instanceMethod Lib.objectInit ∈ bigW) (h3 : Cond.code Lib.objectInit { data := #[177] } 1 none ∈ bigW) (hd : decode cc pc = .ok (.invokespecial idx, 3)) (hcat : (st.map fun v => v.category).sum ≤ 8) (k : CV Γ kc kn (pc + 3) lv st ws Φ) : CV Γ kc kn pc lv (.ref a :: st) ws Φ := by
  obtain ⟨p, l, e, R, s, m, args, below, meth, c, dC, dI, cy, A⟩ := Γ
  obtain ⟨hx, hb, hml, hown, hts, hlk, hK, hA, hf, hlo⟩ := h
  intro H locs ls hP hD hS hl
  refine W.objInit hx hb hown (hts _ hl0) (hts _ h2) (hts _ h3) rfl hl.1 rfl hd (by omega) (show 2 * 0 + (st.map fun v => v.category).sum + 12 ≤ R.locals by omega) ?_
  exact W.eq (g2 := F0 m (pc + 3) ls st) rfl (k H locs ls hP hD hS hl)
theorem k_newa (h : Vk own cc nL d Γ) {at_ : ArrayType} {ty : FieldType} {n : Int32} {N : Nat} {a0 : vp_A} (t : Nat) (hr : Rk Γ (kc + 1) (kn + N)) (hw : Cond.arrayClass (newarray.typeOf at_) ∈ bigW) (hty : newarray.typeOf at_ = ty) (ht : ∀ cy : Nat → ClassId, (tysO cy)[t]? = some (cy t, ty)) (ho : ∀ C, ty ≠ .object C) (ha : ∀ cA : ClassId, vp_cell cA a0 = arrV cA N (fun _ => defaultValue ty)) (hn : ¬ n < 0) (hN : n.toNatClampNeg = N) (hbytes : N * componentBytes ty ≤ 536870912) (hd : decode cc pc = .ok (.newarray at_, 2))
    (k : ∀ q, CV Γ (kc + 1) (kn + N) (pc + 2) lv (.ref q :: st) (ws ++ [(q, .inl (Γ.2.2.2.2.2.2.2.2.2.2.2.2.1 t, a0))]) Φ) : CV Γ kc kn pc lv (.int n :: st) ws Φ := by
  obtain ⟨p, l, e, R, s, m, args, below, meth, c, dC, dI, cy, A⟩ := Γ
  obtain ⟨hx, hb, hml, hown, hts, hlk, hK, hA, hf, hlo⟩ := h
  intro H locs ls hP hD hS hl
  refine va_newa hx hb (hts _ hw) hty hK hP hD hS hA ha hn hN hbytes hr.1 hr.2 hd (fun q cA H1 hK1 hP1 hD1 hS1 => ?_)
  have e1 := (hK1.2 5 (cA, ty) rfl).2
  have e2 := (hK.2 t (cy t, ty) (ht cy)).2
  have e : cA = cy t := by
    unfold va_RA at e1 e2
    cases ty <;> first | exact Option.some.inj (e1.symm.trans e2) | exact absurd rfl (ho _)
  subst e
  exact k q H1 locs ls hP1 hD1 hS1 hl
theorem k_put (h : Vk own cc nL d Γ) {idx ci k a : Nat} {ty : FieldType} {fs : List Value} {v : Value} (q0 : Nat) (F : FP own idx ci k ty) (he : ws[q0]? = some (a, .inr (ci, fs))) (hn : narrow ty v = v) (hfit : fits ty v = true) (hl2 : k < fs.length) (hnn : ∀ host C n dd, (own, idx, C, n, dd, host) ∉ nestF) (hd : decode cc pc = .ok (.putfield idx, 3)) (K : CV Γ kc kn (pc + 3) lv st (ws.set q0 (a, .inr (ci, fs.set k v))) Φ) : CV Γ kc kn pc lv (v :: .ref a :: st) ws Φ := by
  obtain ⟨p, l, e, R, s, m, args, below, meth, c, dC, dI, cy, A⟩ := Γ
  obtain ⟨hx, hb, hml, hown, hts, hlk, hK, hA, hf, hlo⟩ := h
  obtain ⟨C, T, N, ty0, hc, hkN, hin0, hlink, hty, hnm, hfin, hdt⟩ := F
  intro H locs ls hP hD hS hl
  rcases hlink with hlink | ⟨host, hlink⟩
  · exact va_put (D := (dC, dI)) (ty := ty) hx hb hts hin0 ty0 hty hnm hown hK hP hD hS q0 he hc k hkN (hts _ hlink) (fun _ h9 => h9) hfin hdt hn hfit hl2 hd (fun H1 locs1 hP1 hD1 hS1 => K H1 locs1 ls hP1 hD1 hS1 hl)
  · exact absurd hlink (hnn _ _ _ _)
theorem k_putF (h : Vk own cc nL d Γ) (hi : Vi Γ) {idx ci k a : Nat} {ty : FieldType} {fs : List Value} {v : Value} (q0 : Nat) (F : FPF own idx ci k ty) (he : ws[q0]? = some (a, .inr (ci, fs))) (hn : narrow ty v = v) (hfit : fits ty v = true) (hl2 : k < fs.length) (hnn : ∀ host C n dd, (own, idx, C, n, dd, host) ∉ nestF) (hd : decode cc pc = .ok (.putfield idx, 3)) (K : CV Γ kc kn (pc + 3) lv st (ws.set q0 (a, .inr (ci, fs.set k v))) Φ) : CV Γ kc kn pc lv (v :: .ref a :: st) ws Φ := by
  obtain ⟨p, l, e, R, s, m, args, below, meth, c, dC, dI, cy, A⟩ := Γ
  obtain ⟨hx, hb, hml, hown, hts, hlk, hK, hA, hf, hlo⟩ := h
  obtain ⟨C, T, N, ty0, hc, hkN, hin0, hlink, hty, hnm, hfin, hdt⟩ := F
  intro H locs ls hP hD hS hl
  rcases hlink with hlink | ⟨host, hlink⟩
  · exact va_putF (D := (dC, dI)) (ty := ty) hx hb hts hin0 ty0 hty hnm hown hK hP hD hS q0 he hc k hkN (hts _ hlink) (fun _ h9 => h9) hfin.1 hi.1 hfin.2 hdt hn hfit hl2 hd (fun H1 locs1 hP1 hD1 hS1 => K H1 locs1 ls hP1 hD1 hS1 hl)
  · exact absurd hlink (hnn _ _ _ _)
theorem k_ret (h : Vk own cc nL d Γ) (hi : Vi Γ) {Q : va_W → Prop} (hd : decode cc pc = .ok (.return_, 1)) (hq : Q ws) : CV Γ kc kn pc lv [] ws (FnK Γ Q kc kn) := by
  obtain ⟨p, l, e, R, s, m, args, below, meth, c, dC, dI, cy, A⟩ := Γ
  obtain ⟨hx, hb, hml, hown, hts, hlk, hK, hA, hf, hlo⟩ := h
  intro H locs ls hP hD hS hl
  exact W.vret hx hb hi.2 (fun t ht hW => ⟨⟨ws, rfl, hq, by rw [ht]; exact hP, va_K.moved hW.alike hK, hD⟩, hS.F ht⟩) hS.2.2 hd hlk
end KR
