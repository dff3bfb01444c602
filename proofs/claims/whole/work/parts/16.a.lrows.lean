/-! The law: its context, its rows -/
def Lx (L : Nat) (xs : Nat → Int32) (Γ : Cx) : Prop := match Γ with
  | (_, l, _, R, s, _, args, _, _, _, ad, _, _, _, A) => l.stackTraces = false ∧ NX s ∧ va_X (ad 500) L xs s s.heap ∧ ad 500 < s.heap.size ∧ ¬ A (ad 500) ∧ R = room_1 ∧ args = #[Value.ref (ad 500)] ∧ ∀ q, A q → s.heap.size ≤ q
def LZ (Γ : Cx) : State → Prop := match Γ with
  | (_, _, _, _, s, _, args, below, _, _, _, _, _, _, _) => lw_Z below args s
theorem lx_xl {L : Nat} {xs : Nat → Int32} {Γ : Cx} (h : Lx L xs Γ) : Xl Γ := by
  obtain ⟨p, l, e, R, s, m, args, below, meth, c, ad, dC, dI, cy, A⟩ := Γ
  exact ⟨h.1, h.2.1⟩
theorem lx_ren {L : Nat} {xs : Nat → Int32} {Γ : Cx} (h : Lx L xs Γ) : Lx L xs (cxR Γ) := by
  obtain ⟨p, l, e, R, s, m, args, below, meth, c, ad, dC, dI, cy, A⟩ := Γ
  have e : (ad ∘ pi) 500 = ad 500 := congrArg ad (pi_hi (by decide))
  unfold Lx cxR at *
  dsimp only at h ⊢
  rw [e]
  exact h
theorem lz_ren {Γ : Cx} : LZ (cxR Γ) = LZ Γ := by
  obtain ⟨p, l, e, R, s, m, args, below, meth, c, ad, dC, dI, cy, A⟩ := Γ
  rfl
theorem lx_rok {L : Nat} {xs : Nat → Int32} {Γ : Cx} (h : Lx L xs Γ) {kc kn : Nat} (h1 : kc ≤ 601024) (h2 : kn ≤ 7293033) : Rok Γ kc kn := by
  obtain ⟨p, l, e, R, s, m, args, below, meth, c, ad, dC, dI, cy, A⟩ := Γ
  obtain ⟨-, -, -, -, -, hR, -⟩ := h
  subst hR
  exact ⟨h1, h2⟩
section GL
variable {own : String} {cc : ByteArray} {nL d kc kn pc : Nat} {ret : Option FieldType} {Γ : Cx} {lv : List (Option Value)} {st : List Value} {I : MI} {J : MJ} {P : MP} {Φ : State → Prop} {L : Nat} {xs : Nat → Int32}
theorem g_xlen (h : Vc own cc nL ret d Γ) (hx : Lx L xs Γ) (hd : decode cc pc = .ok (.arraylength, 1)) (k : VG Γ kc kn (pc + 1) lv (.int (nI L) :: st) I J P Φ) : VG Γ kc kn pc lv (.ref 500 :: st) I J P Φ := by
  obtain ⟨p, l, e, R, s, m, args, below, meth, c, ad, dC, dI, cy, A⟩ := Γ
  obtain ⟨hx1, hb, -⟩ := h
  obtain ⟨-, -, hX, hbl, hbA, -⟩ := hx
  intro H locs ls hP hS hl
  exact va_slen hx1 hb hX hbl hbA hS hd (k H locs ls hP hS hl)
theorem g_xld (h : Vc own cc nL ret d Γ) (hx : Lx L xs Γ) {x : Int32} (j : Nat) (hd : decode cc pc = .ok (.iaload, 1)) (hj : x = nI j) (hL : j < L) (hL2 : L < 2 ^ 31) (k : VG Γ kc kn (pc + 1) lv (.int (xs j) :: st) I J P Φ) : VG Γ kc kn pc lv (.int x :: .ref 500 :: st) I J P Φ := by
  obtain ⟨p, l, e, R, s, m, args, below, meth, c, ad, dC, dI, cy, A⟩ := Γ
  obtain ⟨hx1, hb, -⟩ := h
  obtain ⟨-, -, hX, hbl, hbA, -⟩ := hx
  subst hj
  intro H locs ls hP hS hl
  refine va_sld hx1 hb hX hbl hbA hS (vp_in_nI hL hL2) hd ?_
  rw [nI_clamp (by omega)]
  exact k H locs ls hP hS hl
theorem g_dload (h : Vc own cc nL ret d Γ) {x : UInt64} (i : Nat) (hd : decode cc pc = .ok (.dload i, 2)) (hx0 : lv[i]? = some (some (.double x))) (k : VG Γ kc kn (pc + 2) lv (.double x :: st) I J P Φ) : VG Γ kc kn pc lv st I J P Φ := by
  obtain ⟨p, l, e, R, s, m, args, below, meth, c, ad, dC, dI, cy, A⟩ := Γ
  obtain ⟨hx, hb, hml, hr, hown, hts, hlk, hK, hA, hin, hAd, hf, hlo, hRO⟩ := h
  intro H locs ls hP hS hl
  exact lv_dload hx hb hd (asl_at hl hx0) (k H locs ls hP hS hl)
theorem g_dstore (h : Vc own cc nL ret d Γ) {x : UInt64} (i : Nat) (hd : decode cc pc = .ok (.dstore i, 2)) (hi : i + 1 < nL) (ok : okst lv i = true) (k : VG Γ kc kn (pc + 2) ((lv.set i (some (.double x))).set (i + 1) none) st I J P Φ) : VG Γ kc kn pc lv (.double x :: st) I J P Φ := by
  obtain ⟨p, l, e, R, s, m, args, below, meth, c, ad, dC, dI, cy, A⟩ := Γ
  obtain ⟨hx, hb, hml, hr, hown, hts, hlk, hK, hA, hin, hAd, hf, hlo, hRO⟩ := h
  intro H locs ls hP hS hl
  exact lv_dstore hx hb hd hl (by rw [hml]; exact hi) rfl (fun ls2 hl2 => k H locs ls2 hP hS (asl_set2 ok hl2))
theorem g_dcmp (h : Vc own cc nL ret d Γ) {x y : UInt64} {op : CmpOp} (hd : decode cc pc = .ok (.dcmp op, 1)) (k : VG Γ kc kn (pc + 1) lv (.int (Op.cmpValue (FP.dcmp x y) op) :: st) I J P Φ) : VG Γ kc kn pc lv (.double y :: .double x :: st) I J P Φ := by
  obtain ⟨p, l, e, R, s, m, args, below, meth, c, ad, dC, dI, cy, A⟩ := Γ
  obtain ⟨hx, hb, hml, hr, hown, hts, hlk, hK, hA, hin, hAd, hf, hlo, hRO⟩ := h
  intro H locs ls hP hS hl
  exact lv_dcmp hx hb hd (k H locs ls hP hS hl)
theorem g_cVd0 (h : Vc own cc nL ret (d + 1) Γ) (hrk : Rok Γ kc kn) {y : MethodName} {cb : ByteArray} {mL idx b ci : Nat} {rt : Option FieldType} {ks : List Nat} {q : vw_C} (hm : MIv y cb mL rt 0) (hd : decode cc pc = .ok (.invokevirtual idx, 3)) (hl0 : Cond.methodLink own idx y ∈ bigW) (hs : shp b = .inl (ci, ks)) (hci : vwCl[ci]? = some q) (hq : q.1 = y.cls) (hent : (entA (.ref b :: [])).length ≤ mL) (hcat : (st.map fun v => v.category).sum ≤ 8) (hc : Sp y cb mL rt d (.ref b :: []) I J P (Qd (fun r I' J' P' => VG Γ kc kn (pc + 3) lv (.double r :: st) I' J' P' Φ))) : VG Γ kc kn pc lv (.ref b :: st) I J P Φ := g_callV (As := []) h hrk hm hd hl0 hs hci hq hent rfl hcat (fun Γ2 h2 => fnl_mono (fun r I1 J1 P1 hq => by obtain ⟨x, rfl, hq⟩ := hq; exact hq) (hc Γ2 h2))
theorem g_lwret (h : Vc own code nL (some .boolean) d Γ) (hx : Lx L xs Γ) (hkc : kc ≤ 601024) (hkn : kn ≤ 7293033) (hd : decode code pc = .ok (.ireturn, 1)) : VG Γ kc kn pc lv [.int 1] I J P (LZ Γ) := by
  obtain ⟨p, l, e, R, s, m, args, below, meth, c, ad, dC, dI, cy, A⟩ := Γ
  obtain ⟨hx1, hb, hml, hr, hown, hts, hlk, hK, hA, hin, hAd, hf, hlo, hRO⟩ := h
  obtain ⟨-, -, -, -, -, hR, ha, hAA⟩ := hx
  subst hR
  subst ha
  intro H locs ls hP hS hl
  show W p l e room_1 s m #[Value.ref (ad 500)] below meth c H locs kc kn (lw_Z below #[Value.ref (ad 500)] s) (F0 m pc ls [.int 1])
  refine va_forget (fun q hq => hAA _ (hS.2.2 q hq)) ?_
  refine W.widen (k := 601024) (n := 7293033) hkc hkn ?_
  exact W.base (lw_ret (Drawn.sameBut.refl s.drawn lw_cs) hx1 hb hr hlk hd)
end GL
theorem vg_none {Γ : Cx} {kc kn pc : Nat} {a0 a1 a2 a3 a4 x5 x6 x7 x8 : Option Value} {st : List Value} {I : MI} {J : MJ} {P : MP} {Φ : State → Prop} (k : VG Γ kc kn pc [a0, a1, a2, a3, a4, none, none, none, none] st I J P Φ) : VG Γ kc kn pc [a0, a1, a2, a3, a4, x5, x6, x7, x8] st I J P Φ := by
  obtain ⟨p, l, e, R, s, m, args, below, meth, c, ad, dC, dI, cy, A⟩ := Γ
  intro H locs ls hP hS hl
  refine k H locs ls hP hS ⟨hl.1, hl.2.1, fun q hq => hl.2.2 q ?_⟩
  obtain ⟨j, w⟩ := q
  obtain ⟨k, v, rfl, h1, rfl⟩ := asl_in.mp hq
  refine asl_in.mpr ⟨k, v, rfl, ?_, rfl⟩
  rcases k with _ | _ | _ | _ | _ | _ | _ | _ | _ | k
  · exact h1
  · exact h1
  · exact h1
  · exact h1
  · exact h1
  · exact absurd h1 (by intro q; cases q)
  · exact absurd h1 (by intro q; cases q)
  · exact absurd h1 (by intro q; cases q)
  · exact absurd h1 (by intro q; cases q)
  · exact absurd h1 (by intro q; cases q)
theorem sph_qi {y : MethodName} {cb : ByteArray} {mL d : Nat} {hh : List (Nat × Nat × Nat × Nat)} {as : List Value} {I : MI} {J : MJ} {P : MP} {Q1 : Int32 → MI → MJ → MP → Prop} {Q2 : Option Value → MI → MJ → MP → Prop} (h : SpH y cb mL hh d as I J P (Qi Q1)) (hq : ∀ r I J P, Q1 r I J P → Q2 (some (.int r)) I J P) : SpH y cb mL hh d as I J P Q2 := by
  intro Γ a b
  have k := h Γ a b
  obtain ⟨p, l, e, R, s, m, args, below, meth, c, ad, dC, dI, cy, A⟩ := Γ
  intro H locs ls hP hS hl T hT Y
  obtain ⟨t, a1, o, b1, b2, b3⟩ := k H locs ls hP hS hl T hT Y
  refine ⟨t, a1, o, b1, b2, ?_⟩
  rcases b3 with ⟨⟨⟨r, I1, J1, P1, hv, ⟨x, rfl, hq1⟩, hP1, hK1⟩, hF⟩, b4⟩ | ⟨q, q1, E, ce, L, hx1, q2⟩
  · exact Or.inl ⟨⟨⟨_, I1, J1, P1, hv, hq _ _ _ _ hq1, hP1, hK1⟩, hF⟩, b4⟩
  · exact hx1.elim
theorem sp_qi {y : MethodName} {cb : ByteArray} {mL d : Nat} {rt : Option FieldType} {as : List Value} {I : MI} {J : MJ} {P : MP} {Q1 Q2 : Int32 → MI → MJ → MP → Prop} (h : Sp y cb mL rt d as I J P (Qi Q1)) (hq : ∀ r I J P, Q1 r I J P → Q2 r I J P) : Sp y cb mL rt d as I J P (Qi Q2) := fun Γ2 h2 => fnl_mono (fun r I1 J1 P1 q => by obtain ⟨x, rfl, q⟩ := q; exact ⟨x, rfl, hq _ _ _ _ q⟩) (h Γ2 h2)
theorem sp_ql {y : MethodName} {cb : ByteArray} {mL d : Nat} {rt : Option FieldType} {as : List Value} {I : MI} {J : MJ} {P : MP} {Q1 Q2 : Int64 → MI → MJ → MP → Prop} (h : Sp y cb mL rt d as I J P (Ql Q1)) (hq : ∀ r I J P, Q1 r I J P → Q2 r I J P) : Sp y cb mL rt d as I J P (Ql Q2) := fun Γ2 h2 => fnl_mono (fun r I1 J1 P1 q => by obtain ⟨x, rfl, q⟩ := q; exact ⟨x, rfl, hq _ _ _ _ q⟩) (h Γ2 h2)
theorem sp_qd {y : MethodName} {cb : ByteArray} {mL d : Nat} {rt : Option FieldType} {as : List Value} {I : MI} {J : MJ} {P : MP} {Q1 Q2 : UInt64 → MI → MJ → MP → Prop} (h : Sp y cb mL rt d as I J P (Qd Q1)) (hq : ∀ r I J P, Q1 r I J P → Q2 r I J P) : Sp y cb mL rt d as I J P (Qd Q2) := fun Γ2 h2 => fnl_mono (fun r I1 J1 P1 q => by obtain ⟨x, rfl, q⟩ := q; exact ⟨x, rfl, hq _ _ _ _ q⟩) (h Γ2 h2)
theorem lcmp_self (x : Int64) : lg_cmp x x = 0 := by simp [lg_cmp]
