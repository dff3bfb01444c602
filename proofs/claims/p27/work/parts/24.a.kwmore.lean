/-! Rows of the world's view: more of them -/
section KW2
variable {own : String} {cc : ByteArray} {nL d kc kn pc : Nat} {Γ : Cz} {lv : List (Option Value)} {st : List Value} {ws : va_W} {Φ : State → Prop} {ad : Nat → Nat}
theorem kw_imul (h : Vk own cc nL d Γ) {x y : Int32} (hd : decode cc pc = .ok (.imul, 1)) (k : CW Γ kc kn (pc + 1) lv (.int (x * y) :: st) ws Φ) : CW Γ kc kn pc lv (.int y :: .int x :: st) ws Φ := by
  obtain ⟨p, l, e, R, s, m, args, below, meth, c, dC, dI, cy, A⟩ := Γ
  obtain ⟨hx, hb, hml, hown, hts, hlk, hK, hA, hf, hlo⟩ := h
  intro H locs ls hP hD hS hl
  exact lv_imul hx hb hd (k H locs ls hP hD hS hl)
theorem kw_ior (h : Vk own cc nL d Γ) {x y : Int32} (hd : decode cc pc = .ok (.ior, 1)) (k : CW Γ kc kn (pc + 1) lv (.int (x ||| y) :: st) ws Φ) : CW Γ kc kn pc lv (.int y :: .int x :: st) ws Φ := by
  obtain ⟨p, l, e, R, s, m, args, below, meth, c, dC, dI, cy, A⟩ := Γ
  obtain ⟨hx, hb, hml, hown, hts, hlk, hK, hA, hf, hlo⟩ := h
  intro H locs ls hP hD hS hl
  exact lv_ior hx hb hd (k H locs ls hP hD hS hl)
theorem kw_ishl (h : Vk own cc nL d Γ) {x y : Int32} (hd : decode cc pc = .ok (.ishl, 1)) (k : CW Γ kc kn (pc + 1) lv (.int (x <<< (y &&& 31)) :: st) ws Φ) : CW Γ kc kn pc lv (.int y :: .int x :: st) ws Φ := by
  obtain ⟨p, l, e, R, s, m, args, below, meth, c, dC, dI, cy, A⟩ := Γ
  obtain ⟨hx, hb, hml, hown, hts, hlk, hK, hA, hf, hlo⟩ := h
  intro H locs ls hP hD hS hl
  exact lv_ishl hx hb hd (k H locs ls hP hD hS hl)
theorem kw_idiv (h : Vk own cc nL d Γ) {x y : Int32} (hd : decode cc pc = .ok (.idiv, 1)) (hne : ¬ y = 0) (k : CW Γ kc kn (pc + 1) lv (.int (x / y) :: st) ws Φ) : CW Γ kc kn pc lv (.int y :: .int x :: st) ws Φ := by
  obtain ⟨p, l, e, R, s, m, args, below, meth, c, dC, dI, cy, A⟩ := Γ
  obtain ⟨hx, hb, hml, hown, hts, hlk, hK, hA, hf, hlo⟩ := h
  intro H locs ls hP hD hS hl
  exact lv_idiv hx hb hd hne (k H locs ls hP hD hS hl)
theorem kw_irem (h : Vk own cc nL d Γ) {x y : Int32} (hd : decode cc pc = .ok (.irem, 1)) (hne : ¬ y = 0) (k : CW Γ kc kn (pc + 1) lv (.int (x - x / y * y) :: st) ws Φ) : CW Γ kc kn pc lv (.int y :: .int x :: st) ws Φ := by
  obtain ⟨p, l, e, R, s, m, args, below, meth, c, dC, dI, cy, A⟩ := Γ
  obtain ⟨hx, hb, hml, hown, hts, hlk, hK, hA, hf, hlo⟩ := h
  intro H locs ls hP hD hS hl
  exact lv_irem hx hb hd hne (k H locs ls hP hD hS hl)
theorem kw_ldcI (h : Vk own cc nL d Γ) {n : Nat} {v : Int32} (hd : decode cc pc = .ok (.ldc n, 2)) (hw : Cond.constant own n v ∈ bigW) (k : CW Γ kc kn (pc + 2) lv (.int v :: st) ws Φ) : CW Γ kc kn pc lv st ws Φ := by
  obtain ⟨p, l, e, R, s, m, args, below, meth, c, dC, dI, cy, A⟩ := Γ
  obtain ⟨hx, hb, hml, hown, hts, hlk, hK, hA, hf, hlo⟩ := h
  intro H locs ls hP hD hS hl
  exact lv_ldc hx hb hown (hts _ hw) hd (k H locs ls hP hD hS hl)
theorem kw_icmp_ne (h : Vk own cc nL d Γ) {x y : Int32} {off : Int} (tgt : Nat) (hd : decode cc pc = .ok (.if_icmp .ne off, 3)) (ht : (pc : Int) + off = (tgt : Int)) (kt : ¬ x = y → CW Γ kc kn tgt lv st ws Φ) (kf : x = y → CW Γ kc kn (pc + 3) lv st ws Φ) : CW Γ kc kn pc lv (.int y :: .int x :: st) ws Φ := by
  obtain ⟨p, l, e, R, s, m, args, below, meth, c, dC, dI, cy, A⟩ := Γ
  obtain ⟨hx, hb, hml, hown, hts, hlk, hK, hA, hf, hlo⟩ := h
  intro H locs ls hP hD hS hl
  exact lv_icmp_ne hx hb hd ht (fun q => kt q H locs ls hP hD hS hl) (fun q => kf q H locs ls hP hD hS hl)
theorem kw_icmp_le (h : Vk own cc nL d Γ) {x y : Int32} {off : Int} (tgt : Nat) (hd : decode cc pc = .ok (.if_icmp .le off, 3)) (ht : (pc : Int) + off = (tgt : Int)) (kt : x ≤ y → CW Γ kc kn tgt lv st ws Φ) (kf : ¬ (x ≤ y) → CW Γ kc kn (pc + 3) lv st ws Φ) : CW Γ kc kn pc lv (.int y :: .int x :: st) ws Φ := by
  obtain ⟨p, l, e, R, s, m, args, below, meth, c, dC, dI, cy, A⟩ := Γ
  obtain ⟨hx, hb, hml, hown, hts, hlk, hK, hA, hf, hlo⟩ := h
  intro H locs ls hP hD hS hl
  exact lv_icmp_le hx hb hd ht (fun q => kt q H locs ls hP hD hS hl) (fun q => kf q H locs ls hP hD hS hl)
theorem kw_if_gt (h : Vk own cc nL d Γ) {x : Int32} {off : Int} (tgt : Nat) (hd : decode cc pc = .ok (.ifCond .gt off, 3)) (ht : (pc : Int) + off = (tgt : Int)) (kt : 0 < x → CW Γ kc kn tgt lv st ws Φ) (kf : ¬ (0 < x) → CW Γ kc kn (pc + 3) lv st ws Φ) : CW Γ kc kn pc lv (.int x :: st) ws Φ := by
  obtain ⟨p, l, e, R, s, m, args, below, meth, c, dC, dI, cy, A⟩ := Γ
  obtain ⟨hx, hb, hml, hown, hts, hlk, hK, hA, hf, hlo⟩ := h
  intro H locs ls hP hD hS hl
  exact lv_if_gt hx hb hd ht (fun q => kt q H locs ls hP hD hS hl) (fun q => kf q H locs ls hP hD hS hl)
theorem kw_if_le (h : Vk own cc nL d Γ) {x : Int32} {off : Int} (tgt : Nat) (hd : decode cc pc = .ok (.ifCond .le off, 3)) (ht : (pc : Int) + off = (tgt : Int)) (kt : x ≤ 0 → CW Γ kc kn tgt lv st ws Φ) (kf : ¬ (x ≤ 0) → CW Γ kc kn (pc + 3) lv st ws Φ) : CW Γ kc kn pc lv (.int x :: st) ws Φ := by
  obtain ⟨p, l, e, R, s, m, args, below, meth, c, dC, dI, cy, A⟩ := Γ
  obtain ⟨hx, hb, hml, hown, hts, hlk, hK, hA, hf, hlo⟩ := h
  intro H locs ls hP hD hS hl
  exact lv_if_le hx hb hd ht (fun q => kt q H locs ls hP hD hS hl) (fun q => kf q H locs ls hP hD hS hl)
theorem kw_alodw (h : Vk own cc nL d Γ) {x : Nat} (i : Nat) (hd : decode cc pc = .ok (.aload i, 2)) (hx0 : lv[i]? = some (some (.ref x))) (k : CW Γ kc kn (pc + 2) lv (.ref x :: st) ws Φ) : CW Γ kc kn pc lv st ws Φ := by
  obtain ⟨p, l, e, R, s, m, args, below, meth, c, dC, dI, cy, A⟩ := Γ
  obtain ⟨hx, hb, hml, hown, hts, hlk, hK, hA, hf, hlo⟩ := h
  intro H locs ls hP hD hS hl
  exact lv_aload hx hb hd (asl_at hl hx0) (k H locs ls hP hD hS hl)
theorem kw_astow (h : Vk own cc nL d Γ) {x : Nat} (i : Nat) (hd : decode cc pc = .ok (.astore i, 2)) (hi : i < nL) (ok : okst lv i = true) (k : CW Γ kc kn (pc + 2) (lv.set i (some (.ref x))) st ws Φ) : CW Γ kc kn pc lv (.ref x :: st) ws Φ := by
  obtain ⟨p, l, e, R, s, m, args, below, meth, c, dC, dI, cy, A⟩ := Γ
  obtain ⟨hx, hb, hml, hown, hts, hlk, hK, hA, hf, hlo⟩ := h
  intro H locs ls hP hD hS hl
  exact lv_astore hx hb hd hl (by rw [hml]; exact hi) rfl (fun ls2 hl2 => k H locs ls2 hP hD hS (asl_set1 ok hl2))
theorem kw_null (h : Vk own cc nL d Γ) (hd : decode cc pc = .ok (.aconst_null, 1)) (k : CW Γ kc kn (pc + 1) lv (.null :: st) ws Φ) : CW Γ kc kn pc lv st ws Φ := by
  obtain ⟨p, l, e, R, s, m, args, below, meth, c, dC, dI, cy, A⟩ := Γ
  obtain ⟨hx, hb, hml, hown, hts, hlk, hK, hA, hf, hlo⟩ := h
  intro H locs ls hP hD hS hl
  exact lv_null hx hb hd (k H locs ls hP hD hS hl)
theorem kw_ifnn (h : Vk own cc nL d Γ) {x : Nat} {off : Int} (tgt : Nat) (hd : decode cc pc = .ok (.ifnonnull off, 3)) (ht : (pc : Int) + off = (tgt : Int)) (k : CW Γ kc kn tgt lv st ws Φ) : CW Γ kc kn pc lv (.ref x :: st) ws Φ := by
  obtain ⟨p, l, e, R, s, m, args, below, meth, c, dC, dI, cy, A⟩ := Γ
  obtain ⟨hx, hb, hml, hown, hts, hlk, hK, hA, hf, hlo⟩ := h
  intro H locs ls hP hD hS hl
  exact lv_ifnonnull hx hb hd ht (k H locs ls hP hD hS hl)
theorem kw_dup (h : Vk own cc nL d Γ) {v : Value} (hd : decode cc pc = .ok (.dup, 1)) (hv : v.category = 1) (k : CW Γ kc kn (pc + 1) lv (v :: v :: st) ws Φ) : CW Γ kc kn pc lv (v :: st) ws Φ := k_dup h hd hv k
theorem k_pad {kc' kn' : Nat} (hc : kc ≤ kc') (hn : kn ≤ kn') (k : CW Γ kc' kn' pc lv st ws Φ) : CW Γ kc kn pc lv st ws Φ := by
  obtain ⟨p, l, e, R, s, m, args, below, meth, c, dC, dI, cy, A⟩ := Γ
  intro H locs ls hP hD hS hl T hT X
  exact k H locs ls hP hD hS hl T hT (X.mono hc hn)
/-- arrays of ints and bytes -/
theorem kw_blen (h : Vk own cc nL d Γ) {cy0 : Nat → ClassId} (hcy : cyOf Γ = cy0) (q0 t : Nat) {ty : FieldType} (ht : ∀ cy : Nat → ClassId, (tysO cy)[t]? = some (cy t, ty)) {a n : Nat} {f : Nat → Int32} (he : ws[q0]? = some (a, .inl (cy0 t, n, .inl f))) (hd : decode cc pc = .ok (.arraylength, 1)) (k : CW Γ kc kn (pc + 1) lv (.int (nI n) :: st) ws Φ) : CW Γ kc kn pc lv (.ref a :: st) ws Φ := by
  subst hcy
  obtain ⟨p, l, e, R, s, m, args, below, meth, c, dC, dI, cy, A⟩ := Γ
  obtain ⟨hx, hb, hml, hown, hts, hlk, hK, hA, hf, hlo⟩ := h
  intro H locs ls hP hD hS hl
  exact va_alen (D := (dC, dI)) (tys := tysO cy) hx hb hK hP q0 t he (ht cy) rfl hd (k H locs ls hP hD hS hl)
theorem kw_iald (h : Vk own cc nL d Γ) {cy0 : Nat → ClassId} (hcy : cyOf Γ = cy0) (q0 j : Nat) {a n : Nat} {f : Nat → Int32} {x : Int32} (he : ws[q0]? = some (a, .inl (cy0 0, n, .inl f))) (hj : x = nI j) (hn : j < n) (hn2 : n < 2 ^ 31) (hd : decode cc pc = .ok (.iaload, 1)) (k : CW Γ kc kn (pc + 1) lv (.int (f j) :: st) ws Φ) : CW Γ kc kn pc lv (.int x :: .ref a :: st) ws Φ := by
  subst hcy
  subst hj
  obtain ⟨p, l, e, R, s, m, args, below, meth, c, dC, dI, cy, A⟩ := Γ
  obtain ⟨hx, hb, hml, hown, hts, hlk, hK, hA, hf, hlo⟩ := h
  intro H locs ls hP hD hS hl
  refine va_iald (D := (dC, dI)) (tys := tysO cy) hx hb hK hP q0 0 he rfl (vp_in_nI hn hn2) hd ?_
  rw [nI_clamp (by omega)]
  exact k H locs ls hP hD hS hl
theorem kw_iast (h : Vk own cc nL d Γ) {cy0 : Nat → ClassId} (hcy : cyOf Γ = cy0) (q0 j : Nat) {a n : Nat} {f : Nat → Int32} {x v : Int32} (he : ws[q0]? = some (a, .inl (cy0 0, n, .inl f))) (hj : x = nI j) (hn : j < n) (hn2 : n < 2 ^ 31) (hd : decode cc pc = .ok (.iastore, 1)) (k : CW Γ kc kn (pc + 1) lv st (ws.set q0 (a, .inl (cy0 0, n, .inl (upd f j v)))) Φ) : CW Γ kc kn pc lv (.int v :: .int x :: .ref a :: st) ws Φ := by
  subst hcy
  subst hj
  obtain ⟨p, l, e, R, s, m, args, below, meth, c, dC, dI, cy, A⟩ := Γ
  obtain ⟨hx, hb, hml, hown, hts, hlk, hK, hA, hf, hlo⟩ := h
  intro H locs ls hP hD hS hl
  refine va_iast (D := (dC, dI)) (tys := tysO cy) hx hb hK hP hD hS q0 0 he rfl (vp_in_nI hn hn2) hd (fun H1 locs1 hP1 hD1 hS1 => ?_)
  rw [nI_clamp (by omega)] at hP1 hD1
  exact k H1 locs1 ls hP1 hD1 hS1 hl
/-- the law's texts, names, script -/
theorem kw_ldcL (ho : Vs ad Γ) (h : Vk RL cc nL d Γ) {n i : Nat} (hin : (n, i) ∈ lawK) (hd : decode cc pc = .ok (.ldc n, 2)) (k : CW Γ kc kn (pc + 2) lv (.ref (ad (200 + i)) :: st) ws Φ) : CW Γ kc kn pc lv st ws Φ := by
  obtain ⟨p, l, e, R, s, m, args, below, meth, c, dC, dI, cy, A⟩ := Γ
  have hRO : RO ad A s s.heap := ho
  obtain ⟨hx, hb, hml, hown, hts, hlk, hK, hA, hf, hlo⟩ := h
  intro H locs ls hP hD hS hl
  exact va_ldcS hx hb hown (hRO.lwR _ hin) hd (k H locs ls hP hD hS hl)
theorem kw_gsN (ho : Vs ad Γ) (h : Vk own cc nL d Γ) {idx : Nat} (hl0 : Cond.fieldLink own idx "QuipuKeepersLaw" "NAMES" "[Ljava/lang/String;" ∈ bigW) (hd : decode cc pc = .ok (.getstatic idx, 3)) (k : CW Γ kc kn (pc + 3) lv (.ref (ad 401) :: st) ws Φ) : CW Γ kc kn pc lv st ws Φ := by
  obtain ⟨p, l, e, R, s, m, args, below, meth, c, dC, dI, cy, A⟩ := Γ
  have hRO : RO ad A s s.heap := ho
  obtain ⟨hx, hb, hml, hown, hts, hlk, hK, hA, hf, hlo⟩ := h
  intro H locs ls hP hD hS hl
  exact va_gets hx hb hRO.nms hS hown (hts _ hl0) (fun _ h9 => h9) hd (k H locs ls hP hD hS hl)
theorem kw_nAt (ho : Vs ad Γ) (h : Vk own cc nL d Γ) (j : Nat) {x : Int32} (hd : decode cc pc = .ok (.aaload, 1)) (hj : x = nI j) (hn : j < 12) (k : CW Γ kc kn (pc + 1) lv (.ref (ad (236 + j)) :: st) ws Φ) : CW Γ kc kn pc lv (.int x :: .ref (ad 401) :: st) ws Φ := by
  obtain ⟨p, l, e, R, s, m, args, below, meth, c, dC, dI, cy, A⟩ := Γ
  have hRO : RO ad A s s.heap := ho
  obtain ⟨hx, hb, hml, hown, hts, hlk, hK, hA, hf, hlo⟩ := h
  intro H locs ls hP hD hS hl
  exact vb_tq hx hb hRO.nmT hS (by rw [hj]; exact vp_in_nI hn (by omega)) (v := .ref (ad (236 + j))) (by rw [hj, nI_clamp (by omega)]) hd (k H locs ls hP hD hS hl)
theorem kw_xlen (ho : Vs ad Γ) (h : Vk own cc nL d Γ) (hd : decode cc pc = .ok (.arraylength, 1)) (k : ad 501 ≤ 260 → CW Γ kc kn (pc + 1) lv (.int (nI (ad 501)) :: st) ws Φ) : CW Γ kc kn pc lv (.ref (ad 500) :: st) ws Φ := by
  obtain ⟨p, l, e, R, s, m, args, below, meth, c, dC, dI, cy, A⟩ := Γ
  have hRO : RO ad A s s.heap := ho
  obtain ⟨hx, hb, hml, hown, hts, hlk, hK, hA, hf, hlo⟩ := h
  intro H locs ls hP hD hS hl
  exact va_tlen hx hb hRO.sx hS rfl hd (k hRO.sl H locs ls hP hD hS hl)
theorem kw_xld (ho : Vs ad Γ) (h : Vk own cc nL d Γ) {x : Int32} (j : Nat) (hd : decode cc pc = .ok (.iaload, 1)) (hj : x = nI j) (hn : j < ad 501) (hL : ad 501 ≤ 260) (k : ∀ v, CW Γ kc kn (pc + 1) lv (.int v :: st) ws Φ) : CW Γ kc kn pc lv (.int x :: .ref (ad 500) :: st) ws Φ := by
  obtain ⟨p, l, e, R, s, m, args, below, meth, c, dC, dI, cy, A⟩ := Γ
  have hRO : RO ad A s s.heap := ho
  obtain ⟨hx, hb, hml, hown, hts, hlk, hK, hA, hf, hlo⟩ := h
  intro H locs ls hP hD hS hl
  exact va_ti hx hb hRO.sx hS (by rw [hj]; exact vp_in_nI hn (by omega)) (v := .int (sxI ad j)) (by rw [hj, nI_clamp (by omega)]) hd (k _ H locs ls hP hD hS hl)
end KW2
