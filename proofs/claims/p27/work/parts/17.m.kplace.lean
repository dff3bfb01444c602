/-! The making of objects: rows with locals by places; the library's text -/
abbrev CW (Γ : Cz) (kc kn pc : Nat) (lv : List (Option Value)) (st : List Value) (ws : va_W) (Φ : State → Prop) : Prop := CV Γ kc kn pc (asl id 0 lv) st ws Φ
def Vt (ret : Option FieldType) (Γ : Cz) : Prop := match Γ with
  | (_, _, _, _, _, _, _, _, meth, _, _, _, _, _) => meth.sig.returnType = ret
def Vs (ad : Nat → Nat) (Γ : Cz) : Prop := match Γ with
  | (_, _, _, _, s, _, _, _, _, _, _, _, _, A) => RO ad A s s.heap
theorem rk0 {Γ : Cz} : Rk Γ 0 0 := by
  obtain ⟨p, l, e, R, s, m, args, below, meth, c, dC, dI, cy, A⟩ := Γ
  exact ⟨Nat.zero_le _, Nat.zero_le _⟩
def QnR (A : Nat → Prop) (Q : Option Value → Prop) : Array Value → State → Outcome → State → Prop := fun _ st oc t => (∃ r, oc = .returned r ∧ Q r) ∧ va_F A st t
def FnR (Γ : Cz) (Q : Option Value → Prop) : State → Prop := match Γ with
  | (_, _, _, _, s, _, args, below, _, _, _, _, _, A) => MQ below (QnR A Q) args s 0 0 A
section KW
variable {own : String} {cc : ByteArray} {nL d kc kn pc : Nat} {Γ : Cz} {lv : List (Option Value)} {st : List Value} {ws : va_W} {Φ : State → Prop} {ad : Nat → Nat}
theorem kw_ilod (h : Vk own cc nL d Γ) {n : Fin 4} {x : Int32} (i : Nat) (hd : decode cc pc = .ok (.iload_n n, 1)) (hn : (n : Nat) = i) (hx0 : lv[i]? = some (some (.int x))) (k : CW Γ kc kn (pc + 1) lv (.int x :: st) ws Φ) : CW Γ kc kn pc lv st ws Φ := by
  obtain ⟨p, l, e, R, s, m, args, below, meth, c, dC, dI, cy, A⟩ := Γ
  obtain ⟨hx, hb, hml, hown, hts, hlk, hK, hA, hf, hlo⟩ := h
  intro H locs ls hP hD hS hl
  exact lv_iload_n hx hb hd hn (asl_at hl hx0) (k H locs ls hP hD hS hl)
theorem kw_ilodw (h : Vk own cc nL d Γ) {x : Int32} (i : Nat) (hd : decode cc pc = .ok (.iload i, 2)) (hx0 : lv[i]? = some (some (.int x))) (k : CW Γ kc kn (pc + 2) lv (.int x :: st) ws Φ) : CW Γ kc kn pc lv st ws Φ := by
  obtain ⟨p, l, e, R, s, m, args, below, meth, c, dC, dI, cy, A⟩ := Γ
  obtain ⟨hx, hb, hml, hown, hts, hlk, hK, hA, hf, hlo⟩ := h
  intro H locs ls hP hD hS hl
  exact lv_iload hx hb hd (asl_at hl hx0) (k H locs ls hP hD hS hl)
theorem kw_llod (h : Vk own cc nL d Γ) {n : Fin 4} {x : Int64} (i : Nat) (hd : decode cc pc = .ok (.lload_n n, 1)) (hn : (n : Nat) = i) (hx0 : lv[i]? = some (some (.long x))) (k : CW Γ kc kn (pc + 1) lv (.long x :: st) ws Φ) : CW Γ kc kn pc lv st ws Φ := by
  obtain ⟨p, l, e, R, s, m, args, below, meth, c, dC, dI, cy, A⟩ := Γ
  obtain ⟨hx, hb, hml, hown, hts, hlk, hK, hA, hf, hlo⟩ := h
  intro H locs ls hP hD hS hl
  exact lv_lload_n hx hb hd hn (asl_at hl hx0) (k H locs ls hP hD hS hl)
theorem kw_alod (h : Vk own cc nL d Γ) {n : Fin 4} {x : Nat} (i : Nat) (hd : decode cc pc = .ok (.aload_n n, 1)) (hn : (n : Nat) = i) (hx0 : lv[i]? = some (some (.ref x))) (k : CW Γ kc kn (pc + 1) lv (.ref x :: st) ws Φ) : CW Γ kc kn pc lv st ws Φ := by
  obtain ⟨p, l, e, R, s, m, args, below, meth, c, dC, dI, cy, A⟩ := Γ
  obtain ⟨hx, hb, hml, hown, hts, hlk, hK, hA, hf, hlo⟩ := h
  intro H locs ls hP hD hS hl
  exact lv_aload_n hx hb hd hn (asl_at hl hx0) (k H locs ls hP hD hS hl)
theorem kw_isto (h : Vk own cc nL d Γ) {n : Fin 4} {x : Int32} (i : Nat) (hd : decode cc pc = .ok (.istore_n n, 1)) (hn : (n : Nat) = i) (hi : i < nL) (ok : okst lv i = true) (k : CW Γ kc kn (pc + 1) (lv.set i (some (.int x))) st ws Φ) : CW Γ kc kn pc lv (.int x :: st) ws Φ := by
  obtain ⟨p, l, e, R, s, m, args, below, meth, c, dC, dI, cy, A⟩ := Γ
  obtain ⟨hx, hb, hml, hown, hts, hlk, hK, hA, hf, hlo⟩ := h
  intro H locs ls hP hD hS hl
  exact lv_istore_n hx hb hd hn hl (by rw [hml]; exact hi) rfl (fun ls2 hl2 => k H locs ls2 hP hD hS (asl_set1 ok hl2))
theorem kw_istow (h : Vk own cc nL d Γ) {x : Int32} (i : Nat) (hd : decode cc pc = .ok (.istore i, 2)) (hi : i < nL) (ok : okst lv i = true) (k : CW Γ kc kn (pc + 2) (lv.set i (some (.int x))) st ws Φ) : CW Γ kc kn pc lv (.int x :: st) ws Φ := by
  obtain ⟨p, l, e, R, s, m, args, below, meth, c, dC, dI, cy, A⟩ := Γ
  obtain ⟨hx, hb, hml, hown, hts, hlk, hK, hA, hf, hlo⟩ := h
  intro H locs ls hP hD hS hl
  exact lv_istore hx hb hd hl (by rw [hml]; exact hi) rfl (fun ls2 hl2 => k H locs ls2 hP hD hS (asl_set1 ok hl2))
theorem kw_asto (h : Vk own cc nL d Γ) {n : Fin 4} {x : Nat} (i : Nat) (hd : decode cc pc = .ok (.astore_n n, 1)) (hn : (n : Nat) = i) (hi : i < nL) (ok : okst lv i = true) (k : CW Γ kc kn (pc + 1) (lv.set i (some (.ref x))) st ws Φ) : CW Γ kc kn pc lv (.ref x :: st) ws Φ := by
  obtain ⟨p, l, e, R, s, m, args, below, meth, c, dC, dI, cy, A⟩ := Γ
  obtain ⟨hx, hb, hml, hown, hts, hlk, hK, hA, hf, hlo⟩ := h
  intro H locs ls hP hD hS hl
  exact lv_astore_n hx hb hd hn hl (by rw [hml]; exact hi) rfl (fun ls2 hl2 => k H locs ls2 hP hD hS (asl_set1 ok hl2))
theorem kw_lsto (h : Vk own cc nL d Γ) {n : Fin 4} {x : Int64} (i : Nat) (hd : decode cc pc = .ok (.lstore_n n, 1)) (hn : (n : Nat) = i) (hi : i + 1 < nL) (ok : okst lv i = true) (k : CW Γ kc kn (pc + 1) ((lv.set i (some (.long x))).set (i + 1) none) st ws Φ) : CW Γ kc kn pc lv (.long x :: st) ws Φ := by
  obtain ⟨p, l, e, R, s, m, args, below, meth, c, dC, dI, cy, A⟩ := Γ
  obtain ⟨hx, hb, hml, hown, hts, hlk, hK, hA, hf, hlo⟩ := h
  intro H locs ls hP hD hS hl
  exact lv_lstore_n hx hb hd hn hl (by rw [hml]; exact hi) rfl (fun ls2 hl2 => k H locs ls2 hP hD hS (asl_set2 ok hl2))
theorem kw_iinc (h : Vk own cc nL d Γ) {x v : Int32} {n : Int} (i : Nat) (hd : decode cc pc = .ok (.iinc i n, 3)) (hx0 : lv[i]? = some (some (.int x))) (hv : x + Int32.ofInt n = v) (hi : i < nL) (ok : okst lv i = true) (k : CW Γ kc kn (pc + 3) (lv.set i (some (.int v))) st ws Φ) : CW Γ kc kn pc lv st ws Φ := by
  obtain ⟨p, l, e, R, s, m, args, below, meth, c, dC, dI, cy, A⟩ := Γ
  obtain ⟨hx, hb, hml, hown, hts, hlk, hK, hA, hf, hlo⟩ := h
  intro H locs ls hP hD hS hl
  obtain ⟨k0, hk0⟩ := List.getElem?_of_mem (asl_in.mpr ⟨i, _, (Nat.zero_add i).symm, hx0, rfl⟩ : (i, vmap id (.int x)) ∈ asl id 0 lv)
  exact lv_iinc hx hb hd hl hk0 hv (by rw [hml]; exact hi) rfl (fun ls2 hl2 => k H locs ls2 hP hD hS (asl_set1 ok hl2))
theorem kw_ic (h : Vk own cc nL d Γ) {n : Int} {v : Int32} (hd : decode cc pc = .ok (.iconst n, 1)) (hv : Int32.ofInt n = v) (k : CW Γ kc kn (pc + 1) lv (.int v :: st) ws Φ) : CW Γ kc kn pc lv st ws Φ := by
  obtain ⟨p, l, e, R, s, m, args, below, meth, c, dC, dI, cy, A⟩ := Γ
  obtain ⟨hx, hb, hml, hown, hts, hlk, hK, hA, hf, hlo⟩ := h
  intro H locs ls hP hD hS hl
  exact lv_iconst hx hb hd hv (k H locs ls hP hD hS hl)
theorem kw_lc (h : Vk own cc nL d Γ) {n : Fin 2} {v : Int64} (hd : decode cc pc = .ok (.lconst n, 1)) (hv : Int64.ofNat (n : Nat) = v) (k : CW Γ kc kn (pc + 1) lv (.long v :: st) ws Φ) : CW Γ kc kn pc lv st ws Φ := by
  obtain ⟨p, l, e, R, s, m, args, below, meth, c, dC, dI, cy, A⟩ := Γ
  obtain ⟨hx, hb, hml, hown, hts, hlk, hK, hA, hf, hlo⟩ := h
  intro H locs ls hP hD hS hl
  exact lv_lconst hx hb hd hv (k H locs ls hP hD hS hl)
theorem kw_bp (h : Vk own cc nL d Γ) {n : Int} {v : Int32} (hd : decode cc pc = .ok (.bipush n, 2)) (hv : (Int8.ofInt n).toInt32 = v) (k : CW Γ kc kn (pc + 2) lv (.int v :: st) ws Φ) : CW Γ kc kn pc lv st ws Φ := by
  obtain ⟨p, l, e, R, s, m, args, below, meth, c, dC, dI, cy, A⟩ := Γ
  obtain ⟨hx, hb, hml, hown, hts, hlk, hK, hA, hf, hlo⟩ := h
  intro H locs ls hP hD hS hl
  exact lv_bipush hx hb hd hv (k H locs ls hP hD hS hl)
theorem kw_sp (h : Vk own cc nL d Γ) {n : Int} {v : Int32} (hd : decode cc pc = .ok (.sipush n, 3)) (hv : (Int16.ofInt n).toInt32 = v) (k : CW Γ kc kn (pc + 3) lv (.int v :: st) ws Φ) : CW Γ kc kn pc lv st ws Φ := by
  obtain ⟨p, l, e, R, s, m, args, below, meth, c, dC, dI, cy, A⟩ := Γ
  obtain ⟨hx, hb, hml, hown, hts, hlk, hK, hA, hf, hlo⟩ := h
  intro H locs ls hP hD hS hl
  exact lv_sipush hx hb hd hv (k H locs ls hP hD hS hl)
theorem kw_ldc2 (h : Vk own cc nL d Γ) {n : Nat} {v : Int64} (hd : decode cc pc = .ok (.ldc2_w n, 3)) (hw : Cond.constantLong own n v ∈ bigW) (k : CW Γ kc kn (pc + 3) lv (.long v :: st) ws Φ) : CW Γ kc kn pc lv st ws Φ := by
  obtain ⟨p, l, e, R, s, m, args, below, meth, c, dC, dI, cy, A⟩ := Γ
  obtain ⟨hx, hb, hml, hown, hts, hlk, hK, hA, hf, hlo⟩ := h
  intro H locs ls hP hD hS hl
  exact lv_ldc2 hx hb hown (hts _ hw) hd (k H locs ls hP hD hS hl)
theorem kw_iadd (h : Vk own cc nL d Γ) {x y : Int32} (hd : decode cc pc = .ok (.iadd, 1)) (k : CW Γ kc kn (pc + 1) lv (.int (x + y) :: st) ws Φ) : CW Γ kc kn pc lv (.int y :: .int x :: st) ws Φ := by
  obtain ⟨p, l, e, R, s, m, args, below, meth, c, dC, dI, cy, A⟩ := Γ
  obtain ⟨hx, hb, hml, hown, hts, hlk, hK, hA, hf, hlo⟩ := h
  intro H locs ls hP hD hS hl
  exact lv_iadd hx hb hd (k H locs ls hP hD hS hl)
theorem kw_isub (h : Vk own cc nL d Γ) {x y : Int32} (hd : decode cc pc = .ok (.isub, 1)) (k : CW Γ kc kn (pc + 1) lv (.int (x - y) :: st) ws Φ) : CW Γ kc kn pc lv (.int y :: .int x :: st) ws Φ := by
  obtain ⟨p, l, e, R, s, m, args, below, meth, c, dC, dI, cy, A⟩ := Γ
  obtain ⟨hx, hb, hml, hown, hts, hlk, hK, hA, hf, hlo⟩ := h
  intro H locs ls hP hD hS hl
  exact lv_isub hx hb hd (k H locs ls hP hD hS hl)
theorem kw_iand (h : Vk own cc nL d Γ) {x y : Int32} (hd : decode cc pc = .ok (.iand, 1)) (k : CW Γ kc kn (pc + 1) lv (.int (x &&& y) :: st) ws Φ) : CW Γ kc kn pc lv (.int y :: .int x :: st) ws Φ := by
  obtain ⟨p, l, e, R, s, m, args, below, meth, c, dC, dI, cy, A⟩ := Γ
  obtain ⟨hx, hb, hml, hown, hts, hlk, hK, hA, hf, hlo⟩ := h
  intro H locs ls hP hD hS hl
  exact lv_iand hx hb hd (k H locs ls hP hD hS hl)
theorem kw_ishr (h : Vk own cc nL d Γ) {x y : Int32} (hd : decode cc pc = .ok (.ishr, 1)) (k : CW Γ kc kn (pc + 1) lv (.int (x >>> (y &&& 31)) :: st) ws Φ) : CW Γ kc kn pc lv (.int y :: .int x :: st) ws Φ := by
  obtain ⟨p, l, e, R, s, m, args, below, meth, c, dC, dI, cy, A⟩ := Γ
  obtain ⟨hx, hb, hml, hown, hts, hlk, hK, hA, hf, hlo⟩ := h
  intro H locs ls hP hD hS hl
  exact lv_ishr hx hb hd (k H locs ls hP hD hS hl)
theorem kw_ladd (h : Vk own cc nL d Γ) {x y : Int64} (hd : decode cc pc = .ok (.ladd, 1)) (k : CW Γ kc kn (pc + 1) lv (.long (x + y) :: st) ws Φ) : CW Γ kc kn pc lv (.long y :: .long x :: st) ws Φ := by
  obtain ⟨p, l, e, R, s, m, args, below, meth, c, dC, dI, cy, A⟩ := Γ
  obtain ⟨hx, hb, hml, hown, hts, hlk, hK, hA, hf, hlo⟩ := h
  intro H locs ls hP hD hS hl
  exact lv_ladd hx hb hd (k H locs ls hP hD hS hl)
theorem kw_lmul (h : Vk own cc nL d Γ) {x y : Int64} (hd : decode cc pc = .ok (.lmul, 1)) (k : CW Γ kc kn (pc + 1) lv (.long (x * y) :: st) ws Φ) : CW Γ kc kn pc lv (.long y :: .long x :: st) ws Φ := by
  obtain ⟨p, l, e, R, s, m, args, below, meth, c, dC, dI, cy, A⟩ := Γ
  obtain ⟨hx, hb, hml, hown, hts, hlk, hK, hA, hf, hlo⟩ := h
  intro H locs ls hP hD hS hl
  exact lv_lmul hx hb hd (k H locs ls hP hD hS hl)
theorem kw_i2l (h : Vk own cc nL d Γ) {x : Int32} (hd : decode cc pc = .ok (.i2l, 1)) (k : CW Γ kc kn (pc + 1) lv (.long x.toInt64 :: st) ws Φ) : CW Γ kc kn pc lv (.int x :: st) ws Φ := by
  obtain ⟨p, l, e, R, s, m, args, below, meth, c, dC, dI, cy, A⟩ := Γ
  obtain ⟨hx, hb, hml, hown, hts, hlk, hK, hA, hf, hlo⟩ := h
  intro H locs ls hP hD hS hl
  exact lv_i2l hx hb hd rfl (k H locs ls hP hD hS hl)
theorem kw_i2c (h : Vk own cc nL d Γ) {x : Int32} (hd : decode cc pc = .ok (.i2c, 1)) (k : CW Γ kc kn (pc + 1) lv (.int (x.toUInt32 % 65536).toInt32 :: st) ws Φ) : CW Γ kc kn pc lv (.int x :: st) ws Φ := by
  obtain ⟨p, l, e, R, s, m, args, below, meth, c, dC, dI, cy, A⟩ := Γ
  obtain ⟨hx, hb, hml, hown, hts, hlk, hK, hA, hf, hlo⟩ := h
  intro H locs ls hP hD hS hl
  exact lv_i2c hx hb hd rfl (k H locs ls hP hD hS hl)
theorem kw_pop (h : Vk own cc nL d Γ) {v : Value} (hd : decode cc pc = .ok (.pop, 1)) (hc : v.category = 1) (k : CW Γ kc kn (pc + 1) lv st ws Φ) : CW Γ kc kn pc lv (v :: st) ws Φ := by
  obtain ⟨p, l, e, R, s, m, args, below, meth, c, dC, dI, cy, A⟩ := Γ
  obtain ⟨hx, hb, hml, hown, hts, hlk, hK, hA, hf, hlo⟩ := h
  intro H locs ls hP hD hS hl
  exact lv_pop hx hb hd hc (k H locs ls hP hD hS hl)
theorem kw_goto (h : Vk own cc nL d Γ) {off : Int} (tgt : Nat) (hd : decode cc pc = .ok (.goto off, 3)) (ht : (pc : Int) + off = (tgt : Int)) (k : CW Γ kc kn tgt lv st ws Φ) : CW Γ kc kn pc lv st ws Φ := by
  obtain ⟨p, l, e, R, s, m, args, below, meth, c, dC, dI, cy, A⟩ := Γ
  obtain ⟨hx, hb, hml, hown, hts, hlk, hK, hA, hf, hlo⟩ := h
  intro H locs ls hP hD hS hl
  exact lv_goto hx hb hd ht (k H locs ls hP hD hS hl)
theorem kw_if_eq (h : Vk own cc nL d Γ) {x : Int32} {off : Int} (tgt : Nat) (hd : decode cc pc = .ok (.ifCond .eq off, 3)) (ht : (pc : Int) + off = (tgt : Int)) (kt : x = 0 → CW Γ kc kn tgt lv st ws Φ) (kf : ¬ (x = 0) → CW Γ kc kn (pc + 3) lv st ws Φ) : CW Γ kc kn pc lv (.int x :: st) ws Φ := by
  obtain ⟨p, l, e, R, s, m, args, below, meth, c, dC, dI, cy, A⟩ := Γ
  obtain ⟨hx, hb, hml, hown, hts, hlk, hK, hA, hf, hlo⟩ := h
  intro H locs ls hP hD hS hl
  exact lv_if_eq hx hb hd ht (fun q => kt q H locs ls hP hD hS hl) (fun q => kf q H locs ls hP hD hS hl)
theorem kw_if_ne (h : Vk own cc nL d Γ) {x : Int32} {off : Int} (tgt : Nat) (hd : decode cc pc = .ok (.ifCond .ne off, 3)) (ht : (pc : Int) + off = (tgt : Int)) (kt : ¬ x = 0 → CW Γ kc kn tgt lv st ws Φ) (kf : x = 0 → CW Γ kc kn (pc + 3) lv st ws Φ) : CW Γ kc kn pc lv (.int x :: st) ws Φ := by
  obtain ⟨p, l, e, R, s, m, args, below, meth, c, dC, dI, cy, A⟩ := Γ
  obtain ⟨hx, hb, hml, hown, hts, hlk, hK, hA, hf, hlo⟩ := h
  intro H locs ls hP hD hS hl
  exact lv_if_ne hx hb hd ht (fun q => kt q H locs ls hP hD hS hl) (fun q => kf q H locs ls hP hD hS hl)
theorem kw_if_lt (h : Vk own cc nL d Γ) {x : Int32} {off : Int} (tgt : Nat) (hd : decode cc pc = .ok (.ifCond .lt off, 3)) (ht : (pc : Int) + off = (tgt : Int)) (kt : x < 0 → CW Γ kc kn tgt lv st ws Φ) (kf : ¬ (x < 0) → CW Γ kc kn (pc + 3) lv st ws Φ) : CW Γ kc kn pc lv (.int x :: st) ws Φ := by
  obtain ⟨p, l, e, R, s, m, args, below, meth, c, dC, dI, cy, A⟩ := Γ
  obtain ⟨hx, hb, hml, hown, hts, hlk, hK, hA, hf, hlo⟩ := h
  intro H locs ls hP hD hS hl
  exact lv_if_lt hx hb hd ht (fun q => kt q H locs ls hP hD hS hl) (fun q => kf q H locs ls hP hD hS hl)
theorem kw_icmp_eq (h : Vk own cc nL d Γ) {x y : Int32} {off : Int} (tgt : Nat) (hd : decode cc pc = .ok (.if_icmp .eq off, 3)) (ht : (pc : Int) + off = (tgt : Int)) (kt : x = y → CW Γ kc kn tgt lv st ws Φ) (kf : ¬ (x = y) → CW Γ kc kn (pc + 3) lv st ws Φ) : CW Γ kc kn pc lv (.int y :: .int x :: st) ws Φ := by
  obtain ⟨p, l, e, R, s, m, args, below, meth, c, dC, dI, cy, A⟩ := Γ
  obtain ⟨hx, hb, hml, hown, hts, hlk, hK, hA, hf, hlo⟩ := h
  intro H locs ls hP hD hS hl
  exact lv_icmp_eq hx hb hd ht (fun q => kt q H locs ls hP hD hS hl) (fun q => kf q H locs ls hP hD hS hl)
theorem kw_icmp_lt (h : Vk own cc nL d Γ) {x y : Int32} {off : Int} (tgt : Nat) (hd : decode cc pc = .ok (.if_icmp .lt off, 3)) (ht : (pc : Int) + off = (tgt : Int)) (kt : x < y → CW Γ kc kn tgt lv st ws Φ) (kf : ¬ (x < y) → CW Γ kc kn (pc + 3) lv st ws Φ) : CW Γ kc kn pc lv (.int y :: .int x :: st) ws Φ := by
  obtain ⟨p, l, e, R, s, m, args, below, meth, c, dC, dI, cy, A⟩ := Γ
  obtain ⟨hx, hb, hml, hown, hts, hlk, hK, hA, hf, hlo⟩ := h
  intro H locs ls hP hD hS hl
  exact lv_icmp_lt hx hb hd ht (fun q => kt q H locs ls hP hD hS hl) (fun q => kf q H locs ls hP hD hS hl)
theorem kw_icmp_ge (h : Vk own cc nL d Γ) {x y : Int32} {off : Int} (tgt : Nat) (hd : decode cc pc = .ok (.if_icmp .ge off, 3)) (ht : (pc : Int) + off = (tgt : Int)) (kt : y ≤ x → CW Γ kc kn tgt lv st ws Φ) (kf : ¬ (y ≤ x) → CW Γ kc kn (pc + 3) lv st ws Φ) : CW Γ kc kn pc lv (.int y :: .int x :: st) ws Φ := by
  obtain ⟨p, l, e, R, s, m, args, below, meth, c, dC, dI, cy, A⟩ := Γ
  obtain ⟨hx, hb, hml, hown, hts, hlk, hK, hA, hf, hlo⟩ := h
  intro H locs ls hP hD hS hl
  exact lv_icmp_ge hx hb hd ht (fun q => kt q H locs ls hP hD hS hl) (fun q => kf q H locs ls hP hD hS hl)
theorem kw_icmp_gt (h : Vk own cc nL d Γ) {x y : Int32} {off : Int} (tgt : Nat) (hd : decode cc pc = .ok (.if_icmp .gt off, 3)) (ht : (pc : Int) + off = (tgt : Int)) (kt : y < x → CW Γ kc kn tgt lv st ws Φ) (kf : ¬ (y < x) → CW Γ kc kn (pc + 3) lv st ws Φ) : CW Γ kc kn pc lv (.int y :: .int x :: st) ws Φ := by
  obtain ⟨p, l, e, R, s, m, args, below, meth, c, dC, dI, cy, A⟩ := Γ
  obtain ⟨hx, hb, hml, hown, hts, hlk, hK, hA, hf, hlo⟩ := h
  intro H locs ls hP hD hS hl
  exact lv_icmp_gt hx hb hd ht (fun q => kt q H locs ls hP hD hS hl) (fun q => kf q H locs ls hP hD hS hl)
theorem kw_ldcK (ho : Vs ad Γ) (h : Vk RX8 cc nL d Γ)  (hd : decode cc pc = .ok (.ldc 36, 2)) (k : CW Γ kc kn (pc + 2) lv (.ref (ad 228) :: st) ws Φ) : CW Γ kc kn pc lv st ws Φ := by
  obtain ⟨p, l, e, R, s, m, args, below, meth, c, dC, dI, cy, A⟩ := Γ
  have hRO : RO ad A s s.heap := ho
  obtain ⟨hx, hb, hml, hown, hts, hlk, hK, hA, hf, hlo⟩ := h
  intro H locs ls hP hD hS hl
  exact va_ldcS hx hb hown hRO.kwR hd (k H locs ls hP hD hS hl)
theorem kw_strV (ho : Vs ad Γ) (h : Vk own cc nL d Γ) (i : Nat) {idx : Nat} (hi : i < 48) (hl0 : Cond.fieldLink own idx "java/lang/String" "value" "[B" ∈ bigW) (hd : decode cc pc = .ok (.getfield idx, 3)) (k : CW Γ kc kn (pc + 3) lv (.ref (ad (300 + i)) :: st) ws Φ) : CW Γ kc kn pc lv (.ref (ad (200 + i)) :: st) ws Φ := by
  obtain ⟨p, l, e, R, s, m, args, below, meth, c, dC, dI, cy, A⟩ := Γ
  have hRO : RO ad A s s.heap := ho
  obtain ⟨hx, hb, hml, hown, hts, hlk, hK, hA, hf, hlo⟩ := h
  intro H locs ls hP hD hS hl
  exact vk_getf hx hb (hRO.str.1 i hi).2.2.1 hS hown (hts _ hl0) (fun _ h9 => h9) hd (k H locs ls hP hD hS hl)
theorem kw_strC (ho : Vs ad Γ) (h : Vk own cc nL d Γ) (i : Nat) {idx : Nat} (hi : i < 48) (hl0 : Cond.fieldLink own idx "java/lang/String" "coder" "B" ∈ bigW) (hd : decode cc pc = .ok (.getfield idx, 3)) (k : CW Γ kc kn (pc + 3) lv (.int 0 :: st) ws Φ) : CW Γ kc kn pc lv (.ref (ad (200 + i)) :: st) ws Φ := by
  obtain ⟨p, l, e, R, s, m, args, below, meth, c, dC, dI, cy, A⟩ := Γ
  have hRO : RO ad A s s.heap := ho
  obtain ⟨hx, hb, hml, hown, hts, hlk, hK, hA, hf, hlo⟩ := h
  intro H locs ls hP hD hS hl
  exact vk_getf hx hb (hRO.str.1 i hi).2.1 hS hown (hts _ hl0) (fun _ h9 => h9) hd (k H locs ls hP hD hS hl)
theorem kw_strB (ho : Vs ad Γ) (h : Vk own cc nL d Γ) (i j : Nat) {x : Int32} (hi : i < 48) (hd : decode cc pc = .ok (.baload, 1)) (hj : x = nI j) (hn : j < kLen.getD i 0) (hn2 : kLen.getD i 0 < 2 ^ 31) (k : CW Γ kc kn (pc + 1) lv (.int ((kByt.getD i []).getD j 0) :: st) ws Φ) : CW Γ kc kn pc lv (.int x :: .ref (ad (300 + i)) :: st) ws Φ := by
  obtain ⟨p, l, e, R, s, m, args, below, meth, c, dC, dI, cy, A⟩ := Γ
  have hRO : RO ad A s s.heap := ho
  obtain ⟨hx, hb, hml, hown, hts, hlk, hK, hA, hf, hlo⟩ := h
  intro H locs ls hP hD hS hl
  exact va_tb hx hb (hRO.str.1 i hi).2.2.2 hS (by rw [hj]; exact vp_in_nI hn (by omega)) (v := .int ((kByt.getD i []).getD j 0)) (by rw [hj, nI_clamp (by omega)]) hd (k H locs ls hP hD hS hl)
theorem kw_strL (ho : Vs ad Γ) (h : Vk own cc nL d Γ) (i : Nat) (hi : i < 48) (hd : decode cc pc = .ok (.arraylength, 1)) (k : CW Γ kc kn (pc + 1) lv (.int (nI (kLen.getD i 0)) :: st) ws Φ) : CW Γ kc kn pc lv (.ref (ad (300 + i)) :: st) ws Φ := by
  obtain ⟨p, l, e, R, s, m, args, below, meth, c, dC, dI, cy, A⟩ := Γ
  have hRO : RO ad A s s.heap := ho
  obtain ⟨hx, hb, hml, hown, hts, hlk, hK, hA, hf, hlo⟩ := h
  intro H locs ls hP hD hS hl
  exact va_tlen hx hb (hRO.str.1 i hi).2.2.2 hS rfl hd (k H locs ls hP hD hS hl)
theorem kw_gsC (ho : Vs ad Γ) (h : Vk own cc nL d Γ) {idx : Nat} (hl0 : Cond.fieldLink own idx "java/lang/String" "COMPACT_STRINGS" "Z" ∈ bigW) (hd : decode cc pc = .ok (.getstatic idx, 3)) (k : CW Γ kc kn (pc + 3) lv (.int 1 :: st) ws Φ) : CW Γ kc kn pc lv st ws Φ := by
  obtain ⟨p, l, e, R, s, m, args, below, meth, c, dC, dI, cy, A⟩ := Γ
  have hRO : RO ad A s s.heap := ho
  obtain ⟨hx, hb, hml, hown, hts, hlk, hK, hA, hf, hlo⟩ := h
  intro H locs ls hP hD hS hl
  exact va_gets hx hb hRO.cs hS hown (hts _ hl0) (fun _ h9 => h9) hd (k H locs ls hP hD hS hl)
theorem kw_gsF (ho : Vs ad Γ) (h : Vk own cc nL d Γ) {idx : Nat} (hl0 : Cond.fieldLink own idx "jdk/internal/util/Preconditions" "SIOOBE_FORMATTER" "Ljava/util/function/BiFunction;" ∈ bigW) (hd : decode cc pc = .ok (.getstatic idx, 3)) (k : ∀ v : Value, (v = .null ∨ ∃ a, v = .ref a) → CW Γ kc kn (pc + 3) lv (v :: st) ws Φ) : CW Γ kc kn pc lv st ws Φ := by
  obtain ⟨p, l, e, R, s, m, args, below, meth, c, dC, dI, cy, A⟩ := Γ
  have hRO : RO ad A s s.heap := ho
  obtain ⟨hx, hb, hml, hown, hts, hlk, hK, hA, hf, hlo⟩ := h
  intro H locs ls hP hD hS hl
  rcases hRO.fmt with hZ | hZ
  · exact va_gets hx hb hZ hS hown (hts _ hl0) (fun _ h9 => h9) hd (k .null (Or.inl rfl) H locs ls hP hD hS hl)
  · exact va_gets hx hb hZ hS hown (hts _ hl0) (fun _ h9 => h9) hd (k (.ref (ad 400)) (Or.inr ⟨_, rfl⟩) H locs ls hP hD hS hl)
theorem kw_alen (h : Vk own cc nL d Γ) {cy0 : Nat → ClassId} (hcy : cyOf Γ = cy0) (q0 : Nat) {a n : Nat} {f : Nat → Int64} (he : ws[q0]? = some (a, .inl (cy0 3, n, .inr (.inl f)))) (hd : decode cc pc = .ok (.arraylength, 1)) (k : CW Γ kc kn (pc + 1) lv (.int (nI n) :: st) ws Φ) : CW Γ kc kn pc lv (.ref a :: st) ws Φ := by
  subst hcy
  obtain ⟨p, l, e, R, s, m, args, below, meth, c, dC, dI, cy, A⟩ := Γ
  obtain ⟨hx, hb, hml, hown, hts, hlk, hK, hA, hf, hlo⟩ := h
  intro H locs ls hP hD hS hl
  exact va_alen (D := (dC, dI)) (tys := tysO cy) hx hb hK hP q0 3 he rfl rfl hd (k H locs ls hP hD hS hl)
theorem kw_last (h : Vk own cc nL d Γ) {cy0 : Nat → ClassId} (hcy : cyOf Γ = cy0) (q0 j : Nat) {a n : Nat} {f : Nat → Int64} {x : Int32} {v : Int64} (he : ws[q0]? = some (a, .inl (cy0 3, n, .inr (.inl f)))) (hj : x = nI j) (hn : j < n) (hn2 : n < 2 ^ 31) (hd : decode cc pc = .ok (.lastore, 1)) (k : CW Γ kc kn (pc + 1) lv st (ws.set q0 (a, .inl (cy0 3, n, .inr (.inl (vp_updL f j v))))) Φ) : CW Γ kc kn pc lv (.long v :: .int x :: .ref a :: st) ws Φ := by
  subst hcy
  subst hj
  obtain ⟨p, l, e, R, s, m, args, below, meth, c, dC, dI, cy, A⟩ := Γ
  obtain ⟨hx, hb, hml, hown, hts, hlk, hK, hA, hf, hlo⟩ := h
  intro H locs ls hP hD hS hl
  refine va_last (D := (dC, dI)) (tys := tysO cy) hx hb hK hP hD hS q0 3 he rfl (vp_in_nI hn hn2) hd (fun H1 locs1 hP1 hD1 hS1 => ?_)
  rw [nI_clamp (by omega)] at hP1 hD1
  exact k H1 locs1 ls hP1 hD1 hS1 hl
theorem kw_iret {x : Int32} {Q : Option Value → Prop} (h : Vk own cc nL d Γ) (hr : Vt (some .int) Γ) (hd : decode cc pc = .ok (.ireturn, 1)) (hq : Q (some (.int x))) : CW Γ 0 0 pc lv [.int x] ws (FnR Γ Q) := by
  obtain ⟨p, l, e, R, s, m, args, below, meth, c, dC, dI, cy, A⟩ := Γ
  obtain ⟨hx, hb, hml, hown, hts, hlk, hK, hA, hf, hlo⟩ := h
  intro H locs ls hP hD hS hl
  exact W.iret (v := x) hx hb hr (fun t ht hW => ⟨⟨_, rfl, hq⟩, hS.F ht⟩) hS.2.2 hd hlk
theorem kw_zret {x : Int32} {ty : FieldType} {Q : Option Value → Prop} (h : Vk own cc nL d Γ) (hr : Vt (some ty) Γ) (hd : decode cc pc = .ok (.ireturn, 1)) (hn : narrow ty (.int x) = .int x) (hq : Q (some (.int x))) : CW Γ 0 0 pc lv [.int x] ws (FnR Γ Q) := by
  obtain ⟨p, l, e, R, s, m, args, below, meth, c, dC, dI, cy, A⟩ := Γ
  obtain ⟨hx, hb, hml, hown, hts, hlk, hK, hA, hf, hlo⟩ := h
  intro H locs ls hP hD hS hl
  exact W.zret (v := x) hx hb hr hn (fun t ht hW => ⟨⟨_, rfl, hq⟩, hS.F ht⟩) hS.2.2 hd hlk
theorem kw_vret {Q : Option Value → Prop} (h : Vk own cc nL d Γ) (hr : Vt none Γ) (hd : decode cc pc = .ok (.return_, 1)) (hq : Q none) : CW Γ 0 0 pc lv [] ws (FnR Γ Q) := by
  obtain ⟨p, l, e, R, s, m, args, below, meth, c, dC, dI, cy, A⟩ := Γ
  obtain ⟨hx, hb, hml, hown, hts, hlk, hK, hA, hf, hlo⟩ := h
  intro H locs ls hP hD hS hl
  exact W.vret hx hb hr (fun t ht hW => ⟨⟨_, rfl, hq⟩, hS.F ht⟩) hS.2.2 hd hlk
end KW
/-- a method that changes no cell -/
def SpR (ad : Nat → Nat) (y : MethodName) (cb : ByteArray) (mL : Nat) (rt : Option FieldType) (d : Nat) (as : List Value) (Q : Option Value → Prop) : Prop := ∀ Γ : Cz, Vs ad Γ → Vk y.cls cb mL d Γ → Vt rt Γ → CW Γ 0 0 0 (ent as mL) [] [] (FnR Γ Q)
def PcR (ad : Nat → Nat) (dC : Nat → ClassId) (dI : Nat → Nat → Nat) (cy : Nat → ClassId) (sz : Nat) : State → Prop := fun U => U.heap.size = sz ∧ va_K (dC, dI) vwCl (tysO cy) U ∧ RO ad (va_A [] sz) U U.heap
theorem vmap_id : ∀ as : List Value, as.map (vmap id) = as
  | [] => rfl
  | v :: r => by
    rw [List.map_cons, vmap_id r]
    cases v <;> rfl
theorem met_ofR {y : MethodName} {cb : ByteArray} {mL d : Nat} {rt : Option FieldType} {as : List Value} {Q : Option Value → Prop} {ad : Nat → Nat} (hy : plainName y.cls = true) (he : (lg_sl as).length ≤ mL) (hS : SpR ad y cb mL rt d as Q) (l : Launch) (dC : Nat → ClassId) (dI : Nat → Nat → Nat) (cy : Nat → ClassId) (sz : Nat) : Met l y (Cond.code y cb mL rt :: bigW) (rmO d) (va_Pc as (PcR ad dC dI cy sz)) (QnR (va_A [] sz) Q) 0 0 (va_A [] sz) := by
  refine Met.ofW (cc := cb) (maxL := mL) (ret := rt) hy rfl ?_
  intro p e s m args below meth c s₁ B hml hv
  obtain ⟨rfl, hsz, hK, hRO⟩ := hv
  have hts := atoms_spec (ws := Cond.code y cb mL rt :: bigW) B.pre
  have hk := hS (p, l, e, (headSpec (Cond.code y cb mL rt :: bigW) (rmO d)).room, s, m, _, below, meth, c, dC, dI, cy, va_A [] sz) hRO ⟨B.exec, B.bytes, hml, findClass_of_methodNamed B.named, fun w hw => hts w (List.mem_cons_of_mem _ hw), B.notSynchronized, hK, fun q hq => Or.inr (by rw [← hsz]; exact hq), (show d ≤ d from Nat.le_refl _), (show 64 * d ≤ 64 * d from Nat.le_refl _)⟩ B.returns
  rw [lg_entry_eq]
  have hl := lv_entry as (n := mL) he
  refine hk s.heap [] _ (fun k q hq => by simp at hq) ⟨fun i j q _ hq => by simp at hq, fun k q hq => by simp at hq⟩ va_S.rf ?_
  rw [hml]
  show lv_has _ mL (asl id 0 (ent as mL))
  rw [ent, asl_app, asl_ent, vmap_id]
  exact hl
theorem pcr_blind {as : List Value} {ad : Nat → Nat} {dC : Nat → ClassId} {dI : Nat → Nat → Nat} {cy : Nat → ClassId} {sz : Nat} : FrameBlind (va_Pc as (PcR ad dC dI cy sz)) := by
  intro a U g mk q
  obtain ⟨q0, q1, qK, qR⟩ := q
  exact ⟨q0, q1, va_K.moved (u := U) (U := U.calling g mk a) (Vm.Alike.refl U.vm) qK, qR.calling⟩
theorem run_backR {pc kc kn : Nat} {st : List Value} {lv : List (Option Value)} {ws : va_W} {Φ : State → Prop} {p : Program} {l : Launch} {e : Env} {R : Room} {s : State} {m : MethodId} {args : Array Value} {below : List Frame} {meth : Method} {c : Code} {H : Heap} {locs : List Loc} {ls : Array Slot} {dC : Nat → ClassId} {dI : Nat → Nat → Nat} {cy : Nat → ClassId} {A : Nat → Prop} {stk : List Value} {a : Array Value} {Q : Option Value → Prop}
    (hr : va_Run p l e R s m args below meth c H locs kc kn 0 0 (F0 m pc ls stk) st (QnR (va_A [] H.size) Q a) (va_A [] H.size)) (hS : va_S A s.heap H locs) (hA1 : ∀ q, va_A [] H.size q → A q) (hP : va_P (dC, dI) vwCl ws H) (hD : va_D A ws) (hl : lv_has ls c.maxLocals (asl id 0 lv))
    (hq : ∀ r, Q r → CW (p, l, e, R, s, m, args, below, meth, c, dC, dI, cy, A) kc kn (pc + 3) lv (r.toList ++ st) ws Φ) : W p l e R s m args below meth c H locs kc kn Φ (F0 m pc ls stk) := by
  intro T hT X
  obtain ⟨v, st₀, t, T', L, h0, X', hL, e1, e2, ⟨⟨r, hv, hq1⟩, hz, hk⟩, stp⟩ := hr T hT X
  cases hv
  rw [h0] at hz hk
  have hS1 : va_S A s.heap T'.heap (locs ++ L) := ⟨Nat.le_trans hS.1 (by rw [e1]; exact hz), fun q h1 h2 => by rw [e1, hk q (Nat.lt_of_lt_of_le h1 hS.1) (fun z => h2 (hA1 q z))]; exact hS.2.1 q h1 h2, fun q hq => by
      rcases List.mem_append.mp hq with h | h
      · exact hS.2.2 q h
      · exact hA1 _ (hL q h)⟩
  have hP1 : va_P (dC, dI) vwCl ws T'.heap := fun i q h => (hP i q h).kept (by
    have hlt := (hP i q h).lt
    rw [e1]
    exact hk q.1 hlt (fun z => by
      rcases z with ⟨k, e, z⟩ | z
      · simp at z
      · omega))
  obtain ⟨t2, a1, b1⟩ := hq _ hq1 T'.heap (locs ++ L) ls hP1 hD hS1 hl T' rfl X'
  exact ⟨t2, stp t2 a1, b1⟩
section KS2
variable {own : String} {cc : ByteArray} {nL d kc kn pc : Nat} {Γ : Cz} {lv : List (Option Value)} {st : List Value} {ws : va_W} {Φ : State → Prop} {ad : Nat → Nat}
theorem kw_callS (ho : Vs ad Γ) (h : Vk own cc nL (d + 1) Γ) (hrk : Rk Γ kc kn) {y : MethodName} {cb : ByteArray} {mL idx : Nat} {rt : Option FieldType} {As : List Value} {stk : List Value} (hm : MIs y cb mL rt As.length) (hd : decode cc pc = .ok (.invokestatic idx, 3)) (hl0 : Cond.methodLink own idx y ∈ bigW) (hent : (lg_sl As).length ≤ mL) (hstk : stk = As.reverse ++ st) (hcat : (st.map fun v => v.category).sum ≤ 8) (hc : SpR ad y cb mL rt d As (fun r => CW Γ kc kn (pc + 3) lv (r.toList ++ st) ws Φ)) : CW Γ kc kn pc lv stk ws Φ := by
  subst hstk
  obtain ⟨p, l, e, R, s, m, args, below, meth, c, dC, dI, cy, A⟩ := Γ
  have hRO : RO ad A s s.heap := ho
  obtain ⟨hx, hb, hml, hown, hts, hlk, hK, hA, hf, hlo⟩ := h
  obtain ⟨m1, m2, m4, m5, m6, m7⟩ := hm
  intro H locs ls hP hD hS hl
  have hM := met_ofR m5 hent hc l dC dI cy H.size
  have hA1 : ∀ q, va_A [] H.size q → A q := fun q z => by
    rcases z with ⟨k, e, z⟩ | z
    · simp at z
    · exact hA q (Nat.le_trans hS.1 z)
  have hG : ∀ w ∈ va_wsS own idx y (Cond.code y cb mL rt :: bigW), w ∈ bigW := by
    intro w hw
    rcases List.mem_append.mp hw with h1 | h1
    · simp only [List.mem_cons, List.not_mem_nil, or_false] at h1
      rcases h1 with rfl | rfl | rfl <;> assumption
    · rcases List.mem_cons.mp h1 with rfl | h1 <;> assumption
  have hG2 : GoodIn bigW (Cond.code y cb mL rt :: bigW) := fun w hw => ⟨hG w (List.mem_append_right _ hw), bw_good (hG w (List.mem_append_right _ hw))⟩
  have hcb : CallB R s args own idx y cb mL rt (Cond.code y cb mL rt :: bigW) (rmO d) 0 0 As.length := callB_of As.length hts hG2 rfl rfl rfl (hts _ m4) (hts _ hl0) m6 ⟨hf, by show 8 + (mL + 11) + 64 * d ≤ R.locals; omega⟩
  have hrun := va_runS (As := As) (rest := st) (g := F0 m pc ls (As.reverse ++ st)) (cells := kc) (slots := kn) (H := H) (locs := locs) (R := R) (e := e) (l := l) (below := below) (meth := meth) ⟨hx, hb, hml, hown, hts⟩ hM ⟨hcb, hts _ m2⟩ ⟨pcr_blind, fun U hU hW => ⟨rfl, by rw [hU], va_K.moved hW.alike hK, hRO.call hS hW hU hA1⟩⟩ rfl rfl (by show ls.size = nL; rw [hl.1, hml]) rfl (lv_room hcat) hd ⟨hrk.1, hrk.2⟩
  exact run_backR hrun hS hA1 hP hD hl (fun r hq1 => hq1)
theorem kw_callT (ho : Vs ad Γ) (h : Vk own cc nL (d + 1) Γ) (hrk : Rk Γ kc kn) {y : MethodName} {cb : ByteArray} {mL idx b : Nat} {rt : Option FieldType} {As : List Value} {stk : List Value} (hm : MIv y cb mL rt As.length) (hd : decode cc pc = .ok (.invokevirtual idx, 3)) (hl0 : Cond.methodLink own idx y ∈ bigW) (i : Nat) (hi : i < 48) (hbi : b = ad (200 + i)) (hq : "java/lang/String" = y.cls) (hent : (lg_sl (.ref b :: As)).length ≤ mL) (hstk : stk = As.reverse ++ .ref b :: st) (hcat : (st.map fun v => v.category).sum ≤ 8) (hc : SpR ad y cb mL rt d (.ref b :: As) (fun r => CW Γ kc kn (pc + 3) lv (r.toList ++ st) ws Φ)) : CW Γ kc kn pc lv stk ws Φ := by
  subst hstk
  obtain ⟨p, l, e, R, s, m, args, below, meth, c, dC, dI, cy, A⟩ := Γ
  have hRO : RO ad A s s.heap := ho
  obtain ⟨hx, hb, hml, hown, hts, hlk, hK, hA, hf, hlo⟩ := h
  obtain ⟨m1, m2, m3, m4, m5, m6, m7⟩ := hm
  intro H locs ls hP hD hS hl
  have hM := met_ofR m5 hent hc l dC dI cy H.size
  have hA1 : ∀ q, va_A [] H.size q → A q := fun q z => by
    rcases z with ⟨k, e, z⟩ | z
    · simp at z
    · exact hA q (Nat.le_trans hS.1 z)
  subst hbi
  have hrecv := vk_recv hRO.str hi hS
  rw [hq] at hrecv
  have hG : GoodIn bigW (wsV own idx y.cls y (Cond.code y cb mL rt :: bigW)) := by
    intro w hw
    have hmem : w ∈ bigW := by
      rcases List.mem_append.mp hw with h1 | h1
      · simp only [List.mem_cons, List.not_mem_nil, or_false] at h1
        rcases h1 with rfl | rfl | rfl | rfl <;> assumption
      · rcases List.mem_cons.mp h1 with rfl | h1 <;> assumption
    exact ⟨hmem, bw_good hmem⟩
  have hrun := va_runV (As := As) (rest := st) (g := F0 m pc ls (As.reverse ++ .ref (ad (200 + i)) :: st)) (cells := kc) (slots := kn) (H := H) (locs := locs) (R := R) (e := e) (l := l) (below := below) (meth := meth) (b := ad (200 + i)) (C := y.cls) ⟨hx, hb, hml, hown, hts⟩ hM (cwV As.length hts hG rfl rfl rfl ⟨rfl, m6⟩ ⟨hf, by show 8 + (mL + 11) + 64 * d ≤ R.locals; omega⟩) ⟨pcr_blind, hrecv, fun U hU hW => ⟨rfl, by rw [hU], va_K.moved hW.alike hK, hRO.call hS hW hU hA1⟩⟩ rfl rfl (by show ls.size = nL; rw [hl.1, hml]) rfl (lv_room hcat) hd ⟨hrk.1, hrk.2⟩
  exact run_backR hrun hS hA1 hP hD hl (fun r hq1 => hq1)
end KS2
