/-! The making of objects: rows of the law's beginning -/
theorem k_ast {own : String} {cc : ByteArray} {nL d kc kn pc : Nat} {Γ : Cz} {lv lv' : List (Nat × Value)} {st : List Value} {ws : va_W} {Φ : State → Prop} (h : Vk own cc nL d Γ) {n : Fin 4} {x : Nat} (i : Nat) (hd : decode cc pc = .ok (.astore_n n, 1)) (hn : (n : Nat) = i) (hi : i < nL) (hl2 : (i, Value.ref x) :: lv.filter (fun q => !(q.1 == i) && !(q.1 + 1 == i && q.2.category == 2)) = lv') (k : CV Γ kc kn (pc + 1) lv' st ws Φ) : CV Γ kc kn pc lv (.ref x :: st) ws Φ := by
  obtain ⟨p, l, e, R, s, m, args, below, meth, c, dC, dI, cy, A⟩ := Γ
  obtain ⟨hx, hb, hml, hown, hts, hlk, hK, hA, hf, hlo⟩ := h
  intro H locs ls hP hD hS hl
  rw [hml] at hl
  refine lv_astore_n hx hb hd hn hl hi hl2 (fun ls' h' => ?_)
  exact k H locs ls' hP hD hS (by rw [hml]; exact h')
