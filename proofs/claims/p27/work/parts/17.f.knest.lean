/-! The making of objects: nested constructors -/
theorem map_range_get {α : Type} (w : List α) (x : α) : (List.range w.length).map (fun i => (w ++ [x])[i]?) = w.map some := by
  apply List.ext_getElem?
  intro i
  rw [List.getElem?_map, List.getElem?_map]
  by_cases h : i < w.length
  · rw [List.getElem?_range h, Option.map_some, List.getElem?_append_left h, List.getElem?_eq_getElem h]
    rfl
  · rw [List.getElem?_eq_none (by simp; omega), List.getElem?_eq_none (by omega)]
    rfl
theorem nd_of : ∀ (l : List Nat), l.Nodup → va_nd l = true
  | [], _ => rfl
  | a :: r, h => by
    obtain ⟨h1, h2⟩ := List.nodup_cons.mp h
    have h3 := nd_of r h2
    simp [va_nd, h1, h3]
theorem nd_range (n : Nat) : va_nd (List.range n) = true := nd_of _ List.nodup_range
section KN
variable {own : String} {cc : ByteArray} {nL d kc kn pc : Nat} {Γ : Cz} {lv : List (Nat × Value)} {st : List Value} {w0 : va_W} {Φ : State → Prop}
/-- a call of the constructor of the object made last -/
theorem k_calln (hn : Vn Γ) (h : Vk own cc nL (d + 1) Γ) {y : MethodName} {cb : ByteArray} {mL idx a c0 n0 : Nat} {e0 : va_E} {As : List Value} {stk : List Value} {Q : va_W → Prop} (hr : Rk Γ (kc + c0) (kn + n0)) (hm : MIk y cb mL As.length) (hd : decode cc pc = .ok (.invokespecial idx, 3)) (hl0 : Cond.methodLink own idx y ∈ bigW ∨ ∃ host, (own, idx, y, host) ∈ mnF) (hstk : stk = As.reverse ++ .ref a :: st) (hcat : (st.map fun v => v.category).sum ≤ 8) (hlen : (lg_sl (.ref a :: As)).length ≤ mL) (hc : KS (cyOf Γ) y cb mL d c0 n0 (.ref a :: As) (lv_args 0 (.ref a :: As)) [(a, e0)] Q) (k : ∀ w1, Q w1 → CV Γ (kc + c0) (kn + n0) (pc + 3) lv st (w0 ++ w1) Φ) : CV Γ kc kn pc lv stk (w0 ++ [(a, e0)]) Φ :=
  k_call (wc := [(a, e0)]) (wr := w0) hn h [w0.length] (List.range w0.length) hr hm hd hl0 hstk hcat (fun ls e => by subst e; exact lv_entry _ hlen)
    (by simp) rfl (map_range_get w0 _) (nd_range _) (fun i hi q => by
      have h1 := List.mem_range.mp hi
      have h2 := List.mem_singleton.mp q
      omega) hc k
theorem k_get (h : Vk own cc nL d Γ) {idx ci j a : Nat} {fs : List Value} {v : Value} {ws : va_W} (q0 : Nat) (F : FL own idx ci j) (he : ws[q0]? = some (a, .inr (ci, fs))) (hv : fs[j]? = some v) (hnn : ∀ host C n dd, (own, idx, C, n, dd, host) ∉ nestF) (hd : decode cc pc = .ok (.getfield idx, 3)) (K : CV Γ kc kn (pc + 3) lv (v :: st) ws Φ) : CV Γ kc kn pc lv (.ref a :: st) ws Φ := by
  obtain ⟨p, l, e, R, s, m, args, below, meth, c, dC, dI, cy, A⟩ := Γ
  obtain ⟨hx, hb, hml, hown, hts, hlk, hK, hA, hf, hlo⟩ := h
  obtain ⟨C, T, N, hc, hkN, hin0, hlink⟩ := F
  intro H locs ls hP hD hS hl
  rcases hlink with hlink | ⟨host, hlink⟩
  · exact va_get (D := (dC, dI)) hx hb hts hin0 hown hK hP q0 he hc j hkN (hts _ hlink) (fun _ h9 => h9) hv hd (K H locs ls hP hD hS hl)
  · exact absurd hlink (hnn _ _ _ _)
end KN
