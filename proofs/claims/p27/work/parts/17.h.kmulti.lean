/-! The making of objects: rows of rows -/
theorem cl_X9_41 : Cond.classLink RX9 41 "[[I" ∈ bigW := bw_in (tb_2 (List.mem_of_getElem? (i := 179) rfl)) rfl
theorem k_mna {nL d kc kn : Nat} {Γ : Cz} {lv : List (Nat × Value)} {st : List Value} {ws : va_W} {Φ : State → Prop} (h : Vk RX9 cX9_init nL d Γ) (hn : Vn Γ) {cy0 : Nat → ClassId} (hcy : cyOf Γ = cy0) (hr : Rk Γ (kc + 7) (kn + 54)) (k : ∀ (q : Nat) (r : Nat → Nat), CV Γ (kc + 7) (kn + 54) 78 lv (.ref q :: st) (ws ++ [(q, .inl (cy0 4, 6, .inr (.inr (.inr (.inr (fun i => if i < 6 then some (r i) else none)))))), (r 0, .inl (cy0 0, 8, .inl (fun _ => nI 0))), (r 1, .inl (cy0 0, 8, .inl (fun _ => nI 0))), (r 2, .inl (cy0 0, 8, .inl (fun _ => nI 0))), (r 3, .inl (cy0 0, 8, .inl (fun _ => nI 0))), (r 4, .inl (cy0 0, 8, .inl (fun _ => nI 0))), (r 5, .inl (cy0 0, 8, .inl (fun _ => nI 0)))]) Φ) : CV Γ kc kn 74 lv (.int (nI 8) :: .int (nI 6) :: st) ws Φ := by
  subst hcy
  obtain ⟨p, l, e, R, s, m, args, below, meth, c, dC, dI, cy, A⟩ := Γ
  obtain ⟨hx, hb, hml, hown, hts, hlk, hK, hA, hf, hlo⟩ := h
  intro H locs ls hP hD hS hl
  have hov : va_AOA .int s := hn.1.2
  have e0 : s.vm.findClass (FieldType.array .int).toString = some (cy 0) := (hK.2 0 (cy 0, .int) rfl).2
  refine va_mna (X := ws) (L := []) (f := fun _ => .inl (cy 0, (8, .inl (fun _ => nI 0)))) (z := (8, .inl (fun _ => nI 0))) (ty := .int) (N' := 6) (K' := 8) hx hb hown (hts _ cl_X9_41) hov (hts _ ac_int) e0 hK (by rw [va_pl, List.map_nil, List.append_nil]; exact hP) (by rw [va_pl, List.map_nil, List.append_nil]; exact hD) hS hA (by decide) (by decide) (by decide) (by decide) (by decide) (by decide) (by decide) (by decide) (by decide) (by have := hr.1; omega) (by have := hr.2; omega) (fun c => rfl) dX9_init_74 (fun q r cA H1 _ _ hK1 hP1 hD1 hS1 => ?_)
  have e1 := (hK1.2 5 (cA, .array .int) rfl).2
  have e2 := (hK.2 4 (cy 4, .array .int) rfl).2
  have ec : cA = cy 4 := by
    unfold va_RA at e1 e2
    exact Option.some.inj (e1.symm.trans e2)
  subst ec
  have ew : va_pl ([] ++ (List.range 6).map r) (vr_up (fun _ => .inl (cy 0, (8, .inl (fun _ => nI 0)))) ((List.range 6).map r) (.inl (cy 0, (8, .inl (fun _ => nI 0))))) = [(r 0, .inl (cy 0, 8, .inl (fun _ => nI 0))), (r 1, .inl (cy 0, 8, .inl (fun _ => nI 0))), (r 2, .inl (cy 0, 8, .inl (fun _ => nI 0))), (r 3, .inl (cy 0, 8, .inl (fun _ => nI 0))), (r 4, .inl (cy 0, 8, .inl (fun _ => nI 0))), (r 5, .inl (cy 0, 8, .inl (fun _ => nI 0)))] := by
    have e9 : ∀ a, vr_up (fun _ => (.inl (cy 0, (8, .inl (fun _ => nI 0))) : va_E)) ((List.range 6).map r) (.inl (cy 0, (8, .inl (fun _ => nI 0)))) a = .inl (cy 0, (8, .inl (fun _ => nI 0))) := fun a => by unfold vr_up; split <;> rfl
    unfold va_pl
    simp only [e9]
    rfl
  rw [ew, List.append_assoc] at hP1 hD1
  exact k q r H1 locs ls hP1 hD1 hS1 hl
