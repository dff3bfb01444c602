/-! The word of rows of rows, moved -/
theorem va_AOA.moved {t : FieldType} {u U : State} (hvm : u.vm.Alike U.vm) (h : va_AOA t u) : va_AOA t U := by
  have h0 := h #[]
  simp only [Cond.before, Cond.holds, Cond.value] at h0
  intro A
  simp only [Cond.before, Cond.holds, Cond.value]
  have f1 : U.vm.findClass (FieldType.array t).toString = u.vm.findClass (FieldType.array t).toString := hvm.findClass _ _
  have f2 : U.vm.findClass ("[" ++ (FieldType.array t).toString) = u.vm.findClass ("[" ++ (FieldType.array t).toString) := hvm.findClass _ _
  have fi : ∀ comp : ClassId, (U.vm.classes.findIdx? fun (x : Class) => match x.kind with | .array component _ => component == comp | _ => false) = (u.vm.classes.findIdx? fun (x : Class) => match x.kind with | .array component _ => component == comp | _ => false) := fun comp => ((va_idx_bare U.vm comp).symm.trans (by first | rw [hvm.bare_eq] | rw [← hvm.bare_eq])).trans (va_idx_bare u.vm comp)
  rw [f1]
  cases hc : u.vm.findClass (FieldType.array t).toString with
  | none => rw [hc] at h0; simp at h0
  | some comp =>
    rw [hc] at h0
    simp only [Option.bind_some] at h0 ⊢
    erw [fi comp]
    cases hi : (u.vm.classes.findIdx? fun (x : Class) => match x.kind with | .array component _ => component == comp | _ => false) with
    | none => erw [hi] at h0; simp at h0
    | some c =>
      erw [hi] at h0
      simp only [Option.bind_some] at h0 ⊢
      cases hk : u.vm.classes[c]? with
      | none => rw [hk] at h0; simp at h0
      | some k =>
        obtain ⟨k', hk', he⟩ := hvm.2.2 _ _ hk
        have hkk : k'.kind = k.kind := by rw [he]
        rw [hk] at h0
        rw [hk', f2]
        simp only [Option.map_some, hkk] at h0 ⊢
        exact h0
