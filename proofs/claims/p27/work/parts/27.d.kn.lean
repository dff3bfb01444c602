/-! The start: the classes -/
section SK
variable {s : State} {args : Array Value}
theorem ar_start {ty : FieldType} (h : (Cond.arrayClass ty).before args s = true) (ho : ∀ C, ty ≠ .object C) : ∃ cA : ClassId, ArrOfT s cA ty ∧ va_RA s cA ty := by
  obtain ⟨c, k, comp, h1, h2, h3⟩ := Cond.arrayClass_spec h
  refine ⟨c, fun n z => ⟨fun k h => (by cases h), k, h2, comp, h3⟩, ?_⟩
  cases ty <;> first | exact h1 | exact absurd rfl (ho _)
theorem ao_start {t : FieldType} (h : (Cond.arrayOver (.array t)).before args s = true) : ∃ cA : ClassId, ArrOfT s cA (.array t) ∧ va_RA s cA (.array t) := by
  obtain ⟨comp, c, k, -, -, h2, h3, h1⟩ := arrayOverA_spec h
  exact ⟨c, fun n z => ⟨fun k h => (by cases h), k, h2, comp, h3⟩, h1⟩
theorem kn_start (hts : ∀ w ∈ lw_tbl, w.before args s = true) : ∃ (dC : Nat → ClassId) (dI : Nat → Nat → Nat) (cy : Nat → ClassId), va_K (dC, dI) vwCl (tysO cy) s := by
  have hb : ∀ w ∈ bigW, w.before args s = true := bw_of hts
  obtain ⟨c0, i0, k0⟩ := u_known (C := RX0) (T := TX0) (N := 2) (n := 2) hb inW_X0 (hts _ (tb_2 (List.mem_of_getElem? (i := 44) rfl)))
  obtain ⟨c1, i1, k1⟩ := u_known (C := RX1) (T := TX1) (N := 3) (n := 3) hb inW_X1 (hts _ (tb_2 (List.mem_of_getElem? (i := 182) rfl)))
  obtain ⟨c2, i2, k2⟩ := u_known (C := RX4) (T := TX4) (N := 5) (n := 5) hb inW_X4 (hts _ (tb_3 (List.mem_of_getElem? (i := 163) rfl)))
  obtain ⟨c3, i3, k3⟩ := u_known (C := RX5) (T := TX5) (N := 11) (n := 11) hb inW_X5 (hts _ (tb_1 (List.mem_of_getElem? (i := 117) rfl)))
  obtain ⟨c4, i4, k4⟩ := u_known (C := RX6) (T := TX6) (N := 2) (n := 2) hb inW_X6 (hts _ (tb_3 (List.mem_of_getElem? (i := 62) rfl)))
  obtain ⟨c5, i5, k5⟩ := u_known (C := RX7) (T := TX7) (N := 9) (n := 9) hb inW_X7 (hts _ (tb_3 (List.mem_of_getElem? (i := 186) rfl)))
  obtain ⟨c6, i6, k6⟩ := u_known (C := RX8) (T := TX8) (N := 7) (n := 7) hb inW_X8 (hts _ (tb_3 (List.mem_of_getElem? (i := 75) rfl)))
  obtain ⟨c7, i7, k7⟩ := u_known (C := RX9) (T := TX9) (N := 18) (n := 18) hb inW_X9 (hts _ (tb_2 (List.mem_of_getElem? (i := 174) rfl)))
  obtain ⟨c8, i8, k8⟩ := u_known (C := RX10) (T := TX10) (N := 10) (n := 10) hb inW_X10 (hts _ (tb_2 (List.mem_of_getElem? (i := 127) rfl)))
  obtain ⟨c9, i9, k9⟩ := u_known (C := RJ0) (T := TJ0) (N := 4) (n := 4) hb inW_J0 (hts _ (tb_4 (List.mem_of_getElem? (i := 223) rfl)))
  obtain ⟨c10, i10, k10⟩ := u_known (C := RJ4) (T := TJ4) (N := 4) (n := 4) hb inW_J4 (hts _ (tb_4 (List.mem_of_getElem? (i := 79) rfl)))
  obtain ⟨a0, u0⟩ := ar_start (s := s) (args := args) (ty := .int) (hts _ (tb_2 (List.mem_of_getElem? (i := 202) rfl))) (fun _ q => by cases q)
  obtain ⟨a1, u1⟩ := ar_start (s := s) (args := args) (ty := .byte) (hts _ (tb_1 (List.mem_of_getElem? (i := 101) rfl))) (fun _ q => by cases q)
  obtain ⟨a2, u2⟩ := ar_start (s := s) (args := args) (ty := .boolean) (hts _ (tb_2 (List.mem_of_getElem? (i := 203) rfl))) (fun _ q => by cases q)
  obtain ⟨a3, u3⟩ := ar_start (s := s) (args := args) (ty := .long) (hts _ (tb_3 (List.mem_of_getElem? (i := 161) rfl))) (fun _ q => by cases q)
  obtain ⟨a4, u4⟩ := ao_start (s := s) (args := args) (t := .int) (hts _ (tb_2 (List.mem_of_getElem? (i := 180) rfl)))
  refine ⟨fun k => match k with | 0 => c0 | 1 => c1 | 2 => c2 | 3 => c3 | 4 => c4 | 5 => c5 | 6 => c6 | 7 => c7 | 8 => c8 | 9 => c9 | _ => c10, fun k => match k with | 0 => i0 | 1 => i1 | 2 => i2 | 3 => i3 | 4 => i4 | 5 => i5 | 6 => i6 | 7 => i7 | 8 => i8 | 9 => i9 | _ => i10, fun k => match k with | 0 => a0 | 1 => a1 | 2 => a2 | 3 => a3 | _ => a4, fun k q hq => ?_, fun k q hq => ?_⟩
  · match k, hq with
    | 0, hq => cases hq; exact k0
    | 1, hq => cases hq; exact k1
    | 2, hq => cases hq; exact k2
    | 3, hq => cases hq; exact k3
    | 4, hq => cases hq; exact k4
    | 5, hq => cases hq; exact k5
    | 6, hq => cases hq; exact k6
    | 7, hq => cases hq; exact k7
    | 8, hq => cases hq; exact k8
    | 9, hq => cases hq; exact k9
    | 10, hq => cases hq; exact k10
    | k + 11, hq => cases hq
  · match k, hq with
    | 0, hq => cases hq; exact u0
    | 1, hq => cases hq; exact u1
    | 2, hq => cases hq; exact u2
    | 3, hq => cases hq; exact u3
    | 4, hq => cases hq; exact u4
    | k + 5, hq => cases hq
end SK
