/-! helpers -/
theorem ixz : ix (nI 0) = 0 := ix_n (by decide)
theorem seg_lt {m : Nat → Int32} {I : MI} {z z' : Nat} {E : EX} (h : seg m I z z' E) : z < z' := by
  obtain ⟨h1, h2, h3⟩ := h
  rcases Nat.lt_or_ge z z' with q | q
  · exact q
  · have e : z' - z = 0 := by omega
    have k := h3 (fun _ _ => 0) []
    rw [e] at k
    exact absurd (show ([] : List Int32) = _ from k) (List.cons_ne_nil _ _).symm
theorem dp_pos {u : Nat → Int32} {k : Nat} (hk : k < 2 ^ 31) : 0 < dpt u 17 (nI k) := by
  rw [dpt_s hk]
  omega

theorem b2i_d : ∀ b : Bool, (!decide (b2i b = nI 0)) = b := by decide
