/-! a few more rows and words of the pure view -/
def b2i (b : Bool) : Int32 := if b then nI 1 else nI 0
theorem nar_b2i (b : Bool) : narrow .boolean (.int (b2i b)) = .int (b2i b) := by cases b <;> rfl
theorem b2i_0 {b : Bool} : b2i b = 0 ↔ b = false := by cases b <;> decide
theorem b2i_n0 {b : Bool} : ¬ b2i b = 0 ↔ b = true := by cases b <;> decide
theorem inc1 (i : Nat) : nI i + Int32.ofInt 1 = nI (i + 1) := nI_1 i
theorem q_i {Q : Int32 → MI → MJ → MP → Prop} {x y : Int32} {I : MI} {J : MJ} {P : MP} (e : x = y) (h : Q y I J P) : Q x I J P := e ▸ h
theorem q_iI {Q : Int32 → MI → MJ → MP → Prop} {x y : Int32} {I I2 : MI} {J : MJ} {P : MP} (e : x = y) (e2 : I = I2) (h : Q y I2 J P) : Q x I J P := e ▸ e2 ▸ h
theorem q_I {Q : MI → MJ → MP → Prop} {I I2 : MI} {J : MJ} {P : MP} (e2 : I = I2) (h : Q I2 J P) : Q I J P := e2 ▸ h
theorem q_l {Q : Int64 → MI → MJ → MP → Prop} {x y : Int64} {I : MI} {J : MJ} {P : MP} (e : x = y) (h : Q y I J P) : Q x I J P := e ▸ h
theorem g_I {Γ : Cx} {kc kn pc : Nat} {lv : List (Option Value)} {st : List Value} {I I2 : MI} {J : MJ} {P : MP} {Φ : State → Prop} (e : I = I2) (k : VG Γ kc kn pc lv st I2 J P Φ) : VG Γ kc kn pc lv st I J P Φ := e ▸ k
theorem w_mmax : Cond.static Lib.Math.max.name ∈ bigW ∧ Cond.initialized "java/lang/Math" ∈ bigW ∧ Cond.code Lib.Math.max.name Lib.Math.max.code 2 (some .int) ∈ bigW := ⟨bw_in (tb_2 (List.mem_of_getElem? (i := 25) (by decide +kernel))) rfl, bw_in (tb_1 (List.mem_of_getElem? (i := 17) (by decide +kernel))) rfl, bw_in (tb_2 (List.mem_of_getElem? (i := 26) (by decide +kernel))) rfl⟩
theorem w_mmin : Cond.static Lib.Math.min.name ∈ bigW ∧ Cond.initialized "java/lang/Math" ∈ bigW ∧ Cond.code Lib.Math.min.name Lib.Math.min.code 2 (some .int) ∈ bigW := ⟨bw_in (tb_2 (List.mem_of_getElem? (i := 75) (by decide +kernel))) rfl, bw_in (tb_1 (List.mem_of_getElem? (i := 17) (by decide +kernel))) rfl, bw_in (tb_2 (List.mem_of_getElem? (i := 76) (by decide +kernel))) rfl⟩
section GX
variable {own : String} {cc : ByteArray} {nL d kc kn pc : Nat} {ret : Option FieldType} {Γ : Cx} {lv : List (Option Value)} {st : List Value} {I : MI} {J : MJ} {P : MP} {Φ : State → Prop}
theorem g_mmax (h : Vc own cc nL ret (d + 1) Γ) {x y : Int32} {idx : Nat} (hd : decode cc pc = .ok (.invokestatic idx, 3)) (hl0 : Cond.methodLink own idx Lib.Math.max.name ∈ bigW) (hrk : Rok Γ kc kn) (hcat : (st.map fun v => v.category).sum ≤ 8) (k : VG Γ kc kn (pc + 3) lv (.int (if x < y then y else x) :: st) I J P Φ) : VG Γ kc kn pc lv (.int y :: .int x :: st) I J P Φ := by
  obtain ⟨p, l, e, R, s, m, args, below, meth, c, ad, dC, dI, cy, A⟩ := Γ
  obtain ⟨hx, hb, hml, hr, hown, hts, hlk, hK, hA, hin, hAd, hf, hlo, hRO⟩ := h
  intro H locs ls hP hS hl
  exact va_mmax hx hb hl.1.symm hown (hts _ hl0) (hts _ w_mmax.1) (hts _ w_mmax.2.1) (hts _ w_mmax.2.2) (by omega) (by rw [vmap_cats]; omega) hrk.1 hrk.2 hd (k H locs ls hP hS hl)
theorem g_mmin (h : Vc own cc nL ret (d + 1) Γ) {x y : Int32} {idx : Nat} (hd : decode cc pc = .ok (.invokestatic idx, 3)) (hl0 : Cond.methodLink own idx Lib.Math.min.name ∈ bigW) (hrk : Rok Γ kc kn) (hcat : (st.map fun v => v.category).sum ≤ 8) (k : VG Γ kc kn (pc + 3) lv (.int (if y < x then y else x) :: st) I J P Φ) : VG Γ kc kn pc lv (.int y :: .int x :: st) I J P Φ := by
  obtain ⟨p, l, e, R, s, m, args, below, meth, c, ad, dC, dI, cy, A⟩ := Γ
  obtain ⟨hx, hb, hml, hr, hown, hts, hlk, hK, hA, hin, hAd, hf, hlo, hRO⟩ := h
  intro H locs ls hP hS hl
  exact va_mmin hx hb hl.1.symm hown (hts _ hl0) (hts _ w_mmin.1) (hts _ w_mmin.2.1) (hts _ w_mmin.2.2) (by omega) (by rw [vmap_cats]; omega) hrk.1 hrk.2 hd (k H locs ls hP hS hl)
end GX

/-! Told: is there such a one -/
def has (n c M : Int32) : Bool := !decide (c < 0) && !decide (n ≤ c) && !decide (M ≤ c)
theorem leN {a b : Nat} (h : nI a ≤ nI b) (ha : a < 2 ^ 31) (hb : b < 2 ^ 31) : a ≤ b := (nI_leI ha hb).mp h
theorem has_t {N M : Nat} {c : Int32} (hM : M < 2 ^ 31) (hN : N ≤ M) : has (nI N) c (nI M) = true ↔ ∃ j, j < N ∧ c = nI j := by
  constructor
  · intro h
    simp only [has, Bool.and_eq_true, Bool.not_eq_true', decide_eq_false_iff_not] at h
    obtain ⟨j, hj, rfl⟩ := nI_of h.1.1
    refine ⟨j, ?_, rfl⟩
    rcases Nat.lt_or_ge j N with q | q
    · exact q
    · exact absurd (nI_le q hj) h.1.2
  · rintro ⟨j, hj, rfl⟩
    simp only [has, Bool.and_eq_true, Bool.not_eq_true', decide_eq_false_iff_not]
    exact ⟨⟨nI_pos (by omega), nI_ge hj (by omega)⟩, nI_ge (by omega) (by omega)⟩
theorem has_j {N M j : Nat} (hj : j < N) (hM : M < 2 ^ 31) (hN : N ≤ M) : has (nI N) (nI j) (nI M) = true := (has_t hM hN).mpr ⟨j, hj, rfl⟩
theorem has_m1 {n M : Int32} : has n (-1) M = false := by simp [has]
set_option maxHeartbeats 4000000 in
theorem sp_X9_hasColour {d t : Nat} (ht : t = 36 ∨ t = 58) {c : Int32} {I : MI} {J : MJ} {P : MP} {Q : Int32 → MI → MJ → MP → Prop} (hQ : Q (b2i (has (I t 0) c (nI 6))) I J P) : Sp yX9_hasColour cX9_hasColour 2 (some .boolean) d [.ref t, .int c] I J P (Qi Q) := by
  intro Γ h
  rcases ht with rfl | rfl
  · show VG Γ 0 0 0 [some (.ref 36), some (.int c)] [] _ _ _ _
    refine g_iload_1 h dX9_hasColour_0 ?_
    refine g_if_lt h 22 dX9_hasColour_1 rfl (fun c1 => ?_) (fun c1 => ?_)
    · refine g_iconst h dX9_hasColour_22 (v := nI 0) rfl ?_
      refine g_zret h dX9_hasColour_23 (by first | rfl | exact nar_b2i _) ?_
      exact q_i (by simp [has, b2i, *]) hQ
    · refine g_iload_1 h dX9_hasColour_4 ?_
      refine g_aload_0 h dX9_hasColour_5 ?_
      refine g_getI h fl_X9_7 dX9_hasColour_6 rfl rfl ?_
      refine g_icmp_ge h 22 dX9_hasColour_9 rfl (fun c9 => ?_) (fun c9 => ?_)
      · refine g_iconst h dX9_hasColour_22 (v := nI 0) rfl ?_
        refine g_zret h dX9_hasColour_23 (by first | rfl | exact nar_b2i _) ?_
        exact q_i (by simp [has, b2i, *]) hQ
      · refine g_iload_1 h dX9_hasColour_12 ?_
        refine g_bipush h dX9_hasColour_13 (v := nI 6) rfl ?_
        refine g_icmp_ge h 22 dX9_hasColour_15 rfl (fun c15 => ?_) (fun c15 => ?_)
        · refine g_iconst h dX9_hasColour_22 (v := nI 0) rfl ?_
          refine g_zret h dX9_hasColour_23 (by first | rfl | exact nar_b2i _) ?_
          exact q_i (by simp [has, b2i, *]) hQ
        · refine g_iconst h dX9_hasColour_18 (v := nI 1) rfl ?_
          refine g_goto h 23 dX9_hasColour_19 rfl ?_
          refine g_zret h dX9_hasColour_23 (by first | rfl | exact nar_b2i _) ?_
          exact q_i (by simp [has, b2i, *]) hQ
  · show VG Γ 0 0 0 [some (.ref 58), some (.int c)] [] _ _ _ _
    refine g_iload_1 h dX9_hasColour_0 ?_
    refine g_if_lt h 22 dX9_hasColour_1 rfl (fun c1 => ?_) (fun c1 => ?_)
    · refine g_iconst h dX9_hasColour_22 (v := nI 0) rfl ?_
      refine g_zret h dX9_hasColour_23 (by first | rfl | exact nar_b2i _) ?_
      exact q_i (by simp [has, b2i, *]) hQ
    · refine g_iload_1 h dX9_hasColour_4 ?_
      refine g_aload_0 h dX9_hasColour_5 ?_
      refine g_getI h fl_X9_7 dX9_hasColour_6 rfl rfl ?_
      refine g_icmp_ge h 22 dX9_hasColour_9 rfl (fun c9 => ?_) (fun c9 => ?_)
      · refine g_iconst h dX9_hasColour_22 (v := nI 0) rfl ?_
        refine g_zret h dX9_hasColour_23 (by first | rfl | exact nar_b2i _) ?_
        exact q_i (by simp [has, b2i, *]) hQ
      · refine g_iload_1 h dX9_hasColour_12 ?_
        refine g_bipush h dX9_hasColour_13 (v := nI 6) rfl ?_
        refine g_icmp_ge h 22 dX9_hasColour_15 rfl (fun c15 => ?_) (fun c15 => ?_)
        · refine g_iconst h dX9_hasColour_22 (v := nI 0) rfl ?_
          refine g_zret h dX9_hasColour_23 (by first | rfl | exact nar_b2i _) ?_
          exact q_i (by simp [has, b2i, *]) hQ
        · refine g_iconst h dX9_hasColour_18 (v := nI 1) rfl ?_
          refine g_goto h 23 dX9_hasColour_19 rfl ?_
          refine g_zret h dX9_hasColour_23 (by first | rfl | exact nar_b2i _) ?_
          exact q_i (by simp [has, b2i, *]) hQ
set_option maxHeartbeats 4000000 in
theorem sp_X9_hasCord {d t : Nat} (ht : t = 36 ∨ t = 58) {c : Int32} {I : MI} {J : MJ} {P : MP} {Q : Int32 → MI → MJ → MP → Prop} (hQ : Q (b2i (has (I t 1) c (nI 16))) I J P) : Sp yX9_hasCord cX9_hasCord 2 (some .boolean) d [.ref t, .int c] I J P (Qi Q) := by
  intro Γ h
  rcases ht with rfl | rfl
  · show VG Γ 0 0 0 [some (.ref 36), some (.int c)] [] _ _ _ _
    refine g_iload_1 h dX9_hasCord_0 ?_
    refine g_if_lt h 22 dX9_hasCord_1 rfl (fun c1 => ?_) (fun c1 => ?_)
    · refine g_iconst h dX9_hasCord_22 (v := nI 0) rfl ?_
      refine g_zret h dX9_hasCord_23 (by first | rfl | exact nar_b2i _) ?_
      exact q_i (by simp [has, b2i, *]) hQ
    · refine g_iload_1 h dX9_hasCord_4 ?_
      refine g_aload_0 h dX9_hasCord_5 ?_
      refine g_getI h fl_X9_13 dX9_hasCord_6 rfl rfl ?_
      refine g_icmp_ge h 22 dX9_hasCord_9 rfl (fun c9 => ?_) (fun c9 => ?_)
      · refine g_iconst h dX9_hasCord_22 (v := nI 0) rfl ?_
        refine g_zret h dX9_hasCord_23 (by first | rfl | exact nar_b2i _) ?_
        exact q_i (by simp [has, b2i, *]) hQ
      · refine g_iload_1 h dX9_hasCord_12 ?_
        refine g_bipush h dX9_hasCord_13 (v := nI 16) rfl ?_
        refine g_icmp_ge h 22 dX9_hasCord_15 rfl (fun c15 => ?_) (fun c15 => ?_)
        · refine g_iconst h dX9_hasCord_22 (v := nI 0) rfl ?_
          refine g_zret h dX9_hasCord_23 (by first | rfl | exact nar_b2i _) ?_
          exact q_i (by simp [has, b2i, *]) hQ
        · refine g_iconst h dX9_hasCord_18 (v := nI 1) rfl ?_
          refine g_goto h 23 dX9_hasCord_19 rfl ?_
          refine g_zret h dX9_hasCord_23 (by first | rfl | exact nar_b2i _) ?_
          exact q_i (by simp [has, b2i, *]) hQ
  · show VG Γ 0 0 0 [some (.ref 58), some (.int c)] [] _ _ _ _
    refine g_iload_1 h dX9_hasCord_0 ?_
    refine g_if_lt h 22 dX9_hasCord_1 rfl (fun c1 => ?_) (fun c1 => ?_)
    · refine g_iconst h dX9_hasCord_22 (v := nI 0) rfl ?_
      refine g_zret h dX9_hasCord_23 (by first | rfl | exact nar_b2i _) ?_
      exact q_i (by simp [has, b2i, *]) hQ
    · refine g_iload_1 h dX9_hasCord_4 ?_
      refine g_aload_0 h dX9_hasCord_5 ?_
      refine g_getI h fl_X9_13 dX9_hasCord_6 rfl rfl ?_
      refine g_icmp_ge h 22 dX9_hasCord_9 rfl (fun c9 => ?_) (fun c9 => ?_)
      · refine g_iconst h dX9_hasCord_22 (v := nI 0) rfl ?_
        refine g_zret h dX9_hasCord_23 (by first | rfl | exact nar_b2i _) ?_
        exact q_i (by simp [has, b2i, *]) hQ
      · refine g_iload_1 h dX9_hasCord_12 ?_
        refine g_bipush h dX9_hasCord_13 (v := nI 16) rfl ?_
        refine g_icmp_ge h 22 dX9_hasCord_15 rfl (fun c15 => ?_) (fun c15 => ?_)
        · refine g_iconst h dX9_hasCord_22 (v := nI 0) rfl ?_
          refine g_zret h dX9_hasCord_23 (by first | rfl | exact nar_b2i _) ?_
          exact q_i (by simp [has, b2i, *]) hQ
        · refine g_iconst h dX9_hasCord_18 (v := nI 1) rfl ?_
          refine g_goto h 23 dX9_hasCord_19 rfl ?_
          refine g_zret h dX9_hasCord_23 (by first | rfl | exact nar_b2i _) ?_
          exact q_i (by simp [has, b2i, *]) hQ
set_option maxHeartbeats 4000000 in
theorem sp_X9_hasTop {d t : Nat} (ht : t = 36 ∨ t = 58) {c : Int32} {I : MI} {J : MJ} {P : MP} {Q : Int32 → MI → MJ → MP → Prop} (hQ : Q (b2i (has (I t 2) c (nI 6))) I J P) : Sp yX9_hasTop cX9_hasTop 2 (some .boolean) d [.ref t, .int c] I J P (Qi Q) := by
  intro Γ h
  rcases ht with rfl | rfl
  · show VG Γ 0 0 0 [some (.ref 36), some (.int c)] [] _ _ _ _
    refine g_iload_1 h dX9_hasTop_0 ?_
    refine g_if_lt h 22 dX9_hasTop_1 rfl (fun c1 => ?_) (fun c1 => ?_)
    · refine g_iconst h dX9_hasTop_22 (v := nI 0) rfl ?_
      refine g_zret h dX9_hasTop_23 (by first | rfl | exact nar_b2i _) ?_
      exact q_i (by simp [has, b2i, *]) hQ
    · refine g_iload_1 h dX9_hasTop_4 ?_
      refine g_aload_0 h dX9_hasTop_5 ?_
      refine g_getI h fl_X9_16 dX9_hasTop_6 rfl rfl ?_
      refine g_icmp_ge h 22 dX9_hasTop_9 rfl (fun c9 => ?_) (fun c9 => ?_)
      · refine g_iconst h dX9_hasTop_22 (v := nI 0) rfl ?_
        refine g_zret h dX9_hasTop_23 (by first | rfl | exact nar_b2i _) ?_
        exact q_i (by simp [has, b2i, *]) hQ
      · refine g_iload_1 h dX9_hasTop_12 ?_
        refine g_bipush h dX9_hasTop_13 (v := nI 6) rfl ?_
        refine g_icmp_ge h 22 dX9_hasTop_15 rfl (fun c15 => ?_) (fun c15 => ?_)
        · refine g_iconst h dX9_hasTop_22 (v := nI 0) rfl ?_
          refine g_zret h dX9_hasTop_23 (by first | rfl | exact nar_b2i _) ?_
          exact q_i (by simp [has, b2i, *]) hQ
        · refine g_iconst h dX9_hasTop_18 (v := nI 1) rfl ?_
          refine g_goto h 23 dX9_hasTop_19 rfl ?_
          refine g_zret h dX9_hasTop_23 (by first | rfl | exact nar_b2i _) ?_
          exact q_i (by simp [has, b2i, *]) hQ
  · show VG Γ 0 0 0 [some (.ref 58), some (.int c)] [] _ _ _ _
    refine g_iload_1 h dX9_hasTop_0 ?_
    refine g_if_lt h 22 dX9_hasTop_1 rfl (fun c1 => ?_) (fun c1 => ?_)
    · refine g_iconst h dX9_hasTop_22 (v := nI 0) rfl ?_
      refine g_zret h dX9_hasTop_23 (by first | rfl | exact nar_b2i _) ?_
      exact q_i (by simp [has, b2i, *]) hQ
    · refine g_iload_1 h dX9_hasTop_4 ?_
      refine g_aload_0 h dX9_hasTop_5 ?_
      refine g_getI h fl_X9_16 dX9_hasTop_6 rfl rfl ?_
      refine g_icmp_ge h 22 dX9_hasTop_9 rfl (fun c9 => ?_) (fun c9 => ?_)
      · refine g_iconst h dX9_hasTop_22 (v := nI 0) rfl ?_
        refine g_zret h dX9_hasTop_23 (by first | rfl | exact nar_b2i _) ?_
        exact q_i (by simp [has, b2i, *]) hQ
      · refine g_iload_1 h dX9_hasTop_12 ?_
        refine g_bipush h dX9_hasTop_13 (v := nI 6) rfl ?_
        refine g_icmp_ge h 22 dX9_hasTop_15 rfl (fun c15 => ?_) (fun c15 => ?_)
        · refine g_iconst h dX9_hasTop_22 (v := nI 0) rfl ?_
          refine g_zret h dX9_hasTop_23 (by first | rfl | exact nar_b2i _) ?_
          exact q_i (by simp [has, b2i, *]) hQ
        · refine g_iconst h dX9_hasTop_18 (v := nI 1) rfl ?_
          refine g_goto h 23 dX9_hasTop_19 rfl ?_
          refine g_zret h dX9_hasTop_23 (by first | rfl | exact nar_b2i _) ?_
          exact q_i (by simp [has, b2i, *]) hQ
set_option maxHeartbeats 4000000 in
theorem sp_X9_hasKeeper {d t : Nat} (ht : t = 36 ∨ t = 58) {c : Int32} {I : MI} {J : MJ} {P : MP} {Q : Int32 → MI → MJ → MP → Prop} (hQ : Q (b2i (has (I t 3) c (nI 5))) I J P) : Sp yX9_hasKeeper cX9_hasKeeper 2 (some .boolean) d [.ref t, .int c] I J P (Qi Q) := by
  intro Γ h
  rcases ht with rfl | rfl
  · show VG Γ 0 0 0 [some (.ref 36), some (.int c)] [] _ _ _ _
    refine g_iload_1 h dX9_hasKeeper_0 ?_
    refine g_if_lt h 21 dX9_hasKeeper_1 rfl (fun c1 => ?_) (fun c1 => ?_)
    · refine g_iconst h dX9_hasKeeper_21 (v := nI 0) rfl ?_
      refine g_zret h dX9_hasKeeper_22 (by first | rfl | exact nar_b2i _) ?_
      exact q_i (by simp [has, b2i, *]) hQ
    · refine g_iload_1 h dX9_hasKeeper_4 ?_
      refine g_aload_0 h dX9_hasKeeper_5 ?_
      refine g_getI h fl_X9_19 dX9_hasKeeper_6 rfl rfl ?_
      refine g_icmp_ge h 21 dX9_hasKeeper_9 rfl (fun c9 => ?_) (fun c9 => ?_)
      · refine g_iconst h dX9_hasKeeper_21 (v := nI 0) rfl ?_
        refine g_zret h dX9_hasKeeper_22 (by first | rfl | exact nar_b2i _) ?_
        exact q_i (by simp [has, b2i, *]) hQ
      · refine g_iload_1 h dX9_hasKeeper_12 ?_
        refine g_iconst h dX9_hasKeeper_13 (v := nI 5) rfl ?_
        refine g_icmp_ge h 21 dX9_hasKeeper_14 rfl (fun c14 => ?_) (fun c14 => ?_)
        · refine g_iconst h dX9_hasKeeper_21 (v := nI 0) rfl ?_
          refine g_zret h dX9_hasKeeper_22 (by first | rfl | exact nar_b2i _) ?_
          exact q_i (by simp [has, b2i, *]) hQ
        · refine g_iconst h dX9_hasKeeper_17 (v := nI 1) rfl ?_
          refine g_goto h 22 dX9_hasKeeper_18 rfl ?_
          refine g_zret h dX9_hasKeeper_22 (by first | rfl | exact nar_b2i _) ?_
          exact q_i (by simp [has, b2i, *]) hQ
  · show VG Γ 0 0 0 [some (.ref 58), some (.int c)] [] _ _ _ _
    refine g_iload_1 h dX9_hasKeeper_0 ?_
    refine g_if_lt h 21 dX9_hasKeeper_1 rfl (fun c1 => ?_) (fun c1 => ?_)
    · refine g_iconst h dX9_hasKeeper_21 (v := nI 0) rfl ?_
      refine g_zret h dX9_hasKeeper_22 (by first | rfl | exact nar_b2i _) ?_
      exact q_i (by simp [has, b2i, *]) hQ
    · refine g_iload_1 h dX9_hasKeeper_4 ?_
      refine g_aload_0 h dX9_hasKeeper_5 ?_
      refine g_getI h fl_X9_19 dX9_hasKeeper_6 rfl rfl ?_
      refine g_icmp_ge h 21 dX9_hasKeeper_9 rfl (fun c9 => ?_) (fun c9 => ?_)
      · refine g_iconst h dX9_hasKeeper_21 (v := nI 0) rfl ?_
        refine g_zret h dX9_hasKeeper_22 (by first | rfl | exact nar_b2i _) ?_
        exact q_i (by simp [has, b2i, *]) hQ
      · refine g_iload_1 h dX9_hasKeeper_12 ?_
        refine g_iconst h dX9_hasKeeper_13 (v := nI 5) rfl ?_
        refine g_icmp_ge h 21 dX9_hasKeeper_14 rfl (fun c14 => ?_) (fun c14 => ?_)
        · refine g_iconst h dX9_hasKeeper_21 (v := nI 0) rfl ?_
          refine g_zret h dX9_hasKeeper_22 (by first | rfl | exact nar_b2i _) ?_
          exact q_i (by simp [has, b2i, *]) hQ
        · refine g_iconst h dX9_hasKeeper_17 (v := nI 1) rfl ?_
          refine g_goto h 22 dX9_hasKeeper_18 rfl ?_
          refine g_zret h dX9_hasKeeper_22 (by first | rfl | exact nar_b2i _) ?_
          exact q_i (by simp [has, b2i, *]) hQ
/-! Knots -/
def rem10 (x : Int32) : Int32 := x - x / nI 10 * nI 10
def skn : Nat → Int32 → Int32 → Int32
  | 0, k, _ => k
  | f + 1, k, r => skn f (k + rem10 r) (r / nI 10)
def kno (x : Int32) : Int32 := (if rem10 x = 0 then nI 0 else nI 1) + skn 9 (nI 0) (x / nI 10)
def tur (x : Int32) : Int32 := (if rem10 x = nI 1 then nI 2 else rem10 x) + skn 9 (nI 0) (x / nI 10)
def dgt : Nat → Int32 → Int32
  | 0, x => rem10 x
  | p + 1, x => dgt p (x / nI 10)
def eaF : Nat → Int32 → Int32 → Int32
  | 0, f, _ => f
  | n + 1, f, x => if f ≤ x / nI 10 then eaF n (f * nI 10) x else f
def eat (x : Int32) : Int32 := if x < nI 10 then nI 0 else x - eaF 8 (nI 10) x
set_option maxHeartbeats 4000000 in
theorem lp_X3_singleKnotsOf {Γ : Cx} {d : Nat} {I : MI} {J : MJ} {P : MP} {x : Int32} {Q : Int32 → MI → MJ → MP → Prop} (h : Vc RX3 cX3_singleKnotsOf 4 (some .int) d Γ) : ∀ (f n : Nat) (k r : Int32), n + f = 10 → Q (skn f k r) I J P → VG Γ 0 0 9 [some (.int x), some (.int k), some (.int r), some (.int (nI n))] [] I J P (Fnl Γ (Qi Q)) := by
  intro f
  induction f with
  | zero =>
    intro n k r hn hQ
    refine g_iload_3 h dX3_singleKnotsOf_9 ?_
    refine g_bipush h dX3_singleKnotsOf_10 (v := nI 10) rfl ?_
    refine g_icmp_ge h 33 dX3_singleKnotsOf_12 rfl (fun c12 => ?_) (fun c12 => ?_)
    · refine g_iload_1 h dX3_singleKnotsOf_33 ?_
      refine g_iret h dX3_singleKnotsOf_34 ?_
      exact hQ
    · exact absurd (nI_le (by omega) (by omega)) c12
  | succ f ih =>
    intro n k r hn hQ
    refine g_iload_3 h dX3_singleKnotsOf_9 ?_
    refine g_bipush h dX3_singleKnotsOf_10 (v := nI 10) rfl ?_
    refine g_icmp_ge h 33 dX3_singleKnotsOf_12 rfl (fun c12 => ?_) (fun c12 => ?_)
    · exact absurd (leN c12 (by omega) (by omega)) (by omega)
    · refine g_iload_1 h dX3_singleKnotsOf_15 ?_
      refine g_iload_2 h dX3_singleKnotsOf_16 ?_
      refine g_bipush h dX3_singleKnotsOf_17 (v := nI 10) rfl ?_
      refine g_irem h dX3_singleKnotsOf_19 (by decide) ?_
      refine g_iadd h dX3_singleKnotsOf_20 ?_
      refine g_istore_1 h dX3_singleKnotsOf_21 (by decide) rfl ?_
      refine g_iload_2 h dX3_singleKnotsOf_22 ?_
      refine g_bipush h dX3_singleKnotsOf_23 (v := nI 10) rfl ?_
      refine g_idiv h dX3_singleKnotsOf_25 (by decide) ?_
      refine g_istore_2 h dX3_singleKnotsOf_26 (by decide) rfl ?_
      refine g_iinc_3 h dX3_singleKnotsOf_27 (inc1 _) (by decide) rfl ?_
      refine g_goto h 9 dX3_singleKnotsOf_30 rfl ?_
      exact ih (n + 1) _ _ (by omega) hQ
set_option maxRecDepth 100000 in
set_option maxHeartbeats 4000000 in
theorem sp_X3_singleKnotsOf {d : Nat} {x : Int32} {I : MI} {J : MJ} {P : MP} {Q : Int32 → MI → MJ → MP → Prop} (hQ : Q (skn 9 (nI 0) (x / nI 10)) I J P) : Sp yX3_singleKnotsOf cX3_singleKnotsOf 4 (some .int) (d) [.int x] I J P (Qi Q) := by
  intro Γ h
  show VG Γ 0 0 0 [some (.int x), none, none, none] [] _ _ _ _
  refine g_iconst h dX3_singleKnotsOf_0 (v := nI 0) rfl ?_
  refine g_istore_1 h dX3_singleKnotsOf_1 (by decide) rfl ?_
  refine g_iload_0 h dX3_singleKnotsOf_2 ?_
  refine g_bipush h dX3_singleKnotsOf_3 (v := nI 10) rfl ?_
  refine g_idiv h dX3_singleKnotsOf_5 (by decide) ?_
  refine g_istore_2 h dX3_singleKnotsOf_6 (by decide) rfl ?_
  refine g_iconst h dX3_singleKnotsOf_7 (v := nI 1) rfl ?_
  refine g_istore_3 h dX3_singleKnotsOf_8 (by decide) rfl ?_
  exact lp_X3_singleKnotsOf h 9 1 _ _ rfl hQ
set_option maxRecDepth 100000 in
set_option maxHeartbeats 4000000 in
theorem sp_X3_knotsOf {d : Nat} {x : Int32} {I : MI} {J : MJ} {P : MP} {Q : Int32 → MI → MJ → MP → Prop} (hQ : Q (kno x) I J P) : Sp yX3_knotsOf cX3_knotsOf 1 (some .int) (d + 1) [.int x] I J P (Qi Q) := by
  intro Γ h
  show VG Γ 0 0 0 [some (.int x)] [] _ _ _ _
  refine g_iload_0 h dX3_knotsOf_0 ?_
  refine g_bipush h dX3_knotsOf_1 (v := nI 10) rfl ?_
  refine g_irem h dX3_knotsOf_3 (by decide) ?_
  refine g_if_ne h 11 dX3_knotsOf_4 rfl (fun c4 => ?_) (fun c4 => ?_)
  · refine g_iconst h dX3_knotsOf_11 (v := nI 1) rfl ?_
    refine g_iload_0 h dX3_knotsOf_12 ?_
    refine g_cSi1 h rok0 mi_X3_singleKnotsOf dX3_knotsOf_13 ml_X3_7 (Nat.le_of_ble_eq_true rfl) (Nat.le_of_ble_eq_true rfl) (sp_X3_singleKnotsOf ?_)
    refine g_iadd h dX3_knotsOf_16 ?_
    refine g_iret h dX3_knotsOf_17 ?_
    exact q_i (by simp [kno, rem10, *]) hQ
  · refine g_iconst h dX3_knotsOf_7 (v := nI 0) rfl ?_
    refine g_goto h 12 dX3_knotsOf_8 rfl ?_
    refine g_iload_0 h dX3_knotsOf_12 ?_
    refine g_cSi1 h rok0 mi_X3_singleKnotsOf dX3_knotsOf_13 ml_X3_7 (Nat.le_of_ble_eq_true rfl) (Nat.le_of_ble_eq_true rfl) (sp_X3_singleKnotsOf ?_)
    refine g_iadd h dX3_knotsOf_16 ?_
    refine g_iret h dX3_knotsOf_17 ?_
    exact q_i (by simp [kno, rem10, *]) hQ
set_option maxRecDepth 100000 in
set_option maxHeartbeats 4000000 in
theorem sp_X3_turnsOf {d : Nat} {x : Int32} {I : MI} {J : MJ} {P : MP} {Q : Int32 → MI → MJ → MP → Prop} (hQ : Q (tur x) I J P) : Sp yX3_turnsOf cX3_turnsOf 2 (some .int) (d + 1) [.int x] I J P (Qi Q) := by
  intro Γ h
  show VG Γ 0 0 0 [some (.int x), none] [] _ _ _ _
  refine g_iload_0 h dX3_turnsOf_0 ?_
  refine g_bipush h dX3_turnsOf_1 (v := nI 10) rfl ?_
  refine g_irem h dX3_turnsOf_3 (by decide) ?_
  refine g_istore_1 h dX3_turnsOf_4 (by decide) rfl ?_
  refine g_iload_1 h dX3_turnsOf_5 ?_
  refine g_iconst h dX3_turnsOf_6 (v := nI 1) rfl ?_
  refine g_icmp_ne h 14 dX3_turnsOf_7 rfl (fun c7 => ?_) (fun c7 => ?_)
  · refine g_iload_1 h dX3_turnsOf_14 ?_
    refine g_iload_0 h dX3_turnsOf_15 ?_
    refine g_cSi1 h rok0 mi_X3_singleKnotsOf dX3_turnsOf_16 ml_X3_7 (Nat.le_of_ble_eq_true rfl) (Nat.le_of_ble_eq_true rfl) (sp_X3_singleKnotsOf ?_)
    refine g_iadd h dX3_turnsOf_19 ?_
    refine g_iret h dX3_turnsOf_20 ?_
    exact q_i (by simp [tur, rem10, *]) hQ
  · refine g_iconst h dX3_turnsOf_10 (v := nI 2) rfl ?_
    refine g_goto h 15 dX3_turnsOf_11 rfl ?_
    refine g_iload_0 h dX3_turnsOf_15 ?_
    refine g_cSi1 h rok0 mi_X3_singleKnotsOf dX3_turnsOf_16 ml_X3_7 (Nat.le_of_ble_eq_true rfl) (Nat.le_of_ble_eq_true rfl) (sp_X3_singleKnotsOf ?_)
    refine g_iadd h dX3_turnsOf_19 ?_
    refine g_iret h dX3_turnsOf_20 ?_
    exact q_i (by simp [tur, rem10, *]) hQ
set_option maxHeartbeats 4000000 in
theorem lp_X3_digitOf {Γ : Cx} {d p : Nat} (hp : p < 4) {I : MI} {J : MJ} {P : MP} {x : Int32} {Q : Int32 → MI → MJ → MP → Prop} (h : Vc RX3 cX3_digitOf 4 (some .int) d Γ) : ∀ (f n : Nat) (r : Int32), n + f = p → Q (dgt f r) I J P → VG Γ 0 0 4 [some (.int x), some (.int (nI p)), some (.int r), some (.int (nI n))] [] I J P (Fnl Γ (Qi Q)) := by
  intro f
  induction f with
  | zero =>
    intro n r hn hQ
    refine g_iload_3 h dX3_digitOf_4 ?_
    refine g_iload_1 h dX3_digitOf_5 ?_
    refine g_icmp_ge h 26 dX3_digitOf_6 rfl (fun c6 => ?_) (fun c6 => ?_)
    · refine g_iload_2 h dX3_digitOf_26 ?_
      refine g_bipush h dX3_digitOf_27 (v := nI 10) rfl ?_
      refine g_irem h dX3_digitOf_29 (by decide) ?_
      refine g_iret h dX3_digitOf_30 ?_
      exact hQ
    · exact absurd (nI_le (by omega) (by omega)) c6
  | succ f ih =>
    intro n r hn hQ
    refine g_iload_3 h dX3_digitOf_4 ?_
    refine g_iload_1 h dX3_digitOf_5 ?_
    refine g_icmp_ge h 26 dX3_digitOf_6 rfl (fun c6 => ?_) (fun c6 => ?_)
    · exact absurd (leN c6 (by omega) (by omega)) (by omega)
    · refine g_iload_3 h dX3_digitOf_9 ?_
      refine g_bipush h dX3_digitOf_10 (v := nI 10) rfl ?_
      refine g_icmp_ge h 26 dX3_digitOf_12 rfl (fun c12 => ?_) (fun c12 => ?_)
      · exact absurd (leN c12 (by omega) (by omega)) (by omega)
      · refine g_iload_2 h dX3_digitOf_15 ?_
        refine g_bipush h dX3_digitOf_16 (v := nI 10) rfl ?_
        refine g_idiv h dX3_digitOf_18 (by decide) ?_
        refine g_istore_2 h dX3_digitOf_19 (by decide) rfl ?_
        refine g_iinc_3 h dX3_digitOf_20 (inc1 _) (by decide) rfl ?_
        refine g_goto h 4 dX3_digitOf_23 rfl ?_
        exact ih (n + 1) _ (by omega) hQ
set_option maxRecDepth 100000 in
set_option maxHeartbeats 4000000 in
theorem sp_X3_digitOf {d p : Nat} (hp : p < 4) {x : Int32} {I : MI} {J : MJ} {P : MP} {Q : Int32 → MI → MJ → MP → Prop} (hQ : Q (dgt p x) I J P) : Sp yX3_digitOf cX3_digitOf 4 (some .int) (d) [.int x, .int (nI p)] I J P (Qi Q) := by
  intro Γ h
  show VG Γ 0 0 0 [some (.int x), some (.int (nI p)), none, none] [] _ _ _ _
  refine g_iload_0 h dX3_digitOf_0 ?_
  refine g_istore_2 h dX3_digitOf_1 (by decide) rfl ?_
  refine g_iconst h dX3_digitOf_2 (v := nI 0) rfl ?_
  refine g_istore_3 h dX3_digitOf_3 (by decide) rfl ?_
  exact lp_X3_digitOf hp h p 0 _ (by omega) hQ
set_option maxHeartbeats 4000000 in
theorem lp_X3_eaten {Γ : Cx} {d : Nat} {I : MI} {J : MJ} {P : MP} {x : Int32} {Q : Int32 → MI → MJ → MP → Prop} (h : Vc RX3 cX3_eaten 3 (some .int) d Γ) : ∀ (f n : Nat) (k : Int32), n + f = 10 → Q (x - eaF f k x) I J P → VG Γ 0 0 13 [some (.int x), some (.int k), some (.int (nI n))] [] I J P (Fnl Γ (Qi Q)) := by
  intro f
  induction f with
  | zero =>
    intro n k hn hQ
    refine g_iload_2 h dX3_eaten_13 ?_
    refine g_bipush h dX3_eaten_14 (v := nI 10) rfl ?_
    refine g_icmp_ge h 38 dX3_eaten_16 rfl (fun c16 => ?_) (fun c16 => ?_)
    · refine g_iload_0 h dX3_eaten_38 ?_
      refine g_iload_1 h dX3_eaten_39 ?_
      refine g_isub h dX3_eaten_40 ?_
      refine g_iret h dX3_eaten_41 ?_
      exact hQ
    · exact absurd (nI_le (by omega) (by omega)) c16
  | succ f ih =>
    intro n k hn hQ
    refine g_iload_2 h dX3_eaten_13 ?_
    refine g_bipush h dX3_eaten_14 (v := nI 10) rfl ?_
    refine g_icmp_ge h 38 dX3_eaten_16 rfl (fun c16 => ?_) (fun c16 => ?_)
    · exact absurd (leN c16 (by omega) (by omega)) (by omega)
    · refine g_iload_1 h dX3_eaten_19 ?_
      refine g_iload_0 h dX3_eaten_20 ?_
      refine g_bipush h dX3_eaten_21 (v := nI 10) rfl ?_
      refine g_idiv h dX3_eaten_23 (by decide) ?_
      refine g_icmp_gt h 38 dX3_eaten_24 rfl (fun c24 => ?_) (fun c24 => ?_)
      · refine g_iload_0 h dX3_eaten_38 ?_
        refine g_iload_1 h dX3_eaten_39 ?_
        refine g_isub h dX3_eaten_40 ?_
        refine g_iret h dX3_eaten_41 ?_
        exact q_i (by simp [eaF, Int32.not_le.mpr c24]) hQ
      · refine g_iload_1 h dX3_eaten_27 ?_
        refine g_bipush h dX3_eaten_28 (v := nI 10) rfl ?_
        refine g_imul h dX3_eaten_30 ?_
        refine g_istore_1 h dX3_eaten_31 (by decide) rfl ?_
        refine g_iinc_2 h dX3_eaten_32 (inc1 _) (by decide) rfl ?_
        refine g_goto h 13 dX3_eaten_35 rfl ?_
        exact ih (n + 1) _ (by omega) (by rw [eaF, if_pos (Int32.not_lt.mp c24)] at hQ; exact hQ)
set_option maxRecDepth 100000 in
set_option maxHeartbeats 4000000 in
theorem sp_X3_eaten {d : Nat} {x : Int32} {I : MI} {J : MJ} {P : MP} {Q : Int32 → MI → MJ → MP → Prop} (hQ : Q (eat x) I J P) : Sp yX3_eaten cX3_eaten 3 (some .int) (d) [.int x] I J P (Qi Q) := by
  intro Γ h
  show VG Γ 0 0 0 [some (.int x), none, none] [] _ _ _ _
  refine g_iload_0 h dX3_eaten_0 ?_
  refine g_bipush h dX3_eaten_1 (v := nI 10) rfl ?_
  refine g_icmp_ge h 8 dX3_eaten_3 rfl (fun c3 => ?_) (fun c3 => ?_)
  · refine g_bipush h dX3_eaten_8 (v := nI 10) rfl ?_
    refine g_istore_1 h dX3_eaten_10 (by decide) rfl ?_
    refine g_iconst h dX3_eaten_11 (v := nI 2) rfl ?_
    refine g_istore_2 h dX3_eaten_12 (by decide) rfl ?_
    exact lp_X3_eaten h 8 2 _ rfl (by rw [eat, if_neg (Int32.not_lt.mpr c3)] at hQ; exact hQ)
  · refine g_iconst h dX3_eaten_6 (v := nI 0) rfl ?_
    refine g_iret h dX3_eaten_7 ?_
    exact q_i (by rw [eat, if_pos (Int32.not_le.mp c3)]) hQ
