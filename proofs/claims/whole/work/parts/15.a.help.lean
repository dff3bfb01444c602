/-! The law's helpers: they call and catch -/
theorem cl_L_13 : Cond.classLink RL 13 eISE ∈ bigW := bw_in (tb_4 (List.mem_of_getElem? (i := 61) rfl)) rfl
theorem cl_L_19 : Cond.classLink RL 19 eIAE ∈ bigW := bw_in (tb_4 (List.mem_of_getElem? (i := 140) rfl)) rfl
theorem cl_L_24 : Cond.classLink RL 24 eIOB ∈ bigW := bw_in (tb_4 (List.mem_of_getElem? (i := 164) rfl)) rfl
theorem fnx_mono {Γ : Cx} {kc kn pc : Nat} {lv : List (Option Value)} {st : List Value} {I : MI} {J : MJ} {P : MP} {Q Q2 : Option Value → MI → MJ → MP → Prop} {X X2 : String → MI → MJ → MP → Prop} (hq : ∀ r I J P, Q r I J P → Q2 r I J P) (hx : ∀ E I J P, X E I J P → X2 E I J P) (k : VG Γ kc kn pc lv st I J P (FnX Γ Q X)) : VG Γ kc kn pc lv st I J P (FnX Γ Q2 X2) := by
  obtain ⟨p, l, e, R, s, m, args, below, meth, c, ad, dC, dI, cy, A⟩ := Γ
  intro H locs ls hP hS hl T hT Y
  obtain ⟨t, a, b⟩ := k H locs ls hP hS hl T hT Y
  refine ⟨t, a, ?_⟩
  rw [fnx_eq] at b ⊢
  obtain ⟨o, b1, b2, b3⟩ := b
  refine ⟨o, b1, b2, ?_⟩
  rcases b3 with ⟨⟨⟨r, I1, J1, P1, hv, hq1, hP1, hK1⟩, hF⟩, b4⟩ | ⟨q, q1, E, ce, L, ⟨⟨I1, J1, P1, hx1, hP1, hK1⟩, hF⟩, q2⟩
  · exact Or.inl ⟨⟨⟨r, I1, J1, P1, hv, hq _ _ _ _ hq1, hP1, hK1⟩, hF⟩, b4⟩
  · exact Or.inr ⟨q, q1, E, ce, L, ⟨⟨I1, J1, P1, hx _ _ _ _ hx1, hP1, hK1⟩, hF⟩, q2⟩
theorem spx_mono {y : MethodName} {cb : ByteArray} {mL d : Nat} {rt : Option FieldType} {as : List Value} {I : MI} {J : MJ} {P : MP} {Q Q2 : Option Value → MI → MJ → MP → Prop} {X X2 : String → MI → MJ → MP → Prop} (h : SpX y cb mL rt d as I J P Q X) (hq : ∀ r I J P, Q r I J P → Q2 r I J P) (hx : ∀ E I J P, X E I J P → X2 E I J P) : SpX y cb mL rt d as I J P Q2 X2 := fun Γ a b => fnx_mono hq hx (h Γ a b)
theorem nxIAE : Cond.castable eIAE eIAE ∈ nxW := List.mem_of_getElem? (i := 4) rfl
theorem nxISE : Cond.castable eISE eISE ∈ nxW := List.mem_of_getElem? (i := 3) rfl
theorem nxIOB : Cond.castable eIOB eIOB ∈ nxW := List.mem_of_getElem? (i := 5) rfl
def hh_feed : List (Nat × Nat × Nat × Nat) := [(0, 16, 19, 13)]
theorem mh_feed : MIh yL_feed cL_feed 8 hh_feed 7 := ⟨bw_in (tb_4 (List.mem_of_getElem? (i := 60) rfl)) rfl, bw_in (tb_4 (List.mem_of_getElem? (i := 59) rfl)) rfl, ini_L, by decide +kernel, ⟨by decide +kernel, by decide +kernel, by decide +kernel⟩, by decide⟩
set_option maxRecDepth 100000 in
set_option maxHeartbeats 4000000 in
theorem sp_L_feed {d : Nat} {a b c d0 e : Int32} {I : MI} {J : MJ} {P : MP} {Q : Int32 → MI → MJ → MP → Prop} (hc : SpX yX10_feed cX10_feed 6 (some .int) (d + 8) [.ref 0, .int a, .int b, .int c, .int d0, .int e] I J P (Qi (fun v I1 J1 P1 => Q (nI 0) I1 (up2 J1 19 0 v.toInt64) P1)) (fun E I1 J1 P1 => (E = eISE ∧ Q (nI 1) I1 J1 P1))) : SpH yL_feed cL_feed 8 hh_feed (d + 9) [.ref 0, .int a, .int b, .int c, .int d0, .int e, .ref 19] I J P (Qi Q) := by
  intro Γ h hx
  show VG Γ 0 0 0 [some (.ref 0), some (.int a), some (.int b), some (.int c), some (.int d0), some (.int e), some (.ref 19), none] [] _ _ _ _
  refine g_aload_6 h dL_feed_0 ?_
  refine g_iconst h dL_feed_2 (v := nI 0) rfl ?_
  refine g_aload_0 h dL_feed_3 ?_
  refine g_iload_1 h dL_feed_4 ?_
  refine g_iload_2 h dL_feed_5 ?_
  refine g_iload_3 h dL_feed_6 ?_
  refine g_iload_4 h dL_feed_7 ?_
  refine g_iload_5 h dL_feed_9 ?_
  refine g_try (As := [.int a, .int b, .int c, .int d0, .int e]) h hx (by omega) mi_X10_feed dL_feed_11 ml_L_7 rfl rfl rfl (Nat.le_of_ble_eq_true rfl) rfl (Nat.le_of_ble_eq_true rfl) (spx_mono hc ?_ ?_)
  · rintro r I1 J1 P1 ⟨v, rfl, hq⟩
    show VG Γ 1 6 14 [some (.ref 0), some (.int a), some (.int b), some (.int c), some (.int d0), some (.int e), some (.ref 19), none] [.int v, .int (nI 0), .ref 19] _ _ _ _
    refine g_i2l h dL_feed_14 ?_
    refine g_last h 0 dL_feed_15 rfl rfl (by decide) ?_
    refine g_goto h 23 dL_feed_16 rfl ?_
    refine g_iconst h dL_feed_23 (v := nI 0) rfl ?_
    refine g_iretH h dL_feed_24 ?_
    exact hq
  · rintro E I1 J1 P1 ⟨rfl, hq⟩
    refine g_catch h hx (E := eISE) [] [] ⟨0, 16, 19, 13⟩ rfl (fun z hz => nomatch hz) rfl (by decide) cl_L_13 nxISE (i := 7) (ln := 2) (Or.inr ⟨rfl, dL_feed_19⟩) (by decide) (fun _ => rfl) ?_
    show VG Γ 1 6 21 [some (.ref 0), some (.int a), some (.int b), some (.int c), some (.int d0), some (.int e), some (.ref 19), none] [] _ _ _ _
    refine g_iconst h dL_feed_21 (v := nI 1) rfl ?_
    refine g_iretH h dL_feed_22 ?_
    exact hq
def hh_trim : List (Nat × Nat × Nat × Nat) := [(0, 9, 12, 19)]
theorem mh_trim : MIh yL_trim cL_trim 4 hh_trim 3 := ⟨bw_in (tb_4 (List.mem_of_getElem? (i := 139) rfl)) rfl, bw_in (tb_4 (List.mem_of_getElem? (i := 138) rfl)) rfl, ini_L, by decide +kernel, ⟨by decide +kernel, by decide +kernel, by decide +kernel⟩, by decide⟩
set_option maxRecDepth 100000 in
set_option maxHeartbeats 4000000 in
theorem sp_L_trim {d : Nat} {x : Int32} {I : MI} {J : MJ} {P : MP} {Q : Int32 → MI → MJ → MP → Prop} (hc : SpX yX10_trim cX10_trim 2 (some .int) (d + 8) [.ref 0, .int x] I J P (Qi (fun v I1 J1 P1 => Q (nI 0) I1 (up2 J1 19 0 v.toInt64) P1)) (fun E I1 J1 P1 => (E = eIAE ∧ Q (nI 1) I1 J1 P1))) : SpH yL_trim cL_trim 4 hh_trim (d + 9) [.ref 0, .int x, .ref 19] I J P (Qi Q) := by
  intro Γ h hx
  show VG Γ 0 0 0 [some (.ref 0), some (.int x), some (.ref 19), none] [] _ _ _ _
  refine g_aload_2 h dL_trim_0 ?_
  refine g_iconst h dL_trim_1 (v := nI 0) rfl ?_
  refine g_aload_0 h dL_trim_2 ?_
  refine g_iload_1 h dL_trim_3 ?_
  refine g_try (As := [.int x]) h hx (by omega) mi_X10_trim dL_trim_4 ml_L_15 rfl rfl rfl (Nat.le_of_ble_eq_true rfl) rfl (Nat.le_of_ble_eq_true rfl) (spx_mono hc ?_ ?_)
  · rintro r I1 J1 P1 ⟨v, rfl, hq⟩
    show VG Γ 1 6 7 [some (.ref 0), some (.int x), some (.ref 19), none] [.int v, .int (nI 0), .ref 19] _ _ _ _
    refine g_i2l h dL_trim_7 ?_
    refine g_last h 0 dL_trim_8 rfl rfl (by decide) ?_
    refine g_goto h 15 dL_trim_9 rfl ?_
    refine g_iconst h dL_trim_15 (v := nI 0) rfl ?_
    refine g_iretH h dL_trim_16 ?_
    exact hq
  · rintro E I1 J1 P1 ⟨rfl, hq⟩
    refine g_catch h hx (E := eIAE) [] [] ⟨0, 9, 12, 19⟩ rfl (fun z hz => nomatch hz) rfl (by decide) cl_L_19 nxIAE (i := 3) (ln := 1) (Or.inl ⟨3, rfl, rfl, dL_trim_12⟩) (by decide) (fun _ => rfl) ?_
    show VG Γ 1 6 13 [some (.ref 0), some (.int x), some (.ref 19), none] [] _ _ _ _
    refine g_iconst h dL_trim_13 (v := nI 1) rfl ?_
    refine g_iretH h dL_trim_14 ?_
    exact hq
def hh_count : List (Nat × Nat × Nat × Nat) := [(0, 9, 12, 24)]
theorem mh_count : MIh yL_count cL_count 4 hh_count 3 := ⟨bw_in (tb_4 (List.mem_of_getElem? (i := 163) rfl)) rfl, bw_in (tb_4 (List.mem_of_getElem? (i := 162) rfl)) rfl, ini_L, by decide +kernel, ⟨by decide +kernel, by decide +kernel, by decide +kernel⟩, by decide⟩
set_option maxRecDepth 100000 in
set_option maxHeartbeats 4000000 in
theorem sp_L_count {d : Nat} {x : Int32} {I : MI} {J : MJ} {P : MP} {Q : Int32 → MI → MJ → MP → Prop} (hc : SpX yX10_count cX10_count 2 (some .int) (d + 8) [.ref 0, .int x] I J P (Qi (fun v I1 J1 P1 => Q (nI 0) I1 (up2 J1 19 0 v.toInt64) P1)) (fun E I1 J1 P1 => (E = eIOB ∧ Q (nI 1) I1 J1 P1))) : SpH yL_count cL_count 4 hh_count (d + 9) [.ref 0, .int x, .ref 19] I J P (Qi Q) := by
  intro Γ h hx
  show VG Γ 0 0 0 [some (.ref 0), some (.int x), some (.ref 19), none] [] _ _ _ _
  refine g_aload_2 h dL_count_0 ?_
  refine g_iconst h dL_count_1 (v := nI 0) rfl ?_
  refine g_aload_0 h dL_count_2 ?_
  refine g_iload_1 h dL_count_3 ?_
  refine g_try (As := [.int x]) h hx (by omega) mi_X10_count dL_count_4 ml_L_21 rfl rfl rfl (Nat.le_of_ble_eq_true rfl) rfl (Nat.le_of_ble_eq_true rfl) (spx_mono hc ?_ ?_)
  · rintro r I1 J1 P1 ⟨v, rfl, hq⟩
    show VG Γ 1 6 7 [some (.ref 0), some (.int x), some (.ref 19), none] [.int v, .int (nI 0), .ref 19] _ _ _ _
    refine g_i2l h dL_count_7 ?_
    refine g_last h 0 dL_count_8 rfl rfl (by decide) ?_
    refine g_goto h 15 dL_count_9 rfl ?_
    refine g_iconst h dL_count_15 (v := nI 0) rfl ?_
    refine g_iretH h dL_count_16 ?_
    exact hq
  · rintro E I1 J1 P1 ⟨rfl, hq⟩
    refine g_catch h hx (E := eIOB) [] [] ⟨0, 9, 12, 24⟩ rfl (fun z hz => nomatch hz) rfl (by decide) cl_L_24 nxIOB (i := 3) (ln := 1) (Or.inl ⟨3, rfl, rfl, dL_count_12⟩) (by decide) (fun _ => rfl) ?_
    show VG Γ 1 6 13 [some (.ref 0), some (.int x), some (.ref 19), none] [] _ _ _ _
    refine g_iconst h dL_count_13 (v := nI 1) rfl ?_
    refine g_iretH h dL_count_14 ?_
    exact hq
def hh_colour : List (Nat × Nat × Nat × Nat) := [(0, 10, 13, 24)]
theorem mh_colour : MIh yL_colour cL_colour 5 hh_colour 4 := ⟨bw_in (tb_4 (List.mem_of_getElem? (i := 187) rfl)) rfl, bw_in (tb_4 (List.mem_of_getElem? (i := 186) rfl)) rfl, ini_L, by decide +kernel, ⟨by decide +kernel, by decide +kernel, by decide +kernel⟩, by decide⟩
set_option maxRecDepth 100000 in
set_option maxHeartbeats 4000000 in
theorem sp_L_colour {d : Nat} {x y : Int32} {I : MI} {J : MJ} {P : MP} {Q : Int32 → MI → MJ → MP → Prop} (hc : SpX yX10_colour cX10_colour 3 (some .int) (d + 8) [.ref 0, .int x, .int y] I J P (Qi (fun v I1 J1 P1 => Q (nI 0) I1 (up2 J1 19 0 v.toInt64) P1)) (fun E I1 J1 P1 => (E = eIOB ∧ Q (nI 1) I1 J1 P1))) : SpH yL_colour cL_colour 5 hh_colour (d + 9) [.ref 0, .int x, .int y, .ref 19] I J P (Qi Q) := by
  intro Γ h hx
  show VG Γ 0 0 0 [some (.ref 0), some (.int x), some (.int y), some (.ref 19), none] [] _ _ _ _
  refine g_aload_3 h dL_colour_0 ?_
  refine g_iconst h dL_colour_1 (v := nI 0) rfl ?_
  refine g_aload_0 h dL_colour_2 ?_
  refine g_iload_1 h dL_colour_3 ?_
  refine g_iload_2 h dL_colour_4 ?_
  refine g_try (As := [.int x, .int y]) h hx (by omega) mi_X10_colour dL_colour_5 ml_L_26 rfl rfl rfl (Nat.le_of_ble_eq_true rfl) rfl (Nat.le_of_ble_eq_true rfl) (spx_mono hc ?_ ?_)
  · rintro r I1 J1 P1 ⟨v, rfl, hq⟩
    show VG Γ 1 6 8 [some (.ref 0), some (.int x), some (.int y), some (.ref 19), none] [.int v, .int (nI 0), .ref 19] _ _ _ _
    refine g_i2l h dL_colour_8 ?_
    refine g_last h 0 dL_colour_9 rfl rfl (by decide) ?_
    refine g_goto h 17 dL_colour_10 rfl ?_
    refine g_iconst h dL_colour_17 (v := nI 0) rfl ?_
    refine g_iretH h dL_colour_18 ?_
    exact hq
  · rintro E I1 J1 P1 ⟨rfl, hq⟩
    refine g_catch h hx (E := eIOB) [] [] ⟨0, 10, 13, 24⟩ rfl (fun z hz => nomatch hz) rfl (by decide) cl_L_24 nxIOB (i := 4) (ln := 2) (Or.inr ⟨rfl, dL_colour_13⟩) (by decide) (fun _ => rfl) ?_
    show VG Γ 1 6 15 [some (.ref 0), some (.int x), some (.int y), some (.ref 19), none] [] _ _ _ _
    refine g_iconst h dL_colour_15 (v := nI 1) rfl ?_
    refine g_iretH h dL_colour_16 ?_
    exact hq
def hh_cord : List (Nat × Nat × Nat × Nat) := [(0, 10, 13, 24)]
theorem mh_cord : MIh yL_cord cL_cord 5 hh_cord 4 := ⟨bw_in (tb_4 (List.mem_of_getElem? (i := 196) rfl)) rfl, bw_in (tb_4 (List.mem_of_getElem? (i := 195) rfl)) rfl, ini_L, by decide +kernel, ⟨by decide +kernel, by decide +kernel, by decide +kernel⟩, by decide⟩
set_option maxRecDepth 100000 in
set_option maxHeartbeats 4000000 in
theorem sp_L_cord {d : Nat} {x y : Int32} {I : MI} {J : MJ} {P : MP} {Q : Int32 → MI → MJ → MP → Prop} (hc : SpX yX10_cord cX10_cord 3 (some .int) (d + 8) [.ref 0, .int x, .int y] I J P (Qi (fun v I1 J1 P1 => Q (nI 0) I1 (up2 J1 19 0 v.toInt64) P1)) (fun E I1 J1 P1 => (E = eIOB ∧ Q (nI 1) I1 J1 P1))) : SpH yL_cord cL_cord 5 hh_cord (d + 9) [.ref 0, .int x, .int y, .ref 19] I J P (Qi Q) := by
  intro Γ h hx
  show VG Γ 0 0 0 [some (.ref 0), some (.int x), some (.int y), some (.ref 19), none] [] _ _ _ _
  refine g_aload_3 h dL_cord_0 ?_
  refine g_iconst h dL_cord_1 (v := nI 0) rfl ?_
  refine g_aload_0 h dL_cord_2 ?_
  refine g_iload_1 h dL_cord_3 ?_
  refine g_iload_2 h dL_cord_4 ?_
  refine g_try (As := [.int x, .int y]) h hx (by omega) mi_X10_cord dL_cord_5 ml_L_30 rfl rfl rfl (Nat.le_of_ble_eq_true rfl) rfl (Nat.le_of_ble_eq_true rfl) (spx_mono hc ?_ ?_)
  · rintro r I1 J1 P1 ⟨v, rfl, hq⟩
    show VG Γ 1 6 8 [some (.ref 0), some (.int x), some (.int y), some (.ref 19), none] [.int v, .int (nI 0), .ref 19] _ _ _ _
    refine g_i2l h dL_cord_8 ?_
    refine g_last h 0 dL_cord_9 rfl rfl (by decide) ?_
    refine g_goto h 17 dL_cord_10 rfl ?_
    refine g_iconst h dL_cord_17 (v := nI 0) rfl ?_
    refine g_iretH h dL_cord_18 ?_
    exact hq
  · rintro E I1 J1 P1 ⟨rfl, hq⟩
    refine g_catch h hx (E := eIOB) [] [] ⟨0, 10, 13, 24⟩ rfl (fun z hz => nomatch hz) rfl (by decide) cl_L_24 nxIOB (i := 4) (ln := 2) (Or.inr ⟨rfl, dL_cord_13⟩) (by decide) (fun _ => rfl) ?_
    show VG Γ 1 6 15 [some (.ref 0), some (.int x), some (.int y), some (.ref 19), none] [] _ _ _ _
    refine g_iconst h dL_cord_15 (v := nI 1) rfl ?_
    refine g_iretH h dL_cord_16 ?_
    exact hq
def hh_digit : List (Nat × Nat × Nat × Nat) := [(0, 10, 13, 24)]
theorem mh_digit : MIh yL_digit cL_digit 5 hh_digit 4 := ⟨bw_in (tb_4 (List.mem_of_getElem? (i := 205) rfl)) rfl, bw_in (tb_4 (List.mem_of_getElem? (i := 204) rfl)) rfl, ini_L, by decide +kernel, ⟨by decide +kernel, by decide +kernel, by decide +kernel⟩, by decide⟩
set_option maxRecDepth 100000 in
set_option maxHeartbeats 4000000 in
theorem sp_L_digit {d : Nat} {x y : Int32} {I : MI} {J : MJ} {P : MP} {Q : Int32 → MI → MJ → MP → Prop} (hc : SpX yX10_digit cX10_digit 3 (some .int) (d + 8) [.ref 0, .int x, .int y] I J P (Qi (fun v I1 J1 P1 => Q (nI 0) I1 (up2 J1 19 0 v.toInt64) P1)) (fun E I1 J1 P1 => (E = eIOB ∧ Q (nI 1) I1 J1 P1))) : SpH yL_digit cL_digit 5 hh_digit (d + 9) [.ref 0, .int x, .int y, .ref 19] I J P (Qi Q) := by
  intro Γ h hx
  show VG Γ 0 0 0 [some (.ref 0), some (.int x), some (.int y), some (.ref 19), none] [] _ _ _ _
  refine g_aload_3 h dL_digit_0 ?_
  refine g_iconst h dL_digit_1 (v := nI 0) rfl ?_
  refine g_aload_0 h dL_digit_2 ?_
  refine g_iload_1 h dL_digit_3 ?_
  refine g_iload_2 h dL_digit_4 ?_
  refine g_try (As := [.int x, .int y]) h hx (by omega) mi_X10_digit dL_digit_5 ml_L_33 rfl rfl rfl (Nat.le_of_ble_eq_true rfl) rfl (Nat.le_of_ble_eq_true rfl) (spx_mono hc ?_ ?_)
  · rintro r I1 J1 P1 ⟨v, rfl, hq⟩
    show VG Γ 1 6 8 [some (.ref 0), some (.int x), some (.int y), some (.ref 19), none] [.int v, .int (nI 0), .ref 19] _ _ _ _
    refine g_i2l h dL_digit_8 ?_
    refine g_last h 0 dL_digit_9 rfl rfl (by decide) ?_
    refine g_goto h 17 dL_digit_10 rfl ?_
    refine g_iconst h dL_digit_17 (v := nI 0) rfl ?_
    refine g_iretH h dL_digit_18 ?_
    exact hq
  · rintro E I1 J1 P1 ⟨rfl, hq⟩
    refine g_catch h hx (E := eIOB) [] [] ⟨0, 10, 13, 24⟩ rfl (fun z hz => nomatch hz) rfl (by decide) cl_L_24 nxIOB (i := 4) (ln := 2) (Or.inr ⟨rfl, dL_digit_13⟩) (by decide) (fun _ => rfl) ?_
    show VG Γ 1 6 15 [some (.ref 0), some (.int x), some (.int y), some (.ref 19), none] [] _ _ _ _
    refine g_iconst h dL_digit_15 (v := nI 1) rfl ?_
    refine g_iretH h dL_digit_16 ?_
    exact hq
def hh_top : List (Nat × Nat × Nat × Nat) := [(0, 10, 13, 24)]
theorem mh_top : MIh yL_top cL_top 5 hh_top 4 := ⟨bw_in (tb_4 (List.mem_of_getElem? (i := 216) rfl)) rfl, bw_in (tb_4 (List.mem_of_getElem? (i := 215) rfl)) rfl, ini_L, by decide +kernel, ⟨by decide +kernel, by decide +kernel, by decide +kernel⟩, by decide⟩
set_option maxRecDepth 100000 in
set_option maxHeartbeats 4000000 in
theorem sp_L_top {d : Nat} {x y : Int32} {I : MI} {J : MJ} {P : MP} {Q : Int32 → MI → MJ → MP → Prop} (hc : SpX yX10_top cX10_top 3 (some .int) (d + 8) [.ref 0, .int x, .int y] I J P (Qi (fun v I1 J1 P1 => Q (nI 0) I1 (up2 J1 19 0 v.toInt64) P1)) (fun E I1 J1 P1 => (E = eIOB ∧ Q (nI 1) I1 J1 P1))) : SpH yL_top cL_top 5 hh_top (d + 9) [.ref 0, .int x, .int y, .ref 19] I J P (Qi Q) := by
  intro Γ h hx
  show VG Γ 0 0 0 [some (.ref 0), some (.int x), some (.int y), some (.ref 19), none] [] _ _ _ _
  refine g_aload_3 h dL_top_0 ?_
  refine g_iconst h dL_top_1 (v := nI 0) rfl ?_
  refine g_aload_0 h dL_top_2 ?_
  refine g_iload_1 h dL_top_3 ?_
  refine g_iload_2 h dL_top_4 ?_
  refine g_try (As := [.int x, .int y]) h hx (by omega) mi_X10_top dL_top_5 ml_L_36 rfl rfl rfl (Nat.le_of_ble_eq_true rfl) rfl (Nat.le_of_ble_eq_true rfl) (spx_mono hc ?_ ?_)
  · rintro r I1 J1 P1 ⟨v, rfl, hq⟩
    show VG Γ 1 6 8 [some (.ref 0), some (.int x), some (.int y), some (.ref 19), none] [.int v, .int (nI 0), .ref 19] _ _ _ _
    refine g_i2l h dL_top_8 ?_
    refine g_last h 0 dL_top_9 rfl rfl (by decide) ?_
    refine g_goto h 17 dL_top_10 rfl ?_
    refine g_iconst h dL_top_17 (v := nI 0) rfl ?_
    refine g_iretH h dL_top_18 ?_
    exact hq
  · rintro E I1 J1 P1 ⟨rfl, hq⟩
    refine g_catch h hx (E := eIOB) [] [] ⟨0, 10, 13, 24⟩ rfl (fun z hz => nomatch hz) rfl (by decide) cl_L_24 nxIOB (i := 4) (ln := 2) (Or.inr ⟨rfl, dL_top_13⟩) (by decide) (fun _ => rfl) ?_
    show VG Γ 1 6 15 [some (.ref 0), some (.int x), some (.int y), some (.ref 19), none] [] _ _ _ _
    refine g_iconst h dL_top_15 (v := nI 1) rfl ?_
    refine g_iretH h dL_top_16 ?_
    exact hq
def hh_keeper : List (Nat × Nat × Nat × Nat) := [(0, 10, 13, 24)]
theorem mh_keeper : MIh yL_keeper cL_keeper 5 hh_keeper 4 := ⟨bw_in (tb_4 (List.mem_of_getElem? (i := 228) rfl)) rfl, bw_in (tb_4 (List.mem_of_getElem? (i := 227) rfl)) rfl, ini_L, by decide +kernel, ⟨by decide +kernel, by decide +kernel, by decide +kernel⟩, by decide⟩
set_option maxRecDepth 100000 in
set_option maxHeartbeats 4000000 in
theorem sp_L_keeper {d : Nat} {x y : Int32} {I : MI} {J : MJ} {P : MP} {Q : Int32 → MI → MJ → MP → Prop} (hc : SpX yX10_keeper cX10_keeper 3 (some .int) (d + 8) [.ref 0, .int x, .int y] I J P (Qi (fun v I1 J1 P1 => Q (nI 0) I1 (up2 J1 19 0 v.toInt64) P1)) (fun E I1 J1 P1 => (E = eIOB ∧ Q (nI 1) I1 J1 P1))) : SpH yL_keeper cL_keeper 5 hh_keeper (d + 9) [.ref 0, .int x, .int y, .ref 19] I J P (Qi Q) := by
  intro Γ h hx
  show VG Γ 0 0 0 [some (.ref 0), some (.int x), some (.int y), some (.ref 19), none] [] _ _ _ _
  refine g_aload_3 h dL_keeper_0 ?_
  refine g_iconst h dL_keeper_1 (v := nI 0) rfl ?_
  refine g_aload_0 h dL_keeper_2 ?_
  refine g_iload_1 h dL_keeper_3 ?_
  refine g_iload_2 h dL_keeper_4 ?_
  refine g_try (As := [.int x, .int y]) h hx (by omega) mi_X10_keeper dL_keeper_5 ml_L_39 rfl rfl rfl (Nat.le_of_ble_eq_true rfl) rfl (Nat.le_of_ble_eq_true rfl) (spx_mono hc ?_ ?_)
  · rintro r I1 J1 P1 ⟨v, rfl, hq⟩
    show VG Γ 1 6 8 [some (.ref 0), some (.int x), some (.int y), some (.ref 19), none] [.int v, .int (nI 0), .ref 19] _ _ _ _
    refine g_i2l h dL_keeper_8 ?_
    refine g_last h 0 dL_keeper_9 rfl rfl (by decide) ?_
    refine g_goto h 17 dL_keeper_10 rfl ?_
    refine g_iconst h dL_keeper_17 (v := nI 0) rfl ?_
    refine g_iretH h dL_keeper_18 ?_
    exact hq
  · rintro E I1 J1 P1 ⟨rfl, hq⟩
    refine g_catch h hx (E := eIOB) [] [] ⟨0, 10, 13, 24⟩ rfl (fun z hz => nomatch hz) rfl (by decide) cl_L_24 nxIOB (i := 4) (ln := 2) (Or.inr ⟨rfl, dL_keeper_13⟩) (by decide) (fun _ => rfl) ?_
    show VG Γ 1 6 15 [some (.ref 0), some (.int x), some (.int y), some (.ref 19), none] [] _ _ _ _
    refine g_iconst h dL_keeper_15 (v := nI 1) rfl ?_
    refine g_iretH h dL_keeper_16 ?_
    exact hq
def hh_apart : List (Nat × Nat × Nat × Nat) := [(0, 10, 13, 24)]
theorem mh_apart : MIh yL_apart cL_apart 5 hh_apart 4 := ⟨bw_in (tb_5 (List.mem_of_getElem? (i := 0) rfl)) rfl, bw_in (tb_4 (List.mem_of_getElem? (i := 239) rfl)) rfl, ini_L, by decide +kernel, ⟨by decide +kernel, by decide +kernel, by decide +kernel⟩, by decide⟩
set_option maxRecDepth 100000 in
set_option maxHeartbeats 4000000 in
theorem sp_L_apart {d : Nat} {x y : Int32} {I : MI} {J : MJ} {P : MP} {Q : Int32 → MI → MJ → MP → Prop} (hc : SpX yX10_apart cX10_apart 3 (some .int) (d + 8) [.ref 0, .int x, .int y] I J P (Qi (fun v I1 J1 P1 => Q (nI 0) I1 (up2 J1 19 0 v.toInt64) P1)) (fun E I1 J1 P1 => (E = eIOB ∧ Q (nI 1) I1 J1 P1))) : SpH yL_apart cL_apart 5 hh_apart (d + 9) [.ref 0, .int x, .int y, .ref 19] I J P (Qi Q) := by
  intro Γ h hx
  show VG Γ 0 0 0 [some (.ref 0), some (.int x), some (.int y), some (.ref 19), none] [] _ _ _ _
  refine g_aload_3 h dL_apart_0 ?_
  refine g_iconst h dL_apart_1 (v := nI 0) rfl ?_
  refine g_aload_0 h dL_apart_2 ?_
  refine g_iload_1 h dL_apart_3 ?_
  refine g_iload_2 h dL_apart_4 ?_
  refine g_try (As := [.int x, .int y]) h hx (by omega) mi_X10_apart dL_apart_5 ml_L_42 rfl rfl rfl (Nat.le_of_ble_eq_true rfl) rfl (Nat.le_of_ble_eq_true rfl) (spx_mono hc ?_ ?_)
  · rintro r I1 J1 P1 ⟨v, rfl, hq⟩
    show VG Γ 1 6 8 [some (.ref 0), some (.int x), some (.int y), some (.ref 19), none] [.int v, .int (nI 0), .ref 19] _ _ _ _
    refine g_i2l h dL_apart_8 ?_
    refine g_last h 0 dL_apart_9 rfl rfl (by decide) ?_
    refine g_goto h 17 dL_apart_10 rfl ?_
    refine g_iconst h dL_apart_17 (v := nI 0) rfl ?_
    refine g_iretH h dL_apart_18 ?_
    exact hq
  · rintro E I1 J1 P1 ⟨rfl, hq⟩
    refine g_catch h hx (E := eIOB) [] [] ⟨0, 10, 13, 24⟩ rfl (fun z hz => nomatch hz) rfl (by decide) cl_L_24 nxIOB (i := 4) (ln := 2) (Or.inr ⟨rfl, dL_apart_13⟩) (by decide) (fun _ => rfl) ?_
    show VG Γ 1 6 15 [some (.ref 0), some (.int x), some (.int y), some (.ref 19), none] [] _ _ _ _
    refine g_iconst h dL_apart_15 (v := nI 1) rfl ?_
    refine g_iretH h dL_apart_16 ?_
    exact hq
def hh_order : List (Nat × Nat × Nat × Nat) := [(0, 9, 12, 24)]
theorem mh_order : MIh yL_order cL_order 4 hh_order 3 := ⟨bw_in (tb_5 (List.mem_of_getElem? (i := 16) rfl)) rfl, bw_in (tb_5 (List.mem_of_getElem? (i := 15) rfl)) rfl, ini_L, by decide +kernel, ⟨by decide +kernel, by decide +kernel, by decide +kernel⟩, by decide⟩
set_option maxRecDepth 100000 in
set_option maxHeartbeats 4000000 in
theorem sp_L_order {d : Nat} {x : Int32} {I : MI} {J : MJ} {P : MP} {Q : Int32 → MI → MJ → MP → Prop} (hc : SpX yX10_order cX10_order 2 (some .int) (d + 8) [.ref 0, .int x] I J P (Qi (fun v I1 J1 P1 => Q (nI 0) I1 (up2 J1 19 0 v.toInt64) P1)) (fun E I1 J1 P1 => (E = eIOB ∧ Q (nI 1) I1 J1 P1))) : SpH yL_order cL_order 4 hh_order (d + 9) [.ref 0, .int x, .ref 19] I J P (Qi Q) := by
  intro Γ h hx
  show VG Γ 0 0 0 [some (.ref 0), some (.int x), some (.ref 19), none] [] _ _ _ _
  refine g_aload_2 h dL_order_0 ?_
  refine g_iconst h dL_order_1 (v := nI 0) rfl ?_
  refine g_aload_0 h dL_order_2 ?_
  refine g_iload_1 h dL_order_3 ?_
  refine g_try (As := [.int x]) h hx (by omega) mi_X10_order dL_order_4 ml_L_45 rfl rfl rfl (Nat.le_of_ble_eq_true rfl) rfl (Nat.le_of_ble_eq_true rfl) (spx_mono hc ?_ ?_)
  · rintro r I1 J1 P1 ⟨v, rfl, hq⟩
    show VG Γ 1 6 7 [some (.ref 0), some (.int x), some (.ref 19), none] [.int v, .int (nI 0), .ref 19] _ _ _ _
    refine g_i2l h dL_order_7 ?_
    refine g_last h 0 dL_order_8 rfl rfl (by decide) ?_
    refine g_goto h 15 dL_order_9 rfl ?_
    refine g_iconst h dL_order_15 (v := nI 0) rfl ?_
    refine g_iretH h dL_order_16 ?_
    exact hq
  · rintro E I1 J1 P1 ⟨rfl, hq⟩
    refine g_catch h hx (E := eIOB) [] [] ⟨0, 9, 12, 24⟩ rfl (fun z hz => nomatch hz) rfl (by decide) cl_L_24 nxIOB (i := 3) (ln := 1) (Or.inl ⟨3, rfl, rfl, dL_order_12⟩) (by decide) (fun _ => rfl) ?_
    show VG Γ 1 6 13 [some (.ref 0), some (.int x), some (.ref 19), none] [] _ _ _ _
    refine g_iconst h dL_order_13 (v := nI 1) rfl ?_
    refine g_iretH h dL_order_14 ?_
    exact hq
def hh_set : List (Nat × Nat × Nat × Nat) := [(0, 10, 13, 24), (0, 10, 17, 19)]
theorem mh_set : MIh yL_set cL_set 5 hh_set 4 := ⟨bw_in (tb_5 (List.mem_of_getElem? (i := 32) rfl)) rfl, bw_in (tb_5 (List.mem_of_getElem? (i := 31) rfl)) rfl, ini_L, by decide +kernel, ⟨by decide +kernel, by decide +kernel, by decide +kernel⟩, by decide⟩
set_option maxRecDepth 100000 in
set_option maxHeartbeats 4000000 in
theorem sp_L_set {d : Nat} {x y : Int32} {I : MI} {J : MJ} {P : MP} {Q : Int32 → MI → MJ → MP → Prop} (hc : SpX yX10_set cX10_set 4 (some .int) (d + 8) [.ref 0, .int x, .int y] I J P (Qi (fun v I1 J1 P1 => Q (nI 0) I1 (up2 J1 19 0 v.toInt64) P1)) (fun E I1 J1 P1 => (E = eIOB ∧ Q (nI 1) I1 J1 P1) ∨ (E = eIAE ∧ Q (nI 2) I1 J1 P1))) : SpH yL_set cL_set 5 hh_set (d + 9) [.ref 0, .int x, .int y, .ref 19] I J P (Qi Q) := by
  intro Γ h hx
  show VG Γ 0 0 0 [some (.ref 0), some (.int x), some (.int y), some (.ref 19), none] [] _ _ _ _
  refine g_aload_3 h dL_set_0 ?_
  refine g_iconst h dL_set_1 (v := nI 0) rfl ?_
  refine g_aload_0 h dL_set_2 ?_
  refine g_iload_1 h dL_set_3 ?_
  refine g_iload_2 h dL_set_4 ?_
  refine g_try (As := [.int x, .int y]) h hx (by omega) mi_X10_set dL_set_5 ml_L_48 rfl rfl rfl (Nat.le_of_ble_eq_true rfl) rfl (Nat.le_of_ble_eq_true rfl) (spx_mono hc ?_ ?_)
  · rintro r I1 J1 P1 ⟨v, rfl, hq⟩
    show VG Γ 1 6 8 [some (.ref 0), some (.int x), some (.int y), some (.ref 19), none] [.int v, .int (nI 0), .ref 19] _ _ _ _
    refine g_i2l h dL_set_8 ?_
    refine g_last h 0 dL_set_9 rfl rfl (by decide) ?_
    refine g_goto h 21 dL_set_10 rfl ?_
    refine g_iconst h dL_set_21 (v := nI 0) rfl ?_
    refine g_iretH h dL_set_22 ?_
    exact hq
  · rintro E I1 J1 P1 (⟨rfl, hq⟩ | ⟨rfl, hq⟩)
    · refine g_catch h hx (E := eIOB) [] [⟨0, 10, 17, 19⟩] ⟨0, 10, 13, 24⟩ rfl (fun z hz => nomatch hz) rfl (by decide) cl_L_24 nxIOB (i := 4) (ln := 2) (Or.inr ⟨rfl, dL_set_13⟩) (by decide) (fun _ => rfl) ?_
      show VG Γ 1 6 15 [some (.ref 0), some (.int x), some (.int y), some (.ref 19), none] [] _ _ _ _
      refine g_iconst h dL_set_15 (v := nI 1) rfl ?_
      refine g_iretH h dL_set_16 ?_
      exact hq
    · refine g_catch h hx (E := eIAE) [⟨0, 10, 13, 24⟩] [] ⟨0, 10, 17, 19⟩ rfl (fun z hz => by obtain rfl := List.mem_singleton.mp hz; exact ⟨by decide, _, cl_L_24, (fun s hn => hn.2.1)⟩) rfl (by decide) cl_L_19 nxIAE (i := 4) (ln := 2) (Or.inr ⟨rfl, dL_set_17⟩) (by decide) (fun _ => rfl) ?_
      show VG Γ 1 6 19 [some (.ref 0), some (.int x), some (.int y), some (.ref 19), none] [] _ _ _ _
      refine g_iconst h dL_set_19 (v := nI 2) rfl ?_
      refine g_iretH h dL_set_20 ?_
      exact hq
def hh_rest : List (Nat × Nat × Nat × Nat) := [(0, 9, 12, 24)]
theorem mh_rest : MIh yL_rest cL_rest 4 hh_rest 3 := ⟨bw_in (tb_5 (List.mem_of_getElem? (i := 41) rfl)) rfl, bw_in (tb_5 (List.mem_of_getElem? (i := 40) rfl)) rfl, ini_L, by decide +kernel, ⟨by decide +kernel, by decide +kernel, by decide +kernel⟩, by decide⟩
set_option maxRecDepth 100000 in
set_option maxHeartbeats 4000000 in
theorem sp_L_rest {d : Nat} {x : Int32} {I : MI} {J : MJ} {P : MP} {Q : Int32 → MI → MJ → MP → Prop} (hc : SpX yX10_rest cX10_rest 3 (some .int) (d + 8) [.ref 0, .int x] I J P (Qi (fun v I1 J1 P1 => Q (nI 0) I1 (up2 J1 19 0 v.toInt64) P1)) (fun E I1 J1 P1 => (E = eIOB ∧ Q (nI 1) I1 J1 P1))) : SpH yL_rest cL_rest 4 hh_rest (d + 9) [.ref 0, .int x, .ref 19] I J P (Qi Q) := by
  intro Γ h hx
  show VG Γ 0 0 0 [some (.ref 0), some (.int x), some (.ref 19), none] [] _ _ _ _
  refine g_aload_2 h dL_rest_0 ?_
  refine g_iconst h dL_rest_1 (v := nI 0) rfl ?_
  refine g_aload_0 h dL_rest_2 ?_
  refine g_iload_1 h dL_rest_3 ?_
  refine g_try (As := [.int x]) h hx (by omega) mi_X10_rest dL_rest_4 ml_L_51 rfl rfl rfl (Nat.le_of_ble_eq_true rfl) rfl (Nat.le_of_ble_eq_true rfl) (spx_mono hc ?_ ?_)
  · rintro r I1 J1 P1 ⟨v, rfl, hq⟩
    show VG Γ 1 6 7 [some (.ref 0), some (.int x), some (.ref 19), none] [.int v, .int (nI 0), .ref 19] _ _ _ _
    refine g_i2l h dL_rest_7 ?_
    refine g_last h 0 dL_rest_8 rfl rfl (by decide) ?_
    refine g_goto h 15 dL_rest_9 rfl ?_
    refine g_iconst h dL_rest_15 (v := nI 0) rfl ?_
    refine g_iretH h dL_rest_16 ?_
    exact hq
  · rintro E I1 J1 P1 ⟨rfl, hq⟩
    refine g_catch h hx (E := eIOB) [] [] ⟨0, 9, 12, 24⟩ rfl (fun z hz => nomatch hz) rfl (by decide) cl_L_24 nxIOB (i := 3) (ln := 1) (Or.inl ⟨3, rfl, rfl, dL_rest_12⟩) (by decide) (fun _ => rfl) ?_
    show VG Γ 1 6 13 [some (.ref 0), some (.int x), some (.ref 19), none] [] _ _ _ _
    refine g_iconst h dL_rest_13 (v := nI 1) rfl ?_
    refine g_iretH h dL_rest_14 ?_
    exact hq
def hh_dye : List (Nat × Nat × Nat × Nat) := [(0, 10, 13, 24)]
theorem mh_dye : MIh yL_dye cL_dye 5 hh_dye 4 := ⟨bw_in (tb_5 (List.mem_of_getElem? (i := 49) rfl)) rfl, bw_in (tb_5 (List.mem_of_getElem? (i := 48) rfl)) rfl, ini_L, by decide +kernel, ⟨by decide +kernel, by decide +kernel, by decide +kernel⟩, by decide⟩
set_option maxRecDepth 100000 in
set_option maxHeartbeats 4000000 in
theorem sp_L_dye {d : Nat} {x y : Int32} {I : MI} {J : MJ} {P : MP} {Q : Int32 → MI → MJ → MP → Prop} (hc : SpX yX10_dye cX10_dye 4 (some .int) (d + 8) [.ref 0, .int x, .int y] I J P (Qi (fun v I1 J1 P1 => Q (nI 0) I1 (up2 J1 19 0 v.toInt64) P1)) (fun E I1 J1 P1 => (E = eIOB ∧ Q (nI 1) I1 J1 P1))) : SpH yL_dye cL_dye 5 hh_dye (d + 9) [.ref 0, .int x, .int y, .ref 19] I J P (Qi Q) := by
  intro Γ h hx
  show VG Γ 0 0 0 [some (.ref 0), some (.int x), some (.int y), some (.ref 19), none] [] _ _ _ _
  refine g_aload_3 h dL_dye_0 ?_
  refine g_iconst h dL_dye_1 (v := nI 0) rfl ?_
  refine g_aload_0 h dL_dye_2 ?_
  refine g_iload_1 h dL_dye_3 ?_
  refine g_iload_2 h dL_dye_4 ?_
  refine g_try (As := [.int x, .int y]) h hx (by omega) mi_X10_dye dL_dye_5 ml_L_54 rfl rfl rfl (Nat.le_of_ble_eq_true rfl) rfl (Nat.le_of_ble_eq_true rfl) (spx_mono hc ?_ ?_)
  · rintro r I1 J1 P1 ⟨v, rfl, hq⟩
    show VG Γ 1 6 8 [some (.ref 0), some (.int x), some (.int y), some (.ref 19), none] [.int v, .int (nI 0), .ref 19] _ _ _ _
    refine g_i2l h dL_dye_8 ?_
    refine g_last h 0 dL_dye_9 rfl rfl (by decide) ?_
    refine g_goto h 17 dL_dye_10 rfl ?_
    refine g_iconst h dL_dye_17 (v := nI 0) rfl ?_
    refine g_iretH h dL_dye_18 ?_
    exact hq
  · rintro E I1 J1 P1 ⟨rfl, hq⟩
    refine g_catch h hx (E := eIOB) [] [] ⟨0, 10, 13, 24⟩ rfl (fun z hz => nomatch hz) rfl (by decide) cl_L_24 nxIOB (i := 4) (ln := 2) (Or.inr ⟨rfl, dL_dye_13⟩) (by decide) (fun _ => rfl) ?_
    show VG Γ 1 6 15 [some (.ref 0), some (.int x), some (.int y), some (.ref 19), none] [] _ _ _ _
    refine g_iconst h dL_dye_15 (v := nI 1) rfl ?_
    refine g_iretH h dL_dye_16 ?_
    exact hq
def hh_hang : List (Nat × Nat × Nat × Nat) := [(0, 10, 13, 24), (0, 10, 17, 13)]
theorem mh_hang : MIh yL_hang cL_hang 5 hh_hang 4 := ⟨bw_in (tb_5 (List.mem_of_getElem? (i := 57) rfl)) rfl, bw_in (tb_5 (List.mem_of_getElem? (i := 56) rfl)) rfl, ini_L, by decide +kernel, ⟨by decide +kernel, by decide +kernel, by decide +kernel⟩, by decide⟩
set_option maxRecDepth 100000 in
set_option maxHeartbeats 4000000 in
theorem sp_L_hang {d : Nat} {x y : Int32} {I : MI} {J : MJ} {P : MP} {Q : Int32 → MI → MJ → MP → Prop} (hc : SpX yX10_hang cX10_hang 3 (some .int) (d + 8) [.ref 0, .int x, .int y] I J P (Qi (fun v I1 J1 P1 => Q (nI 0) I1 (up2 J1 19 0 v.toInt64) P1)) (fun E I1 J1 P1 => (E = eIOB ∧ Q (nI 1) I1 J1 P1) ∨ (E = eISE ∧ Q (nI 2) I1 J1 P1))) : SpH yL_hang cL_hang 5 hh_hang (d + 9) [.ref 0, .int x, .int y, .ref 19] I J P (Qi Q) := by
  intro Γ h hx
  show VG Γ 0 0 0 [some (.ref 0), some (.int x), some (.int y), some (.ref 19), none] [] _ _ _ _
  refine g_aload_3 h dL_hang_0 ?_
  refine g_iconst h dL_hang_1 (v := nI 0) rfl ?_
  refine g_aload_0 h dL_hang_2 ?_
  refine g_iload_1 h dL_hang_3 ?_
  refine g_iload_2 h dL_hang_4 ?_
  refine g_try (As := [.int x, .int y]) h hx (by omega) mi_X10_hang dL_hang_5 ml_L_57 rfl rfl rfl (Nat.le_of_ble_eq_true rfl) rfl (Nat.le_of_ble_eq_true rfl) (spx_mono hc ?_ ?_)
  · rintro r I1 J1 P1 ⟨v, rfl, hq⟩
    show VG Γ 1 6 8 [some (.ref 0), some (.int x), some (.int y), some (.ref 19), none] [.int v, .int (nI 0), .ref 19] _ _ _ _
    refine g_i2l h dL_hang_8 ?_
    refine g_last h 0 dL_hang_9 rfl rfl (by decide) ?_
    refine g_goto h 21 dL_hang_10 rfl ?_
    refine g_iconst h dL_hang_21 (v := nI 0) rfl ?_
    refine g_iretH h dL_hang_22 ?_
    exact hq
  · rintro E I1 J1 P1 (⟨rfl, hq⟩ | ⟨rfl, hq⟩)
    · refine g_catch h hx (E := eIOB) [] [⟨0, 10, 17, 13⟩] ⟨0, 10, 13, 24⟩ rfl (fun z hz => nomatch hz) rfl (by decide) cl_L_24 nxIOB (i := 4) (ln := 2) (Or.inr ⟨rfl, dL_hang_13⟩) (by decide) (fun _ => rfl) ?_
      show VG Γ 1 6 15 [some (.ref 0), some (.int x), some (.int y), some (.ref 19), none] [] _ _ _ _
      refine g_iconst h dL_hang_15 (v := nI 1) rfl ?_
      refine g_iretH h dL_hang_16 ?_
      exact hq
    · refine g_catch h hx (E := eISE) [⟨0, 10, 13, 24⟩] [] ⟨0, 10, 17, 13⟩ rfl (fun z hz => by obtain rfl := List.mem_singleton.mp hz; exact ⟨by decide, _, cl_L_24, (fun s hn => hn.2.2.1)⟩) rfl (by decide) cl_L_13 nxISE (i := 4) (ln := 2) (Or.inr ⟨rfl, dL_hang_17⟩) (by decide) (fun _ => rfl) ?_
      show VG Γ 1 6 19 [some (.ref 0), some (.int x), some (.int y), some (.ref 19), none] [] _ _ _ _
      refine g_iconst h dL_hang_19 (v := nI 2) rfl ?_
      refine g_iretH h dL_hang_20 ?_
      exact hq
def hh_pass : List (Nat × Nat × Nat × Nat) := [(0, 9, 12, 19)]
theorem mh_pass : MIh yL_pass cL_pass 4 hh_pass 3 := ⟨bw_in (tb_5 (List.mem_of_getElem? (i := 81) rfl)) rfl, bw_in (tb_5 (List.mem_of_getElem? (i := 80) rfl)) rfl, ini_L, by decide +kernel, ⟨by decide +kernel, by decide +kernel, by decide +kernel⟩, by decide⟩
set_option maxRecDepth 100000 in
set_option maxHeartbeats 4000000 in
theorem sp_L_pass {d : Nat} {x : Int32} {I : MI} {J : MJ} {P : MP} {Q : Int32 → MI → MJ → MP → Prop} (hc : SpX yX10_pass cX10_pass 3 (some .int) (d + 8) [.ref 0, .int x] I J P (Qi (fun v I1 J1 P1 => Q (nI 0) I1 (up2 J1 19 0 v.toInt64) P1)) (fun E I1 J1 P1 => (E = eIAE ∧ Q (nI 1) I1 J1 P1))) : SpH yL_pass cL_pass 4 hh_pass (d + 9) [.ref 0, .int x, .ref 19] I J P (Qi Q) := by
  intro Γ h hx
  show VG Γ 0 0 0 [some (.ref 0), some (.int x), some (.ref 19), none] [] _ _ _ _
  refine g_aload_2 h dL_pass_0 ?_
  refine g_iconst h dL_pass_1 (v := nI 0) rfl ?_
  refine g_aload_0 h dL_pass_2 ?_
  refine g_iload_1 h dL_pass_3 ?_
  refine g_try (As := [.int x]) h hx (by omega) mi_X10_pass dL_pass_4 ml_L_60 rfl rfl rfl (Nat.le_of_ble_eq_true rfl) rfl (Nat.le_of_ble_eq_true rfl) (spx_mono hc ?_ ?_)
  · rintro r I1 J1 P1 ⟨v, rfl, hq⟩
    show VG Γ 1 6 7 [some (.ref 0), some (.int x), some (.ref 19), none] [.int v, .int (nI 0), .ref 19] _ _ _ _
    refine g_i2l h dL_pass_7 ?_
    refine g_last h 0 dL_pass_8 rfl rfl (by decide) ?_
    refine g_goto h 15 dL_pass_9 rfl ?_
    refine g_iconst h dL_pass_15 (v := nI 0) rfl ?_
    refine g_iretH h dL_pass_16 ?_
    exact hq
  · rintro E I1 J1 P1 ⟨rfl, hq⟩
    refine g_catch h hx (E := eIAE) [] [] ⟨0, 9, 12, 19⟩ rfl (fun z hz => nomatch hz) rfl (by decide) cl_L_19 nxIAE (i := 3) (ln := 1) (Or.inl ⟨3, rfl, rfl, dL_pass_12⟩) (by decide) (fun _ => rfl) ?_
    show VG Γ 1 6 13 [some (.ref 0), some (.int x), some (.ref 19), none] [] _ _ _ _
    refine g_iconst h dL_pass_13 (v := nI 1) rfl ?_
    refine g_iretH h dL_pass_14 ?_
    exact hq
def hh_until : List (Nat × Nat × Nat × Nat) := [(0, 9, 12, 24)]
theorem mh_until : MIh yL_until cL_until 4 hh_until 3 := ⟨bw_in (tb_5 (List.mem_of_getElem? (i := 144) rfl)) rfl, bw_in (tb_5 (List.mem_of_getElem? (i := 143) rfl)) rfl, ini_L, by decide +kernel, ⟨by decide +kernel, by decide +kernel, by decide +kernel⟩, by decide⟩
set_option maxRecDepth 100000 in
set_option maxHeartbeats 4000000 in
theorem sp_L_until {d : Nat} {x : Int32} {I : MI} {J : MJ} {P : MP} {Q : Int32 → MI → MJ → MP → Prop} (hc : SpX yX10_until cX10_until 3 (some .int) (d + 8) [.ref 0, .int x] I J P (Qi (fun v I1 J1 P1 => Q (nI 0) I1 (up2 J1 19 0 v.toInt64) P1)) (fun E I1 J1 P1 => (E = eIOB ∧ Q (nI 1) I1 J1 P1))) : SpH yL_until cL_until 4 hh_until (d + 9) [.ref 0, .int x, .ref 19] I J P (Qi Q) := by
  intro Γ h hx
  show VG Γ 0 0 0 [some (.ref 0), some (.int x), some (.ref 19), none] [] _ _ _ _
  refine g_aload_2 h dL_until_0 ?_
  refine g_iconst h dL_until_1 (v := nI 0) rfl ?_
  refine g_aload_0 h dL_until_2 ?_
  refine g_iload_1 h dL_until_3 ?_
  refine g_try (As := [.int x]) h hx (by omega) mi_X10_until dL_until_4 ml_L_63 rfl rfl rfl (Nat.le_of_ble_eq_true rfl) rfl (Nat.le_of_ble_eq_true rfl) (spx_mono hc ?_ ?_)
  · rintro r I1 J1 P1 ⟨v, rfl, hq⟩
    show VG Γ 1 6 7 [some (.ref 0), some (.int x), some (.ref 19), none] [.int v, .int (nI 0), .ref 19] _ _ _ _
    refine g_i2l h dL_until_7 ?_
    refine g_last h 0 dL_until_8 rfl rfl (by decide) ?_
    refine g_goto h 15 dL_until_9 rfl ?_
    refine g_iconst h dL_until_15 (v := nI 0) rfl ?_
    refine g_iretH h dL_until_16 ?_
    exact hq
  · rintro E I1 J1 P1 ⟨rfl, hq⟩
    refine g_catch h hx (E := eIOB) [] [] ⟨0, 9, 12, 24⟩ rfl (fun z hz => nomatch hz) rfl (by decide) cl_L_24 nxIOB (i := 3) (ln := 1) (Or.inl ⟨3, rfl, rfl, dL_until_12⟩) (by decide) (fun _ => rfl) ?_
    show VG Γ 1 6 13 [some (.ref 0), some (.int x), some (.ref 19), none] [] _ _ _ _
    refine g_iconst h dL_until_13 (v := nI 1) rfl ?_
    refine g_iretH h dL_until_14 ?_
    exact hq
def hh_foresee : List (Nat × Nat × Nat × Nat) := [(0, 10, 13, 19), (0, 10, 17, 24)]
theorem mh_foresee : MIh yL_foresee cL_foresee 5 hh_foresee 4 := ⟨bw_in (tb_5 (List.mem_of_getElem? (i := 160) rfl)) rfl, bw_in (tb_5 (List.mem_of_getElem? (i := 159) rfl)) rfl, ini_L, by decide +kernel, ⟨by decide +kernel, by decide +kernel, by decide +kernel⟩, by decide⟩
set_option maxRecDepth 100000 in
set_option maxHeartbeats 4000000 in
theorem sp_L_foresee {d : Nat} {x y : Int32} {I : MI} {J : MJ} {P : MP} {Q : Int32 → MI → MJ → MP → Prop} (hc : SpX yX10_foresee cX10_foresee 3 (some .int) (d + 8) [.ref 0, .int x, .int y] I J P (Qi (fun v I1 J1 P1 => Q (nI 0) I1 (up2 J1 19 0 v.toInt64) P1)) (fun E I1 J1 P1 => (E = eIAE ∧ Q (nI 1) I1 J1 P1) ∨ (E = eIOB ∧ Q (nI 2) I1 J1 P1))) : SpH yL_foresee cL_foresee 5 hh_foresee (d + 9) [.ref 0, .int x, .int y, .ref 19] I J P (Qi Q) := by
  intro Γ h hx
  show VG Γ 0 0 0 [some (.ref 0), some (.int x), some (.int y), some (.ref 19), none] [] _ _ _ _
  refine g_aload_3 h dL_foresee_0 ?_
  refine g_iconst h dL_foresee_1 (v := nI 0) rfl ?_
  refine g_aload_0 h dL_foresee_2 ?_
  refine g_iload_1 h dL_foresee_3 ?_
  refine g_iload_2 h dL_foresee_4 ?_
  refine g_try (As := [.int x, .int y]) h hx (by omega) mi_X10_foresee dL_foresee_5 ml_L_66 rfl rfl rfl (Nat.le_of_ble_eq_true rfl) rfl (Nat.le_of_ble_eq_true rfl) (spx_mono hc ?_ ?_)
  · rintro r I1 J1 P1 ⟨v, rfl, hq⟩
    show VG Γ 1 6 8 [some (.ref 0), some (.int x), some (.int y), some (.ref 19), none] [.int v, .int (nI 0), .ref 19] _ _ _ _
    refine g_i2l h dL_foresee_8 ?_
    refine g_last h 0 dL_foresee_9 rfl rfl (by decide) ?_
    refine g_goto h 21 dL_foresee_10 rfl ?_
    refine g_iconst h dL_foresee_21 (v := nI 0) rfl ?_
    refine g_iretH h dL_foresee_22 ?_
    exact hq
  · rintro E I1 J1 P1 (⟨rfl, hq⟩ | ⟨rfl, hq⟩)
    · refine g_catch h hx (E := eIAE) [] [⟨0, 10, 17, 24⟩] ⟨0, 10, 13, 19⟩ rfl (fun z hz => nomatch hz) rfl (by decide) cl_L_19 nxIAE (i := 4) (ln := 2) (Or.inr ⟨rfl, dL_foresee_13⟩) (by decide) (fun _ => rfl) ?_
      show VG Γ 1 6 15 [some (.ref 0), some (.int x), some (.int y), some (.ref 19), none] [] _ _ _ _
      refine g_iconst h dL_foresee_15 (v := nI 1) rfl ?_
      refine g_iretH h dL_foresee_16 ?_
      exact hq
    · refine g_catch h hx (E := eIOB) [⟨0, 10, 13, 19⟩] [] ⟨0, 10, 17, 24⟩ rfl (fun z hz => by obtain rfl := List.mem_singleton.mp hz; exact ⟨by decide, _, cl_L_19, (fun s hn => hn.2.2.2)⟩) rfl (by decide) cl_L_24 nxIOB (i := 4) (ln := 2) (Or.inr ⟨rfl, dL_foresee_17⟩) (by decide) (fun _ => rfl) ?_
      show VG Γ 1 6 19 [some (.ref 0), some (.int x), some (.int y), some (.ref 19), none] [] _ _ _ _
      refine g_iconst h dL_foresee_19 (v := nI 2) rfl ?_
      refine g_iretH h dL_foresee_20 ?_
      exact hq
def hh_advise : List (Nat × Nat × Nat × Nat) := [(0, 9, 12, 19)]
theorem mh_advise : MIh yL_advise cL_advise 4 hh_advise 3 := ⟨bw_in (tb_5 (List.mem_of_getElem? (i := 167) rfl)) rfl, bw_in (tb_5 (List.mem_of_getElem? (i := 166) rfl)) rfl, ini_L, by decide +kernel, ⟨by decide +kernel, by decide +kernel, by decide +kernel⟩, by decide⟩
set_option maxRecDepth 100000 in
set_option maxHeartbeats 4000000 in
theorem sp_L_advise {d : Nat} {x : Int32} {I : MI} {J : MJ} {P : MP} {Q : Int32 → MI → MJ → MP → Prop} (hc : SpX yX10_advise cX10_advise 6 (some .int) (d + 8) [.ref 0, .int x] I J P (Qi (fun v I1 J1 P1 => Q (nI 0) I1 (up2 J1 19 0 v.toInt64) P1)) (fun E I1 J1 P1 => (E = eIAE ∧ Q (nI 1) I1 J1 P1))) : SpH yL_advise cL_advise 4 hh_advise (d + 9) [.ref 0, .int x, .ref 19] I J P (Qi Q) := by
  intro Γ h hx
  show VG Γ 0 0 0 [some (.ref 0), some (.int x), some (.ref 19), none] [] _ _ _ _
  refine g_aload_2 h dL_advise_0 ?_
  refine g_iconst h dL_advise_1 (v := nI 0) rfl ?_
  refine g_aload_0 h dL_advise_2 ?_
  refine g_iload_1 h dL_advise_3 ?_
  refine g_try (As := [.int x]) h hx (by omega) mi_X10_advise dL_advise_4 ml_L_69 rfl rfl rfl (Nat.le_of_ble_eq_true rfl) rfl (Nat.le_of_ble_eq_true rfl) (spx_mono hc ?_ ?_)
  · rintro r I1 J1 P1 ⟨v, rfl, hq⟩
    show VG Γ 1 6 7 [some (.ref 0), some (.int x), some (.ref 19), none] [.int v, .int (nI 0), .ref 19] _ _ _ _
    refine g_i2l h dL_advise_7 ?_
    refine g_last h 0 dL_advise_8 rfl rfl (by decide) ?_
    refine g_goto h 15 dL_advise_9 rfl ?_
    refine g_iconst h dL_advise_15 (v := nI 0) rfl ?_
    refine g_iretH h dL_advise_16 ?_
    exact hq
  · rintro E I1 J1 P1 ⟨rfl, hq⟩
    refine g_catch h hx (E := eIAE) [] [] ⟨0, 9, 12, 19⟩ rfl (fun z hz => nomatch hz) rfl (by decide) cl_L_19 nxIAE (i := 3) (ln := 1) (Or.inl ⟨3, rfl, rfl, dL_advise_12⟩) (by decide) (fun _ => rfl) ?_
    show VG Γ 1 6 13 [some (.ref 0), some (.int x), some (.ref 19), none] [] _ _ _ _
    refine g_iconst h dL_advise_13 (v := nI 1) rfl ?_
    refine g_iretH h dL_advise_14 ?_
    exact hq
