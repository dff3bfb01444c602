theorem inW_X0 : ∀ w ∈ u_ws RX0 TX0 2, w ∈ bigW := fun w h => bw_in ((by decide +kernel : ∀ w ∈ u_ws RX0 TX0 2, w ∈ lw_tbl) w h) ((by decide +kernel : ∀ w ∈ u_ws RX0 TX0 2, goodWord w = true) w h)
theorem inW_X1 : ∀ w ∈ u_ws RX1 TX1 3, w ∈ bigW := fun w h => bw_in ((by decide +kernel : ∀ w ∈ u_ws RX1 TX1 3, w ∈ lw_tbl) w h) ((by decide +kernel : ∀ w ∈ u_ws RX1 TX1 3, goodWord w = true) w h)
theorem inW_X4 : ∀ w ∈ u_ws RX4 TX4 5, w ∈ bigW := fun w h => bw_in ((by decide +kernel : ∀ w ∈ u_ws RX4 TX4 5, w ∈ lw_tbl) w h) ((by decide +kernel : ∀ w ∈ u_ws RX4 TX4 5, goodWord w = true) w h)
theorem inW_X5 : ∀ w ∈ u_ws RX5 TX5 11, w ∈ bigW := fun w h => bw_in ((by decide +kernel : ∀ w ∈ u_ws RX5 TX5 11, w ∈ lw_tbl) w h) ((by decide +kernel : ∀ w ∈ u_ws RX5 TX5 11, goodWord w = true) w h)
theorem inW_X6 : ∀ w ∈ u_ws RX6 TX6 2, w ∈ bigW := fun w h => bw_in ((by decide +kernel : ∀ w ∈ u_ws RX6 TX6 2, w ∈ lw_tbl) w h) ((by decide +kernel : ∀ w ∈ u_ws RX6 TX6 2, goodWord w = true) w h)
theorem inW_X7 : ∀ w ∈ u_ws RX7 TX7 9, w ∈ bigW := fun w h => bw_in ((by decide +kernel : ∀ w ∈ u_ws RX7 TX7 9, w ∈ lw_tbl) w h) ((by decide +kernel : ∀ w ∈ u_ws RX7 TX7 9, goodWord w = true) w h)
theorem inW_X8 : ∀ w ∈ u_ws RX8 TX8 7, w ∈ bigW := fun w h => bw_in ((by decide +kernel : ∀ w ∈ u_ws RX8 TX8 7, w ∈ lw_tbl) w h) ((by decide +kernel : ∀ w ∈ u_ws RX8 TX8 7, goodWord w = true) w h)
theorem inW_X9 : ∀ w ∈ u_ws RX9 TX9 18, w ∈ bigW := fun w h => bw_in ((by decide +kernel : ∀ w ∈ u_ws RX9 TX9 18, w ∈ lw_tbl) w h) ((by decide +kernel : ∀ w ∈ u_ws RX9 TX9 18, goodWord w = true) w h)
theorem inW_X10 : ∀ w ∈ u_ws RX10 TX10 10, w ∈ bigW := fun w h => bw_in ((by decide +kernel : ∀ w ∈ u_ws RX10 TX10 10, w ∈ lw_tbl) w h) ((by decide +kernel : ∀ w ∈ u_ws RX10 TX10 10, goodWord w = true) w h)
def FL (own : String) (idx ci k : Nat) : Prop := ∃ (C : String) (T : u_T) (N : Nat), vwCl[ci]? = some (C, T, N) ∧ k < N ∧ (∀ w ∈ u_ws C T N, w ∈ bigW) ∧ (Cond.fieldLink own idx (T k).1 (T k).2.1 (T k).2.2.1 ∈ bigW ∨ ∃ host, (own, idx, (T k).1, (T k).2.1, (T k).2.2.1, host) ∈ nestF)
def FP (own : String) (idx ci k : Nat) (ty : FieldType) : Prop := ∃ (C : String) (T : u_T) (N : Nat) (ty0 : Nat → FieldType), vwCl[ci]? = some (C, T, N) ∧ k < N ∧ (∀ w ∈ u_ws C T N, w ∈ bigW) ∧ (Cond.fieldLink own idx (T k).1 (T k).2.1 (T k).2.2.1 ∈ bigW ∨ ∃ host, (own, idx, (T k).1, (T k).2.1, (T k).2.2.1, host) ∈ nestF) ∧ (∀ j, j < N → parseFieldDescriptor (T j).2.2.1 = some (ty0 j)) ∧ (∀ a, a < N → ∀ b, b < N → a ≠ b → (T a).2.1 ≠ (T b).2.1) ∧ (T k).2.2.2 = false ∧ parseFieldDescriptor (T k).2.2.1 = some ty
theorem fl_X1_9 : FL RX1 9 1 0 := ⟨_, _, _, rfl, by decide, inW_X1, Or.inl (bw_in (tb_2 (List.mem_of_getElem? (i := 187) rfl)) rfl)⟩
theorem fl_X0_67 : FL RX0 67 1 0 := ⟨_, _, _, rfl, by decide, inW_X1, Or.inl (bw_in (tb_2 (List.mem_of_getElem? (i := 188) rfl)) rfl)⟩
theorem fl_X7_177 : FL RX7 177 1 0 := ⟨_, _, _, rfl, by decide, inW_X1, Or.inl (bw_in (tb_2 (List.mem_of_getElem? (i := 189) rfl)) rfl)⟩
theorem fl_X1_15 : FL RX1 15 1 1 := ⟨_, _, _, rfl, by decide, inW_X1, Or.inl (bw_in (tb_2 (List.mem_of_getElem? (i := 190) rfl)) rfl)⟩
theorem fl_X0_72 : FL RX0 72 1 1 := ⟨_, _, _, rfl, by decide, inW_X1, Or.inl (bw_in (tb_2 (List.mem_of_getElem? (i := 191) rfl)) rfl)⟩
theorem fl_X7_180 : FL RX7 180 1 1 := ⟨_, _, _, rfl, by decide, inW_X1, Or.inl (bw_in (tb_2 (List.mem_of_getElem? (i := 192) rfl)) rfl)⟩
theorem fl_X1_18 : FL RX1 18 1 2 := ⟨_, _, _, rfl, by decide, inW_X1, Or.inl (bw_in (tb_2 (List.mem_of_getElem? (i := 193) rfl)) rfl)⟩
theorem fp_X1_18 : FP RX1 18 1 2 .int := ⟨_, _, _, tyX1, rfl, by decide, inW_X1, Or.inl (bw_in (tb_2 (List.mem_of_getElem? (i := 193) rfl)) rfl), tyX1_ok, nmX1, rfl, tyX1_ok 2 (by decide)⟩
theorem fl_X4_71 : FL RX4 71 1 2 := ⟨_, _, _, rfl, by decide, inW_X1, Or.inr ⟨"QuipuKeepers", List.mem_of_getElem? (i := 0) rfl⟩⟩
theorem fp_X4_71 : FP RX4 71 1 2 .int := ⟨_, _, _, tyX1, rfl, by decide, inW_X1, Or.inr ⟨"QuipuKeepers", List.mem_of_getElem? (i := 0) rfl⟩, tyX1_ok, nmX1, rfl, tyX1_ok 2 (by decide)⟩
theorem fl_X9_7 : FL RX9 7 7 0 := ⟨_, _, _, rfl, by decide, inW_X9, Or.inl (bw_in (tb_2 (List.mem_of_getElem? (i := 204) rfl)) rfl)⟩
theorem fp_X9_7 : FP RX9 7 7 0 .int := ⟨_, _, _, tyX9, rfl, by decide, inW_X9, Or.inl (bw_in (tb_2 (List.mem_of_getElem? (i := 204) rfl)) rfl), tyX9_ok, nmX9, rfl, tyX9_ok 0 (by decide)⟩
theorem fl_X7_100 : FL RX7 100 7 0 := ⟨_, _, _, rfl, by decide, inW_X9, Or.inl (bw_in (tb_2 (List.mem_of_getElem? (i := 205) rfl)) rfl)⟩
theorem fp_X7_100 : FP RX7 100 7 0 .int := ⟨_, _, _, tyX9, rfl, by decide, inW_X9, Or.inl (bw_in (tb_2 (List.mem_of_getElem? (i := 205) rfl)) rfl), tyX9_ok, nmX9, rfl, tyX9_ok 0 (by decide)⟩
theorem fl_X10_259 : FL RX10 259 7 0 := ⟨_, _, _, rfl, by decide, inW_X9, Or.inl (bw_in (tb_2 (List.mem_of_getElem? (i := 206) rfl)) rfl)⟩
theorem fp_X10_259 : FP RX10 259 7 0 .int := ⟨_, _, _, tyX9, rfl, by decide, inW_X9, Or.inl (bw_in (tb_2 (List.mem_of_getElem? (i := 206) rfl)) rfl), tyX9_ok, nmX9, rfl, tyX9_ok 0 (by decide)⟩
theorem fl_X5_165 : FL RX5 165 7 0 := ⟨_, _, _, rfl, by decide, inW_X9, Or.inl (bw_in (tb_2 (List.mem_of_getElem? (i := 207) rfl)) rfl)⟩
theorem fp_X5_165 : FP RX5 165 7 0 .int := ⟨_, _, _, tyX9, rfl, by decide, inW_X9, Or.inl (bw_in (tb_2 (List.mem_of_getElem? (i := 207) rfl)) rfl), tyX9_ok, nmX9, rfl, tyX9_ok 0 (by decide)⟩
theorem fl_X9_13 : FL RX9 13 7 1 := ⟨_, _, _, rfl, by decide, inW_X9, Or.inl (bw_in (tb_2 (List.mem_of_getElem? (i := 208) rfl)) rfl)⟩
theorem fp_X9_13 : FP RX9 13 7 1 .int := ⟨_, _, _, tyX9, rfl, by decide, inW_X9, Or.inl (bw_in (tb_2 (List.mem_of_getElem? (i := 208) rfl)) rfl), tyX9_ok, nmX9, rfl, tyX9_ok 1 (by decide)⟩
theorem fl_X5_53 : FL RX5 53 7 1 := ⟨_, _, _, rfl, by decide, inW_X9, Or.inl (bw_in (tb_2 (List.mem_of_getElem? (i := 209) rfl)) rfl)⟩
theorem fp_X5_53 : FP RX5 53 7 1 .int := ⟨_, _, _, tyX9, rfl, by decide, inW_X9, Or.inl (bw_in (tb_2 (List.mem_of_getElem? (i := 209) rfl)) rfl), tyX9_ok, nmX9, rfl, tyX9_ok 1 (by decide)⟩
theorem fl_X7_106 : FL RX7 106 7 1 := ⟨_, _, _, rfl, by decide, inW_X9, Or.inl (bw_in (tb_2 (List.mem_of_getElem? (i := 210) rfl)) rfl)⟩
theorem fp_X7_106 : FP RX7 106 7 1 .int := ⟨_, _, _, tyX9, rfl, by decide, inW_X9, Or.inl (bw_in (tb_2 (List.mem_of_getElem? (i := 210) rfl)) rfl), tyX9_ok, nmX9, rfl, tyX9_ok 1 (by decide)⟩
theorem fl_X10_262 : FL RX10 262 7 1 := ⟨_, _, _, rfl, by decide, inW_X9, Or.inl (bw_in (tb_2 (List.mem_of_getElem? (i := 211) rfl)) rfl)⟩
theorem fp_X10_262 : FP RX10 262 7 1 .int := ⟨_, _, _, tyX9, rfl, by decide, inW_X9, Or.inl (bw_in (tb_2 (List.mem_of_getElem? (i := 211) rfl)) rfl), tyX9_ok, nmX9, rfl, tyX9_ok 1 (by decide)⟩
theorem fl_X9_16 : FL RX9 16 7 2 := ⟨_, _, _, rfl, by decide, inW_X9, Or.inl (bw_in (tb_2 (List.mem_of_getElem? (i := 212) rfl)) rfl)⟩
theorem fp_X9_16 : FP RX9 16 7 2 .int := ⟨_, _, _, tyX9, rfl, by decide, inW_X9, Or.inl (bw_in (tb_2 (List.mem_of_getElem? (i := 212) rfl)) rfl), tyX9_ok, nmX9, rfl, tyX9_ok 2 (by decide)⟩
theorem fl_X7_122 : FL RX7 122 7 2 := ⟨_, _, _, rfl, by decide, inW_X9, Or.inl (bw_in (tb_2 (List.mem_of_getElem? (i := 213) rfl)) rfl)⟩
theorem fp_X7_122 : FP RX7 122 7 2 .int := ⟨_, _, _, tyX9, rfl, by decide, inW_X9, Or.inl (bw_in (tb_2 (List.mem_of_getElem? (i := 213) rfl)) rfl), tyX9_ok, nmX9, rfl, tyX9_ok 2 (by decide)⟩
theorem fl_X5_118 : FL RX5 118 7 2 := ⟨_, _, _, rfl, by decide, inW_X9, Or.inl (bw_in (tb_2 (List.mem_of_getElem? (i := 214) rfl)) rfl)⟩
theorem fp_X5_118 : FP RX5 118 7 2 .int := ⟨_, _, _, tyX9, rfl, by decide, inW_X9, Or.inl (bw_in (tb_2 (List.mem_of_getElem? (i := 214) rfl)) rfl), tyX9_ok, nmX9, rfl, tyX9_ok 2 (by decide)⟩
theorem fl_X10_265 : FL RX10 265 7 2 := ⟨_, _, _, rfl, by decide, inW_X9, Or.inl (bw_in (tb_2 (List.mem_of_getElem? (i := 215) rfl)) rfl)⟩
theorem fp_X10_265 : FP RX10 265 7 2 .int := ⟨_, _, _, tyX9, rfl, by decide, inW_X9, Or.inl (bw_in (tb_2 (List.mem_of_getElem? (i := 215) rfl)) rfl), tyX9_ok, nmX9, rfl, tyX9_ok 2 (by decide)⟩
theorem fl_X9_19 : FL RX9 19 7 3 := ⟨_, _, _, rfl, by decide, inW_X9, Or.inl (bw_in (tb_2 (List.mem_of_getElem? (i := 216) rfl)) rfl)⟩
theorem fp_X9_19 : FP RX9 19 7 3 .int := ⟨_, _, _, tyX9, rfl, by decide, inW_X9, Or.inl (bw_in (tb_2 (List.mem_of_getElem? (i := 216) rfl)) rfl), tyX9_ok, nmX9, rfl, tyX9_ok 3 (by decide)⟩
theorem fl_X7_112 : FL RX7 112 7 3 := ⟨_, _, _, rfl, by decide, inW_X9, Or.inl (bw_in (tb_2 (List.mem_of_getElem? (i := 217) rfl)) rfl)⟩
theorem fp_X7_112 : FP RX7 112 7 3 .int := ⟨_, _, _, tyX9, rfl, by decide, inW_X9, Or.inl (bw_in (tb_2 (List.mem_of_getElem? (i := 217) rfl)) rfl), tyX9_ok, nmX9, rfl, tyX9_ok 3 (by decide)⟩
theorem fl_X10_246 : FL RX10 246 7 3 := ⟨_, _, _, rfl, by decide, inW_X9, Or.inl (bw_in (tb_2 (List.mem_of_getElem? (i := 218) rfl)) rfl)⟩
theorem fp_X10_246 : FP RX10 246 7 3 .int := ⟨_, _, _, tyX9, rfl, by decide, inW_X9, Or.inl (bw_in (tb_2 (List.mem_of_getElem? (i := 218) rfl)) rfl), tyX9_ok, nmX9, rfl, tyX9_ok 3 (by decide)⟩
theorem fl_X5_154 : FL RX5 154 7 3 := ⟨_, _, _, rfl, by decide, inW_X9, Or.inl (bw_in (tb_2 (List.mem_of_getElem? (i := 219) rfl)) rfl)⟩
theorem fp_X5_154 : FP RX5 154 7 3 .int := ⟨_, _, _, tyX9, rfl, by decide, inW_X9, Or.inl (bw_in (tb_2 (List.mem_of_getElem? (i := 219) rfl)) rfl), tyX9_ok, nmX9, rfl, tyX9_ok 3 (by decide)⟩
theorem fl_X9_22 : FL RX9 22 7 4 := ⟨_, _, _, rfl, by decide, inW_X9, Or.inl (bw_in (tb_2 (List.mem_of_getElem? (i := 220) rfl)) rfl)⟩
theorem fp_X9_22 : FP RX9 22 7 4 .int := ⟨_, _, _, tyX9, rfl, by decide, inW_X9, Or.inl (bw_in (tb_2 (List.mem_of_getElem? (i := 220) rfl)) rfl), tyX9_ok, nmX9, rfl, tyX9_ok 4 (by decide)⟩
theorem fl_X0_32 : FL RX0 32 7 4 := ⟨_, _, _, rfl, by decide, inW_X9, Or.inl (bw_in (tb_2 (List.mem_of_getElem? (i := 221) rfl)) rfl)⟩
theorem fp_X0_32 : FP RX0 32 7 4 .int := ⟨_, _, _, tyX9, rfl, by decide, inW_X9, Or.inl (bw_in (tb_2 (List.mem_of_getElem? (i := 221) rfl)) rfl), tyX9_ok, nmX9, rfl, tyX9_ok 4 (by decide)⟩
theorem fl_X7_90 : FL RX7 90 7 4 := ⟨_, _, _, rfl, by decide, inW_X9, Or.inl (bw_in (tb_2 (List.mem_of_getElem? (i := 222) rfl)) rfl)⟩
theorem fp_X7_90 : FP RX7 90 7 4 .int := ⟨_, _, _, tyX9, rfl, by decide, inW_X9, Or.inl (bw_in (tb_2 (List.mem_of_getElem? (i := 222) rfl)) rfl), tyX9_ok, nmX9, rfl, tyX9_ok 4 (by decide)⟩
theorem fl_X5_168 : FL RX5 168 7 4 := ⟨_, _, _, rfl, by decide, inW_X9, Or.inl (bw_in (tb_2 (List.mem_of_getElem? (i := 223) rfl)) rfl)⟩
theorem fp_X5_168 : FP RX5 168 7 4 .int := ⟨_, _, _, tyX9, rfl, by decide, inW_X9, Or.inl (bw_in (tb_2 (List.mem_of_getElem? (i := 223) rfl)) rfl), tyX9_ok, nmX9, rfl, tyX9_ok 4 (by decide)⟩
theorem fl_X9_25 : FL RX9 25 7 5 := ⟨_, _, _, rfl, by decide, inW_X9, Or.inl (bw_in (tb_2 (List.mem_of_getElem? (i := 224) rfl)) rfl)⟩
theorem fl_X7_103 : FL RX7 103 7 5 := ⟨_, _, _, rfl, by decide, inW_X9, Or.inl (bw_in (tb_2 (List.mem_of_getElem? (i := 225) rfl)) rfl)⟩
theorem fl_X5_102 : FL RX5 102 7 5 := ⟨_, _, _, rfl, by decide, inW_X9, Or.inl (bw_in (tb_2 (List.mem_of_getElem? (i := 226) rfl)) rfl)⟩
theorem fl_X9_29 : FL RX9 29 7 6 := ⟨_, _, _, rfl, by decide, inW_X9, Or.inl (bw_in (tb_2 (List.mem_of_getElem? (i := 227) rfl)) rfl)⟩
theorem fl_X5_56 : FL RX5 56 7 6 := ⟨_, _, _, rfl, by decide, inW_X9, Or.inl (bw_in (tb_2 (List.mem_of_getElem? (i := 228) rfl)) rfl)⟩
theorem fl_X7_141 : FL RX7 141 7 6 := ⟨_, _, _, rfl, by decide, inW_X9, Or.inl (bw_in (tb_2 (List.mem_of_getElem? (i := 229) rfl)) rfl)⟩
theorem fl_X9_32 : FL RX9 32 7 7 := ⟨_, _, _, rfl, by decide, inW_X9, Or.inl (bw_in (tb_2 (List.mem_of_getElem? (i := 230) rfl)) rfl)⟩
theorem fl_X5_57 : FL RX5 57 7 7 := ⟨_, _, _, rfl, by decide, inW_X9, Or.inl (bw_in (tb_2 (List.mem_of_getElem? (i := 231) rfl)) rfl)⟩
theorem fl_X7_138 : FL RX7 138 7 7 := ⟨_, _, _, rfl, by decide, inW_X9, Or.inl (bw_in (tb_2 (List.mem_of_getElem? (i := 232) rfl)) rfl)⟩
theorem fl_X9_35 : FL RX9 35 7 8 := ⟨_, _, _, rfl, by decide, inW_X9, Or.inl (bw_in (tb_2 (List.mem_of_getElem? (i := 233) rfl)) rfl)⟩
theorem fl_X5_58 : FL RX5 58 7 8 := ⟨_, _, _, rfl, by decide, inW_X9, Or.inl (bw_in (tb_2 (List.mem_of_getElem? (i := 234) rfl)) rfl)⟩
theorem fl_X7_109 : FL RX7 109 7 8 := ⟨_, _, _, rfl, by decide, inW_X9, Or.inl (bw_in (tb_2 (List.mem_of_getElem? (i := 235) rfl)) rfl)⟩
theorem fl_X9_38 : FL RX9 38 7 9 := ⟨_, _, _, rfl, by decide, inW_X9, Or.inl (bw_in (tb_2 (List.mem_of_getElem? (i := 236) rfl)) rfl)⟩
theorem fl_X7_132 : FL RX7 132 7 9 := ⟨_, _, _, rfl, by decide, inW_X9, Or.inl (bw_in (tb_2 (List.mem_of_getElem? (i := 237) rfl)) rfl)⟩
theorem fl_X5_108 : FL RX5 108 7 9 := ⟨_, _, _, rfl, by decide, inW_X9, Or.inl (bw_in (tb_2 (List.mem_of_getElem? (i := 238) rfl)) rfl)⟩
theorem fl_X9_43 : FL RX9 43 7 10 := ⟨_, _, _, rfl, by decide, inW_X9, Or.inl (bw_in (tb_2 (List.mem_of_getElem? (i := 239) rfl)) rfl)⟩
theorem fl_X7_164 : FL RX7 164 7 10 := ⟨_, _, _, rfl, by decide, inW_X9, Or.inl (bw_in (tb_3 (List.mem_of_getElem? (i := 0) rfl)) rfl)⟩
theorem fl_X5_111 : FL RX5 111 7 10 := ⟨_, _, _, rfl, by decide, inW_X9, Or.inl (bw_in (tb_3 (List.mem_of_getElem? (i := 1) rfl)) rfl)⟩
theorem fl_X9_46 : FL RX9 46 7 11 := ⟨_, _, _, rfl, by decide, inW_X9, Or.inl (bw_in (tb_3 (List.mem_of_getElem? (i := 2) rfl)) rfl)⟩
theorem fl_X7_115 : FL RX7 115 7 11 := ⟨_, _, _, rfl, by decide, inW_X9, Or.inl (bw_in (tb_3 (List.mem_of_getElem? (i := 3) rfl)) rfl)⟩
theorem fl_X5_124 : FL RX5 124 7 11 := ⟨_, _, _, rfl, by decide, inW_X9, Or.inl (bw_in (tb_3 (List.mem_of_getElem? (i := 4) rfl)) rfl)⟩
theorem fl_X9_49 : FL RX9 49 7 12 := ⟨_, _, _, rfl, by decide, inW_X9, Or.inl (bw_in (tb_3 (List.mem_of_getElem? (i := 5) rfl)) rfl)⟩
theorem fl_X7_93 : FL RX7 93 7 12 := ⟨_, _, _, rfl, by decide, inW_X9, Or.inl (bw_in (tb_3 (List.mem_of_getElem? (i := 6) rfl)) rfl)⟩
theorem fl_X5_133 : FL RX5 133 7 12 := ⟨_, _, _, rfl, by decide, inW_X9, Or.inl (bw_in (tb_3 (List.mem_of_getElem? (i := 7) rfl)) rfl)⟩
theorem fl_X9_53 : FL RX9 53 7 13 := ⟨_, _, _, rfl, by decide, inW_X9, Or.inl (bw_in (tb_3 (List.mem_of_getElem? (i := 8) rfl)) rfl)⟩
theorem fl_X7_150 : FL RX7 150 7 13 := ⟨_, _, _, rfl, by decide, inW_X9, Or.inl (bw_in (tb_3 (List.mem_of_getElem? (i := 9) rfl)) rfl)⟩
theorem fl_X5_130 : FL RX5 130 7 13 := ⟨_, _, _, rfl, by decide, inW_X9, Or.inl (bw_in (tb_3 (List.mem_of_getElem? (i := 10) rfl)) rfl)⟩
theorem fl_X9_56 : FL RX9 56 7 14 := ⟨_, _, _, rfl, by decide, inW_X9, Or.inl (bw_in (tb_3 (List.mem_of_getElem? (i := 11) rfl)) rfl)⟩
theorem fl_X7_153 : FL RX7 153 7 14 := ⟨_, _, _, rfl, by decide, inW_X9, Or.inl (bw_in (tb_3 (List.mem_of_getElem? (i := 12) rfl)) rfl)⟩
theorem fl_X5_127 : FL RX5 127 7 14 := ⟨_, _, _, rfl, by decide, inW_X9, Or.inl (bw_in (tb_3 (List.mem_of_getElem? (i := 13) rfl)) rfl)⟩
theorem fl_X9_59 : FL RX9 59 7 15 := ⟨_, _, _, rfl, by decide, inW_X9, Or.inl (bw_in (tb_3 (List.mem_of_getElem? (i := 14) rfl)) rfl)⟩
theorem fl_X0_37 : FL RX0 37 7 15 := ⟨_, _, _, rfl, by decide, inW_X9, Or.inl (bw_in (tb_3 (List.mem_of_getElem? (i := 15) rfl)) rfl)⟩
theorem fl_X7_97 : FL RX7 97 7 15 := ⟨_, _, _, rfl, by decide, inW_X9, Or.inl (bw_in (tb_3 (List.mem_of_getElem? (i := 16) rfl)) rfl)⟩
theorem fl_X9_62 : FL RX9 62 7 16 := ⟨_, _, _, rfl, by decide, inW_X9, Or.inl (bw_in (tb_3 (List.mem_of_getElem? (i := 17) rfl)) rfl)⟩
theorem fl_X0_40 : FL RX0 40 7 16 := ⟨_, _, _, rfl, by decide, inW_X9, Or.inl (bw_in (tb_3 (List.mem_of_getElem? (i := 18) rfl)) rfl)⟩
theorem fl_X7_171 : FL RX7 171 7 16 := ⟨_, _, _, rfl, by decide, inW_X9, Or.inl (bw_in (tb_3 (List.mem_of_getElem? (i := 19) rfl)) rfl)⟩
theorem fl_X10_35 : FL RX10 35 7 17 := ⟨_, _, _, rfl, by decide, inW_X9, Or.inl (bw_in (tb_3 (List.mem_of_getElem? (i := 20) rfl)) rfl)⟩
theorem fl_X9_68 : FL RX9 68 7 17 := ⟨_, _, _, rfl, by decide, inW_X9, Or.inl (bw_in (tb_3 (List.mem_of_getElem? (i := 21) rfl)) rfl)⟩
theorem fl_X7_82 : FL RX7 82 7 17 := ⟨_, _, _, rfl, by decide, inW_X9, Or.inl (bw_in (tb_3 (List.mem_of_getElem? (i := 22) rfl)) rfl)⟩
theorem fl_X0_51 : FL RX0 51 7 17 := ⟨_, _, _, rfl, by decide, inW_X9, Or.inl (bw_in (tb_3 (List.mem_of_getElem? (i := 23) rfl)) rfl)⟩
theorem fl_X6_9 : FL RX6 9 4 0 := ⟨_, _, _, rfl, by decide, inW_X6, Or.inl (bw_in (tb_3 (List.mem_of_getElem? (i := 67) rfl)) rfl)⟩
theorem fl_X6_13 : FL RX6 13 4 1 := ⟨_, _, _, rfl, by decide, inW_X6, Or.inl (bw_in (tb_3 (List.mem_of_getElem? (i := 68) rfl)) rfl)⟩
theorem fp_X6_13 : FP RX6 13 4 1 .int := ⟨_, _, _, tyX6, rfl, by decide, inW_X6, Or.inl (bw_in (tb_3 (List.mem_of_getElem? (i := 68) rfl)) rfl), tyX6_ok, nmX6, rfl, tyX6_ok 1 (by decide)⟩
theorem fl_X8_9 : FL RX8 9 6 0 := ⟨_, _, _, rfl, by decide, inW_X8, Or.inl (bw_in (tb_3 (List.mem_of_getElem? (i := 136) rfl)) rfl)⟩
theorem fl_X7_52 : FL RX7 52 6 0 := ⟨_, _, _, rfl, by decide, inW_X8, Or.inl (bw_in (tb_3 (List.mem_of_getElem? (i := 137) rfl)) rfl)⟩
theorem fl_X4_74 : FL RX4 74 6 0 := ⟨_, _, _, rfl, by decide, inW_X8, Or.inl (bw_in (tb_3 (List.mem_of_getElem? (i := 138) rfl)) rfl)⟩
theorem fl_X8_13 : FL RX8 13 6 1 := ⟨_, _, _, rfl, by decide, inW_X8, Or.inl (bw_in (tb_3 (List.mem_of_getElem? (i := 139) rfl)) rfl)⟩
theorem fl_X7_55 : FL RX7 55 6 1 := ⟨_, _, _, rfl, by decide, inW_X8, Or.inl (bw_in (tb_3 (List.mem_of_getElem? (i := 140) rfl)) rfl)⟩
theorem fl_X8_17 : FL RX8 17 6 2 := ⟨_, _, _, rfl, by decide, inW_X8, Or.inl (bw_in (tb_3 (List.mem_of_getElem? (i := 141) rfl)) rfl)⟩
theorem fl_X8_22 : FL RX8 22 6 3 := ⟨_, _, _, rfl, by decide, inW_X8, Or.inl (bw_in (tb_3 (List.mem_of_getElem? (i := 142) rfl)) rfl)⟩
theorem fl_X8_25 : FL RX8 25 6 4 := ⟨_, _, _, rfl, by decide, inW_X8, Or.inl (bw_in (tb_3 (List.mem_of_getElem? (i := 143) rfl)) rfl)⟩
theorem fp_X8_25 : FP RX8 25 6 4 .int := ⟨_, _, _, tyX8, rfl, by decide, inW_X8, Or.inl (bw_in (tb_3 (List.mem_of_getElem? (i := 143) rfl)) rfl), tyX8_ok, nmX8, rfl, tyX8_ok 4 (by decide)⟩
theorem fl_X8_29 : FL RX8 29 6 5 := ⟨_, _, _, rfl, by decide, inW_X8, Or.inl (bw_in (tb_3 (List.mem_of_getElem? (i := 144) rfl)) rfl)⟩
theorem fp_X8_29 : FP RX8 29 6 5 .long := ⟨_, _, _, tyX8, rfl, by decide, inW_X8, Or.inl (bw_in (tb_3 (List.mem_of_getElem? (i := 144) rfl)) rfl), tyX8_ok, nmX8, rfl, tyX8_ok 5 (by decide)⟩
theorem fl_X8_33 : FL RX8 33 6 6 := ⟨_, _, _, rfl, by decide, inW_X8, Or.inl (bw_in (tb_3 (List.mem_of_getElem? (i := 145) rfl)) rfl)⟩
theorem fp_X8_33 : FP RX8 33 6 6 .int := ⟨_, _, _, tyX8, rfl, by decide, inW_X8, Or.inl (bw_in (tb_3 (List.mem_of_getElem? (i := 145) rfl)) rfl), tyX8_ok, nmX8, rfl, tyX8_ok 6 (by decide)⟩
theorem fl_X4_9 : FL RX4 9 2 0 := ⟨_, _, _, rfl, by decide, inW_X4, Or.inl (bw_in (tb_3 (List.mem_of_getElem? (i := 168) rfl)) rfl)⟩
theorem fl_X10_107 : FL RX10 107 2 0 := ⟨_, _, _, rfl, by decide, inW_X4, Or.inl (bw_in (tb_3 (List.mem_of_getElem? (i := 169) rfl)) rfl)⟩
theorem fl_X4_24 : FL RX4 24 2 1 := ⟨_, _, _, rfl, by decide, inW_X4, Or.inl (bw_in (tb_3 (List.mem_of_getElem? (i := 170) rfl)) rfl)⟩
theorem fl_X4_28 : FL RX4 28 2 2 := ⟨_, _, _, rfl, by decide, inW_X4, Or.inl (bw_in (tb_3 (List.mem_of_getElem? (i := 171) rfl)) rfl)⟩
theorem fp_X4_28 : FP RX4 28 2 2 (.object "QuipuKeepers$Code") := ⟨_, _, _, tyX4, rfl, by decide, inW_X4, Or.inl (bw_in (tb_3 (List.mem_of_getElem? (i := 171) rfl)) rfl), tyX4_ok, nmX4, rfl, tyX4_ok 2 (by decide)⟩
theorem fl_X4_17 : FL RX4 17 2 3 := ⟨_, _, _, rfl, by decide, inW_X4, Or.inl (bw_in (tb_3 (List.mem_of_getElem? (i := 172) rfl)) rfl)⟩
theorem fp_X4_17 : FP RX4 17 2 3 .int := ⟨_, _, _, tyX4, rfl, by decide, inW_X4, Or.inl (bw_in (tb_3 (List.mem_of_getElem? (i := 172) rfl)) rfl), tyX4_ok, nmX4, rfl, tyX4_ok 3 (by decide)⟩
theorem fl_X4_21 : FL RX4 21 2 4 := ⟨_, _, _, rfl, by decide, inW_X4, Or.inl (bw_in (tb_3 (List.mem_of_getElem? (i := 173) rfl)) rfl)⟩
theorem fp_X4_21 : FP RX4 21 2 4 .int := ⟨_, _, _, tyX4, rfl, by decide, inW_X4, Or.inl (bw_in (tb_3 (List.mem_of_getElem? (i := 173) rfl)) rfl), tyX4_ok, nmX4, rfl, tyX4_ok 4 (by decide)⟩
theorem fl_X7_7 : FL RX7 7 5 0 := ⟨_, _, _, rfl, by decide, inW_X7, Or.inl (bw_in (tb_3 (List.mem_of_getElem? (i := 191) rfl)) rfl)⟩
theorem fp_X7_7 : FP RX7 7 5 0 .int := ⟨_, _, _, tyX7, rfl, by decide, inW_X7, Or.inl (bw_in (tb_3 (List.mem_of_getElem? (i := 191) rfl)) rfl), tyX7_ok, nmX7, rfl, tyX7_ok 0 (by decide)⟩
theorem fl_X10_114 : FL RX10 114 5 0 := ⟨_, _, _, rfl, by decide, inW_X7, Or.inl (bw_in (tb_3 (List.mem_of_getElem? (i := 192) rfl)) rfl)⟩
theorem fp_X10_114 : FP RX10 114 5 0 .int := ⟨_, _, _, tyX7, rfl, by decide, inW_X7, Or.inl (bw_in (tb_3 (List.mem_of_getElem? (i := 192) rfl)) rfl), tyX7_ok, nmX7, rfl, tyX7_ok 0 (by decide)⟩
theorem fl_X7_15 : FL RX7 15 5 1 := ⟨_, _, _, rfl, by decide, inW_X7, Or.inl (bw_in (tb_3 (List.mem_of_getElem? (i := 193) rfl)) rfl)⟩
theorem fl_X7_19 : FL RX7 19 5 2 := ⟨_, _, _, rfl, by decide, inW_X7, Or.inl (bw_in (tb_3 (List.mem_of_getElem? (i := 194) rfl)) rfl)⟩
theorem fl_X7_22 : FL RX7 22 5 3 := ⟨_, _, _, rfl, by decide, inW_X7, Or.inl (bw_in (tb_3 (List.mem_of_getElem? (i := 195) rfl)) rfl)⟩
theorem fl_X7_25 : FL RX7 25 5 4 := ⟨_, _, _, rfl, by decide, inW_X7, Or.inl (bw_in (tb_3 (List.mem_of_getElem? (i := 196) rfl)) rfl)⟩
theorem fl_X7_28 : FL RX7 28 5 5 := ⟨_, _, _, rfl, by decide, inW_X7, Or.inl (bw_in (tb_3 (List.mem_of_getElem? (i := 197) rfl)) rfl)⟩
theorem fl_X7_34 : FL RX7 34 5 6 := ⟨_, _, _, rfl, by decide, inW_X7, Or.inl (bw_in (tb_3 (List.mem_of_getElem? (i := 198) rfl)) rfl)⟩
theorem fl_X7_39 : FL RX7 39 5 7 := ⟨_, _, _, rfl, by decide, inW_X7, Or.inl (bw_in (tb_3 (List.mem_of_getElem? (i := 199) rfl)) rfl)⟩
theorem fp_X7_39 : FP RX7 39 5 7 .int := ⟨_, _, _, tyX7, rfl, by decide, inW_X7, Or.inl (bw_in (tb_3 (List.mem_of_getElem? (i := 199) rfl)) rfl), tyX7_ok, nmX7, rfl, tyX7_ok 7 (by decide)⟩
theorem fl_X7_42 : FL RX7 42 5 8 := ⟨_, _, _, rfl, by decide, inW_X7, Or.inl (bw_in (tb_3 (List.mem_of_getElem? (i := 200) rfl)) rfl)⟩
theorem fp_X7_42 : FP RX7 42 5 8 .int := ⟨_, _, _, tyX7, rfl, by decide, inW_X7, Or.inl (bw_in (tb_3 (List.mem_of_getElem? (i := 200) rfl)) rfl), tyX7_ok, nmX7, rfl, tyX7_ok 8 (by decide)⟩
theorem fl_X5_43 : FL RX5 43 3 0 := ⟨_, _, _, rfl, by decide, inW_X5, Or.inl (bw_in (tb_3 (List.mem_of_getElem? (i := 225) rfl)) rfl)⟩
theorem fp_X5_43 : FP RX5 43 3 0 (.object "QuipuKeepers$Told") := ⟨_, _, _, tyX5, rfl, by decide, inW_X5, Or.inl (bw_in (tb_3 (List.mem_of_getElem? (i := 225) rfl)) rfl), tyX5_ok, nmX5, rfl, tyX5_ok 0 (by decide)⟩
theorem fl_X0_28 : FL RX0 28 3 0 := ⟨_, _, _, rfl, by decide, inW_X5, Or.inl (bw_in (tb_3 (List.mem_of_getElem? (i := 226) rfl)) rfl)⟩
theorem fp_X0_28 : FP RX0 28 3 0 (.object "QuipuKeepers$Told") := ⟨_, _, _, tyX5, rfl, by decide, inW_X5, Or.inl (bw_in (tb_3 (List.mem_of_getElem? (i := 226) rfl)) rfl), tyX5_ok, nmX5, rfl, tyX5_ok 0 (by decide)⟩
theorem fl_X5_7 : FL RX5 7 3 1 := ⟨_, _, _, rfl, by decide, inW_X5, Or.inl (bw_in (tb_3 (List.mem_of_getElem? (i := 227) rfl)) rfl)⟩
theorem fp_X5_7 : FP RX5 7 3 1 .int := ⟨_, _, _, tyX5, rfl, by decide, inW_X5, Or.inl (bw_in (tb_3 (List.mem_of_getElem? (i := 227) rfl)) rfl), tyX5_ok, nmX5, rfl, tyX5_ok 1 (by decide)⟩
theorem fl_X0_89 : FL RX0 89 3 1 := ⟨_, _, _, rfl, by decide, inW_X5, Or.inl (bw_in (tb_3 (List.mem_of_getElem? (i := 228) rfl)) rfl)⟩
theorem fp_X0_89 : FP RX0 89 3 1 .int := ⟨_, _, _, tyX5, rfl, by decide, inW_X5, Or.inl (bw_in (tb_3 (List.mem_of_getElem? (i := 228) rfl)) rfl), tyX5_ok, nmX5, rfl, tyX5_ok 1 (by decide)⟩
theorem fl_X5_13 : FL RX5 13 3 2 := ⟨_, _, _, rfl, by decide, inW_X5, Or.inl (bw_in (tb_3 (List.mem_of_getElem? (i := 229) rfl)) rfl)⟩
theorem fp_X5_13 : FP RX5 13 3 2 .int := ⟨_, _, _, tyX5, rfl, by decide, inW_X5, Or.inl (bw_in (tb_3 (List.mem_of_getElem? (i := 229) rfl)) rfl), tyX5_ok, nmX5, rfl, tyX5_ok 2 (by decide)⟩
theorem fl_X10_227 : FL RX10 227 3 2 := ⟨_, _, _, rfl, by decide, inW_X5, Or.inl (bw_in (tb_3 (List.mem_of_getElem? (i := 230) rfl)) rfl)⟩
theorem fp_X10_227 : FP RX10 227 3 2 .int := ⟨_, _, _, tyX5, rfl, by decide, inW_X5, Or.inl (bw_in (tb_3 (List.mem_of_getElem? (i := 230) rfl)) rfl), tyX5_ok, nmX5, rfl, tyX5_ok 2 (by decide)⟩
theorem fl_X5_16 : FL RX5 16 3 3 := ⟨_, _, _, rfl, by decide, inW_X5, Or.inl (bw_in (tb_3 (List.mem_of_getElem? (i := 231) rfl)) rfl)⟩
theorem fp_X5_16 : FP RX5 16 3 3 .int := ⟨_, _, _, tyX5, rfl, by decide, inW_X5, Or.inl (bw_in (tb_3 (List.mem_of_getElem? (i := 231) rfl)) rfl), tyX5_ok, nmX5, rfl, tyX5_ok 3 (by decide)⟩
theorem fl_X5_21 : FL RX5 21 3 4 := ⟨_, _, _, rfl, by decide, inW_X5, Or.inl (bw_in (tb_3 (List.mem_of_getElem? (i := 232) rfl)) rfl)⟩
theorem fl_X10_205 : FL RX10 205 3 4 := ⟨_, _, _, rfl, by decide, inW_X5, Or.inl (bw_in (tb_3 (List.mem_of_getElem? (i := 233) rfl)) rfl)⟩
theorem fl_X5_25 : FL RX5 25 3 5 := ⟨_, _, _, rfl, by decide, inW_X5, Or.inl (bw_in (tb_3 (List.mem_of_getElem? (i := 234) rfl)) rfl)⟩
theorem fl_X5_28 : FL RX5 28 3 6 := ⟨_, _, _, rfl, by decide, inW_X5, Or.inl (bw_in (tb_3 (List.mem_of_getElem? (i := 235) rfl)) rfl)⟩
theorem fl_X0_96 : FL RX0 96 3 6 := ⟨_, _, _, rfl, by decide, inW_X5, Or.inl (bw_in (tb_3 (List.mem_of_getElem? (i := 236) rfl)) rfl)⟩
theorem fl_X10_152 : FL RX10 152 3 6 := ⟨_, _, _, rfl, by decide, inW_X5, Or.inl (bw_in (tb_3 (List.mem_of_getElem? (i := 237) rfl)) rfl)⟩
theorem fl_X5_31 : FL RX5 31 3 7 := ⟨_, _, _, rfl, by decide, inW_X5, Or.inl (bw_in (tb_3 (List.mem_of_getElem? (i := 238) rfl)) rfl)⟩
theorem fl_X0_99 : FL RX0 99 3 7 := ⟨_, _, _, rfl, by decide, inW_X5, Or.inl (bw_in (tb_3 (List.mem_of_getElem? (i := 239) rfl)) rfl)⟩
theorem fl_X5_34 : FL RX5 34 3 8 := ⟨_, _, _, rfl, by decide, inW_X5, Or.inl (bw_in (tb_4 (List.mem_of_getElem? (i := 0) rfl)) rfl)⟩
theorem fl_X0_111 : FL RX0 111 3 8 := ⟨_, _, _, rfl, by decide, inW_X5, Or.inl (bw_in (tb_4 (List.mem_of_getElem? (i := 1) rfl)) rfl)⟩
theorem fl_X5_37 : FL RX5 37 3 9 := ⟨_, _, _, rfl, by decide, inW_X5, Or.inl (bw_in (tb_4 (List.mem_of_getElem? (i := 2) rfl)) rfl)⟩
theorem fl_X0_117 : FL RX0 117 3 9 := ⟨_, _, _, rfl, by decide, inW_X5, Or.inl (bw_in (tb_4 (List.mem_of_getElem? (i := 3) rfl)) rfl)⟩
theorem fl_X10_200 : FL RX10 200 3 9 := ⟨_, _, _, rfl, by decide, inW_X5, Or.inl (bw_in (tb_4 (List.mem_of_getElem? (i := 4) rfl)) rfl)⟩
theorem fl_X5_40 : FL RX5 40 3 10 := ⟨_, _, _, rfl, by decide, inW_X5, Or.inl (bw_in (tb_4 (List.mem_of_getElem? (i := 5) rfl)) rfl)⟩
theorem fl_X0_9 : FL RX0 9 0 0 := ⟨_, _, _, rfl, by decide, inW_X0, Or.inl (bw_in (tb_4 (List.mem_of_getElem? (i := 34) rfl)) rfl)⟩
theorem fl_X0_15 : FL RX0 15 0 1 := ⟨_, _, _, rfl, by decide, inW_X0, Or.inl (bw_in (tb_4 (List.mem_of_getElem? (i := 35) rfl)) rfl)⟩
theorem fp_X0_15 : FP RX0 15 0 1 .int := ⟨_, _, _, tyX0, rfl, by decide, inW_X0, Or.inl (bw_in (tb_4 (List.mem_of_getElem? (i := 35) rfl)) rfl), tyX0_ok, nmX0, rfl, tyX0_ok 1 (by decide)⟩
theorem fl_X10_10 : FL RX10 10 8 0 := ⟨_, _, _, rfl, by decide, inW_X10, Or.inl (bw_in (tb_4 (List.mem_of_getElem? (i := 41) rfl)) rfl)⟩
theorem fp_X10_10 : FP RX10 10 8 0 (.object "QuipuKeepers$Told") := ⟨_, _, _, tyX10, rfl, by decide, inW_X10, Or.inl (bw_in (tb_4 (List.mem_of_getElem? (i := 41) rfl)) rfl), tyX10_ok, nmX10, rfl, tyX10_ok 0 (by decide)⟩
theorem fl_X10_16 : FL RX10 16 8 1 := ⟨_, _, _, rfl, by decide, inW_X10, Or.inl (bw_in (tb_4 (List.mem_of_getElem? (i := 42) rfl)) rfl)⟩
theorem fp_X10_16 : FP RX10 16 8 1 (.object "QuipuKeepers$Told") := ⟨_, _, _, tyX10, rfl, by decide, inW_X10, Or.inl (bw_in (tb_4 (List.mem_of_getElem? (i := 42) rfl)) rfl), tyX10_ok, nmX10, rfl, tyX10_ok 1 (by decide)⟩
theorem fl_X10_22 : FL RX10 22 8 2 := ⟨_, _, _, rfl, by decide, inW_X10, Or.inl (bw_in (tb_4 (List.mem_of_getElem? (i := 43) rfl)) rfl)⟩
theorem fl_X10_29 : FL RX10 29 8 3 := ⟨_, _, _, rfl, by decide, inW_X10, Or.inl (bw_in (tb_4 (List.mem_of_getElem? (i := 44) rfl)) rfl)⟩
theorem fl_X10_42 : FL RX10 42 8 4 := ⟨_, _, _, rfl, by decide, inW_X10, Or.inl (bw_in (tb_4 (List.mem_of_getElem? (i := 45) rfl)) rfl)⟩
theorem fl_X10_49 : FL RX10 49 8 5 := ⟨_, _, _, rfl, by decide, inW_X10, Or.inl (bw_in (tb_4 (List.mem_of_getElem? (i := 46) rfl)) rfl)⟩
theorem fl_X10_58 : FL RX10 58 8 6 := ⟨_, _, _, rfl, by decide, inW_X10, Or.inl (bw_in (tb_4 (List.mem_of_getElem? (i := 47) rfl)) rfl)⟩
theorem fl_X10_62 : FL RX10 62 8 7 := ⟨_, _, _, rfl, by decide, inW_X10, Or.inl (bw_in (tb_4 (List.mem_of_getElem? (i := 48) rfl)) rfl)⟩
theorem fl_X10_68 : FL RX10 68 8 8 := ⟨_, _, _, rfl, by decide, inW_X10, Or.inl (bw_in (tb_4 (List.mem_of_getElem? (i := 49) rfl)) rfl)⟩
theorem fl_X10_72 : FL RX10 72 8 9 := ⟨_, _, _, rfl, by decide, inW_X10, Or.inl (bw_in (tb_4 (List.mem_of_getElem? (i := 50) rfl)) rfl)⟩
theorem fp_X10_72 : FP RX10 72 8 9 .int := ⟨_, _, _, tyX10, rfl, by decide, inW_X10, Or.inl (bw_in (tb_4 (List.mem_of_getElem? (i := 50) rfl)) rfl), tyX10_ok, nmX10, rfl, tyX10_ok 9 (by decide)⟩
section GM
variable {own : String} {cc : ByteArray} {nL d kc kn pc : Nat} {ret : Option FieldType} {Γ : Cx} {lv : List (Option Value)} {st : List Value} {I : MI} {J : MJ} {P : MP} {Φ : State → Prop}
theorem g_get0 (h : Vc own cc nL ret d Γ) {idx ci k i q : Nat} {ks : List Nat} {v : Value} (F : FL own idx ci k) (hd : decode cc pc = .ok (.getfield idx, 3)) (hs : shp i = .inl (ci, ks)) (hk : ks[k]? = some q) (hfv : ∀ ad : Nat → Nat, fvl ad I J P i k q = vmap ad v) (K : VG Γ kc kn (pc + 3) lv (v :: st) I J P Φ) : VG Γ kc kn pc lv (.ref i :: st) I J P Φ := by
  obtain ⟨p, l, e, R, s, m, args, below, meth, c, ad, dC, dI, cy, A⟩ := Γ
  obtain ⟨hx, hb, hml, hr, hown, hts, hlk, hK, hA, hin, hAd, hf, hlo, hRO⟩ := h
  intro H locs ls hP hS hl
  obtain ⟨C, T, N, hc, hkN, hin0, hlink⟩ := F
  have hi := shp_lo hs (by
    have := (List.getElem?_eq_some_iff.mp hc).1
    exact Nat.lt_of_lt_of_le this (by decide))
  have he := wsO_at (ad := ad) (cy := cy) (I := I) (J := J) (P := P) hi
  rw [cel_o hs] at he
  have hv : (fvs ad I J P i 0 ks)[k]? = some (fvl ad I J P i k q) := by rw [fvs_at, hk, Nat.zero_add]; rfl
  rcases hlink with hlink | ⟨host, hlink⟩
  · exact va_get (D := (dC, dI)) hx hb hts hin0 hown hK hP i he hc k hkN (hts _ hlink) (fun _ h9 => h9) hv hd (by rw [hfv]; exact K H locs ls hP hS hl)
  · exact va_getN (D := (dC, dI)) hx hb hts hin0 hown hK hP i he hc k hkN ((hRO.nw _ hlink).use rfl) (fun _ h9 => h9) hv hd (by rw [hfv]; exact K H locs ls hP hS hl)
theorem g_getI (h : Vc own cc nL ret d Γ) {idx ci k i : Nat} {ks : List Nat} (F : FL own idx ci k) (hd : decode cc pc = .ok (.getfield idx, 3)) (hs : shp i = .inl (ci, ks)) (hk : ks[k]? = some 0) (K : VG Γ kc kn (pc + 3) lv (.int (I i k) :: st) I J P Φ) : VG Γ kc kn pc lv (.ref i :: st) I J P Φ := g_get0 h F hd hs hk (fun _ => rfl) K
theorem g_getJ (h : Vc own cc nL ret d Γ) {idx ci k i : Nat} {ks : List Nat} (F : FL own idx ci k) (hd : decode cc pc = .ok (.getfield idx, 3)) (hs : shp i = .inl (ci, ks)) (hk : ks[k]? = some 1) (K : VG Γ kc kn (pc + 3) lv (.long (J i k) :: st) I J P Φ) : VG Γ kc kn pc lv (.ref i :: st) I J P Φ := g_get0 h F hd hs hk (fun _ => rfl) K
theorem g_getP (h : Vc own cc nL ret d Γ) {idx ci k i x : Nat} {ks : List Nat} (F : FL own idx ci k) (hd : decode cc pc = .ok (.getfield idx, 3)) (hs : shp i = .inl (ci, ks)) (hk : ks[k]? = some 2) (hp : P i k = some x) (K : VG Γ kc kn (pc + 3) lv (.ref x :: st) I J P Φ) : VG Γ kc kn pc lv (.ref i :: st) I J P Φ := g_get0 h F hd hs hk (fun ad => by simp [fvl, hp, va_rf, vmap]) K
theorem g_getC (h : Vc own cc nL ret d Γ) {idx ci k i x : Nat} {ks : List Nat} (F : FL own idx ci k) (hd : decode cc pc = .ok (.getfield idx, 3)) (hs : shp i = .inl (ci, ks)) (hk : ks[k]? = some (x + 3)) (K : VG Γ kc kn (pc + 3) lv (.ref x :: st) I J P Φ) : VG Γ kc kn pc lv (.ref i :: st) I J P Φ := g_get0 h F hd hs hk (fun ad => by simp [fvl, vmap]) K
theorem g_putI (h : Vc own cc nL ret d Γ) {idx ci k i : Nat} {ks : List Nat} {x : Int32} (F : FP own idx ci k .int) (hd : decode cc pc = .ok (.putfield idx, 3)) (hs : shp i = .inl (ci, ks)) (hk : ks[k]? = some 0) (K : VG Γ kc kn (pc + 3) lv st (up2 I i k x) J P Φ) : VG Γ kc kn pc lv (.int x :: .ref i :: st) I J P Φ := by
  obtain ⟨p, l, e, R, s, m, args, below, meth, c, ad, dC, dI, cy, A⟩ := Γ
  obtain ⟨hx, hb, hml, hr, hown, hts, hlk, hK, hA, hin, hAd, hf, hlo, hRO⟩ := h
  intro H locs ls hP hS hl
  obtain ⟨C, T, N, ty0, hc, hkN, hin0, hlink, hty, hnm, hfin, hdt⟩ := F
  have hi := shp_lo hs (by
    have := (List.getElem?_eq_some_iff.mp hc).1
    exact Nat.lt_of_lt_of_le this (by decide))
  have he := wsO_at (ad := ad) (cy := cy) (I := I) (J := J) (P := P) hi
  rw [cel_o hs] at he
  have hD := wsO_D (cy := cy) (I := I) (J := J) (P := P) hin hAd
  have hkl : k < (fvs ad I J P i 0 ks).length := by rw [fvs_len]; exact (List.getElem?_eq_some_iff.mp hk).1
  have hset := wsO_set (ad := ad) (cy := cy) (I := I) (I' := (up2 I i k x)) (J := J) (J' := J) (P := P) (P' := P) (x := .inr (ci, (fvs ad I J P i 0 ks).set k (Value.int x))) hi (by rw [cel_o hs, fvs_set (I' := (up2 I i k x)) (J' := J) (P' := P) hk (v := (Value.int x)) (by simp [fvl, up2_s, va_rf]) (fun j r hj => by simp [fvl, up2_n hj])]) (fun j hj => cel_eqI hj)
  have K2 : ∀ (H1 : Heap) (locs1 : List Loc), va_P (dC, dI) vwCl ((wsO ad cy I J P).set i (ad i, .inr (ci, (fvs ad I J P i 0 ks).set k (Value.int x)))) H1 → va_D A ((wsO ad cy I J P).set i (ad i, .inr (ci, (fvs ad I J P i 0 ks).set k (Value.int x)))) → va_S A s.heap H1 locs1 → W p l e R s m args below meth c H1 locs1 kc kn Φ (F0 m (pc + 3) ls (st.map (vmap ad))) := fun H1 locs1 hP1 _ hS1 => K H1 locs1 ls (by rw [hset] at hP1; exact hP1) hS1 hl
  rcases hlink with hlink | ⟨host, hlink⟩
  · exact va_put (D := (dC, dI)) (ty := .int) hx hb hts hin0 ty0 hty hnm hown hK hP hD hS i he hc k hkN (hts _ hlink) (fun _ h9 => h9) hfin hdt rfl rfl hkl hd K2
  · exact va_putN (D := (dC, dI)) (ty := .int) hx hb hts hin0 ty0 hty hnm hown hK hP hD hS i he hc k hkN ((hRO.nw _ hlink).use rfl) (fun _ h9 => h9) hfin hdt rfl rfl hkl hd K2
theorem g_putJ (h : Vc own cc nL ret d Γ) {idx ci k i : Nat} {ks : List Nat} {x : Int64} (F : FP own idx ci k .long) (hd : decode cc pc = .ok (.putfield idx, 3)) (hs : shp i = .inl (ci, ks)) (hk : ks[k]? = some 1) (K : VG Γ kc kn (pc + 3) lv st I (up2 J i k x) P Φ) : VG Γ kc kn pc lv (.long x :: .ref i :: st) I J P Φ := by
  obtain ⟨p, l, e, R, s, m, args, below, meth, c, ad, dC, dI, cy, A⟩ := Γ
  obtain ⟨hx, hb, hml, hr, hown, hts, hlk, hK, hA, hin, hAd, hf, hlo, hRO⟩ := h
  intro H locs ls hP hS hl
  obtain ⟨C, T, N, ty0, hc, hkN, hin0, hlink, hty, hnm, hfin, hdt⟩ := F
  have hi := shp_lo hs (by
    have := (List.getElem?_eq_some_iff.mp hc).1
    exact Nat.lt_of_lt_of_le this (by decide))
  have he := wsO_at (ad := ad) (cy := cy) (I := I) (J := J) (P := P) hi
  rw [cel_o hs] at he
  have hD := wsO_D (cy := cy) (I := I) (J := J) (P := P) hin hAd
  have hkl : k < (fvs ad I J P i 0 ks).length := by rw [fvs_len]; exact (List.getElem?_eq_some_iff.mp hk).1
  have hset := wsO_set (ad := ad) (cy := cy) (I := I) (I' := I) (J := J) (J' := (up2 J i k x)) (P := P) (P' := P) (x := .inr (ci, (fvs ad I J P i 0 ks).set k (Value.long x))) hi (by rw [cel_o hs, fvs_set (I' := I) (J' := (up2 J i k x)) (P' := P) hk (v := (Value.long x)) (by simp [fvl, up2_s, va_rf]) (fun j r hj => by simp [fvl, up2_n hj])]) (fun j hj => cel_eqJ hj)
  have K2 : ∀ (H1 : Heap) (locs1 : List Loc), va_P (dC, dI) vwCl ((wsO ad cy I J P).set i (ad i, .inr (ci, (fvs ad I J P i 0 ks).set k (Value.long x)))) H1 → va_D A ((wsO ad cy I J P).set i (ad i, .inr (ci, (fvs ad I J P i 0 ks).set k (Value.long x)))) → va_S A s.heap H1 locs1 → W p l e R s m args below meth c H1 locs1 kc kn Φ (F0 m (pc + 3) ls (st.map (vmap ad))) := fun H1 locs1 hP1 _ hS1 => K H1 locs1 ls (by rw [hset] at hP1; exact hP1) hS1 hl
  rcases hlink with hlink | ⟨host, hlink⟩
  · exact va_put (D := (dC, dI)) (ty := .long) hx hb hts hin0 ty0 hty hnm hown hK hP hD hS i he hc k hkN (hts _ hlink) (fun _ h9 => h9) hfin hdt rfl rfl hkl hd K2
  · exact va_putN (D := (dC, dI)) (ty := .long) hx hb hts hin0 ty0 hty hnm hown hK hP hD hS i he hc k hkN ((hRO.nw _ hlink).use rfl) (fun _ h9 => h9) hfin hdt rfl rfl hkl hd K2
theorem g_putP (h : Vc own cc nL ret d Γ) {idx ci k i : Nat} {ks : List Nat} {x : Nat} {C0 : String} (F : FP own idx ci k (.object C0)) (hd : decode cc pc = .ok (.putfield idx, 3)) (hs : shp i = .inl (ci, ks)) (hk : ks[k]? = some 2) (K : VG Γ kc kn (pc + 3) lv st I J (up2 P i k (some x)) Φ) : VG Γ kc kn pc lv (.ref x :: .ref i :: st) I J P Φ := by
  obtain ⟨p, l, e, R, s, m, args, below, meth, c, ad, dC, dI, cy, A⟩ := Γ
  obtain ⟨hx, hb, hml, hr, hown, hts, hlk, hK, hA, hin, hAd, hf, hlo, hRO⟩ := h
  intro H locs ls hP hS hl
  obtain ⟨C, T, N, ty0, hc, hkN, hin0, hlink, hty, hnm, hfin, hdt⟩ := F
  have hi := shp_lo hs (by
    have := (List.getElem?_eq_some_iff.mp hc).1
    exact Nat.lt_of_lt_of_le this (by decide))
  have he := wsO_at (ad := ad) (cy := cy) (I := I) (J := J) (P := P) hi
  rw [cel_o hs] at he
  have hD := wsO_D (cy := cy) (I := I) (J := J) (P := P) hin hAd
  have hkl : k < (fvs ad I J P i 0 ks).length := by rw [fvs_len]; exact (List.getElem?_eq_some_iff.mp hk).1
  have hset := wsO_set (ad := ad) (cy := cy) (I := I) (I' := I) (J := J) (J' := J) (P := P) (P' := (up2 P i k (some x))) (x := .inr (ci, (fvs ad I J P i 0 ks).set k (Value.ref (ad x)))) hi (by rw [cel_o hs, fvs_set (I' := I) (J' := J) (P' := (up2 P i k (some x))) hk (v := (Value.ref (ad x))) (by simp [fvl, up2_s, va_rf]) (fun j r hj => by simp [fvl, up2_n hj])]) (fun j hj => cel_eqP hj)
  have K2 : ∀ (H1 : Heap) (locs1 : List Loc), va_P (dC, dI) vwCl ((wsO ad cy I J P).set i (ad i, .inr (ci, (fvs ad I J P i 0 ks).set k (Value.ref (ad x))))) H1 → va_D A ((wsO ad cy I J P).set i (ad i, .inr (ci, (fvs ad I J P i 0 ks).set k (Value.ref (ad x))))) → va_S A s.heap H1 locs1 → W p l e R s m args below meth c H1 locs1 kc kn Φ (F0 m (pc + 3) ls (st.map (vmap ad))) := fun H1 locs1 hP1 _ hS1 => K H1 locs1 ls (by rw [hset] at hP1; exact hP1) hS1 hl
  rcases hlink with hlink | ⟨host, hlink⟩
  · exact va_put (D := (dC, dI)) (ty := (.object C0)) hx hb hts hin0 ty0 hty hnm hown hK hP hD hS i he hc k hkN (hts _ hlink) (fun _ h9 => h9) hfin hdt rfl rfl hkl hd K2
  · exact va_putN (D := (dC, dI)) (ty := (.object C0)) hx hb hts hin0 ty0 hty hnm hown hK hP hD hS i he hc k hkN ((hRO.nw _ hlink).use rfl) (fun _ h9 => h9) hfin hdt rfl rfl hkl hd K2
theorem g_iald (h : Vc own cc nL ret d Γ) {i n : Nat} {x : Int32} (j : Nat) (hd : decode cc pc = .ok (.iaload, 1)) (hs : shp i = .inr (0, n)) (hj : x = nI j) (hn : j < n) (K : VG Γ kc kn (pc + 1) lv (.int (I i j) :: st) I J P Φ) : VG Γ kc kn pc lv (.int x :: .ref i :: st) I J P Φ := by
  obtain ⟨p, l, e, R, s, m, args, below, meth, c, ad, dC, dI, cy, A⟩ := Γ
  obtain ⟨hx, hb, hml, hr, hown, hts, hlk, hK, hA, hin, hAd, hf, hlo, hRO⟩ := h
  intro H locs ls hP hS hl
  have hle := shp_le hs
  have he := wsO_at (ad := ad) (cy := cy) (I := I) (J := J) (P := P) (shp_lt hs)
  rw [cel_i hs (by decide)] at he
  have hcl : x.toNatClampNeg = j := by rw [hj]; exact nI_clamp (by omega)
  refine va_iald (D := (dC, dI)) (tys := tysO cy) hx hb hK hP i 0 he rfl (by rw [hj]; exact vp_in_nI hn (by omega)) hd ?_
  rw [hcl]
  exact K H locs ls hP hS hl
theorem g_bald (h : Vc own cc nL ret d Γ) {i n : Nat} {x : Int32} (j : Nat) (hd : decode cc pc = .ok (.baload, 1)) (hs : shp i = .inr (1, n)) (hj : x = nI j) (hn : j < n) (K : VG Γ kc kn (pc + 1) lv (.int (I i j) :: st) I J P Φ) : VG Γ kc kn pc lv (.int x :: .ref i :: st) I J P Φ := by
  obtain ⟨p, l, e, R, s, m, args, below, meth, c, ad, dC, dI, cy, A⟩ := Γ
  obtain ⟨hx, hb, hml, hr, hown, hts, hlk, hK, hA, hin, hAd, hf, hlo, hRO⟩ := h
  intro H locs ls hP hS hl
  have hle := shp_le hs
  have he := wsO_at (ad := ad) (cy := cy) (I := I) (J := J) (P := P) (shp_lt hs)
  rw [cel_i hs (by decide)] at he
  have hcl : x.toNatClampNeg = j := by rw [hj]; exact nI_clamp (by omega)
  refine va_bald (D := (dC, dI)) (tys := tysO cy) hx hb hK hP i 1 he rfl (by rw [hj]; exact vp_in_nI hn (by omega)) hd ?_
  rw [hcl]
  exact K H locs ls hP hS hl
theorem g_zald (h : Vc own cc nL ret d Γ) {i n : Nat} {x : Int32} (j : Nat) (hd : decode cc pc = .ok (.baload, 1)) (hs : shp i = .inr (2, n)) (hj : x = nI j) (hn : j < n) (K : VG Γ kc kn (pc + 1) lv (.int (I i j) :: st) I J P Φ) : VG Γ kc kn pc lv (.int x :: .ref i :: st) I J P Φ := by
  obtain ⟨p, l, e, R, s, m, args, below, meth, c, ad, dC, dI, cy, A⟩ := Γ
  obtain ⟨hx, hb, hml, hr, hown, hts, hlk, hK, hA, hin, hAd, hf, hlo, hRO⟩ := h
  intro H locs ls hP hS hl
  have hle := shp_le hs
  have he := wsO_at (ad := ad) (cy := cy) (I := I) (J := J) (P := P) (shp_lt hs)
  rw [cel_i hs (by decide)] at he
  have hcl : x.toNatClampNeg = j := by rw [hj]; exact nI_clamp (by omega)
  refine va_zald (D := (dC, dI)) (tys := tysO cy) hx hb hK hP i 2 he rfl (by rw [hj]; exact vp_in_nI hn (by omega)) hd ?_
  rw [hcl]
  exact K H locs ls hP hS hl
theorem g_lald (h : Vc own cc nL ret d Γ) {i n : Nat} {x : Int32} (j : Nat) (hd : decode cc pc = .ok (.laload, 1)) (hs : shp i = .inr (3, n)) (hj : x = nI j) (hn : j < n) (K : VG Γ kc kn (pc + 1) lv (.long (J i j) :: st) I J P Φ) : VG Γ kc kn pc lv (.int x :: .ref i :: st) I J P Φ := by
  obtain ⟨p, l, e, R, s, m, args, below, meth, c, ad, dC, dI, cy, A⟩ := Γ
  obtain ⟨hx, hb, hml, hr, hown, hts, hlk, hK, hA, hin, hAd, hf, hlo, hRO⟩ := h
  intro H locs ls hP hS hl
  have hle := shp_le hs
  have he := wsO_at (ad := ad) (cy := cy) (I := I) (J := J) (P := P) (shp_lt hs)
  rw [cel_l hs] at he
  have hcl : x.toNatClampNeg = j := by rw [hj]; exact nI_clamp (by omega)
  refine va_lald (D := (dC, dI)) (tys := tysO cy) hx hb hK hP i 3 he rfl (by rw [hj]; exact vp_in_nI hn (by omega)) hd ?_
  rw [hcl]
  exact K H locs ls hP hS hl
theorem g_iast (h : Vc own cc nL ret d Γ) {i n : Nat} {x : Int32} {v : Int32} (j : Nat) (hd : decode cc pc = .ok (.iastore, 1)) (hs : shp i = .inr (0, n)) (hj : x = nI j) (hn : j < n) (K : VG Γ kc kn (pc + 1) lv st (up2 I i j v) J P Φ) : VG Γ kc kn pc lv (.int v :: .int x :: .ref i :: st) I J P Φ := by
  obtain ⟨p, l, e, R, s, m, args, below, meth, c, ad, dC, dI, cy, A⟩ := Γ
  obtain ⟨hx, hb, hml, hr, hown, hts, hlk, hK, hA, hin, hAd, hf, hlo, hRO⟩ := h
  intro H locs ls hP hS hl
  have hle := shp_le hs
  have he := wsO_at (ad := ad) (cy := cy) (I := I) (J := J) (P := P) (shp_lt hs)
  rw [cel_i hs (by decide)] at he
  have hcl : x.toNatClampNeg = j := by rw [hj]; exact nI_clamp (by omega)
  have hD := wsO_D (cy := cy) (I := I) (J := J) (P := P) hin hAd
  refine va_iast (D := (dC, dI)) (tys := tysO cy) hx hb hK hP hD hS i 0 he rfl (by rw [hj]; exact vp_in_nI hn (by omega)) hd (fun H1 locs1 hP1 _ hS1 => K H1 locs1 ls ?_ hS1 hl)
  have eu : up2 I i j v i = upd (I i) j v := by funext q; simp [up2, upd, vp_updL]
  rw [hcl, wsO_set (ad := ad) (cy := cy) (I := I) (I' := (up2 I i j v)) (J := J) (J' := J) (P := P) (P' := P) (shp_lt hs) (by rw [cel_i hs (by decide), eu]) (fun j hj => cel_eqI hj)] at hP1
  exact hP1
theorem g_bast (h : Vc own cc nL ret d Γ) {i n : Nat} {x : Int32} {v : Int32} (j : Nat) (hd : decode cc pc = .ok (.bastore, 1)) (hs : shp i = .inr (1, n)) (hj : x = nI j) (hn : j < n) (K : VG Γ kc kn (pc + 1) lv st (up2 I i j (vp_nar .byte v)) J P Φ) : VG Γ kc kn pc lv (.int v :: .int x :: .ref i :: st) I J P Φ := by
  obtain ⟨p, l, e, R, s, m, args, below, meth, c, ad, dC, dI, cy, A⟩ := Γ
  obtain ⟨hx, hb, hml, hr, hown, hts, hlk, hK, hA, hin, hAd, hf, hlo, hRO⟩ := h
  intro H locs ls hP hS hl
  have hle := shp_le hs
  have he := wsO_at (ad := ad) (cy := cy) (I := I) (J := J) (P := P) (shp_lt hs)
  rw [cel_i hs (by decide)] at he
  have hcl : x.toNatClampNeg = j := by rw [hj]; exact nI_clamp (by omega)
  have hD := wsO_D (cy := cy) (I := I) (J := J) (P := P) hin hAd
  refine va_bast (D := (dC, dI)) (tys := tysO cy) hx hb hK hP hD hS i 1 he rfl (by rw [hj]; exact vp_in_nI hn (by omega)) hd (fun H1 locs1 hP1 _ hS1 => K H1 locs1 ls ?_ hS1 hl)
  have eu : up2 I i j (vp_nar .byte v) i = upd (I i) j (vp_nar .byte v) := by funext q; simp [up2, upd, vp_updL]
  rw [hcl, wsO_set (ad := ad) (cy := cy) (I := I) (I' := (up2 I i j (vp_nar .byte v))) (J := J) (J' := J) (P := P) (P' := P) (shp_lt hs) (by rw [cel_i hs (by decide), eu]) (fun j hj => cel_eqI hj)] at hP1
  exact hP1
theorem g_zast (h : Vc own cc nL ret d Γ) {i n : Nat} {x : Int32} {v : Int32} (j : Nat) (hd : decode cc pc = .ok (.bastore, 1)) (hs : shp i = .inr (2, n)) (hj : x = nI j) (hn : j < n) (K : VG Γ kc kn (pc + 1) lv st (up2 I i j (vp_nar .boolean v)) J P Φ) : VG Γ kc kn pc lv (.int v :: .int x :: .ref i :: st) I J P Φ := by
  obtain ⟨p, l, e, R, s, m, args, below, meth, c, ad, dC, dI, cy, A⟩ := Γ
  obtain ⟨hx, hb, hml, hr, hown, hts, hlk, hK, hA, hin, hAd, hf, hlo, hRO⟩ := h
  intro H locs ls hP hS hl
  have hle := shp_le hs
  have he := wsO_at (ad := ad) (cy := cy) (I := I) (J := J) (P := P) (shp_lt hs)
  rw [cel_i hs (by decide)] at he
  have hcl : x.toNatClampNeg = j := by rw [hj]; exact nI_clamp (by omega)
  have hD := wsO_D (cy := cy) (I := I) (J := J) (P := P) hin hAd
  refine va_zast (D := (dC, dI)) (tys := tysO cy) hx hb hK hP hD hS i 2 he rfl (by rw [hj]; exact vp_in_nI hn (by omega)) hd (fun H1 locs1 hP1 _ hS1 => K H1 locs1 ls ?_ hS1 hl)
  have eu : up2 I i j (vp_nar .boolean v) i = upd (I i) j (vp_nar .boolean v) := by funext q; simp [up2, upd, vp_updL]
  rw [hcl, wsO_set (ad := ad) (cy := cy) (I := I) (I' := (up2 I i j (vp_nar .boolean v))) (J := J) (J' := J) (P := P) (P' := P) (shp_lt hs) (by rw [cel_i hs (by decide), eu]) (fun j hj => cel_eqI hj)] at hP1
  exact hP1
theorem g_last (h : Vc own cc nL ret d Γ) {i n : Nat} {x : Int32} {v : Int64} (j : Nat) (hd : decode cc pc = .ok (.lastore, 1)) (hs : shp i = .inr (3, n)) (hj : x = nI j) (hn : j < n) (K : VG Γ kc kn (pc + 1) lv st I (up2 J i j v) P Φ) : VG Γ kc kn pc lv (.long v :: .int x :: .ref i :: st) I J P Φ := by
  obtain ⟨p, l, e, R, s, m, args, below, meth, c, ad, dC, dI, cy, A⟩ := Γ
  obtain ⟨hx, hb, hml, hr, hown, hts, hlk, hK, hA, hin, hAd, hf, hlo, hRO⟩ := h
  intro H locs ls hP hS hl
  have hle := shp_le hs
  have he := wsO_at (ad := ad) (cy := cy) (I := I) (J := J) (P := P) (shp_lt hs)
  rw [cel_l hs] at he
  have hcl : x.toNatClampNeg = j := by rw [hj]; exact nI_clamp (by omega)
  have hD := wsO_D (cy := cy) (I := I) (J := J) (P := P) hin hAd
  refine va_last (D := (dC, dI)) (tys := tysO cy) hx hb hK hP hD hS i 3 he rfl (by rw [hj]; exact vp_in_nI hn (by omega)) hd (fun H1 locs1 hP1 _ hS1 => K H1 locs1 ls ?_ hS1 hl)
  have eu : up2 J i j v i = vp_updL (J i) j v := by funext q; simp [up2, upd, vp_updL]
  rw [hcl, wsO_set (ad := ad) (cy := cy) (I := I) (I' := I) (J := J) (J' := (up2 J i j v)) (P := P) (P' := P) (shp_lt hs) (by rw [cel_l hs, eu]) (fun j hj => cel_eqJ hj)] at hP1
  exact hP1
theorem g_aald (h : Vc own cc nL ret d Γ) {i n b : Nat} {x : Int32} (j : Nat) (hd : decode cc pc = .ok (.aaload, 1)) (hs : shp i = .inr (b + 4, n)) (hj : x = nI j) (hn : j < n) (K : VG Γ kc kn (pc + 1) lv (.ref (b + j) :: st) I J P Φ) : VG Γ kc kn pc lv (.int x :: .ref i :: st) I J P Φ := by
  obtain ⟨p, l, e, R, s, m, args, below, meth, c, ad, dC, dI, cy, A⟩ := Γ
  obtain ⟨hx, hb, hml, hr, hown, hts, hlk, hK, hA, hin, hAd, hf, hlo, hRO⟩ := h
  intro H locs ls hP hS hl
  have hle := shp_le hs
  have he := wsO_at (ad := ad) (cy := cy) (I := I) (J := J) (P := P) (shp_lt hs)
  rw [cel_q hs] at he
  have hcl : x.toNatClampNeg = j := by rw [hj]; exact nI_clamp (by omega)
  have hiv : vp_in x n := by rw [hj]; exact vp_in_nI hn (by omega)
  have hlt : x.toNatClampNeg < n := by rw [hcl]; exact hn
  refine W.aald (v := .ref (ad (b + j))) (ty := .array .int) hx hb (hP i _ he) ((hK.2 4 _ rfl).1 n (fun j => va_rf (some (ad (b + j))))) rfl (fun q => by cases q) (by show ¬ (x < 0 ∨ (arrV _ _ _).slots.size ≤ _); rw [arrV_size]; exact hiv) (by show (arrV _ _ _).slots[_]? = _; rw [arrV_read _ _ hlt, hcl]; rfl) rfl rfl hd ?_
  exact K H locs ls hP hS hl
theorem g_alen (h : Vc own cc nL ret d Γ) {i a n : Nat} (hd : decode cc pc = .ok (.arraylength, 1)) (hs : shp i = .inr (a, n)) (ha : a < 4) (K : VG Γ kc kn (pc + 1) lv (.int (nI n) :: st) I J P Φ) : VG Γ kc kn pc lv (.ref i :: st) I J P Φ := by
  obtain ⟨p, l, e, R, s, m, args, below, meth, c, ad, dC, dI, cy, A⟩ := Γ
  obtain ⟨hx, hb, hml, hr, hown, hts, hlk, hK, hA, hin, hAd, hf, hlo, hRO⟩ := h
  intro H locs ls hP hS hl
  have he := wsO_at (ad := ad) (cy := cy) (I := I) (J := J) (P := P) (shp_lt hs)
  rcases Nat.lt_or_ge a 3 with h3 | h3
  · rw [cel_i hs h3] at he
    have ht : ∃ ty, (tysO cy)[a]? = some (cy a, ty) := by
      rcases (show a = 0 ∨ a = 1 ∨ a = 2 by omega) with rfl | rfl | rfl <;> exact ⟨_, rfl⟩
    obtain ⟨ty, ht⟩ := ht
    exact va_alen (D := (dC, dI)) (tys := tysO cy) hx hb hK hP i a he ht rfl hd (K H locs ls hP hS hl)
  · have : a = 3 := by omega
    subst this
    rw [cel_l hs] at he
    exact va_alen (D := (dC, dI)) (tys := tysO cy) hx hb hK hP i 3 he rfl rfl hd (K H locs ls hP hS hl)
def Qi (Q : Int32 → MI → MJ → MP → Prop) : Option Value → MI → MJ → MP → Prop := fun r I J P => ∃ x, r = some (.int x) ∧ Q x I J P
def Ql (Q : Int64 → MI → MJ → MP → Prop) : Option Value → MI → MJ → MP → Prop := fun r I J P => ∃ x, r = some (.long x) ∧ Q x I J P
def Qv (Q : MI → MJ → MP → Prop) : Option Value → MI → MJ → MP → Prop := fun r I J P => r = none ∧ Q I J P
theorem g_iret {x : Int32} {Q : Int32 → MI → MJ → MP → Prop} (h : Vc own cc nL (some .int) d Γ) (hd : decode cc pc = .ok (.ireturn, 1)) (hq : Q x I J P) : VG Γ 0 0 pc lv [.int x] I J P (Fnl Γ (Qi Q)) := by
  obtain ⟨p, l, e, R, s, m, args, below, meth, c, ad, dC, dI, cy, A⟩ := Γ
  obtain ⟨hx, hb, hml, hr, hown, hts, hlk, hK, hA, hin, hAd, hf, hlo, hRO⟩ := h
  intro H locs ls hP hS hl
  rw [fnl_eq]
  exact W.iret (v := x) hx hb hr (fun t ht hW => ⟨⟨_, I, J, P, rfl, by first | exact ⟨_, rfl, hq⟩ | exact ⟨rfl, hq⟩, by rw [ht]; exact hP, va_K.moved hW.alike hK⟩, hS.F ht⟩) hS.2.2 hd hlk
theorem g_zret {x : Int32} {ty : FieldType} {Q : Int32 → MI → MJ → MP → Prop} (h : Vc own cc nL (some ty) d Γ) (hd : decode cc pc = .ok (.ireturn, 1)) (hn : narrow ty (.int x) = .int x) (hq : Q x I J P) : VG Γ 0 0 pc lv [.int x] I J P (Fnl Γ (Qi Q)) := by
  obtain ⟨p, l, e, R, s, m, args, below, meth, c, ad, dC, dI, cy, A⟩ := Γ
  obtain ⟨hx, hb, hml, hr, hown, hts, hlk, hK, hA, hin, hAd, hf, hlo, hRO⟩ := h
  intro H locs ls hP hS hl
  rw [fnl_eq]
  exact W.zret (v := x) hx hb hr hn (fun t ht hW => ⟨⟨_, I, J, P, rfl, by first | exact ⟨_, rfl, hq⟩ | exact ⟨rfl, hq⟩, by rw [ht]; exact hP, va_K.moved hW.alike hK⟩, hS.F ht⟩) hS.2.2 hd hlk
theorem g_lret {x : Int64} {Q : Int64 → MI → MJ → MP → Prop} (h : Vc own cc nL (some .long) d Γ) (hd : decode cc pc = .ok (.lreturn, 1)) (hq : Q x I J P) : VG Γ 0 0 pc lv [.long x] I J P (Fnl Γ (Ql Q)) := by
  obtain ⟨p, l, e, R, s, m, args, below, meth, c, ad, dC, dI, cy, A⟩ := Γ
  obtain ⟨hx, hb, hml, hr, hown, hts, hlk, hK, hA, hin, hAd, hf, hlo, hRO⟩ := h
  intro H locs ls hP hS hl
  rw [fnl_eq]
  exact W.lret (v := x) hx hb hr (fun t ht hW => ⟨⟨_, I, J, P, rfl, by first | exact ⟨_, rfl, hq⟩ | exact ⟨rfl, hq⟩, by rw [ht]; exact hP, va_K.moved hW.alike hK⟩, hS.F ht⟩) hS.2.2 hd hlk
theorem g_vret {Q : MI → MJ → MP → Prop} (h : Vc own cc nL none d Γ) (hd : decode cc pc = .ok (.return_, 1)) (hq : Q I J P) : VG Γ 0 0 pc lv [] I J P (Fnl Γ (Qv Q)) := by
  obtain ⟨p, l, e, R, s, m, args, below, meth, c, ad, dC, dI, cy, A⟩ := Γ
  obtain ⟨hx, hb, hml, hr, hown, hts, hlk, hK, hA, hin, hAd, hf, hlo, hRO⟩ := h
  intro H locs ls hP hS hl
  rw [fnl_eq]
  exact W.vret hx hb hr (fun t ht hW => ⟨⟨_, I, J, P, rfl, by first | exact ⟨_, rfl, hq⟩ | exact ⟨rfl, hq⟩, by rw [ht]; exact hP, va_K.moved hW.alike hK⟩, hS.F ht⟩) hS.2.2 hd hlk
def Sp (y : MethodName) (cb : ByteArray) (mL : Nat) (rt : Option FieldType) (d : Nat) (as : List Value) (I : MI) (J : MJ) (P : MP) (Q : Option Value → MI → MJ → MP → Prop) : Prop := ∀ Γ : Cx, Vc y.cls cb mL rt d Γ → VG Γ 0 0 0 (ent as mL) [] I J P (Fnl Γ Q)
def MIv (y : MethodName) (cb : ByteArray) (mL : Nat) (rt : Option FieldType) (n : Nat) : Prop := Cond.code y cb mL rt ∈ bigW ∧ Cond.instanceMethod y ∈ bigW ∧ Cond.selects y.cls y y ∈ bigW ∧ Cond.initialized y.cls ∈ bigW ∧ plainName y.cls = true ∧ (y.cls ≠ "java/lang/invoke/MethodHandle" ∧ y.cls ≠ "java/lang/invoke/VarHandle" ∧ (parseMethodDescriptor y.desc).map (fun d => d.parameters.length) = some n) ∧ mL ≤ 45
def MIs (y : MethodName) (cb : ByteArray) (mL : Nat) (rt : Option FieldType) (n : Nat) : Prop := Cond.code y cb mL rt ∈ bigW ∧ Cond.static y ∈ bigW ∧ Cond.initialized y.cls ∈ bigW ∧ plainName y.cls = true ∧ (y.cls ≠ "java/lang/invoke/MethodHandle" ∧ y.cls ≠ "java/lang/invoke/VarHandle" ∧ (parseMethodDescriptor y.desc).map (fun d => d.parameters.length) = some n) ∧ mL ≤ 45
/-- there is room for what was made so far -/
def Rok (Γ : Cx) (kc kn : Nat) : Prop := match Γ with
  | (_, _, _, R, _, _, _, _, _, _, _, _, _, _, _) => kc ≤ R.cells ∧ kn ≤ R.slots
theorem rok0 {Γ : Cx} : Rok Γ 0 0 := by
  obtain ⟨p, l, e, R, s, m, args, below, meth, c, ad, dC, dI, cy, A⟩ := Γ
  exact ⟨Nat.zero_le _, Nat.zero_le _⟩
def rmO (d : Nat) : Room := { frames := d, cells := 0, slots := 0, locals := 64 * d }
def PcO (ad : Nat → Nat) (dC : Nat → ClassId) (dI : Nat → Nat → Nat) (cy : Nat → ClassId) (sz : Nat) (I : MI) (J : MJ) (P : MP) : State → Prop := fun U => U.heap.size = sz ∧ va_P (dC, dI) vwCl (wsO ad cy I J P) U.heap ∧ va_K (dC, dI) vwCl (tysO cy) U ∧ RO ad (va_A (wsO ad cy I J P) sz) U U.heap
theorem met_of {y : MethodName} {cb : ByteArray} {mL : Nat} {rt : Option FieldType} {as : List Value} {I : MI} {J : MJ} {P : MP} {Q : Option Value → MI → MJ → MP → Prop} (hy : plainName y.cls = true) (he : (entA as).length ≤ mL) (hS : Sp y cb mL rt d as I J P Q) (l : Launch) (ad : Nat → Nat) (dC : Nat → ClassId) (dI : Nat → Nat → Nat) (cy : Nat → ClassId) (sz : Nat) (hin : ∀ i j, i < 80 → j < 80 → ad i = ad j → i = j) : Met l y (Cond.code y cb mL rt :: bigW) (rmO d) (va_Pc (as.map (vmap ad)) (PcO ad dC dI cy sz I J P)) (Qn ad dC dI cy (va_A (wsO ad cy I J P) sz) Q) 0 0 (va_A (wsO ad cy I J P) sz) := by
  refine Met.ofW (cc := cb) (maxL := mL) (ret := rt) hy rfl ?_
  intro p e s m args below meth c s₁ B hml hv
  obtain ⟨rfl, hsz, hP, hK, hRO⟩ := hv
  have hts := atoms_spec (ws := Cond.code y cb mL rt :: bigW) B.pre
  have hk := hS (p, l, e, (headSpec (Cond.code y cb mL rt :: bigW) (rmO d)).room, s, m, _, below, meth, c, ad, dC, dI, cy, va_A (wsO ad cy I J P) sz) ⟨B.exec, B.bytes, hml, B.returns, findClass_of_methodNamed B.named, fun w hw => hts w (List.mem_cons_of_mem _ hw), B.notSynchronized, hK, fun q hq => Or.inr (by rw [← hsz]; exact hq), hin, fun i hi => va_A.in (wsO_at hi), (show d ≤ d from Nat.le_refl _), (show 64 * d ≤ 64 * d from Nat.le_refl _), hRO⟩
  rw [lg_entry_eq]
  have hl := lv_entry (as.map (vmap ad)) (n := mL) (by rw [ent_len]; exact he)
  rw [fnl_eq] at hk
  refine hk s.heap [] _ hP va_S.rf ?_
  rw [hml]
  rw [ent, asl_app, asl_ent]
  exact hl
theorem pco_blind {as : List Value} {ad : Nat → Nat} {dC : Nat → ClassId} {dI : Nat → Nat → Nat} {cy : Nat → ClassId} {sz : Nat} {I : MI} {J : MJ} {P : MP} : FrameBlind (va_Pc as (PcO ad dC dI cy sz I J P)) := by
  intro a U g mk q
  obtain ⟨q0, q1, qP, qK, qR⟩ := q
  exact ⟨q0, q1, qP, va_K.moved (u := U) (U := U.calling g mk a) (Vm.Alike.refl U.vm) qK, qR.calling⟩
theorem run_back {p : Program} {l : Launch} {e : Env} {R : Room} {s : State} {m : MethodId} {args : Array Value} {below : List Frame} {meth : Method} {c : Code} {H : Heap} {locs : List Loc} {ls : Array Slot} {ad : Nat → Nat} {dC : Nat → ClassId} {dI : Nat → Nat → Nat} {cy : Nat → ClassId} {A A1 free : Nat → Prop} {stk : List Value} {a : Array Value} {Q : Option Value → MI → MJ → MP → Prop}
    (hr : va_Run p l e R s m args below meth c H locs kc kn 0 0 (F0 m pc ls stk) (st.map (vmap ad)) (Qn ad dC dI cy A1 Q a) free) (hS : va_S A s.heap H locs) (hA1 : ∀ q, A1 q → A q) (hf : ∀ q, free q → A q) (hl : lv_has ls c.maxLocals (asl ad 0 lv))
    (hq : ∀ r I J P, Q r I J P → VG (p, l, e, R, s, m, args, below, meth, c, ad, dC, dI, cy, A) kc kn (pc + 3) lv (r.toList ++ st) I J P Φ) : W p l e R s m args below meth c H locs kc kn Φ (F0 m pc ls stk) := by
  intro T hT X
  obtain ⟨v, st₀, t, T', L, h0, X', hL, e1, e2, ⟨⟨r, I1, J1, P1, hv, hq1, hP1, -⟩, hz, hk⟩, stp⟩ := hr T hT X
  cases hv
  rw [h0] at hz hk
  have hS1 : va_S A s.heap T'.heap (locs ++ L) := ⟨Nat.le_trans hS.1 (by rw [e1]; exact hz), fun q h1 h2 => by rw [e1, hk q (Nat.lt_of_lt_of_le h1 hS.1) (fun z => h2 (hA1 q z))]; exact hS.2.1 q h1 h2, fun q hq => by
      rcases List.mem_append.mp hq with h | h
      · exact hS.2.2 q h
      · exact hf _ (hL q h)⟩
  obtain ⟨t2, a1, b1⟩ := hq r I1 J1 P1 hq1 T'.heap (locs ++ L) ls (by rw [e1]; exact hP1) hS1 hl T' rfl X'
  refine ⟨t2, stp t2 ?_, b1⟩
  have ee : (r.toList ++ st).map (vmap ad) = (r.map (vmap ad)).toList ++ st.map (vmap ad) := by cases r <;> rfl
  rw [ee] at a1
  exact a1
theorem fnl_mono {Q Q2 : Option Value → MI → MJ → MP → Prop} {as : List (Option Value)} (hq : ∀ r I J P, Q r I J P → Q2 r I J P) (k : VG Γ kc kn pc as st I J P (Fnl Γ Q)) : VG Γ kc kn pc as st I J P (Fnl Γ Q2) := by
  obtain ⟨p, l, e, R, s, m, args, below, meth, c, ad, dC, dI, cy, A⟩ := Γ
  intro H locs ls hP hS hl T hT X
  obtain ⟨t, a, b⟩ := k H locs ls hP hS hl T hT X
  refine ⟨t, a, ?_⟩
  rw [fnl_eq] at b ⊢
  obtain ⟨o, b1, b2, ⟨⟨r, I1, J1, P1, hv, hq1, hP1, hK1⟩, hF⟩, b3⟩ := b
  exact ⟨o, b1, b2, ⟨⟨r, I1, J1, P1, hv, hq _ _ _ _ hq1, hP1, hK1⟩, hF⟩, b3⟩
theorem gA1 {ad : Nat → Nat} {cy : Nat → ClassId} {A : Nat → Prop} {H0 H : Heap} {locs : List Loc} (hAd : ∀ i, i < 80 → A (ad i)) (hA : ∀ q, H0.size ≤ q → A q) (hS : va_S A H0 H locs) : ∀ q, va_A (wsO ad cy I J P) H.size q → A q := by
  intro q hq
  rcases hq with ⟨k, e, h⟩ | h
  · obtain ⟨h1, h2⟩ := wsO_ix h
    cases h2
    exact hAd k h1
  · exact hA q (Nat.le_trans hS.1 h)
theorem g_callV (h : Vc own cc nL ret (d + 1) Γ) (hrk : Rok Γ kc kn) {y : MethodName} {cb : ByteArray} {mL idx b ci : Nat} {rt : Option FieldType} {ks : List Nat} {As : List Value} {q : vw_C} {stk : List Value} (hm : MIv y cb mL rt As.length) (hd : decode cc pc = .ok (.invokevirtual idx, 3)) (hl0 : Cond.methodLink own idx y ∈ bigW) (hs : shp b = .inl (ci, ks)) (hci : vwCl[ci]? = some q) (hq : q.1 = y.cls) (hent : (entA (.ref b :: As)).length ≤ mL) (hstk : stk = As.reverse ++ .ref b :: st) (hcat : (st.map fun v => v.category).sum ≤ 8) (hc : Sp y cb mL rt d (.ref b :: As) I J P (fun r I' J' P' => VG Γ kc kn (pc + 3) lv (r.toList ++ st) I' J' P' Φ)) : VG Γ kc kn pc lv stk I J P Φ := by
  subst hstk
  obtain ⟨p, l, e, R, s, m, args, below, meth, c, ad, dC, dI, cy, A⟩ := Γ
  obtain ⟨hx, hb, hml, hr, hown, hts, hlk, hK, hA, hin, hAd, hf, hlo, hRO⟩ := h
  obtain ⟨m1, m2, m3, m4, m5, m6, m7⟩ := hm
  intro H locs ls hP hS hl
  have hM := met_of m5 hent hc l ad dC dI cy H.size hin
  have hA1 := gA1 (I := I) (J := J) (P := P) (cy := cy) hAd hA hS
  have he := wsO_at (ad := ad) (cy := cy) (I := I) (J := J) (P := P) (shp_lo hs (by
    have := (List.getElem?_eq_some_iff.mp hci).1
    exact Nat.lt_of_lt_of_le this (by decide)))
  rw [cel_o hs] at he
  have hrecv := va_recv hK hP (ci := ci) (q0 := b) hci he
  rw [hq] at hrecv
  have hG : GoodIn bigW (wsV own idx y.cls y (Cond.code y cb mL rt :: bigW)) := by
    intro w hw
    have hmem : w ∈ bigW := by
      rcases List.mem_append.mp hw with h1 | h1
      · simp only [List.mem_cons, List.not_mem_nil, or_false] at h1
        rcases h1 with rfl | rfl | rfl | rfl <;> assumption
      · rcases List.mem_cons.mp h1 with rfl | h1 <;> assumption
    exact ⟨hmem, bw_good hmem⟩
  have hrun := va_runV (As := As.map (vmap ad)) (rest := st.map (vmap ad)) (g := F0 m pc ls ((As.reverse ++ .ref b :: st).map (vmap ad))) (cells := kc) (slots := kn) (H := H) (locs := locs) (R := R) (e := e) (l := l) (below := below) (meth := meth) (b := ad b) (C := y.cls) ⟨hx, hb, hml, hown, hts⟩ hM (cwV As.length hts hG rfl rfl rfl ⟨rfl, m6⟩ ⟨hf, by show 8 + (mL + 11) + 64 * d ≤ R.locals; omega⟩) ⟨pco_blind, hrecv, fun U hU hW => ⟨rfl, by rw [hU], by rw [hU]; exact hP, va_K.moved hW.alike hK, hRO.call hS hW hU hA1⟩⟩ rfl (by simp) (by show ls.size = nL; rw [hl.1, hml]) (by simp [vmap]) (lv_room (by rw [vmap_cats]; exact hcat)) hd ⟨hrk.1, hrk.2⟩
  exact run_back hrun hS hA1 hA1 hl (fun r I1 J1 P1 hq1 => hq1)
theorem g_callS (h : Vc own cc nL ret (d + 1) Γ) (hrk : Rok Γ kc kn) {y : MethodName} {cb : ByteArray} {mL idx : Nat} {rt : Option FieldType} {As : List Value} {stk : List Value} (hm : MIs y cb mL rt As.length) (hd : decode cc pc = .ok (.invokestatic idx, 3)) (hl0 : Cond.methodLink own idx y ∈ bigW) (hent : (entA As).length ≤ mL) (hstk : stk = As.reverse ++ st) (hcat : (st.map fun v => v.category).sum ≤ 8) (hc : Sp y cb mL rt d As I J P (fun r I' J' P' => VG Γ kc kn (pc + 3) lv (r.toList ++ st) I' J' P' Φ)) : VG Γ kc kn pc lv stk I J P Φ := by
  subst hstk
  obtain ⟨p, l, e, R, s, m, args, below, meth, c, ad, dC, dI, cy, A⟩ := Γ
  obtain ⟨hx, hb, hml, hr, hown, hts, hlk, hK, hA, hin, hAd, hf, hlo, hRO⟩ := h
  obtain ⟨m1, m2, m4, m5, m6, m7⟩ := hm
  intro H locs ls hP hS hl
  have hM := met_of m5 hent hc l ad dC dI cy H.size hin
  have hA1 := gA1 (I := I) (J := J) (P := P) (cy := cy) hAd hA hS
  have hG : ∀ w ∈ va_wsS own idx y (Cond.code y cb mL rt :: bigW), w ∈ bigW := by
    intro w hw
    rcases List.mem_append.mp hw with h1 | h1
    · simp only [List.mem_cons, List.not_mem_nil, or_false] at h1
      rcases h1 with rfl | rfl | rfl <;> assumption
    · rcases List.mem_cons.mp h1 with rfl | h1 <;> assumption
  have hG2 : GoodIn bigW (Cond.code y cb mL rt :: bigW) := fun w hw => ⟨hG w (List.mem_append_right _ hw), bw_good (hG w (List.mem_append_right _ hw))⟩
  have hcb : CallB R s args own idx y cb mL rt (Cond.code y cb mL rt :: bigW) (rmO d) 0 0 As.length := callB_of As.length hts hG2 rfl rfl rfl (hts _ m4) (hts _ hl0) m6 ⟨hf, by show 8 + (mL + 11) + 64 * d ≤ R.locals; omega⟩
  have hrun := va_runS (As := As.map (vmap ad)) (rest := st.map (vmap ad)) (g := F0 m pc ls ((As.reverse ++ st).map (vmap ad))) (cells := kc) (slots := kn) (H := H) (locs := locs) (R := R) (e := e) (l := l) (below := below) (meth := meth) ⟨hx, hb, hml, hown, hts⟩ hM ⟨hcb, hts _ m2⟩ ⟨pco_blind, fun U hU hW => ⟨rfl, by rw [hU], by rw [hU]; exact hP, va_K.moved hW.alike hK, hRO.call hS hW hU hA1⟩⟩ rfl (by simp) (by show ls.size = nL; rw [hl.1, hml]) (by simp) (lv_room (by rw [vmap_cats]; exact hcat)) hd ⟨hrk.1, hrk.2⟩
  exact run_back hrun hS hA1 hA1 hl (fun r I1 J1 P1 hq1 => hq1)
theorem g_cVi0 (h : Vc own cc nL ret (d + 1) Γ) (hrk : Rok Γ kc kn) {y : MethodName} {cb : ByteArray} {mL idx b ci : Nat} {rt : Option FieldType} {ks : List Nat} {q : vw_C} (hm : MIv y cb mL rt 0) (hd : decode cc pc = .ok (.invokevirtual idx, 3)) (hl0 : Cond.methodLink own idx y ∈ bigW) (hs : shp b = .inl (ci, ks)) (hci : vwCl[ci]? = some q) (hq : q.1 = y.cls) (hent : (entA (.ref b :: [])).length ≤ mL) (hcat : (st.map fun v => v.category).sum ≤ 8) (hc : Sp y cb mL rt d (.ref b :: []) I J P (Qi (fun r I' J' P' => VG Γ kc kn (pc + 3) lv (.int r :: st) I' J' P' Φ))) : VG Γ kc kn pc lv (.ref b :: st) I J P Φ := g_callV (As := []) h hrk hm hd hl0 hs hci hq hent rfl hcat (fun Γ2 h2 => fnl_mono (fun r I1 J1 P1 hq => by obtain ⟨x, rfl, hq⟩ := hq; exact hq) (hc Γ2 h2))
theorem g_cVi1 (h : Vc own cc nL ret (d + 1) Γ) (hrk : Rok Γ kc kn) {y : MethodName} {cb : ByteArray} {mL idx b ci : Nat} {rt : Option FieldType} {ks : List Nat} {q : vw_C} {a1 : Value} (hm : MIv y cb mL rt 1) (hd : decode cc pc = .ok (.invokevirtual idx, 3)) (hl0 : Cond.methodLink own idx y ∈ bigW) (hs : shp b = .inl (ci, ks)) (hci : vwCl[ci]? = some q) (hq : q.1 = y.cls) (hent : (entA (.ref b :: [a1])).length ≤ mL) (hcat : (st.map fun v => v.category).sum ≤ 8) (hc : Sp y cb mL rt d (.ref b :: [a1]) I J P (Qi (fun r I' J' P' => VG Γ kc kn (pc + 3) lv (.int r :: st) I' J' P' Φ))) : VG Γ kc kn pc lv (a1 :: .ref b :: st) I J P Φ := g_callV (As := [a1]) h hrk hm hd hl0 hs hci hq hent rfl hcat (fun Γ2 h2 => fnl_mono (fun r I1 J1 P1 hq => by obtain ⟨x, rfl, hq⟩ := hq; exact hq) (hc Γ2 h2))
theorem g_cSi1 (h : Vc own cc nL ret (d + 1) Γ) (hrk : Rok Γ kc kn) {y : MethodName} {cb : ByteArray} {mL idx : Nat} {rt : Option FieldType} {a1 : Value} (hm : MIs y cb mL rt 1) (hd : decode cc pc = .ok (.invokestatic idx, 3)) (hl0 : Cond.methodLink own idx y ∈ bigW) (hent : (entA [a1]).length ≤ mL) (hcat : (st.map fun v => v.category).sum ≤ 8) (hc : Sp y cb mL rt d [a1] I J P (Qi (fun r I' J' P' => VG Γ kc kn (pc + 3) lv (.int r :: st) I' J' P' Φ))) : VG Γ kc kn pc lv (a1 :: st) I J P Φ := g_callS (As := [a1]) h hrk hm hd hl0 hent rfl hcat (fun Γ2 h2 => fnl_mono (fun r I1 J1 P1 hq => by obtain ⟨x, rfl, hq⟩ := hq; exact hq) (hc Γ2 h2))
theorem g_cVi2 (h : Vc own cc nL ret (d + 1) Γ) (hrk : Rok Γ kc kn) {y : MethodName} {cb : ByteArray} {mL idx b ci : Nat} {rt : Option FieldType} {ks : List Nat} {q : vw_C} {a1 a2 : Value} (hm : MIv y cb mL rt 2) (hd : decode cc pc = .ok (.invokevirtual idx, 3)) (hl0 : Cond.methodLink own idx y ∈ bigW) (hs : shp b = .inl (ci, ks)) (hci : vwCl[ci]? = some q) (hq : q.1 = y.cls) (hent : (entA (.ref b :: [a1, a2])).length ≤ mL) (hcat : (st.map fun v => v.category).sum ≤ 8) (hc : Sp y cb mL rt d (.ref b :: [a1, a2]) I J P (Qi (fun r I' J' P' => VG Γ kc kn (pc + 3) lv (.int r :: st) I' J' P' Φ))) : VG Γ kc kn pc lv (a2 :: a1 :: .ref b :: st) I J P Φ := g_callV (As := [a1, a2]) h hrk hm hd hl0 hs hci hq hent rfl hcat (fun Γ2 h2 => fnl_mono (fun r I1 J1 P1 hq => by obtain ⟨x, rfl, hq⟩ := hq; exact hq) (hc Γ2 h2))
theorem g_cSi2 (h : Vc own cc nL ret (d + 1) Γ) (hrk : Rok Γ kc kn) {y : MethodName} {cb : ByteArray} {mL idx : Nat} {rt : Option FieldType} {a1 a2 : Value} (hm : MIs y cb mL rt 2) (hd : decode cc pc = .ok (.invokestatic idx, 3)) (hl0 : Cond.methodLink own idx y ∈ bigW) (hent : (entA [a1, a2]).length ≤ mL) (hcat : (st.map fun v => v.category).sum ≤ 8) (hc : Sp y cb mL rt d [a1, a2] I J P (Qi (fun r I' J' P' => VG Γ kc kn (pc + 3) lv (.int r :: st) I' J' P' Φ))) : VG Γ kc kn pc lv (a2 :: a1 :: st) I J P Φ := g_callS (As := [a1, a2]) h hrk hm hd hl0 hent rfl hcat (fun Γ2 h2 => fnl_mono (fun r I1 J1 P1 hq => by obtain ⟨x, rfl, hq⟩ := hq; exact hq) (hc Γ2 h2))
theorem g_cVi3 (h : Vc own cc nL ret (d + 1) Γ) (hrk : Rok Γ kc kn) {y : MethodName} {cb : ByteArray} {mL idx b ci : Nat} {rt : Option FieldType} {ks : List Nat} {q : vw_C} {a1 a2 a3 : Value} (hm : MIv y cb mL rt 3) (hd : decode cc pc = .ok (.invokevirtual idx, 3)) (hl0 : Cond.methodLink own idx y ∈ bigW) (hs : shp b = .inl (ci, ks)) (hci : vwCl[ci]? = some q) (hq : q.1 = y.cls) (hent : (entA (.ref b :: [a1, a2, a3])).length ≤ mL) (hcat : (st.map fun v => v.category).sum ≤ 8) (hc : Sp y cb mL rt d (.ref b :: [a1, a2, a3]) I J P (Qi (fun r I' J' P' => VG Γ kc kn (pc + 3) lv (.int r :: st) I' J' P' Φ))) : VG Γ kc kn pc lv (a3 :: a2 :: a1 :: .ref b :: st) I J P Φ := g_callV (As := [a1, a2, a3]) h hrk hm hd hl0 hs hci hq hent rfl hcat (fun Γ2 h2 => fnl_mono (fun r I1 J1 P1 hq => by obtain ⟨x, rfl, hq⟩ := hq; exact hq) (hc Γ2 h2))
theorem g_cSi3 (h : Vc own cc nL ret (d + 1) Γ) (hrk : Rok Γ kc kn) {y : MethodName} {cb : ByteArray} {mL idx : Nat} {rt : Option FieldType} {a1 a2 a3 : Value} (hm : MIs y cb mL rt 3) (hd : decode cc pc = .ok (.invokestatic idx, 3)) (hl0 : Cond.methodLink own idx y ∈ bigW) (hent : (entA [a1, a2, a3]).length ≤ mL) (hcat : (st.map fun v => v.category).sum ≤ 8) (hc : Sp y cb mL rt d [a1, a2, a3] I J P (Qi (fun r I' J' P' => VG Γ kc kn (pc + 3) lv (.int r :: st) I' J' P' Φ))) : VG Γ kc kn pc lv (a3 :: a2 :: a1 :: st) I J P Φ := g_callS (As := [a1, a2, a3]) h hrk hm hd hl0 hent rfl hcat (fun Γ2 h2 => fnl_mono (fun r I1 J1 P1 hq => by obtain ⟨x, rfl, hq⟩ := hq; exact hq) (hc Γ2 h2))
theorem g_cVi4 (h : Vc own cc nL ret (d + 1) Γ) (hrk : Rok Γ kc kn) {y : MethodName} {cb : ByteArray} {mL idx b ci : Nat} {rt : Option FieldType} {ks : List Nat} {q : vw_C} {a1 a2 a3 a4 : Value} (hm : MIv y cb mL rt 4) (hd : decode cc pc = .ok (.invokevirtual idx, 3)) (hl0 : Cond.methodLink own idx y ∈ bigW) (hs : shp b = .inl (ci, ks)) (hci : vwCl[ci]? = some q) (hq : q.1 = y.cls) (hent : (entA (.ref b :: [a1, a2, a3, a4])).length ≤ mL) (hcat : (st.map fun v => v.category).sum ≤ 8) (hc : Sp y cb mL rt d (.ref b :: [a1, a2, a3, a4]) I J P (Qi (fun r I' J' P' => VG Γ kc kn (pc + 3) lv (.int r :: st) I' J' P' Φ))) : VG Γ kc kn pc lv (a4 :: a3 :: a2 :: a1 :: .ref b :: st) I J P Φ := g_callV (As := [a1, a2, a3, a4]) h hrk hm hd hl0 hs hci hq hent rfl hcat (fun Γ2 h2 => fnl_mono (fun r I1 J1 P1 hq => by obtain ⟨x, rfl, hq⟩ := hq; exact hq) (hc Γ2 h2))
theorem g_cSi4 (h : Vc own cc nL ret (d + 1) Γ) (hrk : Rok Γ kc kn) {y : MethodName} {cb : ByteArray} {mL idx : Nat} {rt : Option FieldType} {a1 a2 a3 a4 : Value} (hm : MIs y cb mL rt 4) (hd : decode cc pc = .ok (.invokestatic idx, 3)) (hl0 : Cond.methodLink own idx y ∈ bigW) (hent : (entA [a1, a2, a3, a4]).length ≤ mL) (hcat : (st.map fun v => v.category).sum ≤ 8) (hc : Sp y cb mL rt d [a1, a2, a3, a4] I J P (Qi (fun r I' J' P' => VG Γ kc kn (pc + 3) lv (.int r :: st) I' J' P' Φ))) : VG Γ kc kn pc lv (a4 :: a3 :: a2 :: a1 :: st) I J P Φ := g_callS (As := [a1, a2, a3, a4]) h hrk hm hd hl0 hent rfl hcat (fun Γ2 h2 => fnl_mono (fun r I1 J1 P1 hq => by obtain ⟨x, rfl, hq⟩ := hq; exact hq) (hc Γ2 h2))
theorem g_cVi5 (h : Vc own cc nL ret (d + 1) Γ) (hrk : Rok Γ kc kn) {y : MethodName} {cb : ByteArray} {mL idx b ci : Nat} {rt : Option FieldType} {ks : List Nat} {q : vw_C} {a1 a2 a3 a4 a5 : Value} (hm : MIv y cb mL rt 5) (hd : decode cc pc = .ok (.invokevirtual idx, 3)) (hl0 : Cond.methodLink own idx y ∈ bigW) (hs : shp b = .inl (ci, ks)) (hci : vwCl[ci]? = some q) (hq : q.1 = y.cls) (hent : (entA (.ref b :: [a1, a2, a3, a4, a5])).length ≤ mL) (hcat : (st.map fun v => v.category).sum ≤ 8) (hc : Sp y cb mL rt d (.ref b :: [a1, a2, a3, a4, a5]) I J P (Qi (fun r I' J' P' => VG Γ kc kn (pc + 3) lv (.int r :: st) I' J' P' Φ))) : VG Γ kc kn pc lv (a5 :: a4 :: a3 :: a2 :: a1 :: .ref b :: st) I J P Φ := g_callV (As := [a1, a2, a3, a4, a5]) h hrk hm hd hl0 hs hci hq hent rfl hcat (fun Γ2 h2 => fnl_mono (fun r I1 J1 P1 hq => by obtain ⟨x, rfl, hq⟩ := hq; exact hq) (hc Γ2 h2))
theorem g_cSi5 (h : Vc own cc nL ret (d + 1) Γ) (hrk : Rok Γ kc kn) {y : MethodName} {cb : ByteArray} {mL idx : Nat} {rt : Option FieldType} {a1 a2 a3 a4 a5 : Value} (hm : MIs y cb mL rt 5) (hd : decode cc pc = .ok (.invokestatic idx, 3)) (hl0 : Cond.methodLink own idx y ∈ bigW) (hent : (entA [a1, a2, a3, a4, a5]).length ≤ mL) (hcat : (st.map fun v => v.category).sum ≤ 8) (hc : Sp y cb mL rt d [a1, a2, a3, a4, a5] I J P (Qi (fun r I' J' P' => VG Γ kc kn (pc + 3) lv (.int r :: st) I' J' P' Φ))) : VG Γ kc kn pc lv (a5 :: a4 :: a3 :: a2 :: a1 :: st) I J P Φ := g_callS (As := [a1, a2, a3, a4, a5]) h hrk hm hd hl0 hent rfl hcat (fun Γ2 h2 => fnl_mono (fun r I1 J1 P1 hq => by obtain ⟨x, rfl, hq⟩ := hq; exact hq) (hc Γ2 h2))
theorem g_cVl0 (h : Vc own cc nL ret (d + 1) Γ) (hrk : Rok Γ kc kn) {y : MethodName} {cb : ByteArray} {mL idx b ci : Nat} {rt : Option FieldType} {ks : List Nat} {q : vw_C} (hm : MIv y cb mL rt 0) (hd : decode cc pc = .ok (.invokevirtual idx, 3)) (hl0 : Cond.methodLink own idx y ∈ bigW) (hs : shp b = .inl (ci, ks)) (hci : vwCl[ci]? = some q) (hq : q.1 = y.cls) (hent : (entA (.ref b :: [])).length ≤ mL) (hcat : (st.map fun v => v.category).sum ≤ 8) (hc : Sp y cb mL rt d (.ref b :: []) I J P (Ql (fun r I' J' P' => VG Γ kc kn (pc + 3) lv (.long r :: st) I' J' P' Φ))) : VG Γ kc kn pc lv (.ref b :: st) I J P Φ := g_callV (As := []) h hrk hm hd hl0 hs hci hq hent rfl hcat (fun Γ2 h2 => fnl_mono (fun r I1 J1 P1 hq => by obtain ⟨x, rfl, hq⟩ := hq; exact hq) (hc Γ2 h2))
theorem g_cVl1 (h : Vc own cc nL ret (d + 1) Γ) (hrk : Rok Γ kc kn) {y : MethodName} {cb : ByteArray} {mL idx b ci : Nat} {rt : Option FieldType} {ks : List Nat} {q : vw_C} {a1 : Value} (hm : MIv y cb mL rt 1) (hd : decode cc pc = .ok (.invokevirtual idx, 3)) (hl0 : Cond.methodLink own idx y ∈ bigW) (hs : shp b = .inl (ci, ks)) (hci : vwCl[ci]? = some q) (hq : q.1 = y.cls) (hent : (entA (.ref b :: [a1])).length ≤ mL) (hcat : (st.map fun v => v.category).sum ≤ 8) (hc : Sp y cb mL rt d (.ref b :: [a1]) I J P (Ql (fun r I' J' P' => VG Γ kc kn (pc + 3) lv (.long r :: st) I' J' P' Φ))) : VG Γ kc kn pc lv (a1 :: .ref b :: st) I J P Φ := g_callV (As := [a1]) h hrk hm hd hl0 hs hci hq hent rfl hcat (fun Γ2 h2 => fnl_mono (fun r I1 J1 P1 hq => by obtain ⟨x, rfl, hq⟩ := hq; exact hq) (hc Γ2 h2))
theorem g_cSl1 (h : Vc own cc nL ret (d + 1) Γ) (hrk : Rok Γ kc kn) {y : MethodName} {cb : ByteArray} {mL idx : Nat} {rt : Option FieldType} {a1 : Value} (hm : MIs y cb mL rt 1) (hd : decode cc pc = .ok (.invokestatic idx, 3)) (hl0 : Cond.methodLink own idx y ∈ bigW) (hent : (entA [a1]).length ≤ mL) (hcat : (st.map fun v => v.category).sum ≤ 8) (hc : Sp y cb mL rt d [a1] I J P (Ql (fun r I' J' P' => VG Γ kc kn (pc + 3) lv (.long r :: st) I' J' P' Φ))) : VG Γ kc kn pc lv (a1 :: st) I J P Φ := g_callS (As := [a1]) h hrk hm hd hl0 hent rfl hcat (fun Γ2 h2 => fnl_mono (fun r I1 J1 P1 hq => by obtain ⟨x, rfl, hq⟩ := hq; exact hq) (hc Γ2 h2))
theorem g_cVl2 (h : Vc own cc nL ret (d + 1) Γ) (hrk : Rok Γ kc kn) {y : MethodName} {cb : ByteArray} {mL idx b ci : Nat} {rt : Option FieldType} {ks : List Nat} {q : vw_C} {a1 a2 : Value} (hm : MIv y cb mL rt 2) (hd : decode cc pc = .ok (.invokevirtual idx, 3)) (hl0 : Cond.methodLink own idx y ∈ bigW) (hs : shp b = .inl (ci, ks)) (hci : vwCl[ci]? = some q) (hq : q.1 = y.cls) (hent : (entA (.ref b :: [a1, a2])).length ≤ mL) (hcat : (st.map fun v => v.category).sum ≤ 8) (hc : Sp y cb mL rt d (.ref b :: [a1, a2]) I J P (Ql (fun r I' J' P' => VG Γ kc kn (pc + 3) lv (.long r :: st) I' J' P' Φ))) : VG Γ kc kn pc lv (a2 :: a1 :: .ref b :: st) I J P Φ := g_callV (As := [a1, a2]) h hrk hm hd hl0 hs hci hq hent rfl hcat (fun Γ2 h2 => fnl_mono (fun r I1 J1 P1 hq => by obtain ⟨x, rfl, hq⟩ := hq; exact hq) (hc Γ2 h2))
theorem g_cSl2 (h : Vc own cc nL ret (d + 1) Γ) (hrk : Rok Γ kc kn) {y : MethodName} {cb : ByteArray} {mL idx : Nat} {rt : Option FieldType} {a1 a2 : Value} (hm : MIs y cb mL rt 2) (hd : decode cc pc = .ok (.invokestatic idx, 3)) (hl0 : Cond.methodLink own idx y ∈ bigW) (hent : (entA [a1, a2]).length ≤ mL) (hcat : (st.map fun v => v.category).sum ≤ 8) (hc : Sp y cb mL rt d [a1, a2] I J P (Ql (fun r I' J' P' => VG Γ kc kn (pc + 3) lv (.long r :: st) I' J' P' Φ))) : VG Γ kc kn pc lv (a2 :: a1 :: st) I J P Φ := g_callS (As := [a1, a2]) h hrk hm hd hl0 hent rfl hcat (fun Γ2 h2 => fnl_mono (fun r I1 J1 P1 hq => by obtain ⟨x, rfl, hq⟩ := hq; exact hq) (hc Γ2 h2))
theorem g_cVl3 (h : Vc own cc nL ret (d + 1) Γ) (hrk : Rok Γ kc kn) {y : MethodName} {cb : ByteArray} {mL idx b ci : Nat} {rt : Option FieldType} {ks : List Nat} {q : vw_C} {a1 a2 a3 : Value} (hm : MIv y cb mL rt 3) (hd : decode cc pc = .ok (.invokevirtual idx, 3)) (hl0 : Cond.methodLink own idx y ∈ bigW) (hs : shp b = .inl (ci, ks)) (hci : vwCl[ci]? = some q) (hq : q.1 = y.cls) (hent : (entA (.ref b :: [a1, a2, a3])).length ≤ mL) (hcat : (st.map fun v => v.category).sum ≤ 8) (hc : Sp y cb mL rt d (.ref b :: [a1, a2, a3]) I J P (Ql (fun r I' J' P' => VG Γ kc kn (pc + 3) lv (.long r :: st) I' J' P' Φ))) : VG Γ kc kn pc lv (a3 :: a2 :: a1 :: .ref b :: st) I J P Φ := g_callV (As := [a1, a2, a3]) h hrk hm hd hl0 hs hci hq hent rfl hcat (fun Γ2 h2 => fnl_mono (fun r I1 J1 P1 hq => by obtain ⟨x, rfl, hq⟩ := hq; exact hq) (hc Γ2 h2))
theorem g_cSl3 (h : Vc own cc nL ret (d + 1) Γ) (hrk : Rok Γ kc kn) {y : MethodName} {cb : ByteArray} {mL idx : Nat} {rt : Option FieldType} {a1 a2 a3 : Value} (hm : MIs y cb mL rt 3) (hd : decode cc pc = .ok (.invokestatic idx, 3)) (hl0 : Cond.methodLink own idx y ∈ bigW) (hent : (entA [a1, a2, a3]).length ≤ mL) (hcat : (st.map fun v => v.category).sum ≤ 8) (hc : Sp y cb mL rt d [a1, a2, a3] I J P (Ql (fun r I' J' P' => VG Γ kc kn (pc + 3) lv (.long r :: st) I' J' P' Φ))) : VG Γ kc kn pc lv (a3 :: a2 :: a1 :: st) I J P Φ := g_callS (As := [a1, a2, a3]) h hrk hm hd hl0 hent rfl hcat (fun Γ2 h2 => fnl_mono (fun r I1 J1 P1 hq => by obtain ⟨x, rfl, hq⟩ := hq; exact hq) (hc Γ2 h2))
theorem g_cVl4 (h : Vc own cc nL ret (d + 1) Γ) (hrk : Rok Γ kc kn) {y : MethodName} {cb : ByteArray} {mL idx b ci : Nat} {rt : Option FieldType} {ks : List Nat} {q : vw_C} {a1 a2 a3 a4 : Value} (hm : MIv y cb mL rt 4) (hd : decode cc pc = .ok (.invokevirtual idx, 3)) (hl0 : Cond.methodLink own idx y ∈ bigW) (hs : shp b = .inl (ci, ks)) (hci : vwCl[ci]? = some q) (hq : q.1 = y.cls) (hent : (entA (.ref b :: [a1, a2, a3, a4])).length ≤ mL) (hcat : (st.map fun v => v.category).sum ≤ 8) (hc : Sp y cb mL rt d (.ref b :: [a1, a2, a3, a4]) I J P (Ql (fun r I' J' P' => VG Γ kc kn (pc + 3) lv (.long r :: st) I' J' P' Φ))) : VG Γ kc kn pc lv (a4 :: a3 :: a2 :: a1 :: .ref b :: st) I J P Φ := g_callV (As := [a1, a2, a3, a4]) h hrk hm hd hl0 hs hci hq hent rfl hcat (fun Γ2 h2 => fnl_mono (fun r I1 J1 P1 hq => by obtain ⟨x, rfl, hq⟩ := hq; exact hq) (hc Γ2 h2))
theorem g_cSl4 (h : Vc own cc nL ret (d + 1) Γ) (hrk : Rok Γ kc kn) {y : MethodName} {cb : ByteArray} {mL idx : Nat} {rt : Option FieldType} {a1 a2 a3 a4 : Value} (hm : MIs y cb mL rt 4) (hd : decode cc pc = .ok (.invokestatic idx, 3)) (hl0 : Cond.methodLink own idx y ∈ bigW) (hent : (entA [a1, a2, a3, a4]).length ≤ mL) (hcat : (st.map fun v => v.category).sum ≤ 8) (hc : Sp y cb mL rt d [a1, a2, a3, a4] I J P (Ql (fun r I' J' P' => VG Γ kc kn (pc + 3) lv (.long r :: st) I' J' P' Φ))) : VG Γ kc kn pc lv (a4 :: a3 :: a2 :: a1 :: st) I J P Φ := g_callS (As := [a1, a2, a3, a4]) h hrk hm hd hl0 hent rfl hcat (fun Γ2 h2 => fnl_mono (fun r I1 J1 P1 hq => by obtain ⟨x, rfl, hq⟩ := hq; exact hq) (hc Γ2 h2))
theorem g_cVl5 (h : Vc own cc nL ret (d + 1) Γ) (hrk : Rok Γ kc kn) {y : MethodName} {cb : ByteArray} {mL idx b ci : Nat} {rt : Option FieldType} {ks : List Nat} {q : vw_C} {a1 a2 a3 a4 a5 : Value} (hm : MIv y cb mL rt 5) (hd : decode cc pc = .ok (.invokevirtual idx, 3)) (hl0 : Cond.methodLink own idx y ∈ bigW) (hs : shp b = .inl (ci, ks)) (hci : vwCl[ci]? = some q) (hq : q.1 = y.cls) (hent : (entA (.ref b :: [a1, a2, a3, a4, a5])).length ≤ mL) (hcat : (st.map fun v => v.category).sum ≤ 8) (hc : Sp y cb mL rt d (.ref b :: [a1, a2, a3, a4, a5]) I J P (Ql (fun r I' J' P' => VG Γ kc kn (pc + 3) lv (.long r :: st) I' J' P' Φ))) : VG Γ kc kn pc lv (a5 :: a4 :: a3 :: a2 :: a1 :: .ref b :: st) I J P Φ := g_callV (As := [a1, a2, a3, a4, a5]) h hrk hm hd hl0 hs hci hq hent rfl hcat (fun Γ2 h2 => fnl_mono (fun r I1 J1 P1 hq => by obtain ⟨x, rfl, hq⟩ := hq; exact hq) (hc Γ2 h2))
theorem g_cSl5 (h : Vc own cc nL ret (d + 1) Γ) (hrk : Rok Γ kc kn) {y : MethodName} {cb : ByteArray} {mL idx : Nat} {rt : Option FieldType} {a1 a2 a3 a4 a5 : Value} (hm : MIs y cb mL rt 5) (hd : decode cc pc = .ok (.invokestatic idx, 3)) (hl0 : Cond.methodLink own idx y ∈ bigW) (hent : (entA [a1, a2, a3, a4, a5]).length ≤ mL) (hcat : (st.map fun v => v.category).sum ≤ 8) (hc : Sp y cb mL rt d [a1, a2, a3, a4, a5] I J P (Ql (fun r I' J' P' => VG Γ kc kn (pc + 3) lv (.long r :: st) I' J' P' Φ))) : VG Γ kc kn pc lv (a5 :: a4 :: a3 :: a2 :: a1 :: st) I J P Φ := g_callS (As := [a1, a2, a3, a4, a5]) h hrk hm hd hl0 hent rfl hcat (fun Γ2 h2 => fnl_mono (fun r I1 J1 P1 hq => by obtain ⟨x, rfl, hq⟩ := hq; exact hq) (hc Γ2 h2))
theorem g_cVv0 (h : Vc own cc nL ret (d + 1) Γ) (hrk : Rok Γ kc kn) {y : MethodName} {cb : ByteArray} {mL idx b ci : Nat} {rt : Option FieldType} {ks : List Nat} {q : vw_C} (hm : MIv y cb mL rt 0) (hd : decode cc pc = .ok (.invokevirtual idx, 3)) (hl0 : Cond.methodLink own idx y ∈ bigW) (hs : shp b = .inl (ci, ks)) (hci : vwCl[ci]? = some q) (hq : q.1 = y.cls) (hent : (entA (.ref b :: [])).length ≤ mL) (hcat : (st.map fun v => v.category).sum ≤ 8) (hc : Sp y cb mL rt d (.ref b :: []) I J P (Qv (fun I' J' P' => VG Γ kc kn (pc + 3) lv (st) I' J' P' Φ))) : VG Γ kc kn pc lv (.ref b :: st) I J P Φ := g_callV (As := []) h hrk hm hd hl0 hs hci hq hent rfl hcat (fun Γ2 h2 => fnl_mono (fun r I1 J1 P1 hq => by obtain ⟨rfl, hq⟩ := hq; exact hq) (hc Γ2 h2))
theorem g_cVv1 (h : Vc own cc nL ret (d + 1) Γ) (hrk : Rok Γ kc kn) {y : MethodName} {cb : ByteArray} {mL idx b ci : Nat} {rt : Option FieldType} {ks : List Nat} {q : vw_C} {a1 : Value} (hm : MIv y cb mL rt 1) (hd : decode cc pc = .ok (.invokevirtual idx, 3)) (hl0 : Cond.methodLink own idx y ∈ bigW) (hs : shp b = .inl (ci, ks)) (hci : vwCl[ci]? = some q) (hq : q.1 = y.cls) (hent : (entA (.ref b :: [a1])).length ≤ mL) (hcat : (st.map fun v => v.category).sum ≤ 8) (hc : Sp y cb mL rt d (.ref b :: [a1]) I J P (Qv (fun I' J' P' => VG Γ kc kn (pc + 3) lv (st) I' J' P' Φ))) : VG Γ kc kn pc lv (a1 :: .ref b :: st) I J P Φ := g_callV (As := [a1]) h hrk hm hd hl0 hs hci hq hent rfl hcat (fun Γ2 h2 => fnl_mono (fun r I1 J1 P1 hq => by obtain ⟨rfl, hq⟩ := hq; exact hq) (hc Γ2 h2))
theorem g_cSv1 (h : Vc own cc nL ret (d + 1) Γ) (hrk : Rok Γ kc kn) {y : MethodName} {cb : ByteArray} {mL idx : Nat} {rt : Option FieldType} {a1 : Value} (hm : MIs y cb mL rt 1) (hd : decode cc pc = .ok (.invokestatic idx, 3)) (hl0 : Cond.methodLink own idx y ∈ bigW) (hent : (entA [a1]).length ≤ mL) (hcat : (st.map fun v => v.category).sum ≤ 8) (hc : Sp y cb mL rt d [a1] I J P (Qv (fun I' J' P' => VG Γ kc kn (pc + 3) lv (st) I' J' P' Φ))) : VG Γ kc kn pc lv (a1 :: st) I J P Φ := g_callS (As := [a1]) h hrk hm hd hl0 hent rfl hcat (fun Γ2 h2 => fnl_mono (fun r I1 J1 P1 hq => by obtain ⟨rfl, hq⟩ := hq; exact hq) (hc Γ2 h2))
theorem g_cVv2 (h : Vc own cc nL ret (d + 1) Γ) (hrk : Rok Γ kc kn) {y : MethodName} {cb : ByteArray} {mL idx b ci : Nat} {rt : Option FieldType} {ks : List Nat} {q : vw_C} {a1 a2 : Value} (hm : MIv y cb mL rt 2) (hd : decode cc pc = .ok (.invokevirtual idx, 3)) (hl0 : Cond.methodLink own idx y ∈ bigW) (hs : shp b = .inl (ci, ks)) (hci : vwCl[ci]? = some q) (hq : q.1 = y.cls) (hent : (entA (.ref b :: [a1, a2])).length ≤ mL) (hcat : (st.map fun v => v.category).sum ≤ 8) (hc : Sp y cb mL rt d (.ref b :: [a1, a2]) I J P (Qv (fun I' J' P' => VG Γ kc kn (pc + 3) lv (st) I' J' P' Φ))) : VG Γ kc kn pc lv (a2 :: a1 :: .ref b :: st) I J P Φ := g_callV (As := [a1, a2]) h hrk hm hd hl0 hs hci hq hent rfl hcat (fun Γ2 h2 => fnl_mono (fun r I1 J1 P1 hq => by obtain ⟨rfl, hq⟩ := hq; exact hq) (hc Γ2 h2))
theorem g_cSv2 (h : Vc own cc nL ret (d + 1) Γ) (hrk : Rok Γ kc kn) {y : MethodName} {cb : ByteArray} {mL idx : Nat} {rt : Option FieldType} {a1 a2 : Value} (hm : MIs y cb mL rt 2) (hd : decode cc pc = .ok (.invokestatic idx, 3)) (hl0 : Cond.methodLink own idx y ∈ bigW) (hent : (entA [a1, a2]).length ≤ mL) (hcat : (st.map fun v => v.category).sum ≤ 8) (hc : Sp y cb mL rt d [a1, a2] I J P (Qv (fun I' J' P' => VG Γ kc kn (pc + 3) lv (st) I' J' P' Φ))) : VG Γ kc kn pc lv (a2 :: a1 :: st) I J P Φ := g_callS (As := [a1, a2]) h hrk hm hd hl0 hent rfl hcat (fun Γ2 h2 => fnl_mono (fun r I1 J1 P1 hq => by obtain ⟨rfl, hq⟩ := hq; exact hq) (hc Γ2 h2))
theorem g_cVv3 (h : Vc own cc nL ret (d + 1) Γ) (hrk : Rok Γ kc kn) {y : MethodName} {cb : ByteArray} {mL idx b ci : Nat} {rt : Option FieldType} {ks : List Nat} {q : vw_C} {a1 a2 a3 : Value} (hm : MIv y cb mL rt 3) (hd : decode cc pc = .ok (.invokevirtual idx, 3)) (hl0 : Cond.methodLink own idx y ∈ bigW) (hs : shp b = .inl (ci, ks)) (hci : vwCl[ci]? = some q) (hq : q.1 = y.cls) (hent : (entA (.ref b :: [a1, a2, a3])).length ≤ mL) (hcat : (st.map fun v => v.category).sum ≤ 8) (hc : Sp y cb mL rt d (.ref b :: [a1, a2, a3]) I J P (Qv (fun I' J' P' => VG Γ kc kn (pc + 3) lv (st) I' J' P' Φ))) : VG Γ kc kn pc lv (a3 :: a2 :: a1 :: .ref b :: st) I J P Φ := g_callV (As := [a1, a2, a3]) h hrk hm hd hl0 hs hci hq hent rfl hcat (fun Γ2 h2 => fnl_mono (fun r I1 J1 P1 hq => by obtain ⟨rfl, hq⟩ := hq; exact hq) (hc Γ2 h2))
theorem g_cSv3 (h : Vc own cc nL ret (d + 1) Γ) (hrk : Rok Γ kc kn) {y : MethodName} {cb : ByteArray} {mL idx : Nat} {rt : Option FieldType} {a1 a2 a3 : Value} (hm : MIs y cb mL rt 3) (hd : decode cc pc = .ok (.invokestatic idx, 3)) (hl0 : Cond.methodLink own idx y ∈ bigW) (hent : (entA [a1, a2, a3]).length ≤ mL) (hcat : (st.map fun v => v.category).sum ≤ 8) (hc : Sp y cb mL rt d [a1, a2, a3] I J P (Qv (fun I' J' P' => VG Γ kc kn (pc + 3) lv (st) I' J' P' Φ))) : VG Γ kc kn pc lv (a3 :: a2 :: a1 :: st) I J P Φ := g_callS (As := [a1, a2, a3]) h hrk hm hd hl0 hent rfl hcat (fun Γ2 h2 => fnl_mono (fun r I1 J1 P1 hq => by obtain ⟨rfl, hq⟩ := hq; exact hq) (hc Γ2 h2))
theorem g_cVv4 (h : Vc own cc nL ret (d + 1) Γ) (hrk : Rok Γ kc kn) {y : MethodName} {cb : ByteArray} {mL idx b ci : Nat} {rt : Option FieldType} {ks : List Nat} {q : vw_C} {a1 a2 a3 a4 : Value} (hm : MIv y cb mL rt 4) (hd : decode cc pc = .ok (.invokevirtual idx, 3)) (hl0 : Cond.methodLink own idx y ∈ bigW) (hs : shp b = .inl (ci, ks)) (hci : vwCl[ci]? = some q) (hq : q.1 = y.cls) (hent : (entA (.ref b :: [a1, a2, a3, a4])).length ≤ mL) (hcat : (st.map fun v => v.category).sum ≤ 8) (hc : Sp y cb mL rt d (.ref b :: [a1, a2, a3, a4]) I J P (Qv (fun I' J' P' => VG Γ kc kn (pc + 3) lv (st) I' J' P' Φ))) : VG Γ kc kn pc lv (a4 :: a3 :: a2 :: a1 :: .ref b :: st) I J P Φ := g_callV (As := [a1, a2, a3, a4]) h hrk hm hd hl0 hs hci hq hent rfl hcat (fun Γ2 h2 => fnl_mono (fun r I1 J1 P1 hq => by obtain ⟨rfl, hq⟩ := hq; exact hq) (hc Γ2 h2))
theorem g_cSv4 (h : Vc own cc nL ret (d + 1) Γ) (hrk : Rok Γ kc kn) {y : MethodName} {cb : ByteArray} {mL idx : Nat} {rt : Option FieldType} {a1 a2 a3 a4 : Value} (hm : MIs y cb mL rt 4) (hd : decode cc pc = .ok (.invokestatic idx, 3)) (hl0 : Cond.methodLink own idx y ∈ bigW) (hent : (entA [a1, a2, a3, a4]).length ≤ mL) (hcat : (st.map fun v => v.category).sum ≤ 8) (hc : Sp y cb mL rt d [a1, a2, a3, a4] I J P (Qv (fun I' J' P' => VG Γ kc kn (pc + 3) lv (st) I' J' P' Φ))) : VG Γ kc kn pc lv (a4 :: a3 :: a2 :: a1 :: st) I J P Φ := g_callS (As := [a1, a2, a3, a4]) h hrk hm hd hl0 hent rfl hcat (fun Γ2 h2 => fnl_mono (fun r I1 J1 P1 hq => by obtain ⟨rfl, hq⟩ := hq; exact hq) (hc Γ2 h2))
theorem g_cVv5 (h : Vc own cc nL ret (d + 1) Γ) (hrk : Rok Γ kc kn) {y : MethodName} {cb : ByteArray} {mL idx b ci : Nat} {rt : Option FieldType} {ks : List Nat} {q : vw_C} {a1 a2 a3 a4 a5 : Value} (hm : MIv y cb mL rt 5) (hd : decode cc pc = .ok (.invokevirtual idx, 3)) (hl0 : Cond.methodLink own idx y ∈ bigW) (hs : shp b = .inl (ci, ks)) (hci : vwCl[ci]? = some q) (hq : q.1 = y.cls) (hent : (entA (.ref b :: [a1, a2, a3, a4, a5])).length ≤ mL) (hcat : (st.map fun v => v.category).sum ≤ 8) (hc : Sp y cb mL rt d (.ref b :: [a1, a2, a3, a4, a5]) I J P (Qv (fun I' J' P' => VG Γ kc kn (pc + 3) lv (st) I' J' P' Φ))) : VG Γ kc kn pc lv (a5 :: a4 :: a3 :: a2 :: a1 :: .ref b :: st) I J P Φ := g_callV (As := [a1, a2, a3, a4, a5]) h hrk hm hd hl0 hs hci hq hent rfl hcat (fun Γ2 h2 => fnl_mono (fun r I1 J1 P1 hq => by obtain ⟨rfl, hq⟩ := hq; exact hq) (hc Γ2 h2))
theorem g_cSv5 (h : Vc own cc nL ret (d + 1) Γ) (hrk : Rok Γ kc kn) {y : MethodName} {cb : ByteArray} {mL idx : Nat} {rt : Option FieldType} {a1 a2 a3 a4 a5 : Value} (hm : MIs y cb mL rt 5) (hd : decode cc pc = .ok (.invokestatic idx, 3)) (hl0 : Cond.methodLink own idx y ∈ bigW) (hent : (entA [a1, a2, a3, a4, a5]).length ≤ mL) (hcat : (st.map fun v => v.category).sum ≤ 8) (hc : Sp y cb mL rt d [a1, a2, a3, a4, a5] I J P (Qv (fun I' J' P' => VG Γ kc kn (pc + 3) lv (st) I' J' P' Φ))) : VG Γ kc kn pc lv (a5 :: a4 :: a3 :: a2 :: a1 :: st) I J P Φ := g_callS (As := [a1, a2, a3, a4, a5]) h hrk hm hd hl0 hent rfl hcat (fun Γ2 h2 => fnl_mono (fun r I1 J1 P1 hq => by obtain ⟨rfl, hq⟩ := hq; exact hq) (hc Γ2 h2))
end GM
