/-! The law's numbers, and a number as a text -/
section KTH
variable {ad : Nat → Nat} {tx : TXo} {cy : Nat → ClassId} {d : Nat}
theorem kt_below {n : Nat} (hn : 0 < n) (hn2 : n < 2 ^ 31) {v : Int32} : KM cy ad tx yL_below cL_below 2 (some .int) d 0 0 [.int v, .int (nI n)] [] (lfQ fun r => ∃ w, w < n ∧ r = some (.int (nI w))) := by
  intro Γ hv h hr _ _
  show CW Γ 0 0 0 [some (.int v), some (.int (nI n))] [] [] _
  obtain ⟨j, j1, j2⟩ := w31 v
  refine kw_ilod h 0 dL_below_0 rfl rfl ?_
  refine kw_ldcI h dL_below_1 lc_L_7 ?_
  refine kw_iand h dL_below_3 ?_
  rw [j2]
  refine kw_ilod h 1 dL_below_4 rfl rfl ?_
  refine kw_irem h dL_below_5 (fun q => by have := (nI_eq (a := n) (b := 0) hn2 (by decide)).mp q; omega) ?_
  rw [pk_rem j1 hn hn2]
  exact km_iret h hr dL_below_6 ⟨rfl, _, Nat.mod_lt _ hn, rfl⟩
theorem kt_cell {k : Nat} (hk : k < 2 ^ 31) : KM cy ad tx yL_cell cL_cell 2 (some .int) d 0 0 [.ref (ad 500), .int (nI k)] [] (lfQ fun r => ∃ v, r = some (.int v)) := by
  intro Γ hv h hr _ _
  show CW Γ 0 0 0 [some (.ref (ad 500)), some (.int (nI k))] [] [] _
  refine kw_ilod h 1 dL_cell_0 rfl rfl ?_
  refine kw_alod h 0 dL_cell_1 rfl rfl ?_
  refine kw_xlen hv.2.1 h dL_cell_2 (fun hL => ?_)
  refine kw_icmp_ge h 12 dL_cell_3 rfl (fun _ => ?_) (fun c3 => ?_)
  · refine kw_ldcI h dL_cell_12 lc_L_8 ?_
    refine kw_ilod h 1 dL_cell_14 rfl rfl ?_
    refine kw_ic h dL_cell_15 (v := nI 3) rfl ?_
    refine kw_iadd h dL_cell_16 ?_
    refine kw_imul h dL_cell_17 ?_
    exact km_iret h hr dL_cell_18 ⟨rfl, _, rfl⟩
  · have hlt : k < ad 501 := by
      rcases Nat.lt_or_ge k (ad 501) with q | q
      · exact q
      · exact absurd (nI_le q hk) c3
    refine kw_alod h 0 dL_cell_6 rfl rfl ?_
    refine kw_ilod h 1 dL_cell_7 rfl rfl ?_
    refine kw_xld hv.2.1 h k dL_cell_8 rfl hlt hL (fun v => ?_)
    refine kw_goto h 18 dL_cell_9 rfl ?_
    exact km_iret h hr dL_cell_18 ⟨rfl, _, rfl⟩
theorem kt_first {k : Nat} (hk : k < 100) : KM cy ad tx yL_first cL_first 2 (some .int) (d + 1) 0 0 [.ref (ad 500), .int (nI k)] [] (lfQ fun r => ∃ w, w < 10000 ∧ r = some (.int (nI w))) := by
  intro Γ hv h hr _ _
  show CW Γ 0 0 0 [some (.ref (ad 500)), some (.int (nI k))] [] [] _
  refine kw_alod h 0 dL_first_0 rfl rfl ?_
  refine kw_ilod h 1 dL_first_1 rfl rfl ?_
  refine km_leafS (As := [.ref (ad 500), .int (nI k)]) hv h rk0 none mi_L_cell (by decide) dL_first_2 ml_L_65 (Nat.le_of_ble_eq_true rfl) rfl (Nat.le_of_ble_eq_true rfl) ts_none (kt_cell (by omega)) (fun r q => ?_)
  obtain ⟨v, rfl⟩ := q
  show CW Γ 0 0 5 _ (.int v :: []) _ _
  refine kw_alod h 0 dL_first_5 rfl rfl ?_
  refine kw_ilod h 1 dL_first_6 rfl rfl ?_
  refine km_leafS (As := [.ref (ad 500), .int (nI k)]) hv h rk0 none mi_L_cell (by decide) dL_first_7 ml_L_65 (Nat.le_of_ble_eq_true rfl) rfl (Nat.le_of_ble_eq_true rfl) ts_none (kt_cell (by omega)) (fun r q => ?_)
  obtain ⟨u, rfl⟩ := q
  show CW Γ 0 0 10 _ (.int u :: .int v :: []) _ _
  refine kw_bp h dL_first_10 (v := nI 9) rfl ?_
  refine kw_ishr h dL_first_12 ?_
  refine kw_ic h dL_first_13 (v := nI 2) rfl ?_
  refine km_leafS (As := [.int (u >>> (nI 9 &&& 31)), .int (nI 2)]) hv h rk0 none mi_L_below (by decide) dL_first_14 ml_L_69 (Nat.le_of_ble_eq_true rfl) rfl (Nat.le_of_ble_eq_true rfl) ts_none (kt_below (by decide) (by decide)) (fun r q => ?_)
  obtain ⟨w, w1, rfl⟩ := q
  show CW Γ 0 0 17 _ (.int (nI w) :: .int v :: []) _ _
  refine kw_if_ne h 26 dL_first_17 rfl (fun _ => ?_) (fun _ => ?_)
  · refine kw_bp h dL_first_26 (v := nI 30) rfl ?_
    refine km_leafS (As := [.int v, .int (nI 30)]) hv h rk0 none mi_L_below (by decide) dL_first_28 ml_L_69 (Nat.le_of_ble_eq_true rfl) rfl (Nat.le_of_ble_eq_true rfl) ts_none (kt_below (by decide) (by decide)) (fun r q => ?_)
    obtain ⟨z, z1, rfl⟩ := q
    exact km_iret h hr dL_first_31 ⟨rfl, z, by omega, rfl⟩
  · refine kw_sp h dL_first_20 (v := nI 10000) rfl ?_
    refine kw_goto h 28 dL_first_23 rfl ?_
    refine km_leafS (As := [.int v, .int (nI 10000)]) hv h rk0 none mi_L_below (by decide) dL_first_28 ml_L_69 (Nat.le_of_ble_eq_true rfl) rfl (Nat.le_of_ble_eq_true rfl) ts_none (kt_below (by decide) (by decide)) (fun r q => ?_)
    obtain ⟨z, z1, rfl⟩ := q
    exact km_iret h hr dL_first_31 ⟨rfl, z, by omega, rfl⟩
theorem kt_care {k : Nat} (hk : k < 100) : KM cy ad tx yL_care cL_care 2 (some .int) (d + 1) 0 0 [.ref (ad 500), .int (nI k)] [] (lfQ fun r => ∃ w, (1 ≤ w ∧ w ≤ 9) ∧ r = some (.int (nI w))) := by
  intro Γ hv h hr _ _
  show CW Γ 0 0 0 [some (.ref (ad 500)), some (.int (nI k))] [] [] _
  refine kw_ic h dL_care_0 (v := nI 1) rfl ?_
  refine kw_alod h 0 dL_care_1 rfl rfl ?_
  refine kw_ic h dL_care_2 (v := nI 5) rfl ?_
  refine kw_ilod h 1 dL_care_3 rfl rfl ?_
  refine kw_iadd h dL_care_4 ?_
  rw [nI_add]
  refine km_leafS (As := [.ref (ad 500), .int (nI (5 + k))]) hv h rk0 none mi_L_cell (by decide) dL_care_5 ml_L_65 (Nat.le_of_ble_eq_true rfl) rfl (Nat.le_of_ble_eq_true rfl) ts_none (kt_cell (by omega)) (fun r q => ?_)
  obtain ⟨v, rfl⟩ := q
  show CW Γ 0 0 8 _ (.int v :: .int (nI 1) :: []) _ _
  refine kw_bp h dL_care_8 (v := nI 9) rfl ?_
  refine km_leafS (As := [.int v, .int (nI 9)]) hv h rk0 none mi_L_below (by decide) dL_care_10 ml_L_69 (Nat.le_of_ble_eq_true rfl) rfl (Nat.le_of_ble_eq_true rfl) ts_none (kt_below (by decide) (by decide)) (fun r q => ?_)
  obtain ⟨z, z1, rfl⟩ := q
  show CW Γ 0 0 13 _ (.int (nI z) :: .int (nI 1) :: []) _ _
  refine kw_iadd h dL_care_13 ?_
  rw [nI_add]
  exact km_iret h hr dL_care_14 ⟨rfl, _, ⟨by omega, by omega⟩, rfl⟩
theorem kt_rank {v : Int32} : KM cy ad tx yL_rank cL_rank 2 (some .int) (d + 1) 0 0 [.ref (ad 500), .int v] [] (lfQ fun r => ∃ w, w < 4 ∧ r = some (.int (nI w))) := by
  intro Γ hv h hr _ _
  show CW Γ 0 0 0 [some (.ref (ad 500)), some (.int v)] [] [] _
  refine kw_alod h 0 dL_rank_0 rfl rfl ?_
  refine kw_bp h dL_rank_1 (v := nI 7) rfl ?_
  refine km_leafS (As := [.ref (ad 500), .int (nI 7)]) hv h rk0 none mi_L_cell (by decide) dL_rank_3 ml_L_65 (Nat.le_of_ble_eq_true rfl) rfl (Nat.le_of_ble_eq_true rfl) ts_none (kt_cell (by decide)) (fun r q => ?_)
  obtain ⟨u, rfl⟩ := q
  show CW Γ 0 0 6 _ (.int u :: []) _ _
  refine kw_ic h dL_rank_6 (v := nI 4) rfl ?_
  refine kw_ilod h 1 dL_rank_7 rfl rfl ?_
  refine kw_imul h dL_rank_8 ?_
  refine kw_ishr h dL_rank_9 ?_
  refine kw_ic h dL_rank_10 (v := nI 4) rfl ?_
  refine km_leafS (As := [.int (u >>> ((nI 4 * v) &&& 31)), .int (nI 4)]) hv h rk0 none mi_L_below (by decide) dL_rank_11 ml_L_69 (Nat.le_of_ble_eq_true rfl) rfl (Nat.le_of_ble_eq_true rfl) ts_none (kt_below (by decide) (by decide)) (fun r q => ?_)
  obtain ⟨z, z1, rfl⟩ := q
  exact km_iret h hr dL_rank_14 ⟨rfl, _, z1, rfl⟩
theorem kt_adds : KM cy ad tx yL_adds cL_adds 1 (some .int) (d + 1) 0 0 [.ref (ad 500)] [] (lfQ fun r => ∃ w, w < 3000 ∧ r = some (.int (nI w))) := by
  intro Γ hv h hr _ _
  show CW Γ 0 0 0 [some (.ref (ad 500))] [] [] _
  refine kw_alod h 0 dL_adds_0 rfl rfl ?_
  refine kw_bp h dL_adds_1 (v := nI 8) rfl ?_
  refine km_leafS (As := [.ref (ad 500), .int (nI 8)]) hv h rk0 none mi_L_cell (by decide) dL_adds_3 ml_L_65 (Nat.le_of_ble_eq_true rfl) rfl (Nat.le_of_ble_eq_true rfl) ts_none (kt_cell (by decide)) (fun r q => ?_)
  obtain ⟨u, rfl⟩ := q
  show CW Γ 0 0 6 _ (.int u :: []) _ _
  refine kw_sp h dL_adds_6 (v := nI 3000) rfl ?_
  refine km_leafS (As := [.int u, .int (nI 3000)]) hv h rk0 none mi_L_below (by decide) dL_adds_9 ml_L_69 (Nat.le_of_ble_eq_true rfl) rfl (Nat.le_of_ble_eq_true rfl) ts_none (kt_below (by decide) (by decide)) (fun r q => ?_)
  obtain ⟨z, z1, rfl⟩ := q
  exact km_iret h hr dL_adds_12 ⟨rfl, _, z1, rfl⟩
theorem kt_since : KM cy ad tx yL_since cL_since 1 (some .int) (d + 1) 0 0 [.ref (ad 500)] [] (lfQ fun r => ∃ w, w < 20 ∧ r = some (.int (nI w))) := by
  intro Γ hv h hr _ _
  show CW Γ 0 0 0 [some (.ref (ad 500))] [] [] _
  refine kw_alod h 0 dL_since_0 rfl rfl ?_
  refine kw_bp h dL_since_1 (v := nI 8) rfl ?_
  refine km_leafS (As := [.ref (ad 500), .int (nI 8)]) hv h rk0 none mi_L_cell (by decide) dL_since_3 ml_L_65 (Nat.le_of_ble_eq_true rfl) rfl (Nat.le_of_ble_eq_true rfl) ts_none (kt_cell (by decide)) (fun r q => ?_)
  obtain ⟨u, rfl⟩ := q
  show CW Γ 0 0 6 _ (.int u :: []) _ _
  refine kw_bp h dL_since_6 (v := nI 12) rfl ?_
  refine kw_ishr h dL_since_8 ?_
  refine kw_bp h dL_since_9 (v := nI 20) rfl ?_
  refine km_leafS (As := [.int (u >>> (nI 12 &&& 31)), .int (nI 20)]) hv h rk0 none mi_L_below (by decide) dL_since_11 ml_L_69 (Nat.le_of_ble_eq_true rfl) rfl (Nat.le_of_ble_eq_true rfl) ts_none (kt_below (by decide) (by decide)) (fun r q => ?_)
  obtain ⟨z, z1, rfl⟩ := q
  exact km_iret h hr dL_since_14 ⟨rfl, _, z1, rfl⟩
theorem kt_part : KM cy ad tx yL_part cL_part 1 (some .int) (d + 1) 0 0 [.ref (ad 500)] [] (lfQ fun r => ∃ w, w < 20 ∧ r = some (.int (nI w))) := by
  intro Γ hv h hr _ _
  show CW Γ 0 0 0 [some (.ref (ad 500))] [] [] _
  refine kw_ic h dL_part_0 (v := nI 1) rfl ?_
  refine kw_alod h 0 dL_part_1 rfl rfl ?_
  refine kw_bp h dL_part_2 (v := nI 9) rfl ?_
  refine km_leafS (As := [.ref (ad 500), .int (nI 9)]) hv h rk0 none mi_L_cell (by decide) dL_part_4 ml_L_65 (Nat.le_of_ble_eq_true rfl) rfl (Nat.le_of_ble_eq_true rfl) ts_none (kt_cell (by decide)) (fun r q => ?_)
  obtain ⟨u, rfl⟩ := q
  show CW Γ 0 0 7 _ (.int u :: .int (nI 1) :: []) _ _
  refine kw_bp h dL_part_7 (v := nI 9) rfl ?_
  refine km_leafS (As := [.int u, .int (nI 9)]) hv h rk0 none mi_L_below (by decide) dL_part_9 ml_L_69 (Nat.le_of_ble_eq_true rfl) rfl (Nat.le_of_ble_eq_true rfl) ts_none (kt_below (by decide) (by decide)) (fun r q => ?_)
  obtain ⟨z, z1, rfl⟩ := q
  show CW Γ 0 0 12 _ (.int (nI z) :: .int (nI 1) :: []) _ _
  refine kw_iadd h dL_part_12 ?_
  rw [nI_add]
  exact km_iret h hr dL_part_13 ⟨rfl, _, by omega, rfl⟩
theorem kt_each : KM cy ad tx yL_each cL_each 1 (some .int) (d + 1) 0 0 [.ref (ad 500)] [] (lfQ fun r => ∃ w, w < 20 ∧ r = some (.int (nI w))) := by
  intro Γ hv h hr _ _
  show CW Γ 0 0 0 [some (.ref (ad 500))] [] [] _
  refine kw_ic h dL_each_0 (v := nI 1) rfl ?_
  refine kw_alod h 0 dL_each_1 rfl rfl ?_
  refine kw_bp h dL_each_2 (v := nI 9) rfl ?_
  refine km_leafS (As := [.ref (ad 500), .int (nI 9)]) hv h rk0 none mi_L_cell (by decide) dL_each_4 ml_L_65 (Nat.le_of_ble_eq_true rfl) rfl (Nat.le_of_ble_eq_true rfl) ts_none (kt_cell (by decide)) (fun r q => ?_)
  obtain ⟨u, rfl⟩ := q
  show CW Γ 0 0 7 _ (.int u :: .int (nI 1) :: []) _ _
  refine kw_ic h dL_each_7 (v := nI 5) rfl ?_
  refine kw_ishr h dL_each_8 ?_
  refine kw_bp h dL_each_9 (v := nI 7) rfl ?_
  refine km_leafS (As := [.int (u >>> (nI 5 &&& 31)), .int (nI 7)]) hv h rk0 none mi_L_below (by decide) dL_each_11 ml_L_69 (Nat.le_of_ble_eq_true rfl) rfl (Nat.le_of_ble_eq_true rfl) ts_none (kt_below (by decide) (by decide)) (fun r q => ?_)
  obtain ⟨z, z1, rfl⟩ := q
  show CW Γ 0 0 14 _ (.int (nI z) :: .int (nI 1) :: []) _ _
  refine kw_iadd h dL_each_14 ?_
  rw [nI_add]
  exact km_iret h hr dL_each_15 ⟨rfl, _, by omega, rfl⟩
end KTH
