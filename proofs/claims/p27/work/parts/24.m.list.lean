/-! The law's list -/
theorem kv_1 : kS 1 = [99, 111, 108, 111, 117, 114, 32] := by decide +kernel
theorem kv_2 : kS 2 = [32, 114, 97, 110, 107, 32] := by decide +kernel
theorem kv_4 : kS 4 = [59] := by decide +kernel
theorem kv_5 : kS 5 = [109, 97, 105, 110] := by decide +kernel
theorem kv_6 : kS 6 = [99, 111, 114, 100, 32] := by decide +kernel
theorem kv_7 : kS 7 = [32, 111, 102, 32] := by decide +kernel
theorem kv_8 : kS 8 = [32, 117, 110, 100, 101, 114, 32] := by decide +kernel
theorem kv_9 : kS 9 = [32, 99, 111, 117, 110, 116, 32] := by decide +kernel
theorem kv_10 : kS 10 = [116, 111, 112, 32] := by decide +kernel
theorem kv_11 : kS 11 = [32, 111, 118, 101, 114, 32] := by decide +kernel
theorem kv_12 : kS 12 = [32] := by decide +kernel
theorem kv_13 : kS 13 = [59, 116, 111, 112, 32] := by decide +kernel
theorem kv_14 : kS 14 = [107, 101, 101, 112, 101, 114, 32] := by decide +kernel
theorem kv_15 : kS 15 = [32, 99, 97, 114, 101, 32] := by decide +kernel
theorem kv_16 : kS 16 = [59, 107, 101, 101, 112, 101, 114, 32] := by decide +kernel
theorem kv_17 : kS 17 = [116, 105, 101, 32] := by decide +kernel
theorem kv_18 : kS 18 = [32, 98, 121, 32] := by decide +kernel
theorem kv_19 : kS 19 = [32, 97, 115, 32, 118, 97, 108, 117, 101, 32] := by decide +kernel
theorem kv_20 : kS 20 = [32, 43, 32] := by decide +kernel
theorem kv_21 : kS 21 = [32, 45, 32, 107, 110, 111, 116, 115, 32] := by decide +kernel
theorem kv_22 : kS 22 = [116, 97, 108, 108, 121, 32] := by decide +kernel
theorem kv_23 : kS 23 = [32, 119, 104, 101, 110, 32, 119, 114, 111, 110, 103, 32] := by decide +kernel
theorem kv_24 : kS 24 = [32, 111, 114, 32, 116, 105, 114, 101, 100, 32] := by decide +kernel
theorem kv_25 : kS 25 = [32, 62, 32, 51, 59] := by decide +kernel
theorem kv_26 : kS 26 = [32, 97, 115, 32, 115, 117, 109, 32] := by decide +kernel
theorem kv_27 : kS 27 = [32, 47, 32] := by decide +kernel
theorem kv_30 : kS 30 = [32, 119, 104, 101, 110, 32, 109, 111, 110, 116, 104, 32, 62, 61, 32] := by decide +kernel
theorem kv_31 : kS 31 = [32, 97, 110, 100, 32, 118, 97, 108, 117, 101, 32] := by decide +kernel
theorem kv_32 : kS 32 = [32, 60, 32, 53, 48, 48, 48, 59] := by decide +kernel
theorem kv_33 : kS 33 = [32, 119, 104, 101, 110, 32, 109, 111, 110, 116, 104, 32, 47, 32] := by decide +kernel
theorem kv_34 : kS 34 = [32, 42, 32] := by decide +kernel
theorem kv_35 : kS 35 = [32, 61, 32, 109, 111, 110, 116, 104, 59] := by decide +kernel
theorem kv_36 : kS 36 = [114, 101, 100] := by decide +kernel
theorem kv_37 : kS 37 = [98, 108, 117, 101] := by decide +kernel
theorem kv_38 : kS 38 = [98, 114, 111, 119, 110] := by decide +kernel
theorem kv_39 : kS 39 = [97] := by decide +kernel
theorem kv_40 : kS 40 = [98] := by decide +kernel
theorem kv_41 : kS 41 = [99] := by decide +kernel
theorem kv_42 : kS 42 = [100] := by decide +kernel
theorem kv_43 : kS 43 = [101] := by decide +kernel
theorem kv_44 : kS 44 = [116] := by decide +kernel
theorem kv_45 : kS 45 = [117] := by decide +kernel
theorem kv_46 : kS 46 = [97, 110, 110] := by decide +kernel
theorem kv_47 : kS 47 = [98, 111, 98] := by decide +kernel
theorem flP_app : ∀ a b : List PIE, flP (a ++ b) = flP a ++ flP b
  | [], _ => rfl
  | x :: a, b => by
    show fl1 x ++ flP (a ++ b) = (fl1 x ++ flP a) ++ flP b
    rw [flP_app a b, List.append_assoc]
theorem tx_0 (w : Nat) : (kS 1 ++ (kS (36 + 0) ++ (kS 2 ++ (dgl 3 w ++ kS 4)))) = flP (Q0 w) := by
  rw [show 36 + 0 = 36 from rfl, kv_1, kv_36, kv_2, kv_4]
  rfl
theorem tx_1 (w : Nat) : (kS 1 ++ (kS (36 + 1) ++ (kS 2 ++ (dgl 3 w ++ kS 4)))) = flP (Q1 w) := by
  rw [show 36 + 1 = 37 from rfl, kv_1, kv_37, kv_2, kv_4]
  rfl
theorem tx_2 (w : Nat) : (kS 1 ++ (kS (36 + 2) ++ (kS 2 ++ (dgl 3 w ++ kS 4)))) = flP (Q2 w) := by
  rw [show 36 + 2 = 38 from rfl, kv_1, kv_38, kv_2, kv_4]
  rfl
theorem tx_3 (w : Nat) : (kS 6 ++ (kS (39 + 0) ++ (kS 7 ++ (kS (36 + dyK 0) ++ (kS 8 ++ (kS (abK 0) ++ (kS 9 ++ (dgl 3 w ++ kS 4)))))))) = flP (Q3 w) := by
  rw [show 39 + 0 = 39 from rfl, show 36 + dyK 0 = 36 from rfl, show abK 0 = 5 from rfl]
  simp only [kv_4, kv_5, kv_6, kv_7, kv_8, kv_9, kv_36, kv_39]
  rfl
theorem tx_4 (w : Nat) : (kS 6 ++ (kS (39 + 1) ++ (kS 7 ++ (kS (36 + dyK 1) ++ (kS 8 ++ (kS (abK 1) ++ (kS 9 ++ (dgl 3 w ++ kS 4)))))))) = flP (Q4 w) := by
  rw [show 39 + 1 = 40 from rfl, show 36 + dyK 1 = 37 from rfl, show abK 1 = 39 from rfl]
  simp only [kv_4, kv_6, kv_7, kv_8, kv_9, kv_37, kv_39, kv_40]
  rfl
theorem tx_5 (w : Nat) : (kS 6 ++ (kS (39 + 2) ++ (kS 7 ++ (kS (36 + dyK 2) ++ (kS 8 ++ (kS (abK 2) ++ (kS 9 ++ (dgl 3 w ++ kS 4)))))))) = flP (Q5 w) := by
  rw [show 39 + 2 = 41 from rfl, show 36 + dyK 2 = 38 from rfl, show abK 2 = 39 from rfl]
  simp only [kv_4, kv_6, kv_7, kv_8, kv_9, kv_38, kv_39, kv_41]
  rfl
theorem tx_6 (w : Nat) : (kS 6 ++ (kS (39 + 3) ++ (kS 7 ++ (kS (36 + dyK 3) ++ (kS 8 ++ (kS (abK 3) ++ (kS 9 ++ (dgl 3 w ++ kS 4)))))))) = flP (Q6 w) := by
  rw [show 39 + 3 = 42 from rfl, show 36 + dyK 3 = 37 from rfl, show abK 3 = 41 from rfl]
  simp only [kv_4, kv_6, kv_7, kv_8, kv_9, kv_37, kv_41, kv_42]
  rfl
theorem tx_7 (w : Nat) : (kS 6 ++ (kS (39 + 4) ++ (kS 7 ++ (kS (36 + dyK 4) ++ (kS 8 ++ (kS (abK 4) ++ (kS 9 ++ (dgl 3 w ++ kS 4)))))))) = flP (Q7 w) := by
  rw [show 39 + 4 = 43 from rfl, show 36 + dyK 4 = 36 from rfl, show abK 4 = 5 from rfl]
  simp only [kv_4, kv_5, kv_6, kv_7, kv_8, kv_9, kv_36, kv_43]
  rfl
theorem tx_ll_A : (kS 10 ++ (kS 44 ++ (kS 11 ++ (kS 39 ++ (kS 12 ++ (kS 43 ++ (kS 13 ++ (kS 45 ++ (kS 11 ++ (kS 40 ++ (kS 12 ++ (kS 41 ++ (kS 12 ++ (kS 42 ++ (kS 4))))))))))))))) = flP (Q8) ++ flP (Q9) := by
  simp only [kv_4, kv_10, kv_11, kv_12, kv_13, kv_39, kv_40, kv_41, kv_42, kv_43, kv_44, kv_45]
  rfl
theorem tx_ll_B (u345 u373 : Nat) : (kS 14 ++ (kS 46 ++ (kS 15 ++ (dgl 3 u345 ++ (kS 16 ++ (kS 47 ++ (kS 15 ++ (dgl 3 u373 ++ (kS 4))))))))) = flP (Q10 u345) ++ flP (Q11 u373) := by
  simp only [kv_4, kv_14, kv_15, kv_16, kv_46, kv_47]
  simp [flP, fl1, Q10, Q11]
theorem tx_ll_C (u442 : Nat) : (kS 17 ++ (kS 40 ++ (kS 18 ++ (kS 46 ++ (kS 19 ++ (kS 40 ++ (kS 20 ++ (dgl 3 u442 ++ (kS 21 ++ (kS 43 ++ (kS 4))))))))))) = flP (Q12 u442) := by
  simp only [kv_4, kv_17, kv_18, kv_19, kv_20, kv_21, kv_40, kv_43, kv_46]
  rfl
theorem tx_ll_D : (kS 22 ++ (kS 44 ++ (kS 18 ++ (kS 46 ++ (kS 23 ++ (kS 44 ++ (kS 24 ++ (kS 47 ++ (kS 25))))))))) = flP (Q13) := by
  simp only [kv_18, kv_22, kv_23, kv_24, kv_25, kv_44, kv_46, kv_47]
  rfl
theorem tx_ll_E (u592 u607 : Nat) : (kS 17 ++ (kS 42 ++ (kS 18 ++ (kS 47 ++ (kS 26 ++ (kS 41 ++ (kS 27 ++ (dgl 3 u592 ++ (kS 30 ++ (dgl 3 u607 ++ (kS 31 ++ (kS 42 ++ (kS 32))))))))))))) = flP (Q14 u592 u607) := by
  simp only [kv_17, kv_18, kv_26, kv_27, kv_30, kv_31, kv_32, kv_41, kv_42, kv_47]
  rfl
theorem tx_ll_F (u678 u693 : Nat) : (kS 22 ++ (kS 45 ++ (kS 18 ++ (kS 47 ++ (kS 33 ++ (dgl 3 u678 ++ (kS 34 ++ (dgl 3 u693 ++ (kS 35))))))))) = flP (Q15 u678 u693) := by
  simp only [kv_18, kv_22, kv_33, kv_34, kv_35, kv_45, kv_47]
  rfl
def vOf (l : List Nat) (i : Nat) : Nat := l.getD i 0
theorem tx_all (w0 w1 w2 f0 f1 f2 f3 f4 u345 u373 u442 u592 u607 u678 u693 : Nat) : (((((((((((((([] ++ (kS 1 ++ (kS (36 + 0) ++ (kS 2 ++ (dgl 3 w0 ++ kS 4))))) ++ (kS 1 ++ (kS (36 + 1) ++ (kS 2 ++ (dgl 3 w1 ++ kS 4))))) ++ (kS 1 ++ (kS (36 + 2) ++ (kS 2 ++ (dgl 3 w2 ++ kS 4))))) ++ (kS 6 ++ (kS (39 + 0) ++ (kS 7 ++ (kS (36 + dyK 0) ++ (kS 8 ++ (kS (abK 0) ++ (kS 9 ++ (dgl 3 f0 ++ kS 4))))))))) ++ (kS 6 ++ (kS (39 + 1) ++ (kS 7 ++ (kS (36 + dyK 1) ++ (kS 8 ++ (kS (abK 1) ++ (kS 9 ++ (dgl 3 f1 ++ kS 4))))))))) ++ (kS 6 ++ (kS (39 + 2) ++ (kS 7 ++ (kS (36 + dyK 2) ++ (kS 8 ++ (kS (abK 2) ++ (kS 9 ++ (dgl 3 f2 ++ kS 4))))))))) ++ (kS 6 ++ (kS (39 + 3) ++ (kS 7 ++ (kS (36 + dyK 3) ++ (kS 8 ++ (kS (abK 3) ++ (kS 9 ++ (dgl 3 f3 ++ kS 4))))))))) ++ (kS 6 ++ (kS (39 + 4) ++ (kS 7 ++ (kS (36 + dyK 4) ++ (kS 8 ++ (kS (abK 4) ++ (kS 9 ++ (dgl 3 f4 ++ kS 4))))))))) ++ (kS 10 ++ (kS 44 ++ (kS 11 ++ (kS 39 ++ (kS 12 ++ (kS 43 ++ (kS 13 ++ (kS 45 ++ (kS 11 ++ (kS 40 ++ (kS 12 ++ (kS 41 ++ (kS 12 ++ (kS 42 ++ (kS 4)))))))))))))))) ++ (kS 14 ++ (kS 46 ++ (kS 15 ++ (dgl 3 u345 ++ (kS 16 ++ (kS 47 ++ (kS 15 ++ (dgl 3 u373 ++ (kS 4)))))))))) ++ (kS 17 ++ (kS 40 ++ (kS 18 ++ (kS 46 ++ (kS 19 ++ (kS 40 ++ (kS 20 ++ (dgl 3 u442 ++ (kS 21 ++ (kS 43 ++ (kS 4)))))))))))) ++ (kS 22 ++ (kS 44 ++ (kS 18 ++ (kS 46 ++ (kS 23 ++ (kS 44 ++ (kS 24 ++ (kS 47 ++ (kS 25)))))))))) ++ (kS 17 ++ (kS 42 ++ (kS 18 ++ (kS 47 ++ (kS 26 ++ (kS 41 ++ (kS 27 ++ (dgl 3 u592 ++ (kS 30 ++ (dgl 3 u607 ++ (kS 31 ++ (kS 42 ++ (kS 32)))))))))))))) ++ (kS 22 ++ (kS 45 ++ (kS 18 ++ (kS 47 ++ (kS 33 ++ (dgl 3 u678 ++ (kS 34 ++ (dgl 3 u693 ++ (kS 35)))))))))) = flP (qP (vOf [w0, w1, w2, f0, f1, f2, f3, f4, u345, u373, u442, u592, u607, u678, u693])) := by
  rw [tx_0, tx_1, tx_2, tx_3, tx_4, tx_5, tx_6, tx_7, tx_ll_A, tx_ll_B, tx_ll_C, tx_ll_D, tx_ll_E, tx_ll_F]
  unfold qP
  simp only [flP_app, List.append_assoc, List.nil_append]
  rfl
set_option maxHeartbeats 2000000 in
theorem kt_list {ad : Nat → Nat} {tx : TXo} {cy : Nat → ClassId} {d : Nat} : KM cy ad tx yL_list cL_list 6 (some (.object "java/lang/String")) (d + 11) 1000 1400000 [.ref (ad 500), .ref (ad 401)] [] (fun r w => ∃ (v : Nat → Nat) (b y qd : Nat) (g fD : Nat → Int32), ((∀ i, v i < 10000) ∧ (∀ i, i < 3 → v i ≤ 99) ∧ ∀ i, i = 8 ∨ i = 9 → 1 ≤ v i ∧ v i ≤ 9) ∧ r = some (.ref b) ∧ w = wT cy b y (flP (qP v)) g ++ [(qd, .inl (cy 0, 5, .inl fD))] ∧ LT (flP (qP v)) g ∧ (flP (qP v)).length ≤ 2100) := by
  intro Γ hv h hr _ hR
  show CW Γ 0 0 0 [some (.ref (ad 500)), some (.ref (ad 401)), none, none, none, none] [] [] _
  refine kw_ldcL hv.2.1 h (i := 0) (by decide) dL_list_0 ?_
  refine kw_asto h 2 dL_list_2 rfl (by decide) rfl ?_
  refine kw_ic h dL_list_3 (v := nI 0) rfl ?_
  refine kw_isto h 3 dL_list_4 rfl (by decide) rfl ?_
  refine ll_1 hv h (rk_le hR (by omega) (by omega)) (fun w0 w1 w2 hw0 hw1 hw2 b1 y1 g1 z1 n1 => ?_)
  refine ll_2 hv h (rk_le hR (by omega) (by omega)) z1 n1 (fun f0 f1 f2 f3 f4 hf0 hf1 hf2 hf3 hf4 b2 y2 qd qa g2 fD z2 n2 => ?_)
  refine ll_A (N0 := 960) hv h (rk_le hR (by omega) (by omega)) z2 n2 (by decide) (fun b3 y3 g3 z3 n3 => ?_)
  refine ll_B (N0 := 1200) hv h (rk_le hR (by omega) (by omega)) z3 n3 (by decide) (fun u345 u373 hu345 hu373 b4 y4 g4 z4 n4 => ?_)
  refine ll_C (N0 := 1344) hv h (rk_le hR (by omega) (by omega)) z4 n4 (by decide) (fun u442 hu442 b5 y5 g5 z5 n5 => ?_)
  refine ll_D (N0 := 1520) hv h (rk_le hR (by omega) (by omega)) z5 n5 (by decide) (fun b6 y6 g6 z6 n6 => ?_)
  refine ll_E (N0 := 1664) hv h (rk_le hR (by omega) (by omega)) z6 n6 (by decide) (fun u592 u607 hu592 hu607 b7 y7 g7 z7 n7 => ?_)
  refine ll_F (N0 := 1872) hv h (rk_le hR (by omega) (by omega)) z7 n7 (by decide) (fun u678 u693 hu678 hu693 b9 y9 g9 z9 n9 => ?_)
  rw [tx_all w0 w1 w2 f0 f1 f2 f3 f4 u345 u373 u442 u592 u607 u678 u693] at z9 n9 ⊢
  refine k_pad (kc' := 1000) (kn' := 1400000) (by omega) (by omega) ?_
  refine km_aret h hr (Or.inl ⟨_, rfl⟩) dL_list_710 ⟨_, b9, y9, qd, g9, fD, ⟨fun i => ?_, fun i hi => ?_, fun i hi => ?_⟩, rfl, rfl, z9, by omega⟩
  · match i with
    | 0 => show w0 < 10000; omega
    | 1 => show w1 < 10000; omega
    | 2 => show w2 < 10000; omega
    | 3 => show f0 < 10000; omega
    | 4 => show f1 < 10000; omega
    | 5 => show f2 < 10000; omega
    | 6 => show f3 < 10000; omega
    | 7 => show f4 < 10000; omega
    | 8 => show u345 < 10000; omega
    | 9 => show u373 < 10000; omega
    | 10 => show u442 < 10000; omega
    | 11 => show u592 < 10000; omega
    | 12 => show u607 < 10000; omega
    | 13 => show u678 < 10000; omega
    | 14 => show u693 < 10000; omega
    | k + 15 => show (vOf [w0, w1, w2, f0, f1, f2, f3, f4, u345, u373, u442, u592, u607, u678, u693]) (k + 15) < 10000; exact Nat.lt_of_le_of_lt (Nat.le_of_eq rfl) (by decide : 0 < 10000)
  · rcases (show i = 0 ∨ i = 1 ∨ i = 2 by omega) with rfl | rfl | rfl
    · show w0 ≤ 99; omega
    · show w1 ≤ 99; omega
    · show w2 ≤ 99; omega
  · rcases hi with rfl | rfl
    · exact hu345
    · exact hu373
