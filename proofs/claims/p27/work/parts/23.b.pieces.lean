/-! The law's text as pieces: what its teaching says -/
theorem sg59 (c : Nat) : sgP (false, [59], 34, 0) c = true := by simp [sgP, alN, ltrN, dgC1, symK]
theorem nuP_d {v nc : Nat} (b : Bool) (h : v < 10000) (hn : dgC1 nc = false) : nuP (b, dgl 3 v, 29, v) nc := ⟨dgl_ne _ _, dgl_dg 3 v, Nat.le_trans (dgl_len 3 v) (by decide), hn, (dgl_nu 3 v (by omega)).symm, rfl⟩
theorem nd59 : dgC1 59 = false := by decide
theorem nd32 : dgC1 32 = false := by decide
theorem pw_0 : wdP (false, [99, 111, 108, 111, 117, 114], 0, 236773452) 32 = true := by decide +kernel
theorem pw_1 : wdP (true, [114, 101, 100], 28, 24831) 32 = true := by decide +kernel
theorem pw_2 : wdP (true, [114, 97, 110, 107], 1, 913652) 32 = true := by decide +kernel
theorem pw_3 : wdP (true, [98, 108, 117, 101], 28, 118516) 32 = true := by decide +kernel
theorem pw_4 : wdP (true, [98, 114, 111, 119, 110], 28, 4681476) 32 = true := by decide +kernel
theorem pw_5 : wdP (false, [99, 111, 114, 100], 2, 173164) 32 = true := by decide +kernel
theorem pw_6 : wdP (true, [97], 28, 1) 32 = true := by decide +kernel
theorem pw_7 : wdP (true, [111, 102], 3, 561) 32 = true := by decide +kernel
theorem pw_8 : wdP (true, [117, 110, 100, 101, 114], 4, 40072202) 32 = true := by decide +kernel
theorem pw_9 : wdP (true, [109, 97, 105, 110], 5, 660205) 32 = true := by decide +kernel
theorem pw_10 : wdP (true, [99, 111, 117, 110, 116], 6, 6411565) 32 = true := by decide +kernel
theorem pw_11 : wdP (true, [98], 28, 2) 32 = true := by decide +kernel
theorem pw_12 : wdP (true, [99], 28, 3) 32 = true := by decide +kernel
theorem pw_13 : wdP (true, [100], 28, 4) 32 = true := by decide +kernel
theorem pw_14 : wdP (true, [101], 28, 5) 32 = true := by decide +kernel
theorem pw_15 : wdP (false, [116, 111, 112], 7, 27951) 32 = true := by decide +kernel
theorem pw_16 : wdP (true, [116], 28, 20) 32 = true := by decide +kernel
theorem pw_17 : wdP (true, [111, 118, 101, 114], 8, 790116) 32 = true := by decide +kernel
theorem pw_18 : wdP (true, [101], 28, 5) 59 = true := by decide +kernel
theorem pw_19 : wdP (true, [117], 28, 21) 32 = true := by decide +kernel
theorem pw_20 : wdP (true, [100], 28, 4) 59 = true := by decide +kernel
theorem pw_21 : wdP (false, [107, 101, 101, 112, 101, 114], 9, 772429704) 32 = true := by decide +kernel
theorem pw_22 : wdP (true, [97, 110, 110], 28, 1901) 32 = true := by decide +kernel
theorem pw_23 : wdP (true, [99, 97, 114, 101], 10, 153999) 32 = true := by decide +kernel
theorem pw_24 : wdP (true, [98, 111, 98], 28, 3295) 32 = true := by decide +kernel
theorem pw_25 : wdP (false, [116, 105, 101], 11, 27718) 32 = true := by decide +kernel
theorem pw_26 : wdP (true, [98, 121], 12, 99) 32 = true := by decide +kernel
theorem pw_27 : wdP (true, [97, 115], 13, 56) 32 = true := by decide +kernel
theorem pw_28 : wdP (true, [118, 97, 108, 117, 101], 17, 41299405) 32 = true := by decide +kernel
theorem pw_29 : sgP (true, [43], 36, 0) 32 = true := by decide +kernel
theorem pw_30 : sgP (true, [45], 37, 0) 32 = true := by decide +kernel
theorem pw_31 : wdP (true, [107, 110, 111, 116, 115], 19, 21346207) 32 = true := by decide +kernel
theorem pw_32 : wdP (false, [116, 97, 108, 108, 121], 14, 37550770) 32 = true := by decide +kernel
theorem pw_33 : wdP (true, [119, 104, 101, 110], 15, 1176170) 32 = true := by decide +kernel
theorem pw_34 : wdP (true, [119, 114, 111, 110, 103], 22, 44038517) 32 = true := by decide +kernel
theorem pw_35 : wdP (true, [111, 114], 25, 573) 32 = true := by decide +kernel
theorem pw_36 : wdP (true, [116, 105, 114, 101, 100], 21, 37963928) 32 = true := by decide +kernel
theorem pw_37 : sgP (true, [62], 41, 0) 32 = true := by decide +kernel
theorem pw_38 : nuP (true, [51], 29, 3) 59 := ⟨by decide, by decide, by decide, by decide, by decide +kernel, rfl⟩
theorem pw_39 : wdP (true, [115, 117, 109], 18, 26801) 32 = true := by decide +kernel
theorem pw_40 : sgP (true, [47], 39, 0) 32 = true := by decide +kernel
theorem pw_41 : wdP (true, [109, 111, 110, 116, 104], 16, 25143802) 32 = true := by decide +kernel
theorem pw_42 : gtP (true, [62, 61], 44, 0) = true := by decide +kernel
theorem pw_43 : wdP (true, [97, 110, 100], 24, 1891) 32 = true := by decide +kernel
theorem pw_44 : sgP (true, [60], 40, 0) 32 = true := by decide +kernel
theorem pw_45 : nuP (true, [53, 48, 48, 48], 29, 5000) 59 := ⟨by decide, by decide, by decide, by decide, by decide +kernel, rfl⟩
theorem pw_46 : sgP (true, [42], 38, 0) 32 = true := by decide +kernel
theorem pw_47 : sgP (true, [61], 42, 0) 32 = true := by decide +kernel
theorem pw_48 : wdP (true, [109, 111, 110, 116, 104], 16, 25143802) 59 = true := by decide +kernel
def Q0 (v0 : Nat) : List PIE := [(false, [99, 111, 108, 111, 117, 114], 0, 236773452), (true, [114, 101, 100], 28, 24831), (true, [114, 97, 110, 107], 1, 913652), (true, dgl 3 v0, 29, v0), (false, [59], 34, 0)]
theorem Q0_ok {v0 : Nat} (h0 : v0 < 10000) (c : Nat) : okN (Q0 v0) c := ⟨Or.inl pw_0, Or.inl pw_1, Or.inl pw_2, Or.inr (Or.inl (nuP_d true h0 nd59)), Or.inr (Or.inr (Or.inl (sg59 c))), trivial⟩
def Q1 (v1 : Nat) : List PIE := [(false, [99, 111, 108, 111, 117, 114], 0, 236773452), (true, [98, 108, 117, 101], 28, 118516), (true, [114, 97, 110, 107], 1, 913652), (true, dgl 3 v1, 29, v1), (false, [59], 34, 0)]
theorem Q1_ok {v1 : Nat} (h1 : v1 < 10000) (c : Nat) : okN (Q1 v1) c := ⟨Or.inl pw_0, Or.inl pw_3, Or.inl pw_2, Or.inr (Or.inl (nuP_d true h1 nd59)), Or.inr (Or.inr (Or.inl (sg59 c))), trivial⟩
def Q2 (v2 : Nat) : List PIE := [(false, [99, 111, 108, 111, 117, 114], 0, 236773452), (true, [98, 114, 111, 119, 110], 28, 4681476), (true, [114, 97, 110, 107], 1, 913652), (true, dgl 3 v2, 29, v2), (false, [59], 34, 0)]
theorem Q2_ok {v2 : Nat} (h2 : v2 < 10000) (c : Nat) : okN (Q2 v2) c := ⟨Or.inl pw_0, Or.inl pw_4, Or.inl pw_2, Or.inr (Or.inl (nuP_d true h2 nd59)), Or.inr (Or.inr (Or.inl (sg59 c))), trivial⟩
def Q3 (v3 : Nat) : List PIE := [(false, [99, 111, 114, 100], 2, 173164), (true, [97], 28, 1), (true, [111, 102], 3, 561), (true, [114, 101, 100], 28, 24831), (true, [117, 110, 100, 101, 114], 4, 40072202), (true, [109, 97, 105, 110], 5, 660205), (true, [99, 111, 117, 110, 116], 6, 6411565), (true, dgl 3 v3, 29, v3), (false, [59], 34, 0)]
theorem Q3_ok {v3 : Nat} (h3 : v3 < 10000) (c : Nat) : okN (Q3 v3) c := ⟨Or.inl pw_5, Or.inl pw_6, Or.inl pw_7, Or.inl pw_1, Or.inl pw_8, Or.inl pw_9, Or.inl pw_10, Or.inr (Or.inl (nuP_d true h3 nd59)), Or.inr (Or.inr (Or.inl (sg59 c))), trivial⟩
def Q4 (v4 : Nat) : List PIE := [(false, [99, 111, 114, 100], 2, 173164), (true, [98], 28, 2), (true, [111, 102], 3, 561), (true, [98, 108, 117, 101], 28, 118516), (true, [117, 110, 100, 101, 114], 4, 40072202), (true, [97], 28, 1), (true, [99, 111, 117, 110, 116], 6, 6411565), (true, dgl 3 v4, 29, v4), (false, [59], 34, 0)]
theorem Q4_ok {v4 : Nat} (h4 : v4 < 10000) (c : Nat) : okN (Q4 v4) c := ⟨Or.inl pw_5, Or.inl pw_11, Or.inl pw_7, Or.inl pw_3, Or.inl pw_8, Or.inl pw_6, Or.inl pw_10, Or.inr (Or.inl (nuP_d true h4 nd59)), Or.inr (Or.inr (Or.inl (sg59 c))), trivial⟩
def Q5 (v5 : Nat) : List PIE := [(false, [99, 111, 114, 100], 2, 173164), (true, [99], 28, 3), (true, [111, 102], 3, 561), (true, [98, 114, 111, 119, 110], 28, 4681476), (true, [117, 110, 100, 101, 114], 4, 40072202), (true, [97], 28, 1), (true, [99, 111, 117, 110, 116], 6, 6411565), (true, dgl 3 v5, 29, v5), (false, [59], 34, 0)]
theorem Q5_ok {v5 : Nat} (h5 : v5 < 10000) (c : Nat) : okN (Q5 v5) c := ⟨Or.inl pw_5, Or.inl pw_12, Or.inl pw_7, Or.inl pw_4, Or.inl pw_8, Or.inl pw_6, Or.inl pw_10, Or.inr (Or.inl (nuP_d true h5 nd59)), Or.inr (Or.inr (Or.inl (sg59 c))), trivial⟩
def Q6 (v6 : Nat) : List PIE := [(false, [99, 111, 114, 100], 2, 173164), (true, [100], 28, 4), (true, [111, 102], 3, 561), (true, [98, 108, 117, 101], 28, 118516), (true, [117, 110, 100, 101, 114], 4, 40072202), (true, [99], 28, 3), (true, [99, 111, 117, 110, 116], 6, 6411565), (true, dgl 3 v6, 29, v6), (false, [59], 34, 0)]
theorem Q6_ok {v6 : Nat} (h6 : v6 < 10000) (c : Nat) : okN (Q6 v6) c := ⟨Or.inl pw_5, Or.inl pw_13, Or.inl pw_7, Or.inl pw_3, Or.inl pw_8, Or.inl pw_12, Or.inl pw_10, Or.inr (Or.inl (nuP_d true h6 nd59)), Or.inr (Or.inr (Or.inl (sg59 c))), trivial⟩
def Q7 (v7 : Nat) : List PIE := [(false, [99, 111, 114, 100], 2, 173164), (true, [101], 28, 5), (true, [111, 102], 3, 561), (true, [114, 101, 100], 28, 24831), (true, [117, 110, 100, 101, 114], 4, 40072202), (true, [109, 97, 105, 110], 5, 660205), (true, [99, 111, 117, 110, 116], 6, 6411565), (true, dgl 3 v7, 29, v7), (false, [59], 34, 0)]
theorem Q7_ok {v7 : Nat} (h7 : v7 < 10000) (c : Nat) : okN (Q7 v7) c := ⟨Or.inl pw_5, Or.inl pw_14, Or.inl pw_7, Or.inl pw_1, Or.inl pw_8, Or.inl pw_9, Or.inl pw_10, Or.inr (Or.inl (nuP_d true h7 nd59)), Or.inr (Or.inr (Or.inl (sg59 c))), trivial⟩
def Q8 : List PIE := [(false, [116, 111, 112], 7, 27951), (true, [116], 28, 20), (true, [111, 118, 101, 114], 8, 790116), (true, [97], 28, 1), (true, [101], 28, 5), (false, [59], 34, 0)]
theorem Q8_ok (c : Nat) : okN (Q8) c := ⟨Or.inl pw_15, Or.inl pw_16, Or.inl pw_17, Or.inl pw_6, Or.inl pw_18, Or.inr (Or.inr (Or.inl (sg59 c))), trivial⟩
def Q9 : List PIE := [(false, [116, 111, 112], 7, 27951), (true, [117], 28, 21), (true, [111, 118, 101, 114], 8, 790116), (true, [98], 28, 2), (true, [99], 28, 3), (true, [100], 28, 4), (false, [59], 34, 0)]
theorem Q9_ok (c : Nat) : okN (Q9) c := ⟨Or.inl pw_15, Or.inl pw_19, Or.inl pw_17, Or.inl pw_11, Or.inl pw_12, Or.inl pw_20, Or.inr (Or.inr (Or.inl (sg59 c))), trivial⟩
def Q10 (v8 : Nat) : List PIE := [(false, [107, 101, 101, 112, 101, 114], 9, 772429704), (true, [97, 110, 110], 28, 1901), (true, [99, 97, 114, 101], 10, 153999), (true, dgl 3 v8, 29, v8), (false, [59], 34, 0)]
theorem Q10_ok {v8 : Nat} (h8 : v8 < 10000) (c : Nat) : okN (Q10 v8) c := ⟨Or.inl pw_21, Or.inl pw_22, Or.inl pw_23, Or.inr (Or.inl (nuP_d true h8 nd59)), Or.inr (Or.inr (Or.inl (sg59 c))), trivial⟩
def Q11 (v9 : Nat) : List PIE := [(false, [107, 101, 101, 112, 101, 114], 9, 772429704), (true, [98, 111, 98], 28, 3295), (true, [99, 97, 114, 101], 10, 153999), (true, dgl 3 v9, 29, v9), (false, [59], 34, 0)]
theorem Q11_ok {v9 : Nat} (h9 : v9 < 10000) (c : Nat) : okN (Q11 v9) c := ⟨Or.inl pw_21, Or.inl pw_24, Or.inl pw_23, Or.inr (Or.inl (nuP_d true h9 nd59)), Or.inr (Or.inr (Or.inl (sg59 c))), trivial⟩
def Q12 (v10 : Nat) : List PIE := [(false, [116, 105, 101], 11, 27718), (true, [98], 28, 2), (true, [98, 121], 12, 99), (true, [97, 110, 110], 28, 1901), (true, [97, 115], 13, 56), (true, [118, 97, 108, 117, 101], 17, 41299405), (true, [98], 28, 2), (true, [43], 36, 0), (true, dgl 3 v10, 29, v10), (true, [45], 37, 0), (true, [107, 110, 111, 116, 115], 19, 21346207), (true, [101], 28, 5), (false, [59], 34, 0)]
theorem Q12_ok {v10 : Nat} (h10 : v10 < 10000) (c : Nat) : okN (Q12 v10) c := ⟨Or.inl pw_25, Or.inl pw_11, Or.inl pw_26, Or.inl pw_22, Or.inl pw_27, Or.inl pw_28, Or.inl pw_11, Or.inr (Or.inr (Or.inl pw_29)), Or.inr (Or.inl (nuP_d true h10 nd32)), Or.inr (Or.inr (Or.inl pw_30)), Or.inl pw_31, Or.inl pw_18, Or.inr (Or.inr (Or.inl (sg59 c))), trivial⟩
def Q13 : List PIE := [(false, [116, 97, 108, 108, 121], 14, 37550770), (true, [116], 28, 20), (true, [98, 121], 12, 99), (true, [97, 110, 110], 28, 1901), (true, [119, 104, 101, 110], 15, 1176170), (true, [119, 114, 111, 110, 103], 22, 44038517), (true, [116], 28, 20), (true, [111, 114], 25, 573), (true, [116, 105, 114, 101, 100], 21, 37963928), (true, [98, 111, 98], 28, 3295), (true, [62], 41, 0), (true, [51], 29, 3), (false, [59], 34, 0)]
theorem Q13_ok (c : Nat) : okN (Q13) c := ⟨Or.inl pw_32, Or.inl pw_16, Or.inl pw_26, Or.inl pw_22, Or.inl pw_33, Or.inl pw_34, Or.inl pw_16, Or.inl pw_35, Or.inl pw_36, Or.inl pw_24, Or.inr (Or.inr (Or.inl pw_37)), Or.inr (Or.inl pw_38), Or.inr (Or.inr (Or.inl (sg59 c))), trivial⟩
def Q14 (v11 : Nat) (v12 : Nat) : List PIE := [(false, [116, 105, 101], 11, 27718), (true, [100], 28, 4), (true, [98, 121], 12, 99), (true, [98, 111, 98], 28, 3295), (true, [97, 115], 13, 56), (true, [115, 117, 109], 18, 26801), (true, [99], 28, 3), (true, [47], 39, 0), (true, dgl 3 v11, 29, v11), (true, [119, 104, 101, 110], 15, 1176170), (true, [109, 111, 110, 116, 104], 16, 25143802), (true, [62, 61], 44, 0), (true, dgl 3 v12, 29, v12), (true, [97, 110, 100], 24, 1891), (true, [118, 97, 108, 117, 101], 17, 41299405), (true, [100], 28, 4), (true, [60], 40, 0), (true, [53, 48, 48, 48], 29, 5000), (false, [59], 34, 0)]
theorem Q14_ok {v11 : Nat} {v12 : Nat} (h11 : v11 < 10000) (h12 : v12 < 10000) (c : Nat) : okN (Q14 v11 v12) c := ⟨Or.inl pw_25, Or.inl pw_13, Or.inl pw_26, Or.inl pw_24, Or.inl pw_27, Or.inl pw_39, Or.inl pw_12, Or.inr (Or.inr (Or.inl pw_40)), Or.inr (Or.inl (nuP_d true h11 nd32)), Or.inl pw_33, Or.inl pw_41, Or.inr (Or.inr (Or.inr pw_42)), Or.inr (Or.inl (nuP_d true h12 nd32)), Or.inl pw_43, Or.inl pw_28, Or.inl pw_13, Or.inr (Or.inr (Or.inl pw_44)), Or.inr (Or.inl pw_45), Or.inr (Or.inr (Or.inl (sg59 c))), trivial⟩
def Q15 (v13 : Nat) (v14 : Nat) : List PIE := [(false, [116, 97, 108, 108, 121], 14, 37550770), (true, [117], 28, 21), (true, [98, 121], 12, 99), (true, [98, 111, 98], 28, 3295), (true, [119, 104, 101, 110], 15, 1176170), (true, [109, 111, 110, 116, 104], 16, 25143802), (true, [47], 39, 0), (true, dgl 3 v13, 29, v13), (true, [42], 38, 0), (true, dgl 3 v14, 29, v14), (true, [61], 42, 0), (true, [109, 111, 110, 116, 104], 16, 25143802), (false, [59], 34, 0)]
theorem Q15_ok {v13 : Nat} {v14 : Nat} (h13 : v13 < 10000) (h14 : v14 < 10000) (c : Nat) : okN (Q15 v13 v14) c := ⟨Or.inl pw_32, Or.inl pw_19, Or.inl pw_26, Or.inl pw_24, Or.inl pw_33, Or.inl pw_41, Or.inr (Or.inr (Or.inl pw_40)), Or.inr (Or.inl (nuP_d true h13 nd32)), Or.inr (Or.inr (Or.inl pw_46)), Or.inr (Or.inl (nuP_d true h14 nd32)), Or.inr (Or.inr (Or.inl pw_47)), Or.inl pw_48, Or.inr (Or.inr (Or.inl (sg59 c))), trivial⟩
def qP (v : Nat → Nat) : List PIE := Q0 (v 0) ++ (Q1 (v 1) ++ (Q2 (v 2) ++ (Q3 (v 3) ++ (Q4 (v 4) ++ (Q5 (v 5) ++ (Q6 (v 6) ++ (Q7 (v 7) ++ (Q8 ++ (Q9 ++ (Q10 (v 8) ++ (Q11 (v 9) ++ (Q12 (v 10) ++ (Q13 ++ (Q14 (v 11) (v 12) ++ (Q15 (v 13) (v 14))))))))))))))))
theorem okN_app : ∀ (a b : List PIE) (c : Nat), (∀ d, okN a d) → okN b c → okN (a ++ b) c
  | [], _, _, _, h => h
  | x :: a, b, c, h, hb => by
    refine ⟨?_, okN_app a b c (fun d => (h d).2) hb⟩
    cases a with
    | nil => exact (h (nxC b c)).1
    | cons y a => exact (h c).1
theorem qP_ok {v : Nat → Nat} (h : ∀ i, v i < 10000) : okN (qP v) 0 := okN_app _ _ _ (Q0_ok (h _)) (okN_app _ _ _ (Q1_ok (h _)) (okN_app _ _ _ (Q2_ok (h _)) (okN_app _ _ _ (Q3_ok (h _)) (okN_app _ _ _ (Q4_ok (h _)) (okN_app _ _ _ (Q5_ok (h _)) (okN_app _ _ _ (Q6_ok (h _)) (okN_app _ _ _ (Q7_ok (h _)) (okN_app _ _ _ Q8_ok (okN_app _ _ _ Q9_ok (okN_app _ _ _ (Q10_ok (h _)) (okN_app _ _ _ (Q11_ok (h _)) (okN_app _ _ _ (Q12_ok (h _)) (okN_app _ _ _ Q13_ok (okN_app _ _ _ (Q14_ok (h _) (h _)) (Q15_ok (h _) (h _) 0)))))))))))))))
theorem Q0_K (v0 : Nat) : (Q0 v0).map (fun x => x.2.2.1) = [0, 28, 1, 29, 34] := rfl
theorem Q0_C (v0 : Nat) : (Q0 v0).map (fun x => x.2.2.2) = [236773452, 24831, 913652, v0, 0] := rfl
theorem Q1_K (v1 : Nat) : (Q1 v1).map (fun x => x.2.2.1) = [0, 28, 1, 29, 34] := rfl
theorem Q1_C (v1 : Nat) : (Q1 v1).map (fun x => x.2.2.2) = [236773452, 118516, 913652, v1, 0] := rfl
theorem Q2_K (v2 : Nat) : (Q2 v2).map (fun x => x.2.2.1) = [0, 28, 1, 29, 34] := rfl
theorem Q2_C (v2 : Nat) : (Q2 v2).map (fun x => x.2.2.2) = [236773452, 4681476, 913652, v2, 0] := rfl
theorem Q3_K (v3 : Nat) : (Q3 v3).map (fun x => x.2.2.1) = [2, 28, 3, 28, 4, 5, 6, 29, 34] := rfl
theorem Q3_C (v3 : Nat) : (Q3 v3).map (fun x => x.2.2.2) = [173164, 1, 561, 24831, 40072202, 660205, 6411565, v3, 0] := rfl
theorem Q4_K (v4 : Nat) : (Q4 v4).map (fun x => x.2.2.1) = [2, 28, 3, 28, 4, 28, 6, 29, 34] := rfl
theorem Q4_C (v4 : Nat) : (Q4 v4).map (fun x => x.2.2.2) = [173164, 2, 561, 118516, 40072202, 1, 6411565, v4, 0] := rfl
theorem Q5_K (v5 : Nat) : (Q5 v5).map (fun x => x.2.2.1) = [2, 28, 3, 28, 4, 28, 6, 29, 34] := rfl
theorem Q5_C (v5 : Nat) : (Q5 v5).map (fun x => x.2.2.2) = [173164, 3, 561, 4681476, 40072202, 1, 6411565, v5, 0] := rfl
theorem Q6_K (v6 : Nat) : (Q6 v6).map (fun x => x.2.2.1) = [2, 28, 3, 28, 4, 28, 6, 29, 34] := rfl
theorem Q6_C (v6 : Nat) : (Q6 v6).map (fun x => x.2.2.2) = [173164, 4, 561, 118516, 40072202, 3, 6411565, v6, 0] := rfl
theorem Q7_K (v7 : Nat) : (Q7 v7).map (fun x => x.2.2.1) = [2, 28, 3, 28, 4, 5, 6, 29, 34] := rfl
theorem Q7_C (v7 : Nat) : (Q7 v7).map (fun x => x.2.2.2) = [173164, 5, 561, 24831, 40072202, 660205, 6411565, v7, 0] := rfl
theorem Q8_K : (Q8).map (fun x => x.2.2.1) = [7, 28, 8, 28, 28, 34] := rfl
theorem Q8_C : (Q8).map (fun x => x.2.2.2) = [27951, 20, 790116, 1, 5, 0] := rfl
theorem Q9_K : (Q9).map (fun x => x.2.2.1) = [7, 28, 8, 28, 28, 28, 34] := rfl
theorem Q9_C : (Q9).map (fun x => x.2.2.2) = [27951, 21, 790116, 2, 3, 4, 0] := rfl
theorem Q10_K (v8 : Nat) : (Q10 v8).map (fun x => x.2.2.1) = [9, 28, 10, 29, 34] := rfl
theorem Q10_C (v8 : Nat) : (Q10 v8).map (fun x => x.2.2.2) = [772429704, 1901, 153999, v8, 0] := rfl
theorem Q11_K (v9 : Nat) : (Q11 v9).map (fun x => x.2.2.1) = [9, 28, 10, 29, 34] := rfl
theorem Q11_C (v9 : Nat) : (Q11 v9).map (fun x => x.2.2.2) = [772429704, 3295, 153999, v9, 0] := rfl
theorem Q12_K (v10 : Nat) : (Q12 v10).map (fun x => x.2.2.1) = [11, 28, 12, 28, 13, 17, 28, 36, 29, 37, 19, 28, 34] := rfl
theorem Q12_C (v10 : Nat) : (Q12 v10).map (fun x => x.2.2.2) = [27718, 2, 99, 1901, 56, 41299405, 2, 0, v10, 0, 21346207, 5, 0] := rfl
theorem Q13_K : (Q13).map (fun x => x.2.2.1) = [14, 28, 12, 28, 15, 22, 28, 25, 21, 28, 41, 29, 34] := rfl
theorem Q13_C : (Q13).map (fun x => x.2.2.2) = [37550770, 20, 99, 1901, 1176170, 44038517, 20, 573, 37963928, 3295, 0, 3, 0] := rfl
theorem Q14_K (v11 : Nat) (v12 : Nat) : (Q14 v11 v12).map (fun x => x.2.2.1) = [11, 28, 12, 28, 13, 18, 28, 39, 29, 15, 16, 44, 29, 24, 17, 28, 40, 29, 34] := rfl
theorem Q14_C (v11 : Nat) (v12 : Nat) : (Q14 v11 v12).map (fun x => x.2.2.2) = [27718, 4, 99, 3295, 56, 26801, 3, 0, v11, 1176170, 25143802, 0, v12, 1891, 41299405, 4, 0, 5000, 0] := rfl
theorem Q15_K (v13 : Nat) (v14 : Nat) : (Q15 v13 v14).map (fun x => x.2.2.1) = [14, 28, 12, 28, 15, 16, 39, 29, 38, 29, 42, 16, 34] := rfl
theorem Q15_C (v13 : Nat) (v14 : Nat) : (Q15 v13 v14).map (fun x => x.2.2.2) = [37550770, 21, 99, 3295, 1176170, 25143802, 0, v13, 0, v14, 0, 25143802, 0] := rfl
def KLq : List Nat := [0, 28, 1, 29, 34] ++ ([0, 28, 1, 29, 34] ++ ([0, 28, 1, 29, 34] ++ ([2, 28, 3, 28, 4, 5, 6, 29, 34] ++ ([2, 28, 3, 28, 4, 28, 6, 29, 34] ++ ([2, 28, 3, 28, 4, 28, 6, 29, 34] ++ ([2, 28, 3, 28, 4, 28, 6, 29, 34] ++ ([2, 28, 3, 28, 4, 5, 6, 29, 34] ++ ([7, 28, 8, 28, 28, 34] ++ ([7, 28, 8, 28, 28, 28, 34] ++ ([9, 28, 10, 29, 34] ++ ([9, 28, 10, 29, 34] ++ ([11, 28, 12, 28, 13, 17, 28, 36, 29, 37, 19, 28, 34] ++ ([14, 28, 12, 28, 15, 22, 28, 25, 21, 28, 41, 29, 34] ++ ([11, 28, 12, 28, 13, 18, 28, 39, 29, 15, 16, 44, 29, 24, 17, 28, 40, 29, 34] ++ ([14, 28, 12, 28, 15, 16, 39, 29, 38, 29, 42, 16, 34])))))))))))))))
def CLq : List Nat := [236773452, 24831, 913652, 0, 0] ++ ([236773452, 118516, 913652, 0, 0] ++ ([236773452, 4681476, 913652, 0, 0] ++ ([173164, 1, 561, 24831, 40072202, 660205, 6411565, 0, 0] ++ ([173164, 2, 561, 118516, 40072202, 1, 6411565, 0, 0] ++ ([173164, 3, 561, 4681476, 40072202, 1, 6411565, 0, 0] ++ ([173164, 4, 561, 118516, 40072202, 3, 6411565, 0, 0] ++ ([173164, 5, 561, 24831, 40072202, 660205, 6411565, 0, 0] ++ ([27951, 20, 790116, 1, 5, 0] ++ ([27951, 21, 790116, 2, 3, 4, 0] ++ ([772429704, 1901, 153999, 0, 0] ++ ([772429704, 3295, 153999, 0, 0] ++ ([27718, 2, 99, 1901, 56, 41299405, 2, 0, 0, 0, 21346207, 5, 0] ++ ([37550770, 20, 99, 1901, 1176170, 44038517, 20, 573, 37963928, 3295, 0, 3, 0] ++ ([27718, 4, 99, 3295, 56, 26801, 3, 0, 0, 1176170, 25143802, 0, 0, 1891, 41299405, 4, 0, 5000, 0] ++ ([37550770, 21, 99, 3295, 1176170, 25143802, 0, 0, 0, 0, 0, 25143802, 0])))))))))))))))
def CLv (v : Nat → Nat) : List Nat := [236773452, 24831, 913652, v 0, 0] ++ ([236773452, 118516, 913652, v 1, 0] ++ ([236773452, 4681476, 913652, v 2, 0] ++ ([173164, 1, 561, 24831, 40072202, 660205, 6411565, v 3, 0] ++ ([173164, 2, 561, 118516, 40072202, 1, 6411565, v 4, 0] ++ ([173164, 3, 561, 4681476, 40072202, 1, 6411565, v 5, 0] ++ ([173164, 4, 561, 118516, 40072202, 3, 6411565, v 6, 0] ++ ([173164, 5, 561, 24831, 40072202, 660205, 6411565, v 7, 0] ++ ([27951, 20, 790116, 1, 5, 0] ++ ([27951, 21, 790116, 2, 3, 4, 0] ++ ([772429704, 1901, 153999, v 8, 0] ++ ([772429704, 3295, 153999, v 9, 0] ++ ([27718, 2, 99, 1901, 56, 41299405, 2, 0, v 10, 0, 21346207, 5, 0] ++ ([37550770, 20, 99, 1901, 1176170, 44038517, 20, 573, 37963928, 3295, 0, 3, 0] ++ ([27718, 4, 99, 3295, 56, 26801, 3, 0, v 11, 1176170, 25143802, 0, v 12, 1891, 41299405, 4, 0, 5000, 0] ++ ([37550770, 21, 99, 3295, 1176170, 25143802, 0, v 13, 0, v 14, 0, 25143802, 0])))))))))))))))
theorem qP_K (v : Nat → Nat) : (qP v).map (fun x => x.2.2.1) = KLq := by
  unfold qP KLq
  simp only [List.map_append, Q0_K, Q1_K, Q2_K, Q3_K, Q4_K, Q5_K, Q6_K, Q7_K, Q8_K, Q9_K, Q10_K, Q11_K, Q12_K, Q13_K, Q14_K, Q15_K]
theorem qP_C (v : Nat → Nat) : (qP v).map (fun x => x.2.2.2) = CLv v := by
  unfold qP CLv
  simp only [List.map_append, Q0_C, Q1_C, Q2_C, Q3_C, Q4_C, Q5_C, Q6_C, Q7_C, Q8_C, Q9_C, Q10_C, Q11_C, Q12_C, Q13_C, Q14_C, Q15_C]
theorem qP_len (v : Nat → Nat) : (qP v).length = 141 := by
  rw [← List.length_map (f := fun x : PIE => x.2.2.1), qP_K]
  decide +kernel
abbrev Kq : Nat → Nat := fun n => KLq.getD n 45
abbrev W0q : Nat → Nat := fun n => CLq.getD n 0
abbrev Wq (v : Nat → Nat) : Nat → Nat := fun n => (CLv v).getD n 0
abbrev Vq (v : Nat → Nat) : Nat → Int32 := fun n => nI ((CLv v).getD n 0)
theorem Kq_lt {n : Nat} (h : Kq n ≠ 45) : n < 141 := by
  rcases Nat.lt_or_ge n 141 with q | q
  · exact q
  · refine absurd ?_ h
    show KLq.getD n 45 = 45
    rw [List.getD_eq_getElem?_getD, List.getElem?_eq_none (show KLq.length ≤ n from q)]
    rfl
theorem Wq_ag (v : Nat → Nat) {n : Nat} (h : Kq n = 28) : Wq v n = W0q n := by
  have hl := Kq_lt (show Kq n ≠ 45 by rw [h]; decide)
  have hp : n ≠ 3 ∧ n ≠ 8 ∧ n ≠ 13 ∧ n ≠ 22 ∧ n ≠ 31 ∧ n ≠ 40 ∧ n ≠ 49 ∧ n ≠ 58 ∧ n ≠ 76 ∧ n ≠ 81 ∧ n ≠ 91 ∧ n ≠ 117 ∧ n ≠ 121 ∧ n ≠ 135 ∧ n ≠ 137 := by
    refine ⟨?_, ?_, ?_, ?_, ?_, ?_, ?_, ?_, ?_, ?_, ?_, ?_, ?_, ?_, ?_⟩ <;> (rintro rfl; exact absurd h (by decide))
  clear h
  obtain ⟨h3, h8, h13, h22, h31, h40, h49, h58, h76, h81, h91, h117, h121, h135, h137⟩ := hp
  have key : ∀ m, m < 141 → m ≠ 3 → m ≠ 8 → m ≠ 13 → m ≠ 22 → m ≠ 31 → m ≠ 40 → m ≠ 49 → m ≠ 58 → m ≠ 76 → m ≠ 81 → m ≠ 91 → m ≠ 117 → m ≠ 121 → m ≠ 135 → m ≠ 137 → Wq v m = W0q m := by
    intro m hm
    match m, hm with
    | 0, _ => intros; rfl
    | 1, _ => intros; rfl
    | 2, _ => intros; rfl
    | 3, _ => intros; contradiction
    | 4, _ => intros; rfl
    | 5, _ => intros; rfl
    | 6, _ => intros; rfl
    | 7, _ => intros; rfl
    | 8, _ => intros; contradiction
    | 9, _ => intros; rfl
    | 10, _ => intros; rfl
    | 11, _ => intros; rfl
    | 12, _ => intros; rfl
    | 13, _ => intros; contradiction
    | 14, _ => intros; rfl
    | 15, _ => intros; rfl
    | 16, _ => intros; rfl
    | 17, _ => intros; rfl
    | 18, _ => intros; rfl
    | 19, _ => intros; rfl
    | 20, _ => intros; rfl
    | 21, _ => intros; rfl
    | 22, _ => intros; contradiction
    | 23, _ => intros; rfl
    | 24, _ => intros; rfl
    | 25, _ => intros; rfl
    | 26, _ => intros; rfl
    | 27, _ => intros; rfl
    | 28, _ => intros; rfl
    | 29, _ => intros; rfl
    | 30, _ => intros; rfl
    | 31, _ => intros; contradiction
    | 32, _ => intros; rfl
    | 33, _ => intros; rfl
    | 34, _ => intros; rfl
    | 35, _ => intros; rfl
    | 36, _ => intros; rfl
    | 37, _ => intros; rfl
    | 38, _ => intros; rfl
    | 39, _ => intros; rfl
    | 40, _ => intros; contradiction
    | 41, _ => intros; rfl
    | 42, _ => intros; rfl
    | 43, _ => intros; rfl
    | 44, _ => intros; rfl
    | 45, _ => intros; rfl
    | 46, _ => intros; rfl
    | 47, _ => intros; rfl
    | 48, _ => intros; rfl
    | 49, _ => intros; contradiction
    | 50, _ => intros; rfl
    | 51, _ => intros; rfl
    | 52, _ => intros; rfl
    | 53, _ => intros; rfl
    | 54, _ => intros; rfl
    | 55, _ => intros; rfl
    | 56, _ => intros; rfl
    | 57, _ => intros; rfl
    | 58, _ => intros; contradiction
    | 59, _ => intros; rfl
    | 60, _ => intros; rfl
    | 61, _ => intros; rfl
    | 62, _ => intros; rfl
    | 63, _ => intros; rfl
    | 64, _ => intros; rfl
    | 65, _ => intros; rfl
    | 66, _ => intros; rfl
    | 67, _ => intros; rfl
    | 68, _ => intros; rfl
    | 69, _ => intros; rfl
    | 70, _ => intros; rfl
    | 71, _ => intros; rfl
    | 72, _ => intros; rfl
    | 73, _ => intros; rfl
    | 74, _ => intros; rfl
    | 75, _ => intros; rfl
    | 76, _ => intros; contradiction
    | 77, _ => intros; rfl
    | 78, _ => intros; rfl
    | 79, _ => intros; rfl
    | 80, _ => intros; rfl
    | 81, _ => intros; contradiction
    | 82, _ => intros; rfl
    | 83, _ => intros; rfl
    | 84, _ => intros; rfl
    | 85, _ => intros; rfl
    | 86, _ => intros; rfl
    | 87, _ => intros; rfl
    | 88, _ => intros; rfl
    | 89, _ => intros; rfl
    | 90, _ => intros; rfl
    | 91, _ => intros; contradiction
    | 92, _ => intros; rfl
    | 93, _ => intros; rfl
    | 94, _ => intros; rfl
    | 95, _ => intros; rfl
    | 96, _ => intros; rfl
    | 97, _ => intros; rfl
    | 98, _ => intros; rfl
    | 99, _ => intros; rfl
    | 100, _ => intros; rfl
    | 101, _ => intros; rfl
    | 102, _ => intros; rfl
    | 103, _ => intros; rfl
    | 104, _ => intros; rfl
    | 105, _ => intros; rfl
    | 106, _ => intros; rfl
    | 107, _ => intros; rfl
    | 108, _ => intros; rfl
    | 109, _ => intros; rfl
    | 110, _ => intros; rfl
    | 111, _ => intros; rfl
    | 112, _ => intros; rfl
    | 113, _ => intros; rfl
    | 114, _ => intros; rfl
    | 115, _ => intros; rfl
    | 116, _ => intros; rfl
    | 117, _ => intros; contradiction
    | 118, _ => intros; rfl
    | 119, _ => intros; rfl
    | 120, _ => intros; rfl
    | 121, _ => intros; contradiction
    | 122, _ => intros; rfl
    | 123, _ => intros; rfl
    | 124, _ => intros; rfl
    | 125, _ => intros; rfl
    | 126, _ => intros; rfl
    | 127, _ => intros; rfl
    | 128, _ => intros; rfl
    | 129, _ => intros; rfl
    | 130, _ => intros; rfl
    | 131, _ => intros; rfl
    | 132, _ => intros; rfl
    | 133, _ => intros; rfl
    | 134, _ => intros; rfl
    | 135, _ => intros; contradiction
    | 136, _ => intros; rfl
    | 137, _ => intros; contradiction
    | 138, _ => intros; rfl
    | 139, _ => intros; rfl
    | 140, _ => intros; rfl
    | k + 141, hm => exact absurd hm (by omega)
  exact key n hl h3 h8 h13 h22 h31 h40 h49 h58 h76 h81 h91 h117 h121 h135 h137
theorem Kq_0 {n : Nat} (h : Kq n = 0) : n = 0 ∨ n = 5 ∨ n = 10 := by
  have key : ∀ m, m < 141 → Kq m = 0 → m = 0 ∨ m = 5 ∨ m = 10 := by decide +kernel
  exact key n (Kq_lt (by rw [h]; decide)) h
theorem Kq_2 {n : Nat} (h : Kq n = 2) : n = 15 ∨ n = 24 ∨ n = 33 ∨ n = 42 ∨ n = 51 := by
  have key : ∀ m, m < 141 → Kq m = 2 → m = 15 ∨ m = 24 ∨ m = 33 ∨ m = 42 ∨ m = 51 := by decide +kernel
  exact key n (Kq_lt (by rw [h]; decide)) h
theorem Kq_9 {n : Nat} (h : Kq n = 9) : n = 73 ∨ n = 78 := by
  have key : ∀ m, m < 141 → Kq m = 9 → m = 73 ∨ m = 78 := by decide +kernel
  exact key n (Kq_lt (by rw [h]; decide)) h
