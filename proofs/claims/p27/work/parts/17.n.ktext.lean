/-! The making of objects: the library's text, signs -/
set_option maxRecDepth 100000 in
set_option maxHeartbeats 4000000 in
theorem kp_isLatin1 {ad : Nat → Nat} {d i : Nat} (hi : i < 48) {Q : Option Value → Prop} (hQ : Q (some (.int (nI 1)))) : SpR ad yJ0_isLatin1_aae02 cJ0_isLatin1_aae02 1 (some .boolean) d [.ref (ad (200 + i))] Q := by
  intro Γ ho h hr
  show CW Γ 0 0 0 [some (.ref (ad (200 + i)))] [] [] _
  refine kw_gsC ho h fw_J0_38 dJ0_isLatin1_aae02_0 ?_
  refine kw_if_eq h 17 dJ0_isLatin1_aae02_3 rfl (fun c => absurd c (by decide)) (fun _ => ?_)
  refine kw_alod h 0 dJ0_isLatin1_aae02_6 rfl rfl ?_
  refine kw_strC ho h i hi fw_J0_15 dJ0_isLatin1_aae02_7 ?_
  refine kw_if_ne h 17 dJ0_isLatin1_aae02_10 rfl (fun c => absurd c (by decide)) (fun _ => ?_)
  refine kw_ic h dJ0_isLatin1_aae02_13 (v := nI 1) rfl ?_
  refine kw_goto h 18 dJ0_isLatin1_aae02_14 rfl ?_
  exact kw_zret h hr dJ0_isLatin1_aae02_18 (by first | rfl | exact nar_b2i _) hQ
set_option maxRecDepth 100000 in
set_option maxHeartbeats 4000000 in
theorem kp_coder {ad : Nat → Nat} {d i : Nat} (hi : i < 48) {Q : Option Value → Prop} (hQ : Q (some (.int 0))) : SpR ad yJ0_coder_7d493 cJ0_coder_7d493 1 (some .byte) d [.ref (ad (200 + i))] Q := by
  intro Γ ho h hr
  show CW Γ 0 0 0 [some (.ref (ad (200 + i)))] [] [] _
  refine kw_gsC ho h fw_J0_38 dJ0_coder_7d493_0 ?_
  refine kw_if_eq h 13 dJ0_coder_7d493_3 rfl (fun c => absurd c (by decide)) (fun _ => ?_)
  refine kw_alod h 0 dJ0_coder_7d493_6 rfl rfl ?_
  refine kw_strC ho h i hi fw_J0_15 dJ0_coder_7d493_7 ?_
  refine kw_goto h 14 dJ0_coder_7d493_10 rfl ?_
  exact kw_zret h hr dJ0_coder_7d493_14 (by first | rfl | exact nar_b2i _) hQ
set_option maxRecDepth 100000 in
set_option maxHeartbeats 4000000 in
theorem kp_length {ad : Nat → Nat} {d i : Nat} (hi : i < 48) {Q : Option Value → Prop} (hQ : Q (some (.int (nI (kL i))))) : SpR ad yJ0_length_8abf5 cJ0_length_8abf5 1 (some .int) (d + 1) [.ref (ad (200 + i))] Q := by
  intro Γ ho h hr
  show CW Γ 0 0 0 [some (.ref (ad (200 + i)))] [] [] _
  refine kw_alod h 0 dJ0_length_8abf5_0 rfl rfl ?_
  refine kw_strV ho h i hi fw_J0_9 dJ0_length_8abf5_1 ?_
  refine kw_strL ho h i hi dJ0_length_8abf5_4 ?_
  refine kw_alod h 0 dJ0_length_8abf5_5 rfl rfl ?_
  refine kw_callT (As := []) ho h rk0 mi_J0_coder_7d493 dJ0_length_8abf5_6 ml_J0_335 i hi rfl rfl (Nat.le_of_ble_eq_true rfl) rfl (Nat.le_of_ble_eq_true rfl) (kp_coder hi ?_)
  show CW Γ 0 0 9 _ (.int 0 :: .int (nI (kL i)) :: []) [] _
  refine kw_ishr h dJ0_length_8abf5_9 ?_
  refine kw_iret h hr dJ0_length_8abf5_10 ?_
  rw [sc_shr0 (kL_all i hi)]
  exact hQ
set_option maxRecDepth 100000 in
set_option maxHeartbeats 4000000 in
theorem kp_checkIndex3 {ad : Nat → Nat} {d j n : Nat} (hj : j < n) (hn : n < 2 ^ 31) {v : Value} (hv : v = .null ∨ ∃ a, v = .ref a) {Q : Option Value → Prop} (hQ : Q (some (.int (nI j)))) : SpR ad yJ3_checkIndex_8e157 cJ3_checkIndex_8e157 3 (some .int) d [.int (nI j), .int (nI n), v] Q := by
  intro Γ ho h hr
  show CW Γ 0 0 0 (ent [.int (nI j), .int (nI n), v] 3) [] [] _
  have e : ent [.int (nI j), .int (nI n), v] 3 = [some (.int (nI j)), some (.int (nI n)), some v] := by rcases hv with rfl | ⟨a, rfl⟩ <;> rfl
  rw [e]
  refine kw_ilod h 0 dJ3_checkIndex_8e157_0 rfl rfl ?_
  refine kw_if_lt h 9 dJ3_checkIndex_8e157_1 rfl (fun c => absurd c (nI_pos (by omega))) (fun _ => ?_)
  refine kw_ilod h 0 dJ3_checkIndex_8e157_4 rfl rfl ?_
  refine kw_ilod h 1 dJ3_checkIndex_8e157_5 rfl rfl ?_
  refine kw_icmp_lt h 16 dJ3_checkIndex_8e157_6 rfl (fun _ => ?_) (fun c => absurd (nI_lt hj hn) c)
  refine kw_ilod h 0 dJ3_checkIndex_8e157_16 rfl rfl ?_
  exact kw_iret h hr dJ3_checkIndex_8e157_17 hQ
set_option maxRecDepth 100000 in
set_option maxHeartbeats 4000000 in
theorem kp_checkIndex {ad : Nat → Nat} {d j n : Nat} (hj : j < n) (hn : n < 2 ^ 31) {Q : Option Value → Prop} (hQ : Q none) : SpR ad yJ0_checkIndex_df160 cJ0_checkIndex_df160 2 none (d + 1) [.int (nI j), .int (nI n)] Q := by
  intro Γ ho h hr
  show CW Γ 0 0 0 [some (.int (nI j)), some (.int (nI n))] [] [] _
  refine kw_ilod h 0 dJ0_checkIndex_df160_0 rfl rfl ?_
  refine kw_ilod h 1 dJ0_checkIndex_df160_1 rfl rfl ?_
  refine kw_gsF ho h fw_J0_1053 dJ0_checkIndex_df160_2 (fun v hv => ?_)
  refine kw_callS (As := [.int (nI j), .int (nI n), v]) ho h rk0 mi_J3_checkIndex_8e157 dJ0_checkIndex_df160_5 ml_J0_1059 (by rcases hv with rfl | ⟨a, rfl⟩ <;> exact (Nat.le_of_ble_eq_true rfl)) rfl (Nat.le_of_ble_eq_true rfl) (kp_checkIndex3 hj hn hv ?_)
  show CW Γ 0 0 8 _ (.int (nI j) :: []) [] _
  refine kw_pop h dJ0_checkIndex_df160_8 rfl ?_
  exact kw_vret h hr dJ0_checkIndex_df160_9 hQ
set_option maxRecDepth 100000 in
set_option maxHeartbeats 4000000 in
theorem kp_charAt1 {ad : Nat → Nat} {d i j : Nat} (hi : i < 48) (hj : j < kL i) {Q : Option Value → Prop} (hQ : Q (some (.int (kB i j)))) : SpR ad yJ1_charAt_3b067 cJ1_charAt_3b067 2 (some .char) (d + 2) [.ref (ad (300 + i)), .int (nI j)] Q := by
  intro Γ ho h hr
  show CW Γ 0 0 0 [some (.ref (ad (300 + i))), some (.int (nI j))] [] [] _
  refine kw_ilod h 1 dJ1_charAt_3b067_0 rfl rfl ?_
  refine kw_alod h 0 dJ1_charAt_3b067_1 rfl rfl ?_
  refine kw_strL ho h i hi dJ1_charAt_3b067_2 ?_
  refine kw_callS (As := [.int (nI j), .int (nI (kLen.getD i 0))]) ho h rk0 mi_J0_checkIndex_df160 dJ1_charAt_3b067_3 ml_J1_9 (Nat.le_of_ble_eq_true rfl) rfl (Nat.le_of_ble_eq_true rfl) (kp_checkIndex hj (kL_all i hi) ?_)
  show CW Γ 0 0 6 _ [] [] _
  refine kw_alod h 0 dJ1_charAt_3b067_6 rfl rfl ?_
  refine kw_ilod h 1 dJ1_charAt_3b067_7 rfl rfl ?_
  refine kw_strB ho h i j hi dJ1_charAt_3b067_8 rfl hj (kL_all i hi) ?_
  refine kw_sp h dJ1_charAt_3b067_9 (v := nI 255) rfl ?_
  refine kw_iand h dJ1_charAt_3b067_12 ?_
  refine kw_i2c h dJ1_charAt_3b067_13 ?_
  refine kw_zret h hr dJ1_charAt_3b067_14 (by show narrow .char (.int ((kB i j &&& 255).toUInt32 % 65536).toInt32) = .int ((kB i j &&& 255).toUInt32 % 65536).toInt32; rw [(kB_ok hi hj).1]; exact (kB_ok hi hj).2.1) ?_
  show Q (some (.int ((kB i j &&& 255).toUInt32 % 65536).toInt32))
  rw [(kB_ok hi hj).1]
  exact hQ
set_option maxRecDepth 100000 in
set_option maxHeartbeats 4000000 in
theorem kp_charAt {ad : Nat → Nat} {d i j : Nat} (hi : i < 48) (hj : j < kL i) {Q : Option Value → Prop} (hQ : Q (some (.int (kB i j)))) : SpR ad yJ0_charAt_5068e cJ0_charAt_5068e 2 (some .char) (d + 3) [.ref (ad (200 + i)), .int (nI j)] Q := by
  intro Γ ho h hr
  show CW Γ 0 0 0 [some (.ref (ad (200 + i))), some (.int (nI j))] [] [] _
  refine kw_alod h 0 dJ0_charAt_5068e_0 rfl rfl ?_
  refine kw_callT (As := []) ho h rk0 mi_J0_isLatin1_aae02 dJ0_charAt_5068e_1 ml_J0_492 i hi rfl rfl (Nat.le_of_ble_eq_true rfl) rfl (Nat.le_of_ble_eq_true rfl) (kp_isLatin1 hi ?_)
  show CW Γ 0 0 4 _ (.int (nI 1) :: []) [] _
  refine kw_if_eq h 16 dJ0_charAt_5068e_4 rfl (fun c => absurd c (by decide)) (fun _ => ?_)
  refine kw_alod h 0 dJ0_charAt_5068e_7 rfl rfl ?_
  refine kw_strV ho h i hi fw_J0_9 dJ0_charAt_5068e_8 ?_
  refine kw_ilod h 1 dJ0_charAt_5068e_11 rfl rfl ?_
  refine kw_callS (As := [.ref (ad (300 + i)), .int (nI j)]) ho h rk0 mi_J1_charAt_3b067 dJ0_charAt_5068e_12 ml_J0_495 (Nat.le_of_ble_eq_true rfl) rfl (Nat.le_of_ble_eq_true rfl) (kp_charAt1 hi hj ?_)
  show CW Γ 0 0 15 _ (.int (kB i j) :: []) [] _
  exact kw_zret h hr dJ0_charAt_5068e_15 (kB_ok hi hj).2.1 hQ
set_option maxRecDepth 100000 in
set_option maxHeartbeats 4000000 in
theorem kp_isLetter {ad : Nat → Nat} {d c : Nat} (hc1 : 97 ≤ c) (hc2 : c ≤ 122) {Q : Option Value → Prop} (hQ : Q (some (.int (nI 1)))) : SpR ad yX8_isLetter cX8_isLetter 1 (some .boolean) d [.int (nI c)] Q := by
  intro Γ ho h hr
  show CW Γ 0 0 0 [some (.int (nI c))] [] [] _
  refine kw_ilod h 0 dX8_isLetter_0 rfl rfl ?_
  refine kw_bp h dX8_isLetter_1 (v := nI 97) rfl ?_
  refine kw_icmp_lt h 16 dX8_isLetter_3 rfl (fun c3 => absurd (nI_le hc1 (by omega)) (Int32.not_le.mpr c3)) (fun _ => ?_)
  refine kw_ilod h 0 dX8_isLetter_6 rfl rfl ?_
  refine kw_bp h dX8_isLetter_7 (v := nI 122) rfl ?_
  refine kw_icmp_gt h 16 dX8_isLetter_9 rfl (fun c9 => absurd (nI_le hc2 (by decide)) (Int32.not_le.mpr c9)) (fun _ => ?_)
  refine kw_ic h dX8_isLetter_12 (v := nI 1) rfl ?_
  refine kw_goto h 17 dX8_isLetter_13 rfl ?_
  exact kw_zret h hr dX8_isLetter_17 rfl hQ
set_option maxRecDepth 100000 in
set_option maxHeartbeats 4000000 in
theorem kp_numberOfSign {ad : Nat → Nat} {d c : Nat} (hc1 : 97 ≤ c) (hc2 : c ≤ 122) {Q : Option Value → Prop} (hQ : Q (some (.int (nI (sgN c))))) : SpR ad yX8_numberOfSign cX8_numberOfSign 1 (some .int) (d + 1) [.int (nI c)] Q := by
  intro Γ ho h hr
  show CW Γ 0 0 0 [some (.int (nI c))] [] [] _
  refine kw_ilod h 0 dX8_numberOfSign_0 rfl rfl ?_
  refine kw_callS (As := [.int (nI c)]) ho h rk0 mi_X8_isLetter dX8_numberOfSign_1 ml_X8_66 (Nat.le_of_ble_eq_true rfl) rfl (Nat.le_of_ble_eq_true rfl) (kp_isLetter hc1 hc2 ?_)
  show CW Γ 0 0 4 _ (.int (nI 1) :: []) [] _
  refine kw_if_eq h 16 dX8_numberOfSign_4 rfl (fun c => absurd c (by decide)) (fun _ => ?_)
  refine kw_ilod h 0 dX8_numberOfSign_7 rfl rfl ?_
  refine kw_bp h dX8_numberOfSign_8 (v := nI 97) rfl ?_
  refine kw_isub h dX8_numberOfSign_10 ?_
  refine kw_ic h dX8_numberOfSign_11 (v := nI 1) rfl ?_
  refine kw_iadd h dX8_numberOfSign_12 ?_
  refine kw_goto h 23 dX8_numberOfSign_13 rfl ?_
  refine kw_iret h hr dX8_numberOfSign_23 ?_
  rw [pk_sub hc1, nI_add, show c - 97 + 1 = sgN c by rw [sgN, if_pos hc1]; omega]
  exact hQ
