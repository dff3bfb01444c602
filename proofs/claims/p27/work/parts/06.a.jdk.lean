/-! The library's text: charAt, length, indexOf of the constants -/
theorem fw_J0_38 : Cond.fieldLink RJ0 38 "java/lang/String" "COMPACT_STRINGS" "Z" ∈ bigW := bw_in (tb_3 (List.mem_of_getElem? (i := 89) rfl)) rfl
theorem fw_J0_1053 : Cond.fieldLink RJ0 1053 "jdk/internal/util/Preconditions" "SIOOBE_FORMATTER" "Ljava/util/function/BiFunction;" ∈ bigW := bw_in (tb_3 (List.mem_of_getElem? (i := 105) rfl)) rfl
theorem fw_J0_9 : Cond.fieldLink RJ0 9 "java/lang/String" "value" "[B" ∈ bigW := bw_in (tb_4 (List.mem_of_getElem? (i := 237) rfl)) rfl
theorem fw_J0_15 : Cond.fieldLink RJ0 15 "java/lang/String" "coder" "B" ∈ bigW := bw_in (tb_4 (List.mem_of_getElem? (i := 238) rfl)) rfl
theorem g_gsF2 {own : String} {cc : ByteArray} {nL d kc kn pc : Nat} {ret : Option FieldType} {Γ : Cx} {lv : List (Option Value)} {st : List Value} {I : MI} {J : MJ} {P : MP} {Φ : State → Prop} (h : Vc own cc nL ret d Γ) {idx : Nat} (hl0 : Cond.fieldLink own idx "jdk/internal/util/Preconditions" "SIOOBE_FORMATTER" "Ljava/util/function/BiFunction;" ∈ bigW) (hd : decode cc pc = .ok (.getstatic idx, 3)) (K : VG Γ kc kn (pc + 3) lv (.null :: st) I J P Φ) (K2 : VG Γ kc kn (pc + 3) lv (.ref 400 :: st) I J P Φ) : VG Γ kc kn pc lv st I J P Φ := by
  obtain ⟨p, l, e, R, s, m, args, below, meth, c, ad, dC, dI, cy, A⟩ := Γ
  obtain ⟨hx, hb, hml, hr, hown, hts, hlk, hK, hA, hin, hAd, hf, hlo, hRO⟩ := h
  intro H locs ls hP hS hl
  rcases hRO.fmt with hZ | hZ
  · exact va_gets hx hb hZ hS hown (hts _ hl0) (fun _ h9 => h9) hd (K H locs ls hP hS hl)
  · exact va_gets hx hb hZ hS hown (hts _ hl0) (fun _ h9 => h9) hd (K2 H locs ls hP hS hl)
theorem g_anl0 {own : String} {cc : ByteArray} {nL d kc kn pc : Nat} {ret : Option FieldType} {Γ : Cx} {a0 a1 : Option Value} {r : List (Option Value)} {st : List Value} {I : MI} {J : MJ} {P : MP} {Φ : State → Prop} : True := trivial
def kB (i j : Nat) : Int32 := (kByt.getD i []).getD j 0
def kL (i : Nat) : Nat := kLen.getD i 0
def kbB (i : Nat) : Bool := (List.range (kL i)).all (fun j => decide (((kB i j &&& 255).toUInt32 % 65536).toInt32 = kB i j) && decide (narrow .char (.int (kB i j)) = .int (kB i j)) && decide (kB i j < nI 128) && decide (nI 0 ≤ kB i j))
theorem kbB_all : (List.range 48).all kbB = true := by decide +kernel
theorem kB_ok {i j : Nat} (hi : i < 48) (hj : j < kL i) : ((kB i j &&& 255).toUInt32 % 65536).toInt32 = kB i j ∧ narrow .char (.int (kB i j)) = .int (kB i j) ∧ kB i j < nI 128 ∧ nI 0 ≤ kB i j := by
  have h1 := List.all_eq_true.mp kbB_all i (List.mem_range.mpr hi)
  have h2 := List.all_eq_true.mp h1 j (List.mem_range.mpr hj)
  simp only [Bool.and_eq_true, decide_eq_true_eq] at h2
  exact ⟨h2.1.1.1, h2.1.1.2, h2.1.2, h2.2⟩
theorem kL_all : ∀ i, i < 48 → kL i < 2 ^ 31 := by decide +kernel
set_option maxRecDepth 100000 in
set_option maxHeartbeats 4000000 in
theorem sp_J0_isLatin1 {d i : Nat} (hi : i < 48) {I : MI} {J : MJ} {P : MP} {Q : Int32 → MI → MJ → MP → Prop} (hQ : Q (nI 1) I J P) : Sp yJ0_isLatin1_aae02 cJ0_isLatin1_aae02 1 (some .boolean) (d) [.ref (200 + i)] I J P (Qi Q) := by
  intro Γ h
  show VG Γ 0 0 0 [some (.ref (200 + i))] [] _ _ _ _
  refine g_gsC h fw_J0_38 dJ0_isLatin1_aae02_0 ?_
  refine g_if_eq h 17 dJ0_isLatin1_aae02_3 rfl (fun c => absurd c (by decide)) (fun _ => ?_)
  refine g_aload_0 h dJ0_isLatin1_aae02_6 ?_
  refine g_strC h i hi fw_J0_15 dJ0_isLatin1_aae02_7 ?_
  refine g_if_ne h 17 dJ0_isLatin1_aae02_10 rfl (fun c => absurd c (by decide)) (fun _ => ?_)
  refine g_iconst h dJ0_isLatin1_aae02_13 (v := nI 1) rfl ?_
  refine g_goto h 18 dJ0_isLatin1_aae02_14 rfl ?_
  refine g_zret h dJ0_isLatin1_aae02_18 (by first | rfl | exact nar_b2i _) ?_
  exact hQ
set_option maxRecDepth 100000 in
set_option maxHeartbeats 4000000 in
theorem sp_J0_coder {d i : Nat} (hi : i < 48) {I : MI} {J : MJ} {P : MP} {Q : Int32 → MI → MJ → MP → Prop} (hQ : Q 0 I J P) : Sp yJ0_coder_7d493 cJ0_coder_7d493 1 (some .byte) (d) [.ref (200 + i)] I J P (Qi Q) := by
  intro Γ h
  show VG Γ 0 0 0 [some (.ref (200 + i))] [] _ _ _ _
  refine g_gsC h fw_J0_38 dJ0_coder_7d493_0 ?_
  refine g_if_eq h 13 dJ0_coder_7d493_3 rfl (fun c => absurd c (by decide)) (fun _ => ?_)
  refine g_aload_0 h dJ0_coder_7d493_6 ?_
  refine g_strC h i hi fw_J0_15 dJ0_coder_7d493_7 ?_
  refine g_goto h 14 dJ0_coder_7d493_10 rfl ?_
  refine g_zret h dJ0_coder_7d493_14 (by first | rfl | exact nar_b2i _) ?_
  exact hQ
set_option maxRecDepth 100000 in
set_option maxHeartbeats 4000000 in
theorem sp_J0_length {d i : Nat} (hi : i < 48) {I : MI} {J : MJ} {P : MP} {Q : Int32 → MI → MJ → MP → Prop} (hQ : Q (nI (kL i)) I J P) : Sp yJ0_length_8abf5 cJ0_length_8abf5 1 (some .int) (d + 1) [.ref (200 + i)] I J P (Qi Q) := by
  intro Γ h
  show VG Γ 0 0 0 [some (.ref (200 + i))] [] _ _ _ _
  refine g_aload_0 h dJ0_length_8abf5_0 ?_
  refine g_strV h i hi fw_J0_9 dJ0_length_8abf5_1 ?_
  refine g_strL h i hi dJ0_length_8abf5_4 ?_
  refine g_aload_0 h dJ0_length_8abf5_5 ?_
  refine g_cTi0 h rok0 mi_J0_coder_7d493 dJ0_length_8abf5_6 ml_J0_335 i hi rfl rfl (Nat.le_of_ble_eq_true rfl) (Nat.le_of_ble_eq_true rfl) (sp_J0_coder hi ?_)
  refine g_ishr h dJ0_length_8abf5_9 ?_
  refine g_iret h dJ0_length_8abf5_10 ?_
  exact q_i (sc_shr0 (kL_all i hi)) hQ
set_option maxRecDepth 100000 in
set_option maxHeartbeats 4000000 in
theorem sp_J3_checkIndex0 {d j n : Nat} (hj : j < n) (hn : n < 2 ^ 31) {I : MI} {J : MJ} {P : MP} {Q : Int32 → MI → MJ → MP → Prop} (hQ : Q (nI j) I J P) : Sp yJ3_checkIndex_8e157 cJ3_checkIndex_8e157 3 (some .int) (d) [.int (nI j), .int (nI n), .null] I J P (Qi Q) := by
  intro Γ h
  show VG Γ 0 0 0 [some (.int (nI j)), some (.int (nI n)), some (.null)] [] _ _ _ _
  refine g_iload_0 h dJ3_checkIndex_8e157_0 ?_
  refine g_if_lt h 9 dJ3_checkIndex_8e157_1 rfl (fun c => absurd c (nI_pos (by omega))) (fun _ => ?_)
  refine g_iload_0 h dJ3_checkIndex_8e157_4 ?_
  refine g_iload_1 h dJ3_checkIndex_8e157_5 ?_
  refine g_icmp_lt h 16 dJ3_checkIndex_8e157_6 rfl (fun _ => ?_) (fun c => absurd (nI_lt hj hn) c)
  refine g_iload_0 h dJ3_checkIndex_8e157_16 ?_
  refine g_iret h dJ3_checkIndex_8e157_17 ?_
  exact hQ
set_option maxRecDepth 100000 in
set_option maxHeartbeats 4000000 in
theorem sp_J3_checkIndex1 {d j n : Nat} (hj : j < n) (hn : n < 2 ^ 31) {I : MI} {J : MJ} {P : MP} {Q : Int32 → MI → MJ → MP → Prop} (hQ : Q (nI j) I J P) : Sp yJ3_checkIndex_8e157 cJ3_checkIndex_8e157 3 (some .int) (d) [.int (nI j), .int (nI n), .ref 400] I J P (Qi Q) := by
  intro Γ h
  show VG Γ 0 0 0 [some (.int (nI j)), some (.int (nI n)), some (.ref 400)] [] _ _ _ _
  refine g_iload_0 h dJ3_checkIndex_8e157_0 ?_
  refine g_if_lt h 9 dJ3_checkIndex_8e157_1 rfl (fun c => absurd c (nI_pos (by omega))) (fun _ => ?_)
  refine g_iload_0 h dJ3_checkIndex_8e157_4 ?_
  refine g_iload_1 h dJ3_checkIndex_8e157_5 ?_
  refine g_icmp_lt h 16 dJ3_checkIndex_8e157_6 rfl (fun _ => ?_) (fun c => absurd (nI_lt hj hn) c)
  refine g_iload_0 h dJ3_checkIndex_8e157_16 ?_
  refine g_iret h dJ3_checkIndex_8e157_17 ?_
  exact hQ
set_option maxRecDepth 100000 in
set_option maxHeartbeats 4000000 in
theorem sp_J0_checkIndex {d j n : Nat} (hj : j < n) (hn : n < 2 ^ 31) {I : MI} {J : MJ} {P : MP} {Q : MI → MJ → MP → Prop} (hQ : Q I J P) : Sp yJ0_checkIndex_df160 cJ0_checkIndex_df160 2 none (d + 1) [.int (nI j), .int (nI n)] I J P (Qv Q) := by
  intro Γ h
  show VG Γ 0 0 0 [some (.int (nI j)), some (.int (nI n))] [] _ _ _ _
  refine g_iload_0 h dJ0_checkIndex_df160_0 ?_
  refine g_iload_1 h dJ0_checkIndex_df160_1 ?_
  refine g_gsF2 h fw_J0_1053 dJ0_checkIndex_df160_2 ?_ ?_
  · refine g_cSi3 h rok0 mi_J3_checkIndex_8e157 dJ0_checkIndex_df160_5 ml_J0_1059 (Nat.le_of_ble_eq_true rfl) (Nat.le_of_ble_eq_true rfl) (sp_J3_checkIndex0 hj hn ?_)
    refine g_pop h dJ0_checkIndex_df160_8 rfl ?_
    refine g_vret h dJ0_checkIndex_df160_9 ?_
    exact hQ
  · refine g_cSi3 h rok0 mi_J3_checkIndex_8e157 dJ0_checkIndex_df160_5 ml_J0_1059 (Nat.le_of_ble_eq_true rfl) (Nat.le_of_ble_eq_true rfl) (sp_J3_checkIndex1 hj hn ?_)
    refine g_pop h dJ0_checkIndex_df160_8 rfl ?_
    refine g_vret h dJ0_checkIndex_df160_9 ?_
    exact hQ
set_option maxRecDepth 100000 in
set_option maxHeartbeats 4000000 in
theorem sp_J1_charAt {d i j : Nat} (hi : i < 48) (hj : j < kL i) {I : MI} {J : MJ} {P : MP} {Q : Int32 → MI → MJ → MP → Prop} (hQ : Q (kB i j) I J P) : Sp yJ1_charAt_3b067 cJ1_charAt_3b067 2 (some .char) (d + 2) [.ref (300 + i), .int (nI j)] I J P (Qi Q) := by
  intro Γ h
  show VG Γ 0 0 0 [some (.ref (300 + i)), some (.int (nI j))] [] _ _ _ _
  refine g_iload_1 h dJ1_charAt_3b067_0 ?_
  refine g_aload_0 h dJ1_charAt_3b067_1 ?_
  refine g_strL h i hi dJ1_charAt_3b067_2 ?_
  refine g_cSv2 h rok0 mi_J0_checkIndex_df160 dJ1_charAt_3b067_3 ml_J1_9 (Nat.le_of_ble_eq_true rfl) (Nat.le_of_ble_eq_true rfl) (sp_J0_checkIndex hj (kL_all i hi) ?_)
  refine g_aload_0 h dJ1_charAt_3b067_6 ?_
  refine g_iload_1 h dJ1_charAt_3b067_7 ?_
  refine g_strB h i j hi dJ1_charAt_3b067_8 rfl hj (kL_all i hi) ?_
  refine g_sipush h dJ1_charAt_3b067_9 (v := nI 255) rfl ?_
  refine g_iand h dJ1_charAt_3b067_12 ?_
  refine g_i2c h dJ1_charAt_3b067_13 ?_
  refine g_zret h dJ1_charAt_3b067_14 (by show narrow .char (.int ((kB i j &&& 255).toUInt32 % 65536).toInt32) = .int ((kB i j &&& 255).toUInt32 % 65536).toInt32; rw [(kB_ok hi hj).1]; exact (kB_ok hi hj).2.1) ?_
  exact q_i (kB_ok hi hj).1 hQ
set_option maxRecDepth 100000 in
set_option maxHeartbeats 4000000 in
theorem sp_J0_charAt {d i j : Nat} (hi : i < 48) (hj : j < kL i) {I : MI} {J : MJ} {P : MP} {Q : Int32 → MI → MJ → MP → Prop} (hQ : Q (kB i j) I J P) : Sp yJ0_charAt_5068e cJ0_charAt_5068e 2 (some .char) (d + 3) [.ref (200 + i), .int (nI j)] I J P (Qi Q) := by
  intro Γ h
  show VG Γ 0 0 0 [some (.ref (200 + i)), some (.int (nI j))] [] _ _ _ _
  refine g_aload_0 h dJ0_charAt_5068e_0 ?_
  refine g_cTi0 h rok0 mi_J0_isLatin1_aae02 dJ0_charAt_5068e_1 ml_J0_492 i hi rfl rfl (Nat.le_of_ble_eq_true rfl) (Nat.le_of_ble_eq_true rfl) (sp_J0_isLatin1 hi ?_)
  refine g_if_eq h 16 dJ0_charAt_5068e_4 rfl (fun c => absurd c (by decide)) (fun _ => ?_)
  refine g_aload_0 h dJ0_charAt_5068e_7 ?_
  refine g_strV h i hi fw_J0_9 dJ0_charAt_5068e_8 ?_
  refine g_iload_1 h dJ0_charAt_5068e_11 ?_
  refine g_cSi2 h rok0 mi_J1_charAt_3b067 dJ0_charAt_5068e_12 ml_J0_495 (Nat.le_of_ble_eq_true rfl) (Nat.le_of_ble_eq_true rfl) (sp_J1_charAt hi hj ?_)
  refine g_zret h dJ0_charAt_5068e_15 (kB_ok hi hj).2.1 ?_
  exact hQ
def syI (c : Nat) : Int32 := frst (fun j => decide (kB 29 j = nI c)) 13 0
def symK (c : Nat) : Nat := if c = 40 then 30 else if c = 41 then 31 else if c = 91 then 32 else if c = 93 then 33 else if c = 59 then 34 else if c = 44 then 35 else if c = 43 then 36 else if c = 45 then 37 else if c = 42 then 38 else if c = 47 then 39 else if c = 60 then 40 else if c = 62 then 41 else if c = 61 then 42 else 46
theorem symK_ok : ∀ c, c < 256 → (if syI c < 0 then nI 46 else nI 30 + syI c) = nI (symK c) := by decide +kernel
theorem symK_lt (c : Nat) : 30 ≤ symK c ∧ symK c < 47 := by
  unfold symK
  repeat' split
  all_goals decide
theorem kB29 : ∀ c, c < 256 → ∀ j, j < 13 → (kB 29 j = (nI c).toInt8.toInt32 ↔ kB 29 j = nI c) := by decide +kernel
set_option maxRecDepth 100000 in
set_option maxHeartbeats 4000000 in
theorem sp_J1_canEncode {d n : Nat} (hn : n < 256) {I : MI} {J : MJ} {P : MP} {Q : Int32 → MI → MJ → MP → Prop} (hQ : Q (nI 1) I J P) : Sp yJ1_canEncode_9a6ad cJ1_canEncode_9a6ad 1 (some .boolean) (d) [.int (nI n)] I J P (Qi Q) := by
  intro Γ h
  show VG Γ 0 0 0 [some (.int (nI n))] [] _ _ _ _
  refine g_iload_0 h dJ1_canEncode_9a6ad_0 ?_
  refine g_if_lt h 15 dJ1_canEncode_9a6ad_1 rfl (fun c => absurd c (nI_pos (by omega))) (fun _ => ?_)
  refine g_iload_0 h dJ1_canEncode_9a6ad_4 ?_
  refine g_sipush h dJ1_canEncode_9a6ad_5 (v := nI 255) rfl ?_
  refine g_icmp_gt h 15 dJ1_canEncode_9a6ad_8 rfl (fun c => absurd c (nI_nlt (by omega) (by decide))) (fun _ => ?_)
  refine g_iconst h dJ1_canEncode_9a6ad_11 (v := nI 1) rfl ?_
  refine g_goto h 16 dJ1_canEncode_9a6ad_12 rfl ?_
  refine g_zret h dJ1_canEncode_9a6ad_16 (by first | rfl | exact nar_b2i _) ?_
  exact hQ
set_option maxRecDepth 100000 in
set_option maxHeartbeats 4000000 in
theorem lp_indexOfChar {Γ : Cx} {d n : Nat} (hn : n < 256) {I : MI} {J : MJ} {P : MP} {Q : Int32 → MI → MJ → MP → Prop} (h : Vc RJ1 cJ1_indexOfChar_4cfef 6 (some .int) (d) Γ) : ∀ (f k : Nat), k + f = 13 → Q (frst (fun j => decide (kB 29 j = nI n)) f k) I J P → VG Γ 0 0 7 [some (.ref (300 + 29)), some (.int (nI n)), some (.int (nI 0)), some (.int (nI 13)), some (.int (nI n).toInt8.toInt32), some (.int (nI k))] [] I J P (Fnl Γ (Qi Q)) := by
  intro f
  induction f with
  | zero =>
    intro k hk hQ
    obtain rfl : k = 13 := by omega
    refine g_iload_5 h dJ1_indexOfChar_4cfef_7 ?_
    refine g_iload_3 h dJ1_indexOfChar_4cfef_9 ?_
    refine g_icmp_ge h 31 dJ1_indexOfChar_4cfef_10 rfl (fun _ => ?_) (fun c => absurd (nI_le (Nat.le_refl 13) (by decide)) c)
    refine g_iconst h dJ1_indexOfChar_4cfef_31 (v := (-1)) rfl ?_
    refine g_iret h dJ1_indexOfChar_4cfef_32 ?_
    exact hQ
  | succ f ih =>
    intro k hk hQ
    rw [frst] at hQ
    refine g_iload_5 h dJ1_indexOfChar_4cfef_7 ?_
    refine g_iload_3 h dJ1_indexOfChar_4cfef_9 ?_
    refine g_icmp_ge h 31 dJ1_indexOfChar_4cfef_10 rfl (fun c => absurd c (nI_ge (by omega) (by decide))) (fun _ => ?_)
    refine g_aload_0 h dJ1_indexOfChar_4cfef_13 ?_
    refine g_iload_5 h dJ1_indexOfChar_4cfef_14 ?_
    refine g_strB h 29 k (by decide) dJ1_indexOfChar_4cfef_16 rfl (by show k < 13; omega) (by decide) ?_
    refine g_iload_4 h dJ1_indexOfChar_4cfef_17 ?_
    refine g_icmp_ne h 25 dJ1_indexOfChar_4cfef_19 rfl (fun c19 => ?_) (fun c19 => ?_)
    · refine g_iinc_5 h dJ1_indexOfChar_4cfef_25 (inc1 _) (by decide) rfl ?_
      refine g_goto h 7 dJ1_indexOfChar_4cfef_28 rfl ?_
      have q1 : ¬ kB 29 k = nI n := fun q => c19 ((kB29 n hn k (by omega)).mpr q)
      rw [if_neg (by simpa using q1)] at hQ
      exact ih (k + 1) (by omega) hQ
    · refine g_iload_5 h dJ1_indexOfChar_4cfef_22 ?_
      refine g_iret h dJ1_indexOfChar_4cfef_24 ?_
      have q1 : kB 29 k = nI n := (kB29 n hn k (by omega)).mp (by first | exact c19 | exact Classical.not_not.mp c19)
      rw [if_pos (by simpa using q1)] at hQ
      exact hQ
set_option maxRecDepth 100000 in
set_option maxHeartbeats 4000000 in
theorem sp_J1_indexOfChar {d n : Nat} (hn : n < 256) {I : MI} {J : MJ} {P : MP} {Q : Int32 → MI → MJ → MP → Prop} (hQ : Q (syI n) I J P) : Sp yJ1_indexOfChar_4cfef cJ1_indexOfChar_4cfef 6 (some .int) (d) [.ref (300 + 29), .int (nI n), .int (nI 0), .int (nI 13)] I J P (Qi Q) := by
  intro Γ h
  show VG Γ 0 0 0 [some (.ref (300 + 29)), some (.int (nI n)), some (.int (nI 0)), some (.int (nI 13)), none, none] [] _ _ _ _
  refine g_iload_1 h dJ1_indexOfChar_4cfef_0 ?_
  refine g_i2b h dJ1_indexOfChar_4cfef_1 ?_
  refine g_istore_4 h dJ1_indexOfChar_4cfef_2 (by decide) rfl ?_
  refine g_iload_2 h dJ1_indexOfChar_4cfef_4 ?_
  refine g_istore_5 h dJ1_indexOfChar_4cfef_5 (by decide) rfl ?_
  exact lp_indexOfChar hn h 13 0 rfl hQ
set_option maxRecDepth 100000 in
set_option maxHeartbeats 4000000 in
theorem sp_J1_indexOf {d n : Nat} (hn : n < 256) {I : MI} {J : MJ} {P : MP} {Q : Int32 → MI → MJ → MP → Prop} (hQ : Q (syI n) I J P) : Sp yJ1_indexOf_4cfef cJ1_indexOf_4cfef 4 (some .int) (d + 1) [.ref (300 + 29), .int (nI n), .int (nI 0), .int (nI 13)] I J P (Qi Q) := by
  intro Γ h
  show VG Γ 0 0 0 [some (.ref (300 + 29)), some (.int (nI n)), some (.int (nI 0)), some (.int (nI 13))] [] _ _ _ _
  refine g_iload_1 h dJ1_indexOf_4cfef_0 ?_
  refine g_cSi1 h rok0 mi_J1_canEncode_9a6ad dJ1_indexOf_4cfef_1 ml_J1_88 (Nat.le_of_ble_eq_true rfl) (Nat.le_of_ble_eq_true rfl) (sp_J1_canEncode hn ?_)
  refine g_if_ne h 9 dJ1_indexOf_4cfef_4 rfl (fun _ => ?_) (fun c => absurd c (by decide))
  refine g_iload_2 h dJ1_indexOf_4cfef_9 ?_
  refine g_iconst h dJ1_indexOf_4cfef_10 (v := nI 0) rfl ?_
  refine g_mmax h dJ1_indexOf_4cfef_11 ml_J1_92 rok0 (Nat.le_of_ble_eq_true rfl) ?_
  rw [show (if nI 0 < nI 0 then nI 0 else nI 0) = nI 0 from rfl]
  refine g_istore_2 h dJ1_indexOf_4cfef_14 (by decide) rfl ?_
  refine g_iload_3 h dJ1_indexOf_4cfef_15 ?_
  refine g_aload_0 h dJ1_indexOf_4cfef_16 ?_
  refine g_strL h 29 (by decide) dJ1_indexOf_4cfef_17 ?_
  refine g_mmin h dJ1_indexOf_4cfef_18 ml_J1_38 rok0 (Nat.le_of_ble_eq_true rfl) ?_
  rw [show (if nI (kLen.getD 29 0) < nI 13 then nI (kLen.getD 29 0) else nI 13) = nI 13 from by decide]
  refine g_istore_3 h dJ1_indexOf_4cfef_21 (by decide) rfl ?_
  refine g_iload_2 h dJ1_indexOf_4cfef_22 ?_
  refine g_iload_3 h dJ1_indexOf_4cfef_23 ?_
  refine g_icmp_lt h 29 dJ1_indexOf_4cfef_24 rfl (fun _ => ?_) (fun c => absurd c (by decide))
  refine g_aload_0 h dJ1_indexOf_4cfef_29 ?_
  refine g_iload_1 h dJ1_indexOf_4cfef_30 ?_
  refine g_iload_2 h dJ1_indexOf_4cfef_31 ?_
  refine g_iload_3 h dJ1_indexOf_4cfef_32 ?_
  refine g_cSi4 h rok0 mi_J1_indexOfChar_4cfef dJ1_indexOf_4cfef_33 ml_J1_95 (Nat.le_of_ble_eq_true rfl) (Nat.le_of_ble_eq_true rfl) (sp_J1_indexOfChar hn ?_)
  refine g_iret h dJ1_indexOf_4cfef_36 ?_
  exact hQ
set_option maxRecDepth 100000 in
set_option maxHeartbeats 4000000 in
theorem sp_J0_indexOf2 {d n : Nat} (hn : n < 256) {I : MI} {J : MJ} {P : MP} {Q : Int32 → MI → MJ → MP → Prop} (hQ : Q (syI n) I J P) : Sp yJ0_indexOf_7cf53 cJ0_indexOf_7cf53 3 (some .int) (d + 2) [.ref (200 + 29), .int (nI n), .int (nI 0)] I J P (Qi Q) := by
  intro Γ h
  show VG Γ 0 0 0 [some (.ref (200 + 29)), some (.int (nI n)), some (.int (nI 0))] [] _ _ _ _
  refine g_aload_0 h dJ0_indexOf_7cf53_0 ?_
  refine g_cTi0 h rok0 mi_J0_isLatin1_aae02 dJ0_indexOf_7cf53_1 ml_J0_492 29 (by decide) rfl rfl (Nat.le_of_ble_eq_true rfl) (Nat.le_of_ble_eq_true rfl) (sp_J0_isLatin1 (by decide) ?_)
  refine g_if_eq h 23 dJ0_indexOf_7cf53_4 rfl (fun c => absurd c (by decide)) (fun _ => ?_)
  refine g_aload_0 h dJ0_indexOf_7cf53_7 ?_
  refine g_strV h 29 (by decide) fw_J0_9 dJ0_indexOf_7cf53_8 ?_
  refine g_iload_1 h dJ0_indexOf_7cf53_11 ?_
  refine g_iload_2 h dJ0_indexOf_7cf53_12 ?_
  refine g_aload_0 h dJ0_indexOf_7cf53_13 ?_
  refine g_cTi0 h rok0 mi_J0_length_8abf5 dJ0_indexOf_7cf53_14 ml_J0_505 29 (by decide) rfl rfl (Nat.le_of_ble_eq_true rfl) (Nat.le_of_ble_eq_true rfl) (sp_J0_length (by decide) ?_)
  refine g_cSi4 h rok0 mi_J1_indexOf_4cfef dJ0_indexOf_7cf53_17 ml_J0_637 (Nat.le_of_ble_eq_true rfl) (Nat.le_of_ble_eq_true rfl) (sp_J1_indexOf hn ?_)
  refine g_goto h 36 dJ0_indexOf_7cf53_20 rfl ?_
  refine g_iret h dJ0_indexOf_7cf53_36 ?_
  exact hQ
set_option maxRecDepth 100000 in
set_option maxHeartbeats 4000000 in
theorem sp_J0_indexOf {d n : Nat} (hn : n < 256) {I : MI} {J : MJ} {P : MP} {Q : Int32 → MI → MJ → MP → Prop} (hQ : Q (syI n) I J P) : Sp yJ0_indexOf_0f7a4 cJ0_indexOf_0f7a4 2 (some .int) (d + 3) [.ref (200 + 29), .int (nI n)] I J P (Qi Q) := by
  intro Γ h
  show VG Γ 0 0 0 [some (.ref (200 + 29)), some (.int (nI n))] [] _ _ _ _
  refine g_aload_0 h dJ0_indexOf_0f7a4_0 ?_
  refine g_iload_1 h dJ0_indexOf_0f7a4_1 ?_
  refine g_iconst h dJ0_indexOf_0f7a4_2 (v := nI 0) rfl ?_
  refine g_cTi2 h rok0 mi_J0_indexOf_7cf53 dJ0_indexOf_0f7a4_3 ml_J0_633 29 (by decide) rfl rfl (Nat.le_of_ble_eq_true rfl) (Nat.le_of_ble_eq_true rfl) (sp_J0_indexOf2 hn ?_)
  refine g_iret h dJ0_indexOf_0f7a4_6 ?_
  exact hQ
