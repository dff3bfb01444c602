/-! The law's say -/
def txL (ad : Nat → Nat) (k : Nat) : Nat := if k < ad 602 then txN ad k else 32
def pk4 (a b c d : Nat) : Nat := a * 16777216 + b * 65536 + c * 256 + d
theorem nI_or (a b : Nat) : nI a ||| nI b = nI (a ||| b) := by
  apply Int32.toBitVec_inj.mp
  show BitVec.ofNat 32 a ||| BitVec.ofNat 32 b = BitVec.ofNat 32 (a ||| b)
  apply BitVec.eq_of_toNat_eq
  rw [BitVec.toNat_or, BitVec.toNat_ofNat, BitVec.toNat_ofNat, BitVec.toNat_ofNat, Nat.or_mod_two_pow]
theorem or_24 {a b : Nat} (h : b < 16777216) : a * 16777216 ||| b = a * 16777216 + b := by
  have := Nat.two_pow_add_eq_or_of_lt (i := 24) (b := b) h a
  rw [Nat.mul_comm]
  exact this.symm
theorem or_16 {a b : Nat} (h : b < 65536) : a * 65536 ||| b = a * 65536 + b := by
  have := Nat.two_pow_add_eq_or_of_lt (i := 16) (b := b) h a
  rw [Nat.mul_comm]
  exact this.symm
theorem or_8 {a b : Nat} (h : b < 256) : a * 256 ||| b = a * 256 + b := by
  have := Nat.two_pow_add_eq_or_of_lt (i := 8) (b := b) h a
  rw [Nat.mul_comm]
  exact this.symm
theorem pk4_or {a b c d : Nat} (ha : a < 128) (hb : b < 128) (hc : c < 128) (hd : d < 128) : (((a * 16777216 ||| b * 65536) ||| c * 256) ||| d) = pk4 a b c d := by
  rw [or_24 (by omega), show a * 16777216 + b * 65536 = (a * 256 + b) * 65536 by omega, or_16 (by omega), show (a * 256 + b) * 65536 + c * 256 = (a * 65536 + b * 256 + c) * 256 by omega, or_8 (by omega)]
  unfold pk4
  omega
theorem bts_pk {a b c d : Nat} (ha : a < 128) (hb : b < 128) (hc : c < 128) (hd : d < 128) : bts (nI (pk4 a b c d)) 0 = a ∧ bts (nI (pk4 a b c d)) 1 = b ∧ bts (nI (pk4 a b c d)) 2 = c ∧ bts (nI (pk4 a b c d)) 3 = d := by
  unfold bts pk4
  rw [pk_tn (by omega)]
  refine ⟨?_, ?_, ?_, ?_⟩ <;> simp <;> omega
section SY
variable {ad : Nat → Nat} {d : Nat} {I : MI} {J : MJ} {P : MP} {Q : Int32 → MI → MJ → MP → Prop}
theorem sa_letter {k : Nat} (ht : ad 603 = 1) (hk : k < 2 ^ 30) (hQ : txL ad k < 128 → Q (nI (txL ad k)) I J P) : SpA ad yL_letter cL_letter 2 (some .int) (d + 4) [.ref 600, .int (nI k)] I J P (Qi Q) := by
  rintro Γ rfl h
  show VG Γ 0 0 0 [some (.ref 600), some (.int (nI k))] [] _ _ _ _
  refine g_iload_1 h dL_letter_0 ?_
  refine g_aload_0 h dL_letter_1 ?_
  refine ga_callT (As := []) h ht rok0 mi_J0_length_8abf5 dL_letter_2 ml_L_9 rfl (Nat.le_of_ble_eq_true rfl) rfl (Nat.le_of_ble_eq_true rfl) (fun Γ2 e2 h2 => fnl_mono (fun r I1 J1 P1 hq => by obtain ⟨x, rfl, hq⟩ := hq; exact hq) (sa_length (ad := adO Γ) ht (Q := fun x I J P => VG Γ 0 0 5 _ (.int x :: .int (nI k) :: []) I J P _) (fun hl => ?_) Γ2 e2 h2))
  refine g_icmp_ge h 16 dL_letter_5 rfl (fun c => ?_) (fun c => ?_)
  · have c := (nI_leI (by omega) (by omega)).mp c
    have e : txL (adO Γ) k = 32 := if_neg (by omega)
    rw [e] at hQ
    refine g_bipush h dL_letter_16 (v := nI 32) rfl ?_
    refine g_iret h dL_letter_18 ?_
    exact hQ (by decide)
  · have c : k < adO Γ 602 := by
      rcases Nat.lt_or_ge k (adO Γ 602) with q | q
      · exact q
      · exact absurd ((nI_leI (by omega) (by omega)).mpr q) c
    have e : txL (adO Γ) k = txN (adO Γ) k := if_pos c
    rw [e] at hQ
    refine g_aload_0 h dL_letter_8 ?_
    refine g_iload_1 h dL_letter_9 ?_
    refine ga_callT (As := [.int (nI k)]) h ht rok0 mi_J0_charAt_5068e dL_letter_10 ml_L_15 rfl (Nat.le_of_ble_eq_true rfl) rfl (Nat.le_of_ble_eq_true rfl) (fun Γ2 e2 h2 => fnl_mono (fun r I1 J1 P1 hq => by obtain ⟨x, rfl, hq⟩ := hq; exact hq) (sa_charAt (ad := adO Γ) ht c (Q := fun x I J P => VG Γ 0 0 13 _ (.int x :: []) I J P _) (fun hl hc => ?_) Γ2 e2 h2))
    refine g_goto h 18 dL_letter_13 rfl ?_
    refine g_iret h dL_letter_18 ?_
    exact hQ hc
theorem sa_four {k : Nat} (ht : ad 603 = 1) (hk : k < 2 ^ 29) (hQ : (∀ i, i < 4 → txL ad (k + i) < 128) → Q (nI (pk4 (txL ad k) (txL ad (k + 1)) (txL ad (k + 2)) (txL ad (k + 3)))) I J P) : SpA ad yL_four cL_four 2 (some .int) (d + 5) [.ref 600, .int (nI k)] I J P (Qi Q) := by
  rintro Γ rfl h
  show VG Γ 0 0 0 [some (.ref 600), some (.int (nI k))] [] _ _ _ _
  refine g_aload_0 h dL_four_0 ?_
  refine g_iload_1 h dL_four_1 ?_
  refine ga_callS (As := [.ref 600, .int (nI k)]) h rok0 mi_L_letter dL_four_2 ml_L_19 (Nat.le_of_ble_eq_true rfl) rfl (Nat.le_of_ble_eq_true rfl) (fun Γ2 e2 h2 => fnl_mono (fun r I1 J1 P1 hq => by obtain ⟨x, rfl, hq⟩ := hq; exact hq) (sa_letter (ad := adO Γ) ht (by omega) (Q := fun x I J P => VG Γ 0 0 5 _ (.int x :: []) I J P _) (fun h0 => ?_) Γ2 e2 h2))
  refine g_bipush h dL_four_5 (v := nI 24) rfl ?_
  refine g_ishl h dL_four_7 ?_
  rw [pk_shlN (n := txL (adO Γ) k) (nI 24 &&& 31) 24 (by decide) (by omega)]
  refine g_aload_0 h dL_four_8 ?_
  refine g_iload_1 h dL_four_9 ?_
  refine g_iconst h dL_four_10 (v := nI 1) rfl ?_
  refine g_iadd h dL_four_11 ?_
  rw [nI_add]
  refine ga_callS (As := [.ref 600, .int (nI (k + 1))]) h rok0 mi_L_letter dL_four_12 ml_L_19 (Nat.le_of_ble_eq_true rfl) rfl (Nat.le_of_ble_eq_true rfl) (fun Γ2 e2 h2 => fnl_mono (fun r I1 J1 P1 hq => by obtain ⟨x, rfl, hq⟩ := hq; exact hq) (sa_letter (ad := adO Γ) ht (by omega) (Q := fun x I J P => VG Γ 0 0 15 _ (.int x :: .int _ :: []) I J P _) (fun h1 => ?_) Γ2 e2 h2))
  refine g_bipush h dL_four_15 (v := nI 16) rfl ?_
  refine g_ishl h dL_four_17 ?_
  rw [pk_shlN (n := txL (adO Γ) (k + 1)) (nI 16 &&& 31) 16 (by decide) (by omega)]
  refine g_ior h dL_four_18 ?_
  rw [nI_or]
  refine g_aload_0 h dL_four_19 ?_
  refine g_iload_1 h dL_four_20 ?_
  refine g_iconst h dL_four_21 (v := nI 2) rfl ?_
  refine g_iadd h dL_four_22 ?_
  rw [nI_add]
  refine ga_callS (As := [.ref 600, .int (nI (k + 2))]) h rok0 mi_L_letter dL_four_23 ml_L_19 (Nat.le_of_ble_eq_true rfl) rfl (Nat.le_of_ble_eq_true rfl) (fun Γ2 e2 h2 => fnl_mono (fun r I1 J1 P1 hq => by obtain ⟨x, rfl, hq⟩ := hq; exact hq) (sa_letter (ad := adO Γ) ht (by omega) (Q := fun x I J P => VG Γ 0 0 26 _ (.int x :: .int _ :: []) I J P _) (fun h2l => ?_) Γ2 e2 h2))
  refine g_bipush h dL_four_26 (v := nI 8) rfl ?_
  refine g_ishl h dL_four_28 ?_
  rw [pk_shlN (n := txL (adO Γ) (k + 2)) (nI 8 &&& 31) 8 (by decide) (by omega)]
  refine g_ior h dL_four_29 ?_
  rw [nI_or]
  refine g_aload_0 h dL_four_30 ?_
  refine g_iload_1 h dL_four_31 ?_
  refine g_iconst h dL_four_32 (v := nI 3) rfl ?_
  refine g_iadd h dL_four_33 ?_
  rw [nI_add]
  refine ga_callS (As := [.ref 600, .int (nI (k + 3))]) h rok0 mi_L_letter dL_four_34 ml_L_19 (Nat.le_of_ble_eq_true rfl) rfl (Nat.le_of_ble_eq_true rfl) (fun Γ2 e2 h2 => fnl_mono (fun r I1 J1 P1 hq => by obtain ⟨x, rfl, hq⟩ := hq; exact hq) (sa_letter (ad := adO Γ) ht (by omega) (Q := fun x I J P => VG Γ 0 0 37 _ (.int x :: .int _ :: []) I J P _) (fun h3 => ?_) Γ2 e2 h2))
  refine g_ior h dL_four_37 ?_
  rw [nI_or]
  refine g_iret h dL_four_38 ?_
  have e := pk4_or h0 h1 h2l h3
  show Q (nI (txL (adO Γ) k * 2 ^ 24 ||| txL (adO Γ) (k + 1) * 2 ^ 16 ||| txL (adO Γ) (k + 2) * 2 ^ 8 ||| txL (adO Γ) (k + 3))) I J P
  rw [show (2 : Nat) ^ 24 = 16777216 from rfl, show (2 : Nat) ^ 16 = 65536 from rfl, show (2 : Nat) ^ 8 = 256 from rfl, e]
  refine hQ (fun i hi => ?_)
  rcases (show i = 0 ∨ i = 1 ∨ i = 2 ∨ i = 3 by omega) with rfl | rfl | rfl | rfl <;> assumption
end SY
/-- what a feed makes of the tape -/
def pkT (ad : Nat → Nat) (k : Nat) : Int32 := nI (pk4 (txL ad k) (txL ad (k + 1)) (txL ad (k + 2)) (txL ad (k + 3)))
theorem apT_tx {ad Tp : Nat → Nat} {L : Nat} (hT : ∀ j, j < L → Tp j = txL ad j) (h : ∀ i, i < 4 → txL ad (L + i) < 128) : ∀ j, j < L + 4 → apT Tp L (pkT ad L) j = txL ad j := by
  intro j hj
  unfold apT pkT
  by_cases c : j < L
  · rw [if_pos c]; exact hT j c
  · rw [if_neg c]
    have h0 := h 0 (by decide)
    obtain ⟨b0, b1, b2, b3⟩ := bts_pk h0 (h 1 (by decide)) (h 2 (by decide)) (h 3 (by decide))
    rcases (show j = L ∨ j = L + 1 ∨ j = L + 2 ∨ j = L + 3 by omega) with rfl | rfl | rfl | rfl
    · rw [Nat.sub_self]; exact b0
    · rw [show L + 1 - L = 1 by omega]; exact b1
    · rw [show L + 2 - L = 2 by omega]; exact b2
    · rw [show L + 3 - L = 3 by omega]; exact b3
theorem fdT_tx {ad Tp : Nat → Nat} {L : Nat} (hT : ∀ j, j < L → Tp j = txL ad j) (h : ∀ i, i < 20 → txL ad (L + i) < 128) : ∀ j, j < L + 20 → fdT Tp L (pkT ad L) (pkT ad (L + 4)) (pkT ad (L + 8)) (pkT ad (L + 12)) (pkT ad (L + 16)) j = txL ad j := by
  unfold fdT
  have a1 := apT_tx hT (fun i hi => h i (by omega))
  have a2 := apT_tx (L := L + 4) a1 (fun i hi => by rw [Nat.add_assoc]; exact h _ (by omega))
  have a3 := apT_tx (L := L + 8) a2 (fun i hi => by rw [Nat.add_assoc]; exact h _ (by omega))
  have a4 := apT_tx (L := L + 12) a3 (fun i hi => by rw [Nat.add_assoc]; exact h _ (by omega))
  exact apT_tx (L := L + 16) a4 (fun i hi => by rw [Nat.add_assoc]; exact h _ (by omega))
