/-! The law's say: the loop -/
theorem txL_lt {own : String} {cc : ByteArray} {nL d : Nat} {ret : Option FieldType} {Γ : Cx} (h : Vc own cc nL ret d Γ) (ht : adO Γ 603 = 1) : ∀ j, txL (adO Γ) j < 128 := by
  obtain ⟨p, l, e, R, s, m, args, below, meth, c, ad, dC, dI, cy, A⟩ := Γ
  obtain ⟨hx, hb, hml, hr, hown, hts, hlk, hK, hA, hin, hAd, hf, hlo, hRO⟩ := h
  have ht : ad 603 = 1 := ht
  have hX : TX (ad 600) (ad 601) (ad 602) (txN ad) A s s.heap := hRO.tx.resolve_left (by omega)
  intro j
  show (if j < ad 602 then txN ad j else 32) < 128
  split
  · rename_i q
    exact hX.let.2 j q
  · decide
theorem lp_say_end {Γ : Cx} {d : Nat} {I0 : MI} {J : MJ} {P : MP} {Q : MI → MJ → MP → Prop} (ht : adO Γ 603 = 1) (hlen : adO Γ 602 ≤ 1900) (hQ : ∀ I', tpO (txL (adO Γ)) (adO Γ 602) I' → (∀ a, a ≠ 1 → a ≠ 2 → I' a = I0 a) → Q I' J P) (h : Vc RL cL_say 4 none (d + 9) Γ) (hl128 : ∀ j, txL (adO Γ) j < 128) (k : Nat) (Tp : Nat → Nat) (I : MI) (hf : adO Γ 602 ≤ k) (hk : k < adO Γ 602 + 20) (hT : tpO Tp k I) (hTp : ∀ j, j < k → Tp j = txL (adO Γ) j) (hI : ∀ a, a ≠ 1 → a ≠ 2 → I a = I0 a) : VG Γ 0 0 9 [some (.ref 0), some (.ref 600), some (.int (nI 0)), some (.int (nI k))] [] I J P (Fnl Γ (Qv Q)) := by
  refine g_iload_3 h dL_say_9 ?_
  refine g_aload_1 h dL_say_10 ?_
  refine ga_callT (As := []) h ht rok0 mi_J0_length_8abf5 dL_say_11 ml_L_9 rfl (Nat.le_of_ble_eq_true rfl) rfl (Nat.le_of_ble_eq_true rfl) (fun Γ2 e2 h2 => fnl_mono (fun r I1 J1 P1 hq => by obtain ⟨x, rfl, hq⟩ := hq; exact hq) (sa_length (ad := adO Γ) ht (Q := fun x I J P => VG Γ 0 0 14 _ (.int x :: .int (nI k) :: []) I J P _) (fun hl => ?_) Γ2 e2 h2))
  refine g_icmp_ge h 64 dL_say_14 rfl (fun _ => ?_) (fun c => absurd ((nI_leI (by omega) (by omega)).mpr (by omega)) c)
  refine g_aload_0 h dL_say_64 ?_
  refine g_iload_2 h dL_say_65 ?_
  refine g_aload_1 h dL_say_66 ?_
  refine ga_callT (As := []) h ht rok0 mi_J0_length_8abf5 dL_say_67 ml_L_9 rfl (Nat.le_of_ble_eq_true rfl) rfl (Nat.le_of_ble_eq_true rfl) (fun Γ2 e2 h2 => fnl_mono (fun r I1 J1 P1 hq => by obtain ⟨x, rfl, hq⟩ := hq; exact hq) (sa_length (ad := adO Γ) ht (Q := fun x I J P => VG Γ 0 0 70 _ (.int x :: .int (nI 0) :: .ref 0 :: []) I J P _) (fun _ => ?_) Γ2 e2 h2))
  refine g_iadd h dL_say_70 ?_
  rw [nI_add, Nat.zero_add]
  refine g_cVi1 h rok0 mi_X10_trim dL_say_71 ml_L_38 rfl rfl rfl (Nat.le_of_ble_eq_true rfl) (Nat.le_of_ble_eq_true rfl) (sp_X10_trim hT.1 hT.2.1 (fun n hn hx => ?_) (fun q => q ⟨adO Γ 602, by omega, rfl⟩))
  refine g_pop h dL_say_74 rfl ?_
  refine g_vret h dL_say_75 ?_
  refine hQ _ ⟨up2_s, by omega, fun j hj => ?_⟩ (fun a a1 a2 => by rw [up2_o a1]; exact hI a a1 a2)
  rw [up2_o (by decide), (hT.2.2 j (by omega)).1, hTp j (by omega)]
  exact ⟨rfl, by have := hl128 j; omega⟩
theorem lp_say {Γ : Cx} {d : Nat} {I0 : MI} {J : MJ} {P : MP} {Q : MI → MJ → MP → Prop} (ht : adO Γ 603 = 1) (hlen : adO Γ 602 ≤ 1900) (hQ : ∀ I', tpO (txL (adO Γ)) (adO Γ 602) I' → (∀ a, a ≠ 1 → a ≠ 2 → I' a = I0 a) → Q I' J P) (h : Vc RL cL_say 4 none (d + 9) Γ) (hl128 : ∀ j, txL (adO Γ) j < 128) : ∀ (f k : Nat) (Tp : Nat → Nat) (I : MI), adO Γ 602 ≤ k + 20 * f → k < adO Γ 602 + 20 → tpO Tp k I → (∀ j, j < k → Tp j = txL (adO Γ) j) → (∀ a, a ≠ 1 → a ≠ 2 → I a = I0 a) → VG Γ 0 0 9 [some (.ref 0), some (.ref 600), some (.int (nI 0)), some (.int (nI k))] [] I J P (Fnl Γ (Qv Q)) := by
  intro f
  induction f with
  | zero =>
    intro k Tp I hf hk hT hTp hI
    exact lp_say_end ht hlen hQ h hl128 k Tp I (by omega) hk hT hTp hI
  | succ f ih =>
    intro k Tp I hf hk hT hTp hI
    by_cases hkl : adO Γ 602 ≤ k
    · exact lp_say_end ht hlen hQ h hl128 k Tp I hkl hk hT hTp hI
    refine g_iload_3 h dL_say_9 ?_
    refine g_aload_1 h dL_say_10 ?_
    refine ga_callT (As := []) h ht rok0 mi_J0_length_8abf5 dL_say_11 ml_L_9 rfl (Nat.le_of_ble_eq_true rfl) rfl (Nat.le_of_ble_eq_true rfl) (fun Γ2 e2 h2 => fnl_mono (fun r I1 J1 P1 hq => by obtain ⟨x, rfl, hq⟩ := hq; exact hq) (sa_length (ad := adO Γ) ht (Q := fun x I J P => VG Γ 0 0 14 _ (.int x :: .int (nI k) :: []) I J P _) (fun hl => ?_) Γ2 e2 h2))
    refine g_icmp_ge h 64 dL_say_14 rfl (fun c => absurd ((nI_leI (by omega) (by omega)).mp c) hkl) (fun _ => ?_)
    refine g_aload_0 h dL_say_17 ?_
    refine g_aload_1 h dL_say_18 ?_
    refine g_iload_3 h dL_say_19 ?_
    refine ga_callS (As := [.ref 600, .int (nI k)]) h rok0 mi_L_four dL_say_20 ml_L_31 (Nat.le_of_ble_eq_true rfl) rfl (Nat.le_of_ble_eq_true rfl) (fun Γ2 e2 h2 => fnl_mono (fun r I1 J1 P1 hq => by obtain ⟨x, rfl, hq⟩ := hq; exact hq) (sa_four (ad := adO Γ) ht (by omega) (Q := fun x I J P => VG Γ 0 0 23 _ (.int x :: .ref 0 :: []) I J P _) (fun _ => ?_) Γ2 e2 h2))
    refine g_aload_1 h dL_say_23 ?_
    refine g_iload_3 h dL_say_24 ?_
    refine g_iconst h dL_say_25 (v := nI 4) rfl ?_
    refine g_iadd h dL_say_26 ?_
    rw [nI_add]
    refine ga_callS (As := [.ref 600, .int (nI (k + 4))]) h rok0 mi_L_four dL_say_27 ml_L_31 (Nat.le_of_ble_eq_true rfl) rfl (Nat.le_of_ble_eq_true rfl) (fun Γ2 e2 h2 => fnl_mono (fun r I1 J1 P1 hq => by obtain ⟨x, rfl, hq⟩ := hq; exact hq) (sa_four (ad := adO Γ) ht (by omega) (Q := fun x I J P => VG Γ 0 0 30 _ (.int x :: .int _ :: .ref 0 :: []) I J P _) (fun _ => ?_) Γ2 e2 h2))
    refine g_aload_1 h dL_say_30 ?_
    refine g_iload_3 h dL_say_31 ?_
    refine g_bipush h dL_say_32 (v := nI 8) rfl ?_
    refine g_iadd h dL_say_34 ?_
    rw [nI_add]
    refine ga_callS (As := [.ref 600, .int (nI (k + 8))]) h rok0 mi_L_four dL_say_35 ml_L_31 (Nat.le_of_ble_eq_true rfl) rfl (Nat.le_of_ble_eq_true rfl) (fun Γ2 e2 h2 => fnl_mono (fun r I1 J1 P1 hq => by obtain ⟨x, rfl, hq⟩ := hq; exact hq) (sa_four (ad := adO Γ) ht (by omega) (Q := fun x I J P => VG Γ 0 0 38 _ (.int x :: .int _ :: .int _ :: .ref 0 :: []) I J P _) (fun _ => ?_) Γ2 e2 h2))
    refine g_aload_1 h dL_say_38 ?_
    refine g_iload_3 h dL_say_39 ?_
    refine g_bipush h dL_say_40 (v := nI 12) rfl ?_
    refine g_iadd h dL_say_42 ?_
    rw [nI_add]
    refine ga_callS (As := [.ref 600, .int (nI (k + 12))]) h rok0 mi_L_four dL_say_43 ml_L_31 (Nat.le_of_ble_eq_true rfl) rfl (Nat.le_of_ble_eq_true rfl) (fun Γ2 e2 h2 => fnl_mono (fun r I1 J1 P1 hq => by obtain ⟨x, rfl, hq⟩ := hq; exact hq) (sa_four (ad := adO Γ) ht (by omega) (Q := fun x I J P => VG Γ 0 0 46 _ (.int x :: .int _ :: .int _ :: .int _ :: .ref 0 :: []) I J P _) (fun _ => ?_) Γ2 e2 h2))
    refine g_aload_1 h dL_say_46 ?_
    refine g_iload_3 h dL_say_47 ?_
    refine g_bipush h dL_say_48 (v := nI 16) rfl ?_
    refine g_iadd h dL_say_50 ?_
    rw [nI_add]
    refine ga_callS (As := [.ref 600, .int (nI (k + 16))]) h rok0 mi_L_four dL_say_51 ml_L_31 (Nat.le_of_ble_eq_true rfl) rfl (Nat.le_of_ble_eq_true rfl) (fun Γ2 e2 h2 => fnl_mono (fun r I1 J1 P1 hq => by obtain ⟨x, rfl, hq⟩ := hq; exact hq) (sa_four (ad := adO Γ) ht (by omega) (Q := fun x I J P => VG Γ 0 0 54 _ (.int x :: .int _ :: .int _ :: .int _ :: .int _ :: .ref 0 :: []) I J P _) (fun _ => ?_) Γ2 e2 h2))
    refine g_cVi5 h rok0 mi_X10_feed dL_say_54 ml_L_34 rfl rfl rfl (Nat.le_of_ble_eq_true rfl) (Nat.le_of_ble_eq_true rfl) (sp_X10_feed hT (fun hk2 I' hT' hI' => ?_) (fun q => q (by omega)))
    refine g_pop h dL_say_57 rfl ?_
    refine g_iinc_3 h dL_say_58 (show nI k + Int32.ofInt 20 = nI (k + 20) from nI_add k 20) (by decide) rfl ?_
    refine g_goto h 9 dL_say_61 rfl ?_
    exact ih (k + 20) _ I' (by omega) (by omega) hT' (fdT_tx hTp (fun i _ => hl128 _)) (fun a a1 a2 => (hI' a a1 a2).trans (hI a a1 a2))
theorem sa_say {ad : Nat → Nat} {d : Nat} {I : MI} {J : MJ} {P : MP} {Q : MI → MJ → MP → Prop} (ht : ad 603 = 1) (hlen : ad 602 ≤ 1900) (hP : P 20 0 = some 36) (hD : tdOK (dv I)) (h0 : I 1 1 = nI 0) (hQ : (∀ j, txL ad j < 128) → ∀ I', tpO (txL ad) (ad 602) I' → (∀ a, a ≠ 1 → a ≠ 2 → I' a = I a) → Q I' J P) : SpA ad yL_say cL_say 4 none (d + 9) [.ref 0, .ref 600] I J P (Qv Q) := by
  rintro Γ rfl h
  show VG Γ 0 0 0 [some (.ref 0), some (.ref 600), none, none] [] _ _ _ _
  have hl := txL_lt h ht
  refine g_aload_0 h dL_say_0 ?_
  refine g_bipush h dL_say_1 (v := nI 12) rfl ?_
  refine g_cVi1 h rok0 mi_X10_count dL_say_3 ml_L_25 rfl rfl rfl (Nat.le_of_ble_eq_true rfl) (Nat.le_of_ble_eq_true rfl) (sp_X10_count hP hD (fun w hw e => ?_) (fun q => q ⟨12, by decide, rfl⟩))
  obtain rfl : w = 12 := ((nI_eq (by decide) (by omega)).mp e).symm
  rw [show cntC I 12 = I 1 1 from if_pos rfl, h0]
  refine g_istore_2 h dL_say_6 (by decide) rfl ?_
  refine g_iconst h dL_say_7 (v := nI 0) rfl ?_
  refine g_istore_3 h dL_say_8 (by decide) rfl ?_
  exact lp_say ht hlen (hQ hl) h hl 95 0 (fun _ => 0) I (by omega) (by omega) ⟨h0, by omega, fun j hj => absurd hj (Nat.not_lt_zero _)⟩ (fun j hj => absurd hj (Nat.not_lt_zero _)) (fun _ _ _ => rfl)
