theorem sm_ac : Cond.static arraycopyName ∈ bigW := bw_in (tb_2 (List.mem_of_getElem? (i := 113) rfl)) rfl
section GC
variable {own : String} {cc : ByteArray} {nL d kc kn pc : Nat} {ret : Option FieldType} {Γ : Cx} {lv : List (Option Value)} {st : List Value} {I : MI} {J : MJ} {P : MP} {Φ : State → Prop}
theorem cel_row {ad : Nat → Nat} {cy : Nat → ClassId} {I : MI} {J : MJ} {P : MP} {i j : Nat} {r : Nat → Int32} (h : j ≠ i) : cel ad cy (setRow I i r) J P j = cel ad cy I J P j := by
  have e : ∀ k0 ks, fvs ad (setRow I i r) J P j k0 ks = fvs ad I J P j k0 ks := by
    intro k0 ks
    induction ks generalizing k0 with
    | nil => rfl
    | cons q r ih => simp only [fvs, ih, fvl, setRow_o h]
  simp only [cel, e, setRow_o h]
theorem g_copyi (h : Vc own cc nL ret (d + 1) Γ) {a b idx n0 n1 : Nat} (n : Nat) (hd : decode cc pc = .ok (.invokestatic idx, 3)) (hl0 : Cond.methodLink own idx arraycopyName ∈ bigW) (hrk : Rok Γ kc kn) (ha : shp a = .inr (0, n0)) (hb : shp b = .inr (0, n1)) (h4 : n ≤ n0) (h5 : n ≤ n1) (hcat : (st.map fun v => v.category).sum ≤ 8) (k : VG Γ kc kn (pc + 3) lv st (setRow I b (va_cpy (I a) (I b) 0 0 n)) J P Φ) : VG Γ kc kn pc lv (.int (nI n) :: .int (nI 0) :: .ref b :: .int (nI 0) :: .ref a :: st) I J P Φ := by
  obtain ⟨p, l, e, R, s, m, args, below, meth, c, ad, dC, dI, cy, A⟩ := Γ
  obtain ⟨hx, hb0, hml, hr, hown, hts, hlk, hK, hA, hin, hAd, hf, hlo, hRO⟩ := h
  intro H locs ls hP hS hl
  have ea := wsO_at (ad := ad) (cy := cy) (I := I) (J := J) (P := P) (shp_lt ha)
  have eb := wsO_at (ad := ad) (cy := cy) (I := I) (J := J) (P := P) (shp_lt hb)
  rw [cel_i ha (by decide)] at ea
  rw [cel_i hb (by decide)] at eb
  have hD := wsO_D (cy := cy) (I := I) (J := J) (P := P) hin hAd
  have hn1 := shp_le ha
  have cn : (nI n).toNatClampNeg = n := nI_clamp (by omega)
  have c0 : (nI 0).toNatClampNeg = 0 := nI_clamp (by decide)
  refine va_copyi (D := (dC, dI)) (tys := tysO cy) hx hb0 hl.1.symm hown (hts _ hl0) (hts _ nat_ac) (hts _ sm_ac) (hts _ ini_J10) hK hP hD hS a b 0 0 ea eb rfl rfl rfl (nI_pos (by decide)) (nI_pos (by decide)) (nI_pos (by omega)) (by rw [c0, cn]; omega) (by rw [c0, cn]; omega) (fun i _ => rfl) (by omega) (by rw [vmap_cats]; exact Nat.le_trans (Nat.add_le_add_right hcat _) (Nat.le_trans (show 8 + (nativeFrameWords "java/lang/System" "arraycopy" 5 + 11) ≤ 64 from Nat.le_of_ble_eq_true rfl) (by omega))) hd (fun H1 locs1 hP1 _ hS1 => k H1 locs1 ls ?_ hS1 hl)
  rw [c0, cn, wsO_set (ad := ad) (cy := cy) (I := I) (I' := setRow I b (va_cpy (I a) (I b) 0 0 n)) (J := J) (J' := J) (P := P) (P' := P) (shp_lt hb) (by rw [cel_i hb (by decide), setRow_s]) (fun j hj => cel_row hj)] at hP1
  exact hP1
end GC
theorem cpy_in {f g : Nat → Int32} {n j : Nat} (h : j < n) : va_cpy f g 0 0 n j = f j := by simp [va_cpy, h]
def flR (r : Nat → Int32) (v : Int32) (n : Nat) : Nat → Int32 := fun j => if j < n then v else r j
set_option maxHeartbeats 4000000 in
theorem lp_fill {Γ : Cx} {d a n : Nat} (hs : shp a = .inr (0, n)) {x : Int32} {J : MJ} {P : MP} {Q : MI → MJ → MP → Prop} (h : Vc RJ7 cJ7_fill_53178 4 none (d) Γ) : ∀ (f i : Nat) (I : MI), i + f = n → Q (setRow I a (fun j => if i ≤ j ∧ j < n then x else I a j)) J P → VG Γ 0 0 5 [some (.ref a), some (.int x), some (.int (nI i)), some (.int (nI n))] [] I J P (Fnl Γ (Qv Q)) := by
  have hn := shp_le hs
  intro f
  induction f with
  | zero =>
    intro i I hi hQ
    refine g_iload_2 h dJ7_fill_53178_5 ?_
    refine g_iload_3 h dJ7_fill_53178_6 ?_
    refine g_icmp_ge h 20 dJ7_fill_53178_7 rfl (fun c7 => ?_) (fun c7 => ?_)
    · refine g_vret h dJ7_fill_53178_20 ?_
      exact q_I (by rw [show (fun j => if i ≤ j ∧ j < n then x else I a j) = I a from funext (fun j => if_neg (by omega)), setRow_id]) hQ
    · exact absurd (nI_le (by omega) (by omega)) c7
  | succ f ih =>
    intro i I hi hQ
    refine g_iload_2 h dJ7_fill_53178_5 ?_
    refine g_iload_3 h dJ7_fill_53178_6 ?_
    refine g_icmp_ge h 20 dJ7_fill_53178_7 rfl (fun c7 => ?_) (fun c7 => ?_)
    · exact absurd (leN c7 (by omega) (by omega)) (by omega)
    · refine g_aload_0 h dJ7_fill_53178_10 ?_
      refine g_iload_2 h dJ7_fill_53178_11 ?_
      refine g_iload_1 h dJ7_fill_53178_12 ?_
      refine g_iast h i dJ7_fill_53178_13 hs rfl (by omega) ?_
      refine g_iinc_2 h dJ7_fill_53178_14 (inc1 _) (by decide) rfl ?_
      refine g_goto h 5 dJ7_fill_53178_17 rfl ?_
      refine ih (i + 1) _ (by omega) (q_I ?_ hQ)
      rw [up2_row, setRow_2, setRow_s]
      congr 1
      funext j
      unfold upd
      by_cases e : j = i
      · subst e
        rw [if_neg (by omega), if_pos rfl, if_pos (by omega)]
      · rw [if_neg e]
        by_cases e2 : i ≤ j ∧ j < n
        · rw [if_pos e2, if_pos (by omega)]
        · rw [if_neg e2, if_neg (by omega)]
set_option maxRecDepth 100000 in
set_option maxHeartbeats 4000000 in
theorem sp_fill {d a n : Nat} (hs : shp a = .inr (0, n)) {x : Int32} {I : MI} {J : MJ} {P : MP} {Q : MI → MJ → MP → Prop} (hQ : Q (setRow I a (flR (I a) x n)) J P) : Sp yJ7_fill_53178 cJ7_fill_53178 4 none (d) [.ref a, .int x] I J P (Qv Q) := by
  intro Γ h
  show VG Γ 0 0 0 [some (.ref a), some (.int x), none, none] [] _ _ _ _
  refine g_iconst h dJ7_fill_53178_0 (v := nI 0) rfl ?_
  refine g_istore_2 h dJ7_fill_53178_1 (by decide) rfl ?_
  refine g_aload_0 h dJ7_fill_53178_2 ?_
  refine g_alen h dJ7_fill_53178_3 hs (by decide) ?_
  refine g_istore_3 h dJ7_fill_53178_4 (by decide) rfl ?_
  exact lp_fill hs h n 0 I (by omega) (q_I (by congr 1; funext j; simp [flR]) hQ)
set_option maxRecDepth 100000 in
set_option maxHeartbeats 4000000 in
theorem sp_X5_copyFrom {d : Nat} {I : MI} {J : MJ} {P : MP} (hT : P 20 0 = some 36) {Q : MI → MJ → MP → Prop} (hQ : ∀ I', (∀ j, (j = 1 ∨ j = 2 ∨ j = 3) → I' 28 j = I 20 j) → (∀ k j, 1 ≤ k → k ≤ 4 → j < 16 → I' (28 + k) j = I (20 + k) j) → (∀ j, j < 6 → I' 33 j = I 25 j) → (∀ j, j < 5 → I' 34 j = I 26 j) → (∀ j, j < 5 → I' 35 j = I 27 j) → (∀ a, ¬ (28 ≤ a ∧ a < 36) → I' a = I a) → Q I' J (up2 P 28 0 (some 36))) : Sp yX5_copyFrom cX5_copyFrom 2 none (d + 1) [.ref 28, .ref 20] I J P (Qv Q) := by
  intro Γ h
  show VG Γ 0 0 0 [some (.ref 28), some (.ref 20)] [] _ _ _ _
  refine g_aload_0 h dX5_copyFrom_0 ?_
  refine g_aload_1 h dX5_copyFrom_1 ?_
  refine g_getP h fl_X5_43 dX5_copyFrom_2 rfl rfl hT ?_
  refine g_putP h fp_X5_43 dX5_copyFrom_5 rfl rfl ?_
  refine g_aload_0 h dX5_copyFrom_8 ?_
  refine g_aload_1 h dX5_copyFrom_9 ?_
  refine g_getI h fl_X5_7 dX5_copyFrom_10 rfl rfl ?_
  refine g_putI h fp_X5_7 dX5_copyFrom_13 rfl rfl ?_
  refine g_aload_0 h dX5_copyFrom_16 ?_
  refine g_aload_1 h dX5_copyFrom_17 ?_
  refine g_getI h fl_X5_13 dX5_copyFrom_18 rfl rfl ?_
  refine g_putI h fp_X5_13 dX5_copyFrom_21 rfl rfl ?_
  refine g_aload_0 h dX5_copyFrom_24 ?_
  refine g_aload_1 h dX5_copyFrom_25 ?_
  refine g_getI h fl_X5_16 dX5_copyFrom_26 rfl rfl ?_
  refine g_putI h fp_X5_16 dX5_copyFrom_29 rfl rfl ?_
  refine g_aload_1 h dX5_copyFrom_32 ?_
  refine g_getC h fl_X5_21 dX5_copyFrom_33 rfl rfl ?_
  refine g_iconst h dX5_copyFrom_36 (v := nI 0) rfl ?_
  refine g_aload_0 h dX5_copyFrom_37 ?_
  refine g_getC h fl_X5_21 dX5_copyFrom_38 rfl rfl ?_
  refine g_iconst h dX5_copyFrom_41 (v := nI 0) rfl ?_
  refine g_bipush h dX5_copyFrom_42 (v := nI 16) rfl ?_
  refine g_copyi h 16 dX5_copyFrom_44 ml_X5_63 rok0 rfl rfl (by decide) (by decide) (Nat.le_of_ble_eq_true rfl) ?_
  refine g_aload_1 h dX5_copyFrom_47 ?_
  refine g_getC h fl_X5_25 dX5_copyFrom_48 rfl rfl ?_
  refine g_iconst h dX5_copyFrom_51 (v := nI 0) rfl ?_
  refine g_aload_0 h dX5_copyFrom_52 ?_
  refine g_getC h fl_X5_25 dX5_copyFrom_53 rfl rfl ?_
  refine g_iconst h dX5_copyFrom_56 (v := nI 0) rfl ?_
  refine g_bipush h dX5_copyFrom_57 (v := nI 16) rfl ?_
  refine g_copyi h 16 dX5_copyFrom_59 ml_X5_63 rok0 rfl rfl (by decide) (by decide) (Nat.le_of_ble_eq_true rfl) ?_
  refine g_aload_1 h dX5_copyFrom_62 ?_
  refine g_getC h fl_X5_28 dX5_copyFrom_63 rfl rfl ?_
  refine g_iconst h dX5_copyFrom_66 (v := nI 0) rfl ?_
  refine g_aload_0 h dX5_copyFrom_67 ?_
  refine g_getC h fl_X5_28 dX5_copyFrom_68 rfl rfl ?_
  refine g_iconst h dX5_copyFrom_71 (v := nI 0) rfl ?_
  refine g_bipush h dX5_copyFrom_72 (v := nI 16) rfl ?_
  refine g_copyi h 16 dX5_copyFrom_74 ml_X5_63 rok0 rfl rfl (by decide) (by decide) (Nat.le_of_ble_eq_true rfl) ?_
  refine g_aload_1 h dX5_copyFrom_77 ?_
  refine g_getC h fl_X5_31 dX5_copyFrom_78 rfl rfl ?_
  refine g_iconst h dX5_copyFrom_81 (v := nI 0) rfl ?_
  refine g_aload_0 h dX5_copyFrom_82 ?_
  refine g_getC h fl_X5_31 dX5_copyFrom_83 rfl rfl ?_
  refine g_iconst h dX5_copyFrom_86 (v := nI 0) rfl ?_
  refine g_bipush h dX5_copyFrom_87 (v := nI 16) rfl ?_
  refine g_copyi h 16 dX5_copyFrom_89 ml_X5_63 rok0 rfl rfl (by decide) (by decide) (Nat.le_of_ble_eq_true rfl) ?_
  refine g_aload_1 h dX5_copyFrom_92 ?_
  refine g_getC h fl_X5_34 dX5_copyFrom_93 rfl rfl ?_
  refine g_iconst h dX5_copyFrom_96 (v := nI 0) rfl ?_
  refine g_aload_0 h dX5_copyFrom_97 ?_
  refine g_getC h fl_X5_34 dX5_copyFrom_98 rfl rfl ?_
  refine g_iconst h dX5_copyFrom_101 (v := nI 0) rfl ?_
  refine g_bipush h dX5_copyFrom_102 (v := nI 6) rfl ?_
  refine g_copyi h 6 dX5_copyFrom_104 ml_X5_63 rok0 rfl rfl (by decide) (by decide) (Nat.le_of_ble_eq_true rfl) ?_
  refine g_aload_1 h dX5_copyFrom_107 ?_
  refine g_getC h fl_X5_37 dX5_copyFrom_108 rfl rfl ?_
  refine g_iconst h dX5_copyFrom_111 (v := nI 0) rfl ?_
  refine g_aload_0 h dX5_copyFrom_112 ?_
  refine g_getC h fl_X5_37 dX5_copyFrom_113 rfl rfl ?_
  refine g_iconst h dX5_copyFrom_116 (v := nI 0) rfl ?_
  refine g_iconst h dX5_copyFrom_117 (v := nI 5) rfl ?_
  refine g_copyi h 5 dX5_copyFrom_118 ml_X5_63 rok0 rfl rfl (by decide) (by decide) (Nat.le_of_ble_eq_true rfl) ?_
  refine g_aload_1 h dX5_copyFrom_121 ?_
  refine g_getC h fl_X5_40 dX5_copyFrom_122 rfl rfl ?_
  refine g_iconst h dX5_copyFrom_125 (v := nI 0) rfl ?_
  refine g_aload_0 h dX5_copyFrom_126 ?_
  refine g_getC h fl_X5_40 dX5_copyFrom_127 rfl rfl ?_
  refine g_iconst h dX5_copyFrom_130 (v := nI 0) rfl ?_
  refine g_iconst h dX5_copyFrom_131 (v := nI 5) rfl ?_
  refine g_copyi h 5 dX5_copyFrom_132 ml_X5_63 rok0 rfl rfl (by decide) (by decide) (Nat.le_of_ble_eq_true rfl) ?_
  refine g_vret h dX5_copyFrom_135 ?_
  refine hQ _ ?_ ?_ ?_ ?_ ?_ ?_
  · intro j hj
    simp only [up2_row]
    rcases hj with rfl | rfl | rfl <;> simp [setRow, upd]
  · intro k j h1 h2 h3
    simp only [up2_row]
    rcases (show k = 1 ∨ k = 2 ∨ k = 3 ∨ k = 4 by omega) with rfl | rfl | rfl | rfl <;> simp [setRow, cpy_in h3]
  · intro j hj
    simp only [up2_row]
    simp [setRow, cpy_in hj]
  · intro j hj
    simp only [up2_row]
    simp [setRow, cpy_in hj]
  · intro j hj
    simp only [up2_row]
    simp [setRow, cpy_in hj]
  · intro a ha
    simp only [up2_row]
    simp [setRow, show ¬ a = 28 by omega, show ¬ a = 29 by omega, show ¬ a = 30 by omega, show ¬ a = 31 by omega, show ¬ a = 32 by omega, show ¬ a = 33 by omega, show ¬ a = 34 by omega, show ¬ a = 35 by omega]
def tieI (I : MI) (N i : Nat) (x : Int32) : MI := setRow (setRow I 23 (upd (I 23) i x)) 24 (aab (I 22) N 4 (nI i) (x - I 23 i) (I 24))
def bgI (N : Nat) : Nat → Nat → MI → MI
  | 0, _, I => I
  | f + 1, i, I => bgI N f (i + 1) (tieI (up2 (up2 I 21 i (I 60 i)) 22 i (I 61 i)) N i (I 62 i))
def bg0 (I : MI) : MI := setRow (setRow (setRow (setRow (setRow (up2 (up2 I 20 2 (nI 0)) 20 3 (nI 0)) 23 (flR (I 23) (nI 0) 16)) 24 (flR (I 24) (nI 0) 16)) 25 (flR (I 25) (nI 0) 6)) 26 (flR (I 26) (nI 0) 5)) 27 (flR (I 27) (nI 0) 5)
set_option maxHeartbeats 4000000 in
theorem lp_X5_begin {Γ : Cx} {d N : Nat} {J : MJ} {P : MP} (hT : P 20 0 = some 58) (hN16 : N ≤ 16) {Q : MI → MJ → MP → Prop} (h : Vc RX5 cX5_begin 3 none (d + 3) Γ) : ∀ (f i : Nat) (I : MI) (hN : I 58 1 = nI N), i + f = N → Q (bgI N f i I) J P → VG Γ 0 0 57 [some (.ref 20), some (.ref 58), some (.int (nI i))] [] I J P (Fnl Γ (Qv Q)) := by
  intro f
  induction f with
  | zero =>
    intro i I hN hi hQ
    refine g_iload_2 h dX5_begin_57 ?_
    refine g_aload_1 h dX5_begin_58 ?_
    refine g_getI h fl_X5_53 dX5_begin_59 rfl rfl ?_
    refine g_icmp_ge h 106 dX5_begin_62 rfl (fun c62 => ?_) (fun c62 => ?_)
    · refine g_vret h dX5_begin_106 ?_
      exact hQ
    · exact absurd (by rw [hN]; exact nI_le (by omega) (by omega)) c62
  | succ f ih =>
    intro i I hN hi hQ
    refine g_iload_2 h dX5_begin_57 ?_
    refine g_aload_1 h dX5_begin_58 ?_
    refine g_getI h fl_X5_53 dX5_begin_59 rfl rfl ?_
    refine g_icmp_ge h 106 dX5_begin_62 rfl (fun c62 => ?_) (fun c62 => ?_)
    · exact absurd (leN (by simpa only [hN] using c62) (by omega) (by omega)) (by omega)
    · refine g_aload_0 h dX5_begin_65 ?_
      refine g_getC h fl_X5_21 dX5_begin_66 rfl rfl ?_
      refine g_iload_2 h dX5_begin_69 ?_
      refine g_aload_1 h dX5_begin_70 ?_
      refine g_getC h fl_X5_56 dX5_begin_71 rfl rfl ?_
      refine g_iload_2 h dX5_begin_74 ?_
      refine g_iald h i dX5_begin_75 rfl rfl (by omega) ?_
      refine g_iast h i dX5_begin_76 rfl rfl (by omega) ?_
      refine g_aload_0 h dX5_begin_77 ?_
      refine g_getC h fl_X5_25 dX5_begin_78 rfl rfl ?_
      refine g_iload_2 h dX5_begin_81 ?_
      refine g_aload_1 h dX5_begin_82 ?_
      refine g_getC h fl_X5_57 dX5_begin_83 rfl rfl ?_
      refine g_iload_2 h dX5_begin_86 ?_
      refine g_iald h i dX5_begin_87 rfl rfl (by omega) ?_
      refine g_iast h i dX5_begin_88 rfl rfl (by omega) ?_
      refine g_aload_0 h dX5_begin_89 ?_
      refine g_iload_2 h dX5_begin_90 ?_
      refine g_aload_1 h dX5_begin_91 ?_
      refine g_getC h fl_X5_58 dX5_begin_92 rfl rfl ?_
      refine g_iload_2 h dX5_begin_95 ?_
      refine g_iald h i dX5_begin_96 rfl rfl (by omega) ?_
      refine g_cVv2 h rok0 mi_X5_tieInto dX5_begin_97 ml_X5_59 rfl rfl rfl (Nat.le_of_ble_eq_true rfl) (Nat.le_of_ble_eq_true rfl) (sp_X5_tieInto_20d hT (by simpa [up2] using hN) hN16 (by omega) ?_)
      refine g_iinc_2 h dX5_begin_100 (inc1 _) (by decide) rfl ?_
      refine g_goto h 57 dX5_begin_103 rfl ?_
      refine ih (i + 1) _ (by simpa [setRow, up2] using hN) (by omega) ?_
      rw [bgI] at hQ
      exact hQ
set_option maxRecDepth 100000 in
set_option maxHeartbeats 4000000 in
theorem sp_X5_begin {d N : Nat} {I : MI} {J : MJ} {P : MP} (hN : I 58 1 = nI N) (hN16 : N ≤ 16) {Q : MI → MJ → MP → Prop} (hQ : Q (bgI N N 0 (bg0 I)) J (up2 P 20 0 (some 58))) : Sp yX5_begin cX5_begin 3 none (d + 3) [.ref 20, .ref 58] I J P (Qv Q) := by
  intro Γ h
  show VG Γ 0 0 0 [some (.ref 20), some (.ref 58), none] [] _ _ _ _
  refine g_aload_0 h dX5_begin_0 ?_
  refine g_aload_1 h dX5_begin_1 ?_
  refine g_putP h fp_X5_43 dX5_begin_2 rfl rfl ?_
  refine g_aload_0 h dX5_begin_5 ?_
  refine g_iconst h dX5_begin_6 (v := nI 0) rfl ?_
  refine g_putI h fp_X5_13 dX5_begin_7 rfl rfl ?_
  refine g_aload_0 h dX5_begin_10 ?_
  refine g_iconst h dX5_begin_11 (v := nI 0) rfl ?_
  refine g_putI h fp_X5_16 dX5_begin_12 rfl rfl ?_
  refine g_aload_0 h dX5_begin_15 ?_
  refine g_getC h fl_X5_28 dX5_begin_16 rfl rfl ?_
  refine g_iconst h dX5_begin_19 (v := nI 0) rfl ?_
  refine g_cSv2 h rok0 mi_J7_fill_53178 dX5_begin_20 ml_X5_47 (Nat.le_of_ble_eq_true rfl) (Nat.le_of_ble_eq_true rfl) (sp_fill rfl ?_)
  refine g_aload_0 h dX5_begin_23 ?_
  refine g_getC h fl_X5_31 dX5_begin_24 rfl rfl ?_
  refine g_iconst h dX5_begin_27 (v := nI 0) rfl ?_
  refine g_cSv2 h rok0 mi_J7_fill_53178 dX5_begin_28 ml_X5_47 (Nat.le_of_ble_eq_true rfl) (Nat.le_of_ble_eq_true rfl) (sp_fill rfl ?_)
  refine g_aload_0 h dX5_begin_31 ?_
  refine g_getC h fl_X5_34 dX5_begin_32 rfl rfl ?_
  refine g_iconst h dX5_begin_35 (v := nI 0) rfl ?_
  refine g_cSv2 h rok0 mi_J7_fill_53178 dX5_begin_36 ml_X5_47 (Nat.le_of_ble_eq_true rfl) (Nat.le_of_ble_eq_true rfl) (sp_fill rfl ?_)
  refine g_aload_0 h dX5_begin_39 ?_
  refine g_getC h fl_X5_37 dX5_begin_40 rfl rfl ?_
  refine g_iconst h dX5_begin_43 (v := nI 0) rfl ?_
  refine g_cSv2 h rok0 mi_J7_fill_53178 dX5_begin_44 ml_X5_47 (Nat.le_of_ble_eq_true rfl) (Nat.le_of_ble_eq_true rfl) (sp_fill rfl ?_)
  refine g_aload_0 h dX5_begin_47 ?_
  refine g_getC h fl_X5_40 dX5_begin_48 rfl rfl ?_
  refine g_iconst h dX5_begin_51 (v := nI 0) rfl ?_
  refine g_cSv2 h rok0 mi_J7_fill_53178 dX5_begin_52 ml_X5_47 (Nat.le_of_ble_eq_true rfl) (Nat.le_of_ble_eq_true rfl) (sp_fill rfl ?_)
  refine g_iconst h dX5_begin_55 (v := nI 0) rfl ?_
  refine g_istore_2 h dX5_begin_56 (by decide) rfl ?_
  refine lp_X5_begin (by simp [up2]) hN16 h N 0 _ (by simpa [setRow, up2] using hN) (by omega) ?_
  have e : ∀ a, a ≠ 20 → up2 (up2 I 20 2 (nI 0)) 20 3 (nI 0) a = I a := fun a ha => by rw [up2_o ha, up2_o ha]
  simp only [setRow_o (show (24 : Nat) ≠ 23 by decide), setRow_o (show (25 : Nat) ≠ 24 by decide), setRow_o (show (25 : Nat) ≠ 23 by decide), setRow_o (show (26 : Nat) ≠ 25 by decide), setRow_o (show (26 : Nat) ≠ 24 by decide), setRow_o (show (26 : Nat) ≠ 23 by decide), setRow_o (show (27 : Nat) ≠ 26 by decide), setRow_o (show (27 : Nat) ≠ 25 by decide), setRow_o (show (27 : Nat) ≠ 24 by decide), setRow_o (show (27 : Nat) ≠ 23 by decide), e 23 (by decide), e 24 (by decide), e 25 (by decide), e 26 (by decide), e 27 (by decide)]
  exact hQ
