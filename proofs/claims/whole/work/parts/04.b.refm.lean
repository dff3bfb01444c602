/-! The reference: months -/
def bv (I : MI) : MI := fun k => I (93 + k)
def zR (B : MI) (a : Nat) : Nat := ix (B 5 (9 * a))
def chn (u : Nat → Int32) (N : Nat) : Nat → Int32 → Prop
  | 0, c => c = -1
  | f + 1, c => c = -1 ∨ ∃ j, j < N ∧ c = nI j ∧ chn u N f (u j)
def bkOK (B : MI) : Prop := (B 0 0 = nI (nC B) ∧ nC B ≤ 6) ∧ (B 0 1 = nI (nN B) ∧ nN B ≤ 16) ∧ (B 0 2 = nI (nT B) ∧ nT B ≤ 6) ∧ (B 0 3 = nI (nK B) ∧ nK B ≤ 5) ∧ (B 0 4 = nI (nO B) ∧ nO B ≤ 20) ∧ (∀ a, a < nT B → B 5 (9 * a) = nI (zR B a) ∧ zR B a ≤ 8 ∧ ∀ n, n < zR B a → ∃ j, j < nN B ∧ B 5 (9 * a + 1 + n) = nI j) ∧ (∀ k, k < nN B → chn (B 3) (nN B) 4 (nI k)) ∧ (∀ k, k < nN B → tal (B 3) (nN B) 4 k) ∧ (∀ k, k < nN B → ∃ j, j < nC B ∧ B 2 k = nI j)
theorem bk_C {I : MI} (h : bkOK (bv I)) : I 93 0 = nI (nC (bv I)) ∧ nC (bv I) ≤ 6 := h.1
theorem bk_N {I : MI} (h : bkOK (bv I)) : I 93 1 = nI (nN (bv I)) ∧ nN (bv I) ≤ 16 := h.2.1
theorem bk_T {I : MI} (h : bkOK (bv I)) : I 93 2 = nI (nT (bv I)) ∧ nT (bv I) ≤ 6 := h.2.2.1
theorem bk_K {I : MI} (h : bkOK (bv I)) : I 93 3 = nI (nK (bv I)) ∧ nK (bv I) ≤ 5 := h.2.2.2.1
theorem bk_O {I : MI} (h : bkOK (bv I)) : I 93 4 = nI (nO (bv I)) ∧ nO (bv I) ≤ 20 := h.2.2.2.2.1
theorem bk_Z {I : MI} (h : bkOK (bv I)) : ∀ a, a < nT (bv I) → I 98 (9 * a) = nI (zR (bv I) a) ∧ zR (bv I) a ≤ 8 ∧ ∀ n, n < zR (bv I) a → ∃ j, j < nN (bv I) ∧ I 98 (9 * a + 1 + n) = nI j := h.2.2.2.2.2.1
theorem bk_c {I : MI} (h : bkOK (bv I)) : ∀ k, k < nN (bv I) → chn (I 96) (nN (bv I)) 4 (nI k) := h.2.2.2.2.2.2.1
theorem bk_t {I : MI} (h : bkOK (bv I)) : ∀ k, k < nN (bv I) → tal (I 96) (nN (bv I)) 4 k := h.2.2.2.2.2.2.2.1
theorem bk_d {I : MI} (h : bkOK (bv I)) : ∀ k, k < nN (bv I) → ∃ j, j < nC (bv I) ∧ I 95 k = nI j := h.2.2.2.2.2.2.2.2
def dueB (B : MI) (row : Nat → Int32) (a : Nat) : Int32 := dueR (B 3) row (B 5) (nN B) a (zR B a)
abbrev EX : Type := (Nat → Int32 → Int32) → Int32
def evR (B : MI) (row : Nat → Int32) (k : Nat) (x : Int32) : Int32 := if k = 16 then row 0 else if k = 17 then row (3 + ix x) else if k = 18 then smR (B 3) (rv row) (nN B) 4 (ix x) else if k = 19 then knR (row (3 + ix x)) else if k = 20 then row (19 + ix x) else if k = 21 then row (25 + ix x) else b2i (wrgB (row (19 + ix x)) (dueB B row (ix x)))
def arK (k c : Nat) : Prop := (k = 36 ∧ c = 43) ∨ (k = 37 ∧ c = 45) ∨ (k = 38 ∧ c = 42) ∨ (k = 39 ∧ c = 47) ∨ (k = 26 ∧ c = 26) ∨ (k = 27 ∧ c = 27)
def tsK (k c : Nat) : Prop := (k = 40 ∧ c = 60) ∨ (k = 41 ∧ c = 62) ∨ (k = 42 ∧ c = 61) ∨ (k = 43 ∧ c = 108) ∨ (k = 44 ∧ c = 103)
def dn (B : MI) : Nat → Bool → Nat → EX → Prop
  | 0, _, _, _ => False
  | f + 1, s, n, E => n < 401 ∧ (if s then
      (B 8 n = nI 35 ∧ E = fun _ => B 9 n) ∨ (B 8 n = nI 16 ∧ E = fun e => e 16 (nI 0)) ∨
      (∃ k j, 17 ≤ k ∧ k ≤ 21 ∧ B 8 n = nI k ∧ B 9 n = nI j ∧ j < (if k ≤ 19 then nN B else if k = 20 then nT B else nK B) ∧ E = fun e => e k (nI j)) ∨
      (∃ j E1, B 8 n = nI 110 ∧ B 9 n = nI j ∧ dn B f true j E1 ∧ E = fun e => -(E1 e)) ∨
      (∃ k c i j E1 E2, arK k c ∧ B 8 n = nI c ∧ B 9 n = nI i ∧ B 10 n = nI j ∧ dn B f true i E1 ∧ dn B f true j E2 ∧ E = fun e => joF k (E1 e) (E2 e))
    else
      (∃ j, B 8 n = nI 22 ∧ B 9 n = nI j ∧ j < nT B ∧ E = fun e => e 22 (nI j)) ∨
      (∃ j E1, B 8 n = nI 23 ∧ B 9 n = nI j ∧ dn B f false j E1 ∧ E = fun e => nI 1 - E1 e) ∨
      (∃ k i j E1 E2, (k = 24 ∨ k = 25) ∧ B 8 n = nI k ∧ B 9 n = nI i ∧ B 10 n = nI j ∧ dn B f false i E1 ∧ dn B f false j E2 ∧ E = fun e => joF k (E1 e) (E2 e)) ∨
      (∃ k c i j E1 E2, tsK k c ∧ B 8 n = nI c ∧ B 9 n = nI i ∧ B 10 n = nI j ∧ dn B f true i E1 ∧ dn B f true j E2 ∧ E = fun e => joF k (E1 e) (E2 e)))
theorem i32_divm1 (a : Int32) : a / -1 = -a := by
  apply Int32.toInt_inj.mp
  rw [Int32.toInt_div, show (-1 : Int32).toInt = -1 from by decide, Int32.toInt_neg, Int.tdiv_neg, Int.tdiv_one]
theorem ptR_jo (l r : Int32) : ptR l r = joF 39 l r := by
  show (if r = 0 then nI 0 else if r = -1 then -l else l / r) = (if r = 0 then nI 0 else l / r)
  by_cases h : r = 0
  · rw [if_pos h, if_pos h]
  · rw [if_neg h, if_neg h]
    by_cases h1 : r = -1
    · rw [if_pos h1, h1, i32_divm1]
    · rw [if_neg h1]
theorem dn_bool {B : MI} {ev : Nat → Int32 → Int32} (he : ∀ x, ∃ b, ev 22 x = b2i b) : ∀ (f n : Nat) (E : EX), dn B f false n E → ∃ b, E ev = b2i b := by
  intro f
  induction f with
  | zero => exact fun n E h => absurd h id
  | succ f ih =>
    intro n E h
    obtain ⟨-, h⟩ := h
    rw [if_neg (by decide)] at h
    rcases h with ⟨j, -, -, -, rfl⟩ | ⟨j, E1, -, -, h1, rfl⟩ | ⟨k, i, j, E1, E2, hk, -, -, -, h1, h2, rfl⟩ | ⟨k, c, i, j, E1, E2, hk, -, -, -, -, -, rfl⟩
    · exact he _
    · obtain ⟨b, e⟩ := ih _ _ h1
      exact ⟨!b, by show nI 1 - E1 ev = _; rw [e]; cases b <;> decide⟩
    · obtain ⟨b, e⟩ := ih _ _ h1
      obtain ⟨b', e'⟩ := ih _ _ h2
      rcases hk with rfl | rfl
      · exact ⟨b && b', by show E1 ev &&& E2 ev = _; rw [e, e']; cases b <;> cases b' <;> decide⟩
      · exact ⟨b || b', by show E1 ev ||| E2 ev = _; rw [e, e']; cases b <;> cases b' <;> decide⟩
    · rcases hk with ⟨rfl, -⟩ | ⟨rfl, -⟩ | ⟨rfl, -⟩ | ⟨rfl, -⟩ | ⟨rfl, -⟩ <;> exact ⟨_, rfl⟩
theorem evR_b (B : MI) (row : Nat → Int32) (x : Int32) : ∃ b, evR B row 22 x = b2i b := ⟨_, rfl⟩
set_option maxRecDepth 100000 in
set_option maxHeartbeats 8000000 in
theorem sp_X12_reckon {r : Nat} (hr : r = 91 ∨ r = 92) {I : MI} {J : MJ} {P : MP} (hB : P 80 8 = some 93) (hK : bkOK (bv I)) : ∀ (f d n : Nat) (E : EX), dn (bv I) f true n E → ∀ {Q : Int32 → MI → MJ → MP → Prop}, Q (E (evR (bv I) (I r))) I J P → Sp yX12_reckon cX12_reckon 5 (some .int) (d + f + 6) [.ref 80, .int (nI n), .ref r] I J P (Qi Q) := by
  have hN := (bk_N hK).1
  have hN16 := (bk_N hK).2
  have hT := bk_T hK
  have hKe := bk_K hK
  have ht := bk_t hK
  intro f
  induction f with
  | zero => exact fun d n E h => absurd h id
  | succ f ih =>
    intro d n E hd Q hQ Γ h
    show VG Γ 0 0 0 [some (.ref 80), some (.int (nI n)), some (.ref r), none, none] [] _ _ _ _
    obtain ⟨hn, hd⟩ := hd
    rw [if_pos rfl] at hd
    rcases hd with ⟨ho, rfl⟩ | ⟨ho, rfl⟩ | ⟨k, j, k1, k2, ho, ha, hj, rfl⟩ | ⟨j, E1, ho, ha, h1, rfl⟩ | ⟨k, c, i, j, E1, E2, hkc, ho, ha, hb, h1, h2, rfl⟩
    · refine g_aload_0 h dX12_reckon_0 ?_
      refine g_getP h fl_X12_87 dX12_reckon_1 rfl rfl (by assumption) ?_
      refine g_getC h fl_X12_293 dX12_reckon_4 rfl rfl ?_
      refine g_iload_1 h dX12_reckon_7 ?_
      refine g_iald h n dX12_reckon_8 rfl rfl (by omega) ?_
      refine g_istore_3 h dX12_reckon_9 (by decide) rfl ?_
      refine g_aload_0 h dX12_reckon_10 ?_
      refine g_getP h fl_X12_87 dX12_reckon_11 rfl rfl (by assumption) ?_
      refine g_getC h fl_X12_295 dX12_reckon_14 rfl rfl ?_
      refine g_iload_1 h dX12_reckon_17 ?_
      refine g_iald h n dX12_reckon_18 rfl rfl (by omega) ?_
      refine g_istore_4 h dX12_reckon_19 (by decide) rfl ?_
      refine g_aload_0 h dX12_reckon_21 ?_
      refine g_getP h fl_X12_87 dX12_reckon_22 rfl rfl (by assumption) ?_
      refine g_getC h fl_X12_298 dX12_reckon_25 rfl rfl ?_
      refine g_iload_1 h dX12_reckon_28 ?_
      refine g_iald h n dX12_reckon_29 rfl rfl (by omega) ?_
      rw [show I 101 n = nI 35 from ho]
      · refine g_lkup h 144 dX12_reckon_30 (by decide) rfl rfl ?_
        refine g_iload_3 h dX12_reckon_144 ?_
        refine g_iret h dX12_reckon_145 ?_
        exact hQ
    · refine g_aload_0 h dX12_reckon_0 ?_
      refine g_getP h fl_X12_87 dX12_reckon_1 rfl rfl (by assumption) ?_
      refine g_getC h fl_X12_293 dX12_reckon_4 rfl rfl ?_
      refine g_iload_1 h dX12_reckon_7 ?_
      refine g_iald h n dX12_reckon_8 rfl rfl (by omega) ?_
      refine g_istore_3 h dX12_reckon_9 (by decide) rfl ?_
      refine g_aload_0 h dX12_reckon_10 ?_
      refine g_getP h fl_X12_87 dX12_reckon_11 rfl rfl (by assumption) ?_
      refine g_getC h fl_X12_295 dX12_reckon_14 rfl rfl ?_
      refine g_iload_1 h dX12_reckon_17 ?_
      refine g_iald h n dX12_reckon_18 rfl rfl (by omega) ?_
      refine g_istore_4 h dX12_reckon_19 (by decide) rfl ?_
      refine g_aload_0 h dX12_reckon_21 ?_
      refine g_getP h fl_X12_87 dX12_reckon_22 rfl rfl (by assumption) ?_
      refine g_getC h fl_X12_298 dX12_reckon_25 rfl rfl ?_
      refine g_iload_1 h dX12_reckon_28 ?_
      refine g_iald h n dX12_reckon_29 rfl rfl (by omega) ?_
      rw [show I 101 n = nI 16 from ho]
      · refine g_lkup h 146 dX12_reckon_30 (by decide) rfl rfl ?_
        refine g_aload_2 h dX12_reckon_146 ?_
        refine g_iconst h dX12_reckon_147 (v := nI 0) rfl ?_
        refine g_iald h 0 dX12_reckon_148 (shpR hr) rfl (by omega) ?_
        refine g_iret h dX12_reckon_149 ?_
        exact hQ
    · rcases (show k = 17 ∨ k = 18 ∨ k = 19 ∨ k = 20 ∨ k = 21 by omega) with rfl | rfl | rfl | rfl | rfl
      · have hj : j < nN (bv I) := by simpa using hj
        refine g_aload_0 h dX12_reckon_0 ?_
        refine g_getP h fl_X12_87 dX12_reckon_1 rfl rfl (by assumption) ?_
        refine g_getC h fl_X12_293 dX12_reckon_4 rfl rfl ?_
        refine g_iload_1 h dX12_reckon_7 ?_
        refine g_iald h n dX12_reckon_8 rfl rfl (by omega) ?_
        rw [show I 102 n = nI j from ha]
        refine g_istore_3 h dX12_reckon_9 (by decide) rfl ?_
        refine g_aload_0 h dX12_reckon_10 ?_
        refine g_getP h fl_X12_87 dX12_reckon_11 rfl rfl (by assumption) ?_
        refine g_getC h fl_X12_295 dX12_reckon_14 rfl rfl ?_
        refine g_iload_1 h dX12_reckon_17 ?_
        refine g_iald h n dX12_reckon_18 rfl rfl (by omega) ?_
        refine g_istore_4 h dX12_reckon_19 (by decide) rfl ?_
        refine g_aload_0 h dX12_reckon_21 ?_
        refine g_getP h fl_X12_87 dX12_reckon_22 rfl rfl (by assumption) ?_
        refine g_getC h fl_X12_298 dX12_reckon_25 rfl rfl ?_
        refine g_iload_1 h dX12_reckon_28 ?_
        refine g_iald h n dX12_reckon_29 rfl rfl (by omega) ?_
        rw [show I 101 n = nI 17 from ho]
        · refine g_lkup h 150 dX12_reckon_30 (by decide) rfl rfl ?_
          refine g_aload_2 h dX12_reckon_150 ?_
          refine g_iconst h dX12_reckon_151 (v := nI 3) rfl ?_
          refine g_iload_3 h dX12_reckon_152 ?_
          refine g_iadd h dX12_reckon_153 ?_
          refine g_iald h (3 + j) dX12_reckon_154 (shpR hr) (nI_add 3 j) (by omega) ?_
          refine g_iret h dX12_reckon_155 ?_
          exact q_i (by show _ = evR (bv I) (I r) 17 (nI j); simp only [evR]; rw [ix_n (by omega)]; rfl) hQ
      · have hj : j < nN (bv I) := by simpa using hj
        refine g_aload_0 h dX12_reckon_0 ?_
        refine g_getP h fl_X12_87 dX12_reckon_1 rfl rfl (by assumption) ?_
        refine g_getC h fl_X12_293 dX12_reckon_4 rfl rfl ?_
        refine g_iload_1 h dX12_reckon_7 ?_
        refine g_iald h n dX12_reckon_8 rfl rfl (by omega) ?_
        rw [show I 102 n = nI j from ha]
        refine g_istore_3 h dX12_reckon_9 (by decide) rfl ?_
        refine g_aload_0 h dX12_reckon_10 ?_
        refine g_getP h fl_X12_87 dX12_reckon_11 rfl rfl (by assumption) ?_
        refine g_getC h fl_X12_295 dX12_reckon_14 rfl rfl ?_
        refine g_iload_1 h dX12_reckon_17 ?_
        refine g_iald h n dX12_reckon_18 rfl rfl (by omega) ?_
        refine g_istore_4 h dX12_reckon_19 (by decide) rfl ?_
        refine g_aload_0 h dX12_reckon_21 ?_
        refine g_getP h fl_X12_87 dX12_reckon_22 rfl rfl (by assumption) ?_
        refine g_getC h fl_X12_298 dX12_reckon_25 rfl rfl ?_
        refine g_iload_1 h dX12_reckon_28 ?_
        refine g_iald h n dX12_reckon_29 rfl rfl (by omega) ?_
        rw [show I 101 n = nI 18 from ho]
        · refine g_lkup h 156 dX12_reckon_30 (by decide) rfl rfl ?_
          refine g_aload_0 h dX12_reckon_156 ?_
          refine g_aload_2 h dX12_reckon_157 ?_
          refine g_iload_3 h dX12_reckon_158 ?_
          refine g_cVi2 h rok0 mi_X12_sumOf dX12_reckon_159 ml_X12_287 rfl rfl rfl (Nat.le_of_ble_eq_true rfl) (Nat.le_of_ble_eq_true rfl) (sp_X12_sumOf hr hB hN hN16 4 (d + f + 2) _ (by omega) (ht _ hj) ?_)
          refine g_iret h dX12_reckon_162 ?_
          exact q_i (by show _ = evR (bv I) (I r) 18 (nI j); simp only [evR]; rw [ix_n (by omega)]; rfl) hQ
      · have hj : j < nN (bv I) := by simpa using hj
        refine g_aload_0 h dX12_reckon_0 ?_
        refine g_getP h fl_X12_87 dX12_reckon_1 rfl rfl (by assumption) ?_
        refine g_getC h fl_X12_293 dX12_reckon_4 rfl rfl ?_
        refine g_iload_1 h dX12_reckon_7 ?_
        refine g_iald h n dX12_reckon_8 rfl rfl (by omega) ?_
        rw [show I 102 n = nI j from ha]
        refine g_istore_3 h dX12_reckon_9 (by decide) rfl ?_
        refine g_aload_0 h dX12_reckon_10 ?_
        refine g_getP h fl_X12_87 dX12_reckon_11 rfl rfl (by assumption) ?_
        refine g_getC h fl_X12_295 dX12_reckon_14 rfl rfl ?_
        refine g_iload_1 h dX12_reckon_17 ?_
        refine g_iald h n dX12_reckon_18 rfl rfl (by omega) ?_
        refine g_istore_4 h dX12_reckon_19 (by decide) rfl ?_
        refine g_aload_0 h dX12_reckon_21 ?_
        refine g_getP h fl_X12_87 dX12_reckon_22 rfl rfl (by assumption) ?_
        refine g_getC h fl_X12_298 dX12_reckon_25 rfl rfl ?_
        refine g_iload_1 h dX12_reckon_28 ?_
        refine g_iald h n dX12_reckon_29 rfl rfl (by omega) ?_
        rw [show I 101 n = nI 19 from ho]
        · refine g_lkup h 163 dX12_reckon_30 (by decide) rfl rfl ?_
          refine g_aload_2 h dX12_reckon_163 ?_
          refine g_iconst h dX12_reckon_164 (v := nI 3) rfl ?_
          refine g_iload_3 h dX12_reckon_165 ?_
          refine g_iadd h dX12_reckon_166 ?_
          refine g_iald h (3 + j) dX12_reckon_167 (shpR hr) (nI_add 3 j) (by omega) ?_
          refine g_cSi1 h rok0 mi_X12_knots dX12_reckon_168 ml_X12_301 (Nat.le_of_ble_eq_true rfl) (Nat.le_of_ble_eq_true rfl) (sp_X12_knots (d := d + f + 5) ?_)
          refine g_iret h dX12_reckon_171 ?_
          exact q_i (by show _ = evR (bv I) (I r) 19 (nI j); simp only [evR]; rw [ix_n (by omega)]; rfl) hQ
      · have hj : j < nT (bv I) := by simpa using hj
        refine g_aload_0 h dX12_reckon_0 ?_
        refine g_getP h fl_X12_87 dX12_reckon_1 rfl rfl (by assumption) ?_
        refine g_getC h fl_X12_293 dX12_reckon_4 rfl rfl ?_
        refine g_iload_1 h dX12_reckon_7 ?_
        refine g_iald h n dX12_reckon_8 rfl rfl (by omega) ?_
        rw [show I 102 n = nI j from ha]
        refine g_istore_3 h dX12_reckon_9 (by decide) rfl ?_
        refine g_aload_0 h dX12_reckon_10 ?_
        refine g_getP h fl_X12_87 dX12_reckon_11 rfl rfl (by assumption) ?_
        refine g_getC h fl_X12_295 dX12_reckon_14 rfl rfl ?_
        refine g_iload_1 h dX12_reckon_17 ?_
        refine g_iald h n dX12_reckon_18 rfl rfl (by omega) ?_
        refine g_istore_4 h dX12_reckon_19 (by decide) rfl ?_
        refine g_aload_0 h dX12_reckon_21 ?_
        refine g_getP h fl_X12_87 dX12_reckon_22 rfl rfl (by assumption) ?_
        refine g_getC h fl_X12_298 dX12_reckon_25 rfl rfl ?_
        refine g_iload_1 h dX12_reckon_28 ?_
        refine g_iald h n dX12_reckon_29 rfl rfl (by omega) ?_
        rw [show I 101 n = nI 20 from ho]
        · refine g_lkup h 172 dX12_reckon_30 (by decide) rfl rfl ?_
          refine g_aload_2 h dX12_reckon_172 ?_
          refine g_bipush h dX12_reckon_173 (v := nI 19) rfl ?_
          refine g_iload_3 h dX12_reckon_175 ?_
          refine g_iadd h dX12_reckon_176 ?_
          refine g_iald h (19 + j) dX12_reckon_177 (shpR hr) (nI_add 19 j) (by omega) ?_
          refine g_iret h dX12_reckon_178 ?_
          exact q_i (by show _ = evR (bv I) (I r) 20 (nI j); simp only [evR]; rw [ix_n (by omega)]; rfl) hQ
      · have hj : j < nK (bv I) := by simpa using hj
        refine g_aload_0 h dX12_reckon_0 ?_
        refine g_getP h fl_X12_87 dX12_reckon_1 rfl rfl (by assumption) ?_
        refine g_getC h fl_X12_293 dX12_reckon_4 rfl rfl ?_
        refine g_iload_1 h dX12_reckon_7 ?_
        refine g_iald h n dX12_reckon_8 rfl rfl (by omega) ?_
        rw [show I 102 n = nI j from ha]
        refine g_istore_3 h dX12_reckon_9 (by decide) rfl ?_
        refine g_aload_0 h dX12_reckon_10 ?_
        refine g_getP h fl_X12_87 dX12_reckon_11 rfl rfl (by assumption) ?_
        refine g_getC h fl_X12_295 dX12_reckon_14 rfl rfl ?_
        refine g_iload_1 h dX12_reckon_17 ?_
        refine g_iald h n dX12_reckon_18 rfl rfl (by omega) ?_
        refine g_istore_4 h dX12_reckon_19 (by decide) rfl ?_
        refine g_aload_0 h dX12_reckon_21 ?_
        refine g_getP h fl_X12_87 dX12_reckon_22 rfl rfl (by assumption) ?_
        refine g_getC h fl_X12_298 dX12_reckon_25 rfl rfl ?_
        refine g_iload_1 h dX12_reckon_28 ?_
        refine g_iald h n dX12_reckon_29 rfl rfl (by omega) ?_
        rw [show I 101 n = nI 21 from ho]
        · refine g_lkup h 179 dX12_reckon_30 (by decide) rfl rfl ?_
          refine g_aload_2 h dX12_reckon_179 ?_
          refine g_bipush h dX12_reckon_180 (v := nI 25) rfl ?_
          refine g_iload_3 h dX12_reckon_182 ?_
          refine g_iadd h dX12_reckon_183 ?_
          refine g_iald h (25 + j) dX12_reckon_184 (shpR hr) (nI_add 25 j) (by omega) ?_
          refine g_iret h dX12_reckon_185 ?_
          exact q_i (by show _ = evR (bv I) (I r) 21 (nI j); simp only [evR]; rw [ix_n (by omega)]; rfl) hQ
    · refine g_aload_0 h dX12_reckon_0 ?_
      refine g_getP h fl_X12_87 dX12_reckon_1 rfl rfl (by assumption) ?_
      refine g_getC h fl_X12_293 dX12_reckon_4 rfl rfl ?_
      refine g_iload_1 h dX12_reckon_7 ?_
      refine g_iald h n dX12_reckon_8 rfl rfl (by omega) ?_
      rw [show I 102 n = nI j from ha]
      refine g_istore_3 h dX12_reckon_9 (by decide) rfl ?_
      refine g_aload_0 h dX12_reckon_10 ?_
      refine g_getP h fl_X12_87 dX12_reckon_11 rfl rfl (by assumption) ?_
      refine g_getC h fl_X12_295 dX12_reckon_14 rfl rfl ?_
      refine g_iload_1 h dX12_reckon_17 ?_
      refine g_iald h n dX12_reckon_18 rfl rfl (by omega) ?_
      refine g_istore_4 h dX12_reckon_19 (by decide) rfl ?_
      refine g_aload_0 h dX12_reckon_21 ?_
      refine g_getP h fl_X12_87 dX12_reckon_22 rfl rfl (by assumption) ?_
      refine g_getC h fl_X12_298 dX12_reckon_25 rfl rfl ?_
      refine g_iload_1 h dX12_reckon_28 ?_
      refine g_iald h n dX12_reckon_29 rfl rfl (by omega) ?_
      rw [show I 101 n = nI 110 from ho]
      · refine g_lkup h 186 dX12_reckon_30 (by decide) rfl rfl ?_
        refine g_aload_0 h dX12_reckon_186 ?_
        refine g_iload_3 h dX12_reckon_187 ?_
        refine g_aload_2 h dX12_reckon_188 ?_
        refine g_cVi2 h rok0 mi_X12_reckon dX12_reckon_189 ml_X12_304 rfl rfl rfl (Nat.le_of_ble_eq_true rfl) (Nat.le_of_ble_eq_true rfl) (ih _ _ _ h1 ?_)
        refine g_ineg h dX12_reckon_192 ?_
        refine g_iret h dX12_reckon_193 ?_
        exact hQ
    · rcases hkc with ⟨rfl, rfl⟩ | ⟨rfl, rfl⟩ | ⟨rfl, rfl⟩ | ⟨rfl, rfl⟩ | ⟨rfl, rfl⟩ | ⟨rfl, rfl⟩
      · refine g_aload_0 h dX12_reckon_0 ?_
        refine g_getP h fl_X12_87 dX12_reckon_1 rfl rfl (by assumption) ?_
        refine g_getC h fl_X12_293 dX12_reckon_4 rfl rfl ?_
        refine g_iload_1 h dX12_reckon_7 ?_
        refine g_iald h n dX12_reckon_8 rfl rfl (by omega) ?_
        rw [show I 102 n = nI i from ha]
        refine g_istore_3 h dX12_reckon_9 (by decide) rfl ?_
        refine g_aload_0 h dX12_reckon_10 ?_
        refine g_getP h fl_X12_87 dX12_reckon_11 rfl rfl (by assumption) ?_
        refine g_getC h fl_X12_295 dX12_reckon_14 rfl rfl ?_
        refine g_iload_1 h dX12_reckon_17 ?_
        refine g_iald h n dX12_reckon_18 rfl rfl (by omega) ?_
        rw [show I 103 n = nI j from hb]
        refine g_istore_4 h dX12_reckon_19 (by decide) rfl ?_
        refine g_aload_0 h dX12_reckon_21 ?_
        refine g_getP h fl_X12_87 dX12_reckon_22 rfl rfl (by assumption) ?_
        refine g_getC h fl_X12_298 dX12_reckon_25 rfl rfl ?_
        refine g_iload_1 h dX12_reckon_28 ?_
        refine g_iald h n dX12_reckon_29 rfl rfl (by omega) ?_
        rw [show I 101 n = nI 43 from ho]
        · refine g_lkup h 275 dX12_reckon_30 (by decide) rfl rfl ?_
          refine g_aload_0 h dX12_reckon_275 ?_
          refine g_iload_3 h dX12_reckon_276 ?_
          refine g_aload_2 h dX12_reckon_277 ?_
          refine g_cVi2 h rok0 mi_X12_reckon dX12_reckon_278 ml_X12_304 rfl rfl rfl (Nat.le_of_ble_eq_true rfl) (Nat.le_of_ble_eq_true rfl) (ih _ _ _ h1 ?_)
          refine g_aload_0 h dX12_reckon_281 ?_
          refine g_iload_4 h dX12_reckon_282 ?_
          refine g_aload_2 h dX12_reckon_284 ?_
          refine g_cVi2 h rok0 mi_X12_reckon dX12_reckon_285 ml_X12_304 rfl rfl rfl (Nat.le_of_ble_eq_true rfl) (Nat.le_of_ble_eq_true rfl) (ih _ _ _ h2 ?_)
          refine g_iadd h dX12_reckon_288 ?_
          refine g_iret h dX12_reckon_289 ?_
          exact hQ
      · refine g_aload_0 h dX12_reckon_0 ?_
        refine g_getP h fl_X12_87 dX12_reckon_1 rfl rfl (by assumption) ?_
        refine g_getC h fl_X12_293 dX12_reckon_4 rfl rfl ?_
        refine g_iload_1 h dX12_reckon_7 ?_
        refine g_iald h n dX12_reckon_8 rfl rfl (by omega) ?_
        rw [show I 102 n = nI i from ha]
        refine g_istore_3 h dX12_reckon_9 (by decide) rfl ?_
        refine g_aload_0 h dX12_reckon_10 ?_
        refine g_getP h fl_X12_87 dX12_reckon_11 rfl rfl (by assumption) ?_
        refine g_getC h fl_X12_295 dX12_reckon_14 rfl rfl ?_
        refine g_iload_1 h dX12_reckon_17 ?_
        refine g_iald h n dX12_reckon_18 rfl rfl (by omega) ?_
        rw [show I 103 n = nI j from hb]
        refine g_istore_4 h dX12_reckon_19 (by decide) rfl ?_
        refine g_aload_0 h dX12_reckon_21 ?_
        refine g_getP h fl_X12_87 dX12_reckon_22 rfl rfl (by assumption) ?_
        refine g_getC h fl_X12_298 dX12_reckon_25 rfl rfl ?_
        refine g_iload_1 h dX12_reckon_28 ?_
        refine g_iald h n dX12_reckon_29 rfl rfl (by omega) ?_
        rw [show I 101 n = nI 45 from ho]
        · refine g_lkup h 260 dX12_reckon_30 (by decide) rfl rfl ?_
          refine g_aload_0 h dX12_reckon_260 ?_
          refine g_iload_3 h dX12_reckon_261 ?_
          refine g_aload_2 h dX12_reckon_262 ?_
          refine g_cVi2 h rok0 mi_X12_reckon dX12_reckon_263 ml_X12_304 rfl rfl rfl (Nat.le_of_ble_eq_true rfl) (Nat.le_of_ble_eq_true rfl) (ih _ _ _ h1 ?_)
          refine g_aload_0 h dX12_reckon_266 ?_
          refine g_iload_4 h dX12_reckon_267 ?_
          refine g_aload_2 h dX12_reckon_269 ?_
          refine g_cVi2 h rok0 mi_X12_reckon dX12_reckon_270 ml_X12_304 rfl rfl rfl (Nat.le_of_ble_eq_true rfl) (Nat.le_of_ble_eq_true rfl) (ih _ _ _ h2 ?_)
          refine g_isub h dX12_reckon_273 ?_
          refine g_iret h dX12_reckon_274 ?_
          exact hQ
      · refine g_aload_0 h dX12_reckon_0 ?_
        refine g_getP h fl_X12_87 dX12_reckon_1 rfl rfl (by assumption) ?_
        refine g_getC h fl_X12_293 dX12_reckon_4 rfl rfl ?_
        refine g_iload_1 h dX12_reckon_7 ?_
        refine g_iald h n dX12_reckon_8 rfl rfl (by omega) ?_
        rw [show I 102 n = nI i from ha]
        refine g_istore_3 h dX12_reckon_9 (by decide) rfl ?_
        refine g_aload_0 h dX12_reckon_10 ?_
        refine g_getP h fl_X12_87 dX12_reckon_11 rfl rfl (by assumption) ?_
        refine g_getC h fl_X12_295 dX12_reckon_14 rfl rfl ?_
        refine g_iload_1 h dX12_reckon_17 ?_
        refine g_iald h n dX12_reckon_18 rfl rfl (by omega) ?_
        rw [show I 103 n = nI j from hb]
        refine g_istore_4 h dX12_reckon_19 (by decide) rfl ?_
        refine g_aload_0 h dX12_reckon_21 ?_
        refine g_getP h fl_X12_87 dX12_reckon_22 rfl rfl (by assumption) ?_
        refine g_getC h fl_X12_298 dX12_reckon_25 rfl rfl ?_
        refine g_iload_1 h dX12_reckon_28 ?_
        refine g_iald h n dX12_reckon_29 rfl rfl (by omega) ?_
        rw [show I 101 n = nI 42 from ho]
        · refine g_lkup h 228 dX12_reckon_30 (by decide) rfl rfl ?_
          refine g_aload_0 h dX12_reckon_228 ?_
          refine g_iload_3 h dX12_reckon_229 ?_
          refine g_aload_2 h dX12_reckon_230 ?_
          refine g_cVi2 h rok0 mi_X12_reckon dX12_reckon_231 ml_X12_304 rfl rfl rfl (Nat.le_of_ble_eq_true rfl) (Nat.le_of_ble_eq_true rfl) (ih _ _ _ h1 ?_)
          refine g_aload_0 h dX12_reckon_234 ?_
          refine g_iload_4 h dX12_reckon_235 ?_
          refine g_aload_2 h dX12_reckon_237 ?_
          refine g_cVi2 h rok0 mi_X12_reckon dX12_reckon_238 ml_X12_304 rfl rfl rfl (Nat.le_of_ble_eq_true rfl) (Nat.le_of_ble_eq_true rfl) (ih _ _ _ h2 ?_)
          refine g_imul h dX12_reckon_241 ?_
          refine g_iret h dX12_reckon_242 ?_
          exact hQ
      · refine g_aload_0 h dX12_reckon_0 ?_
        refine g_getP h fl_X12_87 dX12_reckon_1 rfl rfl (by assumption) ?_
        refine g_getC h fl_X12_293 dX12_reckon_4 rfl rfl ?_
        refine g_iload_1 h dX12_reckon_7 ?_
        refine g_iald h n dX12_reckon_8 rfl rfl (by omega) ?_
        rw [show I 102 n = nI i from ha]
        refine g_istore_3 h dX12_reckon_9 (by decide) rfl ?_
        refine g_aload_0 h dX12_reckon_10 ?_
        refine g_getP h fl_X12_87 dX12_reckon_11 rfl rfl (by assumption) ?_
        refine g_getC h fl_X12_295 dX12_reckon_14 rfl rfl ?_
        refine g_iload_1 h dX12_reckon_17 ?_
        refine g_iald h n dX12_reckon_18 rfl rfl (by omega) ?_
        rw [show I 103 n = nI j from hb]
        refine g_istore_4 h dX12_reckon_19 (by decide) rfl ?_
        refine g_aload_0 h dX12_reckon_21 ?_
        refine g_getP h fl_X12_87 dX12_reckon_22 rfl rfl (by assumption) ?_
        refine g_getC h fl_X12_298 dX12_reckon_25 rfl rfl ?_
        refine g_iload_1 h dX12_reckon_28 ?_
        refine g_iald h n dX12_reckon_29 rfl rfl (by omega) ?_
        rw [show I 101 n = nI 47 from ho]
        · refine g_lkup h 243 dX12_reckon_30 (by decide) rfl rfl ?_
          refine g_aload_0 h dX12_reckon_243 ?_
          refine g_iload_3 h dX12_reckon_244 ?_
          refine g_aload_2 h dX12_reckon_245 ?_
          refine g_cVi2 h rok0 mi_X12_reckon dX12_reckon_246 ml_X12_304 rfl rfl rfl (Nat.le_of_ble_eq_true rfl) (Nat.le_of_ble_eq_true rfl) (ih _ _ _ h1 ?_)
          refine g_aload_0 h dX12_reckon_249 ?_
          refine g_iload_4 h dX12_reckon_250 ?_
          refine g_aload_2 h dX12_reckon_252 ?_
          refine g_cVi2 h rok0 mi_X12_reckon dX12_reckon_253 ml_X12_304 rfl rfl rfl (Nat.le_of_ble_eq_true rfl) (Nat.le_of_ble_eq_true rfl) (ih _ _ _ h2 ?_)
          refine g_cSi2 h rok0 mi_X12_parts dX12_reckon_256 ml_X12_316 (Nat.le_of_ble_eq_true rfl) (Nat.le_of_ble_eq_true rfl) (sp_X12_parts ?_)
          refine g_iret h dX12_reckon_259 ?_
          exact q_i (ptR_jo _ _) hQ
      · refine g_aload_0 h dX12_reckon_0 ?_
        refine g_getP h fl_X12_87 dX12_reckon_1 rfl rfl (by assumption) ?_
        refine g_getC h fl_X12_293 dX12_reckon_4 rfl rfl ?_
        refine g_iload_1 h dX12_reckon_7 ?_
        refine g_iald h n dX12_reckon_8 rfl rfl (by omega) ?_
        rw [show I 102 n = nI i from ha]
        refine g_istore_3 h dX12_reckon_9 (by decide) rfl ?_
        refine g_aload_0 h dX12_reckon_10 ?_
        refine g_getP h fl_X12_87 dX12_reckon_11 rfl rfl (by assumption) ?_
        refine g_getC h fl_X12_295 dX12_reckon_14 rfl rfl ?_
        refine g_iload_1 h dX12_reckon_17 ?_
        refine g_iald h n dX12_reckon_18 rfl rfl (by omega) ?_
        rw [show I 103 n = nI j from hb]
        refine g_istore_4 h dX12_reckon_19 (by decide) rfl ?_
        refine g_aload_0 h dX12_reckon_21 ?_
        refine g_getP h fl_X12_87 dX12_reckon_22 rfl rfl (by assumption) ?_
        refine g_getC h fl_X12_298 dX12_reckon_25 rfl rfl ?_
        refine g_iload_1 h dX12_reckon_28 ?_
        refine g_iald h n dX12_reckon_29 rfl rfl (by omega) ?_
        rw [show I 101 n = nI 26 from ho]
        · refine g_lkup h 194 dX12_reckon_30 (by decide) rfl rfl ?_
          refine g_aload_0 h dX12_reckon_194 ?_
          refine g_iload_3 h dX12_reckon_195 ?_
          refine g_aload_2 h dX12_reckon_196 ?_
          refine g_cVi2 h rok0 mi_X12_reckon dX12_reckon_197 ml_X12_304 rfl rfl rfl (Nat.le_of_ble_eq_true rfl) (Nat.le_of_ble_eq_true rfl) (ih _ _ _ h1 ?_)
          refine g_aload_0 h dX12_reckon_200 ?_
          refine g_iload_4 h dX12_reckon_201 ?_
          refine g_aload_2 h dX12_reckon_203 ?_
          refine g_cVi2 h rok0 mi_X12_reckon dX12_reckon_204 ml_X12_304 rfl rfl rfl (Nat.le_of_ble_eq_true rfl) (Nat.le_of_ble_eq_true rfl) (ih _ _ _ h2 ?_)
          refine g_mmin h dX12_reckon_207 ml_X12_308 rok0 (Nat.le_of_ble_eq_true rfl) ?_
          refine g_iret h dX12_reckon_210 ?_
          exact hQ
      · refine g_aload_0 h dX12_reckon_0 ?_
        refine g_getP h fl_X12_87 dX12_reckon_1 rfl rfl (by assumption) ?_
        refine g_getC h fl_X12_293 dX12_reckon_4 rfl rfl ?_
        refine g_iload_1 h dX12_reckon_7 ?_
        refine g_iald h n dX12_reckon_8 rfl rfl (by omega) ?_
        rw [show I 102 n = nI i from ha]
        refine g_istore_3 h dX12_reckon_9 (by decide) rfl ?_
        refine g_aload_0 h dX12_reckon_10 ?_
        refine g_getP h fl_X12_87 dX12_reckon_11 rfl rfl (by assumption) ?_
        refine g_getC h fl_X12_295 dX12_reckon_14 rfl rfl ?_
        refine g_iload_1 h dX12_reckon_17 ?_
        refine g_iald h n dX12_reckon_18 rfl rfl (by omega) ?_
        rw [show I 103 n = nI j from hb]
        refine g_istore_4 h dX12_reckon_19 (by decide) rfl ?_
        refine g_aload_0 h dX12_reckon_21 ?_
        refine g_getP h fl_X12_87 dX12_reckon_22 rfl rfl (by assumption) ?_
        refine g_getC h fl_X12_298 dX12_reckon_25 rfl rfl ?_
        refine g_iload_1 h dX12_reckon_28 ?_
        refine g_iald h n dX12_reckon_29 rfl rfl (by omega) ?_
        rw [show I 101 n = nI 27 from ho]
        · refine g_lkup h 211 dX12_reckon_30 (by decide) rfl rfl ?_
          refine g_aload_0 h dX12_reckon_211 ?_
          refine g_iload_3 h dX12_reckon_212 ?_
          refine g_aload_2 h dX12_reckon_213 ?_
          refine g_cVi2 h rok0 mi_X12_reckon dX12_reckon_214 ml_X12_304 rfl rfl rfl (Nat.le_of_ble_eq_true rfl) (Nat.le_of_ble_eq_true rfl) (ih _ _ _ h1 ?_)
          refine g_aload_0 h dX12_reckon_217 ?_
          refine g_iload_4 h dX12_reckon_218 ?_
          refine g_aload_2 h dX12_reckon_220 ?_
          refine g_cVi2 h rok0 mi_X12_reckon dX12_reckon_221 ml_X12_304 rfl rfl rfl (Nat.le_of_ble_eq_true rfl) (Nat.le_of_ble_eq_true rfl) (ih _ _ _ h2 ?_)
          refine g_mmax h dX12_reckon_224 ml_X12_313 rok0 (Nat.le_of_ble_eq_true rfl) ?_
          refine g_iret h dX12_reckon_227 ?_
          exact hQ
theorem sp_X12_reckonG {r : Nat} (hr : r = 91 ∨ r = 92) {I : MI} {J : MJ} {P : MP} (hB : P 80 8 = some 93) (hK : bkOK (bv I)) {f D n : Nat} (hD : f + 6 ≤ D) {E : EX} (h : dn (bv I) f true n E) {Q : Int32 → MI → MJ → MP → Prop} (hQ : Q (E (evR (bv I) (I r))) I J P) : Sp yX12_reckon cX12_reckon 5 (some .int) D [.ref 80, .int (nI n), .ref r] I J P (Qi Q) := by
  obtain ⟨d, rfl⟩ : ∃ d, D = d + f + 6 := ⟨D - f - 6, by omega⟩
  exact sp_X12_reckon hr hB hK f d n E h hQ
set_option maxRecDepth 100000 in
set_option maxHeartbeats 8000000 in
theorem sp_X12_holds {r : Nat} (hr : r = 91 ∨ r = 92) {I : MI} {J : MJ} {P : MP} (hB : P 80 8 = some 93) (hK : bkOK (bv I)) : ∀ (f d n : Nat) (E : EX), dn (bv I) f false n E → ∀ {Q : Int32 → MI → MJ → MP → Prop}, Q (E (evR (bv I) (I r))) I J P → Sp yX12_holds cX12_holds 5 (some .boolean) (d + f + 7) [.ref 80, .int (nI n), .ref r] I J P (Qi Q) := by
  have hN := (bk_N hK).1
  have hN16 := (bk_N hK).2
  have hT := bk_T hK
  have hKe := bk_K hK
  have ht := bk_t hK
  intro f
  induction f with
  | zero => exact fun d n E h => absurd h id
  | succ f ih =>
    intro d n E hd Q hQ Γ h
    show VG Γ 0 0 0 [some (.ref 80), some (.int (nI n)), some (.ref r), none, none] [] _ _ _ _
    obtain ⟨hn, hd⟩ := hd
    rw [if_neg (by decide)] at hd
    rcases hd with ⟨j, ho, ha, hj, rfl⟩ | ⟨j, E1, ho, ha, h1, rfl⟩ | ⟨k, i, j, E1, E2, hkc, ho, ha, hb, h1, h2, rfl⟩ | ⟨k, c, i, j, E1, E2, hkc, ho, ha, hb, h1, h2, rfl⟩
    · obtain ⟨z1, z2, z3⟩ := bk_Z hK j hj
      refine g_aload_0 h dX12_holds_0 ?_
      refine g_getP h fl_X12_87 dX12_holds_1 rfl rfl (by assumption) ?_
      refine g_getC h fl_X12_293 dX12_holds_4 rfl rfl ?_
      refine g_iload_1 h dX12_holds_7 ?_
      refine g_iald h n dX12_holds_8 rfl rfl (by omega) ?_
      rw [show I 102 n = nI j from ha]
      refine g_istore_3 h dX12_holds_9 (by decide) rfl ?_
      refine g_aload_0 h dX12_holds_10 ?_
      refine g_getP h fl_X12_87 dX12_holds_11 rfl rfl (by assumption) ?_
      refine g_getC h fl_X12_295 dX12_holds_14 rfl rfl ?_
      refine g_iload_1 h dX12_holds_17 ?_
      refine g_iald h n dX12_holds_18 rfl rfl (by omega) ?_
      refine g_istore_4 h dX12_holds_19 (by decide) rfl ?_
      refine g_aload_0 h dX12_holds_21 ?_
      refine g_getP h fl_X12_87 dX12_holds_22 rfl rfl (by assumption) ?_
      refine g_getC h fl_X12_298 dX12_holds_25 rfl rfl ?_
      refine g_iload_1 h dX12_holds_28 ?_
      refine g_iald h n dX12_holds_29 rfl rfl (by omega) ?_
      rw [show I 101 n = nI 22 from ho]
      · refine g_lkup h 104 dX12_holds_30 (by decide) rfl rfl ?_
        refine g_aload_0 h dX12_holds_104 ?_
        refine g_aload_2 h dX12_holds_105 ?_
        refine g_iload_3 h dX12_holds_106 ?_
        refine g_cVi2 h rok0 mi_X12_isWrong dX12_holds_107 ml_X12_319 rfl rfl rfl (Nat.le_of_ble_eq_true rfl) (Nat.le_of_ble_eq_true rfl) (sp_X12_isWrong (d := d + f + 1) hr hB hN hN16 ht (by omega) z1 z2 z3 ?_)
        refine g_zret h dX12_holds_110 (by first | rfl | exact nar_b2i _) ?_
        exact q_i (by show _ = evR (bv I) (I r) 22 (nI j); simp only [evR, dueB]; rw [ix_n (by omega)]; rfl) hQ
    · obtain ⟨b, eb⟩ := dn_bool (evR_b (bv I) (I r)) _ _ _ h1
      refine g_aload_0 h dX12_holds_0 ?_
      refine g_getP h fl_X12_87 dX12_holds_1 rfl rfl (by assumption) ?_
      refine g_getC h fl_X12_293 dX12_holds_4 rfl rfl ?_
      refine g_iload_1 h dX12_holds_7 ?_
      refine g_iald h n dX12_holds_8 rfl rfl (by omega) ?_
      rw [show I 102 n = nI j from ha]
      refine g_istore_3 h dX12_holds_9 (by decide) rfl ?_
      refine g_aload_0 h dX12_holds_10 ?_
      refine g_getP h fl_X12_87 dX12_holds_11 rfl rfl (by assumption) ?_
      refine g_getC h fl_X12_295 dX12_holds_14 rfl rfl ?_
      refine g_iload_1 h dX12_holds_17 ?_
      refine g_iald h n dX12_holds_18 rfl rfl (by omega) ?_
      refine g_istore_4 h dX12_holds_19 (by decide) rfl ?_
      refine g_aload_0 h dX12_holds_21 ?_
      refine g_getP h fl_X12_87 dX12_holds_22 rfl rfl (by assumption) ?_
      refine g_getC h fl_X12_298 dX12_holds_25 rfl rfl ?_
      refine g_iload_1 h dX12_holds_28 ?_
      refine g_iald h n dX12_holds_29 rfl rfl (by omega) ?_
      rw [show I 101 n = nI 23 from ho]
      · refine g_lkup h 111 dX12_holds_30 (by decide) rfl rfl ?_
        refine g_aload_0 h dX12_holds_111 ?_
        refine g_iload_3 h dX12_holds_112 ?_
        refine g_aload_2 h dX12_holds_113 ?_
        refine g_cVi2 h rok0 mi_X12_holds dX12_holds_114 ml_X12_323 rfl rfl rfl (Nat.le_of_ble_eq_true rfl) (Nat.le_of_ble_eq_true rfl) (ih _ _ _ h1 ?_)
        refine g_if_ne h 124 dX12_holds_117 rfl (fun c117 => ?_) (fun c117 => ?_)
        · refine g_iconst h dX12_holds_124 (v := nI 0) rfl ?_
          refine g_zret h dX12_holds_125 (by first | rfl | exact nar_b2i _) ?_
          first
            | exact q_i (by show _ = nI 1 - E1 _; rw [eb] at c117 ⊢; rw [b2i_n0.mp c117]; decide) hQ
            | exact q_i (by show _ = nI 1 - E1 _; rw [eb] at c117 ⊢; rw [b2i_0.mp c117]; decide) hQ
        · refine g_iconst h dX12_holds_120 (v := nI 1) rfl ?_
          refine g_goto h 125 dX12_holds_121 rfl ?_
          refine g_zret h dX12_holds_125 (by first | rfl | exact nar_b2i _) ?_
          first
            | exact q_i (by show _ = nI 1 - E1 _; rw [eb] at c117 ⊢; rw [b2i_n0.mp c117]; decide) hQ
            | exact q_i (by show _ = nI 1 - E1 _; rw [eb] at c117 ⊢; rw [b2i_0.mp c117]; decide) hQ
    · obtain ⟨b, eb⟩ := dn_bool (evR_b (bv I) (I r)) _ _ _ h1
      obtain ⟨b2, eb2⟩ := dn_bool (evR_b (bv I) (I r)) _ _ _ h2
      rcases hkc with rfl | rfl
      · refine g_aload_0 h dX12_holds_0 ?_
        refine g_getP h fl_X12_87 dX12_holds_1 rfl rfl (by assumption) ?_
        refine g_getC h fl_X12_293 dX12_holds_4 rfl rfl ?_
        refine g_iload_1 h dX12_holds_7 ?_
        refine g_iald h n dX12_holds_8 rfl rfl (by omega) ?_
        rw [show I 102 n = nI i from ha]
        refine g_istore_3 h dX12_holds_9 (by decide) rfl ?_
        refine g_aload_0 h dX12_holds_10 ?_
        refine g_getP h fl_X12_87 dX12_holds_11 rfl rfl (by assumption) ?_
        refine g_getC h fl_X12_295 dX12_holds_14 rfl rfl ?_
        refine g_iload_1 h dX12_holds_17 ?_
        refine g_iald h n dX12_holds_18 rfl rfl (by omega) ?_
        rw [show I 103 n = nI j from hb]
        refine g_istore_4 h dX12_holds_19 (by decide) rfl ?_
        refine g_aload_0 h dX12_holds_21 ?_
        refine g_getP h fl_X12_87 dX12_holds_22 rfl rfl (by assumption) ?_
        refine g_getC h fl_X12_298 dX12_holds_25 rfl rfl ?_
        refine g_iload_1 h dX12_holds_28 ?_
        refine g_iald h n dX12_holds_29 rfl rfl (by omega) ?_
        rw [show I 101 n = nI 24 from ho]
        · refine g_lkup h 126 dX12_holds_30 (by decide) rfl rfl ?_
          refine g_aload_0 h dX12_holds_126 ?_
          refine g_iload_3 h dX12_holds_127 ?_
          refine g_aload_2 h dX12_holds_128 ?_
          refine g_cVi2 h rok0 mi_X12_holds dX12_holds_129 ml_X12_323 rfl rfl rfl (Nat.le_of_ble_eq_true rfl) (Nat.le_of_ble_eq_true rfl) (ih _ _ _ h1 ?_)
          refine g_aload_0 h dX12_holds_132 ?_
          refine g_iload_4 h dX12_holds_133 ?_
          refine g_aload_2 h dX12_holds_135 ?_
          refine g_cVi2 h rok0 mi_X12_holds dX12_holds_136 ml_X12_323 rfl rfl rfl (Nat.le_of_ble_eq_true rfl) (Nat.le_of_ble_eq_true rfl) (ih _ _ _ h2 ?_)
          refine g_iand h dX12_holds_139 ?_
          refine g_zret h dX12_holds_140 (by rw [eb, eb2]; cases b <;> cases b2 <;> rfl) ?_
          exact hQ
      · refine g_aload_0 h dX12_holds_0 ?_
        refine g_getP h fl_X12_87 dX12_holds_1 rfl rfl (by assumption) ?_
        refine g_getC h fl_X12_293 dX12_holds_4 rfl rfl ?_
        refine g_iload_1 h dX12_holds_7 ?_
        refine g_iald h n dX12_holds_8 rfl rfl (by omega) ?_
        rw [show I 102 n = nI i from ha]
        refine g_istore_3 h dX12_holds_9 (by decide) rfl ?_
        refine g_aload_0 h dX12_holds_10 ?_
        refine g_getP h fl_X12_87 dX12_holds_11 rfl rfl (by assumption) ?_
        refine g_getC h fl_X12_295 dX12_holds_14 rfl rfl ?_
        refine g_iload_1 h dX12_holds_17 ?_
        refine g_iald h n dX12_holds_18 rfl rfl (by omega) ?_
        rw [show I 103 n = nI j from hb]
        refine g_istore_4 h dX12_holds_19 (by decide) rfl ?_
        refine g_aload_0 h dX12_holds_21 ?_
        refine g_getP h fl_X12_87 dX12_holds_22 rfl rfl (by assumption) ?_
        refine g_getC h fl_X12_298 dX12_holds_25 rfl rfl ?_
        refine g_iload_1 h dX12_holds_28 ?_
        refine g_iald h n dX12_holds_29 rfl rfl (by omega) ?_
        rw [show I 101 n = nI 25 from ho]
        · refine g_lkup h 141 dX12_holds_30 (by decide) rfl rfl ?_
          refine g_aload_0 h dX12_holds_141 ?_
          refine g_iload_3 h dX12_holds_142 ?_
          refine g_aload_2 h dX12_holds_143 ?_
          refine g_cVi2 h rok0 mi_X12_holds dX12_holds_144 ml_X12_323 rfl rfl rfl (Nat.le_of_ble_eq_true rfl) (Nat.le_of_ble_eq_true rfl) (ih _ _ _ h1 ?_)
          refine g_aload_0 h dX12_holds_147 ?_
          refine g_iload_4 h dX12_holds_148 ?_
          refine g_aload_2 h dX12_holds_150 ?_
          refine g_cVi2 h rok0 mi_X12_holds dX12_holds_151 ml_X12_323 rfl rfl rfl (Nat.le_of_ble_eq_true rfl) (Nat.le_of_ble_eq_true rfl) (ih _ _ _ h2 ?_)
          refine g_ior h dX12_holds_154 ?_
          refine g_zret h dX12_holds_155 (by rw [eb, eb2]; cases b <;> cases b2 <;> rfl) ?_
          exact hQ
    · rcases hkc with ⟨rfl, rfl⟩ | ⟨rfl, rfl⟩ | ⟨rfl, rfl⟩ | ⟨rfl, rfl⟩ | ⟨rfl, rfl⟩
      · refine g_aload_0 h dX12_holds_0 ?_
        refine g_getP h fl_X12_87 dX12_holds_1 rfl rfl (by assumption) ?_
        refine g_getC h fl_X12_293 dX12_holds_4 rfl rfl ?_
        refine g_iload_1 h dX12_holds_7 ?_
        refine g_iald h n dX12_holds_8 rfl rfl (by omega) ?_
        rw [show I 102 n = nI i from ha]
        refine g_istore_3 h dX12_holds_9 (by decide) rfl ?_
        refine g_aload_0 h dX12_holds_10 ?_
        refine g_getP h fl_X12_87 dX12_holds_11 rfl rfl (by assumption) ?_
        refine g_getC h fl_X12_295 dX12_holds_14 rfl rfl ?_
        refine g_iload_1 h dX12_holds_17 ?_
        refine g_iald h n dX12_holds_18 rfl rfl (by omega) ?_
        rw [show I 103 n = nI j from hb]
        refine g_istore_4 h dX12_holds_19 (by decide) rfl ?_
        refine g_aload_0 h dX12_holds_21 ?_
        refine g_getP h fl_X12_87 dX12_holds_22 rfl rfl (by assumption) ?_
        refine g_getC h fl_X12_298 dX12_holds_25 rfl rfl ?_
        refine g_iload_1 h dX12_holds_28 ?_
        refine g_iald h n dX12_holds_29 rfl rfl (by omega) ?_
        rw [show I 101 n = nI 60 from ho]
        · refine g_lkup h 156 dX12_holds_30 (by decide) rfl rfl ?_
          refine g_aload_0 h dX12_holds_156 ?_
          refine g_iload_3 h dX12_holds_157 ?_
          refine g_aload_2 h dX12_holds_158 ?_
          refine g_cVi2 h rok0 mi_X12_reckon dX12_holds_159 ml_X12_304 rfl rfl rfl (Nat.le_of_ble_eq_true rfl) (Nat.le_of_ble_eq_true rfl) (sp_X12_reckonG hr hB hK (by omega) h1 ?_)
          refine g_aload_0 h dX12_holds_162 ?_
          refine g_iload_4 h dX12_holds_163 ?_
          refine g_aload_2 h dX12_holds_165 ?_
          refine g_cVi2 h rok0 mi_X12_reckon dX12_holds_166 ml_X12_304 rfl rfl rfl (Nat.le_of_ble_eq_true rfl) (Nat.le_of_ble_eq_true rfl) (sp_X12_reckonG hr hB hK (by omega) h2 ?_)
          refine g_icmp_ge h 176 dX12_holds_169 rfl (fun c169 => ?_) (fun c169 => ?_)
          · refine g_iconst h dX12_holds_176 (v := nI 0) rfl ?_
            refine g_zret h dX12_holds_177 (by first | rfl | exact nar_b2i _) ?_
            first
              | exact q_i (by show _ = b2i (cmF 40 _ _); simp only [cmF]; simp [b2i, Int32.not_lt.mpr c169]) hQ
              | exact q_i (by show _ = b2i (cmF 40 _ _); simp only [cmF]; simp [b2i, Int32.not_le.mp c169]) hQ
              | exact q_i (by show _ = b2i (cmF 40 _ _); simp only [cmF]; simp [b2i, Int32.not_lt.mp c169]) hQ
              | exact q_i (by show _ = b2i (cmF 40 _ _); simp only [cmF]; simp [b2i, Int32.not_lt.mpr c169]) hQ
              | exact q_i (by show _ = b2i (cmF 40 _ _); simp only [cmF]; simp [b2i, Int32.not_le.mpr c169]) hQ
              | exact q_i (by show _ = b2i (cmF 40 _ _); simp only [cmF]; simp [b2i, Classical.not_not.mp c169]) hQ
          · refine g_iconst h dX12_holds_172 (v := nI 1) rfl ?_
            refine g_goto h 177 dX12_holds_173 rfl ?_
            refine g_zret h dX12_holds_177 (by first | rfl | exact nar_b2i _) ?_
            first
              | exact q_i (by show _ = b2i (cmF 40 _ _); simp only [cmF]; simp [Int32.not_lt, Int32.not_le, b2i, c169]) hQ
              | exact q_i (by show _ = b2i (cmF 40 _ _); simp only [cmF]; simp [b2i, Int32.not_le.mp c169]) hQ
              | exact q_i (by show _ = b2i (cmF 40 _ _); simp only [cmF]; simp [b2i, Int32.not_lt.mp c169]) hQ
              | exact q_i (by show _ = b2i (cmF 40 _ _); simp only [cmF]; simp [b2i, Int32.not_lt.mpr c169]) hQ
              | exact q_i (by show _ = b2i (cmF 40 _ _); simp only [cmF]; simp [b2i, Int32.not_le.mpr c169]) hQ
              | exact q_i (by show _ = b2i (cmF 40 _ _); simp only [cmF]; simp [b2i, Classical.not_not.mp c169]) hQ
      · refine g_aload_0 h dX12_holds_0 ?_
        refine g_getP h fl_X12_87 dX12_holds_1 rfl rfl (by assumption) ?_
        refine g_getC h fl_X12_293 dX12_holds_4 rfl rfl ?_
        refine g_iload_1 h dX12_holds_7 ?_
        refine g_iald h n dX12_holds_8 rfl rfl (by omega) ?_
        rw [show I 102 n = nI i from ha]
        refine g_istore_3 h dX12_holds_9 (by decide) rfl ?_
        refine g_aload_0 h dX12_holds_10 ?_
        refine g_getP h fl_X12_87 dX12_holds_11 rfl rfl (by assumption) ?_
        refine g_getC h fl_X12_295 dX12_holds_14 rfl rfl ?_
        refine g_iload_1 h dX12_holds_17 ?_
        refine g_iald h n dX12_holds_18 rfl rfl (by omega) ?_
        rw [show I 103 n = nI j from hb]
        refine g_istore_4 h dX12_holds_19 (by decide) rfl ?_
        refine g_aload_0 h dX12_holds_21 ?_
        refine g_getP h fl_X12_87 dX12_holds_22 rfl rfl (by assumption) ?_
        refine g_getC h fl_X12_298 dX12_holds_25 rfl rfl ?_
        refine g_iload_1 h dX12_holds_28 ?_
        refine g_iald h n dX12_holds_29 rfl rfl (by omega) ?_
        rw [show I 101 n = nI 62 from ho]
        · refine g_lkup h 178 dX12_holds_30 (by decide) rfl rfl ?_
          refine g_aload_0 h dX12_holds_178 ?_
          refine g_iload_3 h dX12_holds_179 ?_
          refine g_aload_2 h dX12_holds_180 ?_
          refine g_cVi2 h rok0 mi_X12_reckon dX12_holds_181 ml_X12_304 rfl rfl rfl (Nat.le_of_ble_eq_true rfl) (Nat.le_of_ble_eq_true rfl) (sp_X12_reckonG hr hB hK (by omega) h1 ?_)
          refine g_aload_0 h dX12_holds_184 ?_
          refine g_iload_4 h dX12_holds_185 ?_
          refine g_aload_2 h dX12_holds_187 ?_
          refine g_cVi2 h rok0 mi_X12_reckon dX12_holds_188 ml_X12_304 rfl rfl rfl (Nat.le_of_ble_eq_true rfl) (Nat.le_of_ble_eq_true rfl) (sp_X12_reckonG hr hB hK (by omega) h2 ?_)
          refine g_icmp_le h 198 dX12_holds_191 rfl (fun c191 => ?_) (fun c191 => ?_)
          · refine g_iconst h dX12_holds_198 (v := nI 0) rfl ?_
            refine g_zret h dX12_holds_199 (by first | rfl | exact nar_b2i _) ?_
            first
              | exact q_i (by show _ = b2i (cmF 41 _ _); simp only [cmF]; simp [b2i, Int32.not_lt.mpr c191]) hQ
              | exact q_i (by show _ = b2i (cmF 41 _ _); simp only [cmF]; simp [b2i, Int32.not_le.mp c191]) hQ
              | exact q_i (by show _ = b2i (cmF 41 _ _); simp only [cmF]; simp [b2i, Int32.not_lt.mp c191]) hQ
              | exact q_i (by show _ = b2i (cmF 41 _ _); simp only [cmF]; simp [b2i, Int32.not_lt.mpr c191]) hQ
              | exact q_i (by show _ = b2i (cmF 41 _ _); simp only [cmF]; simp [b2i, Int32.not_le.mpr c191]) hQ
              | exact q_i (by show _ = b2i (cmF 41 _ _); simp only [cmF]; simp [b2i, Classical.not_not.mp c191]) hQ
          · refine g_iconst h dX12_holds_194 (v := nI 1) rfl ?_
            refine g_goto h 199 dX12_holds_195 rfl ?_
            refine g_zret h dX12_holds_199 (by first | rfl | exact nar_b2i _) ?_
            first
              | exact q_i (by show _ = b2i (cmF 41 _ _); simp only [cmF]; simp [Int32.not_lt, Int32.not_le, b2i, c191]) hQ
              | exact q_i (by show _ = b2i (cmF 41 _ _); simp only [cmF]; simp [b2i, Int32.not_le.mp c191]) hQ
              | exact q_i (by show _ = b2i (cmF 41 _ _); simp only [cmF]; simp [b2i, Int32.not_lt.mp c191]) hQ
              | exact q_i (by show _ = b2i (cmF 41 _ _); simp only [cmF]; simp [b2i, Int32.not_lt.mpr c191]) hQ
              | exact q_i (by show _ = b2i (cmF 41 _ _); simp only [cmF]; simp [b2i, Int32.not_le.mpr c191]) hQ
              | exact q_i (by show _ = b2i (cmF 41 _ _); simp only [cmF]; simp [b2i, Classical.not_not.mp c191]) hQ
      · refine g_aload_0 h dX12_holds_0 ?_
        refine g_getP h fl_X12_87 dX12_holds_1 rfl rfl (by assumption) ?_
        refine g_getC h fl_X12_293 dX12_holds_4 rfl rfl ?_
        refine g_iload_1 h dX12_holds_7 ?_
        refine g_iald h n dX12_holds_8 rfl rfl (by omega) ?_
        rw [show I 102 n = nI i from ha]
        refine g_istore_3 h dX12_holds_9 (by decide) rfl ?_
        refine g_aload_0 h dX12_holds_10 ?_
        refine g_getP h fl_X12_87 dX12_holds_11 rfl rfl (by assumption) ?_
        refine g_getC h fl_X12_295 dX12_holds_14 rfl rfl ?_
        refine g_iload_1 h dX12_holds_17 ?_
        refine g_iald h n dX12_holds_18 rfl rfl (by omega) ?_
        rw [show I 103 n = nI j from hb]
        refine g_istore_4 h dX12_holds_19 (by decide) rfl ?_
        refine g_aload_0 h dX12_holds_21 ?_
        refine g_getP h fl_X12_87 dX12_holds_22 rfl rfl (by assumption) ?_
        refine g_getC h fl_X12_298 dX12_holds_25 rfl rfl ?_
        refine g_iload_1 h dX12_holds_28 ?_
        refine g_iald h n dX12_holds_29 rfl rfl (by omega) ?_
        rw [show I 101 n = nI 61 from ho]
        · refine g_lkup h 244 dX12_holds_30 (by decide) rfl rfl ?_
          refine g_aload_0 h dX12_holds_244 ?_
          refine g_iload_3 h dX12_holds_245 ?_
          refine g_aload_2 h dX12_holds_246 ?_
          refine g_cVi2 h rok0 mi_X12_reckon dX12_holds_247 ml_X12_304 rfl rfl rfl (Nat.le_of_ble_eq_true rfl) (Nat.le_of_ble_eq_true rfl) (sp_X12_reckonG hr hB hK (by omega) h1 ?_)
          refine g_aload_0 h dX12_holds_250 ?_
          refine g_iload_4 h dX12_holds_251 ?_
          refine g_aload_2 h dX12_holds_253 ?_
          refine g_cVi2 h rok0 mi_X12_reckon dX12_holds_254 ml_X12_304 rfl rfl rfl (Nat.le_of_ble_eq_true rfl) (Nat.le_of_ble_eq_true rfl) (sp_X12_reckonG hr hB hK (by omega) h2 ?_)
          refine g_icmp_ne h 264 dX12_holds_257 rfl (fun c257 => ?_) (fun c257 => ?_)
          · refine g_iconst h dX12_holds_264 (v := nI 0) rfl ?_
            refine g_zret h dX12_holds_265 (by first | rfl | exact nar_b2i _) ?_
            first
              | exact q_i (by show _ = b2i (cmF 42 _ _); simp only [cmF]; simp [Int32.not_lt, Int32.not_le, b2i, c257]) hQ
              | exact q_i (by show _ = b2i (cmF 42 _ _); simp only [cmF]; simp [b2i, Int32.not_le.mp c257]) hQ
              | exact q_i (by show _ = b2i (cmF 42 _ _); simp only [cmF]; simp [b2i, Int32.not_lt.mp c257]) hQ
              | exact q_i (by show _ = b2i (cmF 42 _ _); simp only [cmF]; simp [b2i, Int32.not_lt.mpr c257]) hQ
              | exact q_i (by show _ = b2i (cmF 42 _ _); simp only [cmF]; simp [b2i, Int32.not_le.mpr c257]) hQ
              | exact q_i (by show _ = b2i (cmF 42 _ _); simp only [cmF]; simp [b2i, Classical.not_not.mp c257]) hQ
          · refine g_iconst h dX12_holds_260 (v := nI 1) rfl ?_
            refine g_goto h 265 dX12_holds_261 rfl ?_
            refine g_zret h dX12_holds_265 (by first | rfl | exact nar_b2i _) ?_
            first
              | exact q_i (by show _ = b2i (cmF 42 _ _); simp only [cmF]; simp [Int32.not_lt, Int32.not_le, b2i, c257]) hQ
              | exact q_i (by show _ = b2i (cmF 42 _ _); simp only [cmF]; simp [b2i, Int32.not_le.mp c257]) hQ
              | exact q_i (by show _ = b2i (cmF 42 _ _); simp only [cmF]; simp [b2i, Int32.not_lt.mp c257]) hQ
              | exact q_i (by show _ = b2i (cmF 42 _ _); simp only [cmF]; simp [b2i, Int32.not_lt.mpr c257]) hQ
              | exact q_i (by show _ = b2i (cmF 42 _ _); simp only [cmF]; simp [b2i, Int32.not_le.mpr c257]) hQ
              | exact q_i (by show _ = b2i (cmF 42 _ _); simp only [cmF]; simp [b2i, Classical.not_not.mp c257]) hQ
      · refine g_aload_0 h dX12_holds_0 ?_
        refine g_getP h fl_X12_87 dX12_holds_1 rfl rfl (by assumption) ?_
        refine g_getC h fl_X12_293 dX12_holds_4 rfl rfl ?_
        refine g_iload_1 h dX12_holds_7 ?_
        refine g_iald h n dX12_holds_8 rfl rfl (by omega) ?_
        rw [show I 102 n = nI i from ha]
        refine g_istore_3 h dX12_holds_9 (by decide) rfl ?_
        refine g_aload_0 h dX12_holds_10 ?_
        refine g_getP h fl_X12_87 dX12_holds_11 rfl rfl (by assumption) ?_
        refine g_getC h fl_X12_295 dX12_holds_14 rfl rfl ?_
        refine g_iload_1 h dX12_holds_17 ?_
        refine g_iald h n dX12_holds_18 rfl rfl (by omega) ?_
        rw [show I 103 n = nI j from hb]
        refine g_istore_4 h dX12_holds_19 (by decide) rfl ?_
        refine g_aload_0 h dX12_holds_21 ?_
        refine g_getP h fl_X12_87 dX12_holds_22 rfl rfl (by assumption) ?_
        refine g_getC h fl_X12_298 dX12_holds_25 rfl rfl ?_
        refine g_iload_1 h dX12_holds_28 ?_
        refine g_iald h n dX12_holds_29 rfl rfl (by omega) ?_
        rw [show I 101 n = nI 108 from ho]
        · refine g_lkup h 200 dX12_holds_30 (by decide) rfl rfl ?_
          refine g_aload_0 h dX12_holds_200 ?_
          refine g_iload_3 h dX12_holds_201 ?_
          refine g_aload_2 h dX12_holds_202 ?_
          refine g_cVi2 h rok0 mi_X12_reckon dX12_holds_203 ml_X12_304 rfl rfl rfl (Nat.le_of_ble_eq_true rfl) (Nat.le_of_ble_eq_true rfl) (sp_X12_reckonG hr hB hK (by omega) h1 ?_)
          refine g_aload_0 h dX12_holds_206 ?_
          refine g_iload_4 h dX12_holds_207 ?_
          refine g_aload_2 h dX12_holds_209 ?_
          refine g_cVi2 h rok0 mi_X12_reckon dX12_holds_210 ml_X12_304 rfl rfl rfl (Nat.le_of_ble_eq_true rfl) (Nat.le_of_ble_eq_true rfl) (sp_X12_reckonG hr hB hK (by omega) h2 ?_)
          refine g_icmp_gt h 220 dX12_holds_213 rfl (fun c213 => ?_) (fun c213 => ?_)
          · refine g_iconst h dX12_holds_220 (v := nI 0) rfl ?_
            refine g_zret h dX12_holds_221 (by first | rfl | exact nar_b2i _) ?_
            first
              | exact q_i (by show _ = b2i (cmF 43 _ _); simp only [cmF]; simp [b2i, Int32.not_le.mpr c213]) hQ
              | exact q_i (by show _ = b2i (cmF 43 _ _); simp only [cmF]; simp [b2i, Int32.not_le.mp c213]) hQ
              | exact q_i (by show _ = b2i (cmF 43 _ _); simp only [cmF]; simp [b2i, Int32.not_lt.mp c213]) hQ
              | exact q_i (by show _ = b2i (cmF 43 _ _); simp only [cmF]; simp [b2i, Int32.not_lt.mpr c213]) hQ
              | exact q_i (by show _ = b2i (cmF 43 _ _); simp only [cmF]; simp [b2i, Int32.not_le.mpr c213]) hQ
              | exact q_i (by show _ = b2i (cmF 43 _ _); simp only [cmF]; simp [b2i, Classical.not_not.mp c213]) hQ
          · refine g_iconst h dX12_holds_216 (v := nI 1) rfl ?_
            refine g_goto h 221 dX12_holds_217 rfl ?_
            refine g_zret h dX12_holds_221 (by first | rfl | exact nar_b2i _) ?_
            first
              | exact q_i (by show _ = b2i (cmF 43 _ _); simp only [cmF]; simp [Int32.not_lt, Int32.not_le, b2i, c213]) hQ
              | exact q_i (by show _ = b2i (cmF 43 _ _); simp only [cmF]; simp [b2i, Int32.not_le.mp c213]) hQ
              | exact q_i (by show _ = b2i (cmF 43 _ _); simp only [cmF]; simp [b2i, Int32.not_lt.mp c213]) hQ
              | exact q_i (by show _ = b2i (cmF 43 _ _); simp only [cmF]; simp [b2i, Int32.not_lt.mpr c213]) hQ
              | exact q_i (by show _ = b2i (cmF 43 _ _); simp only [cmF]; simp [b2i, Int32.not_le.mpr c213]) hQ
              | exact q_i (by show _ = b2i (cmF 43 _ _); simp only [cmF]; simp [b2i, Classical.not_not.mp c213]) hQ
      · refine g_aload_0 h dX12_holds_0 ?_
        refine g_getP h fl_X12_87 dX12_holds_1 rfl rfl (by assumption) ?_
        refine g_getC h fl_X12_293 dX12_holds_4 rfl rfl ?_
        refine g_iload_1 h dX12_holds_7 ?_
        refine g_iald h n dX12_holds_8 rfl rfl (by omega) ?_
        rw [show I 102 n = nI i from ha]
        refine g_istore_3 h dX12_holds_9 (by decide) rfl ?_
        refine g_aload_0 h dX12_holds_10 ?_
        refine g_getP h fl_X12_87 dX12_holds_11 rfl rfl (by assumption) ?_
        refine g_getC h fl_X12_295 dX12_holds_14 rfl rfl ?_
        refine g_iload_1 h dX12_holds_17 ?_
        refine g_iald h n dX12_holds_18 rfl rfl (by omega) ?_
        rw [show I 103 n = nI j from hb]
        refine g_istore_4 h dX12_holds_19 (by decide) rfl ?_
        refine g_aload_0 h dX12_holds_21 ?_
        refine g_getP h fl_X12_87 dX12_holds_22 rfl rfl (by assumption) ?_
        refine g_getC h fl_X12_298 dX12_holds_25 rfl rfl ?_
        refine g_iload_1 h dX12_holds_28 ?_
        refine g_iald h n dX12_holds_29 rfl rfl (by omega) ?_
        rw [show I 101 n = nI 103 from ho]
        · refine g_lkup h 222 dX12_holds_30 (by decide) rfl rfl ?_
          refine g_aload_0 h dX12_holds_222 ?_
          refine g_iload_3 h dX12_holds_223 ?_
          refine g_aload_2 h dX12_holds_224 ?_
          refine g_cVi2 h rok0 mi_X12_reckon dX12_holds_225 ml_X12_304 rfl rfl rfl (Nat.le_of_ble_eq_true rfl) (Nat.le_of_ble_eq_true rfl) (sp_X12_reckonG hr hB hK (by omega) h1 ?_)
          refine g_aload_0 h dX12_holds_228 ?_
          refine g_iload_4 h dX12_holds_229 ?_
          refine g_aload_2 h dX12_holds_231 ?_
          refine g_cVi2 h rok0 mi_X12_reckon dX12_holds_232 ml_X12_304 rfl rfl rfl (Nat.le_of_ble_eq_true rfl) (Nat.le_of_ble_eq_true rfl) (sp_X12_reckonG hr hB hK (by omega) h2 ?_)
          refine g_icmp_lt h 242 dX12_holds_235 rfl (fun c235 => ?_) (fun c235 => ?_)
          · refine g_iconst h dX12_holds_242 (v := nI 0) rfl ?_
            refine g_zret h dX12_holds_243 (by first | rfl | exact nar_b2i _) ?_
            first
              | exact q_i (by show _ = b2i (cmF 44 _ _); simp only [cmF]; simp [b2i, Int32.not_le.mpr c235]) hQ
              | exact q_i (by show _ = b2i (cmF 44 _ _); simp only [cmF]; simp [b2i, Int32.not_le.mp c235]) hQ
              | exact q_i (by show _ = b2i (cmF 44 _ _); simp only [cmF]; simp [b2i, Int32.not_lt.mp c235]) hQ
              | exact q_i (by show _ = b2i (cmF 44 _ _); simp only [cmF]; simp [b2i, Int32.not_lt.mpr c235]) hQ
              | exact q_i (by show _ = b2i (cmF 44 _ _); simp only [cmF]; simp [b2i, Int32.not_le.mpr c235]) hQ
              | exact q_i (by show _ = b2i (cmF 44 _ _); simp only [cmF]; simp [b2i, Classical.not_not.mp c235]) hQ
          · refine g_iconst h dX12_holds_238 (v := nI 1) rfl ?_
            refine g_goto h 243 dX12_holds_239 rfl ?_
            refine g_zret h dX12_holds_243 (by first | rfl | exact nar_b2i _) ?_
            first
              | exact q_i (by show _ = b2i (cmF 44 _ _); simp only [cmF]; simp [Int32.not_lt, Int32.not_le, b2i, c235]) hQ
              | exact q_i (by show _ = b2i (cmF 44 _ _); simp only [cmF]; simp [b2i, Int32.not_le.mp c235]) hQ
              | exact q_i (by show _ = b2i (cmF 44 _ _); simp only [cmF]; simp [b2i, Int32.not_lt.mp c235]) hQ
              | exact q_i (by show _ = b2i (cmF 44 _ _); simp only [cmF]; simp [b2i, Int32.not_lt.mpr c235]) hQ
              | exact q_i (by show _ = b2i (cmF 44 _ _); simp only [cmF]; simp [b2i, Int32.not_le.mpr c235]) hQ
              | exact q_i (by show _ = b2i (cmF 44 _ _); simp only [cmF]; simp [b2i, Classical.not_not.mp c235]) hQ
theorem bvR {r : Nat} (hr : r = 91 ∨ r = 92) (I : MI) (x : Nat → Int32) : bv (setRow I r x) = bv I := by
  funext k
  show setRow I r x (93 + k) = I (93 + k)
  exact setRow_o (by omega)
def obR (row : Nat → Int32) (cr : Int32) (tie : Bool) (tg kk : Nat) (x : Int32) : Nat → Int32 :=
  upd (upd (upd (upd row (if tie then 3 + tg else 19 + tg) (if tooB (row (25 + kk)) cr then x - rem10 x else x)) (25 + kk) (upd row (if tie then 3 + tg else 19 + tg) (if tooB (row (25 + kk)) cr then x - rem10 x else x) (25 + kk) + (nI 1 + knR (if tooB (row (25 + kk)) cr then x - rem10 x else x) / nI 4))) (30 + kk) (upd (upd row (if tie then 3 + tg else 19 + tg) (if tooB (row (25 + kk)) cr then x - rem10 x else x)) (25 + kk) (upd row (if tie then 3 + tg else 19 + tg) (if tooB (row (25 + kk)) cr then x - rem10 x else x) (25 + kk) + (nI 1 + knR (if tooB (row (25 + kk)) cr then x - rem10 x else x) / nI 4)) (30 + kk) + nI 1)) 1 (upd (upd (upd row (if tie then 3 + tg else 19 + tg) (if tooB (row (25 + kk)) cr then x - rem10 x else x)) (25 + kk) (upd row (if tie then 3 + tg else 19 + tg) (if tooB (row (25 + kk)) cr then x - rem10 x else x) (25 + kk) + (nI 1 + knR (if tooB (row (25 + kk)) cr then x - rem10 x else x) / nI 4))) (30 + kk) (upd (upd row (if tie then 3 + tg else 19 + tg) (if tooB (row (25 + kk)) cr then x - rem10 x else x)) (25 + kk) (upd row (if tie then 3 + tg else 19 + tg) (if tooB (row (25 + kk)) cr then x - rem10 x else x) (25 + kk) + (nI 1 + knR (if tooB (row (25 + kk)) cr then x - rem10 x else x) / nI 4)) (30 + kk) + nI 1) 1 + nI 1)
def rT (B : MI) (q : Nat) : Bool := decide (B 7 (5 * q) = nI 11)
def rG (B : MI) (q : Nat) : Nat := ix (B 7 (5 * q + 1))
def rK (B : MI) (q : Nat) : Nat := ix (B 7 (5 * q + 2))
def tsOK (B : MI) (q : Nat) : Option EX → Prop
  | none => B 7 (5 * q + 4) = -1
  | some E => ∃ n, B 7 (5 * q + 4) = nI n ∧ dn B 401 false n E
def orK (B : MI) (q : Nat) (ts : Option EX) (es : EX) : Prop := B 7 (5 * q + 1) = nI (rG B q) ∧ (if rT B q then rG B q < nN B else rG B q < nT B) ∧ B 7 (5 * q + 2) = nI (rK B q) ∧ rK B q < nK B ∧ tsOK B q ts ∧ (rT B q = true → ∃ n, B 7 (5 * q + 3) = nI n ∧ dn B 401 true n es)
def tsB (B : MI) (row : Nat → Int32) : Option EX → Bool
  | none => true
  | some E => !decide (E (evR B row) = 0)
def ob1 (B : MI) (ts : Option EX) (es : EX) (row : Nat → Int32) (q : Nat) : Nat → Int32 := if tsB B row ts then obR row (B 6 (rK B q)) (rT B q) (rG B q) (rK B q) (if rT B q then clF (es (evR B row)) else dueB B row (rG B q)) else row
theorem nI_nm1 {n : Nat} (h : n < 401) : ¬ nI n = -1 := fun e => nI_pos (show n < 2 ^ 31 by omega) (by rw [e]; decide)
theorem dn_lt {B : MI} : ∀ {f : Nat} {s : Bool} {n : Nat} {E : EX}, dn B f s n E → n < 401
  | 0, _, _, _, h => absurd h id
  | _ + 1, _, _, _, h => h.1
set_option maxRecDepth 100000 in
set_option maxHeartbeats 8000000 in
theorem sp_X12_obey {d q r : Nat} (hr : r = 91 ∨ r = 92) {I : MI} {J : MJ} {P : MP} (hB : P 80 8 = some 93) (hK : bkOK (bv I)) (hq : q < nO (bv I)) {ts : Option EX} {es : EX} (ho : orK (bv I) q ts es) {Q : MI → MJ → MP → Prop} (hQ : Q (setRow I r (ob1 (bv I) ts es (I r) q)) J P) : Sp yX12_obey cX12_obey 8 none (d + 409) [.ref 80, .ref r, .int (nI (5 * q))] I J P (Qv Q) := by
  intro Γ h
  show VG Γ 0 0 0 [some (.ref 80), some (.ref r), some (.int (nI (5 * q))), none, none, none, none, none] [] _ _ _ _
  have hN := (bk_N hK).1
  have hN16 := (bk_N hK).2
  have hT := bk_T hK
  have hKe := bk_K hK
  have hOe := bk_O hK
  have ht := bk_t hK
  obtain ⟨o1, o2, o3, o4, o5, o6⟩ := ho
  have hkk : I 99 (rK (bv I) q) = bv I 6 (rK (bv I) q) := rfl
  unfold ob1 at hQ
  have hA : ∀ (b : Bool), tsB (bv I) (I r) ts = b → (b = false → Q I J P) ∧ (b = true → Q (setRow I r (obR (I r) (bv I 6 (rK (bv I) q)) (rT (bv I) q) (rG (bv I) q) (rK (bv I) q) (if rT (bv I) q then clF (es (evR (bv I) (I r))) else dueB (bv I) (I r) (rG (bv I) q)))) J P) := by
    intro b hb
    rw [hb] at hQ
    refine ⟨fun e => ?_, fun e => ?_⟩
    · subst e
      exact q_I (by rw [if_neg (by decide), setRow_id]) hQ
    · subst e
      exact q_I (by rw [if_pos rfl]) hQ
  have hU : tsB (bv I) (I r) ts = true → VG Γ 0 0 27 [some (.ref 80), some (.ref r), some (.int (nI (5 * q))), some (.int (I 100 (5 * q + 4))), none, none, none, none] [] I J P (Fnl Γ (Qv Q)) := by
    intro hts
    replace hQ := (hA _ hts).2 rfl
    clear hA o5
    generalize hg : rG (bv I) q = tg at *
    generalize hk9 : rK (bv I) q = kk at *
    rcases hti : rT (bv I) q with _ | _
    · rw [hti] at o2 hQ
      have o2 : tg < nT (bv I) := by simpa using o2
      refine g_aload_0 h dX12_obey_27 ?_
      refine g_getP h fl_X12_87 dX12_obey_28 rfl rfl (by assumption) ?_
      refine g_getC h fl_X12_269 dX12_obey_31 rfl rfl ?_
      refine g_iload_2 h dX12_obey_34 ?_
      refine g_iald h (5 * q) dX12_obey_35 rfl rfl (by omega) ?_
      refine g_bipush h dX12_obey_36 (v := nI 11) rfl ?_
      refine g_icmp_ne h 45 dX12_obey_38 rfl (fun c38 => ?_) (fun c38 => ?_)
      · refine g_iconst h dX12_obey_45 (v := nI 0) rfl ?_
        refine g_istore_4 h dX12_obey_46 (by decide) rfl ?_
        refine g_aload_0 h dX12_obey_48 ?_
        refine g_getP h fl_X12_87 dX12_obey_49 rfl rfl (by assumption) ?_
        refine g_getC h fl_X12_269 dX12_obey_52 rfl rfl ?_
        refine g_iload_2 h dX12_obey_55 ?_
        refine g_iconst h dX12_obey_56 (v := nI 1) rfl ?_
        refine g_iadd h dX12_obey_57 ?_
        refine g_iald h (5 * q + 1) dX12_obey_58 rfl (nI_add (5 * q) 1) (by omega) ?_
        rw [show I 100 (5 * q + 1) = nI tg from o1]
        refine g_istore_5 h dX12_obey_59 (by decide) rfl ?_
        refine g_aload_0 h dX12_obey_61 ?_
        refine g_getP h fl_X12_87 dX12_obey_62 rfl rfl (by assumption) ?_
        refine g_getC h fl_X12_269 dX12_obey_65 rfl rfl ?_
        refine g_iload_2 h dX12_obey_68 ?_
        refine g_iconst h dX12_obey_69 (v := nI 2) rfl ?_
        refine g_iadd h dX12_obey_70 ?_
        refine g_iald h (5 * q + 2) dX12_obey_71 rfl (nI_add (5 * q) 2) (by omega) ?_
        rw [show I 100 (5 * q + 2) = nI kk from o3]
        refine g_istore_6 h dX12_obey_72 (by decide) rfl ?_
        refine g_iload_4 h dX12_obey_74 ?_
        refine g_if_eq h 108 dX12_obey_76 rfl (fun c76 => ?_) (fun c76 => ?_)
        · refine g_aload_0 h dX12_obey_108 ?_
          refine g_aload_1 h dX12_obey_109 ?_
          refine g_iload_5 h dX12_obey_110 ?_
          refine g_cVi2 h rok0 mi_X12_due dX12_obey_112 ml_X12_290 rfl rfl rfl (Nat.le_of_ble_eq_true rfl) (Nat.le_of_ble_eq_true rfl) (sp_X12_due (d := d + 403) hr hB hN hN16 ht (by omega) (bk_Z hK tg o2).1 (bk_Z hK tg o2).2.1 (bk_Z hK tg o2).2.2 ?_)
          refine g_istore_7 h dX12_obey_115 (by decide) rfl ?_
          refine g_aload_0 h dX12_obey_117 ?_
          refine g_aload_1 h dX12_obey_118 ?_
          refine g_iload_6 h dX12_obey_119 ?_
          refine g_cVi2 h rok0 mi_X12_isWeary dX12_obey_121 ml_X12_327 rfl rfl rfl (Nat.le_of_ble_eq_true rfl) (Nat.le_of_ble_eq_true rfl) (sp_X12_isWeary hr hB (by omega) ?_)
          refine g_if_eq h 137 dX12_obey_124 rfl (fun c124 => ?_) (fun c124 => ?_)
          · refine g_aload_1 h dX12_obey_137 ?_
            refine g_iload_4 h dX12_obey_138 ?_
            refine g_if_eq h 150 dX12_obey_140 rfl (fun c140 => ?_) (fun c140 => ?_)
            · refine g_bipush h dX12_obey_150 (v := nI 19) rfl ?_
              refine g_iload_5 h dX12_obey_152 ?_
              refine g_iadd h dX12_obey_154 ?_
              refine g_iload_7 h dX12_obey_155 ?_
              refine g_iast h (19 + tg) dX12_obey_157 (shpR hr) (nI_add 19 tg) (by omega) ?_
              refine g_aload_1 h dX12_obey_158 ?_
              refine g_bipush h dX12_obey_159 (v := nI 25) rfl ?_
              refine g_iload_6 h dX12_obey_161 ?_
              refine g_iadd h dX12_obey_163 ?_
              refine g_dup2 h dX12_obey_164 rfl rfl ?_
              refine g_iald h (25 + kk) dX12_obey_165 (shpR hr) (nI_add 25 kk) (by omega) ?_
              refine g_iconst h dX12_obey_166 (v := nI 1) rfl ?_
              refine g_iload_7 h dX12_obey_167 ?_
              refine g_cSi1 h rok0 mi_X12_knots dX12_obey_169 ml_X12_301 (Nat.le_of_ble_eq_true rfl) (Nat.le_of_ble_eq_true rfl) (sp_X12_knots (d := d + 407) ?_)
              refine g_iconst h dX12_obey_172 (v := nI 4) rfl ?_
              refine g_idiv h dX12_obey_173 (by decide) ?_
              refine g_iadd h dX12_obey_174 ?_
              refine g_iadd h dX12_obey_175 ?_
              refine g_iast h (25 + kk) dX12_obey_176 (shpR hr) (nI_add 25 kk) (by omega) ?_
              refine g_aload_1 h dX12_obey_177 ?_
              refine g_bipush h dX12_obey_178 (v := nI 30) rfl ?_
              refine g_iload_6 h dX12_obey_180 ?_
              refine g_iadd h dX12_obey_182 ?_
              refine g_dup2 h dX12_obey_183 rfl rfl ?_
              refine g_iald h (30 + kk) dX12_obey_184 (shpR hr) (nI_add 30 kk) (by omega) ?_
              refine g_iconst h dX12_obey_185 (v := nI 1) rfl ?_
              refine g_iadd h dX12_obey_186 ?_
              refine g_iast h (30 + kk) dX12_obey_187 (shpR hr) (nI_add 30 kk) (by omega) ?_
              refine g_aload_1 h dX12_obey_188 ?_
              refine g_iconst h dX12_obey_189 (v := nI 1) rfl ?_
              refine g_dup2 h dX12_obey_190 rfl rfl ?_
              refine g_iald h 1 dX12_obey_191 (shpR hr) rfl (by omega) ?_
              refine g_iconst h dX12_obey_192 (v := nI 1) rfl ?_
              refine g_iadd h dX12_obey_193 ?_
              refine g_iast h 1 dX12_obey_194 (shpR hr) rfl (by omega) ?_
              refine g_vret h dX12_obey_195 ?_
              refine q_I ?_ hQ
              have e8 : bv I 6 kk = I 99 kk := rfl
              have e7 : dueB (bv I) (I r) tg = dueR (I 96) (I r) (I 98) (nN (bv I)) tg (zR (bv I) tg) := rfl
              have e9 : tooB (I r (25 + kk)) (I 99 kk) = false := by
                first
                  | exact b2i_n0.mp c124
                  | exact b2i_0.mp c124
              simp only [up2_row, setRow_s, setRow_2, obR, hti, e9, if_true, Bool.false_eq_true, if_false, clF, e8, e7, rem10]
            · exact absurd c140 (by decide)
          · refine g_iload_7 h dX12_obey_127 ?_
            refine g_iload_7 h dX12_obey_129 ?_
            refine g_bipush h dX12_obey_131 (v := nI 10) rfl ?_
            refine g_irem h dX12_obey_133 (by decide) ?_
            refine g_isub h dX12_obey_134 ?_
            refine g_istore_7 h dX12_obey_135 (by decide) rfl ?_
            refine g_aload_1 h dX12_obey_137 ?_
            refine g_iload_4 h dX12_obey_138 ?_
            refine g_if_eq h 150 dX12_obey_140 rfl (fun c140 => ?_) (fun c140 => ?_)
            · refine g_bipush h dX12_obey_150 (v := nI 19) rfl ?_
              refine g_iload_5 h dX12_obey_152 ?_
              refine g_iadd h dX12_obey_154 ?_
              refine g_iload_7 h dX12_obey_155 ?_
              refine g_iast h (19 + tg) dX12_obey_157 (shpR hr) (nI_add 19 tg) (by omega) ?_
              refine g_aload_1 h dX12_obey_158 ?_
              refine g_bipush h dX12_obey_159 (v := nI 25) rfl ?_
              refine g_iload_6 h dX12_obey_161 ?_
              refine g_iadd h dX12_obey_163 ?_
              refine g_dup2 h dX12_obey_164 rfl rfl ?_
              refine g_iald h (25 + kk) dX12_obey_165 (shpR hr) (nI_add 25 kk) (by omega) ?_
              refine g_iconst h dX12_obey_166 (v := nI 1) rfl ?_
              refine g_iload_7 h dX12_obey_167 ?_
              refine g_cSi1 h rok0 mi_X12_knots dX12_obey_169 ml_X12_301 (Nat.le_of_ble_eq_true rfl) (Nat.le_of_ble_eq_true rfl) (sp_X12_knots (d := d + 407) ?_)
              refine g_iconst h dX12_obey_172 (v := nI 4) rfl ?_
              refine g_idiv h dX12_obey_173 (by decide) ?_
              refine g_iadd h dX12_obey_174 ?_
              refine g_iadd h dX12_obey_175 ?_
              refine g_iast h (25 + kk) dX12_obey_176 (shpR hr) (nI_add 25 kk) (by omega) ?_
              refine g_aload_1 h dX12_obey_177 ?_
              refine g_bipush h dX12_obey_178 (v := nI 30) rfl ?_
              refine g_iload_6 h dX12_obey_180 ?_
              refine g_iadd h dX12_obey_182 ?_
              refine g_dup2 h dX12_obey_183 rfl rfl ?_
              refine g_iald h (30 + kk) dX12_obey_184 (shpR hr) (nI_add 30 kk) (by omega) ?_
              refine g_iconst h dX12_obey_185 (v := nI 1) rfl ?_
              refine g_iadd h dX12_obey_186 ?_
              refine g_iast h (30 + kk) dX12_obey_187 (shpR hr) (nI_add 30 kk) (by omega) ?_
              refine g_aload_1 h dX12_obey_188 ?_
              refine g_iconst h dX12_obey_189 (v := nI 1) rfl ?_
              refine g_dup2 h dX12_obey_190 rfl rfl ?_
              refine g_iald h 1 dX12_obey_191 (shpR hr) rfl (by omega) ?_
              refine g_iconst h dX12_obey_192 (v := nI 1) rfl ?_
              refine g_iadd h dX12_obey_193 ?_
              refine g_iast h 1 dX12_obey_194 (shpR hr) rfl (by omega) ?_
              refine g_vret h dX12_obey_195 ?_
              refine q_I ?_ hQ
              have e8 : bv I 6 kk = I 99 kk := rfl
              have e7 : dueB (bv I) (I r) tg = dueR (I 96) (I r) (I 98) (nN (bv I)) tg (zR (bv I) tg) := rfl
              have e9 : tooB (I r (25 + kk)) (I 99 kk) = true := by
                first
                  | exact b2i_n0.mp c124
                  | exact b2i_0.mp c124
              simp only [up2_row, setRow_s, setRow_2, obR, hti, e9, if_true, Bool.false_eq_true, if_false, clF, e8, e7, rem10]
            · exact absurd c140 (by decide)
        · exact absurd c76 (by decide)
      · exact absurd (show bv I 7 (5 * q) = nI 11 from by first | exact c38 | exact Classical.not_not.mp c38) (by simpa [rT] using hti)
    · rw [hti] at o2 hQ
      have o2 : tg < nN (bv I) := by simpa using o2
      refine g_aload_0 h dX12_obey_27 ?_
      refine g_getP h fl_X12_87 dX12_obey_28 rfl rfl (by assumption) ?_
      refine g_getC h fl_X12_269 dX12_obey_31 rfl rfl ?_
      refine g_iload_2 h dX12_obey_34 ?_
      refine g_iald h (5 * q) dX12_obey_35 rfl rfl (by omega) ?_
      refine g_bipush h dX12_obey_36 (v := nI 11) rfl ?_
      refine g_icmp_ne h 45 dX12_obey_38 rfl (fun c38 => ?_) (fun c38 => ?_)
      · exact absurd (show bv I 7 (5 * q) = nI 11 by simpa [rT] using hti) c38
      · refine g_iconst h dX12_obey_41 (v := nI 1) rfl ?_
        refine g_goto h 46 dX12_obey_42 rfl ?_
        refine g_istore_4 h dX12_obey_46 (by decide) rfl ?_
        refine g_aload_0 h dX12_obey_48 ?_
        refine g_getP h fl_X12_87 dX12_obey_49 rfl rfl (by assumption) ?_
        refine g_getC h fl_X12_269 dX12_obey_52 rfl rfl ?_
        refine g_iload_2 h dX12_obey_55 ?_
        refine g_iconst h dX12_obey_56 (v := nI 1) rfl ?_
        refine g_iadd h dX12_obey_57 ?_
        refine g_iald h (5 * q + 1) dX12_obey_58 rfl (nI_add (5 * q) 1) (by omega) ?_
        rw [show I 100 (5 * q + 1) = nI tg from o1]
        refine g_istore_5 h dX12_obey_59 (by decide) rfl ?_
        refine g_aload_0 h dX12_obey_61 ?_
        refine g_getP h fl_X12_87 dX12_obey_62 rfl rfl (by assumption) ?_
        refine g_getC h fl_X12_269 dX12_obey_65 rfl rfl ?_
        refine g_iload_2 h dX12_obey_68 ?_
        refine g_iconst h dX12_obey_69 (v := nI 2) rfl ?_
        refine g_iadd h dX12_obey_70 ?_
        refine g_iald h (5 * q + 2) dX12_obey_71 rfl (nI_add (5 * q) 2) (by omega) ?_
        rw [show I 100 (5 * q + 2) = nI kk from o3]
        refine g_istore_6 h dX12_obey_72 (by decide) rfl ?_
        refine g_iload_4 h dX12_obey_74 ?_
        refine g_if_eq h 108 dX12_obey_76 rfl (fun c76 => ?_) (fun c76 => ?_)
        · exact absurd c76 (by decide)
        · refine g_iconst h dX12_obey_79 (v := nI 0) rfl ?_
          refine g_sipush h dX12_obey_80 (v := nI 9999) rfl ?_
          refine g_aload_0 h dX12_obey_83 ?_
          refine g_aload_0 h dX12_obey_84 ?_
          refine g_getP h fl_X12_87 dX12_obey_85 rfl rfl (by assumption) ?_
          refine g_getC h fl_X12_269 dX12_obey_88 rfl rfl ?_
          refine g_iload_2 h dX12_obey_91 ?_
          refine g_iconst h dX12_obey_92 (v := nI 3) rfl ?_
          refine g_iadd h dX12_obey_93 ?_
          refine g_iald h (5 * q + 3) dX12_obey_94 rfl (nI_add (5 * q) 3) (by omega) ?_
          obtain ⟨n, n1, n2⟩ := o6 hti
          rw [show I 100 (5 * q + 3) = nI n from n1]
          refine g_aload_1 h dX12_obey_95 ?_
          refine g_cVi2 h rok0 mi_X12_reckon dX12_obey_96 ml_X12_304 rfl rfl rfl (Nat.le_of_ble_eq_true rfl) (Nat.le_of_ble_eq_true rfl) (sp_X12_reckon hr hB hK 401 (d + 1) _ _ n2 ?_)
          refine g_mmin h dX12_obey_99 ml_X12_308 rok0 (Nat.le_of_ble_eq_true rfl) ?_
          refine g_mmax h dX12_obey_102 ml_X12_313 rok0 (Nat.le_of_ble_eq_true rfl) ?_
          refine g_goto h 115 dX12_obey_105 rfl ?_
          refine g_istore_7 h dX12_obey_115 (by decide) rfl ?_
          refine g_aload_0 h dX12_obey_117 ?_
          refine g_aload_1 h dX12_obey_118 ?_
          refine g_iload_6 h dX12_obey_119 ?_
          refine g_cVi2 h rok0 mi_X12_isWeary dX12_obey_121 ml_X12_327 rfl rfl rfl (Nat.le_of_ble_eq_true rfl) (Nat.le_of_ble_eq_true rfl) (sp_X12_isWeary hr hB (by omega) ?_)
          refine g_if_eq h 137 dX12_obey_124 rfl (fun c124 => ?_) (fun c124 => ?_)
          · refine g_aload_1 h dX12_obey_137 ?_
            refine g_iload_4 h dX12_obey_138 ?_
            refine g_if_eq h 150 dX12_obey_140 rfl (fun c140 => ?_) (fun c140 => ?_)
            · exact absurd c140 (by decide)
            · refine g_iconst h dX12_obey_143 (v := nI 3) rfl ?_
              refine g_iload_5 h dX12_obey_144 ?_
              refine g_iadd h dX12_obey_146 ?_
              refine g_goto h 155 dX12_obey_147 rfl ?_
              refine g_iload_7 h dX12_obey_155 ?_
              refine g_iast h (3 + tg) dX12_obey_157 (shpR hr) (nI_add 3 tg) (by omega) ?_
              refine g_aload_1 h dX12_obey_158 ?_
              refine g_bipush h dX12_obey_159 (v := nI 25) rfl ?_
              refine g_iload_6 h dX12_obey_161 ?_
              refine g_iadd h dX12_obey_163 ?_
              refine g_dup2 h dX12_obey_164 rfl rfl ?_
              refine g_iald h (25 + kk) dX12_obey_165 (shpR hr) (nI_add 25 kk) (by omega) ?_
              refine g_iconst h dX12_obey_166 (v := nI 1) rfl ?_
              refine g_iload_7 h dX12_obey_167 ?_
              refine g_cSi1 h rok0 mi_X12_knots dX12_obey_169 ml_X12_301 (Nat.le_of_ble_eq_true rfl) (Nat.le_of_ble_eq_true rfl) (sp_X12_knots (d := d + 407) ?_)
              refine g_iconst h dX12_obey_172 (v := nI 4) rfl ?_
              refine g_idiv h dX12_obey_173 (by decide) ?_
              refine g_iadd h dX12_obey_174 ?_
              refine g_iadd h dX12_obey_175 ?_
              refine g_iast h (25 + kk) dX12_obey_176 (shpR hr) (nI_add 25 kk) (by omega) ?_
              refine g_aload_1 h dX12_obey_177 ?_
              refine g_bipush h dX12_obey_178 (v := nI 30) rfl ?_
              refine g_iload_6 h dX12_obey_180 ?_
              refine g_iadd h dX12_obey_182 ?_
              refine g_dup2 h dX12_obey_183 rfl rfl ?_
              refine g_iald h (30 + kk) dX12_obey_184 (shpR hr) (nI_add 30 kk) (by omega) ?_
              refine g_iconst h dX12_obey_185 (v := nI 1) rfl ?_
              refine g_iadd h dX12_obey_186 ?_
              refine g_iast h (30 + kk) dX12_obey_187 (shpR hr) (nI_add 30 kk) (by omega) ?_
              refine g_aload_1 h dX12_obey_188 ?_
              refine g_iconst h dX12_obey_189 (v := nI 1) rfl ?_
              refine g_dup2 h dX12_obey_190 rfl rfl ?_
              refine g_iald h 1 dX12_obey_191 (shpR hr) rfl (by omega) ?_
              refine g_iconst h dX12_obey_192 (v := nI 1) rfl ?_
              refine g_iadd h dX12_obey_193 ?_
              refine g_iast h 1 dX12_obey_194 (shpR hr) rfl (by omega) ?_
              refine g_vret h dX12_obey_195 ?_
              refine q_I ?_ hQ
              have e8 : bv I 6 kk = I 99 kk := rfl
              have e7 : dueB (bv I) (I r) tg = dueR (I 96) (I r) (I 98) (nN (bv I)) tg (zR (bv I) tg) := rfl
              have e9 : tooB (I r (25 + kk)) (I 99 kk) = false := by
                first
                  | exact b2i_n0.mp c124
                  | exact b2i_0.mp c124
              simp only [up2_row, setRow_s, setRow_2, obR, hti, e9, if_true, Bool.false_eq_true, if_false, clF, e8, e7, rem10]
          · refine g_iload_7 h dX12_obey_127 ?_
            refine g_iload_7 h dX12_obey_129 ?_
            refine g_bipush h dX12_obey_131 (v := nI 10) rfl ?_
            refine g_irem h dX12_obey_133 (by decide) ?_
            refine g_isub h dX12_obey_134 ?_
            refine g_istore_7 h dX12_obey_135 (by decide) rfl ?_
            refine g_aload_1 h dX12_obey_137 ?_
            refine g_iload_4 h dX12_obey_138 ?_
            refine g_if_eq h 150 dX12_obey_140 rfl (fun c140 => ?_) (fun c140 => ?_)
            · exact absurd c140 (by decide)
            · refine g_iconst h dX12_obey_143 (v := nI 3) rfl ?_
              refine g_iload_5 h dX12_obey_144 ?_
              refine g_iadd h dX12_obey_146 ?_
              refine g_goto h 155 dX12_obey_147 rfl ?_
              refine g_iload_7 h dX12_obey_155 ?_
              refine g_iast h (3 + tg) dX12_obey_157 (shpR hr) (nI_add 3 tg) (by omega) ?_
              refine g_aload_1 h dX12_obey_158 ?_
              refine g_bipush h dX12_obey_159 (v := nI 25) rfl ?_
              refine g_iload_6 h dX12_obey_161 ?_
              refine g_iadd h dX12_obey_163 ?_
              refine g_dup2 h dX12_obey_164 rfl rfl ?_
              refine g_iald h (25 + kk) dX12_obey_165 (shpR hr) (nI_add 25 kk) (by omega) ?_
              refine g_iconst h dX12_obey_166 (v := nI 1) rfl ?_
              refine g_iload_7 h dX12_obey_167 ?_
              refine g_cSi1 h rok0 mi_X12_knots dX12_obey_169 ml_X12_301 (Nat.le_of_ble_eq_true rfl) (Nat.le_of_ble_eq_true rfl) (sp_X12_knots (d := d + 407) ?_)
              refine g_iconst h dX12_obey_172 (v := nI 4) rfl ?_
              refine g_idiv h dX12_obey_173 (by decide) ?_
              refine g_iadd h dX12_obey_174 ?_
              refine g_iadd h dX12_obey_175 ?_
              refine g_iast h (25 + kk) dX12_obey_176 (shpR hr) (nI_add 25 kk) (by omega) ?_
              refine g_aload_1 h dX12_obey_177 ?_
              refine g_bipush h dX12_obey_178 (v := nI 30) rfl ?_
              refine g_iload_6 h dX12_obey_180 ?_
              refine g_iadd h dX12_obey_182 ?_
              refine g_dup2 h dX12_obey_183 rfl rfl ?_
              refine g_iald h (30 + kk) dX12_obey_184 (shpR hr) (nI_add 30 kk) (by omega) ?_
              refine g_iconst h dX12_obey_185 (v := nI 1) rfl ?_
              refine g_iadd h dX12_obey_186 ?_
              refine g_iast h (30 + kk) dX12_obey_187 (shpR hr) (nI_add 30 kk) (by omega) ?_
              refine g_aload_1 h dX12_obey_188 ?_
              refine g_iconst h dX12_obey_189 (v := nI 1) rfl ?_
              refine g_dup2 h dX12_obey_190 rfl rfl ?_
              refine g_iald h 1 dX12_obey_191 (shpR hr) rfl (by omega) ?_
              refine g_iconst h dX12_obey_192 (v := nI 1) rfl ?_
              refine g_iadd h dX12_obey_193 ?_
              refine g_iast h 1 dX12_obey_194 (shpR hr) rfl (by omega) ?_
              refine g_vret h dX12_obey_195 ?_
              refine q_I ?_ hQ
              have e8 : bv I 6 kk = I 99 kk := rfl
              have e7 : dueB (bv I) (I r) tg = dueR (I 96) (I r) (I 98) (nN (bv I)) tg (zR (bv I) tg) := rfl
              have e9 : tooB (I r (25 + kk)) (I 99 kk) = true := by
                first
                  | exact b2i_n0.mp c124
                  | exact b2i_0.mp c124
              simp only [up2_row, setRow_s, setRow_2, obR, hti, e9, if_true, Bool.false_eq_true, if_false, clF, e8, e7, rem10]
  rcases ts with _ | E
  · refine g_aload_0 h dX12_obey_0 ?_
    refine g_getP h fl_X12_87 dX12_obey_1 rfl rfl (by assumption) ?_
    refine g_getC h fl_X12_269 dX12_obey_4 rfl rfl ?_
    refine g_iload_2 h dX12_obey_7 ?_
    refine g_iconst h dX12_obey_8 (v := nI 4) rfl ?_
    refine g_iadd h dX12_obey_9 ?_
    refine g_iald h (5 * q + 4) dX12_obey_10 rfl (nI_add (5 * q) 4) (by omega) ?_
    refine g_istore_3 h dX12_obey_11 (by decide) rfl ?_
    refine g_iload_3 h dX12_obey_12 ?_
    refine g_iconst h dX12_obey_13 (v := (-1)) rfl ?_
    refine g_icmp_eq h 27 dX12_obey_14 rfl (fun c14 => ?_) (fun c14 => ?_)
    · exact hU rfl
    · exact absurd (show I 100 (5 * q + 4) = -1 from o5) c14
  · obtain ⟨n, n1, n2⟩ := o5
    refine g_aload_0 h dX12_obey_0 ?_
    refine g_getP h fl_X12_87 dX12_obey_1 rfl rfl (by assumption) ?_
    refine g_getC h fl_X12_269 dX12_obey_4 rfl rfl ?_
    refine g_iload_2 h dX12_obey_7 ?_
    refine g_iconst h dX12_obey_8 (v := nI 4) rfl ?_
    refine g_iadd h dX12_obey_9 ?_
    refine g_iald h (5 * q + 4) dX12_obey_10 rfl (nI_add (5 * q) 4) (by omega) ?_
    refine g_istore_3 h dX12_obey_11 (by decide) rfl ?_
    refine g_iload_3 h dX12_obey_12 ?_
    refine g_iconst h dX12_obey_13 (v := (-1)) rfl ?_
    refine g_icmp_eq h 27 dX12_obey_14 rfl (fun c14 => ?_) (fun c14 => ?_)
    · exact absurd (show nI n = -1 from n1.symm.trans c14) (nI_nm1 (dn_lt n2))
    · refine g_aload_0 h dX12_obey_17 ?_
      rw [show I 100 (5 * q + 4) = nI n from n1]
      refine g_iload_3 h dX12_obey_18 ?_
      refine g_aload_1 h dX12_obey_19 ?_
      refine g_cVi2 h rok0 mi_X12_holds dX12_obey_20 ml_X12_323 rfl rfl rfl (Nat.le_of_ble_eq_true rfl) (Nat.le_of_ble_eq_true rfl) (sp_X12_holds hr hB hK 401 d _ _ n2 ?_)
      refine g_if_ne h 27 dX12_obey_23 rfl (fun c23 => ?_) (fun c23 => ?_)
      · rw [show I 100 (5 * q + 4) = nI n from n1] at hU
        exact hU (by show (!decide (E (evR (bv I) (I r)) = 0)) = true; rw [decide_eq_false c23]; rfl)
      · refine g_vret h dX12_obey_26 ?_
        exact (hA _ (by show (!decide (E (evR (bv I) (I r)) = 0)) = false; rw [decide_eq_true (by first | exact c23 | exact Classical.not_not.mp c23)]; rfl)).1 rfl
