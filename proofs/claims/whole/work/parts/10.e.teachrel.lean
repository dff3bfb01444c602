/-! Pure: behind both teaches the worlds agree -/
theorem aab_m1 {u : Nat → Int32} {N f : Nat} {m : Int32} {s : Nat → Int32} : aab u N f (-1) m s = s := by
  cases f with
  | zero => rfl
  | succ f => rw [aab, has_m1, if_neg (by decide)]
theorem aab_low {u u' : Nat → Int32} {N : Nat} (hN : N ≤ 16) (hu : chD u N) : ∀ (f i : Nat) (m : Int32) (s : Nat → Int32), i < N → (∀ k, k ≤ i → u' k = u k) → aab u' N f (nI i) m s = aab u N f (nI i) m s := by
  intro f
  induction f with
  | zero => exact fun i m s _ _ => rfl
  | succ f ih =>
    intro i m s hi e
    rw [aab, aab, if_pos (has_j hi (by decide) hN), if_pos (has_j hi (by decide) hN), ix_n (by omega), e i (Nat.le_refl _)]
    rcases hu i hi with q | ⟨j, j1, j2⟩
    · rw [q, aab_m1, aab_m1]
    · rw [j2]
      exact ih j _ _ (by omega) (fun k hk => e k (by omega))
def bgV (t4 : Nat → Int32) (i k : Nat) : Int32 := if k < i then t4 k else nI 0
def bgInv (u t2 t4 : Nat → Int32) (N i : Nat) (I : MI) : Prop := (∀ k, k < i → I 21 k = t2 k ∧ I 22 k = u k) ∧ (∀ k, k < N → I 23 k = bgV t4 i k) ∧ lcl u (bgV t4 i) (I 24) N ∧ ∀ k, k < N → I 60 k = t2 k ∧ I 61 k = u k ∧ I 62 k = t4 k
theorem bg_inv {u t2 t4 : Nat → Int32} {N : Nat} (hc : clo u N) (hu : chD u N) (hh : ∀ k, k < N → chn u N 4 (nI k)) : ∀ (f i : Nat) (I : MI), i + f = N → bgInv u t2 t4 N i I → bgInv u t2 t4 N N (bgI N f i I) ∧ ∀ a, a ≠ 21 → a ≠ 22 → a ≠ 23 → a ≠ 24 → bgI N f i I a = I a := by
  have hN := hc.1
  intro f
  induction f with
  | zero =>
    intro i I hi h
    obtain rfl : i = N := by omega
    exact ⟨h, fun _ _ _ _ _ => rfl⟩
  | succ f ih =>
    intro i I hi h
    obtain ⟨h1, h2, h3, h4⟩ := h
    have hiN : i < N := by omega
    obtain ⟨v2, v3, v4⟩ := h4 i hiN
    rw [bgI]
    have e21 : tieI (up2 (up2 I 21 i (I 60 i)) 22 i (I 61 i)) N i (I 62 i) 21 = upd (I 21) i (t2 i) := by
      rw [tieI, setRow_o (by decide), setRow_o (by decide), up2_row, setRow_o (by decide), up2_row, setRow_s, v2]
    have e22 : up2 (up2 I 21 i (I 60 i)) 22 i (I 61 i) 22 = upd (I 22) i (u i) := by
      rw [up2_row, setRow_s, up2_o (by decide), v3]
    have e22' : tieI (up2 (up2 I 21 i (I 60 i)) 22 i (I 61 i)) N i (I 62 i) 22 = upd (I 22) i (u i) := by
      rw [tieI, setRow_o (by decide), setRow_o (by decide), e22]
    have e23 : up2 (up2 I 21 i (I 60 i)) 22 i (I 61 i) 23 = I 23 := by rw [up2_o (by decide), up2_o (by decide)]
    have e24 : up2 (up2 I 21 i (I 60 i)) 22 i (I 61 i) 24 = I 24 := by rw [up2_o (by decide), up2_o (by decide)]
    have e23' : tieI (up2 (up2 I 21 i (I 60 i)) 22 i (I 61 i)) N i (I 62 i) 23 = upd (I 23) i (t4 i) := by
      rw [tieI, setRow_o (by decide), setRow_s, e23, v4]
    have e24' : tieI (up2 (up2 I 21 i (I 60 i)) 22 i (I 61 i)) N i (I 62 i) 24 = aab u N 4 (nI i) (t4 i - bgV t4 i i) (I 24) := by
      rw [tieI, setRow_s, e22, e23, e24, v4, h2 i hiN]
      exact aab_low hN hu 4 i _ _ hiN (fun k hk => by
        by_cases q : k = i
        · subst q; exact upd_s
        · rw [upd_n q]; exact (h1 k (by omega)).2)
    have eo : ∀ a, a ≠ 21 → a ≠ 22 → a ≠ 23 → a ≠ 24 → tieI (up2 (up2 I 21 i (I 60 i)) 22 i (I 61 i)) N i (I 62 i) a = I a := fun a a1 a2 a3 a4 => by
      rw [tieI, setRow_o a4, setRow_o a3, up2_o a2, up2_o a1]
    have ev : ∀ k, upd (bgV t4 i) i (t4 i) k = bgV t4 (i + 1) k := fun k => by
      unfold bgV
      by_cases q : k = i
      · subst q; rw [upd_s, if_pos (by omega)]
      · rw [upd_n q]
        by_cases r : k < i
        · rw [if_pos r, if_pos (by omega)]
        · rw [if_neg r, if_neg (by omega)]
    obtain ⟨a1, a2⟩ := ih (i + 1) (tieI (up2 (up2 I 21 i (I 60 i)) 22 i (I 61 i)) N i (I 62 i)) (by omega) ⟨fun k hk => by
      rw [e21, e22']
      by_cases q : k = i
      · subst q; rw [upd_s, upd_s]; exact ⟨rfl, rfl⟩
      · rw [upd_n q, upd_n q]; exact h1 k (by omega), fun k hk => by
      rw [e23', ← ev]
      by_cases q : k = i
      · subst q; rw [upd_s, upd_s]
      · rw [upd_n q, upd_n q]; exact h2 k hk, by
      rw [e24']
      exact lcl_ext (lcl_tie h3 hc hiN (hh i hiN)) (fun k _ => (ev k).symm) (fun _ _ => rfl), fun k hk => by
      rw [eo 60 (by decide) (by decide) (by decide) (by decide), eo 61 (by decide) (by decide) (by decide) (by decide), eo 62 (by decide) (by decide) (by decide) (by decide)]
      exact h4 k hk⟩
    exact ⟨a1, fun a b1 b2 b3 b4 => (a2 a b1 b2 b3 b4).trans (eo a b1 b2 b3 b4)⟩
theorem lnsC_Z {K : Nat → Nat} {V m : Nat → Int32} {I : MI} {M : Nat} (hM : 45 ≤ K M) (hM4 : M ≤ 400) : ∀ f p z, p ≤ M → z ≤ p → lnsC K V m I f p z → (prG K f p).1 = true → ∃ Z, I 77 2 = nI Z ∧ Z < 2 ^ 31 := by
  intro f
  induction f with
  | zero => intro p z hp hz a _; exact ⟨z, a.1, by omega⟩
  | succ f ih =>
    intro p z hp hz a b
    rw [lnsC] at a
    rw [prG] at b
    by_cases k : K p = 45
    · rw [if_pos k] at a
      exact ⟨z, a.1, by omega⟩
    · rw [if_neg k] at a b
      by_cases k2 : (pL K p).1 = true
      · rw [if_pos k2] at b
        obtain ⟨z', c1, c2, c3, c4⟩ := a
        exact ih _ z' (pL_sh hM hp k2).2.2.2 c2 c4 b
      · rw [if_neg k2] at b
        exact Bool.noConfusion b
theorem op29 {D S : MI} {x : Int32} : opD D S 29 x = x := by
  unfold opD opF
  rw [if_pos rfl]
theorem op16 {D S : MI} {x y : Int32} : opD D S 16 x = opD D S 16 y := by
  unfold opD opF
  rw [if_neg (show ¬ (16 : Nat) = 29 by decide), if_pos rfl, if_neg (show ¬ (16 : Nat) = 29 by decide), if_pos rfl]
theorem exD_s {D S : MI} {f a : Nat} {L : List Int32} : exD D S (f + 1) a L = exD D S f (a + 1) (stpC (opD D S) (kD D a) (D 21 a) L) := rfl
/-- the class's code reckoned is what it means -/
theorem ex_pf {D S Ia : MI} {mm : Nat → Int32} : ∀ (f a : Nat) (L : List Int32), (∀ n, a ≤ n → n < a + f → cok Ia n ∧ D 20 n = Ia 78 n ∧ D 21 n = (if nI 17 ≤ Ia 78 n ∧ Ia 78 n ≤ nI 22 then mm (ix (Ia 79 n)) else Ia 79 n)) → exD D S f a L = pfC (evm mm (opD D S)) (Ia 78) (Ia 79) f a L := by
  intro f
  induction f with
  | zero => exact fun a L _ => rfl
  | succ f ih =>
    intro a L h
    obtain ⟨⟨k, k1, k2, k3⟩, d20, d21⟩ := h a (Nat.le_refl _) (by omega)
    have k4 := kdOK_lt k2
    have ek : kD D a = k := by
      show ix (D 20 a) = k
      rw [d20, k1, ix_n (by omega)]
    rw [k1] at d21
    rw [exD_s, ih _ _ (fun n a b => h n (by omega) (by omega)), ek, pfC, k1, ix_n (by omega)]
    congr 1
    unfold stpC
    by_cases c : k ≤ 22 ∨ k = 29
    · rw [if_pos c, if_pos c]
      congr 1
      unfold evm
      by_cases c1 : k = 29
      · rw [if_pos c1, d21, if_neg (fun q => absurd (leN q.2 (by omega) (by decide)) (by omega)), c1, op29]
      rw [if_neg c1]
      by_cases c2 : k = 16
      · rw [if_pos c2, c2]
        exact op16
      rw [if_neg c2]
      have c3 : 17 ≤ k ∧ k ≤ 22 := by
        unfold kdOK isOp isJo at k2
        omega
      rw [d21, if_pos ⟨nI_le c3.1 (by omega), nI_le c3.2 (by decide)⟩]
    · rw [if_neg c, if_neg c]
theorem rc_seg {D S Ia : MI} {mm : Nat → Int32} {z z' : Nat} {E : EX} (hs : seg mm Ia z z' E) (h : ∀ n, z ≤ n → n < z' → cok Ia n ∧ D 20 n = Ia 78 n ∧ D 21 n = (if nI 17 ≤ Ia 78 n ∧ Ia 78 n ≤ nI 22 then mm (ix (Ia 79 n)) else Ia 79 n)) : rcD D S z z' = E (opD D S) := by
  obtain ⟨h1, h2, h3⟩ := hs
  show (exD D S (z' - z) z []).headD (nI 0) = _
  rw [ex_pf (Ia := Ia) (mm := mm) _ _ _ (fun n a b => h n a (by omega)), h3]
  rfl
theorem b2i_d : ∀ b : Bool, (!decide (b2i b = nI 0)) = b := by decide
set_option maxHeartbeats 1000000 in
theorem teach_rel {Tp : Nat → Nat} {L : Nat} {ca : Nat → Int32} {I0 I1 I2 : MI} {J' : MJ} (hr : rtE Tp L ca = none) (hc : clK Tp L ca I0 I1 J') (hf : rfO Tp L ca I1 I2) (hm : I0 20 1 = I1 91 0) {D B S : MI} {row : Nat → Int32} (hD : ∀ k, k < 22 → D k = I2 (58 + k)) (hB : ∀ k, k < 11 → B k = I2 (104 + k)) (hS : ∀ k, k < 8 → S k = I2 (20 + k)) (hrow : row = I2 91) : ∃ ts es, relD D B ts es ∧ relS D S B row := by
  obtain ⟨hg, hE⟩ := smE_t hr
  have hM := (tM_ok (T := Tp) (L := L)).1
  have hM4 := (tM_ok (T := Tp) (L := L)).2.1
  obtain ⟨-, -, eca, ⟨Ia, Ib, l1, l2, l3, l4, l5, l6, l7, l8, l9⟩, fc⟩ := hc
  obtain ⟨-, -, -, r4, r5, r6, r7, ⟨z, z1, z2⟩, fr⟩ := hf
  subst l2
  have cb0 : cb T00 := ⟨by show ix (nI 0) ≤ 6; rw [ixz]; omega, by show ix (nI 0) ≤ 16; rw [ixz]; omega, by show ix (nI 0) ≤ 6; rw [ixz]; omega, by show ix (nI 0) ≤ 5; rw [ixz]; omega, by show ix (nI 0) ≤ 20; rw [ixz]; omega⟩
  have wf0 : wfT T00 := ⟨fun k hk => absurd hk (by show ¬ k < ix (nI 0); rw [ixz]; omega), fun k hk => absurd hk (by show ¬ k < ix (nI 0); rw [ixz]; omega)⟩
  have o0 : nO T00 = 0 := ixz
  have hcb := (cb_sm (K := tK Tp L) (V := tV Tp L) (wd := tC Tp L) (ca := Ia 9) 400 T00 0 cb0).1
  have hwf := wf_sm (V := tV Tp L) (wd := tC Tp L) (ca := Ia 9) hM 400 T00 0 (Nat.zero_le _) hg hE wf0 cb0
  obtain ⟨Z, hZ1, hZ2⟩ := lnsC_Z hM hM4 400 0 0 (Nat.zero_le _) (Nat.le_refl _) l1 hg
  obtain ⟨-, zM, zc⟩ := lnsC_cok hM hM4 hZ1 hZ2 400 0 0 (Nat.zero_le _) (Nat.le_refl _) l1 hg
  have hco := cls_ord (mm := Ib 16) hM hM4 hZ1 hZ2 rfl 400 0 0 T00 (Nat.zero_le _) (Nat.le_refl _) hg l1 hE l5 cb0 (by rw [if_pos o0])
  have hro := ref_ord (z := z) (I := I2) hM 400 0 T00 (Nat.zero_le _) hg hE z2 cb0
  have hTf : smN (tK Tp L) (tV Tp L) (tC Tp L) (Ia 9) = smT (tK Tp L) (tV Tp L) (tC Tp L) (Ia 9) 400 T00 0 := rfl
  rw [hTf] at l4 r5 r6 r7
  generalize hos : osE (tK Tp L) (tV Tp L) (tC Tp L) (Ia 9) 400 T00 0 = os at hco hro
  generalize smT (tK Tp L) (tV Tp L) (tC Tp L) (Ia 9) 400 T00 0 = Tf at l4 r5 r6 r7 hcb hwf hco hro
  obtain ⟨⟨⟨c0, c6⟩, cc⟩, ⟨⟨n0, n16⟩, nn⟩, ⟨⟨t0, t6⟩, tt⟩, ⟨⟨k0, k5⟩, kk⟩, ⟨⟨q0, q20⟩, qq⟩⟩ := l4
  obtain ⟨⟨b0, -⟩, -, b3, b4, b5, b6, b7⟩ := r6
  have d : ∀ k, k < 22 → k ≠ 21 → D k = Ib (58 + k) := fun k hk h21 => by
    rw [hD k hk, fr _ (by omega) (by omega), l6 _ (by omega) (by omega) (by omega)]
  have d21 : ∀ n, n < Z → D 21 n = tlO Ib n := fun n hn => by
    rw [hD 21 (by decide), fr _ (by omega) (by omega)]
    exact l7 Z hZ1 hZ2 n hn
  have ab : ∀ a, 77 ≤ a → a ≤ 79 → Ib a = Ia a := fun a a1 a2 => l3 a (by omega) (by omega) (by omega) (by omega)
  have e0 : D 0 = Ib 58 := d 0 (by decide) (by decide)
  have eC : nC D = nC Tf := by show ix (D 0 0) = _; rw [e0, c0, ix_n (by omega)]
  have eN : nN D = nN Tf := by show ix (D 0 1) = _; rw [e0, n0, ix_n (by omega)]
  have eT : nT D = nT Tf := by show ix (D 0 2) = _; rw [e0, t0, ix_n (by omega)]
  have eK : nK D = nK Tf := by show ix (D 0 3) = _; rw [e0, k0, ix_n (by omega)]
  have eO : nO D = nO Tf := by show ix (D 0 4) = _; rw [e0, q0, ix_n (by omega)]
  have g0 : B 0 = I2 104 := hB 0 (by decide)
  have gi : ∀ i, i < 5 → B 0 i = nI (ix (Tf 0 i)) := fun i hi => by rw [g0]; exact b0 i hi
  have di : ∀ i, i < 5 → D 0 i = nI (ix (Tf 0 i)) := fun i hi => by
    rw [e0]
    rcases (show i = 0 ∨ i = 1 ∨ i = 2 ∨ i = 3 ∨ i = 4 by omega) with rfl | rfl | rfl | rfl | rfl
    · exact c0
    · exact n0
    · exact t0
    · exact k0
    · exact q0
  have fC : nC B = nC Tf := by show ix (B 0 0) = _; rw [gi 0 (by decide), ix_n (by show nC Tf < _; omega)]; rfl
  have fN : nN B = nN Tf := by show ix (B 0 1) = _; rw [gi 1 (by decide), ix_n (by show nN Tf < _; omega)]; rfl
  have fT : nT B = nT Tf := by show ix (B 0 2) = _; rw [gi 2 (by decide), ix_n (by show nT Tf < _; omega)]; rfl
  have fK : nK B = nK Tf := by show ix (B 0 3) = _; rw [gi 3 (by decide), ix_n (by show nK Tf < _; omega)]; rfl
  have fO : nO B = nO Tf := by show ix (B 0 4) = _; rw [gi 4 (by decide), ix_n (by show nO Tf < _; omega)]; rfl
  have zD : ∀ a, a < nT Tf → ∃ y, y ≤ 8 ∧ D 5 a = nI y ∧ zS D a = y ∧ B 5 (9 * a) = nI y ∧ zR B a = y ∧ (∀ n, n < y → D (7 + a) n = B 5 (9 * a + 1 + n) ∧ ∃ j, j < nN Tf ∧ B 5 (9 * a + 1 + n) = nI j) := by
    intro a ha
    obtain ⟨-, y, y1, y2, y3, y4⟩ := tt a ha
    obtain ⟨w, w1, w2, w3, w4⟩ := b5 a ha
    obtain ⟨v, v1, v2, v3⟩ := hwf.2 a ha
    obtain rfl : y = w := eqN (y3.symm.trans w2) (by omega) (by omega)
    obtain rfl : y = v := eqN (y3.symm.trans v2) (by omega) (by omega)
    have x5 : D 5 a = nI y := by rw [d 5 (by decide) (by decide)]; exact y2
    have x6 : B 5 (9 * a) = nI y := by rw [hB 5 (by decide)]; exact w3
    refine ⟨y, y1, x5, by show ix (D 5 a) = y; rw [x5, ix_n (by omega)], x6, by show ix (B 5 (9 * a)) = y; rw [x6, ix_n (by omega)], fun n hn => ?_⟩
    have x7 : B 5 (9 * a + 1 + n) = Tf 5 (9 * a + 1 + n) := by rw [hB 5 (by decide)]; exact w4 n hn
    refine ⟨?_, ?_⟩
    · rw [x7, d (7 + a) (by omega) (by omega), show 58 + (7 + a) = 65 + a by omega]
      exact y4 n hn
    · rw [x7]
      exact v3 n hn
  have u3 : ∀ k, k < nN Tf → B 3 k = Tf 3 k := fun k hk => by rw [hB 3 (by decide)]; exact (b4 k hk).2.1
  have chT : chD (Tf 3) (nN Tf) := fun k hk => (nn k hk).2.2.2.2
  have chB : chD (B 3) (nN Tf) := fun k hk => by rw [u3 k hk]; exact chT k hk
  have dpB : ∀ k, k < nN Tf → dpt (B 3) 17 (nI k) ≤ 4 := fun k hk => by
    rw [dpt_e chT n16 u3 17 k hk]
    exact (nn k hk).2.2.2.1
  have chn4 : ∀ k, k < nN Tf → chn (B 3) (nN Tf) 4 (nI k) := fun k hk => dp_chn n16 chB k hk 4 17 (by omega) (dpB k hk)
  have tal4 : ∀ k, k < nN Tf → tal (B 3) (nN Tf) 4 k := fun k hk => dp_tal n16 chB dpB 4 k hk (by have := dp_pos (u := B 3) (k := k) (by omega); omega)
  have hbk : bkOK B := by
    refine ⟨⟨by rw [fC]; exact gi 0 (by decide), by omega⟩, ⟨by rw [fN]; exact gi 1 (by decide), by omega⟩, ⟨by rw [fT]; exact gi 2 (by decide), by omega⟩, ⟨by rw [fK]; exact gi 3 (by decide), by omega⟩, ⟨by rw [fO]; exact gi 4 (by decide), by omega⟩, fun a ha => ?_, fun k hk => ?_, fun k hk => ?_, fun k hk => ?_⟩
    · rw [fT] at ha
      obtain ⟨y, y1, y2, y3, y4, y5, y6⟩ := zD a ha
      rw [y5, fN]
      exact ⟨y4, y1, fun n hn => (y6 n hn).2⟩
    · rw [fN] at hk ⊢; exact chn4 k hk
    · rw [fN] at hk ⊢; exact tal4 k hk
    · rw [fN] at hk
      rw [fC, hB 2 (by decide)]
      obtain ⟨⟨j, j1, j2⟩, -⟩ := hwf.1 k hk
      exact ⟨j, j1, (b4 k hk).1.trans j2⟩
  have ord : ∀ q, q < nO Tf → (D 14 q = b2i (decide (Tf 7 (5 * q) = nI 11)) ∧ oT D q = decide (Tf 7 (5 * q) = nI 11)) ∧ (∃ z0 z1 z2, oB D q = z0 ∧ D 17 q = nI z1 ∧ D 18 q = nI z2 ∧ z0 ≤ z1 ∧ z1 ≤ z2 ∧ z2 ≤ Z ∧ (Tf 7 (5 * q) = nI 11 → seg (Ib 16) Ia z0 z1 (os q).1) ∧ ((os q).2 = none → z1 = z2) ∧ (∀ t, (os q).2 = some t → seg (Ib 16) Ia z1 z2 t)) ∧ (∃ g, D 15 q = nI g ∧ Tf 7 (5 * q + 1) = nI g ∧ g < (if Tf 7 (5 * q) = nI 11 then nN Tf else nT Tf)) ∧ (∃ k, D 16 q = nI k ∧ Tf 7 (5 * q + 2) = nI k ∧ k < nK Tf) := by
    intro q hq
    obtain ⟨x1, x2, x3, x4, x5⟩ := qq q hq
    obtain ⟨⟨z0, z1, z2, y1, y2, y3, y4⟩, ⟨g, g1, g2⟩, ⟨k, k1, k2⟩, -⟩ := hco q (by omega) hq
    have x14 : D 14 q = b2i (decide (Tf 7 (5 * q) = nI 11)) := by rw [d 14 (by decide) (by decide)]; exact x1
    refine ⟨⟨x14, by show (!decide (D 14 q = nI 0)) = _; rw [x14, b2i_d]⟩, ⟨z0, z1, z2, ?_, ?_, ?_, y4⟩, ⟨g, ?_, g1, g2⟩, k, ?_, k1, k2⟩
    · unfold oB
      by_cases e : q = 0
      · rw [if_pos e] at y1 ⊢; exact y1.symm
      · rw [if_neg e] at y1 ⊢
        obtain ⟨-, -, -, -, x5'⟩ := qq (q - 1) (by omega)
        show ix (D 18 (q - 1)) = z0
        rw [d 18 (by decide) (by decide)]
        show ix (Ib 76 (q - 1)) = z0
        rw [x5', y1, ix_n (by omega)]
    · rw [d 17 (by decide) (by decide)]; exact x4.trans y2
    · rw [d 18 (by decide) (by decide)]; exact x5.trans y3
    · rw [d 15 (by decide) (by decide)]; exact x2.trans g1
    · rw [d 16 (by decide) (by decide)]; exact x3.trans k1
  have e19 : D 19 2 = nI Z := by rw [d 19 (by decide) (by decide)]; show Ib 77 2 = _; rw [ab 77 (by decide) (by decide)]; exact hZ1
  have eZ : nZ D = Z := by show ix (D 19 2) = Z; rw [e19, ix_n hZ2]
  have e20 : D 20 = Ia 78 := by rw [d 20 (by decide) (by decide)]; exact ab 78 (by decide) (by decide)
  have code : ∀ n, n < Z → cok Ia n ∧ D 20 n = Ia 78 n ∧ D 21 n = (if nI 17 ≤ Ia 78 n ∧ Ia 78 n ≤ nI 22 then Ib 16 (ix (Ia 79 n)) else Ia 79 n) := fun n hn => by
    refine ⟨zc n (Nat.zero_le _) hn, by rw [e20], ?_⟩
    rw [d21 n hn]
    unfold tlO
    rw [ab 78 (by decide) (by decide), ab 79 (by decide) (by decide)]
  have htd : tdOK D := by
    refine ⟨⟨by rw [eC]; exact di 0 (by decide), by omega⟩, ⟨by rw [eN]; exact di 1 (by decide), by omega⟩, ⟨by rw [eT]; exact di 2 (by decide), by omega⟩, ⟨by rw [eK]; exact di 3 (by decide), by omega⟩, ⟨by rw [eO]; exact di 4 (by decide), by omega⟩, fun a ha => ?_, ⟨by rw [eZ]; exact e19, by omega⟩, fun n hn => ?_, fun q hq => ?_⟩
    · rw [eT] at ha
      obtain ⟨y, y1, y2, y3, -⟩ := zD a ha
      rw [y3]
      exact ⟨y2, y1⟩
    · rw [eZ] at hn
      obtain ⟨k, k1, k2, -⟩ := (code n hn).1
      have e : kD D n = k := by show ix (D 20 n) = k; rw [e20, k1, ix_n (by have := kdOK_lt k2; omega)]
      rw [e, e20]
      exact ⟨k1, k2⟩
    · rw [eO] at hq
      obtain ⟨⟨x1, x2⟩, ⟨z0, z1, z2, y1, y2, y3, y4, y5, y6, -⟩, ⟨g, g1, -, g2⟩, k, k1, -, k2⟩ := ord q hq
      have eF : oF D q = z1 := by show ix (D 17 q) = z1; rw [y2, ix_n (by omega)]
      have eE : oE D q = z2 := by show ix (D 18 q) = z2; rw [y3, ix_n (by omega)]
      have eg : g < 2 ^ 31 := by split at g2 <;> omega
      have eG : oG D q = g := by show ix (D 15 q) = g; rw [g1, ix_n eg]
      have eKK : oK D q = k := by show ix (D 16 q) = k; rw [k1, ix_n (by omega)]
      unfold ordOK
      rw [eF, eE, eG, eKK, y1, eK, eN, eT, eZ, x2]
      refine ⟨x1, g1, k1, y2, y3, k2, ?_, y4, y5, y6⟩
      by_cases c : Tf 7 (5 * q) = nI 11
      · rw [if_pos c] at g2; rw [if_pos (decide_eq_true c)]; exact g2
      · rw [if_neg c] at g2; rw [if_neg (by rw [decide_eq_false c]; decide)]; exact g2
  have hrelD : relD D B (fun q => (os q).2) (fun q => (os q).1) := by
    refine ⟨htd, hbk, fun i hi => (gi i hi).trans (di i hi).symm, fun k hk => ?_, fun a ha => ?_, fun k hk => ?_, fun q hq => ?_⟩
    · rw [eC] at hk
      rw [hB 1 (by decide), d 1 (by decide) (by decide)]
      exact (b3 k hk).trans (cc k hk).1.symm
    · rw [eT] at ha
      obtain ⟨y, y1, y2, y3, y4, y5, y6⟩ := zD a ha
      rw [y3, y5]
      exact ⟨rfl, fun n hn => (y6 n hn).1⟩
    · rw [eK] at hk
      rw [hB 6 (by decide), d 13 (by decide) (by decide)]
      exact (b6 k hk).trans (kk k hk).1.symm
    · rw [eO] at hq
      obtain ⟨⟨x1, x2⟩, ⟨z0, z1, z2, y1, y2, y3, y4, y5, y6, y7, y8, y9⟩, ⟨g, g1, g1', g2⟩, k, k1, k1', k2⟩ := ord q hq
      obtain ⟨s1, s2, s3⟩ := hro q (by omega) hq
      have eF : oF D q = z1 := by show ix (D 17 q) = z1; rw [y2, ix_n (by omega)]
      have eE : oE D q = z2 := by show ix (D 18 q) = z2; rw [y3, ix_n (by omega)]
      have eg : g < 2 ^ 31 := by split at g2 <;> omega
      have eG : oG D q = g := by show ix (D 15 q) = g; rw [g1, ix_n eg]
      have eKK : oK D q = k := by show ix (D 16 q) = k; rw [k1, ix_n (by omega)]
      have B7 : ∀ j, j < 3 → B 7 (5 * q + j) = Tf 7 (5 * q + j) := fun j hj => by rw [hB 7 (by decide)]; exact b7 q hq j hj
      have eT7 : rT B q = decide (Tf 7 (5 * q) = nI 11) := by
        unfold rT
        have := B7 0 (by decide)
        rw [Nat.add_zero] at this
        rw [this]
      have eG7 : rG B q = g := by show ix (B 7 (5 * q + 1)) = g; rw [B7 1 (by decide), g1', ix_n eg]
      have eK7 : rK B q = k := by show ix (B 7 (5 * q + 2)) = k; rw [B7 2 (by decide), k1', ix_n (by omega)]
      have nvB : nvR z (nv I2) B := ⟨fun n _ => ⟨by rw [hB 8 (by decide)]; rfl, by rw [hB 9 (by decide)]; rfl, by rw [hB 10 (by decide)]; rfl⟩, by show ix (I2 104 1) ≤ ix (B 0 1); rw [g0]; exact Nat.le_refl _, by show ix (I2 104 2) ≤ ix (B 0 2); rw [g0]; exact Nat.le_refl _, by show ix (I2 104 3) ≤ ix (B 0 3); rw [g0]; exact Nat.le_refl _⟩
      have cd : ∀ a b, b ≤ z2 → ∀ n, a ≤ n → n < b → cok Ia n ∧ D 20 n = Ia 78 n ∧ D 21 n = (if nI 17 ≤ Ia 78 n ∧ Ia 78 n ≤ nI 22 then Ib 16 (ix (Ia 79 n)) else Ia 79 n) := fun a b hb n a1 a2 => code n (by omega)
      refine ⟨⟨eT7.trans x2.symm, eG7.trans eG.symm, eK7.trans eKK.symm⟩, ⟨fun ht S' => ?_, fun ht => ?_, fun t ht => ?_⟩, ?_, ?_, ?_, ?_, ?_, fun ht => ?_⟩
      · rw [y1, eF]
        exact rc_seg (y7 (of_decide_eq_true (x2.symm.trans ht))) (cd _ _ (by omega))
      · rw [eF, eE]; exact y8 ht
      · rw [eF, eE]
        have sg := y9 t ht
        exact ⟨fun e => absurd (seg_lt sg) (by omega), fun S' => rc_seg sg (cd _ _ (Nat.le_refl _))⟩
      · rw [eG7, B7 1 (by decide)]; exact g1'
      · rw [eT7, eG7, fN, fT]
        by_cases c : Tf 7 (5 * q) = nI 11
        · rw [if_pos c] at g2; rw [if_pos (decide_eq_true c)]; exact g2
        · rw [if_neg c] at g2; rw [if_neg (by rw [decide_eq_false c]; decide)]; exact g2
      · rw [eK7, B7 2 (by decide)]; exact k1'
      · rw [eK7, fK]; exact k2
      · show tsOK B q (os q).2
        cases ht : (os q).2 with
        | none =>
          show B 7 (5 * q + 4) = -1
          rw [hB 7 (by decide)]
          exact s2 ht
        | some t =>
          obtain ⟨n, n1, n2, n3, n4⟩ := s3 t ht
          exact ⟨n, by rw [hB 7 (by decide)]; exact n1, dn_mono _ _ _ _ _ (by omega) (n4 B nvB)⟩
      · obtain ⟨n, n1, n2, n3, n4⟩ := s1 (eT7.symm.trans ht)
        exact ⟨n, by rw [hB 7 (by decide)]; exact n1, dn_mono _ _ _ _ _ (by omega) (n4 B nvB)⟩
  refine ⟨_, _, hrelD, ?_⟩
  have rw4 : ∀ k, k < nN Tf → rv row k = Tf 4 k := fun k hk => by
    show row (3 + k) = _
    rw [hrow, r5 _ (by omega) (by omega), if_pos (by omega), Nat.add_sub_cancel_left]
    exact (b4 k hk).2.2.1
  have rw0 : ∀ j, 1 ≤ j → j < 35 → (j < 3 ∨ 19 ≤ j) → row j = nI 0 := fun j j1 j2 j3 => by
    rw [hrow, r5 _ j1 j2, if_neg (by omega)]
  have bg := l9 (nN Tf) n0 n16
  have sI : ∀ k, k < 8 → S k = bgI (nN Tf) (nN Tf) 0 (bg0 Ib) (20 + k) := fun k hk => by
    rw [hS k hk, fr _ (by omega) (by omega)]
    exact bg _ (by omega) (by omega)
  have hclo : clo (B 3) (nN Tf) := chn_clo n16 chn4
  have z23 : ∀ k, k < nN Tf → bg0 Ib 23 k = nI 0 := fun k hk => by simp [bg0, setRow, flR, show k < 16 by omega]
  have z24 : ∀ k, k < nN Tf → bg0 Ib 24 k = nI 0 := fun k hk => by simp [bg0, setRow, flR, show k < 16 by omega]
  obtain ⟨⟨v1, v2, v3, -⟩, vo⟩ := bg_inv (t2 := B 2) (t4 := rv row) hclo chB chn4 (nN Tf) 0 (bg0 Ib) (by omega) ⟨fun k hk => absurd hk (by omega), fun k hk => by rw [z23 k hk, bgV, if_neg (by omega)], fun k hk => by
    rw [z24 k hk, bgV, if_neg (by omega)]
    refine (sumF_z _ _ (fun j _ hj => ?_)).symm
    show (if B 3 j = nI k then bg0 Ib 24 j else nI 0) = nI 0
    rw [z24 j (by omega)]
    split <;> rfl, fun k hk => by
    rw [bg0_o (by omega), bg0_o (by omega), bg0_o (by omega), u3 k hk, rw4 k hk, hB 2 (by decide)]
    obtain ⟨⟨w1, w2, w3⟩, -⟩ := nn k hk
    exact ⟨w1.trans (b4 k hk).1.symm, w2, w3⟩⟩
  have vn : ∀ k, k < nN Tf → bgV (rv row) (nN Tf) k = rv row k := fun k hk => by rw [bgV, if_pos hk]
  have h20 : S 0 = bg0 Ib 20 := by rw [sI 0 (by decide)]; exact vo 20 (by decide) (by decide) (by decide) (by decide)
  have e20b : bg0 Ib 20 = up2 (up2 Ib 20 2 (nI 0)) 20 3 (nI 0) 20 := by
    unfold bg0
    rw [setRow_o (by decide), setRow_o (by decide), setRow_o (by decide), setRow_o (by decide), setRow_o (by decide)]
  refine ⟨fun k hk => ?_, ?_, fun a ha => ?_, fun k hk => ?_, ?_, ?_, ?_⟩
  · rw [eN] at hk
    rw [sI 1 (by decide), sI 2 (by decide), sI 3 (by decide)]
    obtain ⟨⟨-, -⟩, w, w1, w2⟩ := hwf.1 k hk
    refine ⟨(v1 k hk).1, (v1 k hk).2, ?_, w, w1, ?_⟩
    · exact (v2 k hk).trans (vn k hk)
    · exact (rw4 k hk).trans w2
  · rw [eN, sI 4 (by decide)]
    exact lcl_ext v3 (fun k hk => (vn k hk).symm) (fun _ _ => rfl)
  · rw [eT] at ha
    rw [sI 5 (by decide), vo _ (by decide) (by decide) (by decide) (by decide), rw0 _ (by omega) (by omega) (by omega)]
    refine ⟨by simp [bg0, setRow, flR, show a < 6 by omega], 0, by decide, rfl⟩
  · rw [eK] at hk
    rw [sI 6 (by decide), sI 7 (by decide), vo _ (by decide) (by decide) (by decide) (by decide), vo _ (by decide) (by decide) (by decide) (by decide), rw0 _ (by omega) (by omega) (by omega), rw0 _ (by omega) (by omega) (by omega)]
    exact ⟨by simp [bg0, setRow, flR, show k < 5 by omega], by simp [bg0, setRow, flR, show k < 5 by omega]⟩
  · rw [h20, e20b, up2_n (by decide), up2_n (by decide), l8 20 (by decide) (by decide), hm, hrow, r4]
  · rw [h20, e20b, up2_n (by decide), up2_s, rw0 1 (by decide) (by decide) (by decide)]
  · rw [h20, e20b, up2_s, rw0 2 (by decide) (by decide) (by decide)]
