/-! What the class knows behind teach: in range, sums right -/
theorem chn_ext {u u' : Nat → Int32} {N : Nat} (hN : N ≤ 16) (e : ∀ k, k < N → u' k = u k) : ∀ (f : Nat) (c : Int32), chn u N f c → chn u' N f c
  | 0, _, h => h
  | f + 1, c, h => by
    rcases h with h | ⟨j, j1, j2, j3⟩
    · exact Or.inl h
    · refine Or.inr ⟨j, j1, j2, ?_⟩
      rw [e j j1]
      exact chn_ext hN e f _ j3
set_option maxHeartbeats 4000000 in
theorem teach_cls {Tp : Nat → Nat} {L : Nat} {ca : Nat → Int32} {I0 I1 : MI} {J' : MJ} (hr : tcE (tK Tp L) (tV Tp L) (tC Tp L) ca = none) (hc : clK Tp L ca I0 I1 J') (hcare : ∀ k, k < nK (smN (tK Tp L) (tV Tp L) (tC Tp L) ca) → ∃ c, c < 2 ^ 30 ∧ smN (tK Tp L) (tV Tp L) (tC Tp L) ca 6 k = nI c) {D S : MI} (hD : ∀ k, k < 22 → D k = I1 (58 + k)) (hS : ∀ k, k < 8 → S k = I1 (20 + k)) : okD D ∧ okS D S 0 0 ∧ nC D = nC (smN (tK Tp L) (tV Tp L) (tC Tp L) ca) ∧ nN D = nN (smN (tK Tp L) (tV Tp L) (tC Tp L) ca) ∧ nT D = nT (smN (tK Tp L) (tV Tp L) (tC Tp L) ca) ∧ nK D = nK (smN (tK Tp L) (tV Tp L) (tC Tp L) ca) := by
  obtain ⟨hg, hE⟩ : (prG (tK Tp L) 400 0).1 = true ∧ smE (tK Tp L) (tV Tp L) (tC Tp L) ca 400 T00 0 = none := by
    unfold tcE at hr
    by_cases c : (prG (tK Tp L) 400 0).1 = true
    · rw [if_pos c] at hr; exact ⟨c, hr⟩
    · rw [if_neg c] at hr; cases hr
  have hM := (tM_ok (T := Tp) (L := L)).1
  have hM4 := (tM_ok (T := Tp) (L := L)).2.1
  obtain ⟨-, -, eca, ⟨Ia, Ib, l1, l2, l3, l4, l5, l6, l7, l8, l9⟩, fc⟩ := hc
  subst l2
  have cb0 : cb T00 := ⟨by show ix (nI 0) ≤ 6; rw [ixz]; omega, by show ix (nI 0) ≤ 16; rw [ixz]; omega, by show ix (nI 0) ≤ 6; rw [ixz]; omega, by show ix (nI 0) ≤ 5; rw [ixz]; omega, by show ix (nI 0) ≤ 20; rw [ixz]; omega⟩
  have wf0 : wfT T00 := ⟨fun k hk => absurd hk (by show ¬ k < ix (nI 0); rw [ixz]; omega), fun k hk => absurd hk (by show ¬ k < ix (nI 0); rw [ixz]; omega)⟩
  have o0 : nO T00 = 0 := ixz
  have hcb := (cb_sm (K := tK Tp L) (V := tV Tp L) (wd := tC Tp L) (ca := Ia 9) 400 T00 0 cb0).1
  have hwf := wf_sm (V := tV Tp L) (wd := tC Tp L) (ca := Ia 9) hM 400 T00 0 (Nat.zero_le _) hg hE wf0 cb0
  obtain ⟨Z, hZ1, hZ2⟩ := lnsC_Z hM hM4 400 0 0 (Nat.zero_le _) (Nat.le_refl _) l1 hg
  obtain ⟨-, zM, zc⟩ := lnsC_cok hM hM4 hZ1 hZ2 400 0 0 (Nat.zero_le _) (Nat.le_refl _) l1 hg
  have hco := cls_ord (mm := Ib 16) hM hM4 hZ1 hZ2 rfl 400 0 0 T00 (Nat.zero_le _) (Nat.le_refl _) hg l1 hE l5 cb0 (by rw [if_pos o0])
  have hTf : smN (tK Tp L) (tV Tp L) (tC Tp L) (Ia 9) = smT (tK Tp L) (tV Tp L) (tC Tp L) (Ia 9) 400 T00 0 := rfl
  rw [hTf] at l4 hcare ⊢
  generalize hos : osE (tK Tp L) (tV Tp L) (tC Tp L) (Ia 9) 400 T00 0 = os at hco
  generalize smT (tK Tp L) (tV Tp L) (tC Tp L) (Ia 9) 400 T00 0 = Tf at l4 hcb hwf hco hcare ⊢
  obtain ⟨⟨⟨c0, c6⟩, cc⟩, ⟨⟨n0, n16⟩, nn⟩, ⟨⟨t0, t6⟩, tt⟩, ⟨⟨k0, k5⟩, kk⟩, ⟨⟨q0, q20⟩, qq⟩⟩ := l4
  have d : ∀ k, k < 22 → k ≠ 21 → D k = Ib (58 + k) := fun k hk h21 => by
    rw [hD k hk, l6 _ (by omega) (by omega) (by omega)]
  have d21 : ∀ n, n < Z → D 21 n = tlO Ib n := fun n hn => by
    rw [hD 21 (by decide)]
    exact l7 Z hZ1 hZ2 n hn
  have ab : ∀ a, 77 ≤ a → a ≤ 79 → Ib a = Ia a := fun a a1 a2 => l3 a (by omega) (by omega) (by omega) (by omega)
  have e0 : D 0 = Ib 58 := d 0 (by decide) (by decide)
  have eC : nC D = nC Tf := by show ix (D 0 0) = _; rw [e0, c0, ix_n (by omega)]
  have eN : nN D = nN Tf := by show ix (D 0 1) = _; rw [e0, n0, ix_n (by omega)]
  have eT : nT D = nT Tf := by show ix (D 0 2) = _; rw [e0, t0, ix_n (by omega)]
  have eK : nK D = nK Tf := by show ix (D 0 3) = _; rw [e0, k0, ix_n (by omega)]
  have eO : nO D = nO Tf := by show ix (D 0 4) = _; rw [e0, q0, ix_n (by omega)]
  have di : ∀ i, i < 5 → D 0 i = nI (ix (Tf 0 i)) := fun i hi => by
    rw [e0]
    rcases (show i = 0 ∨ i = 1 ∨ i = 2 ∨ i = 3 ∨ i = 4 by omega) with rfl | rfl | rfl | rfl | rfl
    · exact c0
    · exact n0
    · exact t0
    · exact k0
    · exact q0
  have zD : ∀ a, a < nT Tf → ∃ y, y ≤ 8 ∧ D 5 a = nI y ∧ zS D a = y := by
    intro a ha
    obtain ⟨-, y, y1, y2, y3, y4⟩ := tt a ha
    have x5 : D 5 a = nI y := by rw [d 5 (by decide) (by decide)]; exact y2
    exact ⟨y, y1, x5, by show ix (D 5 a) = y; rw [x5, ix_n (by omega)]⟩
  have chT : chD (Tf 3) (nN Tf) := fun k hk => (nn k hk).2.2.2.2
  have dpB : ∀ k, k < nN Tf → dpt (Tf 3) 17 (nI k) ≤ 4 := fun k hk => (nn k hk).2.2.2.1
  have chn4 : ∀ k, k < nN Tf → chn (Tf 3) (nN Tf) 4 (nI k) := fun k hk => dp_chn n16 chT k hk 4 17 (by omega) (dpB k hk)
  have ord : ∀ q, q < nO Tf → (D 14 q = b2i (decide (Tf 7 (5 * q) = nI 11)) ∧ oT D q = decide (Tf 7 (5 * q) = nI 11)) ∧ (∃ z0 z1 z2, oB D q = z0 ∧ D 17 q = nI z1 ∧ D 18 q = nI z2 ∧ z0 ≤ z1 ∧ z1 ≤ z2 ∧ z2 ≤ Z ∧ (Tf 7 (5 * q) = nI 11 → seg (Ib 16) Ia z0 z1 (os q).1) ∧ ((os q).2 = none → z1 = z2) ∧ (∀ t, (os q).2 = some t → seg (Ib 16) Ia z1 z2 t)) ∧ (∃ g, D 15 q = nI g ∧ Tf 7 (5 * q + 1) = nI g ∧ g < (if Tf 7 (5 * q) = nI 11 then nN Tf else nT Tf)) ∧ (∃ k, D 16 q = nI k ∧ Tf 7 (5 * q + 2) = nI k ∧ k < nK Tf) := by
    intro q hq
    obtain ⟨x1, x2, x3, x4, x5⟩ := qq q hq
    obtain ⟨⟨z0, z1, z2, y1, y2, y3, y4⟩, ⟨g, g1, g2⟩, ⟨k, k1, k2⟩, -⟩ := hco q (by omega) hq
    have x14 : D 14 q = b2i (decide (Tf 7 (5 * q) = nI 11)) := by rw [d 14 (by decide) (by decide)]; exact x1
    refine ⟨⟨x14, by show (!decide (D 14 q = nI 0)) = _; rw [x14, b2i_d]⟩, ⟨z0, z1, z2, ?_, ?_, ?_, y4⟩, ⟨g, ?_, g1, g2⟩, k, ?_, k1, k2⟩
    · unfold oB
      by_cases e : q = 0
      · rw [if_pos e] at y1 ⊢; exact y1.symm
      · rw [if_neg e] at y1 ⊢
        obtain ⟨-, -, -, -, x5'⟩ := qq (q - 1) (by omega)
        show ix (D 18 (q - 1)) = z0
        rw [d 18 (by decide) (by decide)]
        show ix (Ib 76 (q - 1)) = z0
        rw [x5', y1, ix_n (by omega)]
    · rw [d 17 (by decide) (by decide)]; exact x4.trans y2
    · rw [d 18 (by decide) (by decide)]; exact x5.trans y3
    · rw [d 15 (by decide) (by decide)]; exact x2.trans g1
    · rw [d 16 (by decide) (by decide)]; exact x3.trans k1
  have e19 : D 19 2 = nI Z := by rw [d 19 (by decide) (by decide)]; show Ib 77 2 = _; rw [ab 77 (by decide) (by decide)]; exact hZ1
  have eZ : nZ D = Z := by show ix (D 19 2) = Z; rw [e19, ix_n hZ2]
  have e20 : D 20 = Ia 78 := by rw [d 20 (by decide) (by decide)]; exact ab 78 (by decide) (by decide)
  have code : ∀ n, n < Z → cok Ia n ∧ D 20 n = Ia 78 n ∧ D 21 n = (if nI 17 ≤ Ia 78 n ∧ Ia 78 n ≤ nI 22 then Ib 16 (ix (Ia 79 n)) else Ia 79 n) := fun n hn => by
    refine ⟨zc n (Nat.zero_le _) hn, by rw [e20], ?_⟩
    rw [d21 n hn]
    unfold tlO
    rw [ab 78 (by decide) (by decide), ab 79 (by decide) (by decide)]
  have htd : tdOK D := by
    refine ⟨⟨by rw [eC]; exact di 0 (by decide), by omega⟩, ⟨by rw [eN]; exact di 1 (by decide), by omega⟩, ⟨by rw [eT]; exact di 2 (by decide), by omega⟩, ⟨by rw [eK]; exact di 3 (by decide), by omega⟩, ⟨by rw [eO]; exact di 4 (by decide), by omega⟩, fun a ha => ?_, ⟨by rw [eZ]; exact e19, by omega⟩, fun n hn => ?_, fun q hq => ?_⟩
    · rw [eT] at ha
      obtain ⟨y, y1, y2, y3⟩ := zD a ha
      rw [y3]
      exact ⟨y2, y1⟩
    · rw [eZ] at hn
      obtain ⟨k, k1, k2, -⟩ := (code n hn).1
      have e : kD D n = k := by show ix (D 20 n) = k; rw [e20, k1, ix_n (by have := kdOK_lt k2; omega)]
      rw [e, e20]
      exact ⟨k1, k2⟩
    · rw [eO] at hq
      obtain ⟨⟨x1, x2⟩, ⟨z0, z1, z2, y1, y2, y3, y4, y5, y6, -⟩, ⟨g, g1, -, g2⟩, k, k1, -, k2⟩ := ord q hq
      have eF : oF D q = z1 := by show ix (D 17 q) = z1; rw [y2, ix_n (by omega)]
      have eE : oE D q = z2 := by show ix (D 18 q) = z2; rw [y3, ix_n (by omega)]
      have eg : g < 2 ^ 31 := by split at g2 <;> omega
      have eG : oG D q = g := by show ix (D 15 q) = g; rw [g1, ix_n eg]
      have eKK : oK D q = k := by show ix (D 16 q) = k; rw [k1, ix_n (by omega)]
      unfold ordOK
      rw [eF, eE, eG, eKK, y1, eK, eN, eT, eZ, x2]
      refine ⟨x1, g1, k1, y2, y3, k2, ?_, y4, y5, y6⟩
      by_cases c : Tf 7 (5 * q) = nI 11
      · rw [if_pos c] at g2; rw [if_pos (decide_eq_true c)]; exact g2
      · rw [if_neg c] at g2; rw [if_neg (by rw [decide_eq_false c]; decide)]; exact g2
  have bg := l9 (nN Tf) n0 n16
  have sI : ∀ k, k < 8 → S k = bgI (nN Tf) (nN Tf) 0 (bg0 Ib) (20 + k) := fun k hk => by
    rw [hS k hk]
    exact bg _ (by omega) (by omega)
  have hclo : clo (Tf 3) (nN Tf) := chn_clo n16 chn4
  have z23 : ∀ k, k < nN Tf → bg0 Ib 23 k = nI 0 := fun k hk => by simp [bg0, setRow, flR, show k < 16 by omega]
  have z24 : ∀ k, k < nN Tf → bg0 Ib 24 k = nI 0 := fun k hk => by simp [bg0, setRow, flR, show k < 16 by omega]
  obtain ⟨⟨v1, v2, v3, -⟩, vo⟩ := bg_inv (t2 := Tf 2) (t4 := Tf 4) hclo chT chn4 (nN Tf) 0 (bg0 Ib) (by omega) ⟨fun k hk => absurd hk (by omega), fun k hk => by rw [z23 k hk, bgV, if_neg (by omega)], fun k hk => by
    rw [z24 k hk, bgV, if_neg (by omega)]
    refine (sumF_z _ _ (fun j _ hj => ?_)).symm
    show (if Tf 3 j = nI k then bg0 Ib 24 j else nI 0) = nI 0
    rw [z24 j (by omega)]
    split <;> rfl, fun k hk => by
    rw [bg0_o (by omega), bg0_o (by omega), bg0_o (by omega)]
    obtain ⟨⟨w1, w2, w3⟩, -⟩ := nn k hk
    exact ⟨w1, w2, w3⟩⟩
  have vn : ∀ k, k < nN Tf → bgV (Tf 4) (nN Tf) k = Tf 4 k := fun k hk => by rw [bgV, if_pos hk]
  have h20 : S 0 = bg0 Ib 20 := by rw [sI 0 (by decide)]; exact vo 20 (by decide) (by decide) (by decide) (by decide)
  have e20b : bg0 Ib 20 = up2 (up2 Ib 20 2 (nI 0)) 20 3 (nI 0) 20 := by
    unfold bg0
    rw [setRow_o (by decide), setRow_o (by decide), setRow_o (by decide), setRow_o (by decide), setRow_o (by decide)]
  have u2 : ∀ k, k < nN Tf → S 2 k = Tf 3 k := fun k hk => by rw [sI 2 (by decide)]; exact (v1 k hk).2
  have v2' : ∀ k, k < nN Tf → S 3 k = Tf 4 k := fun k hk => by rw [sI 3 (by decide)]; exact (v2 k hk).trans (vn k hk)
  refine ⟨⟨htd, fun k hk => ?_⟩, ⟨fun k hk => ?_, ?_, fun a ha => ?_, fun k hk => ?_, ?_⟩, eC, eN, eT, eK⟩
  · rw [eK] at hk
    obtain ⟨c, c1, c2⟩ := hcare k hk
    refine ⟨c, c1, ?_⟩
    rw [d 13 (by decide) (by decide)]
    exact (kk k hk).1.trans c2
  · rw [eN] at hk
    obtain ⟨⟨j, j1, j2⟩, w, w1, w2⟩ := hwf.1 k hk
    refine ⟨⟨j, by rw [eC]; exact j1, ?_⟩, ⟨w, w1, ?_⟩, ?_⟩
    · rw [sI 1 (by decide)]
      exact (v1 k hk).1.trans j2
    · rw [v2' k hk]
      exact w2
    · rw [eN]
      exact chn_ext n16 (fun k hk => u2 k hk) 4 _ (chn4 k hk)
  · rw [eN]
    have h4 : lcl (Tf 3) (Tf 4) (S 4) (nN Tf) := by
      rw [sI 4 (by decide)]
      exact lcl_ext v3 (fun k hk => (vn k hk).symm) (fun _ _ => rfl)
    intro k hk
    rw [h4 k hk, v2' k hk]
    exact sumF_ext _ _ _ (fun j _ hj => by rw [u2 j (by omega)])
  · rw [eT] at ha
    rw [sI 5 (by decide), vo _ (by decide) (by decide) (by decide) (by decide)]
    exact ⟨0, by decide, by simp [bg0, setRow, flR, show a < 6 by omega]⟩
  · rw [eK] at hk
    rw [sI 6 (by decide), vo _ (by decide) (by decide) (by decide) (by decide)]
    exact ⟨0, Nat.le_refl _, by simp [bg0, setRow, flR, show k < 5 by omega]⟩
  · rw [h20, e20b, up2_n (by decide), up2_s]
    exact ⟨0, Nat.le_refl _, rfl⟩
