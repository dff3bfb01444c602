/-! The law's call of teach -/
theorem ds_sm {K : Nat → Nat} {V : Nat → Int32} {wd : Nat → Nat} {ca : Nat → Int32} {M : Nat} (hM : 45 ≤ K M) : ∀ (f : Nat) (T : MI) (p : Nat), p ≤ M → (prG K f p).1 = true → smE K V wd ca f T p = none → dsW T → wfT T → cb T → dsW (smT K V wd ca f T p) := by
  intro f
  induction f with
  | zero => exact fun T p _ _ _ h _ _ => h
  | succ f ih =>
    intro T p hp hg hE h hw hc
    rw [prG] at hg
    rw [smE] at hE
    rw [smT]
    by_cases k : K p = 45
    · rw [if_pos k]; exact h
    · rw [if_neg k] at hg hE ⊢
      by_cases k2 : (pL K p).1 = true
      · rw [if_pos k2] at hg
        obtain ⟨E1, E2⟩ := Option.or_eq_none_iff.mp hE
        exact ih _ _ (pL_sh hM hp k2).2.2.2 hg E2 (ds_ls h hw hc E1) (wf_ls hM hp hw hc k2 E1) (cb_ls hc).1
      · rw [if_neg k2] at hg
        exact Bool.noConfusion hg
theorem teach_ds {Tp : Nat → Nat} {L : Nat} {ca : Nat → Int32} {I1 I2 : MI} (hr : rtE Tp L ca = none) (hf : rfO Tp L ca I1 I2) {B : MI} (hB : ∀ k, k < 11 → B k = I2 (104 + k)) : dsT B := by
  obtain ⟨hg, hE⟩ := smE_t hr
  have hM := (tM_ok (T := Tp) (L := L)).1
  obtain ⟨-, -, -, -, -, r6, -, -, -⟩ := hf
  have cb0 : cb T00 := ⟨by show ix (nI 0) ≤ 6; rw [ixz]; omega, by show ix (nI 0) ≤ 16; rw [ixz]; omega, by show ix (nI 0) ≤ 6; rw [ixz]; omega, by show ix (nI 0) ≤ 5; rw [ixz]; omega, by show ix (nI 0) ≤ 20; rw [ixz]; omega⟩
  have wf0 : wfT T00 := ⟨fun k hk => absurd hk (by show ¬ k < ix (nI 0); rw [ixz]; omega), fun k hk => absurd hk (by show ¬ k < ix (nI 0); rw [ixz]; omega)⟩
  have ds0 : dsW T00 := fun k hk => absurd hk (by show ¬ k < ix (nI 0); rw [ixz]; omega)
  have hds := ds_sm (V := tV Tp L) (wd := tC Tp L) (ca := ca) hM 400 T00 0 (Nat.zero_le _) hg hE ds0 wf0 cb0
  have hTf : smN (tK Tp L) (tV Tp L) (tC Tp L) ca = smT (tK Tp L) (tV Tp L) (tC Tp L) ca 400 T00 0 := rfl
  rw [hTf] at r6
  generalize smT (tK Tp L) (tV Tp L) (tC Tp L) ca 400 T00 0 = Tf at r6 hds
  obtain ⟨⟨b0, -, -, bt, -⟩, -, -, -, b5, -⟩ := r6
  have hT : nT B = nT Tf := by
    show ix (B 0 2) = ix (Tf 0 2)
    rw [hB 0 (by decide), b0 2 (by decide), ix_n (by unfold nT at bt; omega)]
  intro a ha n m hn hm e
  rw [hT] at ha
  obtain ⟨y, y1, y2, y3, y4⟩ := b5 a ha
  have z1 : zR B a = y := by unfold zR; rw [hB 5 (by decide), y3, ix_n (by omega)]
  rw [z1] at hn hm
  rw [hB 5 (by decide), y4 n hn, y4 m hm] at e
  exact hds a ha n m (by rw [y2, ix_n (by omega)]; exact hn) (by rw [y2, ix_n (by omega)]; exact hm) e
theorem tpO_0 {Tp : Nat → Nat} {I : MI} (h : I 1 1 = nI 0) : tpO Tp 0 I := ⟨h, by decide, fun j hj => absurd hj (by omega)⟩
theorem rtO_0 {Tp : Nat → Nat} {I : MI} (h : I 80 2 = nI 0) : rtO Tp 0 I := ⟨h, by decide, fun j hj => absurd hj (by omega)⟩
set_option maxHeartbeats 1000000 in
theorem ok_teach {I : MI} {J : MJ} {P : MP} (hR : REL I J P) : Sp yX10_teach cX10_teach 4 (some .int) 999 [.ref 0] I J P (Qi (fun r I1 J1 P1 => Sp yX12_teach cX12_teach 3 (some .int) 999 [.ref 80] I1 J1 P1 (Qi (fun r' I2 J2 P2 => r = r' ∧ (REL I2 J2 P2 ∨ REL (ren I2) (ren J2) (renP P2)))))) := by
  obtain ⟨⟨ts, es, h, hs, hd⟩, ⟨Tp, L, tp, rt⟩, he, ⟨p1, p2, p3, p4, p5⟩, hk⟩ := id hR
  refine sp_X10_teach (d := 975) tp hk p1 p2 (fun ca hn I1 J1 k1 j1 => ?_) (fun ca e t hs1 I1 J1 f1 j1 e9 e1 => ?_)
  · obtain ⟨q1, q2, -, -, fc⟩ := id k1
    have rt1 : rtO Tp L I1 := by
      unfold rtO at rt ⊢
      rw [fc 80 (by omega) (by omega) (by omega), fc 81 (by omega) (by omega) (by omega)]
      exact rt
    refine sp_X12_teach (D := 949) (ca := ca) rt1 ?_ ?_ (fun hn2 I2 f2 => ?_) (fun e t hs1 => ?_)
    · simp [up2]; exact p4
    · simp [up2]; exact p5
    · obtain ⟨r0, r2, r3, -, -, -, -, -, fr⟩ := id f2
      refine ⟨rfl, Or.inr ⟨?_, ⟨Tp, 0, tpO_0 ?_, rtO_0 ?_⟩, ?_, ?_, ?_⟩⟩
      · have hD : ∀ k, k < 22 → dv (ren I2) k = I2 (58 + k) := fun k hk => by
          show I2 (pi (36 + k)) = _
          rw [show pi (36 + k) = 58 + k by unfold pi; rw [if_pos (by omega)]; omega]
        have hB : ∀ k, k < 11 → bv (ren I2) k = I2 (104 + k) := fun k hk => by
          show I2 (pi (93 + k)) = _
          rw [show pi (93 + k) = 104 + k by unfold pi; rw [if_neg (by omega), if_neg (by omega), if_pos (by omega)]; omega]
        have hS : ∀ k, k < 8 → sv 20 (ren I2) k = I2 (20 + k) := fun k hk => by
          rw [sv, if_pos hk]
          show I2 (pi (20 + k)) = _
          rw [show pi (20 + k) = 20 + k by unfold pi; rw [if_neg (by omega), if_neg (by omega), if_neg (by omega), if_neg (by omega)]]
        obtain ⟨ts', es', g1, g2⟩ := teach_rel hn k1 f2 (by rw [fc 91 (by omega) (by omega) (by omega)]; exact hs.2.2.2.2.1) hD hB hS (row := ren I2 91) rfl
        exact ⟨ts', es', g1, g2, teach_ds hn f2 hB⟩
      · show I2 1 1 = nI 0
        rw [fr 1 (by omega) (by omega)]; exact q2
      · exact r2
      · show I2 0 9 = I2 80 3
        rw [fr 0 (by omega) (by omega), q1, r3]
      · refine ⟨?_, ?_, ?_, ?_, ?_⟩ <;> simp [renP, up2, pi]
      · unfold kwO at hk ⊢
        intro i hi
        show J1 7 i = _
        rw [j1 7 (by decide) (by decide) (by omega)]
        exact hk i hi
    · exact absurd (hn.symm.trans hs1) (by intro q; cases q)
  · have rt1 : rtO Tp L I1 := by
      unfold rtO at rt ⊢
      rw [f1 80 (by omega) (by omega), f1 81 (by omega) (by omega)]
      exact rt
    refine sp_X12_teach (D := 949) (ca := ca) rt1 ?_ ?_ (fun hn2 => ?_) (fun e' t' hs2 ht I2 f2 r91 r0 r2 r3 => ?_)
    · simp [up2]; exact p4
    · simp [up2]; exact p5
    · exact absurd (hs1.symm.trans hn2) (by intro q; cases q)
    · have hh := hs1.symm.trans hs2
      simp only [Option.some.injEq, Prod.mk.injEq] at hh
      obtain ⟨rfl, rfl⟩ := hh
      refine ⟨rfl, Or.inl ⟨hR.1.same ⟨fun a a1 a2 => ?_, fun a a1 a2 => ?_, fun a a1 a2 => ?_, ?_⟩, ⟨Tp, 0, tpO_0 ?_, rtO_0 r2⟩, ?_, ?_, ?_⟩⟩
      · rw [f2 a (by omega) (by omega), f1 a (by omega) (by omega)]
      · rw [f2 a (by omega) (by omega), f1 a (by omega) (by omega)]
      · rw [f2 a (by omega) (by omega), f1 a (by omega) (by omega)]
      · rw [r91, f1 91 (by omega) (by omega)]
      · rw [f2 1 (by omega) (by omega)]; exact e1
      · rw [f2 0 (by omega) (by omega), e9, r3]
      · refine ⟨?_, ?_, ?_, ?_, ?_⟩ <;> simp [up2] <;> assumption
      · unfold kwO at hk ⊢
        intro i hi
        rw [j1 7 (by decide) (by decide) (by omega)]
        exact hk i hi
