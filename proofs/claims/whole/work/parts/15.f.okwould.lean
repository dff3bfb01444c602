/-! The law's calls of months; the calls without helpers -/
theorem same_92 {I I1 I2 : MI} (o : out28 I I1) (h : ∀ b, b ≠ 92 → I2 b = up2 I1 80 0 (nI 0) b) : (∀ a, a ≠ 92 → a ≠ 80 → a ≠ 17 → a ≠ 18 → ¬ (28 ≤ a ∧ a < 36) → I2 a = I a) ∧ (∀ j, j ≠ 0 → I2 80 j = I 80 j) :=
  ⟨fun a a1 a2 a3 a4 a5 => (h a a1).trans ((up2_o a2).trans (o a a3 a4 a5)), fun j hj => by rw [h 80 (by decide), up2_n hj, o 80 (by decide) (by decide) (by decide)]⟩
theorem fin_92 {I I1 I2 : MI} {J : MJ} {P : MP} (hR : REL I J P) (o : out28 I I1) (h : ∀ b, b ≠ 92 → I2 b = up2 I1 80 0 (nI 0) b) {v w : Int32} (e : v = w) : FIN (nI 0) w I2 (up2 J 19 0 v.toInt64) (up2 P 28 0 (some 36)) := by
  obtain ⟨q, q2⟩ := same_92 o h
  refine ⟨by rw [h 80 (by decide), up2_s], fun _ => by rw [up2_s, e], hR.of ⟨fun a _ _ => q a (by omega) (by omega) (by omega) (by omega) (by omega), fun a _ _ => q a (by omega) (by omega) (by omega) (by omega) (by omega), fun a _ _ => q a (by omega) (by omega) (by omega) (by omega) (by omega), q 91 (by decide) (by decide) (by decide) (by decide) (by decide)⟩ (q 1 (by decide) (by decide) (by decide) (by decide) (by decide)) (q 2 (by decide) (by decide) (by decide) (by decide) (by decide)) (q2 2 (by decide)) (q 81 (by decide) (by decide) (by decide) (by decide) (by decide)) (congrFun (q 0 (by decide) (by decide) (by decide) (by decide) (by decide)) 9) (q2 3 (by decide)) hR.2.2.2.1.p28 (up2_o (by decide))⟩
theorem fin_w80 {I : MI} {J : MJ} {P : MP} (hR : REL I J P) : REL (up2 I 80 0 (nI 0)) J P := hR.w80
set_option maxHeartbeats 1000000 in
theorem ok_pass {x : Int32} {I : MI} {J : MJ} {P : MP} (hR : REL I J P) : SpH yL_pass cL_pass 4 hh_pass 999 [.ref 0, .int x, .ref 19] I J P (Qi (fun r5 I1 J1 P1 => Sp yX12_pass_ cX12_pass_ 3 (some .int) 999 [.ref 80, .int x] I1 J1 P1 (Qi (FIN r5)))) := by
  obtain ⟨⟨ts, es, h, hs, hd⟩, ⟨Tp, L, tp, rt⟩, he, ⟨p1, p2, p3, p4, p5⟩, hk⟩ := id hR
  obtain ⟨c1, c2, c3, c4, c5⟩ := h.cnt
  have ho : ∀ q, q < nO (bv I) → orK (bv I) q (ts q) (es q) := fun q hq => (h.2.2.2.2.2.2 q (by omega)).2.2
  refine sp_L_pass (sp_X10_pass p3 h.1 (fun n n1 n2 n3 I1 st => ?_) (fun hn => ⟨rfl, ?_⟩))
  · have o : ∀ a, a ≠ 17 → a ≠ 18 → ¬ (20 ≤ a ∧ a < 28) → I1 a = I a := fun a a1 a2 a3 => st.2 a a1 a2 (by omega)
    have eb : bv I1 = bv I := funext fun k => o _ (by omega) (by omega) (by omega)
    have e91 : I1 91 = I 91 := o 91 (by decide) (by decide) (by decide)
    refine sp_X12_pass_ p4 (by rw [eb]; exact h.2.1) (ts := ts) (es := es) (by rw [eb]; exact ho) (fun m m1 m2 m3 => ?_) (fun hn => absurd ⟨n, n1, n2, n3⟩ hn)
    obtain rfl : m = n := eqN (m3.symm.trans n3) (by omega) (by omega)
    rw [eb, e91]
    have hp := rel_ps h m (sv 20 I) (I 91) hs
    have q : ∀ c, c ≠ 80 → c ≠ 91 → setRow (up2 I1 80 0 (nI 0)) 91 (psR (bv I) ts es m (I 91)) c = I1 c := fun c d1 d2 => (setRow_o d2).trans (up2_o d1)
    have qo : ∀ c, c ≠ 80 → c ≠ 91 → c ≠ 17 → c ≠ 18 → ¬ (20 ≤ c ∧ c < 28) → setRow (up2 I1 80 0 (nI 0)) 91 (psR (bv I) ts es m (I 91)) c = I c := fun c d1 d2 d3 d4 d5 => (q c d1 d2).trans (o c d3 d4 d5)
    have e2 : I1 20 2 = psR (bv I) ts es m (I 91) 1 := by
      rw [← hp.2.2.2.2.2.1, ← st.1]; rfl
    have e3 : I 20 2 = I 91 1 := hs.2.2.2.2.2.1
    refine ⟨(congrFun (setRow_o (by decide)) 0).trans up2_s, fun _ => by rw [up2_s, e2, e3], hR.of2 (RELI.mk h hp hd (fun k hk => qo _ (by omega) (by omega) (by omega) (by omega) (by omega)) (fun k hk => qo _ (by omega) (by omega) (by omega) (by omega) (by omega)) (fun k hk => ?_) setRow_s) (qo 1 (by decide) (by decide) (by decide) (by decide) (by decide)) (qo 2 (by decide) (by decide) (by decide) (by decide) (by decide)) ?_ (qo 81 (by decide) (by decide) (by decide) (by decide) (by decide)) (congrFun (qo 0 (by decide) (by decide) (by decide) (by decide) (by decide)) 9) ?_ ⟨p1, p2, p3, p4, p5⟩ (up2_o (by decide))⟩
    · rw [q _ (by omega) (by omega), ← st.1]
      exact sv_b k hk
    · rw [setRow_o (by decide), up2_n (by decide), o 80 (by decide) (by decide) (by decide)]
    · rw [setRow_o (by decide), up2_n (by decide), o 80 (by decide) (by decide) (by decide)]
  · exact sp_X12_pass_ p4 h.2.1 (ts := ts) (es := es) ho (fun m m1 m2 m3 => absurd ⟨m, m1, m2, m3⟩ hn) (fun _ => fin_t hR (by decide))
set_option maxHeartbeats 1000000 in
theorem ok_until {x : Int32} {I : MI} {J : MJ} {P : MP} (hR : REL I J P) : SpH yL_until cL_until 4 hh_until 999 [.ref 0, .int x, .ref 19] I J P (Qi (fun r5 I1 J1 P1 => Sp yX12_until cX12_until 3 (some .int) 999 [.ref 80, .int x] I1 J1 P1 (Qi (FIN r5)))) := by
  obtain ⟨⟨ts, es, h, hs, hd⟩, ⟨Tp, L, tp, rt⟩, he, ⟨p1, p2, p3, p4, p5⟩, hk⟩ := id hR
  obtain ⟨c1, c2, c3, c4, c5⟩ := h.cnt
  have ho : ∀ q, q < nO (bv I) → orK (bv I) q (ts q) (es q) := fun q hq => (h.2.2.2.2.2.2 q (by omega)).2.2
  have T6 := h.1.2.2.1.2
  refine sp_L_until (sp_X10_until p3 p1 h.1 (fun a a1 a2 S I1 t o => ?_) (fun hn => ⟨rfl, ?_⟩))
  · have eb := o28_bv o
    have e91 : I1 91 = I 91 := o 91 (by decide) (by decide) (by decide)
    have hB1 : up2 P 28 0 (some 36) 80 8 = some 93 := (p28_o (by decide)).trans p4
    refine sp_X12_until hB1 (by rw [eb]; exact h.2.1) (ts := ts) (es := es) (by rw [eb]; exact ho) (fun a' a1' a2' I2 h2 => ?_) (fun hn => absurd ⟨a, by rw [eb]; omega, a2⟩ hn)
    rw [eb] at a1'
    obtain rfl : a' = a := eqN (a2'.symm.trans a2) (by omega) (by omega)
    rw [eb, e91]
    exact fin_92 hR o h2 (br_un h a1 151 0 S _ (rel_tri h hs t (fun j hj => cpy_in hj)))
  · exact sp_X12_until p4 h.2.1 (ts := ts) (es := es) ho (fun a a1 a2 => absurd ⟨a, by omega, a2⟩ hn) (fun _ => fin_t hR (by decide))
set_option maxHeartbeats 1000000 in
theorem ok_foresee {x y : Int32} {I : MI} {J : MJ} {P : MP} (hR : REL I J P) : SpH yL_foresee cL_foresee 5 hh_foresee 999 [.ref 0, .int x, .int y, .ref 19] I J P (Qi (fun r5 I1 J1 P1 => Sp yX12_foresee cX12_foresee 3 (some .int) 999 [.ref 80, .int x, .int y] I1 J1 P1 (Qi (FIN r5)))) := by
  obtain ⟨⟨ts, es, h, hs, hd⟩, ⟨Tp, L, tp, rt⟩, he, ⟨p1, p2, p3, p4, p5⟩, hk⟩ := id hR
  obtain ⟨c1, c2, c3, c4, c5⟩ := h.cnt
  have ho : ∀ q, q < nO (bv I) → orK (bv I) q (ts q) (es q) := fun q hq => (h.2.2.2.2.2.2 q (by omega)).2.2
  refine sp_L_foresee (sp_X10_foresee p3 h.1 (fun n w n1 n2 w1 w2 n3 w3 S I1 t o => ?_) (fun hn => Or.inl ⟨rfl, ?_⟩) (fun hx hn => Or.inr ⟨rfl, ?_⟩))
  · have eb := o28_bv o
    have e91 : I1 91 = I 91 := o 91 (by decide) (by decide) (by decide)
    have hB1 : up2 P 28 0 (some 36) 80 8 = some 93 := (p28_o (by decide)).trans p4
    refine sp_X12_foresee hB1 (by rw [eb]; exact h.2.1) (ts := ts) (es := es) (by rw [eb]; exact ho) (fun m w' m1 m2 w1' w2' m3 w3' I2 h2 => ?_) (fun hn => absurd ⟨n, n1, n2, n3⟩ hn) (fun _ hn => absurd ⟨w, w1, w2, w3⟩ hn)
    obtain rfl : m = n := eqN (m3.symm.trans n3) (by omega) (by omega)
    obtain rfl : w' = w := eqN (w3'.symm.trans w3) (by omega) (by omega)
    rw [eb, e91]
    exact fin_92 hR o h2 (br_cntS h (rel_ps h m S _ (rel_tri h hs t (fun j hj => cpy_in hj))) w1 w2)
  · exact sp_X12_foresee p4 h.2.1 (ts := ts) (es := es) ho (fun m w m1 m2 w1 w2 m3 w3 => absurd ⟨m, m1, m2, m3⟩ hn) (fun _ => fin_t hR (by decide)) (fun hx => absurd hx hn)
  · exact sp_X12_foresee p4 h.2.1 (ts := ts) (es := es) ho (fun m w m1 m2 w1 w2 m3 w3 => absurd ⟨w, w1, w2, w3⟩ hn) (fun hn => absurd hx hn) (fun _ _ => fin_t hR (by decide))
set_option maxHeartbeats 1000000 in
theorem ok_advise {x : Int32} {I : MI} {J : MJ} {P : MP} (hR : REL I J P) : SpH yL_advise cL_advise 4 hh_advise 999 [.ref 0, .int x, .ref 19] I J P (Qi (fun r5 I1 J1 P1 => Sp yX12_advise cX12_advise 5 (some .int) 999 [.ref 80, .int x] I1 J1 P1 (Qi (FIN r5)))) := by
  obtain ⟨⟨ts, es, h, hs, hd⟩, ⟨Tp, L, tp, rt⟩, he, ⟨p1, p2, p3, p4, p5⟩, hk⟩ := id hR
  obtain ⟨c1, c2, c3, c4, c5⟩ := h.cnt
  have ho : ∀ q, q < nO (bv I) → orK (bv I) q (ts q) (es q) := fun q hq => (h.2.2.2.2.2.2 q (by omega)).2.2
  refine sp_L_advise (sp_X10_advise p3 p1 h.1 (w0 := fun n => wrB (bv I) (psR (bv I) ts es n (I 91))) (wk := fun n k => wrB (bv I) (psR (bv I) ts es n (upd (I 91) (25 + k) (nI 0)))) (fun n _ S t => (br_wk h hs t a35_rf).1) (fun n _ k hk S t => (br_wkk h hs hk t a35_rf).1) (fun n n1 n2 n3 I1 o => ?_) (fun hn => ⟨rfl, ?_⟩))
  · have eb := o28_bv o
    have e91 : I1 91 = I 91 := o 91 (by decide) (by decide) (by decide)
    have hB1 : up2 P 28 0 (some 36) 80 8 = some 93 := (p28_o (by decide)).trans p4
    refine sp_X12_advise hB1 (by rw [eb]; exact h.2.1) (ts := ts) (es := es) (by rw [eb]; exact ho) (w0 := fun n => wrB (bv I) (psR (bv I) ts es n (I 91))) (wk := fun n k => wrB (bv I) (psR (bv I) ts es n (upd (I 91) (25 + k) (nI 0)))) (fun m _ r ha => ?_) (fun m _ k hk r ha => ?_) (fun m m1 m2 m3 I2 h2 => ?_) (fun hn => absurd ⟨n, n1, n2, n3⟩ hn)
    · rw [e91] at ha
      rw [eb]
      exact (br_wk h hs tri_rf ha).2
    · rw [e91] at ha
      rw [eb] at hk ⊢
      exact (br_wkk h hs (by omega) tri_rf ha).2
    · obtain rfl : m = n := eqN (m3.symm.trans n3) (by omega) (by omega)
      rw [eb, c4]
      exact fin_92 hR o h2 rfl
  · exact sp_X12_advise p4 h.2.1 (ts := ts) (es := es) ho (w0 := fun n => wrB (bv I) (psR (bv I) ts es n (I 91))) (wk := fun n k => wrB (bv I) (psR (bv I) ts es n (upd (I 91) (25 + k) (nI 0)))) (fun m _ r ha => (br_wk h hs tri_rf ha).2) (fun m _ k hk r ha => (br_wkk h hs (by omega) tri_rf ha).2) (fun m m1 m2 m3 => absurd ⟨m, m1, m2, m3⟩ hn) (fun _ => fin_t hR (by decide))
theorem ok_find {x : Int32} {I : MI} {J : MJ} {P : MP} (hR : REL I J P) : Sp yX10_find cX10_find 2 (some .int) 999 [.ref 0, .int x] I J P (Qi (fun r I1 J1 P1 => Sp yX12_find_ cX12_find_ 3 (some .int) 999 [.ref 80, .int x] I1 J1 P1 (Qi (fun r' I2 J2 P2 => r = r' ∧ REL I2 J2 P2)))) := by
  obtain ⟨⟨ts, es, h, hs, hd⟩, ⟨Tp, L, tp, rt⟩, he, ⟨p1, p2, p3, p4, p5⟩, hk⟩ := id hR
  obtain ⟨c1, c2, c3, c4, c5⟩ := h.cnt
  refine sp_X10_find p3 h.1 (sp_X12_find_ p4 h.2.1 ⟨br_find h hs x, hR.w80⟩)
theorem ok_errorAt {I : MI} {J : MJ} {P : MP} (hR : REL I J P) : Sp yX10_errorAt cX10_errorAt 1 (some .int) 999 [.ref 0] I J P (Qi (fun r I1 J1 P1 => Sp yX12_errorAt cX12_errorAt 1 (some .int) 999 [.ref 80] I1 J1 P1 (Qi (fun r' I2 J2 P2 => r = r' ∧ REL I2 J2 P2)))) := by
  obtain ⟨⟨ts, es, h, hs, hd⟩, ⟨Tp, L, tp, rt⟩, he, ⟨p1, p2, p3, p4, p5⟩, hk⟩ := id hR
  obtain ⟨c1, c2, c3, c4, c5⟩ := h.cnt
  refine sp_X10_errorAt (sp_X12_errorAt ⟨he, hR.w80⟩)
theorem ok_disorder {I : MI} {J : MJ} {P : MP} (hR : REL I J P) : Sp yX10_disorder cX10_disorder 1 (some .int) 999 [.ref 0] I J P (Qi (fun r I1 J1 P1 => Sp yX12_disorder cX12_disorder 1 (some .int) 999 [.ref 80] I1 J1 P1 (Qi (fun r' I2 J2 P2 => r = r' ∧ REL I2 J2 P2)))) := by
  obtain ⟨⟨ts, es, h, hs, hd⟩, ⟨Tp, L, tp, rt⟩, he, ⟨p1, p2, p3, p4, p5⟩, hk⟩ := id hR
  obtain ⟨c1, c2, c3, c4, c5⟩ := h.cnt
  refine sp_X10_disorder p3 h.1 (sp_X12_disorder p4 h.2.1 ⟨br_oor h hs, hR.w80⟩)
theorem ok_mean {I : MI} {J : MJ} {P : MP} (hR : REL I J P) : Sp yX10_mean cX10_mean 2 (some .double) 999 [.ref 0] I J P (Qd (fun r I1 J1 P1 => Sp yX12_mean cX12_mean 4 (some .double) 999 [.ref 80] I1 J1 P1 (Qd (fun r' I2 J2 P2 => (r = r' ∧ FP.dcmp r r = some .eq) ∧ REL I2 J2 P2)))) := by
  obtain ⟨⟨ts, es, h, hs, hd⟩, ⟨Tp, L, tp, rt⟩, he, ⟨p1, p2, p3, p4, p5⟩, hk⟩ := id hR
  obtain ⟨c1, c2, c3, c4, c5⟩ := h.cnt
  refine sp_X10_mean p3 h.1 (sp_X12_mean p4 h.2.1 ⟨⟨br_mean h hs, meD_cmp _ _⟩, hR.w80⟩)
theorem ok_digest {I : MI} {J : MJ} {P : MP} (hR : REL I J P) : Sp yX10_digest cX10_digest 4 (some .long) 999 [.ref 0] I J P (Ql (fun r I1 J1 P1 => Sp yX12_digest cX12_digest 4 (some .long) 999 [.ref 80] I1 J1 P1 (Ql (fun r' I2 J2 P2 => r = r' ∧ REL I2 J2 P2)))) := by
  obtain ⟨⟨ts, es, h, hs, hd⟩, ⟨Tp, L, tp, rt⟩, he, ⟨p1, p2, p3, p4, p5⟩, hk⟩ := id hR
  obtain ⟨c1, c2, c3, c4, c5⟩ := h.cnt
  refine sp_X10_digest p3 p1 h.1 (sp_X12_digest p4 h.2.1 ⟨br_dg h hs hd (tp.1.trans rt.1.symm), hR.w80⟩)
