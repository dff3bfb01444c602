/-! The law's calls by hand, and of what would be -/
theorem relS_congS {D S S' B : MI} {row : Nat → Int32} (h : relS D S B row) (e : ∀ k, k < 8 → S' k = S k) : relS D S' B row := by
  unfold relS at h ⊢
  rw [e 0 (by decide), e 1 (by decide), e 2 (by decide), e 3 (by decide), e 4 (by decide), e 5 (by decide), e 6 (by decide), e 7 (by decide)]
  exact h
theorem RELI.mk {D S B I' : MI} {row : Nat → Int32} {ts : Nat → Option EX} {es : Nat → EX} (h : relD D B ts es) (hs : relS D S B row) (hd : dsT B) (e : ∀ k, k < 22 → I' (36 + k) = D k) (g : ∀ k, k < 11 → I' (93 + k) = B k) (s : ∀ k, k < 8 → I' (20 + k) = S k) (r : I' 91 = row) : RELI I' := by
  refine ⟨ts, es, relD_cong e g h, ?_, dsT_cong (g 0 (by decide)) (g 5 (by decide)) hd⟩
  rw [r]
  refine relS_congS (relS_cong (e 0 (by decide)) (g 2 (by decide)) (g 3 (by decide)) hs) (fun k hk => ?_)
  rw [sv, if_pos hk, s k hk]
theorem REL.of2 {I I' : MI} {J J' : MJ} {P P' : MP} (hR : REL I J P) (h : RELI I') (t1 : I' 1 = I 1) (t2 : I' 2 = I 2) (r2 : I' 80 2 = I 80 2) (r81 : I' 81 = I 81) (e0 : I' 0 9 = I 0 9) (e3 : I' 80 3 = I 80 3) (hP : PTR P') (hJ : J' 7 = J 7) : REL I' J' P' := by
  obtain ⟨-, ⟨Tp, L, tp, rt⟩, he, -, hk⟩ := hR
  refine ⟨h, ⟨Tp, L, ?_, ?_⟩, by rw [e0, e3]; exact he, hP, ?_⟩
  · unfold tpO at tp ⊢
    rw [t1, t2]
    exact tp
  · unfold rtO at rt ⊢
    rw [r2, r81]
    exact rt
  · unfold kwO at hk ⊢
    rw [hJ]
    exact hk
theorem row_sv {I S : MI} {i : Nat} {r : Nat → Int32} (hs : ∀ k, k < 8 → I (20 + k) = S k) : ∀ k, k < 8 → setRow I (20 + i) r (20 + k) = setRow S i r k := by
  intro k hk
  by_cases e : k = i
  · subst e; rw [setRow_s, setRow_s]
  · rw [setRow_o (by omega), setRow_o e, hs k hk]
theorem sv_b {I : MI} : ∀ k, k < 8 → I (20 + k) = sv 20 I k := fun k hk => by rw [sv, if_pos hk]
theorem bv_lo {I : MI} {a : Nat} {r : Nat → Int32} (h : a < 93) : bv (setRow I a r) = bv I := funext fun k => setRow_o (by omega)
theorem bv_up {I : MI} {a k : Nat} {v : Int32} (h : a < 93) : bv (up2 I a k v) = bv I := funext fun j => up2_o (by omega)
theorem o28_bv {I I' : MI} (h : out28 I I') : bv I' = bv I := funext fun k => h (93 + k) (by omega) (by omega) (by omega)
theorem PTR.p28 {P : MP} (h : PTR P) : PTR (up2 P 28 0 (some 36)) := ⟨(p28_o (by decide)).trans h.1, (p28_o (by decide)).trans h.2.1, (p28_o (by decide)).trans h.2.2.1, (p28_o (by decide)).trans h.2.2.2.1, (p28_o (by decide)).trans h.2.2.2.2⟩
set_option maxHeartbeats 1000000 in
theorem ok_set {x y : Int32} {I : MI} {J : MJ} {P : MP} (hR : REL I J P) : SpH yL_set cL_set 5 hh_set 999 [.ref 0, .int x, .int y, .ref 19] I J P (Qi (fun r5 I1 J1 P1 => Sp yX12_set cX12_set 3 (some .int) 999 [.ref 80, .int x, .int y] I1 J1 P1 (Qi (FIN r5)))) := by
  obtain ⟨⟨ts, es, h, hs, hd⟩, ⟨Tp, L, tp, rt⟩, he, ⟨p1, p2, p3, p4, p5⟩, hk⟩ := id hR
  obtain ⟨c1, c2, c3, c4, c5⟩ := h.cnt
  have N16 := h.N16
  refine sp_L_set (sp_X10_set p3 p1 h.1 (fun a w a1 w1 a2 w2 => ?_) (fun hn => Or.inl ⟨rfl, ?_⟩) (fun hy hn => Or.inr ⟨rfl, ?_⟩))
  · generalize hI1 : setRow (setRow I 23 (upd (I 23) a y)) 24 (aab (I 22) (nN (dv I)) 4 (nI a) (y - I 23 a) (I 24)) = I1
    have o : ∀ b, b ≠ 23 → b ≠ 24 → I1 b = I b := fun b b1 b2 => by rw [← hI1, setRow_o b2, setRow_o b1]
    have eb : bv I1 = bv I := funext fun k => o _ (by omega) (by omega)
    refine sp_X12_set p4 (by rw [eb]; exact h.2.1) (fun a' w' a1' w1' a2' w2' => ?_) (fun hn => absurd ⟨a, by rw [eb]; omega, a2⟩ hn) (fun _ hn => absurd ⟨w, w1, w2⟩ hn)
    rw [eb] at a1'
    obtain rfl : a' = a := eqN (a2'.symm.trans a2) (by omega) (by omega)
    refine ⟨(congrFun (up2_o (by decide)) 0).trans up2_s, fun _ => ?_, ?_⟩
    · rw [up2_s, o 91 (by decide) (by decide), ← relS.v hs a' a1]; rfl
    · subst w2
      have q : ∀ b, b ≠ 80 → b ≠ 91 → up2 (up2 I1 80 0 (nI 0)) 91 (3 + a') (nI w) b = I1 b := fun b b1 b2 => (up2_o b2).trans (up2_o b1)
      refine hR.of2 (RELI.mk h (rel_set h hs a1 w1) hd (fun k hk => (q _ (by omega) (by omega)).trans (o _ (by omega) (by omega))) (fun k hk => (q _ (by omega) (by omega)).trans (o _ (by omega) (by omega))) (fun k hk => (q _ (by omega) (by omega)).trans (hI1 ▸ row_sv (i := 4) (row_sv (i := 3) sv_b) k hk)) ?_) ((q _ (by decide) (by decide)).trans (o _ (by decide) (by decide))) ((q _ (by decide) (by decide)).trans (o _ (by decide) (by decide))) ?_ ((q _ (by decide) (by decide)).trans (o _ (by decide) (by decide))) (congrFun ((q _ (by decide) (by decide)).trans (o _ (by decide) (by decide))) 9) ?_ ⟨p1, p2, p3, p4, p5⟩ (up2_o (by decide))
      · rw [up2_row, setRow_s, up2_o (by decide), o 91 (by decide) (by decide)]
      · rw [up2_o (by decide), up2_n (by decide), o 80 (by decide) (by decide)]
      · rw [up2_o (by decide), up2_n (by decide), o 80 (by decide) (by decide)]
  · exact sp_X12_set p4 h.2.1 (fun a w a1 w1 a2 w2 => absurd ⟨a, by omega, a2⟩ hn) (fun _ => fin_t hR (by decide)) (fun ⟨a, a1, a2⟩ _ => absurd ⟨a, by omega, a2⟩ hn)
  · obtain ⟨a, a1, a2⟩ := hy
    exact sp_X12_set p4 h.2.1 (fun a w a1 w1 a2 w2 => absurd ⟨w, w1, w2⟩ hn) (fun hn => absurd ⟨a, by omega, a2⟩ hn) (fun _ _ => fin_t hR (by decide))
set_option maxHeartbeats 1000000 in
theorem ok_rest {x : Int32} {I : MI} {J : MJ} {P : MP} (hR : REL I J P) : SpH yL_rest cL_rest 4 hh_rest 999 [.ref 0, .int x, .ref 19] I J P (Qi (fun r5 I1 J1 P1 => Sp yX12_rest cX12_rest 2 (some .int) 999 [.ref 80, .int x] I1 J1 P1 (Qi (FIN r5)))) := by
  obtain ⟨⟨ts, es, h, hs, hd⟩, ⟨Tp, L, tp, rt⟩, he, ⟨p1, p2, p3, p4, p5⟩, hk⟩ := id hR
  obtain ⟨c1, c2, c3, c4, c5⟩ := h.cnt
  have K5 := h.1.2.2.2.1.2
  refine sp_L_rest (sp_X10_rest p3 p1 h.1 (fun a a1 a2 => ?_) (fun hn => ⟨rfl, ?_⟩))
  · have eb : bv (up2 I 26 a (nI 0)) = bv I := bv_up (by decide)
    refine sp_X12_rest p4 (by rw [eb]; exact h.2.1) (fun a' a1' a2' => ?_) (fun hn => absurd ⟨a, by rw [eb]; omega, a2⟩ hn)
    rw [eb] at a1'
    obtain rfl : a' = a := eqN (a2'.symm.trans a2) (by omega) (by omega)
    have q : ∀ b, b ≠ 80 → b ≠ 91 → b ≠ 26 → up2 (up2 (up2 I 26 a' (nI 0)) 80 0 (nI 0)) 91 (25 + a') (nI 0) b = I b := fun b b1 b2 b3 => (up2_o b2).trans ((up2_o b1).trans (up2_o b3))
    refine ⟨(congrFun (up2_o (by decide)) 0).trans up2_s, fun _ => ?_, hR.of2 (RELI.mk h (rel_rest hs h a1) hd (fun k hk => q _ (by omega) (by omega) (by omega)) (fun k hk => q _ (by omega) (by omega) (by omega)) (fun k hk => ?_) ?_) (q _ (by decide) (by decide) (by decide)) (q _ (by decide) (by decide) (by decide)) ?_ (q _ (by decide) (by decide) (by decide)) (congrFun (q _ (by decide) (by decide) (by decide)) 9) ?_ ⟨p1, p2, p3, p4, p5⟩ (up2_o (by decide))⟩
    · rw [up2_s, up2_o (by decide)]
      exact congrArg Int32.toInt64 (hs.2.2.2.1 a' a1).1
    · rw [up2_o (by omega), up2_o (by omega), up2_row]
      exact row_sv (i := 6) sv_b k hk
    · rw [up2_row, setRow_s, up2_o (by decide), up2_o (by decide)]
    · rw [up2_o (by decide), up2_n (by decide), up2_o (by decide)]
    · rw [up2_o (by decide), up2_n (by decide), up2_o (by decide)]
  · exact sp_X12_rest p4 h.2.1 (fun a a1 a2 => absurd ⟨a, by omega, a2⟩ hn) (fun _ => fin_t hR (by decide))
set_option maxHeartbeats 1000000 in
theorem ok_dye {x y : Int32} {I : MI} {J : MJ} {P : MP} (hR : REL I J P) : SpH yL_dye cL_dye 5 hh_dye 999 [.ref 0, .int x, .int y, .ref 19] I J P (Qi (fun r5 I1 J1 P1 => Sp yX12_dye cX12_dye 4 (some .int) 999 [.ref 80, .int x, .int y] I1 J1 P1 (Qi (FIN r5)))) := by
  obtain ⟨⟨ts, es, h, hs, hd⟩, ⟨Tp, L, tp, rt⟩, he, ⟨p1, p2, p3, p4, p5⟩, hk⟩ := id hR
  obtain ⟨c1, c2, c3, c4, c5⟩ := h.cnt
  have N16 := h.N16
  have C6 := h.1.1.2
  refine sp_L_dye (sp_X10_dye p3 p1 h.1 (fun a b a1 b1 a2 b2 => ?_) (fun hn => ⟨rfl, ?_⟩))
  · have eb : bv (up2 I 21 a y) = bv I := bv_up (by decide)
    refine sp_X12_dye p4 (by rw [eb]; exact h.2.1) (fun a' w' a1' w1' a2' w2' => ?_) (fun hn => absurd ⟨⟨a, by rw [eb]; omega, a2⟩, b, by rw [eb]; omega, b2⟩ hn)
    rw [eb] at a1'
    obtain rfl : a' = a := eqN (a2'.symm.trans a2) (by omega) (by omega)
    subst b2
    obtain ⟨k1, k2⟩ := rel_dye h hs a1 b1
    have q : ∀ c, c ≠ 80 → c ≠ 95 → c ≠ 21 → up2 (up2 (up2 I 21 a' (nI b)) 80 0 (nI 0)) 95 a' (nI b) c = I c := fun c d1 d2 d3 => (up2_o d2).trans ((up2_o d1).trans (up2_o d3))
    refine ⟨(congrFun (up2_o (by decide)) 0).trans up2_s, fun _ => ?_, hR.of2 (RELI.mk k1 k2 (hd.set (Or.inl rfl)) (fun k hk => q _ (by omega) (by omega) (by omega)) (fun k hk => ?_) (fun k hk => ?_) (q _ (by decide) (by decide) (by decide))) (q _ (by decide) (by decide) (by decide)) (q _ (by decide) (by decide) (by decide)) ?_ (q _ (by decide) (by decide) (by decide)) (congrFun (q _ (by decide) (by decide) (by decide)) 9) ?_ ⟨p1, p2, p3, p4, p5⟩ (up2_o (by decide))⟩
    · rw [up2_s, up2_o (by decide)]
      exact congrArg Int32.toInt64 (hs.1 a' a1).1
    · by_cases e : k = 2
      · subst e
        rw [setRow_s, up2_row, setRow_s, up2_o (by decide), up2_o (by decide)]
        rfl
      · rw [setRow_o e]
        exact q _ (by omega) (by omega) (by omega)
    · rw [up2_o (by omega), up2_o (by omega), up2_row]
      exact row_sv (i := 1) sv_b k hk
    · rw [up2_o (by decide), up2_n (by decide), up2_o (by decide)]
    · rw [up2_o (by decide), up2_n (by decide), up2_o (by decide)]
  · exact sp_X12_dye p4 h.2.1 (fun a w a1 w1 a2 w2 => absurd ⟨⟨a, by omega, a2⟩, w, by omega, w2⟩ hn) (fun _ => fin_t hR (by decide))
set_option maxHeartbeats 1000000 in
theorem ok_hang {x y : Int32} {I : MI} {J : MJ} {P : MP} (hR : REL I J P) : SpH yL_hang cL_hang 5 hh_hang 999 [.ref 0, .int x, .int y, .ref 19] I J P (Qi (fun r5 I1 J1 P1 => Sp yX12_hang cX12_hang 3 (some .int) 999 [.ref 80, .int x, .int y] I1 J1 P1 (Qi (FIN r5)))) := by
  obtain ⟨⟨ts, es, h, hs, hd⟩, ⟨Tp, L, tp, rt⟩, he, ⟨p1, p2, p3, p4, p5⟩, hk⟩ := id hR
  obtain ⟨c1, c2, c3, c4, c5⟩ := h.cnt
  have N16 := h.N16
  have hu2 : ∀ k, k < nN (dv I) → sv 20 I 2 k = bv I 3 k := hs.u
  refine sp_L_hang (sp_X10_hang p3 p1 h.1 (fun a a1 a2 hy hw hc => ?_) (fun hn => Or.inl ⟨rfl, ?_⟩) (fun hx hy hw => Or.inr ⟨rfl, ?_⟩))
  · subst a2
    have hg := (br_hgC h hs a1 hy).mp ⟨hw, hc⟩
    obtain ⟨k1, k2⟩ := rel_hang h hs a1 hy hg
    generalize hI1 : setRow (setRow (setRow I 24 (aab (I 22) (nN (dv I)) 4 (I 22 a) (-(I 24 a)) (I 24))) 22 (upd (I 22) a y)) 24 (aab (upd (I 22) a y) (nN (dv I)) 4 y (aab (I 22) (nN (dv I)) 4 (I 22 a) (-(I 24 a)) (I 24) a) (aab (I 22) (nN (dv I)) 4 (I 22 a) (-(I 24 a)) (I 24))) = I1
    have o : ∀ b, b ≠ 22 → b ≠ 24 → I1 b = I b := fun b b1 b2 => by rw [← hI1, setRow_o b2, setRow_o b1, setRow_o b2]
    have eb : bv I1 = bv I := funext fun k => o _ (by omega) (by omega)
    have e96 : I1 96 = bv I 3 := o 96 (by decide) (by decide)
    refine sp_X12_hang p4 (by rw [eb]; exact h.2.1) (fun a' a1' a2' hy' hg' => ?_) (fun hn => absurd ⟨⟨a, by rw [eb]; omega, rfl⟩, by rw [eb, c2]; exact hy⟩ hn) (fun a' a1' a2' hy' hg' => ?_)
    · rw [eb] at a1'
      obtain rfl : a' = a := eqN a2'.symm (by omega) (by omega)
      have q : ∀ c, c ≠ 80 → c ≠ 96 → up2 (up2 I1 80 0 (nI 0)) 96 a' y c = I1 c := fun c d1 d2 => (up2_o d2).trans (up2_o d1)
      refine ⟨(congrFun (up2_o (by decide)) 0).trans up2_s, fun _ => ?_, hR.of2 (RELI.mk k1 k2 (hd.set (Or.inr rfl)) (fun k hk => (q _ (by omega) (by omega)).trans (o _ (by omega) (by omega))) (fun k hk => ?_) (fun k hk => (q _ (by omega) (by omega)).trans (hI1 ▸ row_sv (i := 4) (row_sv (i := 2) (row_sv (i := 4) sv_b)) k hk)) ((q _ (by decide) (by decide)).trans (o _ (by decide) (by decide)))) ((q _ (by decide) (by decide)).trans (o _ (by decide) (by decide))) ((q _ (by decide) (by decide)).trans (o _ (by decide) (by decide))) ?_ ((q _ (by decide) (by decide)).trans (o _ (by decide) (by decide))) (congrFun ((q _ (by decide) (by decide)).trans (o _ (by decide) (by decide))) 9) ?_ ⟨p1, p2, p3, p4, p5⟩ (up2_o (by decide))⟩
      · rw [up2_s, eb, e96, c2]
        congr 2
        refine dep_ext N16 (fun k hk => ?_) 4 _
        by_cases e : k = a'
        · rw [e, upd_s, upd_s]
        · rw [upd_o e, upd_o e]; exact hu2 k hk
      · by_cases e : k = 3
        · subst e
          rw [setRow_s, up2_row, setRow_s, up2_o (by decide), o 96 (by decide) (by decide)]
          rfl
        · rw [setRow_o e]
          exact (q _ (by omega) (by omega)).trans (o _ (by omega) (by omega))
      · rw [up2_o (by decide), up2_n (by decide), o 80 (by decide) (by decide)]
      · rw [up2_o (by decide), up2_n (by decide), o 80 (by decide) (by decide)]
    · rw [eb] at a1'
      obtain rfl : a' = a := eqN a2'.symm (by omega) (by omega)
      rw [eb, e96, c2, hg] at hg'
      exact absurd hg' Bool.false_ne_true
  · refine sp_X12_hang p4 h.2.1 (fun a a1 a2 hy _ => absurd ⟨⟨a, by omega, a2⟩, by rw [← c2]; exact hy⟩ hn) (fun _ => fin_t hR (by decide)) (fun a a1 a2 hy _ => absurd ⟨⟨a, by omega, a2⟩, by rw [← c2]; exact hy⟩ hn)
  · obtain ⟨a, a1, rfl⟩ := hx
    have hg : ¬ hgC (bv I 3) (nN (dv I)) a y = false := fun q => by
      obtain ⟨q1, q2⟩ := (br_hgC h hs a1 hy).mpr q
      rcases hw with r | ⟨r1, r2⟩
      · exact absurd (r.symm.trans q1) (by decide)
      · exact r2 q2
    refine sp_X12_hang p4 h.2.1 (fun a' a1' a2' hy' hg' => ?_) (fun hn => absurd ⟨⟨a, by omega, rfl⟩, by rw [c2]; exact hy⟩ hn) (fun _ _ _ _ _ => fin_t hR (by decide))
    obtain rfl : a' = a := eqN a2'.symm (by omega) (by omega)
    rw [c2] at hg'
    exact absurd hg' hg
set_option maxHeartbeats 1000000 in
theorem ok_trim {x : Int32} {I : MI} {J : MJ} {P : MP} (hR : REL I J P) : SpH yL_trim cL_trim 4 hh_trim 999 [.ref 0, .int x, .ref 19] I J P (Qi (fun r5 I1 J1 P1 => Sp yX12_trim cX12_trim 2 (some .int) 999 [.ref 80, .int x] I1 J1 P1 (Qi (FIN r5)))) := by
  obtain ⟨⟨ts, es, h, hs, hd⟩, ⟨Tp, L, tp, rt⟩, he, ⟨p1, p2, p3, p4, p5⟩, hk⟩ := id hR
  obtain ⟨c1, c2, c3, c4, c5⟩ := h.cnt
  refine sp_L_trim (sp_X10_trim tp.1 tp.2.1 (fun n n1 n2 => ?_) (fun hn => ⟨rfl, ?_⟩))
  · refine sp_X12_trim ((congrFun (up2_o (by decide)) 2).trans rt.1) rt.2.1 (fun n' n1' n2' => ?_) (fun hn => absurd ⟨n, n1, n2⟩ hn)
    have q : ∀ c, c ≠ 80 → c ≠ 1 → up2 (up2 (up2 I 1 1 x) 80 0 (nI 0)) 80 2 x c = I c := fun c d1 d2 => (up2_o d1).trans ((up2_o d1).trans (up2_o d2))
    refine ⟨(up2_n (by decide)).trans up2_s, fun _ => by rw [up2_s], hR.1.same ⟨fun a _ _ => q _ (by omega) (by omega), fun a _ _ => q _ (by omega) (by omega), fun a _ _ => q _ (by omega) (by omega), q _ (by decide) (by decide)⟩, ⟨Tp, n, ⟨?_, by have := tp.2.1; omega, fun j hj => ?_⟩, ⟨?_, by have := tp.2.1; omega, fun j hj => ?_⟩⟩, ?_, ⟨p1, p2, p3, p4, p5⟩, ?_⟩
    · rw [up2_o (by decide), up2_o (by decide), up2_s]; exact n2
    · rw [q 2 (by decide) (by decide)]; exact tp.2.2 j (by omega)
    · rw [up2_s]; exact n2
    · rw [q 81 (by decide) (by decide)]; exact rt.2.2 j (by omega)
    · rw [q 0 (by decide) (by decide), up2_n (by decide), up2_n (by decide), up2_o (by decide)]; exact he
    · unfold kwO; rw [up2_o (by decide)]; exact hk
  · exact sp_X12_trim rt.1 rt.2.1 (fun n n1 n2 => absurd ⟨n, n1, n2⟩ hn) (fun _ => fin_t hR (by decide))
set_option maxHeartbeats 1000000 in
theorem ok_feed {a b c d0 e : Int32} {I : MI} {J : MJ} {P : MP} (hR : REL I J P) : SpH yL_feed cL_feed 8 hh_feed 999 [.ref 0, .int a, .int b, .int c, .int d0, .int e, .ref 19] I J P (Qi (fun r5 I1 J1 P1 => Sp yX12_feed cX12_feed 6 (some .int) 999 [.ref 80, .int a, .int b, .int c, .int d0, .int e] I1 J1 P1 (Qi (FIN r5)))) := by
  obtain ⟨⟨ts, es, h, hs, hd⟩, ⟨Tp, L, tp, rt⟩, he, ⟨p1, p2, p3, p4, p5⟩, hk⟩ := id hR
  obtain ⟨c1, c2, c3, c4, c5⟩ := h.cnt
  refine sp_L_feed (sp_X10_feed tp (fun hl I1 t1 o1 => ?_) (fun hn => ⟨rfl, ?_⟩))
  · have rt1 : rtO Tp L I1 := by
      unfold rtO at rt ⊢
      rw [o1 80 (by decide) (by decide), o1 81 (by decide) (by decide)]
      exact rt
    refine sp_X12_feed rt1 (fun _ I2 t2 o2 q2 => ?_) (fun hn => absurd hl hn)
    have q : ∀ k, k ≠ 80 → k ≠ 81 → k ≠ 1 → k ≠ 2 → I2 k = I k := fun k k1 k2 k3 k4 => (o2 k k1 k2).trans (o1 k k3 k4)
    refine ⟨(q2 0 (by decide)).trans up2_s, fun _ => by rw [up2_s], hR.1.same ⟨fun a _ _ => q _ (by omega) (by omega) (by omega) (by omega), fun a _ _ => q _ (by omega) (by omega) (by omega) (by omega), fun a _ _ => q _ (by omega) (by omega) (by omega) (by omega), q _ (by decide) (by decide) (by decide) (by decide)⟩, ⟨_, _, ?_, t2⟩, ?_, ⟨p1, p2, p3, p4, p5⟩, ?_⟩
    · unfold tpO at t1 ⊢
      rw [o2 1 (by decide) (by decide), o2 2 (by decide) (by decide)]
      exact t1
    · rw [q 0 (by decide) (by decide) (by decide) (by decide), q2 3 (by decide), up2_n (by decide), o1 80 (by decide) (by decide)]; exact he
    · unfold kwO; rw [up2_o (by decide)]; exact hk
  · exact sp_X12_feed rt (fun hl => absurd hl hn) (fun _ => fin_t hR (by decide))
