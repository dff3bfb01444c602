/-! The law's calls that only read -/
theorem REL.of {I I' : MI} {J J' : MJ} {P P' : MP} (hR : REL I J P) (s : sameW I I') (t1 : I' 1 = I 1) (t2 : I' 2 = I 2) (r2 : I' 80 2 = I 80 2) (r81 : I' 81 = I 81) (e0 : I' 0 9 = I 0 9) (e3 : I' 80 3 = I 80 3) (hP : PTR P') (hJ : J' 7 = J 7) : REL I' J' P' := by
  obtain ⟨h, ⟨Tp, L, tp, rt⟩, he, -, hk⟩ := hR
  refine ⟨h.same s, ⟨Tp, L, ?_, ?_⟩, by rw [e0, e3]; exact he, hP, ?_⟩
  · unfold tpO at tp ⊢
    rw [t1, t2]
    exact tp
  · unfold rtO at rt ⊢
    rw [r2, r81]
    exact rt
  · unfold kwO at hk ⊢
    rw [hJ]
    exact hk
theorem sameW_80 {I : MI} {k : Nat} {v : Int32} : sameW I (up2 I 80 k v) := ⟨fun a _ _ => up2_o (by omega), fun a _ _ => up2_o (by omega), fun a _ _ => up2_o (by omega), up2_o (by decide)⟩
theorem REL.w80 {I : MI} {J : MJ} {P : MP} (hR : REL I J P) {v : Int32} : REL (up2 I 80 0 v) J P := hR.of sameW_80 (up2_o (by decide)) (up2_o (by decide)) (up2_n (by decide)) (up2_o (by decide)) (congrFun (up2_o (by decide)) 9) (up2_n (by decide)) hR.2.2.2.1 rfl
theorem REL.w19 {I : MI} {J : MJ} {P : MP} (hR : REL I J P) {v : Int64} : REL I (up2 J 19 0 v) P := hR.of ⟨fun _ _ _ => rfl, fun _ _ _ => rfl, fun _ _ _ => rfl, rfl⟩ rfl rfl rfl rfl rfl rfl hR.2.2.2.1 (up2_o (by decide))
theorem fin_ok {I : MI} {J : MJ} {P : MP} (hR : REL I J P) {v w : Int32} (h : v = w) : FIN (nI 0) w (up2 I 80 0 (nI 0)) (up2 J 19 0 v.toInt64) P := ⟨up2_s, fun _ => by rw [up2_s, h], hR.w80.w19⟩
theorem fin_t {I : MI} {J : MJ} {P : MP} (hR : REL I J P) {c : Int32} (h : ¬ c = nI 0) : FIN c (nI 0) (up2 (up2 I 80 0 (nI 0)) 80 0 c) J P := ⟨up2_s, fun q => absurd q h, hR.w80.w80⟩
set_option maxHeartbeats 1000000 in
theorem ok_count {x : Int32} {I : MI} {J : MJ} {P : MP} (hR : REL I J P) : SpH yL_count cL_count 4 hh_count 999 [.ref 0, .int x, .ref 19] I J P (Qi (fun r5 I1 J1 P1 => Sp yX12_count cX12_count 2 (some .int) 999 [.ref 80, .int x] I1 J1 P1 (Qi (FIN r5)))) := by
  obtain ⟨⟨ts, es, h, hs, hd⟩, ⟨Tp, L, tp, rt⟩, he, ⟨p1, p2, p3, p4, p5⟩, hk⟩ := id hR
  obtain ⟨c1, c2, c3, c4, c5⟩ := h.cnt
  refine sp_L_count (sp_X10_count p3 h.1 (fun w w1 w2 => ?_) (fun hn => ⟨rfl, ?_⟩))
  · refine sp_X12_count p4 h.2.1 (fun w' w1' w2' => ?_) (fun hn => absurd ⟨w, w1, w2⟩ hn)
    obtain rfl : w' = w := eqN (w2'.symm.trans w2) (by omega) (by omega)
    exact fin_ok hR (br_cnt h hs w1 (tp.1.trans rt.1.symm))
  · exact sp_X12_count p4 h.2.1 (fun w w1 w2 => absurd ⟨w, w1, w2⟩ hn) (fun _ => fin_t hR (by decide))
set_option maxHeartbeats 1000000 in
theorem ok_colour {x y : Int32} {I : MI} {J : MJ} {P : MP} (hR : REL I J P) : SpH yL_colour cL_colour 5 hh_colour 999 [.ref 0, .int x, .int y, .ref 19] I J P (Qi (fun r5 I1 J1 P1 => Sp yX12_colour cX12_colour 3 (some .int) 999 [.ref 80, .int x, .int y] I1 J1 P1 (Qi (FIN r5)))) := by
  obtain ⟨⟨ts, es, h, hs, hd⟩, ⟨Tp, L, tp, rt⟩, he, ⟨p1, p2, p3, p4, p5⟩, hk⟩ := id hR
  obtain ⟨c1, c2, c3, c4, c5⟩ := h.cnt
  have N16 := h.N16
  have hC6 := h.1.1.2
  have hT6 := h.1.2.2.1.2
  have hK5 := h.1.2.2.2.1.2
  refine sp_L_colour (sp_X10_colour p3 p1 h.1 (fun a w a1 w1 a2 w2 => ?_) (fun hn => ⟨rfl, ?_⟩))
  · refine sp_X12_colour p4 h.2.1 (fun a' w' a1' w1' a2' w2' => ?_) (fun hn => absurd ⟨⟨a, by omega, a2⟩, w, w1, w2⟩ hn)
    obtain rfl : a' = a := eqN (a2'.symm.trans a2) (by omega) (by omega)
    obtain rfl : w' = w := eqN (w2'.symm.trans w2) (by omega) (by omega)
    exact fin_ok hR (br_col h hs (by omega) w1)
  · exact sp_X12_colour p4 h.2.1 (fun a w a1 w1 a2 w2 => absurd ⟨⟨a, by omega, a2⟩, w, w1, w2⟩ hn) (fun _ => fin_t hR (by decide))
set_option maxHeartbeats 1000000 in
theorem ok_cord {x y : Int32} {I : MI} {J : MJ} {P : MP} (hR : REL I J P) : SpH yL_cord cL_cord 5 hh_cord 999 [.ref 0, .int x, .int y, .ref 19] I J P (Qi (fun r5 I1 J1 P1 => Sp yX12_cord cX12_cord 3 (some .int) 999 [.ref 80, .int x, .int y] I1 J1 P1 (Qi (FIN r5)))) := by
  obtain ⟨⟨ts, es, h, hs, hd⟩, ⟨Tp, L, tp, rt⟩, he, ⟨p1, p2, p3, p4, p5⟩, hk⟩ := id hR
  obtain ⟨c1, c2, c3, c4, c5⟩ := h.cnt
  have N16 := h.N16
  have hC6 := h.1.1.2
  have hT6 := h.1.2.2.1.2
  have hK5 := h.1.2.2.2.1.2
  refine sp_L_cord (sp_X10_cord p3 p1 h.1 (fun a w a1 w1 a2 w2 => ?_) (fun hn => ⟨rfl, ?_⟩))
  · refine sp_X12_cord p4 h.2.1 (fun a' w' a1' w1' a2' w2' => ?_) (fun hn => absurd ⟨⟨a, by omega, a2⟩, w, w1, w2⟩ hn)
    obtain rfl : a' = a := eqN (a2'.symm.trans a2) (by omega) (by omega)
    obtain rfl : w' = w := eqN (w2'.symm.trans w2) (by omega) (by omega)
    exact fin_ok hR (br_cor h hs hd (by omega) w1)
  · exact sp_X12_cord p4 h.2.1 (fun a w a1 w1 a2 w2 => absurd ⟨⟨a, by omega, a2⟩, w, w1, w2⟩ hn) (fun _ => fin_t hR (by decide))
set_option maxHeartbeats 1000000 in
theorem ok_top {x y : Int32} {I : MI} {J : MJ} {P : MP} (hR : REL I J P) : SpH yL_top cL_top 5 hh_top 999 [.ref 0, .int x, .int y, .ref 19] I J P (Qi (fun r5 I1 J1 P1 => Sp yX12_top cX12_top 3 (some .int) 999 [.ref 80, .int x, .int y] I1 J1 P1 (Qi (FIN r5)))) := by
  obtain ⟨⟨ts, es, h, hs, hd⟩, ⟨Tp, L, tp, rt⟩, he, ⟨p1, p2, p3, p4, p5⟩, hk⟩ := id hR
  obtain ⟨c1, c2, c3, c4, c5⟩ := h.cnt
  have N16 := h.N16
  have hC6 := h.1.1.2
  have hT6 := h.1.2.2.1.2
  have hK5 := h.1.2.2.2.1.2
  refine sp_L_top (sp_X10_top p3 p1 h.1 (fun a w a1 w1 a2 w2 => ?_) (fun hn => ⟨rfl, ?_⟩))
  · refine sp_X12_top p4 h.2.1 (fun a' w' a1' w1' a2' w2' => ?_) (fun hn => absurd ⟨⟨a, by omega, a2⟩, w, w1, w2⟩ hn)
    obtain rfl : a' = a := eqN (a2'.symm.trans a2) (by omega) (by omega)
    obtain rfl : w' = w := eqN (w2'.symm.trans w2) (by omega) (by omega)
    exact fin_ok hR (br_top h hs (by omega) w1)
  · exact sp_X12_top p4 h.2.1 (fun a w a1 w1 a2 w2 => absurd ⟨⟨a, by omega, a2⟩, w, w1, w2⟩ hn) (fun _ => fin_t hR (by decide))
set_option maxHeartbeats 1000000 in
theorem ok_keeper {x y : Int32} {I : MI} {J : MJ} {P : MP} (hR : REL I J P) : SpH yL_keeper cL_keeper 5 hh_keeper 999 [.ref 0, .int x, .int y, .ref 19] I J P (Qi (fun r5 I1 J1 P1 => Sp yX12_keeper cX12_keeper 3 (some .int) 999 [.ref 80, .int x, .int y] I1 J1 P1 (Qi (FIN r5)))) := by
  obtain ⟨⟨ts, es, h, hs, hd⟩, ⟨Tp, L, tp, rt⟩, he, ⟨p1, p2, p3, p4, p5⟩, hk⟩ := id hR
  obtain ⟨c1, c2, c3, c4, c5⟩ := h.cnt
  have N16 := h.N16
  have hC6 := h.1.1.2
  have hT6 := h.1.2.2.1.2
  have hK5 := h.1.2.2.2.1.2
  refine sp_L_keeper (sp_X10_keeper p3 p1 h.1 (fun a w a1 w1 a2 w2 => ?_) (fun hn => ⟨rfl, ?_⟩))
  · refine sp_X12_keeper p4 h.2.1 (fun a' w' a1' w1' a2' w2' => ?_) (fun hn => absurd ⟨⟨a, by omega, a2⟩, w, w1, w2⟩ hn)
    obtain rfl : a' = a := eqN (a2'.symm.trans a2) (by omega) (by omega)
    obtain rfl : w' = w := eqN (w2'.symm.trans w2) (by omega) (by omega)
    exact fin_ok hR (br_kee h hs (by omega) w1)
  · exact sp_X12_keeper p4 h.2.1 (fun a w a1 w1 a2 w2 => absurd ⟨⟨a, by omega, a2⟩, w, w1, w2⟩ hn) (fun _ => fin_t hR (by decide))
set_option maxHeartbeats 1000000 in
theorem ok_digit {x y : Int32} {I : MI} {J : MJ} {P : MP} (hR : REL I J P) : SpH yL_digit cL_digit 5 hh_digit 999 [.ref 0, .int x, .int y, .ref 19] I J P (Qi (fun r5 I1 J1 P1 => Sp yX12_digit cX12_digit 5 (some .int) 999 [.ref 80, .int x, .int y] I1 J1 P1 (Qi (FIN r5)))) := by
  obtain ⟨⟨ts, es, h, hs, hd⟩, ⟨Tp, L, tp, rt⟩, he, ⟨p1, p2, p3, p4, p5⟩, hk⟩ := id hR
  obtain ⟨c1, c2, c3, c4, c5⟩ := h.cnt
  have N16 := h.N16
  have hC6 := h.1.1.2
  have hT6 := h.1.2.2.1.2
  have hK5 := h.1.2.2.2.1.2
  refine sp_L_digit (sp_X10_digit p3 p1 h.1 (fun a w a1 w1 a2 w2 => ?_) (fun hn => ⟨rfl, ?_⟩))
  · refine sp_X12_digit p4 h.2.1 (fun a' w' a1' w1' a2' w2' => ?_) (fun hn => absurd ⟨⟨a, by omega, a2⟩, w, w1, w2⟩ hn)
    obtain rfl : a' = a := eqN (a2'.symm.trans a2) (by omega) (by omega)
    obtain rfl : w' = w := eqN (w2'.symm.trans w2) (by omega) (by omega)
    exact fin_ok hR (congrArg (dgt w') (relS.v hs a' (by omega)))
  · exact sp_X12_digit p4 h.2.1 (fun a w a1 w1 a2 w2 => absurd ⟨⟨a, by omega, a2⟩, w, w1, w2⟩ hn) (fun _ => fin_t hR (by decide))
set_option maxHeartbeats 1000000 in
theorem ok_apart {x y : Int32} {I : MI} {J : MJ} {P : MP} (hR : REL I J P) : SpH yL_apart cL_apart 5 hh_apart 999 [.ref 0, .int x, .int y, .ref 19] I J P (Qi (fun r5 I1 J1 P1 => Sp yX12_apart cX12_apart 7 (some .int) 999 [.ref 80, .int x, .int y] I1 J1 P1 (Qi (FIN r5)))) := by
  obtain ⟨⟨ts, es, h, hs, hd⟩, ⟨Tp, L, tp, rt⟩, he, ⟨p1, p2, p3, p4, p5⟩, hk⟩ := id hR
  obtain ⟨c1, c2, c3, c4, c5⟩ := h.cnt
  refine sp_L_apart (sp_X10_apart p3 p1 h.1 (fun a b a1 b1 a2 b2 => ?_) (fun hn => ⟨rfl, ?_⟩))
  · refine sp_X12_apart p4 h.2.1 (fun a' b' a1' b1' a2' b2' => ?_) (fun hn => absurd ⟨⟨a, by omega, a2⟩, b, by omega, b2⟩ hn)
    exact fin_ok hR (congrArg nI (br_stp h hs 8 x y))
  · exact sp_X12_apart p4 h.2.1 (fun a b a1 b1 a2 b2 => absurd ⟨⟨a, by omega, a2⟩, b, by omega, b2⟩ hn) (fun _ => fin_t hR (by decide))
set_option maxHeartbeats 1000000 in
theorem ok_order {x : Int32} {I : MI} {J : MJ} {P : MP} (hR : REL I J P) : SpH yL_order cL_order 4 hh_order 999 [.ref 0, .int x, .ref 19] I J P (Qi (fun r5 I1 J1 P1 => Sp yX12_order cX12_order 6 (some .int) 999 [.ref 80, .int x] I1 J1 P1 (Qi (FIN r5)))) := by
  obtain ⟨⟨ts, es, h, hs, hd⟩, ⟨Tp, L, tp, rt⟩, he, ⟨p1, p2, p3, p4, p5⟩, hk⟩ := id hR
  obtain ⟨c1, c2, c3, c4, c5⟩ := h.cnt
  refine sp_L_order (sp_X10_order p3 p1 h.1 (fun a a1 a2 => ?_) (fun hn => ⟨rfl, ?_⟩))
  · refine sp_X12_order p4 h.2.1 (fun a' a1' a2' => ?_) (fun hn => absurd ⟨a, by omega, a2⟩ hn)
    exact fin_ok hR (br_ord h hs x)
  · exact sp_X12_order p4 h.2.1 (fun a a1 a2 => absurd ⟨a, by omega, a2⟩ hn) (fun _ => fin_t hR (by decide))
