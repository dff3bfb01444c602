/-! The class's teacher: any line, the list -/
theorem lnC.ro {K : Nat → Nat} {V m : Nat → Int32} {I I' : MI} {p e z z' : Nat} (h : lnC K V m p e z z' I) (e9 : I' 9 = I 9) (e78 : I' 78 = I 78) (e79 : I' 79 = I 79) : lnC K V m p e z z' I' := by
  unfold lnC tsC seg rnC cok at h ⊢
  rw [e9, e78, e79]
  exact h
set_option maxRecDepth 100000 in
set_option maxHeartbeats 4000000 in
theorem ln_any {Γ : Cx} {K wd : Nat → Nat} {V m : Nat → Int32} {M d p z z' : Nat} {T I : MI} {J : MJ} {P : MP} {Q : Int32 → MI → MJ → MP → Prop} (hK : psO K V M I J) (hw : wdO K wd M J) (hV : vO K V M) (hn : nmO K M T) (ht : tcl wd T I J) (hp : p ≤ M) (hg : (pL K p).1 = true) (hz : z' ≤ M) (hL : lnC K V m p (pL K p).2 z z' I) (hE : ∀ e t I' J', lerr K V wd T p = some (e, t) → FR I J I' J' → I' 10 0 = nI e → Q (nI t) I' J' P) (κ : lerr K V wd T p = none → ∀ I' J' x5, FR I J I' J' → tcl wd (lsT K V wd (I 9) T p) I' J' → I' 10 0 = 0 → (∀ t, t < p → I' 16 t = I 16 t) → ((K p = 11 ∨ K p = 14) → ∀ t, p < t → t < (pL K p).2 → K t = 28 → I' 16 t = mT K wd T t) → VG Γ 0 0 12 [some (.ref 10), some (.ref 3), some (.ref 9), some (.ref 58), some (.int (nI (pL K p).2)), x5] [] I' J' P (Fnl Γ (Qi Q))) (h : Vc RX7 cX7_firstFault 6 (some .int) (d + 5) Γ) {x5 : Option Value} : VG Γ 0 0 12 [some (.ref 10), some (.ref 3), some (.ref 9), some (.ref 58), some (.int (nI p)), x5] [] I J P (Fnl Γ (Qi Q)) := by
  have hM4 := hK.2.2.2.1
  have hM := hK.2.2.2.2
  obtain ⟨kk, -, -, hend⟩ := pL_sh hM hp hg
  have lt : ∀ q k, q ≤ M → K q = k → k < 45 → q + 1 ≤ M := fun q k a b c => K_lt hM a b c
  have hs0 := hg
  rcases kk with e | e | e | e | e | e
  · have s0 : pL K p = sqK K [0, 28, 1, 29, 34] p rtL := by rw [pL, if_pos e]
    rw [s0] at hg
    obtain ⟨e0, c0⟩ := sqK_c hg
    have b1 := lt p 0 hp e0 (by decide)
    rw [c0] at hg
    have s1 := s0.trans c0
    obtain ⟨e1, c1⟩ := sqK_c hg
    have b2 := lt (p + 1) 28 b1 e1 (by decide)
    rw [c1] at hg
    have s2 := s1.trans c1
    obtain ⟨e2, c2⟩ := sqK_c hg
    have b3 := lt (p + 1 + 1) 1 b2 e2 (by decide)
    rw [c2] at hg
    have s3 := s2.trans c2
    obtain ⟨e3, c3⟩ := sqK_c hg
    have b4 := lt (p + 1 + 1 + 1) 29 b3 e3 (by decide)
    rw [c3] at hg
    have s4 := s3.trans c3
    obtain ⟨e4, c4⟩ := sqK_c hg
    have b5 := lt (p + 1 + 1 + 1 + 1) 34 b4 e4 (by decide)
    rw [c4] at hg
    have s5 := s4.trans c4
    have ee : (pL K p).2 = (p + 1 + 1 + 1 + 1 + 1) := congrArg Prod.snd s5
    rw [ee] at κ
    exact ln_0 hK hw hV hn ht e e1 e2 e3 e4 (by omega) hE (fun a I' J' x5 b c f g => κ a I' J' x5 b c f g (fun q => absurd q (by omega))) h
  · have s0 : pL K p = sqK K [2, 28, 3, 28, 4] p (undL K) := by rw [pL, if_neg (by omega), if_pos e]
    rw [s0] at hg
    obtain ⟨e0, c0⟩ := sqK_c hg
    have b1 := lt p 2 hp e0 (by decide)
    rw [c0] at hg
    have s1 := s0.trans c0
    obtain ⟨e1, c1⟩ := sqK_c hg
    have b2 := lt (p + 1) 28 b1 e1 (by decide)
    rw [c1] at hg
    have s2 := s1.trans c1
    obtain ⟨e2, c2⟩ := sqK_c hg
    have b3 := lt (p + 1 + 1) 3 b2 e2 (by decide)
    rw [c2] at hg
    have s3 := s2.trans c2
    obtain ⟨e3, c3⟩ := sqK_c hg
    have b4 := lt (p + 1 + 1 + 1) 28 b3 e3 (by decide)
    rw [c3] at hg
    have s4 := s3.trans c3
    obtain ⟨e4, c4⟩ := sqK_c hg
    have b5 := lt (p + 1 + 1 + 1 + 1) 4 b4 e4 (by decide)
    rw [c4] at hg
    have s5 := s4.trans c4
    change (undL K (p + 1 + 1 + 1 + 1 + 1)).1 = true at hg
    have s5 : pL K p = undL K (p + 1 + 1 + 1 + 1 + 1) := s5
    by_cases u : K (p + 1 + 1 + 1 + 1 + 1) = 5 ∨ K (p + 1 + 1 + 1 + 1 + 1) = 28
    · have s6 : pL K p = couL K (p + 1 + 1 + 1 + 1 + 1 + 1) := by rw [s5, undL, if_pos u]
      have b6 : p + 1 + 1 + 1 + 1 + 1 + 1 ≤ M := u.elim (fun r => lt _ _ b5 r (by decide)) (fun r => lt _ _ b5 r (by decide))
      by_cases v : K (p + 1 + 1 + 1 + 1 + 1 + 1) = 6
      · have s6 : pL K p = sqK K [6, 29, 34] (p + 1 + 1 + 1 + 1 + 1 + 1) rtL := by rw [s6, couL, if_pos v]
        have hg : (sqK K [6, 29, 34] (p + 1 + 1 + 1 + 1 + 1 + 1) rtL).1 = true := by rw [← s6]; exact hs0
        obtain ⟨e6, c6⟩ := sqK_c hg
        have b7 := lt (p + 1 + 1 + 1 + 1 + 1 + 1) 6 b6 e6 (by decide)
        rw [c6] at hg
        have s7 := s6.trans c6
        obtain ⟨e7, c7⟩ := sqK_c hg
        have b8 := lt (p + 1 + 1 + 1 + 1 + 1 + 1 + 1) 29 b7 e7 (by decide)
        rw [c7] at hg
        have s8 := s7.trans c7
        obtain ⟨e8, c8⟩ := sqK_c hg
        have b9 := lt (p + 1 + 1 + 1 + 1 + 1 + 1 + 1 + 1) 34 b8 e8 (by decide)
        rw [c8] at hg
        have s9 := s8.trans c8
        have ee : (pL K p).2 = p + 1 + 1 + 1 + 1 + 1 + 1 + 1 + 1 + 1 := congrArg Prod.snd s9
        rw [ee] at κ
        rcases u with u | u
        · exact ln_2mc hK hw hV hn ht e e1 e2 e3 e4 u e6 e7 e8 (by omega) hE (fun a I' J' x5 b c f g => κ a I' J' x5 b c f g (fun q => absurd q (by omega))) h
        · exact ln_2nc hK hw hV hn ht e e1 e2 e3 e4 u e6 e7 e8 (by omega) hE (fun a I' J' x5 b c f g => κ a I' J' x5 b c f g (fun q => absurd q (by omega))) h
      · have s6 : pL K p = sqK K [34] (p + 1 + 1 + 1 + 1 + 1 + 1) rtL := by rw [s6, couL, if_neg v]
        have hg : (sqK K [34] (p + 1 + 1 + 1 + 1 + 1 + 1) rtL).1 = true := by rw [← s6]; exact hs0
        obtain ⟨e6, c6⟩ := sqK_c hg
        have b7 := lt (p + 1 + 1 + 1 + 1 + 1 + 1) 34 b6 e6 (by decide)
        rw [c6] at hg
        have s7 := s6.trans c6
        have ee : (pL K p).2 = p + 1 + 1 + 1 + 1 + 1 + 1 + 1 := congrArg Prod.snd s7
        rw [ee] at κ
        rcases u with u | u
        · exact ln_2m hK hw hV hn ht e e1 e2 e3 e4 u e6 (by omega) hE (fun a I' J' x5 b c f g => κ a I' J' x5 b c f g (fun q => absurd q (by omega))) h
        · exact ln_2n hK hw hV hn ht e e1 e2 e3 e4 u e6 (by omega) hE (fun a I' J' x5 b c f g => κ a I' J' x5 b c f g (fun q => absurd q (by omega))) h
    · rw [undL, if_neg u] at hg
      exact Bool.noConfusion hg
  · have s0 : pL K p = sqK K [7, 28, 8, 28, 28] p (fun q => sqK K [34] (nms K 400 q) rtL) := by rw [pL, if_neg (by omega), if_neg (by omega), if_pos e]
    rw [s0] at hg
    obtain ⟨e0, c0⟩ := sqK_c hg
    have b1 := lt p 7 hp e0 (by decide)
    rw [c0] at hg
    have s1 := s0.trans c0
    obtain ⟨e1, c1⟩ := sqK_c hg
    have b2 := lt (p + 1) 28 b1 e1 (by decide)
    rw [c1] at hg
    have s2 := s1.trans c1
    obtain ⟨e2, c2⟩ := sqK_c hg
    have b3 := lt (p + 1 + 1) 8 b2 e2 (by decide)
    rw [c2] at hg
    have s3 := s2.trans c2
    obtain ⟨e3, c3⟩ := sqK_c hg
    have b4 := lt (p + 1 + 1 + 1) 28 b3 e3 (by decide)
    rw [c3] at hg
    have s4 := s3.trans c3
    obtain ⟨e4, c4⟩ := sqK_c hg
    have b5 := lt (p + 1 + 1 + 1 + 1) 28 b4 e4 (by decide)
    rw [c4] at hg
    have s5 := s4.trans c4
    change (sqK K [34] (nms K 400 (p + 5)) rtL).1 = true at hg
    have s5 : pL K p = sqK K [34] (nms K 400 (p + 5)) rtL := s5
    obtain ⟨n1, n2⟩ := nms_B hM 400 (p + 5) b5
    obtain ⟨e5, c5⟩ := sqK_c hg
    have ee : (pL K p).2 = nms K 400 (p + 5) + 1 := congrArg Prod.snd (s5.trans c5)
    rw [ee] at κ
    exact ln_7 hK hw hV hn ht e e1 e2 e3 e4 e5 b5 (K_lt hM n2 e5 (by decide)) hE (fun a I' J' x5 b c f g => κ a I' J' x5 b c f g (fun q => absurd q (by omega))) h
  · have s0 : pL K p = sqK K [9, 28, 10, 29, 34] p rtL := by rw [pL, if_neg (by omega), if_neg (by omega), if_neg (by omega), if_pos e]
    rw [s0] at hg
    obtain ⟨e0, c0⟩ := sqK_c hg
    have b1 := lt p 9 hp e0 (by decide)
    rw [c0] at hg
    have s1 := s0.trans c0
    obtain ⟨e1, c1⟩ := sqK_c hg
    have b2 := lt (p + 1) 28 b1 e1 (by decide)
    rw [c1] at hg
    have s2 := s1.trans c1
    obtain ⟨e2, c2⟩ := sqK_c hg
    have b3 := lt (p + 1 + 1) 10 b2 e2 (by decide)
    rw [c2] at hg
    have s3 := s2.trans c2
    obtain ⟨e3, c3⟩ := sqK_c hg
    have b4 := lt (p + 1 + 1 + 1) 29 b3 e3 (by decide)
    rw [c3] at hg
    have s4 := s3.trans c3
    obtain ⟨e4, c4⟩ := sqK_c hg
    have b5 := lt (p + 1 + 1 + 1 + 1) 34 b4 e4 (by decide)
    rw [c4] at hg
    have s5 := s4.trans c4
    have ee : (pL K p).2 = (p + 1 + 1 + 1 + 1 + 1) := congrArg Prod.snd s5
    rw [ee] at κ
    exact ln_9 hK hw hV hn ht e e1 e2 e3 e4 (by omega) hE (fun a I' J' x5 b c f g => κ a I' J' x5 b c f g (fun q => absurd q (by omega))) h
  · have s0 : pL K p = sqK K [11, 28, 12, 28, 13] p (tieL K) := by rw [pL, if_neg (by omega), if_neg (by omega), if_neg (by omega), if_neg (by omega), if_pos e]
    rw [s0] at hg
    obtain ⟨e0, c0⟩ := sqK_c hg
    have b1 := lt p 11 hp e0 (by decide)
    rw [c0] at hg
    have s1 := s0.trans c0
    obtain ⟨e1, c1⟩ := sqK_c hg
    have b2 := lt (p + 1) 28 b1 e1 (by decide)
    rw [c1] at hg
    have s2 := s1.trans c1
    obtain ⟨e2, c2⟩ := sqK_c hg
    have b3 := lt (p + 1 + 1) 12 b2 e2 (by decide)
    rw [c2] at hg
    have s3 := s2.trans c2
    obtain ⟨e3, c3⟩ := sqK_c hg
    have b4 := lt (p + 1 + 1 + 1) 28 b3 e3 (by decide)
    rw [c3] at hg
    have s4 := s3.trans c3
    obtain ⟨e4, c4⟩ := sqK_c hg
    have b5 := lt (p + 1 + 1 + 1 + 1) 13 b4 e4 (by decide)
    rw [c4] at hg
    have s5 := s4.trans c4
    change (tieL K (p + 5)).1 = true at hg
    have s5 : pL K p = tieL K (p + 5) := s5
    by_cases u : (pS K v0 v0 8 (p + 5)).1 = true
    · obtain ⟨q1, q1b, q1c⟩ := pS_B (V := v0) (m := v0) hM 8 (p + 5) b5
      have hR := pS_R (V := v0) (m := v0) hM 8 (p + 5) b5 u
      rw [tieL, if_pos u] at hg s5
      have sW : (pL K p).2 = (whnL K (pS K v0 v0 8 (p + 5)).2.1).2 := congrArg Prod.snd s5
      have hq1 : q1L K p = (pS K v0 v0 8 (p + 5)).2.1 := if_pos e
      rcases whnL_c hM q1b hg with ⟨w1, w2, w3, w4, w5, w6, w7, w8⟩ | ⟨w1, w3, w8⟩
      · refine ln_11w hK hw hV hn ht e e1 e2 e3 e4 hq1 q1 hR w1 w4 w7 w6 (sW.trans w8) w5 ?_ hE (fun a I' J' x5 b c f g k => κ a I' J' x5 b c f g (fun _ => k)) h
        unfold lnC at hL
        rw [if_pos e] at hL
        obtain ⟨z1, -, a3, ⟨-, a2⟩, -⟩ := hL
        rw [← (pS_eqv (K := K) (V := v0) (m := v0) (V' := V) (m' := m) 8 (p + 5)).2] at a2
        intro r
        rw [a2] at r
        exact nI_pos (show z1 < 2 ^ 31 by omega) (by rw [r]; decide)
      · exact ln_11 hK hw hV hn ht e e1 e2 e3 e4 hq1 q1 hR w1 (sW.trans w8) w3 hE (fun a I' J' x5 b c f g k => κ a I' J' x5 b c f g (fun _ => k)) h
    · rw [tieL, if_neg u] at hg
      exact Bool.noConfusion hg
  · have s0 : pL K p = sqK K [14, 28, 12, 28] p (whnL K) := by rw [pL, if_neg (by omega), if_neg (by omega), if_neg (by omega), if_neg (by omega), if_neg (by omega), if_pos e]
    rw [s0] at hg
    obtain ⟨e0, c0⟩ := sqK_c hg
    have b1 := lt p 14 hp e0 (by decide)
    rw [c0] at hg
    have s1 := s0.trans c0
    obtain ⟨e1, c1⟩ := sqK_c hg
    have b2 := lt (p + 1) 28 b1 e1 (by decide)
    rw [c1] at hg
    have s2 := s1.trans c1
    obtain ⟨e2, c2⟩ := sqK_c hg
    have b3 := lt (p + 1 + 1) 12 b2 e2 (by decide)
    rw [c2] at hg
    have s3 := s2.trans c2
    obtain ⟨e3, c3⟩ := sqK_c hg
    have b4 := lt (p + 1 + 1 + 1) 28 b3 e3 (by decide)
    rw [c3] at hg
    have s4 := s3.trans c3
    change (whnL K (p + 1 + 1 + 1 + 1)).1 = true at hg
    have s4 : pL K p = whnL K (p + 1 + 1 + 1 + 1) := s4
    have sW : (pL K p).2 = (whnL K (p + 1 + 1 + 1 + 1)).2 := congrArg Prod.snd s4
    have hq1 : q1L K p = p + 1 + 1 + 1 + 1 := if_neg (by omega)
    rcases whnL_c hM b4 hg with ⟨w1, w2, w3, w4, w5, w6, w7, w8⟩ | ⟨w1, w3, w8⟩
    · refine ln_14w hK hw hV hn ht e e1 e2 e3 rfl hq1 w1 w4 w7 w6 (sW.trans w8) w5 ?_ hE (fun a I' J' x5 b c f g k => κ a I' J' x5 b c f g (fun _ => k)) h
      unfold lnC at hL
      rw [if_neg (by omega), if_pos e] at hL
      obtain ⟨⟨-, a2⟩, c9⟩ := hL
      have a2 : I 9 (p + 1 + 1 + 1 + 1) = nI z := a2
      have a3 : z ≤ z' := by
        by_cases k : K (p + 4) = 15
        · rw [if_pos k] at c9; exact c9.1.1
        · rw [if_neg k] at c9; omega
      intro r
      rw [a2] at r
      exact nI_pos (show z < 2 ^ 31 by omega) (by rw [r]; decide)
    · exact ln_14 hK hw hV hn ht e e1 e2 e3 rfl hq1 w1 (sW.trans w8) w3 hE (fun a I' J' x5 b c f g k => κ a I' J' x5 b c f g (fun _ => k)) h
set_option maxRecDepth 100000 in
set_option maxHeartbeats 4000000 in
theorem lp_teach {Γ : Cx} {K wd : Nat → Nat} {V m : Nat → Int32} {M d : Nat} {I0 : MI} {J0 : MJ} {P : MP} {Q : Int32 → MI → MJ → MP → Prop} (hK0 : psO K V M I0 J0) (hw0 : wdO K wd M J0) (hV : vO K V M) (hKM : ∀ t, t < M → K t < 45) (h : Vc RX7 cX7_firstFault 6 (some .int) (d + 5) Γ) : ∀ (f p z : Nat) (T I : MI) (J : MJ) (x5 : Option Value), p ≤ M → z ≤ p → (prG K f p).1 = true → lnsC K V m I0 f p z → nmO K M T → tcl wd T I J → FR I0 J0 I J → I 10 0 = 0 → (∀ e t I' J', smE K V wd (I0 9) f T p = some (e, t) → FR I0 J0 I' J' → I' 10 0 = nI e → Q (nI t) I' J' P) → (smE K V wd (I0 9) f T p = none → ∀ I' J' t x5, FR I0 J0 I' J' → tcl wd (smT K V wd (I0 9) f T p) I' J' → I' 10 0 = 0 → (∀ t, t < p → I' 16 t = I 16 t) → lmO K V wd (I0 9) I' f T p → VG Γ 0 0 172 [some (.ref 10), some (.ref 3), some (.ref 9), some (.ref 58), some (.int (nI t)), x5] [] I' J' P (Fnl Γ (Qi Q))) → VG Γ 0 0 12 [some (.ref 10), some (.ref 3), some (.ref 9), some (.ref 58), some (.int (nI p)), x5] [] I J P (Fnl Γ (Qi Q)) := by
  have hM4 := hK0.2.2.2.1
  have hM := hK0.2.2.2.2
  have stop : ∀ p, p ≤ M → K p = 45 → p = M := fun p a b => by
    rcases Nat.lt_or_ge p M with q | q
    · have := hKM p q; omega
    · omega
  intro f
  induction f with
  | zero =>
    intro p z T I J x5 hp hz hg hL hn ht hF h0 hE κ
    have e45 : K p = 45 := of_decide_eq_true hg
    obtain rfl := stop p hp e45
    exact st_end (V := V) (hF.ps hK0) e45 h0 h (fun t x5 => κ rfl I J t x5 hF ht h0 (fun _ _ => rfl) trivial)
  | succ f ih =>
    intro p z T I J x5 hp hz hg hL hn ht hF h0 hE κ
    rw [prG] at hg
    rw [lnsC] at hL
    by_cases e45 : K p = 45
    · obtain rfl := stop p hp e45
      exact st_end (V := V) (hF.ps hK0) e45 h0 h (fun t x5 => κ (by rw [smE, if_pos e45]) I J t x5 hF (by rw [smT, if_pos e45]; exact ht) h0 (fun _ _ => rfl) (by rw [lmO, if_pos e45]; trivial))
    · rw [if_neg e45] at hg hL
      by_cases hg1 : (pL K p).1 = true
      · rw [if_pos hg1] at hg
        obtain ⟨z', c1, c2, c3, c4⟩ := hL
        obtain ⟨s1, s2, s3, s4⟩ := pL_sh hM hp hg1
        have e9 : I 9 = I0 9 := hF.1 9 (by decide) (by decide) (by decide) (by omega)
        have hL1 : lnC K V m p (pL K p).2 z z' I := c3.ro e9 (hF.1 78 (by decide) (by decide) (by decide) (by omega)) (hF.1 79 (by decide) (by decide) (by decide) (by omega))
        refine ln_any (m := m) (hF.ps hK0) (hF.wd hw0) hV hn ht hp hg1 (by omega) hL1 (fun e t I' J' a b c => hE e t I' J' (by rw [smE, if_neg e45, a]; rfl) (hF.tr b) c) (fun a I' J' x5 b c f0 g k => ?_) h
        rw [e9] at c
        refine ih (pL K p).2 z' _ I' J' x5 s4 c2 hg c4 (lsT_ct hn ht hM4 (by omega) s1 s2) c (hF.tr b) f0 (fun e t I2 J2 r1 r2 r3 => hE e t I2 J2 (by rw [smE, if_neg e45, a]; exact r1) r2 r3) (fun r1 I2 J2 t x5 r2 r3 r4 r5 r6 => ?_)
        refine κ (by rw [smE, if_neg e45, a]; exact r1) I2 J2 t x5 r2 (by rw [smT, if_neg e45]; exact r3) r4 (fun t q => (r5 t (by omega)).trans (g t q)) ?_
        rw [lmO, if_neg e45]
        exact ⟨fun q t a1 a2 a3 => (r5 t a2).trans (k q t a1 a2 a3), r6⟩
      · rw [if_neg hg1] at hg
        exact Bool.noConfusion hg
set_option maxRecDepth 100000 in
set_option maxHeartbeats 4000000 in
theorem sp_X7_firstFault {K wd : Nat → Nat} {V m : Nat → Int32} {M d : Nat} {I : MI} {J : MJ} {P : MP} (hK : psO K V M I J) (hw : wdO K wd M J) (hV : vO K V M) (hKM : ∀ t, t < M → K t < 45) (hg : (prG K 400 0).1 = true) (hL : lnsC K V m I 400 0 0) {Q : Int32 → MI → MJ → MP → Prop} (hE : ∀ e t I' J', smE K V wd (I 9) 400 (fun _ _ => nI 0) 0 = some (e, t) → FR I J I' J' → I' 10 0 = nI e → Q (nI t) I' J' P) (hQ : smE K V wd (I 9) 400 (fun _ _ => nI 0) 0 = none → ∀ I1 I' J', FR I J I1 J' → tcl wd (smT K V wd (I 9) 400 (fun _ _ => nI 0) 0) I1 J' → I1 10 0 = 0 → lmO K V wd (I 9) I1 400 (fun _ _ => nI 0) 0 → (∀ a, a ≠ 79 → I' a = I1 a) → (∀ Z, I 77 2 = nI Z → Z < 2 ^ 31 → ∀ n, n < Z → I' 79 n = tlO I1 n) → Q (-1) I' J' P) : Sp yX7_firstFault cX7_firstFault 6 (some .int) (d + 5) [.ref 10, .ref 3, .ref 9, .ref 58] I J P (Qi Q) := by
  have hM4 := hK.2.2.2.1
  intro Γ h
  show VG Γ 0 0 0 [some (.ref 10), some (.ref 3), some (.ref 9), some (.ref 58), none, none] [] _ _ _ _
  have hZ : ∃ Z, I 77 2 = nI Z ∧ Z < 2 ^ 31 := by
    have key : ∀ f p z, p ≤ M → z ≤ p → lnsC K V m I f p z → (prG K f p).1 = true → ∃ Z, I 77 2 = nI Z ∧ Z < 2 ^ 31 := by
      intro f
      induction f with
      | zero => intro p z hp hz a _; exact ⟨z, a.1, by omega⟩
      | succ f ih =>
        intro p z hp hz a b
        rw [lnsC] at a
        rw [prG] at b
        by_cases k : K p = 45
        · rw [if_pos k] at a
          exact ⟨z, a.1, by omega⟩
        · rw [if_neg k] at a b
          by_cases k2 : (pL K p).1 = true
          · rw [if_pos k2] at b
            obtain ⟨z', c1, c2, c3, c4⟩ := a
            exact ih _ z' (pL_sh hK.2.2.2.2 hp k2).2.2.2 c2 c4 b
          · rw [if_neg k2] at b
            exact Bool.noConfusion b
    exact key 400 0 0 (Nat.zero_le _) (Nat.le_refl _) hL hg
  obtain ⟨Z, hZ1, hZ2⟩ := hZ
  obtain ⟨-, zM, zc⟩ := lnsC_cok hK.2.2.2.2 hM4 hZ1 hZ2 400 0 0 (Nat.zero_le _) (Nat.le_refl _) hL hg
  have tail : ∀ I1 J' t x5, smE K V wd (I 9) 400 (fun _ _ => nI 0) 0 = none → FR I J I1 J' → tcl wd (smT K V wd (I 9) 400 (fun _ _ => nI 0) 0) I1 J' → I1 10 0 = 0 → lmO K V wd (I 9) I1 400 (fun _ _ => nI 0) 0 → VG Γ 0 0 172 [some (.ref 10), some (.ref 3), some (.ref 9), some (.ref 58), some (.int (nI t)), x5] [] I1 J' P (Fnl Γ (Qi Q)) := by
    intro I1 J' t x5 r1 r2 r3 r4 r5
    have o77 := r2.1 77 (by decide) (by decide) (by decide) (by omega)
    have o78 := r2.1 78 (by decide) (by decide) (by decide) (by omega)
    have o79 := r2.1 79 (by decide) (by decide) (by decide) (by omega)
    refine g_aload_0 h dX7_firstFault_172 ?_
    refine g_aload_3 h dX7_firstFault_173 ?_
    refine g_getC h fl_X7_82 dX7_firstFault_174 rfl rfl ?_
    refine g_cVv1 h rok0 mi_X7_tellCode dX7_firstFault_177 ml_X7_86 rfl rfl rfl (Nat.le_of_ble_eq_true rfl) (Nat.le_of_ble_eq_true rfl) (sp_X7_tellCode (Z := Z) (by omega) (by rw [o77]; exact hZ1) (fun n hn => ?_) (fun I2 r6 r7 => ?_))
    · obtain ⟨k, k1, k2, k3⟩ := zc n (Nat.zero_le _) hn
      exact ⟨k, by rw [o78]; exact k1, k2, fun a b => by rw [o79]; exact k3 a b⟩
    · refine g_iconst h dX7_firstFault_180 (v := (-1)) rfl ?_
      refine g_iret h dX7_firstFault_181 ?_
      exact hQ r1 I1 I2 J' r2 r3 r4 r5 r6 (fun Z' e1 e2 n hn => r7 n (by rw [eqN (hZ1.symm.trans e1) hZ2 e2]; exact hn))
  refine g_aload_3 h dX7_firstFault_0 ?_
  refine g_cVv0 h rok0 mi_X9_clear dX7_firstFault_1 ml_X7_45 rfl rfl rfl (Nat.le_of_ble_eq_true rfl) (Nat.le_of_ble_eq_true rfl) (sp_X9_clear58 ?_)
  refine g_aload_0 h dX7_firstFault_4 ?_
  refine g_iconst h dX7_firstFault_5 (v := nI 0) rfl ?_
  refine g_putI h fp_X7_7 dX7_firstFault_6 rfl rfl ?_
  refine g_iconst h dX7_firstFault_9 (v := nI 0) rfl ?_
  refine g_istore_4 h dX7_firstFault_10 (by decide) rfl ?_
  refine lp_teach (m := m) hK hw hV hKM h 400 0 0 (fun _ _ => nI 0) _ J _ (Nat.zero_le _) (Nat.le_refl _) hg hL (fun i hi k hk => absurd hk (by show ¬ k < ix (nI 0); rw [ix_n (by decide)]; omega)) ?_ (by repeat' (first | exact FR.rf | apply FR.up | omega)) (by rw [up2_s]; rfl) hE (fun r1 I' J' t x5 r2 r3 r4 _ r6 => tail I' J' t x5 r1 r2 r3 r4 r6)
  have z0 : ix (nI 0) = 0 := ix_n (by decide)
  refine ⟨⟨⟨?_, ?_⟩, fun k hk => absurd hk ?_⟩, ⟨⟨?_, ?_⟩, fun k hk => absurd hk ?_⟩, ⟨⟨?_, ?_⟩, fun k hk => absurd hk ?_⟩, ⟨⟨?_, ?_⟩, fun k hk => absurd hk ?_⟩, ⟨⟨?_, ?_⟩, fun k hk => absurd hk ?_⟩⟩
  all_goals first
    | (show ¬ _ < ix (nI 0); rw [z0]; omega)
    | (show ix (nI 0) ≤ _; rw [z0]; omega)
    | (show _ = nI (ix (nI 0)); rw [z0]; simp [up2])
