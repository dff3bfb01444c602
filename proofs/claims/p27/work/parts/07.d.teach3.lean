/-! The class's teacher: lines -/
def vO (K : Nat → Nat) (V : Nat → Int32) (M : Nat) : Prop := ∀ t, t ≤ M → K t = 29 → ∃ v, v ≤ 999999 ∧ V t = nI v
theorem wdO_o {K wd : Nat → Nat} {M : Nat} {J J' : MJ} (e : J' 5 = J 5) (k : wdO K wd M J) : wdO K wd M J' := by
  unfold wdO
  rw [e]
  exact k
theorem pT2_ro {wd : Nat → Nat} {n : Nat} {i0 : Int32} {a : Nat → Int32} {rows rows' : MI} {j : Nat → Int64} {t5 tn : Nat → Int32} (h : pT2 wd n i0 a rows j t5 tn) (e : ∀ k, k < 6 → rows' (65 + k) = rows (65 + k)) : pT2 wd n i0 a rows' j t5 tn := ⟨h.1, fun k hk => by
  obtain ⟨h1, z, h2, h3, h4, h5⟩ := h.2 k hk
  have h6 := h.1.2
  exact ⟨h1, z, h2, h3, h4, fun i hi => by rw [e k (by omega)]; exact h5 i hi⟩⟩
set_option maxRecDepth 100000 in
set_option maxHeartbeats 400000 in
theorem ln_0 {Γ : Cx} {K wd : Nat → Nat} {V : Nat → Int32} {M d p : Nat} {T I : MI} {J : MJ} {P : MP} {Q : Int32 → MI → MJ → MP → Prop} (hK : psO K V M I J) (hw : wdO K wd M J) (hV : vO K V M) (hn : nmO K M T) (ht : tcl wd T I J) (e0 : K p = 0) (e1 : K (p + 1) = 28) (e2 : K (p + 1 + 1) = 1) (e3 : K (p + 1 + 1 + 1) = 29) (e4 : K (p + 1 + 1 + 1 + 1) = 34) (hp : p + 4 < M) (hE : ∀ e t I' J', lerr K V wd T p = some (e, t) → FR I J I' J' → I' 10 0 = nI e → Q (nI t) I' J' P) (κ : lerr K V wd T p = none → ∀ I' J' x5, FR I J I' J' → tcl wd (lsT K V wd (I 9) T p) I' J' → I' 10 0 = 0 → (∀ t, t < p → I' 16 t = I 16 t) → VG Γ 0 0 12 [some (.ref 10), some (.ref 3), some (.ref 9), some (.ref 58), some (.int (nI (p + 1 + 1 + 1 + 1 + 1))), x5] [] I' J' P (Fnl Γ (Qi Q))) (h : Vc RX7 cX7_firstFault 6 (some .int) (d + 5) Γ) {x5 : Option Value} : VG Γ 0 0 12 [some (.ref 10), some (.ref 3), some (.ref 9), some (.ref 58), some (.int (nI p)), x5] [] I J P (Fnl Γ (Qi Q)) := by
  have hM4 := hK.2.2.2.1
  have hct := ht.ct
  have hC := ht.1.1
  have hb : nT4 T 0 ≤ 16 := by have := hC.2; show nC T ≤ 16; omega
  refine st_kw hK (by omega) (by omega) h ?_
  rw [e0]
  refine sp_X7_kw0 ⟨fun _ x5 => ?_, fun q => absurd rfl q⟩
  refine st_name (K := K) (V := V) (M := M) (k := 0) (n := nT4 T) (wd := wd) ?_ (by omega) e1 (by decide) ?_ ?_ ?_ h ?_
  · exact FR.ps (by repeat' (first | exact FR.rf | apply FR.upJ | apply FR.up | omega)) hK
  · rfl
  · exact hct.o (fun i _ => rfl)
  · exact wdO_o rfl hw
  rw [show (tbI 0) = 0 from by decide, lk_ok (K := K) (M := M) ht hn hw (fun i hi j hj => rfl) hM4 (by decide) (by omega) e1]
  refine sp_X7_name0 hC.2 (by rfl) (by exact hC.1) (fun q2 => ?_) (fun q2 q3 => ?_) (fun q2 q3 => ?_)
  · have a1 : ¬ lkT wd T 0 (p + 1) = -1 := fun r => q2 ((lkT_neg hb).mpr r)
    exact ⟨fun q => absurd q (by decide), fun _ => hE 2 (p + 1) _ _ (by rw [lerr, if_pos e0]; simp [er, a1]) (by repeat' (first | exact FR.rf | apply FR.upJ | apply FR.up | omega)) up2_s⟩
  · have a1 : lkT wd T 0 (p + 1) = -1 := (lkT_neg hb).mp q2
    have a2 : nC T = 6 := by have := hC.2; omega
    exact ⟨fun q => absurd q (by decide), fun _ => hE 4 (p + 1) _ _ (by rw [lerr, if_pos e0]; simp [er, a1, a2]) (by repeat' (first | exact FR.rf | apply FR.upJ | apply FR.up | omega)) up2_s⟩
  · have a1 : lkT wd T 0 (p + 1) = -1 := (lkT_neg hb).mp q2
    have a2 : ¬ nC T = 6 := by omega
    have a2b : nC T < 6 := q3
    obtain ⟨v, v1, v2⟩ := hV (p + 3) (by omega) e3
    refine ⟨fun _ x5 => ?_, fun q => absurd rfl q⟩
    refine st_kw (K := K) (V := V) (M := M) ?_ (by omega) (by omega) h ?_
    · exact FR.ps (by repeat' (first | exact FR.rf | apply FR.upJ | apply FR.up | omega)) hK
    rw [e2]
    refine sp_X7_kwA (by decide) (by decide) ⟨fun _ x5 => ?_, fun q => absurd rfl q⟩
    refine st_num (K := K) (V := V) (M := M) ?_ (by omega) e3 h ?_
    · exact FR.ps (by repeat' (first | exact FR.rf | apply FR.upJ | apply FR.up | omega)) hK
    refine sp_X7_num1 a2b (by rfl) (by exact hC.1) (fun q5 => ?_) (fun q5 => ?_)
    · have a3 : inB (V (p + 3)) (nI 0) (nI 99) = false := by rw [inB, decide_eq_false (Int32.not_le.mpr (show nI 99 < V (p + 3) from q5)), Bool.and_false]
      exact ⟨fun q => absurd q (by decide), fun _ => hE 5 (p + 3) _ _ (by rw [lerr, if_pos e0]; simp [er, a1, a2, a3]) (by repeat' (first | exact FR.rf | apply FR.upJ | apply FR.up | omega)) up2_s⟩
    · have a3 : inB (V (p + 3)) (nI 0) (nI 99) = true := by rw [inB, decide_eq_true (show V (p + 3) ≤ nI 99 from q5), v2, decide_eq_true (nI_le (Nat.zero_le v) (by omega))]; rfl
      refine ⟨fun _ x5 => ?_, fun q => absurd rfl q⟩
      refine st_semi (K := K) (V := V) (M := M) ?_ (by omega) e4 h ?_
      · exact FR.ps (by repeat' (first | exact FR.rf | apply FR.upJ | apply FR.up | omega)) hK
      refine (sp_X7_end0 (by rfl) (by exact hC.1) ⟨nI_0, fun x5 => ?_⟩)
      refine κ (by rw [lerr, if_pos e0]; simp [er, a1, a2, a3]) _ _ _ (by repeat' (first | exact FR.rf | apply FR.upJ | apply FR.up | omega)) ?_ nI_0 (fun t htp => by simp [up2, show ¬ t = p + 1 by omega])
      rw [lsT, if_pos e0, if_neg a2]
      refine ⟨?_, ht.2.1, (pT2_ro ht.2.2.1 (fun k hk => by repeat rw [up2_o (by omega)])), ht.2.2.2.1, ht.2.2.2.2⟩
      show pC wd (ix (nI (nC T + 1))) _ _ _ _ _
      rw [ix_n (by omega)]
      exact pC_push ht.1 a2b (show p + 1 < 2 ^ 31 by omega) rfl (fun k hk => if_neg (Nat.ne_of_lt hk)) (fun k hk => if_neg (Nat.ne_of_lt hk)) (fun k hk => if_neg (Nat.ne_of_lt hk)) (fun k hk => if_neg (Nat.ne_of_lt hk)) (if_pos rfl) (if_pos rfl) up2_s (if_pos rfl)
set_option maxRecDepth 100000 in
set_option maxHeartbeats 400000 in
theorem ln_9 {Γ : Cx} {K wd : Nat → Nat} {V : Nat → Int32} {M d p : Nat} {T I : MI} {J : MJ} {P : MP} {Q : Int32 → MI → MJ → MP → Prop} (hK : psO K V M I J) (hw : wdO K wd M J) (hV : vO K V M) (hn : nmO K M T) (ht : tcl wd T I J) (e0 : K p = 9) (e1 : K (p + 1) = 28) (e2 : K (p + 1 + 1) = 10) (e3 : K (p + 1 + 1 + 1) = 29) (e4 : K (p + 1 + 1 + 1 + 1) = 34) (hp : p + 4 < M) (hE : ∀ e t I' J', lerr K V wd T p = some (e, t) → FR I J I' J' → I' 10 0 = nI e → Q (nI t) I' J' P) (κ : lerr K V wd T p = none → ∀ I' J' x5, FR I J I' J' → tcl wd (lsT K V wd (I 9) T p) I' J' → I' 10 0 = 0 → (∀ t, t < p → I' 16 t = I 16 t) → VG Γ 0 0 12 [some (.ref 10), some (.ref 3), some (.ref 9), some (.ref 58), some (.int (nI (p + 1 + 1 + 1 + 1 + 1))), x5] [] I' J' P (Fnl Γ (Qi Q))) (h : Vc RX7 cX7_firstFault 6 (some .int) (d + 5) Γ) {x5 : Option Value} : VG Γ 0 0 12 [some (.ref 10), some (.ref 3), some (.ref 9), some (.ref 58), some (.int (nI p)), x5] [] I J P (Fnl Γ (Qi Q)) := by
  have hM4 := hK.2.2.2.1
  have hct := ht.ct
  have hC := ht.2.2.2.1.1
  have hb : nT4 T 3 ≤ 16 := by have := hC.2; show nK T ≤ 16; omega
  refine st_kw hK (by omega) (by omega) h ?_
  rw [e0]
  refine sp_X7_kw9 ⟨fun _ x5 => ?_, fun q => absurd rfl q⟩
  refine st_name (K := K) (V := V) (M := M) (k := 9) (n := nT4 T) (wd := wd) ?_ (by omega) e1 (by decide) ?_ ?_ ?_ h ?_
  · exact FR.ps (by repeat' (first | exact FR.rf | apply FR.upJ | apply FR.up | omega)) hK
  · rfl
  · exact hct.o (fun i _ => rfl)
  · exact wdO_o rfl hw
  rw [show (tbI 9) = 3 from by decide, lk_ok (K := K) (M := M) ht hn hw (fun i hi j hj => rfl) hM4 (by decide) (by omega) e1]
  refine sp_X7_name9 hC.2 (by rfl) (by exact hC.1) (fun q2 => ?_) (fun q2 q3 => ?_) (fun q2 q3 => ?_)
  · have a1 : ¬ lkT wd T 3 (p + 1) = -1 := fun r => q2 ((lkT_neg hb).mpr r)
    exact ⟨fun q => absurd q (by decide), fun _ => hE 2 (p + 1) _ _ (by rw [lerr, if_neg (by omega), if_neg (by omega), if_neg (by omega), if_pos e0]; simp [er, a1]) (by repeat' (first | exact FR.rf | apply FR.upJ | apply FR.up | omega)) up2_s⟩
  · have a1 : lkT wd T 3 (p + 1) = -1 := (lkT_neg hb).mp q2
    have a2 : nK T = 5 := by have := hC.2; omega
    exact ⟨fun q => absurd q (by decide), fun _ => hE 4 (p + 1) _ _ (by rw [lerr, if_neg (by omega), if_neg (by omega), if_neg (by omega), if_pos e0]; simp [er, a1, a2]) (by repeat' (first | exact FR.rf | apply FR.upJ | apply FR.up | omega)) up2_s⟩
  · have a1 : lkT wd T 3 (p + 1) = -1 := (lkT_neg hb).mp q2
    have a2 : ¬ nK T = 5 := by omega
    have a2b : nK T < 5 := q3
    obtain ⟨v, v1, v2⟩ := hV (p + 3) (by omega) e3
    refine ⟨fun _ x5 => ?_, fun q => absurd rfl q⟩
    refine st_kw (K := K) (V := V) (M := M) ?_ (by omega) (by omega) h ?_
    · exact FR.ps (by repeat' (first | exact FR.rf | apply FR.upJ | apply FR.up | omega)) hK
    rw [e2]
    refine sp_X7_kwA (by decide) (by decide) ⟨fun _ x5 => ?_, fun q => absurd rfl q⟩
    refine st_num (K := K) (V := V) (M := M) ?_ (by omega) e3 h ?_
    · exact FR.ps (by repeat' (first | exact FR.rf | apply FR.upJ | apply FR.up | omega)) hK
    refine sp_X7_num10 a2b (by rfl) (by exact hC.1) (fun q5 => ?_) (fun q5 q6 => ?_)
    · have a3 : inB (V (p + 3)) (nI 1) (nI 9) = false := by
        rcases q5 with r | r
        · rw [inB, decide_eq_false (Int32.not_le.mpr (show V (p + 3) < nI 1 from r)), Bool.false_and]
        · rw [inB, decide_eq_false (Int32.not_le.mpr (show nI 9 < V (p + 3) from r)), Bool.and_false]
      exact ⟨fun q => absurd q (by decide), fun _ => hE 5 (p + 3) _ _ (by rw [lerr, if_neg (by omega), if_neg (by omega), if_neg (by omega), if_pos e0]; simp [er, a1, a2, a3]) (by repeat' (first | exact FR.rf | apply FR.upJ | apply FR.up | omega)) up2_s⟩
    · have a3 : inB (V (p + 3)) (nI 1) (nI 9) = true := by rw [inB, decide_eq_true (show nI 1 ≤ V (p + 3) from q5), decide_eq_true (show V (p + 3) ≤ nI 9 from q6)]; rfl
      refine ⟨fun _ x5 => ?_, fun q => absurd rfl q⟩
      refine st_semi (K := K) (V := V) (M := M) ?_ (by omega) e4 h ?_
      · exact FR.ps (by repeat' (first | exact FR.rf | apply FR.upJ | apply FR.up | omega)) hK
      refine (sp_X7_end9 (by rfl) (by exact hC.1) ⟨nI_0, fun x5 => ?_⟩)
      refine κ (by rw [lerr, if_neg (by omega), if_neg (by omega), if_neg (by omega), if_pos e0]; simp [er, a1, a2, a3]) _ _ _ (by repeat' (first | exact FR.rf | apply FR.upJ | apply FR.up | omega)) ?_ nI_0 (fun t htp => by simp [up2, show ¬ t = p + 1 by omega])
      rw [lsT, if_neg (by omega), if_neg (by omega), if_neg (by omega), if_pos e0, if_neg a2]
      refine ⟨ht.1, ht.2.1, (pT2_ro ht.2.2.1 (fun k hk => by repeat rw [up2_o (by omega)])), ?_, ht.2.2.2.2⟩
      show pK wd (ix (nI (nK T + 1))) _ _ _ _ _
      rw [ix_n (by omega)]
      exact pK_push ht.2.2.2.1 a2b (show p + 1 < 2 ^ 31 by omega) rfl (fun k hk => if_neg (Nat.ne_of_lt hk)) (fun k hk => if_neg (Nat.ne_of_lt hk)) (fun k hk => if_neg (Nat.ne_of_lt hk)) (fun k hk => if_neg (Nat.ne_of_lt hk)) (if_pos rfl) (if_pos rfl) up2_s (if_pos rfl)
set_option maxRecDepth 100000 in
set_option maxHeartbeats 400000 in
theorem ln_2mc {Γ : Cx} {K wd : Nat → Nat} {V : Nat → Int32} {M d p : Nat} {T I : MI} {J : MJ} {P : MP} {Q : Int32 → MI → MJ → MP → Prop} (hK : psO K V M I J) (hw : wdO K wd M J) (hV : vO K V M) (hn : nmO K M T) (ht : tcl wd T I J) (e0 : K p = 2) (e1 : K (p + 1) = 28) (e2 : K (p + 1 + 1) = 3) (e3 : K (p + 1 + 1 + 1) = 28) (e4 : K (p + 1 + 1 + 1 + 1) = 4) (e5 : K (p + 1 + 1 + 1 + 1 + 1) = 5) (e6 : K (p + 1 + 1 + 1 + 1 + 1 + 1) = 6) (e7 : K (p + 1 + 1 + 1 + 1 + 1 + 1 + 1) = 29) (e8 : K (p + 1 + 1 + 1 + 1 + 1 + 1 + 1 + 1) = 34) (hp : p + 8 < M) (hE : ∀ e t I' J', lerr K V wd T p = some (e, t) → FR I J I' J' → I' 10 0 = nI e → Q (nI t) I' J' P) (κ : lerr K V wd T p = none → ∀ I' J' x5, FR I J I' J' → tcl wd (lsT K V wd (I 9) T p) I' J' → I' 10 0 = 0 → (∀ t, t < p → I' 16 t = I 16 t) → VG Γ 0 0 12 [some (.ref 10), some (.ref 3), some (.ref 9), some (.ref 58), some (.int (nI (p + 1 + 1 + 1 + 1 + 1 + 1 + 1 + 1 + 1))), x5] [] I' J' P (Fnl Γ (Qi Q))) (h : Vc RX7 cX7_firstFault 6 (some .int) (d + 5) Γ) {x5 : Option Value} : VG Γ 0 0 12 [some (.ref 10), some (.ref 3), some (.ref 9), some (.ref 58), some (.int (nI p)), x5] [] I J P (Fnl Γ (Qi Q)) := by
  have hM4 := hK.2.2.2.1
  have hct := ht.ct
  have hC := ht.1.1
  have hN := ht.2.1.1
  have hO := ht.2.2.2.2.1
  have hb0 : nT4 T 0 ≤ 16 := by have := hC.2; show nC T ≤ 16; omega
  have hb1 : nT4 T 1 ≤ 16 := hN.2
  have hch := pN_ch ht.2.1
  refine st_kw hK (by omega) (by omega) h ?_
  rw [e0]
  refine sp_X7_kw2 ⟨fun _ x5 => ?_, fun q => absurd rfl q⟩
  refine st_name (K := K) (V := V) (M := M) (k := 2) (n := nT4 T) (wd := wd) ?_ (by omega) e1 (by decide) ?_ ?_ ?_ h ?_
  · exact FR.ps (by repeat' (first | exact FR.rf | apply FR.upJ | apply FR.up | omega)) hK
  · rfl
  · exact hct.o (fun i _ => rfl)
  · exact wdO_o rfl hw
  rw [show (tbI 2) = 1 from by decide, lk_ok (K := K) (M := M) ht hn hw (fun i hi j hj => rfl) hM4 (by decide) (by omega) e1]
  refine sp_X7_name2 hN.2 (by rfl) (by exact hN.1) (fun I' hI' => ⟨fun q2 => ?_, fun q2 q3 => ?_⟩) (fun q2 q3 => ?_)
  · have a1 : ¬ lkT wd T 1 (p + 1) = -1 := fun r => q2 ((lkT_neg hb1).mpr r)
    rcases hI' with rfl | rfl
    · exact ⟨fun q => absurd q (by decide), fun _ => hE 2 (p + 1) _ _ (by rw [lerr, if_neg (by omega), if_pos e0]; simp [er, a1]) (by repeat' (first | exact FR.rf | apply FR.upJ | apply FR.up | omega)) up2_s⟩
    · exact ⟨fun q => absurd q (by decide), fun _ => hE 2 (p + 1) _ _ (by rw [lerr, if_neg (by omega), if_pos e0]; simp [er, a1]) (by repeat' (first | exact FR.rf | apply FR.upJ | apply FR.up | omega)) up2_s⟩
  · have a1 : lkT wd T 1 (p + 1) = -1 := (lkT_neg hb1).mp q2
    have a2 : nN T = 16 := by have := hN.2; omega
    rcases hI' with rfl | rfl
    · exact ⟨fun q => absurd q (by decide), fun _ => hE 4 (p + 1) _ _ (by rw [lerr, if_neg (by omega), if_pos e0]; simp [er, a1, a2]) (by repeat' (first | exact FR.rf | apply FR.upJ | apply FR.up | omega)) up2_s⟩
    · exact ⟨fun q => absurd q (by decide), fun _ => hE 4 (p + 1) _ _ (by rw [lerr, if_neg (by omega), if_pos e0]; simp [er, a1, a2]) (by repeat' (first | exact FR.rf | apply FR.upJ | apply FR.up | omega)) up2_s⟩
  · have a1 : lkT wd T 1 (p + 1) = -1 := (lkT_neg hb1).mp q2
    have a2b : nN T < 16 := q3
    have a2 : ¬ nN T = 16 := by omega
    refine ⟨fun _ x5 => ?_, fun q => absurd rfl q⟩
    refine st_kw (K := K) (V := V) (M := M) ?_ (by omega) (by omega) h ?_
    · exact FR.ps (by repeat' (first | exact FR.rf | apply FR.upJ | apply FR.up | omega)) hK
    rw [e2]
    refine sp_X7_kwA (by decide) (by decide) ⟨fun _ x5 => ?_, fun q => absurd rfl q⟩
    refine st_name (K := K) (V := V) (M := M) (k := 3) (n := nT4 T) (wd := wd) ?_ (by omega) e3 (by decide) ?_ ?_ ?_ h ?_
    · exact FR.ps (by repeat' (first | exact FR.rf | apply FR.upJ | apply FR.up | omega)) hK
    · rfl
    · exact hct.o (fun i _ => rfl)
    · exact wdO_o rfl hw
    rw [show (tbI 3) = 0 from by decide, lk_ok (K := K) (M := M) ht hn hw (fun i hi j hj => by
      rcases (show i = 0 ∨ i = 1 ∨ i = 2 ∨ i = 3 by omega) with rfl | rfl | rfl | rfl
      · rfl
      · exact if_neg (Nat.ne_of_lt hj)
      · rfl
      · rfl) hM4 (by decide) (by omega) e3]
    by_cases a3 : lkT wd T 0 (p + 3) = -1
    · refine sp_X7_name3 (by decide) (by decide) ((lkT_neg hb0).mpr a3) (k := 3) (by rfl) ?_
      exact ⟨fun q => absurd q (by decide), fun _ => hE 3 (p + 3) _ _ (by rw [lerr, if_neg (by omega), if_pos e0]; simp [er, a1, a2, a3]) (by repeat' (first | exact FR.rf | apply FR.upJ | apply FR.up | omega)) up2_s⟩
    · refine sp_X7_nOf a2b (lkT_ge hb0 a3) (by exact hN.1) (by exact hO.1) (by rfl) ⟨fun _ x5 => ?_, fun q => absurd rfl q⟩
      refine st_kw (K := K) (V := V) (M := M) ?_ (by omega) (by omega) h ?_
      · exact FR.ps (by repeat' (first | exact FR.rf | apply FR.upJ | apply FR.up | omega)) hK
      rw [e4]
      refine sp_X7_kwA (by decide) (by decide) ⟨fun _ x5 => ?_, fun q => absurd rfl q⟩
      refine st_kw (K := K) (V := V) (M := M) ?_ (by omega) (by omega) h ?_
      · exact FR.ps (by repeat' (first | exact FR.rf | apply FR.upJ | apply FR.up | omega)) hK
      rw [e5]
      refine sp_X7_kwA (by decide) (by decide) ⟨fun _ x5 => ?_, fun q => absurd rfl q⟩
      have a5 : ¬ K (p + 5) = 28 := by have := e5; show ¬ K (p + 1 + 1 + 1 + 1 + 1) = 28; omega
      refine st_kw (K := K) (V := V) (M := M) ?_ (by omega) (by omega) h ?_
      · exact FR.ps (by repeat' (first | exact FR.rf | apply FR.upJ | apply FR.up | omega)) hK
      rw [e6]
      refine sp_X7_kwA (by decide) (by decide) ⟨fun _ x5 => ?_, fun q => absurd rfl q⟩
      obtain ⟨v, v1, v2⟩ := hV (p + 7) (by omega) e7
      have k6 : K (p + 6) = 6 := e6
      refine st_num (K := K) (V := V) (M := M) ?_ (by omega) e7 h ?_
      · exact FR.ps (by repeat' (first | exact FR.rf | apply FR.upJ | apply FR.up | omega)) hK
      refine sp_X7_num6 a2b (by rfl) (by exact hN.1) (fun q6 => ?_) (fun q6 => ?_)
      · have a6 : inB (V (p + 7)) (nI 0) (nI 9999) = false := by rw [inB, decide_eq_false (Int32.not_le.mpr (show nI 9999 < V (p + 7) from q6)), Bool.and_false]
        exact ⟨fun q => absurd q (by decide), fun _ => hE 5 (p + 7) _ _ (by rw [lerr, if_neg (by omega), if_pos e0]; simp [er, a1, a2, a3, a5, k6, a6]) (by repeat' (first | exact FR.rf | apply FR.upJ | apply FR.up | omega)) up2_s⟩
      · have a6 : inB (V (p + 7)) (nI 0) (nI 9999) = true := by rw [inB, decide_eq_true (show V (p + 7) ≤ nI 9999 from q6), v2, decide_eq_true (nI_le (Nat.zero_le v) (by omega))]; rfl
        refine ⟨fun _ x5 => ?_, fun q => absurd rfl q⟩
        refine st_semi (K := K) (V := V) (M := M) ?_ (by omega) e8 h ?_
        · exact FR.ps (by repeat' (first | exact FR.rf | apply FR.upJ | apply FR.up | omega)) hK
        refine (sp_X7_end2 (by rfl) (by exact hN.1) ⟨nI_0, fun x5 => ?_⟩)
        refine κ (by rw [lerr, if_neg (by omega), if_pos e0]; simp [er, a1, a2, a3, a5, k6, a6]) _ _ _ (by repeat' (first | exact FR.rf | apply FR.upJ | apply FR.up | omega)) ?_ nI_0 (fun t htp => by simp [up2, show ¬ t = p + 1 by omega, show ¬ t = p + 1 + 1 + 1 by omega])
        rw [lsT, if_neg (by omega), if_pos e0, if_neg a2]
        refine ⟨ht.1, ?_, (pT2_ro ht.2.2.1 (fun k hk => by repeat rw [up2_o (by omega)])), ht.2.2.2.1, ht.2.2.2.2⟩
        show pN wd (ix (nI (nN T + 1))) _ _ _ _ _ _ _ _ _ _
        rw [ix_n (by omega)]
        have eab : abT K wd T p = -1 := if_pos (show K (p + 5) = 5 from e5)
        have etd : tdT K V p = V (p + 7) := if_pos k6
        exact pN_push (v2 := lkT wd T 0 (p + 3)) (v3 := (-1)) (v4 := (V (p + 7))) ht.2.1 a2b (show p + 1 < 2 ^ 31 by omega) (by simp [up2]) (fun k hk => by simp [up2, Nat.ne_of_lt hk]) (fun k hk => by simp [up2, Nat.ne_of_lt hk]) (fun k hk => by simp [up2, Nat.ne_of_lt hk]) (fun k hk => by simp [up2, Nat.ne_of_lt hk]) (fun k hk => by simp [up2, Nat.ne_of_lt hk]) (fun k hk => by simp [ctT, setRow, upd, Nat.ne_of_lt hk]) (fun k hk => by simp [ctT, setRow, upd, Nat.ne_of_lt hk]) (fun k hk => by simp [ctT, setRow, upd, Nat.ne_of_lt hk]) (fun k hk => by simp [ctT, setRow, upd, Nat.ne_of_lt hk]) (by simp [up2]) (by simp [ctT, setRow, upd]) (by simp [up2]) (by simp [ctT, setRow, upd, eab]) (by simp [up2]) (by simp [ctT, setRow, upd, etd]) (by rw [dpt_m1]; simp [up2]) (by simp [up2]) (by simp [ctT, setRow, upd]) (Or.inl rfl) (by rw [dpt_m1]; decide)
set_option maxRecDepth 100000 in
set_option maxHeartbeats 400000 in
theorem ln_2m {Γ : Cx} {K wd : Nat → Nat} {V : Nat → Int32} {M d p : Nat} {T I : MI} {J : MJ} {P : MP} {Q : Int32 → MI → MJ → MP → Prop} (hK : psO K V M I J) (hw : wdO K wd M J) (hV : vO K V M) (hn : nmO K M T) (ht : tcl wd T I J) (e0 : K p = 2) (e1 : K (p + 1) = 28) (e2 : K (p + 1 + 1) = 3) (e3 : K (p + 1 + 1 + 1) = 28) (e4 : K (p + 1 + 1 + 1 + 1) = 4) (e5 : K (p + 1 + 1 + 1 + 1 + 1) = 5) (e6 : K (p + 1 + 1 + 1 + 1 + 1 + 1) = 34) (hp : p + 6 < M) (hE : ∀ e t I' J', lerr K V wd T p = some (e, t) → FR I J I' J' → I' 10 0 = nI e → Q (nI t) I' J' P) (κ : lerr K V wd T p = none → ∀ I' J' x5, FR I J I' J' → tcl wd (lsT K V wd (I 9) T p) I' J' → I' 10 0 = 0 → (∀ t, t < p → I' 16 t = I 16 t) → VG Γ 0 0 12 [some (.ref 10), some (.ref 3), some (.ref 9), some (.ref 58), some (.int (nI (p + 1 + 1 + 1 + 1 + 1 + 1 + 1))), x5] [] I' J' P (Fnl Γ (Qi Q))) (h : Vc RX7 cX7_firstFault 6 (some .int) (d + 5) Γ) {x5 : Option Value} : VG Γ 0 0 12 [some (.ref 10), some (.ref 3), some (.ref 9), some (.ref 58), some (.int (nI p)), x5] [] I J P (Fnl Γ (Qi Q)) := by
  have hM4 := hK.2.2.2.1
  have hct := ht.ct
  have hC := ht.1.1
  have hN := ht.2.1.1
  have hO := ht.2.2.2.2.1
  have hb0 : nT4 T 0 ≤ 16 := by have := hC.2; show nC T ≤ 16; omega
  have hb1 : nT4 T 1 ≤ 16 := hN.2
  have hch := pN_ch ht.2.1
  refine st_kw hK (by omega) (by omega) h ?_
  rw [e0]
  refine sp_X7_kw2 ⟨fun _ x5 => ?_, fun q => absurd rfl q⟩
  refine st_name (K := K) (V := V) (M := M) (k := 2) (n := nT4 T) (wd := wd) ?_ (by omega) e1 (by decide) ?_ ?_ ?_ h ?_
  · exact FR.ps (by repeat' (first | exact FR.rf | apply FR.upJ | apply FR.up | omega)) hK
  · rfl
  · exact hct.o (fun i _ => rfl)
  · exact wdO_o rfl hw
  rw [show (tbI 2) = 1 from by decide, lk_ok (K := K) (M := M) ht hn hw (fun i hi j hj => rfl) hM4 (by decide) (by omega) e1]
  refine sp_X7_name2 hN.2 (by rfl) (by exact hN.1) (fun I' hI' => ⟨fun q2 => ?_, fun q2 q3 => ?_⟩) (fun q2 q3 => ?_)
  · have a1 : ¬ lkT wd T 1 (p + 1) = -1 := fun r => q2 ((lkT_neg hb1).mpr r)
    rcases hI' with rfl | rfl
    · exact ⟨fun q => absurd q (by decide), fun _ => hE 2 (p + 1) _ _ (by rw [lerr, if_neg (by omega), if_pos e0]; simp [er, a1]) (by repeat' (first | exact FR.rf | apply FR.upJ | apply FR.up | omega)) up2_s⟩
    · exact ⟨fun q => absurd q (by decide), fun _ => hE 2 (p + 1) _ _ (by rw [lerr, if_neg (by omega), if_pos e0]; simp [er, a1]) (by repeat' (first | exact FR.rf | apply FR.upJ | apply FR.up | omega)) up2_s⟩
  · have a1 : lkT wd T 1 (p + 1) = -1 := (lkT_neg hb1).mp q2
    have a2 : nN T = 16 := by have := hN.2; omega
    rcases hI' with rfl | rfl
    · exact ⟨fun q => absurd q (by decide), fun _ => hE 4 (p + 1) _ _ (by rw [lerr, if_neg (by omega), if_pos e0]; simp [er, a1, a2]) (by repeat' (first | exact FR.rf | apply FR.upJ | apply FR.up | omega)) up2_s⟩
    · exact ⟨fun q => absurd q (by decide), fun _ => hE 4 (p + 1) _ _ (by rw [lerr, if_neg (by omega), if_pos e0]; simp [er, a1, a2]) (by repeat' (first | exact FR.rf | apply FR.upJ | apply FR.up | omega)) up2_s⟩
  · have a1 : lkT wd T 1 (p + 1) = -1 := (lkT_neg hb1).mp q2
    have a2b : nN T < 16 := q3
    have a2 : ¬ nN T = 16 := by omega
    refine ⟨fun _ x5 => ?_, fun q => absurd rfl q⟩
    refine st_kw (K := K) (V := V) (M := M) ?_ (by omega) (by omega) h ?_
    · exact FR.ps (by repeat' (first | exact FR.rf | apply FR.upJ | apply FR.up | omega)) hK
    rw [e2]
    refine sp_X7_kwA (by decide) (by decide) ⟨fun _ x5 => ?_, fun q => absurd rfl q⟩
    refine st_name (K := K) (V := V) (M := M) (k := 3) (n := nT4 T) (wd := wd) ?_ (by omega) e3 (by decide) ?_ ?_ ?_ h ?_
    · exact FR.ps (by repeat' (first | exact FR.rf | apply FR.upJ | apply FR.up | omega)) hK
    · rfl
    · exact hct.o (fun i _ => rfl)
    · exact wdO_o rfl hw
    rw [show (tbI 3) = 0 from by decide, lk_ok (K := K) (M := M) ht hn hw (fun i hi j hj => by
      rcases (show i = 0 ∨ i = 1 ∨ i = 2 ∨ i = 3 by omega) with rfl | rfl | rfl | rfl
      · rfl
      · exact if_neg (Nat.ne_of_lt hj)
      · rfl
      · rfl) hM4 (by decide) (by omega) e3]
    by_cases a3 : lkT wd T 0 (p + 3) = -1
    · refine sp_X7_name3 (by decide) (by decide) ((lkT_neg hb0).mpr a3) (k := 3) (by rfl) ?_
      exact ⟨fun q => absurd q (by decide), fun _ => hE 3 (p + 3) _ _ (by rw [lerr, if_neg (by omega), if_pos e0]; simp [er, a1, a2, a3]) (by repeat' (first | exact FR.rf | apply FR.upJ | apply FR.up | omega)) up2_s⟩
    · refine sp_X7_nOf a2b (lkT_ge hb0 a3) (by exact hN.1) (by exact hO.1) (by rfl) ⟨fun _ x5 => ?_, fun q => absurd rfl q⟩
      refine st_kw (K := K) (V := V) (M := M) ?_ (by omega) (by omega) h ?_
      · exact FR.ps (by repeat' (first | exact FR.rf | apply FR.upJ | apply FR.up | omega)) hK
      rw [e4]
      refine sp_X7_kwA (by decide) (by decide) ⟨fun _ x5 => ?_, fun q => absurd rfl q⟩
      refine st_kw (K := K) (V := V) (M := M) ?_ (by omega) (by omega) h ?_
      · exact FR.ps (by repeat' (first | exact FR.rf | apply FR.upJ | apply FR.up | omega)) hK
      rw [e5]
      refine sp_X7_kwA (by decide) (by decide) ⟨fun _ x5 => ?_, fun q => absurd rfl q⟩
      have a5 : ¬ K (p + 5) = 28 := by have := e5; show ¬ K (p + 1 + 1 + 1 + 1 + 1) = 28; omega
      have k6 : ¬ K (p + 6) = 6 := by have := e6; show ¬ K (p + 1 + 1 + 1 + 1 + 1 + 1) = 6; omega
      refine st_semi (K := K) (V := V) (M := M) ?_ (by omega) e6 h ?_
      · exact FR.ps (by repeat' (first | exact FR.rf | apply FR.upJ | apply FR.up | omega)) hK
      refine (sp_X7_end2 (by rfl) (by exact hN.1) ⟨nI_0, fun x5 => ?_⟩)
      refine κ (by rw [lerr, if_neg (by omega), if_pos e0]; simp [er, a1, a2, a3, a5, k6]) _ _ _ (by repeat' (first | exact FR.rf | apply FR.upJ | apply FR.up | omega)) ?_ nI_0 (fun t htp => by simp [up2, show ¬ t = p + 1 by omega, show ¬ t = p + 1 + 1 + 1 by omega])
      rw [lsT, if_neg (by omega), if_pos e0, if_neg a2]
      refine ⟨ht.1, ?_, (pT2_ro ht.2.2.1 (fun k hk => by repeat rw [up2_o (by omega)])), ht.2.2.2.1, ht.2.2.2.2⟩
      show pN wd (ix (nI (nN T + 1))) _ _ _ _ _ _ _ _ _ _
      rw [ix_n (by omega)]
      have eab : abT K wd T p = -1 := if_pos (show K (p + 5) = 5 from e5)
      have etd : tdT K V p = nI 0 := if_neg k6
      exact pN_push (v2 := lkT wd T 0 (p + 3)) (v3 := (-1)) (v4 := (nI 0)) ht.2.1 a2b (show p + 1 < 2 ^ 31 by omega) (by simp [up2]) (fun k hk => by simp [up2, Nat.ne_of_lt hk]) (fun k hk => by simp [up2, Nat.ne_of_lt hk]) (fun k hk => by simp [up2, Nat.ne_of_lt hk]) (fun k hk => by simp [up2, Nat.ne_of_lt hk]) (fun k hk => by simp [up2, Nat.ne_of_lt hk]) (fun k hk => by simp [ctT, setRow, upd, Nat.ne_of_lt hk]) (fun k hk => by simp [ctT, setRow, upd, Nat.ne_of_lt hk]) (fun k hk => by simp [ctT, setRow, upd, Nat.ne_of_lt hk]) (fun k hk => by simp [ctT, setRow, upd, Nat.ne_of_lt hk]) (by simp [up2]) (by simp [ctT, setRow, upd]) (by simp [up2]) (by simp [ctT, setRow, upd, eab]) (by simp [up2]) (by simp [ctT, setRow, upd, etd]) (by rw [dpt_m1]; simp [up2]) (by simp [up2]) (by simp [ctT, setRow, upd]) (Or.inl rfl) (by rw [dpt_m1]; decide)
set_option maxRecDepth 100000 in
set_option maxHeartbeats 400000 in
theorem ln_2nc {Γ : Cx} {K wd : Nat → Nat} {V : Nat → Int32} {M d p : Nat} {T I : MI} {J : MJ} {P : MP} {Q : Int32 → MI → MJ → MP → Prop} (hK : psO K V M I J) (hw : wdO K wd M J) (hV : vO K V M) (hn : nmO K M T) (ht : tcl wd T I J) (e0 : K p = 2) (e1 : K (p + 1) = 28) (e2 : K (p + 1 + 1) = 3) (e3 : K (p + 1 + 1 + 1) = 28) (e4 : K (p + 1 + 1 + 1 + 1) = 4) (e5 : K (p + 1 + 1 + 1 + 1 + 1) = 28) (e6 : K (p + 1 + 1 + 1 + 1 + 1 + 1) = 6) (e7 : K (p + 1 + 1 + 1 + 1 + 1 + 1 + 1) = 29) (e8 : K (p + 1 + 1 + 1 + 1 + 1 + 1 + 1 + 1) = 34) (hp : p + 8 < M) (hE : ∀ e t I' J', lerr K V wd T p = some (e, t) → FR I J I' J' → I' 10 0 = nI e → Q (nI t) I' J' P) (κ : lerr K V wd T p = none → ∀ I' J' x5, FR I J I' J' → tcl wd (lsT K V wd (I 9) T p) I' J' → I' 10 0 = 0 → (∀ t, t < p → I' 16 t = I 16 t) → VG Γ 0 0 12 [some (.ref 10), some (.ref 3), some (.ref 9), some (.ref 58), some (.int (nI (p + 1 + 1 + 1 + 1 + 1 + 1 + 1 + 1 + 1))), x5] [] I' J' P (Fnl Γ (Qi Q))) (h : Vc RX7 cX7_firstFault 6 (some .int) (d + 5) Γ) {x5 : Option Value} : VG Γ 0 0 12 [some (.ref 10), some (.ref 3), some (.ref 9), some (.ref 58), some (.int (nI p)), x5] [] I J P (Fnl Γ (Qi Q)) := by
  have hM4 := hK.2.2.2.1
  have hct := ht.ct
  have hC := ht.1.1
  have hN := ht.2.1.1
  have hO := ht.2.2.2.2.1
  have hb0 : nT4 T 0 ≤ 16 := by have := hC.2; show nC T ≤ 16; omega
  have hb1 : nT4 T 1 ≤ 16 := hN.2
  have hch := pN_ch ht.2.1
  refine st_kw hK (by omega) (by omega) h ?_
  rw [e0]
  refine sp_X7_kw2 ⟨fun _ x5 => ?_, fun q => absurd rfl q⟩
  refine st_name (K := K) (V := V) (M := M) (k := 2) (n := nT4 T) (wd := wd) ?_ (by omega) e1 (by decide) ?_ ?_ ?_ h ?_
  · exact FR.ps (by repeat' (first | exact FR.rf | apply FR.upJ | apply FR.up | omega)) hK
  · rfl
  · exact hct.o (fun i _ => rfl)
  · exact wdO_o rfl hw
  rw [show (tbI 2) = 1 from by decide, lk_ok (K := K) (M := M) ht hn hw (fun i hi j hj => rfl) hM4 (by decide) (by omega) e1]
  refine sp_X7_name2 hN.2 (by rfl) (by exact hN.1) (fun I' hI' => ⟨fun q2 => ?_, fun q2 q3 => ?_⟩) (fun q2 q3 => ?_)
  · have a1 : ¬ lkT wd T 1 (p + 1) = -1 := fun r => q2 ((lkT_neg hb1).mpr r)
    rcases hI' with rfl | rfl
    · exact ⟨fun q => absurd q (by decide), fun _ => hE 2 (p + 1) _ _ (by rw [lerr, if_neg (by omega), if_pos e0]; simp [er, a1]) (by repeat' (first | exact FR.rf | apply FR.upJ | apply FR.up | omega)) up2_s⟩
    · exact ⟨fun q => absurd q (by decide), fun _ => hE 2 (p + 1) _ _ (by rw [lerr, if_neg (by omega), if_pos e0]; simp [er, a1]) (by repeat' (first | exact FR.rf | apply FR.upJ | apply FR.up | omega)) up2_s⟩
  · have a1 : lkT wd T 1 (p + 1) = -1 := (lkT_neg hb1).mp q2
    have a2 : nN T = 16 := by have := hN.2; omega
    rcases hI' with rfl | rfl
    · exact ⟨fun q => absurd q (by decide), fun _ => hE 4 (p + 1) _ _ (by rw [lerr, if_neg (by omega), if_pos e0]; simp [er, a1, a2]) (by repeat' (first | exact FR.rf | apply FR.upJ | apply FR.up | omega)) up2_s⟩
    · exact ⟨fun q => absurd q (by decide), fun _ => hE 4 (p + 1) _ _ (by rw [lerr, if_neg (by omega), if_pos e0]; simp [er, a1, a2]) (by repeat' (first | exact FR.rf | apply FR.upJ | apply FR.up | omega)) up2_s⟩
  · have a1 : lkT wd T 1 (p + 1) = -1 := (lkT_neg hb1).mp q2
    have a2b : nN T < 16 := q3
    have a2 : ¬ nN T = 16 := by omega
    refine ⟨fun _ x5 => ?_, fun q => absurd rfl q⟩
    refine st_kw (K := K) (V := V) (M := M) ?_ (by omega) (by omega) h ?_
    · exact FR.ps (by repeat' (first | exact FR.rf | apply FR.upJ | apply FR.up | omega)) hK
    rw [e2]
    refine sp_X7_kwA (by decide) (by decide) ⟨fun _ x5 => ?_, fun q => absurd rfl q⟩
    refine st_name (K := K) (V := V) (M := M) (k := 3) (n := nT4 T) (wd := wd) ?_ (by omega) e3 (by decide) ?_ ?_ ?_ h ?_
    · exact FR.ps (by repeat' (first | exact FR.rf | apply FR.upJ | apply FR.up | omega)) hK
    · rfl
    · exact hct.o (fun i _ => rfl)
    · exact wdO_o rfl hw
    rw [show (tbI 3) = 0 from by decide, lk_ok (K := K) (M := M) ht hn hw (fun i hi j hj => by
      rcases (show i = 0 ∨ i = 1 ∨ i = 2 ∨ i = 3 by omega) with rfl | rfl | rfl | rfl
      · rfl
      · exact if_neg (Nat.ne_of_lt hj)
      · rfl
      · rfl) hM4 (by decide) (by omega) e3]
    by_cases a3 : lkT wd T 0 (p + 3) = -1
    · refine sp_X7_name3 (by decide) (by decide) ((lkT_neg hb0).mpr a3) (k := 3) (by rfl) ?_
      exact ⟨fun q => absurd q (by decide), fun _ => hE 3 (p + 3) _ _ (by rw [lerr, if_neg (by omega), if_pos e0]; simp [er, a1, a2, a3]) (by repeat' (first | exact FR.rf | apply FR.upJ | apply FR.up | omega)) up2_s⟩
    · refine sp_X7_nOf a2b (lkT_ge hb0 a3) (by exact hN.1) (by exact hO.1) (by rfl) ⟨fun _ x5 => ?_, fun q => absurd rfl q⟩
      refine st_kw (K := K) (V := V) (M := M) ?_ (by omega) (by omega) h ?_
      · exact FR.ps (by repeat' (first | exact FR.rf | apply FR.upJ | apply FR.up | omega)) hK
      rw [e4]
      refine sp_X7_kwA (by decide) (by decide) ⟨fun _ x5 => ?_, fun q => absurd rfl q⟩
      refine st_name (K := K) (V := V) (M := M) (k := 4) (n := nT4 T) (wd := wd) ?_ (by omega) e5 (by decide) ?_ ?_ ?_ h ?_
      · exact FR.ps (by repeat' (first | exact FR.rf | apply FR.upJ | apply FR.up | omega)) hK
      · rfl
      · exact hct.o (fun i _ => rfl)
      · exact wdO_o rfl hw
      rw [show (tbI 4) = 1 from by decide, lk_ok (K := K) (M := M) ht hn hw (fun i hi j hj => by
        rcases (show i = 0 ∨ i = 1 ∨ i = 2 ∨ i = 3 by omega) with rfl | rfl | rfl | rfl
        · rfl
        · exact if_neg (Nat.ne_of_lt hj)
        · rfl
        · rfl) hM4 (by decide) (by omega) e5]
      have k5 : K (p + 5) = 28 := e5
      rcases lkT_in (wd := wd) (T := T) (i := 1) (t := p + 5) with a4 | ⟨j, j1, j2⟩
      · rw [show lkT wd T 1 (p + 1 + 1 + 1 + 1 + 1) = -1 from a4]
        refine sp_X7_name3 (by decide) (by decide) (by decide) (k := 4) (by rfl) ?_
        exact ⟨fun q => absurd q (by decide), fun _ => hE 3 (p + 5) _ _ (by rw [lerr, if_neg (by omega), if_pos e0]; simp [er, a1, a2, a3, k5, a4]) (by repeat' (first | exact FR.rf | apply FR.upJ | apply FR.up | omega)) up2_s⟩
      · rw [show lkT wd T 1 (p + 1 + 1 + 1 + 1 + 1) = nI j from j2]
        have j1 : j < nN T := j1
        have a4 : ¬ lkT wd T 1 (p + 5) = -1 := by rw [j2]; exact fun r => nI_pos (show j < 2 ^ 31 by omega) (by rw [r]; decide)
        have dj := (ht.2.1.2 j j1).2.2.1
        have d4 := (ht.2.1.2 j j1).2.2.2.1
        refine sp_X7_nUnder a2b j1 (Nat.le_trans d4 (by decide)) (by exact hN.1) (by exact hO.1) ?_ (by rfl) (fun q5 => ?_) (fun q5 => ?_)
        · exact (if_neg (Nat.ne_of_lt j1)).trans dj
        · have a5 : dpt (T 3) 17 (lkT wd T 1 (p + 5)) = 4 := by rw [j2]; omega
          exact ⟨fun q => absurd q (by decide), fun _ => hE 5 (p + 5) _ _ (by rw [lerr, if_neg (by omega), if_pos e0]; simp [er, a1, a2, a3, k5, a4, a5]) (by repeat' (first | exact FR.rf | apply FR.upJ | apply FR.up | omega)) up2_s⟩
        · have a5 : ¬ dpt (T 3) 17 (lkT wd T 1 (p + 5)) = 4 := by rw [j2]; omega
          refine ⟨fun _ x5 => ?_, fun q => absurd rfl q⟩
          refine st_kw (K := K) (V := V) (M := M) ?_ (by omega) (by omega) h ?_
          · exact FR.ps (by repeat' (first | exact FR.rf | apply FR.upJ | apply FR.up | omega)) hK
          rw [e6]
          refine sp_X7_kwA (by decide) (by decide) ⟨fun _ x5 => ?_, fun q => absurd rfl q⟩
          obtain ⟨v, v1, v2⟩ := hV (p + 7) (by omega) e7
          have k6 : K (p + 6) = 6 := e6
          refine st_num (K := K) (V := V) (M := M) ?_ (by omega) e7 h ?_
          · exact FR.ps (by repeat' (first | exact FR.rf | apply FR.upJ | apply FR.up | omega)) hK
          refine sp_X7_num6 a2b (by rfl) (by exact hN.1) (fun q6 => ?_) (fun q6 => ?_)
          · have a6 : inB (V (p + 7)) (nI 0) (nI 9999) = false := by rw [inB, decide_eq_false (Int32.not_le.mpr (show nI 9999 < V (p + 7) from q6)), Bool.and_false]
            exact ⟨fun q => absurd q (by decide), fun _ => hE 5 (p + 7) _ _ (by rw [lerr, if_neg (by omega), if_pos e0]; simp [er, a1, a2, a3, k5, a4, a5, k6, a6]) (by repeat' (first | exact FR.rf | apply FR.upJ | apply FR.up | omega)) up2_s⟩
          · have a6 : inB (V (p + 7)) (nI 0) (nI 9999) = true := by rw [inB, decide_eq_true (show V (p + 7) ≤ nI 9999 from q6), v2, decide_eq_true (nI_le (Nat.zero_le v) (by omega))]; rfl
            refine ⟨fun _ x5 => ?_, fun q => absurd rfl q⟩
            refine st_semi (K := K) (V := V) (M := M) ?_ (by omega) e8 h ?_
            · exact FR.ps (by repeat' (first | exact FR.rf | apply FR.upJ | apply FR.up | omega)) hK
            refine (sp_X7_end2 (by rfl) (by exact hN.1) ⟨nI_0, fun x5 => ?_⟩)
            refine κ (by rw [lerr, if_neg (by omega), if_pos e0]; simp [er, a1, a2, a3, k5, a4, a5, k6, a6]) _ _ _ (by repeat' (first | exact FR.rf | apply FR.upJ | apply FR.up | omega)) ?_ nI_0 (fun t htp => by simp [up2, show ¬ t = p + 1 by omega, show ¬ t = p + 1 + 1 + 1 by omega, show ¬ t = p + 1 + 1 + 1 + 1 + 1 by omega])
            rw [lsT, if_neg (by omega), if_pos e0, if_neg a2]
            refine ⟨ht.1, ?_, (pT2_ro ht.2.2.1 (fun k hk => by repeat rw [up2_o (by omega)])), ht.2.2.2.1, ht.2.2.2.2⟩
            show pN wd (ix (nI (nN T + 1))) _ _ _ _ _ _ _ _ _ _
            rw [ix_n (by omega)]
            have eab : abT K wd T p = nI j := (if_neg (show ¬ K (p + 5) = 5 by omega)).trans j2
            have etd : tdT K V p = V (p + 7) := if_pos k6
            exact pN_push (v2 := lkT wd T 0 (p + 3)) (v3 := (nI j)) (v4 := (V (p + 7))) ht.2.1 a2b (show p + 1 < 2 ^ 31 by omega) (by simp [up2]) (fun k hk => by simp [up2, Nat.ne_of_lt hk]) (fun k hk => by simp [up2, Nat.ne_of_lt hk]) (fun k hk => by simp [up2, Nat.ne_of_lt hk]) (fun k hk => by simp [up2, Nat.ne_of_lt hk]) (fun k hk => by simp [up2, Nat.ne_of_lt hk]) (fun k hk => by simp [ctT, setRow, upd, Nat.ne_of_lt hk]) (fun k hk => by simp [ctT, setRow, upd, Nat.ne_of_lt hk]) (fun k hk => by simp [ctT, setRow, upd, Nat.ne_of_lt hk]) (fun k hk => by simp [ctT, setRow, upd, Nat.ne_of_lt hk]) (by simp [up2]) (by simp [ctT, setRow, upd]) (by simp [up2]) (by simp [ctT, setRow, upd, eab]) (by simp [up2]) (by simp [ctT, setRow, upd, etd]) (by simp [up2]) (by simp [up2]) (by simp [ctT, setRow, upd]) (Or.inr ⟨j, j1, rfl⟩) (by omega)
set_option maxRecDepth 100000 in
set_option maxHeartbeats 400000 in
theorem ln_2n {Γ : Cx} {K wd : Nat → Nat} {V : Nat → Int32} {M d p : Nat} {T I : MI} {J : MJ} {P : MP} {Q : Int32 → MI → MJ → MP → Prop} (hK : psO K V M I J) (hw : wdO K wd M J) (hV : vO K V M) (hn : nmO K M T) (ht : tcl wd T I J) (e0 : K p = 2) (e1 : K (p + 1) = 28) (e2 : K (p + 1 + 1) = 3) (e3 : K (p + 1 + 1 + 1) = 28) (e4 : K (p + 1 + 1 + 1 + 1) = 4) (e5 : K (p + 1 + 1 + 1 + 1 + 1) = 28) (e6 : K (p + 1 + 1 + 1 + 1 + 1 + 1) = 34) (hp : p + 6 < M) (hE : ∀ e t I' J', lerr K V wd T p = some (e, t) → FR I J I' J' → I' 10 0 = nI e → Q (nI t) I' J' P) (κ : lerr K V wd T p = none → ∀ I' J' x5, FR I J I' J' → tcl wd (lsT K V wd (I 9) T p) I' J' → I' 10 0 = 0 → (∀ t, t < p → I' 16 t = I 16 t) → VG Γ 0 0 12 [some (.ref 10), some (.ref 3), some (.ref 9), some (.ref 58), some (.int (nI (p + 1 + 1 + 1 + 1 + 1 + 1 + 1))), x5] [] I' J' P (Fnl Γ (Qi Q))) (h : Vc RX7 cX7_firstFault 6 (some .int) (d + 5) Γ) {x5 : Option Value} : VG Γ 0 0 12 [some (.ref 10), some (.ref 3), some (.ref 9), some (.ref 58), some (.int (nI p)), x5] [] I J P (Fnl Γ (Qi Q)) := by
  have hM4 := hK.2.2.2.1
  have hct := ht.ct
  have hC := ht.1.1
  have hN := ht.2.1.1
  have hO := ht.2.2.2.2.1
  have hb0 : nT4 T 0 ≤ 16 := by have := hC.2; show nC T ≤ 16; omega
  have hb1 : nT4 T 1 ≤ 16 := hN.2
  have hch := pN_ch ht.2.1
  refine st_kw hK (by omega) (by omega) h ?_
  rw [e0]
  refine sp_X7_kw2 ⟨fun _ x5 => ?_, fun q => absurd rfl q⟩
  refine st_name (K := K) (V := V) (M := M) (k := 2) (n := nT4 T) (wd := wd) ?_ (by omega) e1 (by decide) ?_ ?_ ?_ h ?_
  · exact FR.ps (by repeat' (first | exact FR.rf | apply FR.upJ | apply FR.up | omega)) hK
  · rfl
  · exact hct.o (fun i _ => rfl)
  · exact wdO_o rfl hw
  rw [show (tbI 2) = 1 from by decide, lk_ok (K := K) (M := M) ht hn hw (fun i hi j hj => rfl) hM4 (by decide) (by omega) e1]
  refine sp_X7_name2 hN.2 (by rfl) (by exact hN.1) (fun I' hI' => ⟨fun q2 => ?_, fun q2 q3 => ?_⟩) (fun q2 q3 => ?_)
  · have a1 : ¬ lkT wd T 1 (p + 1) = -1 := fun r => q2 ((lkT_neg hb1).mpr r)
    rcases hI' with rfl | rfl
    · exact ⟨fun q => absurd q (by decide), fun _ => hE 2 (p + 1) _ _ (by rw [lerr, if_neg (by omega), if_pos e0]; simp [er, a1]) (by repeat' (first | exact FR.rf | apply FR.upJ | apply FR.up | omega)) up2_s⟩
    · exact ⟨fun q => absurd q (by decide), fun _ => hE 2 (p + 1) _ _ (by rw [lerr, if_neg (by omega), if_pos e0]; simp [er, a1]) (by repeat' (first | exact FR.rf | apply FR.upJ | apply FR.up | omega)) up2_s⟩
  · have a1 : lkT wd T 1 (p + 1) = -1 := (lkT_neg hb1).mp q2
    have a2 : nN T = 16 := by have := hN.2; omega
    rcases hI' with rfl | rfl
    · exact ⟨fun q => absurd q (by decide), fun _ => hE 4 (p + 1) _ _ (by rw [lerr, if_neg (by omega), if_pos e0]; simp [er, a1, a2]) (by repeat' (first | exact FR.rf | apply FR.upJ | apply FR.up | omega)) up2_s⟩
    · exact ⟨fun q => absurd q (by decide), fun _ => hE 4 (p + 1) _ _ (by rw [lerr, if_neg (by omega), if_pos e0]; simp [er, a1, a2]) (by repeat' (first | exact FR.rf | apply FR.upJ | apply FR.up | omega)) up2_s⟩
  · have a1 : lkT wd T 1 (p + 1) = -1 := (lkT_neg hb1).mp q2
    have a2b : nN T < 16 := q3
    have a2 : ¬ nN T = 16 := by omega
    refine ⟨fun _ x5 => ?_, fun q => absurd rfl q⟩
    refine st_kw (K := K) (V := V) (M := M) ?_ (by omega) (by omega) h ?_
    · exact FR.ps (by repeat' (first | exact FR.rf | apply FR.upJ | apply FR.up | omega)) hK
    rw [e2]
    refine sp_X7_kwA (by decide) (by decide) ⟨fun _ x5 => ?_, fun q => absurd rfl q⟩
    refine st_name (K := K) (V := V) (M := M) (k := 3) (n := nT4 T) (wd := wd) ?_ (by omega) e3 (by decide) ?_ ?_ ?_ h ?_
    · exact FR.ps (by repeat' (first | exact FR.rf | apply FR.upJ | apply FR.up | omega)) hK
    · rfl
    · exact hct.o (fun i _ => rfl)
    · exact wdO_o rfl hw
    rw [show (tbI 3) = 0 from by decide, lk_ok (K := K) (M := M) ht hn hw (fun i hi j hj => by
      rcases (show i = 0 ∨ i = 1 ∨ i = 2 ∨ i = 3 by omega) with rfl | rfl | rfl | rfl
      · rfl
      · exact if_neg (Nat.ne_of_lt hj)
      · rfl
      · rfl) hM4 (by decide) (by omega) e3]
    by_cases a3 : lkT wd T 0 (p + 3) = -1
    · refine sp_X7_name3 (by decide) (by decide) ((lkT_neg hb0).mpr a3) (k := 3) (by rfl) ?_
      exact ⟨fun q => absurd q (by decide), fun _ => hE 3 (p + 3) _ _ (by rw [lerr, if_neg (by omega), if_pos e0]; simp [er, a1, a2, a3]) (by repeat' (first | exact FR.rf | apply FR.upJ | apply FR.up | omega)) up2_s⟩
    · refine sp_X7_nOf a2b (lkT_ge hb0 a3) (by exact hN.1) (by exact hO.1) (by rfl) ⟨fun _ x5 => ?_, fun q => absurd rfl q⟩
      refine st_kw (K := K) (V := V) (M := M) ?_ (by omega) (by omega) h ?_
      · exact FR.ps (by repeat' (first | exact FR.rf | apply FR.upJ | apply FR.up | omega)) hK
      rw [e4]
      refine sp_X7_kwA (by decide) (by decide) ⟨fun _ x5 => ?_, fun q => absurd rfl q⟩
      refine st_name (K := K) (V := V) (M := M) (k := 4) (n := nT4 T) (wd := wd) ?_ (by omega) e5 (by decide) ?_ ?_ ?_ h ?_
      · exact FR.ps (by repeat' (first | exact FR.rf | apply FR.upJ | apply FR.up | omega)) hK
      · rfl
      · exact hct.o (fun i _ => rfl)
      · exact wdO_o rfl hw
      rw [show (tbI 4) = 1 from by decide, lk_ok (K := K) (M := M) ht hn hw (fun i hi j hj => by
        rcases (show i = 0 ∨ i = 1 ∨ i = 2 ∨ i = 3 by omega) with rfl | rfl | rfl | rfl
        · rfl
        · exact if_neg (Nat.ne_of_lt hj)
        · rfl
        · rfl) hM4 (by decide) (by omega) e5]
      have k5 : K (p + 5) = 28 := e5
      rcases lkT_in (wd := wd) (T := T) (i := 1) (t := p + 5) with a4 | ⟨j, j1, j2⟩
      · rw [show lkT wd T 1 (p + 1 + 1 + 1 + 1 + 1) = -1 from a4]
        refine sp_X7_name3 (by decide) (by decide) (by decide) (k := 4) (by rfl) ?_
        exact ⟨fun q => absurd q (by decide), fun _ => hE 3 (p + 5) _ _ (by rw [lerr, if_neg (by omega), if_pos e0]; simp [er, a1, a2, a3, k5, a4]) (by repeat' (first | exact FR.rf | apply FR.upJ | apply FR.up | omega)) up2_s⟩
      · rw [show lkT wd T 1 (p + 1 + 1 + 1 + 1 + 1) = nI j from j2]
        have j1 : j < nN T := j1
        have a4 : ¬ lkT wd T 1 (p + 5) = -1 := by rw [j2]; exact fun r => nI_pos (show j < 2 ^ 31 by omega) (by rw [r]; decide)
        have dj := (ht.2.1.2 j j1).2.2.1
        have d4 := (ht.2.1.2 j j1).2.2.2.1
        refine sp_X7_nUnder a2b j1 (Nat.le_trans d4 (by decide)) (by exact hN.1) (by exact hO.1) ?_ (by rfl) (fun q5 => ?_) (fun q5 => ?_)
        · exact (if_neg (Nat.ne_of_lt j1)).trans dj
        · have a5 : dpt (T 3) 17 (lkT wd T 1 (p + 5)) = 4 := by rw [j2]; omega
          exact ⟨fun q => absurd q (by decide), fun _ => hE 5 (p + 5) _ _ (by rw [lerr, if_neg (by omega), if_pos e0]; simp [er, a1, a2, a3, k5, a4, a5]) (by repeat' (first | exact FR.rf | apply FR.upJ | apply FR.up | omega)) up2_s⟩
        · have a5 : ¬ dpt (T 3) 17 (lkT wd T 1 (p + 5)) = 4 := by rw [j2]; omega
          refine ⟨fun _ x5 => ?_, fun q => absurd rfl q⟩
          have k6 : ¬ K (p + 6) = 6 := by have := e6; show ¬ K (p + 1 + 1 + 1 + 1 + 1 + 1) = 6; omega
          refine st_semi (K := K) (V := V) (M := M) ?_ (by omega) e6 h ?_
          · exact FR.ps (by repeat' (first | exact FR.rf | apply FR.upJ | apply FR.up | omega)) hK
          refine (sp_X7_end2 (by rfl) (by exact hN.1) ⟨nI_0, fun x5 => ?_⟩)
          refine κ (by rw [lerr, if_neg (by omega), if_pos e0]; simp [er, a1, a2, a3, k5, a4, a5, k6]) _ _ _ (by repeat' (first | exact FR.rf | apply FR.upJ | apply FR.up | omega)) ?_ nI_0 (fun t htp => by simp [up2, show ¬ t = p + 1 by omega, show ¬ t = p + 1 + 1 + 1 by omega, show ¬ t = p + 1 + 1 + 1 + 1 + 1 by omega])
          rw [lsT, if_neg (by omega), if_pos e0, if_neg a2]
          refine ⟨ht.1, ?_, (pT2_ro ht.2.2.1 (fun k hk => by repeat rw [up2_o (by omega)])), ht.2.2.2.1, ht.2.2.2.2⟩
          show pN wd (ix (nI (nN T + 1))) _ _ _ _ _ _ _ _ _ _
          rw [ix_n (by omega)]
          have eab : abT K wd T p = nI j := (if_neg (show ¬ K (p + 5) = 5 by omega)).trans j2
          have etd : tdT K V p = nI 0 := if_neg k6
          exact pN_push (v2 := lkT wd T 0 (p + 3)) (v3 := (nI j)) (v4 := (nI 0)) ht.2.1 a2b (show p + 1 < 2 ^ 31 by omega) (by simp [up2]) (fun k hk => by simp [up2, Nat.ne_of_lt hk]) (fun k hk => by simp [up2, Nat.ne_of_lt hk]) (fun k hk => by simp [up2, Nat.ne_of_lt hk]) (fun k hk => by simp [up2, Nat.ne_of_lt hk]) (fun k hk => by simp [up2, Nat.ne_of_lt hk]) (fun k hk => by simp [ctT, setRow, upd, Nat.ne_of_lt hk]) (fun k hk => by simp [ctT, setRow, upd, Nat.ne_of_lt hk]) (fun k hk => by simp [ctT, setRow, upd, Nat.ne_of_lt hk]) (fun k hk => by simp [ctT, setRow, upd, Nat.ne_of_lt hk]) (by simp [up2]) (by simp [ctT, setRow, upd]) (by simp [up2]) (by simp [ctT, setRow, upd, eab]) (by simp [up2]) (by simp [ctT, setRow, upd, etd]) (by simp [up2]) (by simp [up2]) (by simp [ctT, setRow, upd]) (Or.inr ⟨j, j1, rfl⟩) (by omega)
