/-! The class's teacher: orders, the list -/
theorem plx {K wd : Nat → Nat} {M : Nat} {T I : MI} {J : MJ} (h : tcl wd T I J) (hn : nmO K M T) (hw : wdO K wd M J) (hM : M ≤ 400) {k t : Nat} (ht : t ≤ M) (hk : K t = 28) (e : K (t - 1) = k) : plJ J (11 + tbI k) (nT4 T (tbI k)) (lN (wd t)) = mT K wd T t := by
  rw [lk_ok (K := K) (M := M) h hn hw (fun i hi j hj => rfl) hM (tbI_lt k) ht hk, mT, e]
theorem mT_in {K wd : Nat → Nat} {T : MI} {t : Nat} : mT K wd T t = -1 ∨ ∃ j, j < nT4 T (tbI (K (t - 1))) ∧ mT K wd T t = nI j := lkT_in
theorem nT4_le {wd : Nat → Nat} {T I : MI} {J : MJ} (h : tcl wd T I J) : ∀ i, i < 4 → nT4 T i ≤ 16 := by
  intro i hi
  have h0 : nT4 T 0 ≤ 6 := h.1.1.2
  have h1 : nT4 T 1 ≤ 16 := h.2.1.1.2
  have h2 : nT4 T 2 ≤ 6 := h.2.2.1.1.2
  have h3 : nT4 T 3 ≤ 5 := h.2.2.2.1.1.2
  rcases (show i = 0 ∨ i = 1 ∨ i = 2 ∨ i = 3 by omega) with rfl | rfl | rfl | rfl <;> omega
theorem mT_ge {K wd : Nat → Nat} {T I : MI} {J : MJ} {t : Nat} (h : tcl wd T I J) (q : ¬ mT K wd T t = -1) : 0 ≤ mT K wd T t := lkT_ge (nT4_le h _ (tbI_lt _)) q
set_option maxRecDepth 100000 in
set_option maxHeartbeats 4000000 in
theorem sc_rng {Γ : Cx} {K wd : Nat → Nat} {V : Nat → Int32} {M d s e : Nat} {T I0 I1 : MI} {J : MJ} {P : MP} {Q : Int32 → MI → MJ → MP → Prop} (hK0 : psO K V M I0 J) (hw0 : wdO K wd M J) (hn : nmO K M T) (ht : tcl wd T I0 J) (hF1 : FR I0 J I1 J) (hI58 : ∀ i, I1 58 i = I0 58 i) (hR : okR K s e) (he : e < M) (h : Vc RX7 cX7_firstFault 6 (some .int) (d + 5) Γ) (hE : ∀ er t I' J', fbd K (mT K wd T) (e - s) s = some (er, t) → FR I0 J I' J' → I' 10 0 = nI er → Q (nI t) I' J' P) (κ : fbd K (mT K wd T) (e - s) s = none → ∀ I' x5, FR I0 J I' J → ((∀ a j, a ≠ 16 → ¬ (a = 10 ∧ (j = 8 ∨ j = 0)) → I' a j = I1 a j) ∧ I' 10 0 = 0 ∧ (∀ t', (t' < s ∨ e ≤ t') → I' 16 t' = I1 16 t') ∧ (∀ t', s ≤ t' → t' < e → K t' = 28 → I' 16 t' = mT K wd T t')) → VG Γ 0 0 12 [some (.ref 10), some (.ref 3), some (.ref 9), some (.ref 58), some (.int (nI e)), x5] [] I' J P (Fnl Γ (Qi Q))) : ∀ (f t kw : Nat) (I : MI) (x5 : Option Value), t + f = e → s ≤ t → I 10 8 = nI kw → kw < 49 → (¬ kw = 1 ∧ ¬ kw = 6 ∧ ¬ kw = 10) → (s < t → K (t - 1) < 28 → kw = K (t - 1)) → FR I0 J I J → ((∀ a j, a ≠ 16 → ¬ (a = 10 ∧ (j = 8 ∨ j = 0)) → I a j = I1 a j) ∧ I 10 0 = 0 ∧ (∀ t', (t' < s ∨ t ≤ t') → I 16 t' = I1 16 t') ∧ (∀ t', s ≤ t' → t' < t → K t' = 28 → I 16 t' = mT K wd T t')) → fbd K (mT K wd T) (e - s) s = fbd K (mT K wd T) (e - t) t → VG Γ 0 0 12 [some (.ref 10), some (.ref 3), some (.ref 9), some (.ref 58), some (.int (nI t)), x5] [] I J P (Fnl Γ (Qi Q)) := by
  have hM4 := hK0.2.2.2.1
  have hct := ht.ct
  have hN1 := ht.2.1.1
  have hO := ht.2.2.2.2.1
  intro f
  induction f with
  | zero =>
    intro t kw I x5 hf hst hkw k49 kno kpr hF hI hfb
    obtain rfl : t = e := by omega
    rw [Nat.sub_self] at hfb
    exact κ hfb I x5 hF hI
  | succ f ih =>
    intro t kw I x5 hf hst hkw k49 kno kpr hF hI hfb
    obtain ⟨i1, i2, i3, i4⟩ := hI
    have c58 : ∀ i, I 58 i = I0 58 i := fun i => (i1 58 i (by decide) (by omega)).trans (hI58 i)
    have hKt := hF.ps hK0
    rcases hR t hst (by omega) with r | r | r | r
    · refine st_sym (K := K) (V := V) (M := M) hKt (by omega) r.1 r.2.2 i2 h (fun x5 => ?_)
      refine ih (t + 1) kw I x5 (by omega) (by omega) hkw k49 kno (fun _ q => ?_) hF ⟨i1, i2, fun t' q => i3 t' (by omega), fun t' q1 q2 q3 => ?_⟩ (hfb.trans (fbd_0 (by omega) (by omega)))
      · rw [Nat.add_sub_cancel] at q; omega
      · rcases Nat.lt_or_ge t' t with z | z
        · exact i4 t' q1 z q3
        · obtain rfl : t' = t := by omega
          omega
    · refine st_kw (K := K) (V := V) (M := M) hKt (by omega) (by omega) h ?_
      refine sp_X7_kwA (by omega) (by omega) ⟨fun _ x5 => ?_, fun q => absurd rfl q⟩
      refine ih (t + 1) (K t) _ x5 (by omega) (by omega) (by simp [up2]) (by omega) (by omega) (fun _ _ => by rw [Nat.add_sub_cancel]) (FR.up (Or.inl rfl) (FR.up (Or.inl rfl) hF)) ⟨fun a j a1 a2 => ?_, by rw [up2_s]; rfl, fun t' q => ?_, fun t' q1 q2 q3 => ?_⟩ (hfb.trans (fbd_0 (by omega) (by omega)))
      · rw [← i1 a j a1 a2]
        by_cases ha : a = 10
        · subst ha
          rw [up2_n (by omega), up2_n (by omega)]
        · rw [up2_o ha, up2_o ha]
      · rw [up2_o (by decide), up2_o (by decide)]
        exact i3 t' (by omega)
      · rw [up2_o (by decide), up2_o (by decide)]
        rcases Nat.lt_or_ge t' t with z | z
        · exact i4 t' q1 z q3
        · obtain rfl : t' = t := by omega
          omega
    · refine st_num (K := K) (V := V) (M := M) hKt (by omega) r h ?_
      refine sp_X7_numD k49 kno hkw ⟨fun _ x5 => ?_, fun q => absurd rfl q⟩
      rw [show up2 I 10 0 (nI 0) = I from up2_id (i2.trans nI_0.symm)]
      refine ih (t + 1) kw I x5 (by omega) (by omega) hkw k49 kno (fun _ q => ?_) hF ⟨i1, i2, fun t' q => i3 t' (by omega), fun t' q1 q2 q3 => ?_⟩ (hfb.trans (fbd_0 (by omega) (by omega)))
      · rw [Nat.add_sub_cancel] at q; omega
      · rcases Nat.lt_or_ge t' t with z | z
        · exact i4 t' q1 z q3
        · obtain rfl : t' = t := by omega
          omega
    · have ekw := kpr r.2.1 (by omega)
      subst ekw
      refine st_name (K := K) (V := V) (M := M) (k := K (t - 1)) (n := nT4 T) (wd := wd) hKt (by omega) r.1 k49 hkw (hct.o (fun i _ => c58 i)) hw0 h ?_
      rw [plx (K := K) (M := M) ht hn hw0 hM4 (by omega) r.1 rfl]
      have e1 := hfb.trans (fbd_s (show t < e by omega))
      by_cases q : mT K wd T t = -1
      · rw [if_pos ⟨r.1, q⟩] at e1
        refine sp_X7_name3 (by omega) (by omega) (by rw [q]; decide) (k := K (t - 1)) (by exact hkw) ?_
        exact ⟨fun q => absurd q (by decide), fun _ => hE 3 t _ _ e1 (FR.up (Or.inl rfl) (FR.up (by omega) hF)) up2_s⟩
      · rw [if_neg (fun z => q z.2)] at e1
        refine sp_X7_nVal k49 r.2.2 (mT_ge ht q) (by exact (c58 1).trans hN1.1) (by exact (c58 4).trans hO.1) (by exact hkw) ⟨fun _ x5 => ?_, fun q => absurd rfl q⟩
        refine ih (t + 1) (K (t - 1)) _ x5 (by omega) (by omega) (by simp [up2]; exact hkw) k49 kno (fun _ q => ?_) (FR.up (Or.inl rfl) (FR.up (by omega) hF)) ⟨fun a j a1 a2 => ?_, by rw [up2_s]; rfl, fun t' q' => ?_, fun t' q1 q2 q3 => ?_⟩ e1
        · rw [Nat.add_sub_cancel] at q; omega
        · rw [← i1 a j a1 a2]
          by_cases ha : a = 10
          · subst ha
            rw [up2_n (by omega), up2_o (by decide)]
          · rw [up2_o ha, up2_o a1]
        · rw [up2_o (by decide), up2_n (by omega)]
          exact i3 t' (by omega)
        · rw [up2_o (by decide)]
          rcases Nat.lt_or_ge t' t with z | z
          · rw [up2_n (by omega)]
            exact i4 t' q1 z q3
          · obtain rfl : t' = t := by omega
            rw [up2_s]
set_option maxRecDepth 100000 in
set_option maxHeartbeats 400000 in
theorem ln_11w {Γ : Cx} {K wd : Nat → Nat} {V : Nat → Int32} {M d p : Nat} {T I : MI} {J : MJ} {P : MP} {Q : Int32 → MI → MJ → MP → Prop} (hK : psO K V M I J) (hw : wdO K wd M J) (hV : vO K V M) (hn : nmO K M T) (ht : tcl wd T I J) (e0 : K p = 11) (e1 : K (p + 1) = 28) (e2 : K (p + 1 + 1) = 12) (e3 : K (p + 1 + 1 + 1) = 28) (e4 : K (p + 1 + 1 + 1 + 1) = 13) {q1 : Nat} (hq1 : q1L K p = q1) (hq5 : p + 5 ≤ q1) (hRS : okR K (p + 5) q1) {q2 : Nat} (eW : K q1 = 15) (hq2 : q1 + 1 ≤ q2) (hRT : okR K (q1 + 1) q2) (eQ : K q2 = 34) (hend : (pL K p).2 = q2 + 1) (hp : q2 < M) (hca : ¬ I 9 q1 = -1) (hE : ∀ e t I' J', lerr K V wd T p = some (e, t) → FR I J I' J' → I' 10 0 = nI e → Q (nI t) I' J' P) (κ : lerr K V wd T p = none → ∀ I' J' x5, FR I J I' J' → tcl wd (lsT K V wd (I 9) T p) I' J' → I' 10 0 = 0 → (∀ t, t < p → I' 16 t = I 16 t) → (∀ t, p < t → t < (pL K p).2 → K t = 28 → I' 16 t = mT K wd T t) → VG Γ 0 0 12 [some (.ref 10), some (.ref 3), some (.ref 9), some (.ref 58), some (.int (nI ((pL K p).2))), x5] [] I' J' P (Fnl Γ (Qi Q))) (h : Vc RX7 cX7_firstFault 6 (some .int) (d + 5) Γ) {x5 : Option Value} : VG Γ 0 0 12 [some (.ref 10), some (.ref 3), some (.ref 9), some (.ref 58), some (.int (nI p)), x5] [] I J P (Fnl Γ (Qi Q)) := by
  have hM4 := hK.2.2.2.1
  have hct := ht.ct
  have hO := ht.2.2.2.2.1
  have hN1 := ht.2.1.1
  have k5 := hK.2.2.2.2
  have hb := nT4_le ht
  refine st_kw hK (by omega) (by omega) h ?_
  rw [e0]
  refine sp_X7_kw11 hO.2 hO.1 (fun qz => ?_) (fun qz => ?_)
  · have a2 : nO T = 20 := by have := hO.2; omega
    exact ⟨fun q => absurd q (by decide), fun _ => hE 4 p _ _ (by rw [lerr, if_neg (by omega), if_neg (by omega), if_neg (by omega), if_neg (by omega)]; simp [er, a2]) (by repeat' (first | exact FR.rf | apply FR.upJ | apply FR.up | omega)) up2_s⟩
  · have a2b : nO T < 20 := qz
    have a2 : ¬ nO T = 20 := by omega
    have eL : lerr K V wd T p = fbd K (mT K wd T) ((pL K p).2 - (p + 1)) (p + 1) := by rw [lerr, if_neg (by omega), if_neg (by omega), if_neg (by omega), if_neg (by omega)]; simp [er, a2]
    refine ⟨fun _ x5 => ?_, fun q => absurd rfl q⟩
    refine st_name (K := K) (V := V) (M := M) (k := 11) (n := nT4 T) (wd := wd) ?_ (by omega) e1 (by decide) ?_ ?_ ?_ h ?_
    · exact FR.ps (by repeat' (first | exact FR.rf | apply FR.upJ | apply FR.up | omega)) hK
    · rfl
    · exact hct.o (fun i _ => rfl)
    · exact wdO_o rfl hw
    rw [plx (K := K) (M := M) ht hn hw hM4 (by omega) e1 (by rw [Nat.add_sub_cancel]; exact e0)]
    have g1 := eL.trans (fbd_s (by omega))
    by_cases b1 : mT K wd T (p + 1) = -1
    · rw [if_pos ⟨e1, b1⟩] at g1
      refine sp_X7_name3 (by decide) (by decide) (by rw [b1]; decide) (k := 11) (by rfl) ?_
      exact ⟨fun q => absurd q (by decide), fun _ => hE 3 (p + 1) _ _ (g1) (by repeat' (first | exact FR.rf | apply FR.upJ | apply FR.up | omega)) up2_s⟩
    · rw [if_neg (fun z => b1 z.2)] at g1
      refine sp_X7_nOrd11 a2b (mT_ge ht b1) (by exact hN1.1) (by exact hO.1) (by rfl) ⟨fun _ x5 => ?_, fun q => absurd rfl q⟩
      refine st_kw (K := K) (V := V) (M := M) ?_ (by omega) (by omega) h ?_
      · exact FR.ps (by repeat' (first | exact FR.rf | apply FR.upJ | apply FR.up | omega)) hK
      rw [e2]
      refine sp_X7_kwA (by decide) (by decide) ⟨fun _ x5 => ?_, fun q => absurd rfl q⟩
      have g2 := g1.trans (fbd_0 (by omega) (show ¬ K (p + 1 + 1) = 28 by omega))
      refine st_name (K := K) (V := V) (M := M) (k := 12) (n := nT4 T) (wd := wd) ?_ (by omega) e3 (by decide) ?_ ?_ ?_ h ?_
      · exact FR.ps (by repeat' (first | exact FR.rf | apply FR.upJ | apply FR.up | omega)) hK
      · rfl
      · exact hct.o (fun i _ => rfl)
      · exact wdO_o rfl hw
      rw [plx (K := K) (M := M) ht hn hw hM4 (by omega) e3 (by rw [Nat.add_sub_cancel]; exact e2)]
      have g3 := g2.trans (fbd_s (by omega))
      by_cases b3 : mT K wd T (p + 1 + 1 + 1) = -1
      · rw [if_pos ⟨e3, b3⟩] at g3
        refine sp_X7_name3 (by decide) (by decide) (by rw [b3]; decide) (k := 12) (by rfl) ?_
        exact ⟨fun q => absurd q (by decide), fun _ => hE 3 (p + 1 + 1 + 1) _ _ (g3) (by repeat' (first | exact FR.rf | apply FR.upJ | apply FR.up | omega)) up2_s⟩
      · rw [if_neg (fun z => b3 z.2)] at g3
        refine sp_X7_nBy a2b (mT_ge ht b3) (by exact hN1.1) (by exact hO.1) (by rfl) ⟨fun _ x5 => ?_, fun q => absurd rfl q⟩
        refine st_kw (K := K) (V := V) (M := M) ?_ (by omega) (by omega) h ?_
        · exact FR.ps (by repeat' (first | exact FR.rf | apply FR.upJ | apply FR.up | omega)) hK
        rw [e4]
        refine sp_X7_kwA (by decide) (by decide) ⟨fun _ x5 => ?_, fun q => absurd rfl q⟩
        have g4 := g3.trans (fbd_0 (by omega) (show ¬ K (p + 1 + 1 + 1 + 1) = 28 by omega))
        have key : ∀ (IA : MI) (x5 : Option Value), FR I J IA J → IA 10 0 = 0 → IA 10 7 = nI 11 → (∀ a, a ≠ 10 → a ≠ 16 → a ≠ 72 → a ≠ 73 → a ≠ 74 → a ≠ 75 → IA a = I a) → (∀ j, j ≠ nO T → IA 72 j = I 72 j ∧ IA 73 j = I 73 j ∧ IA 74 j = I 74 j ∧ IA 75 j = I 75 j) → IA 72 (nO T) = nI 1 → IA 73 (nO T) = mT K wd T (p + 1) → IA 74 (nO T) = mT K wd T (p + 3) → IA 75 (nO T) = -1 → (∀ t, t < p → IA 16 t = I 16 t) → (∀ t, p < t → t < q1 → K t = 28 → IA 16 t = mT K wd T t) → lerr K V wd T p = fbd K (mT K wd T) ((pL K p).2 - q1) q1 → VG Γ 0 0 12 [some (.ref 10), some (.ref 3), some (.ref 9), some (.ref 58), some (.int (nI q1)), x5] [] IA J P (Fnl Γ (Qi Q)) := by
          intro IA x5 hF f0 f7 fo fq f72 f73 f74 f75 fm fn fL
          have c58 : ∀ i, IA 58 i = I 58 i := fun i => congrFun (fo 58 (by decide) (by decide) (by decide) (by decide) (by decide) (by decide)) i
          have i9 : IA 9 = I 9 := fo 9 (by decide) (by decide) (by decide) (by decide) (by decide) (by decide)
          have hqe : (pL K p).2 - 1 = q2 := by omega
          refine st_kw (K := K) (V := V) (M := M) (hF.ps hK) (by omega) (by omega) h ?_
          rw [eW, i9]
          refine sp_X7_kw15 a2b (by exact (c58 4).trans hO.1) ⟨fun _ x5 => ?_, fun q => absurd rfl q⟩
          have fL2 := fL.trans (fbd_0 (show q1 < (pL K p).2 by omega) (by omega))
          rw [show (pL K p).2 - (q1 + 1) = (q2 - (q1 + 1)) + ((pL K p).2 - q2) by omega, fbd_app] at fL2
          have fE : fbd K (mT K wd T) ((pL K p).2 - q2) (q1 + 1 + (q2 - (q1 + 1))) = none := by
            rw [show (pL K p).2 - q2 = 0 + 1 by omega, fbd, if_neg (fun z => by rw [show q1 + 1 + (q2 - (q1 + 1)) = q2 by omega] at z; omega)]
            rfl
          rw [fE, Option.or_none] at fL2
          refine sc_rng (I0 := I) (s := q1 + 1) (e := q2) hK hw hn ht (FR.up (by omega) (FR.up (by omega) (FR.up (by omega) hF))) (fun i => by rw [up2_o (by decide), up2_o (by decide), up2_o (by decide), c58]) hRT (by omega) h (fun er t I' J' z => hE er t I' J' (fL2.trans z)) (fun z IB x5 hFB hIB => ?_) (q2 - (q1 + 1)) (q1 + 1) 15 _ _ (by omega) (Nat.le_refl _) (by simp [up2]) (by decide) (by decide) (fun z => absurd z (by omega)) (FR.up (by omega) (FR.up (by omega) (FR.up (by omega) hF))) ⟨fun _ _ _ _ => rfl, nI_0, fun _ _ => rfl, fun t' z1 z2 => absurd z2 (by omega)⟩ rfl
          obtain ⟨j1, j2, j3, j4⟩ := hIB
          have fin := fL2.trans z
          have d58 : ∀ i, IB 58 i = I 58 i := fun i => by rw [j1 58 i (by decide) (by omega), up2_o (by decide), up2_o (by decide), up2_o (by decide), c58]
          have d75 : IB 75 (nO T) = I 9 q1 := by rw [j1 75 _ (by decide) (by omega), up2_o (by decide), up2_s]
          have dO : ∀ a, a ≠ 10 → a ≠ 16 → a ≠ 72 → a ≠ 73 → a ≠ 74 → a ≠ 75 → IB a = I a := fun a a1 a2 a3 a4 a5 a6 => by
            funext j
            rw [j1 a j a2 (by omega), up2_o a1, up2_o a6, up2_o a1, fo a a1 a2 a3 a4 a5 a6]
          have dX : ∀ a j, a = 72 ∨ a = 73 ∨ a = 74 → IB a j = IA a j := fun a j ha => by
            rw [j1 a j (by omega) (by omega), up2_o (by omega), up2_o (by omega), up2_o (by omega)]
          have dY : ∀ j, j ≠ nO T → IB 75 j = IA 75 j := fun j hj => by
            rw [j1 75 j (by omega) (by omega), up2_o (by omega), up2_n hj, up2_o (by omega)]
          have i9b : IB 9 = I 9 := dO 9 (by decide) (by decide) (by decide) (by decide) (by decide) (by decide)
          have f7b : IB 10 7 = nI 11 := by rw [j1 10 7 (by decide) (by omega), up2_n (by decide), up2_o (by decide), up2_n (by decide)]; exact f7
          refine st_semi (K := K) (V := V) (M := M) (hFB.ps hK) (by omega) eQ h ?_
          rw [i9b]
          refine sp_X7_end11 a2b (by exact f7b) (by exact (d58 4).trans hO.1) (fun _ => ⟨?_, fun x5 => ?_⟩) (fun z => absurd (d75.symm.trans z) hca)
          · rw [up2_o (by decide), up2_o (by decide)]; exact j2
          rw [show q2 + 1 = (pL K p).2 by omega]
          refine κ fin _ _ _ (FR.up (by omega) (FR.up (by omega) hFB)) ?_ ?_ (fun t htp => ?_) (fun t t1 t2 t3 => ?_)
          · rw [lsT, if_neg (by omega), if_neg (by omega), if_neg (by omega), if_neg (by omega), if_neg a2]
            have s59 := dO 59 (by decide) (by decide) (by decide) (by decide) (by decide) (by decide)
            have s60 := dO 60 (by decide) (by decide) (by decide) (by decide) (by decide) (by decide)
            have s61 := dO 61 (by decide) (by decide) (by decide) (by decide) (by decide) (by decide)
            have s62 := dO 62 (by decide) (by decide) (by decide) (by decide) (by decide) (by decide)
            have s63 := dO 63 (by decide) (by decide) (by decide) (by decide) (by decide) (by decide)
            have s15 := dO 15 (by decide) (by decide) (by decide) (by decide) (by decide) (by decide)
            have s71 := dO 71 (by decide) (by decide) (by decide) (by decide) (by decide) (by decide)
            have s76 := dO 76 (by decide) (by decide) (by decide) (by decide) (by decide) (by decide)
            refine ⟨?_, ?_, ?_, ?_, ?_⟩
            · show pC wd (nC T) ((up2 (up2 IB 76 (nO T) (I 9 q2)) 58 4 (nI (nO T + 1))) 58 0) ((up2 (up2 IB 76 (nO T) (I 9 q2)) 58 4 (nI (nO T + 1))) 59) (J 11) (T 1) (T 11)
              rw [show (up2 (up2 IB 76 (nO T) (I 9 q2)) 58 4 (nI (nO T + 1))) 59 = I 59 by rw [up2_o (by decide), up2_o (by decide), s59], show (up2 (up2 IB 76 (nO T) (I 9 q2)) 58 4 (nI (nO T + 1))) 58 0 = I 58 0 by rw [up2_n (by decide), up2_o (by decide), d58]]
              exact ht.1
            · show pN wd (nN T) ((up2 (up2 IB 76 (nO T) (I 9 q2)) 58 4 (nI (nO T + 1))) 58 1) ((up2 (up2 IB 76 (nO T) (I 9 q2)) 58 4 (nI (nO T + 1))) 60) ((up2 (up2 IB 76 (nO T) (I 9 q2)) 58 4 (nI (nO T + 1))) 61) ((up2 (up2 IB 76 (nO T) (I 9 q2)) 58 4 (nI (nO T + 1))) 62) ((up2 (up2 IB 76 (nO T) (I 9 q2)) 58 4 (nI (nO T + 1))) 15) (J 12) (T 2) (T 3) (T 4) (T 12)
              rw [show (up2 (up2 IB 76 (nO T) (I 9 q2)) 58 4 (nI (nO T + 1))) 60 = I 60 by rw [up2_o (by decide), up2_o (by decide), s60], show (up2 (up2 IB 76 (nO T) (I 9 q2)) 58 4 (nI (nO T + 1))) 61 = I 61 by rw [up2_o (by decide), up2_o (by decide), s61], show (up2 (up2 IB 76 (nO T) (I 9 q2)) 58 4 (nI (nO T + 1))) 62 = I 62 by rw [up2_o (by decide), up2_o (by decide), s62], show (up2 (up2 IB 76 (nO T) (I 9 q2)) 58 4 (nI (nO T + 1))) 15 = I 15 by rw [up2_o (by decide), up2_o (by decide), s15], show (up2 (up2 IB 76 (nO T) (I 9 q2)) 58 4 (nI (nO T + 1))) 58 1 = I 58 1 by rw [up2_n (by decide), up2_o (by decide), d58]]
              exact ht.2.1
            · show pT2 wd (nT T) ((up2 (up2 IB 76 (nO T) (I 9 q2)) 58 4 (nI (nO T + 1))) 58 2) ((up2 (up2 IB 76 (nO T) (I 9 q2)) 58 4 (nI (nO T + 1))) 63) (up2 (up2 IB 76 (nO T) (I 9 q2)) 58 4 (nI (nO T + 1))) (J 13) (T 5) (T 13)
              rw [show (up2 (up2 IB 76 (nO T) (I 9 q2)) 58 4 (nI (nO T + 1))) 63 = I 63 by rw [up2_o (by decide), up2_o (by decide), s63], show (up2 (up2 IB 76 (nO T) (I 9 q2)) 58 4 (nI (nO T + 1))) 58 2 = I 58 2 by rw [up2_n (by decide), up2_o (by decide), d58]]
              exact pT2_ro ht.2.2.1 (fun k hk => by rw [up2_o (by omega), up2_o (by omega), dO (65 + k) (by omega) (by omega) (by omega) (by omega) (by omega) (by omega)])
            · show pK wd (nK T) ((up2 (up2 IB 76 (nO T) (I 9 q2)) 58 4 (nI (nO T + 1))) 58 3) ((up2 (up2 IB 76 (nO T) (I 9 q2)) 58 4 (nI (nO T + 1))) 71) (J 14) (T 6) (T 14)
              rw [show (up2 (up2 IB 76 (nO T) (I 9 q2)) 58 4 (nI (nO T + 1))) 71 = I 71 by rw [up2_o (by decide), up2_o (by decide), s71], show (up2 (up2 IB 76 (nO T) (I 9 q2)) 58 4 (nI (nO T + 1))) 58 3 = I 58 3 by rw [up2_n (by decide), up2_o (by decide), d58]]
              exact ht.2.2.2.1
            · show pO (ix (nI (nO T + 1))) _ _ _ _ _ _ _ _ _
              rw [ix_n (by omega)]
              refine pO_push (vb := mT K wd T (p + 1)) (vc := mT K wd T (p + 3)) (vd := I 9 q1) (ve := I 9 q2) ht.2.2.2.2 a2b (by rw [up2_s]) (fun k hk => ?_) (fun k hk => ?_) (fun k hk => ?_) (fun k hk => ?_) (fun k hk => ?_) (fun k hk => by simp [ctT, setRow, upd, show ¬ k = 5 * nO T + 2 by omega, show ¬ k = 5 * nO T + 1 by omega, show ¬ k = 5 * nO T by omega]) (fun k hk => by simp [ctT, setRow, upd, Nat.ne_of_lt hk]) (fun k hk => by simp [ctT, setRow, upd, Nat.ne_of_lt hk]) ?_ ?_ (by simp [ctT, setRow, upd]) ?_ (by simp [ctT, setRow, upd]) ?_ (by simp [ctT, setRow, upd, hq1]) ?_ (by simp [ctT, setRow, upd, hqe])
              · simp [up2, dX 72 k (by omega), (fq k (Nat.ne_of_lt hk)).1]
              · simp [up2, dX 73 k (by omega), (fq k (Nat.ne_of_lt hk)).2.1]
              · simp [up2, dX 74 k (by omega), (fq k (Nat.ne_of_lt hk)).2.2.1]
              · simp [up2, dY k (Nat.ne_of_lt hk), (fq k (Nat.ne_of_lt hk)).2.2.2]
              · simp [up2, s76, Nat.ne_of_lt hk]
              · simp [ctT, setRow, upd, show ¬ 5 * nO T = 5 * nO T + 2 by omega, show ¬ 5 * nO T = 5 * nO T + 1 by omega, up2, dX 72 _ (Or.inl rfl), f72, e0]
                all_goals decide
              · simp [up2, dX 73 _ (Or.inr (Or.inl rfl)), f73]
              · simp [up2, dX 74 _ (Or.inr (Or.inr rfl)), f74]
              · simp [up2, d75]
              · simp [up2]
          · rw [up2_o (by decide), up2_o (by decide)]; exact j2
          · rw [up2_o (by decide), up2_o (by decide), j3 t (by omega), up2_o (by decide), up2_o (by decide), up2_o (by decide)]
            exact fm t htp
          · rw [up2_o (by decide), up2_o (by decide)]
            rcases (show t < q1 ∨ t = q1 ∨ (q1 + 1 ≤ t ∧ t < q2) ∨ t = q2 by omega) with z | z | z | z
            · rw [j3 t (by omega), up2_o (by decide), up2_o (by decide), up2_o (by decide)]
              exact fn t t1 z t3
            · subst z; omega
            · exact j4 t z.1 z.2 t3
            · subst z; omega
        have g5 := g4
        rw [show (pL K p).2 - (p + 1 + 1 + 1 + 1 + 1) = (q1 - (p + 5)) + ((pL K p).2 - q1) by omega, fbd_app] at g5
        rw [show p + 1 + 1 + 1 + 1 + 1 + (q1 - (p + 5)) = q1 by omega] at g5
        refine sc_rng (I0 := I) (s := p + 5) (e := q1) hK hw hn ht (by repeat' (first | exact FR.rf | apply FR.upJ | apply FR.up | omega)) (fun i => by rfl) hRS (by omega) h (fun er t I' J' z => hE er t I' J' (g5.trans (by rw [show fbd K (mT K wd T) (q1 - (p + 5)) (p + 1 + 1 + 1 + 1 + 1) = some (er, t) from z]; rfl))) (fun z IB x5 hFB hIB => ?_) (q1 - (p + 5)) (p + 5) 13 _ _ (by omega) (Nat.le_refl _) (by simp [up2]) (by decide) (by decide) (fun z => absurd z (by omega)) (by repeat' (first | exact FR.rf | apply FR.upJ | apply FR.up | omega)) ⟨fun _ _ _ _ => rfl, nI_0, fun _ _ => rfl, fun t' z1 z2 => absurd z2 (by omega)⟩ rfl
        obtain ⟨j1, j2, j3, j4⟩ := hIB
        rw [show fbd K (mT K wd T) (q1 - (p + 5)) (p + 1 + 1 + 1 + 1 + 1) = none from z, Option.none_or] at g5
        refine key IB x5 hFB j2 ?_ (fun a a1 a2 a3 a4 a5 a6 => ?_) (fun j hj => ⟨?_, ?_, ?_, ?_⟩) ?_ ?_ ?_ ?_ (fun t htp => ?_) (fun t t1 t2 t3 => ?_) g5
        · rw [j1 10 7 (by decide) (by omega)]; rfl
        · funext j
          rw [j1 a j a2 (by omega)]
          repeat rw [up2_o (by assumption)]
        · rw [j1 72 j (by decide) (by omega)]; simp [up2, hj]
        · rw [j1 73 j (by decide) (by omega)]; simp [up2, hj]
        · rw [j1 74 j (by decide) (by omega)]; simp [up2, hj]
        · rw [j1 75 j (by decide) (by omega)]; simp [up2, hj]
        · rw [j1 72 _ (by decide) (by omega)]; simp [up2]
          all_goals decide
        · rw [j1 73 _ (by decide) (by omega)]; simp [up2]
        · rw [j1 74 _ (by decide) (by omega)]; simp [up2]
        · rw [j1 75 _ (by decide) (by omega)]; simp [up2]
        · rw [j3 t (by omega)]; simp [up2, show ¬ t = p + 1 by omega, show ¬ t = p + 1 + 1 + 1 by omega]
        · rcases (show t = p + 1 ∨ t = p + 1 + 1 ∨ t = p + 1 + 1 + 1 ∨ t = p + 1 + 1 + 1 + 1 ∨ p + 5 ≤ t by omega) with r | r | r | r | r
          · subst r; rw [j3 _ (by omega)]; simp [up2]
          · subst r; omega
          · subst r; rw [j3 _ (by omega)]; simp [up2]
          · subst r; omega
          · exact j4 t r t2 t3
set_option maxRecDepth 100000 in
set_option maxHeartbeats 400000 in
theorem ln_11 {Γ : Cx} {K wd : Nat → Nat} {V : Nat → Int32} {M d p : Nat} {T I : MI} {J : MJ} {P : MP} {Q : Int32 → MI → MJ → MP → Prop} (hK : psO K V M I J) (hw : wdO K wd M J) (hV : vO K V M) (hn : nmO K M T) (ht : tcl wd T I J) (e0 : K p = 11) (e1 : K (p + 1) = 28) (e2 : K (p + 1 + 1) = 12) (e3 : K (p + 1 + 1 + 1) = 28) (e4 : K (p + 1 + 1 + 1 + 1) = 13) {q1 : Nat} (hq1 : q1L K p = q1) (hq5 : p + 5 ≤ q1) (hRS : okR K (p + 5) q1) (eQ : K q1 = 34) (hend : (pL K p).2 = q1 + 1) (hp : q1 < M) (hE : ∀ e t I' J', lerr K V wd T p = some (e, t) → FR I J I' J' → I' 10 0 = nI e → Q (nI t) I' J' P) (κ : lerr K V wd T p = none → ∀ I' J' x5, FR I J I' J' → tcl wd (lsT K V wd (I 9) T p) I' J' → I' 10 0 = 0 → (∀ t, t < p → I' 16 t = I 16 t) → (∀ t, p < t → t < (pL K p).2 → K t = 28 → I' 16 t = mT K wd T t) → VG Γ 0 0 12 [some (.ref 10), some (.ref 3), some (.ref 9), some (.ref 58), some (.int (nI ((pL K p).2))), x5] [] I' J' P (Fnl Γ (Qi Q))) (h : Vc RX7 cX7_firstFault 6 (some .int) (d + 5) Γ) {x5 : Option Value} : VG Γ 0 0 12 [some (.ref 10), some (.ref 3), some (.ref 9), some (.ref 58), some (.int (nI p)), x5] [] I J P (Fnl Γ (Qi Q)) := by
  have hM4 := hK.2.2.2.1
  have hct := ht.ct
  have hO := ht.2.2.2.2.1
  have hN1 := ht.2.1.1
  have k5 := hK.2.2.2.2
  have hb := nT4_le ht
  refine st_kw hK (by omega) (by omega) h ?_
  rw [e0]
  refine sp_X7_kw11 hO.2 hO.1 (fun qz => ?_) (fun qz => ?_)
  · have a2 : nO T = 20 := by have := hO.2; omega
    exact ⟨fun q => absurd q (by decide), fun _ => hE 4 p _ _ (by rw [lerr, if_neg (by omega), if_neg (by omega), if_neg (by omega), if_neg (by omega)]; simp [er, a2]) (by repeat' (first | exact FR.rf | apply FR.upJ | apply FR.up | omega)) up2_s⟩
  · have a2b : nO T < 20 := qz
    have a2 : ¬ nO T = 20 := by omega
    have eL : lerr K V wd T p = fbd K (mT K wd T) ((pL K p).2 - (p + 1)) (p + 1) := by rw [lerr, if_neg (by omega), if_neg (by omega), if_neg (by omega), if_neg (by omega)]; simp [er, a2]
    refine ⟨fun _ x5 => ?_, fun q => absurd rfl q⟩
    refine st_name (K := K) (V := V) (M := M) (k := 11) (n := nT4 T) (wd := wd) ?_ (by omega) e1 (by decide) ?_ ?_ ?_ h ?_
    · exact FR.ps (by repeat' (first | exact FR.rf | apply FR.upJ | apply FR.up | omega)) hK
    · rfl
    · exact hct.o (fun i _ => rfl)
    · exact wdO_o rfl hw
    rw [plx (K := K) (M := M) ht hn hw hM4 (by omega) e1 (by rw [Nat.add_sub_cancel]; exact e0)]
    have g1 := eL.trans (fbd_s (by omega))
    by_cases b1 : mT K wd T (p + 1) = -1
    · rw [if_pos ⟨e1, b1⟩] at g1
      refine sp_X7_name3 (by decide) (by decide) (by rw [b1]; decide) (k := 11) (by rfl) ?_
      exact ⟨fun q => absurd q (by decide), fun _ => hE 3 (p + 1) _ _ (g1) (by repeat' (first | exact FR.rf | apply FR.upJ | apply FR.up | omega)) up2_s⟩
    · rw [if_neg (fun z => b1 z.2)] at g1
      refine sp_X7_nOrd11 a2b (mT_ge ht b1) (by exact hN1.1) (by exact hO.1) (by rfl) ⟨fun _ x5 => ?_, fun q => absurd rfl q⟩
      refine st_kw (K := K) (V := V) (M := M) ?_ (by omega) (by omega) h ?_
      · exact FR.ps (by repeat' (first | exact FR.rf | apply FR.upJ | apply FR.up | omega)) hK
      rw [e2]
      refine sp_X7_kwA (by decide) (by decide) ⟨fun _ x5 => ?_, fun q => absurd rfl q⟩
      have g2 := g1.trans (fbd_0 (by omega) (show ¬ K (p + 1 + 1) = 28 by omega))
      refine st_name (K := K) (V := V) (M := M) (k := 12) (n := nT4 T) (wd := wd) ?_ (by omega) e3 (by decide) ?_ ?_ ?_ h ?_
      · exact FR.ps (by repeat' (first | exact FR.rf | apply FR.upJ | apply FR.up | omega)) hK
      · rfl
      · exact hct.o (fun i _ => rfl)
      · exact wdO_o rfl hw
      rw [plx (K := K) (M := M) ht hn hw hM4 (by omega) e3 (by rw [Nat.add_sub_cancel]; exact e2)]
      have g3 := g2.trans (fbd_s (by omega))
      by_cases b3 : mT K wd T (p + 1 + 1 + 1) = -1
      · rw [if_pos ⟨e3, b3⟩] at g3
        refine sp_X7_name3 (by decide) (by decide) (by rw [b3]; decide) (k := 12) (by rfl) ?_
        exact ⟨fun q => absurd q (by decide), fun _ => hE 3 (p + 1 + 1 + 1) _ _ (g3) (by repeat' (first | exact FR.rf | apply FR.upJ | apply FR.up | omega)) up2_s⟩
      · rw [if_neg (fun z => b3 z.2)] at g3
        refine sp_X7_nBy a2b (mT_ge ht b3) (by exact hN1.1) (by exact hO.1) (by rfl) ⟨fun _ x5 => ?_, fun q => absurd rfl q⟩
        refine st_kw (K := K) (V := V) (M := M) ?_ (by omega) (by omega) h ?_
        · exact FR.ps (by repeat' (first | exact FR.rf | apply FR.upJ | apply FR.up | omega)) hK
        rw [e4]
        refine sp_X7_kwA (by decide) (by decide) ⟨fun _ x5 => ?_, fun q => absurd rfl q⟩
        have g4 := g3.trans (fbd_0 (by omega) (show ¬ K (p + 1 + 1 + 1 + 1) = 28 by omega))
        have key : ∀ (IA : MI) (x5 : Option Value), FR I J IA J → IA 10 0 = 0 → IA 10 7 = nI 11 → (∀ a, a ≠ 10 → a ≠ 16 → a ≠ 72 → a ≠ 73 → a ≠ 74 → a ≠ 75 → IA a = I a) → (∀ j, j ≠ nO T → IA 72 j = I 72 j ∧ IA 73 j = I 73 j ∧ IA 74 j = I 74 j ∧ IA 75 j = I 75 j) → IA 72 (nO T) = nI 1 → IA 73 (nO T) = mT K wd T (p + 1) → IA 74 (nO T) = mT K wd T (p + 3) → IA 75 (nO T) = -1 → (∀ t, t < p → IA 16 t = I 16 t) → (∀ t, p < t → t < q1 → K t = 28 → IA 16 t = mT K wd T t) → lerr K V wd T p = fbd K (mT K wd T) ((pL K p).2 - q1) q1 → VG Γ 0 0 12 [some (.ref 10), some (.ref 3), some (.ref 9), some (.ref 58), some (.int (nI q1)), x5] [] IA J P (Fnl Γ (Qi Q)) := by
          intro IA x5 hF f0 f7 fo fq f72 f73 f74 f75 fm fn fL
          have c58 : ∀ i, IA 58 i = I 58 i := fun i => congrFun (fo 58 (by decide) (by decide) (by decide) (by decide) (by decide) (by decide)) i
          have i9 : IA 9 = I 9 := fo 9 (by decide) (by decide) (by decide) (by decide) (by decide) (by decide)
          have hqe : (pL K p).2 - 1 = q1 := by omega
          have fin : lerr K V wd T p = none := by
            rw [fL, show (pL K p).2 - q1 = 0 + 1 by omega, fbd, if_neg (fun z => by omega)]
            rfl
          refine st_semi (K := K) (V := V) (M := M) (hF.ps hK) (by omega) eQ h ?_
          rw [i9]
          refine sp_X7_end11 a2b (by exact f7) (by exact (c58 4).trans hO.1) (fun z => absurd f75 z) (fun _ => ⟨?_, fun x5 => ?_⟩)
          · rw [up2_o (by decide), up2_o (by decide), up2_o (by decide)]; exact f0
          rw [show q1 + 1 = (pL K p).2 by omega]
          refine κ fin _ _ _ (FR.up (by omega) (FR.up (by omega) (FR.up (by omega) hF))) ?_ ?_ (fun t htp => ?_) (fun t t1 t2 t3 => ?_)
          · rw [lsT, if_neg (by omega), if_neg (by omega), if_neg (by omega), if_neg (by omega), if_neg a2]
            have s59 := fo 59 (by decide) (by decide) (by decide) (by decide) (by decide) (by decide)
            have s60 := fo 60 (by decide) (by decide) (by decide) (by decide) (by decide) (by decide)
            have s61 := fo 61 (by decide) (by decide) (by decide) (by decide) (by decide) (by decide)
            have s62 := fo 62 (by decide) (by decide) (by decide) (by decide) (by decide) (by decide)
            have s63 := fo 63 (by decide) (by decide) (by decide) (by decide) (by decide) (by decide)
            have s15 := fo 15 (by decide) (by decide) (by decide) (by decide) (by decide) (by decide)
            have s71 := fo 71 (by decide) (by decide) (by decide) (by decide) (by decide) (by decide)
            have s76 := fo 76 (by decide) (by decide) (by decide) (by decide) (by decide) (by decide)
            refine ⟨?_, ?_, ?_, ?_, ?_⟩
            · show pC wd (nC T) ((up2 (up2 (up2 IA 76 (nO T) (I 9 q1)) 75 (nO T) (I 9 q1)) 58 4 (nI (nO T + 1))) 58 0) ((up2 (up2 (up2 IA 76 (nO T) (I 9 q1)) 75 (nO T) (I 9 q1)) 58 4 (nI (nO T + 1))) 59) (J 11) (T 1) (T 11)
              rw [show (up2 (up2 (up2 IA 76 (nO T) (I 9 q1)) 75 (nO T) (I 9 q1)) 58 4 (nI (nO T + 1))) 59 = I 59 by rw [up2_o (by decide), up2_o (by decide), up2_o (by decide), s59], show (up2 (up2 (up2 IA 76 (nO T) (I 9 q1)) 75 (nO T) (I 9 q1)) 58 4 (nI (nO T + 1))) 58 0 = I 58 0 by rw [up2_n (by decide), up2_o (by decide), up2_o (by decide), c58]]
              exact ht.1
            · show pN wd (nN T) ((up2 (up2 (up2 IA 76 (nO T) (I 9 q1)) 75 (nO T) (I 9 q1)) 58 4 (nI (nO T + 1))) 58 1) ((up2 (up2 (up2 IA 76 (nO T) (I 9 q1)) 75 (nO T) (I 9 q1)) 58 4 (nI (nO T + 1))) 60) ((up2 (up2 (up2 IA 76 (nO T) (I 9 q1)) 75 (nO T) (I 9 q1)) 58 4 (nI (nO T + 1))) 61) ((up2 (up2 (up2 IA 76 (nO T) (I 9 q1)) 75 (nO T) (I 9 q1)) 58 4 (nI (nO T + 1))) 62) ((up2 (up2 (up2 IA 76 (nO T) (I 9 q1)) 75 (nO T) (I 9 q1)) 58 4 (nI (nO T + 1))) 15) (J 12) (T 2) (T 3) (T 4) (T 12)
              rw [show (up2 (up2 (up2 IA 76 (nO T) (I 9 q1)) 75 (nO T) (I 9 q1)) 58 4 (nI (nO T + 1))) 60 = I 60 by rw [up2_o (by decide), up2_o (by decide), up2_o (by decide), s60], show (up2 (up2 (up2 IA 76 (nO T) (I 9 q1)) 75 (nO T) (I 9 q1)) 58 4 (nI (nO T + 1))) 61 = I 61 by rw [up2_o (by decide), up2_o (by decide), up2_o (by decide), s61], show (up2 (up2 (up2 IA 76 (nO T) (I 9 q1)) 75 (nO T) (I 9 q1)) 58 4 (nI (nO T + 1))) 62 = I 62 by rw [up2_o (by decide), up2_o (by decide), up2_o (by decide), s62], show (up2 (up2 (up2 IA 76 (nO T) (I 9 q1)) 75 (nO T) (I 9 q1)) 58 4 (nI (nO T + 1))) 15 = I 15 by rw [up2_o (by decide), up2_o (by decide), up2_o (by decide), s15], show (up2 (up2 (up2 IA 76 (nO T) (I 9 q1)) 75 (nO T) (I 9 q1)) 58 4 (nI (nO T + 1))) 58 1 = I 58 1 by rw [up2_n (by decide), up2_o (by decide), up2_o (by decide), c58]]
              exact ht.2.1
            · show pT2 wd (nT T) ((up2 (up2 (up2 IA 76 (nO T) (I 9 q1)) 75 (nO T) (I 9 q1)) 58 4 (nI (nO T + 1))) 58 2) ((up2 (up2 (up2 IA 76 (nO T) (I 9 q1)) 75 (nO T) (I 9 q1)) 58 4 (nI (nO T + 1))) 63) (up2 (up2 (up2 IA 76 (nO T) (I 9 q1)) 75 (nO T) (I 9 q1)) 58 4 (nI (nO T + 1))) (J 13) (T 5) (T 13)
              rw [show (up2 (up2 (up2 IA 76 (nO T) (I 9 q1)) 75 (nO T) (I 9 q1)) 58 4 (nI (nO T + 1))) 63 = I 63 by rw [up2_o (by decide), up2_o (by decide), up2_o (by decide), s63], show (up2 (up2 (up2 IA 76 (nO T) (I 9 q1)) 75 (nO T) (I 9 q1)) 58 4 (nI (nO T + 1))) 58 2 = I 58 2 by rw [up2_n (by decide), up2_o (by decide), up2_o (by decide), c58]]
              exact pT2_ro ht.2.2.1 (fun k hk => by rw [up2_o (by omega), up2_o (by omega), up2_o (by omega), fo (65 + k) (by omega) (by omega) (by omega) (by omega) (by omega) (by omega)])
            · show pK wd (nK T) ((up2 (up2 (up2 IA 76 (nO T) (I 9 q1)) 75 (nO T) (I 9 q1)) 58 4 (nI (nO T + 1))) 58 3) ((up2 (up2 (up2 IA 76 (nO T) (I 9 q1)) 75 (nO T) (I 9 q1)) 58 4 (nI (nO T + 1))) 71) (J 14) (T 6) (T 14)
              rw [show (up2 (up2 (up2 IA 76 (nO T) (I 9 q1)) 75 (nO T) (I 9 q1)) 58 4 (nI (nO T + 1))) 71 = I 71 by rw [up2_o (by decide), up2_o (by decide), up2_o (by decide), s71], show (up2 (up2 (up2 IA 76 (nO T) (I 9 q1)) 75 (nO T) (I 9 q1)) 58 4 (nI (nO T + 1))) 58 3 = I 58 3 by rw [up2_n (by decide), up2_o (by decide), up2_o (by decide), c58]]
              exact ht.2.2.2.1
            · show pO (ix (nI (nO T + 1))) _ _ _ _ _ _ _ _ _
              rw [ix_n (by omega)]
              refine pO_push (vb := mT K wd T (p + 1)) (vc := mT K wd T (p + 3)) (vd := I 9 q1) (ve := I 9 q1) ht.2.2.2.2 a2b (by rw [up2_s]) (fun k hk => ?_) (fun k hk => ?_) (fun k hk => ?_) (fun k hk => ?_) (fun k hk => ?_) (fun k hk => by simp [ctT, setRow, upd, show ¬ k = 5 * nO T + 2 by omega, show ¬ k = 5 * nO T + 1 by omega, show ¬ k = 5 * nO T by omega]) (fun k hk => by simp [ctT, setRow, upd, Nat.ne_of_lt hk]) (fun k hk => by simp [ctT, setRow, upd, Nat.ne_of_lt hk]) ?_ ?_ (by simp [ctT, setRow, upd]) ?_ (by simp [ctT, setRow, upd]) ?_ (by simp [ctT, setRow, upd, hq1]) ?_ (by simp [ctT, setRow, upd, hqe])
              · simp [up2, (fq k (Nat.ne_of_lt hk)).1]
              · simp [up2, (fq k (Nat.ne_of_lt hk)).2.1]
              · simp [up2, (fq k (Nat.ne_of_lt hk)).2.2.1]
              · simp [up2, (fq k (Nat.ne_of_lt hk)).2.2.2, Nat.ne_of_lt hk]
              · simp [up2, s76, Nat.ne_of_lt hk]
              · simp [ctT, setRow, upd, show ¬ 5 * nO T = 5 * nO T + 2 by omega, show ¬ 5 * nO T = 5 * nO T + 1 by omega, up2, f72, e0]
                all_goals decide
              · simp [up2, f73]
              · simp [up2, f74]
              · simp [up2]
              · simp [up2]
          · rw [up2_o (by decide), up2_o (by decide), up2_o (by decide)]; exact f0
          · rw [up2_o (by decide), up2_o (by decide), up2_o (by decide)]; exact fm t htp
          · rw [up2_o (by decide), up2_o (by decide), up2_o (by decide)]
            rcases Nat.lt_or_ge t q1 with z | z
            · exact fn t t1 z t3
            · obtain rfl : t = q1 := by omega
              omega
        have g5 := g4
        rw [show (pL K p).2 - (p + 1 + 1 + 1 + 1 + 1) = (q1 - (p + 5)) + ((pL K p).2 - q1) by omega, fbd_app] at g5
        rw [show p + 1 + 1 + 1 + 1 + 1 + (q1 - (p + 5)) = q1 by omega] at g5
        refine sc_rng (I0 := I) (s := p + 5) (e := q1) hK hw hn ht (by repeat' (first | exact FR.rf | apply FR.upJ | apply FR.up | omega)) (fun i => by rfl) hRS (by omega) h (fun er t I' J' z => hE er t I' J' (g5.trans (by rw [show fbd K (mT K wd T) (q1 - (p + 5)) (p + 1 + 1 + 1 + 1 + 1) = some (er, t) from z]; rfl))) (fun z IB x5 hFB hIB => ?_) (q1 - (p + 5)) (p + 5) 13 _ _ (by omega) (Nat.le_refl _) (by simp [up2]) (by decide) (by decide) (fun z => absurd z (by omega)) (by repeat' (first | exact FR.rf | apply FR.upJ | apply FR.up | omega)) ⟨fun _ _ _ _ => rfl, nI_0, fun _ _ => rfl, fun t' z1 z2 => absurd z2 (by omega)⟩ rfl
        obtain ⟨j1, j2, j3, j4⟩ := hIB
        rw [show fbd K (mT K wd T) (q1 - (p + 5)) (p + 1 + 1 + 1 + 1 + 1) = none from z, Option.none_or] at g5
        refine key IB x5 hFB j2 ?_ (fun a a1 a2 a3 a4 a5 a6 => ?_) (fun j hj => ⟨?_, ?_, ?_, ?_⟩) ?_ ?_ ?_ ?_ (fun t htp => ?_) (fun t t1 t2 t3 => ?_) g5
        · rw [j1 10 7 (by decide) (by omega)]; rfl
        · funext j
          rw [j1 a j a2 (by omega)]
          repeat rw [up2_o (by assumption)]
        · rw [j1 72 j (by decide) (by omega)]; simp [up2, hj]
        · rw [j1 73 j (by decide) (by omega)]; simp [up2, hj]
        · rw [j1 74 j (by decide) (by omega)]; simp [up2, hj]
        · rw [j1 75 j (by decide) (by omega)]; simp [up2, hj]
        · rw [j1 72 _ (by decide) (by omega)]; simp [up2]
          all_goals decide
        · rw [j1 73 _ (by decide) (by omega)]; simp [up2]
        · rw [j1 74 _ (by decide) (by omega)]; simp [up2]
        · rw [j1 75 _ (by decide) (by omega)]; simp [up2]
        · rw [j3 t (by omega)]; simp [up2, show ¬ t = p + 1 by omega, show ¬ t = p + 1 + 1 + 1 by omega]
        · rcases (show t = p + 1 ∨ t = p + 1 + 1 ∨ t = p + 1 + 1 + 1 ∨ t = p + 1 + 1 + 1 + 1 ∨ p + 5 ≤ t by omega) with r | r | r | r | r
          · subst r; rw [j3 _ (by omega)]; simp [up2]
          · subst r; omega
          · subst r; rw [j3 _ (by omega)]; simp [up2]
          · subst r; omega
          · exact j4 t r t2 t3
set_option maxRecDepth 100000 in
set_option maxHeartbeats 400000 in
theorem ln_14w {Γ : Cx} {K wd : Nat → Nat} {V : Nat → Int32} {M d p : Nat} {T I : MI} {J : MJ} {P : MP} {Q : Int32 → MI → MJ → MP → Prop} (hK : psO K V M I J) (hw : wdO K wd M J) (hV : vO K V M) (hn : nmO K M T) (ht : tcl wd T I J) (e0 : K p = 14) (e1 : K (p + 1) = 28) (e2 : K (p + 1 + 1) = 12) (e3 : K (p + 1 + 1 + 1) = 28) {q1 : Nat} (hq1 : q1 = p + 1 + 1 + 1 + 1) (hq1b : q1L K p = q1) {q2 : Nat} (eW : K q1 = 15) (hq2 : q1 + 1 ≤ q2) (hRT : okR K (q1 + 1) q2) (eQ : K q2 = 34) (hend : (pL K p).2 = q2 + 1) (hp : q2 < M) (hca : ¬ I 9 q1 = -1) (hE : ∀ e t I' J', lerr K V wd T p = some (e, t) → FR I J I' J' → I' 10 0 = nI e → Q (nI t) I' J' P) (κ : lerr K V wd T p = none → ∀ I' J' x5, FR I J I' J' → tcl wd (lsT K V wd (I 9) T p) I' J' → I' 10 0 = 0 → (∀ t, t < p → I' 16 t = I 16 t) → (∀ t, p < t → t < (pL K p).2 → K t = 28 → I' 16 t = mT K wd T t) → VG Γ 0 0 12 [some (.ref 10), some (.ref 3), some (.ref 9), some (.ref 58), some (.int (nI ((pL K p).2))), x5] [] I' J' P (Fnl Γ (Qi Q))) (h : Vc RX7 cX7_firstFault 6 (some .int) (d + 5) Γ) {x5 : Option Value} : VG Γ 0 0 12 [some (.ref 10), some (.ref 3), some (.ref 9), some (.ref 58), some (.int (nI p)), x5] [] I J P (Fnl Γ (Qi Q)) := by
  have hM4 := hK.2.2.2.1
  have hct := ht.ct
  have hO := ht.2.2.2.2.1
  have hN1 := ht.2.1.1
  have k5 := hK.2.2.2.2
  have hb := nT4_le ht
  refine st_kw hK (by omega) (by omega) h ?_
  rw [e0]
  refine sp_X7_kw14 hO.2 hO.1 (fun qz => ?_) (fun qz => ?_)
  · have a2 : nO T = 20 := by have := hO.2; omega
    exact ⟨fun q => absurd q (by decide), fun _ => hE 4 p _ _ (by rw [lerr, if_neg (by omega), if_neg (by omega), if_neg (by omega), if_neg (by omega)]; simp [er, a2]) (by repeat' (first | exact FR.rf | apply FR.upJ | apply FR.up | omega)) up2_s⟩
  · have a2b : nO T < 20 := qz
    have a2 : ¬ nO T = 20 := by omega
    have eL : lerr K V wd T p = fbd K (mT K wd T) ((pL K p).2 - (p + 1)) (p + 1) := by rw [lerr, if_neg (by omega), if_neg (by omega), if_neg (by omega), if_neg (by omega)]; simp [er, a2]
    refine ⟨fun _ x5 => ?_, fun q => absurd rfl q⟩
    refine st_name (K := K) (V := V) (M := M) (k := 14) (n := nT4 T) (wd := wd) ?_ (by omega) e1 (by decide) ?_ ?_ ?_ h ?_
    · exact FR.ps (by repeat' (first | exact FR.rf | apply FR.upJ | apply FR.up | omega)) hK
    · rfl
    · exact hct.o (fun i _ => rfl)
    · exact wdO_o rfl hw
    rw [plx (K := K) (M := M) ht hn hw hM4 (by omega) e1 (by rw [Nat.add_sub_cancel]; exact e0)]
    have g1 := eL.trans (fbd_s (by omega))
    by_cases b1 : mT K wd T (p + 1) = -1
    · rw [if_pos ⟨e1, b1⟩] at g1
      refine sp_X7_name3 (by decide) (by decide) (by rw [b1]; decide) (k := 14) (by rfl) ?_
      exact ⟨fun q => absurd q (by decide), fun _ => hE 3 (p + 1) _ _ (g1) (by repeat' (first | exact FR.rf | apply FR.upJ | apply FR.up | omega)) up2_s⟩
    · rw [if_neg (fun z => b1 z.2)] at g1
      refine sp_X7_nOrd14 a2b (mT_ge ht b1) (by exact hN1.1) (by exact hO.1) (by rfl) ⟨fun _ x5 => ?_, fun q => absurd rfl q⟩
      refine st_kw (K := K) (V := V) (M := M) ?_ (by omega) (by omega) h ?_
      · exact FR.ps (by repeat' (first | exact FR.rf | apply FR.upJ | apply FR.up | omega)) hK
      rw [e2]
      refine sp_X7_kwA (by decide) (by decide) ⟨fun _ x5 => ?_, fun q => absurd rfl q⟩
      have g2 := g1.trans (fbd_0 (by omega) (show ¬ K (p + 1 + 1) = 28 by omega))
      refine st_name (K := K) (V := V) (M := M) (k := 12) (n := nT4 T) (wd := wd) ?_ (by omega) e3 (by decide) ?_ ?_ ?_ h ?_
      · exact FR.ps (by repeat' (first | exact FR.rf | apply FR.upJ | apply FR.up | omega)) hK
      · rfl
      · exact hct.o (fun i _ => rfl)
      · exact wdO_o rfl hw
      rw [plx (K := K) (M := M) ht hn hw hM4 (by omega) e3 (by rw [Nat.add_sub_cancel]; exact e2)]
      have g3 := g2.trans (fbd_s (by omega))
      by_cases b3 : mT K wd T (p + 1 + 1 + 1) = -1
      · rw [if_pos ⟨e3, b3⟩] at g3
        refine sp_X7_name3 (by decide) (by decide) (by rw [b3]; decide) (k := 12) (by rfl) ?_
        exact ⟨fun q => absurd q (by decide), fun _ => hE 3 (p + 1 + 1 + 1) _ _ (g3) (by repeat' (first | exact FR.rf | apply FR.upJ | apply FR.up | omega)) up2_s⟩
      · rw [if_neg (fun z => b3 z.2)] at g3
        refine sp_X7_nBy a2b (mT_ge ht b3) (by exact hN1.1) (by exact hO.1) (by rfl) ⟨fun _ x5 => ?_, fun q => absurd rfl q⟩
        have key : ∀ (IA : MI) (x5 : Option Value), FR I J IA J → IA 10 0 = 0 → IA 10 7 = nI 14 → (∀ a, a ≠ 10 → a ≠ 16 → a ≠ 72 → a ≠ 73 → a ≠ 74 → a ≠ 75 → IA a = I a) → (∀ j, j ≠ nO T → IA 72 j = I 72 j ∧ IA 73 j = I 73 j ∧ IA 74 j = I 74 j ∧ IA 75 j = I 75 j) → IA 72 (nO T) = nI 0 → IA 73 (nO T) = mT K wd T (p + 1) → IA 74 (nO T) = mT K wd T (p + 3) → IA 75 (nO T) = -1 → (∀ t, t < p → IA 16 t = I 16 t) → (∀ t, p < t → t < q1 → K t = 28 → IA 16 t = mT K wd T t) → lerr K V wd T p = fbd K (mT K wd T) ((pL K p).2 - q1) q1 → VG Γ 0 0 12 [some (.ref 10), some (.ref 3), some (.ref 9), some (.ref 58), some (.int (nI q1)), x5] [] IA J P (Fnl Γ (Qi Q)) := by
          intro IA x5 hF f0 f7 fo fq f72 f73 f74 f75 fm fn fL
          have c58 : ∀ i, IA 58 i = I 58 i := fun i => congrFun (fo 58 (by decide) (by decide) (by decide) (by decide) (by decide) (by decide)) i
          have i9 : IA 9 = I 9 := fo 9 (by decide) (by decide) (by decide) (by decide) (by decide) (by decide)
          have hqe : (pL K p).2 - 1 = q2 := by omega
          refine st_kw (K := K) (V := V) (M := M) (hF.ps hK) (by omega) (by omega) h ?_
          rw [eW, i9]
          refine sp_X7_kw15 a2b (by exact (c58 4).trans hO.1) ⟨fun _ x5 => ?_, fun q => absurd rfl q⟩
          have fL2 := fL.trans (fbd_0 (show q1 < (pL K p).2 by omega) (by omega))
          rw [show (pL K p).2 - (q1 + 1) = (q2 - (q1 + 1)) + ((pL K p).2 - q2) by omega, fbd_app] at fL2
          have fE : fbd K (mT K wd T) ((pL K p).2 - q2) (q1 + 1 + (q2 - (q1 + 1))) = none := by
            rw [show (pL K p).2 - q2 = 0 + 1 by omega, fbd, if_neg (fun z => by rw [show q1 + 1 + (q2 - (q1 + 1)) = q2 by omega] at z; omega)]
            rfl
          rw [fE, Option.or_none] at fL2
          refine sc_rng (I0 := I) (s := q1 + 1) (e := q2) hK hw hn ht (FR.up (by omega) (FR.up (by omega) (FR.up (by omega) hF))) (fun i => by rw [up2_o (by decide), up2_o (by decide), up2_o (by decide), c58]) hRT (by omega) h (fun er t I' J' z => hE er t I' J' (fL2.trans z)) (fun z IB x5 hFB hIB => ?_) (q2 - (q1 + 1)) (q1 + 1) 15 _ _ (by omega) (Nat.le_refl _) (by simp [up2]) (by decide) (by decide) (fun z => absurd z (by omega)) (FR.up (by omega) (FR.up (by omega) (FR.up (by omega) hF))) ⟨fun _ _ _ _ => rfl, nI_0, fun _ _ => rfl, fun t' z1 z2 => absurd z2 (by omega)⟩ rfl
          obtain ⟨j1, j2, j3, j4⟩ := hIB
          have fin := fL2.trans z
          have d58 : ∀ i, IB 58 i = I 58 i := fun i => by rw [j1 58 i (by decide) (by omega), up2_o (by decide), up2_o (by decide), up2_o (by decide), c58]
          have d75 : IB 75 (nO T) = I 9 q1 := by rw [j1 75 _ (by decide) (by omega), up2_o (by decide), up2_s]
          have dO : ∀ a, a ≠ 10 → a ≠ 16 → a ≠ 72 → a ≠ 73 → a ≠ 74 → a ≠ 75 → IB a = I a := fun a a1 a2 a3 a4 a5 a6 => by
            funext j
            rw [j1 a j a2 (by omega), up2_o a1, up2_o a6, up2_o a1, fo a a1 a2 a3 a4 a5 a6]
          have dX : ∀ a j, a = 72 ∨ a = 73 ∨ a = 74 → IB a j = IA a j := fun a j ha => by
            rw [j1 a j (by omega) (by omega), up2_o (by omega), up2_o (by omega), up2_o (by omega)]
          have dY : ∀ j, j ≠ nO T → IB 75 j = IA 75 j := fun j hj => by
            rw [j1 75 j (by omega) (by omega), up2_o (by omega), up2_n hj, up2_o (by omega)]
          have i9b : IB 9 = I 9 := dO 9 (by decide) (by decide) (by decide) (by decide) (by decide) (by decide)
          have f7b : IB 10 7 = nI 14 := by rw [j1 10 7 (by decide) (by omega), up2_n (by decide), up2_o (by decide), up2_n (by decide)]; exact f7
          refine st_semi (K := K) (V := V) (M := M) (hFB.ps hK) (by omega) eQ h ?_
          rw [i9b]
          refine sp_X7_end14 a2b (by exact f7b) (by exact (d58 4).trans hO.1) (fun _ => ⟨?_, fun x5 => ?_⟩) (fun z => absurd (d75.symm.trans z) hca)
          · rw [up2_o (by decide), up2_o (by decide)]; exact j2
          rw [show q2 + 1 = (pL K p).2 by omega]
          refine κ fin _ _ _ (FR.up (by omega) (FR.up (by omega) hFB)) ?_ ?_ (fun t htp => ?_) (fun t t1 t2 t3 => ?_)
          · rw [lsT, if_neg (by omega), if_neg (by omega), if_neg (by omega), if_neg (by omega), if_neg a2]
            have s59 := dO 59 (by decide) (by decide) (by decide) (by decide) (by decide) (by decide)
            have s60 := dO 60 (by decide) (by decide) (by decide) (by decide) (by decide) (by decide)
            have s61 := dO 61 (by decide) (by decide) (by decide) (by decide) (by decide) (by decide)
            have s62 := dO 62 (by decide) (by decide) (by decide) (by decide) (by decide) (by decide)
            have s63 := dO 63 (by decide) (by decide) (by decide) (by decide) (by decide) (by decide)
            have s15 := dO 15 (by decide) (by decide) (by decide) (by decide) (by decide) (by decide)
            have s71 := dO 71 (by decide) (by decide) (by decide) (by decide) (by decide) (by decide)
            have s76 := dO 76 (by decide) (by decide) (by decide) (by decide) (by decide) (by decide)
            refine ⟨?_, ?_, ?_, ?_, ?_⟩
            · show pC wd (nC T) ((up2 (up2 IB 76 (nO T) (I 9 q2)) 58 4 (nI (nO T + 1))) 58 0) ((up2 (up2 IB 76 (nO T) (I 9 q2)) 58 4 (nI (nO T + 1))) 59) (J 11) (T 1) (T 11)
              rw [show (up2 (up2 IB 76 (nO T) (I 9 q2)) 58 4 (nI (nO T + 1))) 59 = I 59 by rw [up2_o (by decide), up2_o (by decide), s59], show (up2 (up2 IB 76 (nO T) (I 9 q2)) 58 4 (nI (nO T + 1))) 58 0 = I 58 0 by rw [up2_n (by decide), up2_o (by decide), d58]]
              exact ht.1
            · show pN wd (nN T) ((up2 (up2 IB 76 (nO T) (I 9 q2)) 58 4 (nI (nO T + 1))) 58 1) ((up2 (up2 IB 76 (nO T) (I 9 q2)) 58 4 (nI (nO T + 1))) 60) ((up2 (up2 IB 76 (nO T) (I 9 q2)) 58 4 (nI (nO T + 1))) 61) ((up2 (up2 IB 76 (nO T) (I 9 q2)) 58 4 (nI (nO T + 1))) 62) ((up2 (up2 IB 76 (nO T) (I 9 q2)) 58 4 (nI (nO T + 1))) 15) (J 12) (T 2) (T 3) (T 4) (T 12)
              rw [show (up2 (up2 IB 76 (nO T) (I 9 q2)) 58 4 (nI (nO T + 1))) 60 = I 60 by rw [up2_o (by decide), up2_o (by decide), s60], show (up2 (up2 IB 76 (nO T) (I 9 q2)) 58 4 (nI (nO T + 1))) 61 = I 61 by rw [up2_o (by decide), up2_o (by decide), s61], show (up2 (up2 IB 76 (nO T) (I 9 q2)) 58 4 (nI (nO T + 1))) 62 = I 62 by rw [up2_o (by decide), up2_o (by decide), s62], show (up2 (up2 IB 76 (nO T) (I 9 q2)) 58 4 (nI (nO T + 1))) 15 = I 15 by rw [up2_o (by decide), up2_o (by decide), s15], show (up2 (up2 IB 76 (nO T) (I 9 q2)) 58 4 (nI (nO T + 1))) 58 1 = I 58 1 by rw [up2_n (by decide), up2_o (by decide), d58]]
              exact ht.2.1
            · show pT2 wd (nT T) ((up2 (up2 IB 76 (nO T) (I 9 q2)) 58 4 (nI (nO T + 1))) 58 2) ((up2 (up2 IB 76 (nO T) (I 9 q2)) 58 4 (nI (nO T + 1))) 63) (up2 (up2 IB 76 (nO T) (I 9 q2)) 58 4 (nI (nO T + 1))) (J 13) (T 5) (T 13)
              rw [show (up2 (up2 IB 76 (nO T) (I 9 q2)) 58 4 (nI (nO T + 1))) 63 = I 63 by rw [up2_o (by decide), up2_o (by decide), s63], show (up2 (up2 IB 76 (nO T) (I 9 q2)) 58 4 (nI (nO T + 1))) 58 2 = I 58 2 by rw [up2_n (by decide), up2_o (by decide), d58]]
              exact pT2_ro ht.2.2.1 (fun k hk => by rw [up2_o (by omega), up2_o (by omega), dO (65 + k) (by omega) (by omega) (by omega) (by omega) (by omega) (by omega)])
            · show pK wd (nK T) ((up2 (up2 IB 76 (nO T) (I 9 q2)) 58 4 (nI (nO T + 1))) 58 3) ((up2 (up2 IB 76 (nO T) (I 9 q2)) 58 4 (nI (nO T + 1))) 71) (J 14) (T 6) (T 14)
              rw [show (up2 (up2 IB 76 (nO T) (I 9 q2)) 58 4 (nI (nO T + 1))) 71 = I 71 by rw [up2_o (by decide), up2_o (by decide), s71], show (up2 (up2 IB 76 (nO T) (I 9 q2)) 58 4 (nI (nO T + 1))) 58 3 = I 58 3 by rw [up2_n (by decide), up2_o (by decide), d58]]
              exact ht.2.2.2.1
            · show pO (ix (nI (nO T + 1))) _ _ _ _ _ _ _ _ _
              rw [ix_n (by omega)]
              refine pO_push (vb := mT K wd T (p + 1)) (vc := mT K wd T (p + 3)) (vd := I 9 q1) (ve := I 9 q2) ht.2.2.2.2 a2b (by rw [up2_s]) (fun k hk => ?_) (fun k hk => ?_) (fun k hk => ?_) (fun k hk => ?_) (fun k hk => ?_) (fun k hk => by simp [ctT, setRow, upd, show ¬ k = 5 * nO T + 2 by omega, show ¬ k = 5 * nO T + 1 by omega, show ¬ k = 5 * nO T by omega]) (fun k hk => by simp [ctT, setRow, upd, Nat.ne_of_lt hk]) (fun k hk => by simp [ctT, setRow, upd, Nat.ne_of_lt hk]) ?_ ?_ (by simp [ctT, setRow, upd]) ?_ (by simp [ctT, setRow, upd]) ?_ (by simp [ctT, setRow, upd, hq1b]) ?_ (by simp [ctT, setRow, upd, hqe])
              · simp [up2, dX 72 k (by omega), (fq k (Nat.ne_of_lt hk)).1]
              · simp [up2, dX 73 k (by omega), (fq k (Nat.ne_of_lt hk)).2.1]
              · simp [up2, dX 74 k (by omega), (fq k (Nat.ne_of_lt hk)).2.2.1]
              · simp [up2, dY k (Nat.ne_of_lt hk), (fq k (Nat.ne_of_lt hk)).2.2.2]
              · simp [up2, s76, Nat.ne_of_lt hk]
              · simp [ctT, setRow, upd, show ¬ 5 * nO T = 5 * nO T + 2 by omega, show ¬ 5 * nO T = 5 * nO T + 1 by omega, up2, dX 72 _ (Or.inl rfl), f72, e0]
                all_goals decide
              · simp [up2, dX 73 _ (Or.inr (Or.inl rfl)), f73]
              · simp [up2, dX 74 _ (Or.inr (Or.inr rfl)), f74]
              · simp [up2, d75]
              · simp [up2]
          · rw [up2_o (by decide), up2_o (by decide)]; exact j2
          · rw [up2_o (by decide), up2_o (by decide), j3 t (by omega), up2_o (by decide), up2_o (by decide), up2_o (by decide)]
            exact fm t htp
          · rw [up2_o (by decide), up2_o (by decide)]
            rcases (show t < q1 ∨ t = q1 ∨ (q1 + 1 ≤ t ∧ t < q2) ∨ t = q2 by omega) with z | z | z | z
            · rw [j3 t (by omega), up2_o (by decide), up2_o (by decide), up2_o (by decide)]
              exact fn t t1 z t3
            · subst z; omega
            · exact j4 t z.1 z.2 t3
            · subst z; omega
        obtain rfl : q1 = p + 1 + 1 + 1 + 1 := hq1
        refine key _ _ (by repeat' (first | exact FR.rf | apply FR.upJ | apply FR.up | omega)) nI_0 (by rfl) (fun a a1 a2 a3 a4 a5 a6 => ?_) (fun j hj => ⟨?_, ?_, ?_, ?_⟩) ?_ ?_ ?_ ?_ (fun t htp => ?_) (fun t t1 t2 t3 => ?_) g3
        · repeat rw [up2_o (by assumption)]
        · simp [up2, hj]
        · simp [up2, hj]
        · simp [up2, hj]
        · simp [up2, hj]
        · simp [up2]
        · simp [up2]
        · simp [up2]
        · simp [up2]
        · simp [up2, show ¬ t = p + 1 by omega, show ¬ t = p + 1 + 1 + 1 by omega]
        · rcases (show t = p + 1 ∨ t = p + 1 + 1 ∨ t = p + 1 + 1 + 1 by omega) with r | r | r
          · subst r; simp [up2]
          · subst r; omega
          · subst r; simp [up2]
set_option maxRecDepth 100000 in
set_option maxHeartbeats 400000 in
theorem ln_14 {Γ : Cx} {K wd : Nat → Nat} {V : Nat → Int32} {M d p : Nat} {T I : MI} {J : MJ} {P : MP} {Q : Int32 → MI → MJ → MP → Prop} (hK : psO K V M I J) (hw : wdO K wd M J) (hV : vO K V M) (hn : nmO K M T) (ht : tcl wd T I J) (e0 : K p = 14) (e1 : K (p + 1) = 28) (e2 : K (p + 1 + 1) = 12) (e3 : K (p + 1 + 1 + 1) = 28) {q1 : Nat} (hq1 : q1 = p + 1 + 1 + 1 + 1) (hq1b : q1L K p = q1) (eQ : K q1 = 34) (hend : (pL K p).2 = q1 + 1) (hp : q1 < M) (hE : ∀ e t I' J', lerr K V wd T p = some (e, t) → FR I J I' J' → I' 10 0 = nI e → Q (nI t) I' J' P) (κ : lerr K V wd T p = none → ∀ I' J' x5, FR I J I' J' → tcl wd (lsT K V wd (I 9) T p) I' J' → I' 10 0 = 0 → (∀ t, t < p → I' 16 t = I 16 t) → (∀ t, p < t → t < (pL K p).2 → K t = 28 → I' 16 t = mT K wd T t) → VG Γ 0 0 12 [some (.ref 10), some (.ref 3), some (.ref 9), some (.ref 58), some (.int (nI ((pL K p).2))), x5] [] I' J' P (Fnl Γ (Qi Q))) (h : Vc RX7 cX7_firstFault 6 (some .int) (d + 5) Γ) {x5 : Option Value} : VG Γ 0 0 12 [some (.ref 10), some (.ref 3), some (.ref 9), some (.ref 58), some (.int (nI p)), x5] [] I J P (Fnl Γ (Qi Q)) := by
  have hM4 := hK.2.2.2.1
  have hct := ht.ct
  have hO := ht.2.2.2.2.1
  have hN1 := ht.2.1.1
  have k5 := hK.2.2.2.2
  have hb := nT4_le ht
  refine st_kw hK (by omega) (by omega) h ?_
  rw [e0]
  refine sp_X7_kw14 hO.2 hO.1 (fun qz => ?_) (fun qz => ?_)
  · have a2 : nO T = 20 := by have := hO.2; omega
    exact ⟨fun q => absurd q (by decide), fun _ => hE 4 p _ _ (by rw [lerr, if_neg (by omega), if_neg (by omega), if_neg (by omega), if_neg (by omega)]; simp [er, a2]) (by repeat' (first | exact FR.rf | apply FR.upJ | apply FR.up | omega)) up2_s⟩
  · have a2b : nO T < 20 := qz
    have a2 : ¬ nO T = 20 := by omega
    have eL : lerr K V wd T p = fbd K (mT K wd T) ((pL K p).2 - (p + 1)) (p + 1) := by rw [lerr, if_neg (by omega), if_neg (by omega), if_neg (by omega), if_neg (by omega)]; simp [er, a2]
    refine ⟨fun _ x5 => ?_, fun q => absurd rfl q⟩
    refine st_name (K := K) (V := V) (M := M) (k := 14) (n := nT4 T) (wd := wd) ?_ (by omega) e1 (by decide) ?_ ?_ ?_ h ?_
    · exact FR.ps (by repeat' (first | exact FR.rf | apply FR.upJ | apply FR.up | omega)) hK
    · rfl
    · exact hct.o (fun i _ => rfl)
    · exact wdO_o rfl hw
    rw [plx (K := K) (M := M) ht hn hw hM4 (by omega) e1 (by rw [Nat.add_sub_cancel]; exact e0)]
    have g1 := eL.trans (fbd_s (by omega))
    by_cases b1 : mT K wd T (p + 1) = -1
    · rw [if_pos ⟨e1, b1⟩] at g1
      refine sp_X7_name3 (by decide) (by decide) (by rw [b1]; decide) (k := 14) (by rfl) ?_
      exact ⟨fun q => absurd q (by decide), fun _ => hE 3 (p + 1) _ _ (g1) (by repeat' (first | exact FR.rf | apply FR.upJ | apply FR.up | omega)) up2_s⟩
    · rw [if_neg (fun z => b1 z.2)] at g1
      refine sp_X7_nOrd14 a2b (mT_ge ht b1) (by exact hN1.1) (by exact hO.1) (by rfl) ⟨fun _ x5 => ?_, fun q => absurd rfl q⟩
      refine st_kw (K := K) (V := V) (M := M) ?_ (by omega) (by omega) h ?_
      · exact FR.ps (by repeat' (first | exact FR.rf | apply FR.upJ | apply FR.up | omega)) hK
      rw [e2]
      refine sp_X7_kwA (by decide) (by decide) ⟨fun _ x5 => ?_, fun q => absurd rfl q⟩
      have g2 := g1.trans (fbd_0 (by omega) (show ¬ K (p + 1 + 1) = 28 by omega))
      refine st_name (K := K) (V := V) (M := M) (k := 12) (n := nT4 T) (wd := wd) ?_ (by omega) e3 (by decide) ?_ ?_ ?_ h ?_
      · exact FR.ps (by repeat' (first | exact FR.rf | apply FR.upJ | apply FR.up | omega)) hK
      · rfl
      · exact hct.o (fun i _ => rfl)
      · exact wdO_o rfl hw
      rw [plx (K := K) (M := M) ht hn hw hM4 (by omega) e3 (by rw [Nat.add_sub_cancel]; exact e2)]
      have g3 := g2.trans (fbd_s (by omega))
      by_cases b3 : mT K wd T (p + 1 + 1 + 1) = -1
      · rw [if_pos ⟨e3, b3⟩] at g3
        refine sp_X7_name3 (by decide) (by decide) (by rw [b3]; decide) (k := 12) (by rfl) ?_
        exact ⟨fun q => absurd q (by decide), fun _ => hE 3 (p + 1 + 1 + 1) _ _ (g3) (by repeat' (first | exact FR.rf | apply FR.upJ | apply FR.up | omega)) up2_s⟩
      · rw [if_neg (fun z => b3 z.2)] at g3
        refine sp_X7_nBy a2b (mT_ge ht b3) (by exact hN1.1) (by exact hO.1) (by rfl) ⟨fun _ x5 => ?_, fun q => absurd rfl q⟩
        have key : ∀ (IA : MI) (x5 : Option Value), FR I J IA J → IA 10 0 = 0 → IA 10 7 = nI 14 → (∀ a, a ≠ 10 → a ≠ 16 → a ≠ 72 → a ≠ 73 → a ≠ 74 → a ≠ 75 → IA a = I a) → (∀ j, j ≠ nO T → IA 72 j = I 72 j ∧ IA 73 j = I 73 j ∧ IA 74 j = I 74 j ∧ IA 75 j = I 75 j) → IA 72 (nO T) = nI 0 → IA 73 (nO T) = mT K wd T (p + 1) → IA 74 (nO T) = mT K wd T (p + 3) → IA 75 (nO T) = -1 → (∀ t, t < p → IA 16 t = I 16 t) → (∀ t, p < t → t < q1 → K t = 28 → IA 16 t = mT K wd T t) → lerr K V wd T p = fbd K (mT K wd T) ((pL K p).2 - q1) q1 → VG Γ 0 0 12 [some (.ref 10), some (.ref 3), some (.ref 9), some (.ref 58), some (.int (nI q1)), x5] [] IA J P (Fnl Γ (Qi Q)) := by
          intro IA x5 hF f0 f7 fo fq f72 f73 f74 f75 fm fn fL
          have c58 : ∀ i, IA 58 i = I 58 i := fun i => congrFun (fo 58 (by decide) (by decide) (by decide) (by decide) (by decide) (by decide)) i
          have i9 : IA 9 = I 9 := fo 9 (by decide) (by decide) (by decide) (by decide) (by decide) (by decide)
          have hqe : (pL K p).2 - 1 = q1 := by omega
          have fin : lerr K V wd T p = none := by
            rw [fL, show (pL K p).2 - q1 = 0 + 1 by omega, fbd, if_neg (fun z => by omega)]
            rfl
          refine st_semi (K := K) (V := V) (M := M) (hF.ps hK) (by omega) eQ h ?_
          rw [i9]
          refine sp_X7_end14 a2b (by exact f7) (by exact (c58 4).trans hO.1) (fun z => absurd f75 z) (fun _ => ⟨?_, fun x5 => ?_⟩)
          · rw [up2_o (by decide), up2_o (by decide), up2_o (by decide)]; exact f0
          rw [show q1 + 1 = (pL K p).2 by omega]
          refine κ fin _ _ _ (FR.up (by omega) (FR.up (by omega) (FR.up (by omega) hF))) ?_ ?_ (fun t htp => ?_) (fun t t1 t2 t3 => ?_)
          · rw [lsT, if_neg (by omega), if_neg (by omega), if_neg (by omega), if_neg (by omega), if_neg a2]
            have s59 := fo 59 (by decide) (by decide) (by decide) (by decide) (by decide) (by decide)
            have s60 := fo 60 (by decide) (by decide) (by decide) (by decide) (by decide) (by decide)
            have s61 := fo 61 (by decide) (by decide) (by decide) (by decide) (by decide) (by decide)
            have s62 := fo 62 (by decide) (by decide) (by decide) (by decide) (by decide) (by decide)
            have s63 := fo 63 (by decide) (by decide) (by decide) (by decide) (by decide) (by decide)
            have s15 := fo 15 (by decide) (by decide) (by decide) (by decide) (by decide) (by decide)
            have s71 := fo 71 (by decide) (by decide) (by decide) (by decide) (by decide) (by decide)
            have s76 := fo 76 (by decide) (by decide) (by decide) (by decide) (by decide) (by decide)
            refine ⟨?_, ?_, ?_, ?_, ?_⟩
            · show pC wd (nC T) ((up2 (up2 (up2 IA 76 (nO T) (I 9 q1)) 75 (nO T) (I 9 q1)) 58 4 (nI (nO T + 1))) 58 0) ((up2 (up2 (up2 IA 76 (nO T) (I 9 q1)) 75 (nO T) (I 9 q1)) 58 4 (nI (nO T + 1))) 59) (J 11) (T 1) (T 11)
              rw [show (up2 (up2 (up2 IA 76 (nO T) (I 9 q1)) 75 (nO T) (I 9 q1)) 58 4 (nI (nO T + 1))) 59 = I 59 by rw [up2_o (by decide), up2_o (by decide), up2_o (by decide), s59], show (up2 (up2 (up2 IA 76 (nO T) (I 9 q1)) 75 (nO T) (I 9 q1)) 58 4 (nI (nO T + 1))) 58 0 = I 58 0 by rw [up2_n (by decide), up2_o (by decide), up2_o (by decide), c58]]
              exact ht.1
            · show pN wd (nN T) ((up2 (up2 (up2 IA 76 (nO T) (I 9 q1)) 75 (nO T) (I 9 q1)) 58 4 (nI (nO T + 1))) 58 1) ((up2 (up2 (up2 IA 76 (nO T) (I 9 q1)) 75 (nO T) (I 9 q1)) 58 4 (nI (nO T + 1))) 60) ((up2 (up2 (up2 IA 76 (nO T) (I 9 q1)) 75 (nO T) (I 9 q1)) 58 4 (nI (nO T + 1))) 61) ((up2 (up2 (up2 IA 76 (nO T) (I 9 q1)) 75 (nO T) (I 9 q1)) 58 4 (nI (nO T + 1))) 62) ((up2 (up2 (up2 IA 76 (nO T) (I 9 q1)) 75 (nO T) (I 9 q1)) 58 4 (nI (nO T + 1))) 15) (J 12) (T 2) (T 3) (T 4) (T 12)
              rw [show (up2 (up2 (up2 IA 76 (nO T) (I 9 q1)) 75 (nO T) (I 9 q1)) 58 4 (nI (nO T + 1))) 60 = I 60 by rw [up2_o (by decide), up2_o (by decide), up2_o (by decide), s60], show (up2 (up2 (up2 IA 76 (nO T) (I 9 q1)) 75 (nO T) (I 9 q1)) 58 4 (nI (nO T + 1))) 61 = I 61 by rw [up2_o (by decide), up2_o (by decide), up2_o (by decide), s61], show (up2 (up2 (up2 IA 76 (nO T) (I 9 q1)) 75 (nO T) (I 9 q1)) 58 4 (nI (nO T + 1))) 62 = I 62 by rw [up2_o (by decide), up2_o (by decide), up2_o (by decide), s62], show (up2 (up2 (up2 IA 76 (nO T) (I 9 q1)) 75 (nO T) (I 9 q1)) 58 4 (nI (nO T + 1))) 15 = I 15 by rw [up2_o (by decide), up2_o (by decide), up2_o (by decide), s15], show (up2 (up2 (up2 IA 76 (nO T) (I 9 q1)) 75 (nO T) (I 9 q1)) 58 4 (nI (nO T + 1))) 58 1 = I 58 1 by rw [up2_n (by decide), up2_o (by decide), up2_o (by decide), c58]]
              exact ht.2.1
            · show pT2 wd (nT T) ((up2 (up2 (up2 IA 76 (nO T) (I 9 q1)) 75 (nO T) (I 9 q1)) 58 4 (nI (nO T + 1))) 58 2) ((up2 (up2 (up2 IA 76 (nO T) (I 9 q1)) 75 (nO T) (I 9 q1)) 58 4 (nI (nO T + 1))) 63) (up2 (up2 (up2 IA 76 (nO T) (I 9 q1)) 75 (nO T) (I 9 q1)) 58 4 (nI (nO T + 1))) (J 13) (T 5) (T 13)
              rw [show (up2 (up2 (up2 IA 76 (nO T) (I 9 q1)) 75 (nO T) (I 9 q1)) 58 4 (nI (nO T + 1))) 63 = I 63 by rw [up2_o (by decide), up2_o (by decide), up2_o (by decide), s63], show (up2 (up2 (up2 IA 76 (nO T) (I 9 q1)) 75 (nO T) (I 9 q1)) 58 4 (nI (nO T + 1))) 58 2 = I 58 2 by rw [up2_n (by decide), up2_o (by decide), up2_o (by decide), c58]]
              exact pT2_ro ht.2.2.1 (fun k hk => by rw [up2_o (by omega), up2_o (by omega), up2_o (by omega), fo (65 + k) (by omega) (by omega) (by omega) (by omega) (by omega) (by omega)])
            · show pK wd (nK T) ((up2 (up2 (up2 IA 76 (nO T) (I 9 q1)) 75 (nO T) (I 9 q1)) 58 4 (nI (nO T + 1))) 58 3) ((up2 (up2 (up2 IA 76 (nO T) (I 9 q1)) 75 (nO T) (I 9 q1)) 58 4 (nI (nO T + 1))) 71) (J 14) (T 6) (T 14)
              rw [show (up2 (up2 (up2 IA 76 (nO T) (I 9 q1)) 75 (nO T) (I 9 q1)) 58 4 (nI (nO T + 1))) 71 = I 71 by rw [up2_o (by decide), up2_o (by decide), up2_o (by decide), s71], show (up2 (up2 (up2 IA 76 (nO T) (I 9 q1)) 75 (nO T) (I 9 q1)) 58 4 (nI (nO T + 1))) 58 3 = I 58 3 by rw [up2_n (by decide), up2_o (by decide), up2_o (by decide), c58]]
              exact ht.2.2.2.1
            · show pO (ix (nI (nO T + 1))) _ _ _ _ _ _ _ _ _
              rw [ix_n (by omega)]
              refine pO_push (vb := mT K wd T (p + 1)) (vc := mT K wd T (p + 3)) (vd := I 9 q1) (ve := I 9 q1) ht.2.2.2.2 a2b (by rw [up2_s]) (fun k hk => ?_) (fun k hk => ?_) (fun k hk => ?_) (fun k hk => ?_) (fun k hk => ?_) (fun k hk => by simp [ctT, setRow, upd, show ¬ k = 5 * nO T + 2 by omega, show ¬ k = 5 * nO T + 1 by omega, show ¬ k = 5 * nO T by omega]) (fun k hk => by simp [ctT, setRow, upd, Nat.ne_of_lt hk]) (fun k hk => by simp [ctT, setRow, upd, Nat.ne_of_lt hk]) ?_ ?_ (by simp [ctT, setRow, upd]) ?_ (by simp [ctT, setRow, upd]) ?_ (by simp [ctT, setRow, upd, hq1b]) ?_ (by simp [ctT, setRow, upd, hqe])
              · simp [up2, (fq k (Nat.ne_of_lt hk)).1]
              · simp [up2, (fq k (Nat.ne_of_lt hk)).2.1]
              · simp [up2, (fq k (Nat.ne_of_lt hk)).2.2.1]
              · simp [up2, (fq k (Nat.ne_of_lt hk)).2.2.2, Nat.ne_of_lt hk]
              · simp [up2, s76, Nat.ne_of_lt hk]
              · simp [ctT, setRow, upd, show ¬ 5 * nO T = 5 * nO T + 2 by omega, show ¬ 5 * nO T = 5 * nO T + 1 by omega, up2, f72, e0]
                all_goals decide
              · simp [up2, f73]
              · simp [up2, f74]
              · simp [up2]
              · simp [up2]
          · rw [up2_o (by decide), up2_o (by decide), up2_o (by decide)]; exact f0
          · rw [up2_o (by decide), up2_o (by decide), up2_o (by decide)]; exact fm t htp
          · rw [up2_o (by decide), up2_o (by decide), up2_o (by decide)]
            rcases Nat.lt_or_ge t q1 with z | z
            · exact fn t t1 z t3
            · obtain rfl : t = q1 := by omega
              omega
        obtain rfl : q1 = p + 1 + 1 + 1 + 1 := hq1
        refine key _ _ (by repeat' (first | exact FR.rf | apply FR.upJ | apply FR.up | omega)) nI_0 (by rfl) (fun a a1 a2 a3 a4 a5 a6 => ?_) (fun j hj => ⟨?_, ?_, ?_, ?_⟩) ?_ ?_ ?_ ?_ (fun t htp => ?_) (fun t t1 t2 t3 => ?_) g3
        · repeat rw [up2_o (by assumption)]
        · simp [up2, hj]
        · simp [up2, hj]
        · simp [up2, hj]
        · simp [up2, hj]
        · simp [up2]
        · simp [up2]
        · simp [up2]
        · simp [up2]
        · simp [up2, show ¬ t = p + 1 by omega, show ¬ t = p + 1 + 1 + 1 by omega]
        · rcases (show t = p + 1 ∨ t = p + 1 + 1 ∨ t = p + 1 + 1 + 1 by omega) with r | r | r
          · subst r; simp [up2]
          · subst r; omega
          · subst r; simp [up2]
