/-! The class's teacher: top cords, orders -/
theorem anyB_ext {p q : Nat → Bool} : ∀ f i, (∀ j, i ≤ j → j < i + f → p j = q j) → anyB p f i = anyB q f i := by
  intro f
  induction f with
  | zero => exact fun i _ => rfl
  | succ f ih =>
    intro i h
    rw [anyB, anyB, h i (Nat.le_refl _) (by omega), ih (i + 1) (fun j a b => h j (by omega) (by omega))]
theorem nms_run {K : Nat → Nat} : ∀ f p t, p ≤ t → t < nms K f p → K t = 28 := by
  intro f
  induction f with
  | zero => intro p t a b; exact absurd b (by show ¬ t < p; omega)
  | succ f ih =>
    intro p t a b
    rw [nms] at b
    by_cases h : K p = 28
    · rw [if_pos h] at b
      rcases Nat.lt_or_ge p t with q | q
      · exact ih (p + 1) t q b
      · obtain rfl : t = p := by omega
        exact h
    · rw [if_neg h] at b
      omega
theorem toF_lo {own : Nat → Int32} {b : Nat} : ∀ f s row many k, k < b → (toF own b f s row many).1 k = row k := by
  intro f
  induction f with
  | zero => intro s row many k _; rfl
  | succ f ih =>
    intro s row many k hk
    rw [toF]
    by_cases h : many = 8
    · rw [if_pos h]; exact ih _ _ _ _ hk
    · rw [if_neg h, ih _ _ _ _ hk, upd, if_neg (by omega)]
theorem toF_le {own : Nat → Int32} {b : Nat} : ∀ f s row many, many ≤ 8 → (toF own b f s row many).2 ≤ 8 := by
  intro f
  induction f with
  | zero => intro s row many h; exact h
  | succ f ih =>
    intro s row many h
    rw [toF]
    by_cases h8 : many = 8
    · rw [if_pos h8]; exact ih _ _ _ h
    · rw [if_neg h8]; exact ih _ _ _ (by omega)
theorem fbd_app {K : Nat → Nat} {mm : Nat → Int32} : ∀ a b t, fbd K mm (a + b) t = (fbd K mm a t).or (fbd K mm b (t + a)) := by
  intro a
  induction a with
  | zero => intro b t; rw [Nat.zero_add]; rfl
  | succ a ih =>
    intro b t
    rw [show a + 1 + b = (a + b) + 1 by omega, fbd, fbd]
    by_cases h : K t = 28 ∧ mm t = -1
    · rw [if_pos h, if_pos h]; rfl
    · rw [if_neg h, if_neg h, ih, show t + 1 + a = t + (a + 1) by omega]
set_option maxRecDepth 100000 in
set_option maxHeartbeats 4000000 in
theorem lp_over {Γ : Cx} {K wd : Nat → Nat} {V : Nat → Int32} {M d p : Nat} {T I0 I1 : MI} {J J0 : MJ} {P : MP} {Q : Int32 → MI → MJ → MP → Prop} (hK0 : psO K V M I0 J0) (hw0 : wdO K wd M J0) (hn : nmO K M T) (ht : tcl wd T I0 J0) (hN : nT T < 6) (hJ : ∀ i, i < 4 → ∀ j, j < nT4 T i → J (11 + i) j = J0 (11 + i) j) (hI58 : ∀ i, I1 58 i = I0 58 i) (h : Vc RX7 cX7_firstFault 6 (some .int) (d + 5) Γ) : ∀ (f s m : Nat) (row : Nat → Int32) (I : MI) (x5 : Option Value), (∀ t, s ≤ t → t < s + f → K t = 28) → s + f < M → p < s → m ≤ 8 → (FR I0 J0 I J ∧ I 10 8 = nI 8 ∧ I 10 7 = nI 7 ∧ I 10 0 = 0 ∧ I 63 (nT T) = nI m ∧ (∀ i, i < m → I (65 + nT T) i = row (9 * nT T + 1 + i)) ∧ (∀ a j, a ≠ 10 → a ≠ 16 → a ≠ 65 + nT T → ¬ (a = 63 ∧ j = nT T) → I a j = I1 a j) ∧ ∀ t, t < p → I 16 t = I1 16 t) → (∀ e t I' J', toE (lkT wd T 1) (9 * nT T + 1) f s row m = some (e, t) → FR I0 J0 I' J' → I' 10 0 = nI e → Q (nI t) I' J' P) → (toE (lkT wd T 1) (9 * nT T + 1) f s row m = none → ∀ I' x5, (FR I0 J0 I' J ∧ I' 10 8 = nI 8 ∧ I' 10 7 = nI 7 ∧ I' 10 0 = 0 ∧ I' 63 (nT T) = nI (toF (lkT wd T 1) (9 * nT T + 1) f s row m).2 ∧ (∀ i, i < (toF (lkT wd T 1) (9 * nT T + 1) f s row m).2 → I' (65 + nT T) i = (toF (lkT wd T 1) (9 * nT T + 1) f s row m).1 (9 * nT T + 1 + i)) ∧ (∀ a j, a ≠ 10 → a ≠ 16 → a ≠ 65 + nT T → ¬ (a = 63 ∧ j = nT T) → I' a j = I1 a j) ∧ ∀ t, t < p → I' 16 t = I1 16 t) → VG Γ 0 0 12 [some (.ref 10), some (.ref 3), some (.ref 9), some (.ref 58), some (.int (nI (s + f))), x5] [] I' J P (Fnl Γ (Qi Q))) → VG Γ 0 0 12 [some (.ref 10), some (.ref 3), some (.ref 9), some (.ref 58), some (.int (nI s)), x5] [] I J P (Fnl Γ (Qi Q)) := by
  have hM4 := hK0.2.2.2.1
  have hct := ht.ct
  have hb1 : nT4 T 1 ≤ 16 := ht.2.1.1.2
  have hN1 := ht.2.1.1
  have hO := ht.2.2.2.2.1
  have hT2 := ht.2.2.1.1
  intro f
  induction f with
  | zero =>
    intro s m row I x5 hs hM hps hm hI hE κ
    exact κ rfl I x5 hI
  | succ f ih =>
    intro s m row I x5 hs hM hps hm hI hE κ
    obtain ⟨i1, i2, i3, i4, i5, i6, i7, i8⟩ := hI
    have hk := hs s (Nat.le_refl _) (by omega)
    have c58 : ∀ i, I 58 i = I0 58 i := fun i => (i7 58 i (by decide) (by decide) (by omega) (by omega)).trans (hI58 i)
    refine st_name (K := K) (V := V) (M := M) (k := 8) (n := nT4 T) (wd := wd) ?_ (by omega) hk (by decide) ?_ ?_ ?_ h ?_
    · exact i1.ps hK0
    · exact i2
    · exact hct.o (fun i _ => c58 i)
    · exact i1.wd hw0
    rw [show (tbI 8) = 1 from by decide, lk_ok (K := K) (M := M) ht hn hw0 hJ hM4 (by decide) (by omega) hk]
    rw [toE] at hE κ
    rcases lkT_in (wd := wd) (T := T) (i := 1) (t := s) with a4 | ⟨j, j1, j2⟩
    · rw [if_pos a4] at hE
      rw [a4]
      refine sp_X7_name3 (by decide) (by decide) (by decide) (k := 8) (by exact i2) ?_
      exact ⟨fun q => absurd q (by decide), fun _ => hE 3 s _ _ rfl (FR.up (Or.inl rfl) (FR.up (by omega) i1)) up2_s⟩
    · have a4 : ¬ lkT wd T 1 s = -1 := by rw [j2]; have := hb1; exact fun r => nI_pos (show j < 2 ^ 31 by omega) (by rw [r]; decide)
      rw [if_neg a4] at hE κ
      have eA : anyB (fun n => decide (up2 I 16 s (lkT wd T 1 s) (65 + nT T) n = lkT wd T 1 s)) m 0 = dupB row (9 * nT T + 1) m (lkT wd T 1 s) := by
        refine anyB_ext _ _ (fun n _ hn' => ?_)
        rw [up2_o (by omega), i6 n (by omega)]
      refine sp_X7_nOver hN hm (lkT_ge hb1 a4) (by exact (c58 1).trans hN1.1) (by exact (c58 4).trans hO.1) (by exact (c58 2).trans hT2.1) (by exact i5) (by exact i2) (fun q => ?_) (fun q q2 => ?_) (fun q q2 => ?_)
      · rw [if_pos q] at hE
        exact ⟨fun q => absurd q (by decide), fun _ => hE 4 s _ _ rfl (FR.up (Or.inl rfl) (FR.up (by omega) i1)) up2_s⟩
      · rw [eA] at q2
        rw [if_neg (by omega), if_pos q2] at hE
        exact ⟨fun q => absurd q (by decide), fun _ => hE 5 s _ _ rfl (FR.up (Or.inl rfl) (FR.up (by omega) i1)) up2_s⟩
      · rw [eA] at q2
        have q2' : ¬ dupB row (9 * nT T + 1) m (lkT wd T 1 s) = true := by rw [q2]; decide
        have q8 : ¬ m = 8 := by omega
        rw [if_neg q8, if_neg q2'] at hE κ
        rw [toF, if_neg q8] at κ
        refine ⟨fun _ x5 => ?_, fun q => absurd rfl q⟩
        refine ih (s + 1) (m + 1) _ _ _ (fun t a b => hs t (by omega) (by omega)) (by omega) (by omega) q ?_ hE (fun hn9 I' x5 hI' => by rw [show s + 1 + f = s + (f + 1) by omega]; exact κ hn9 I' x5 hI')
        refine ⟨FR.up (Or.inl rfl) (FR.up (by omega) (FR.up (by omega) (FR.up (by omega) i1))), ?_, ?_, ?_, ?_, fun i hi => ?_, fun a j a1 a2 a3 a4 => ?_, fun t htp => ?_⟩
        · simp [up2, i2, show ¬ 10 = 65 + nT T by omega]
        · simp [up2, i3, show ¬ 10 = 65 + nT T by omega]
        · rw [up2_s]; rfl
        · simp [up2]
        · rw [up2_o (by omega), up2_o (by omega)]
          rcases Nat.lt_or_ge i m with r | r
          · rw [up2_n (by omega), up2_o (by omega), i6 i r, upd, if_neg (by omega)]
          · obtain rfl : i = m := by omega
            rw [up2_s, upd, if_pos rfl]
        · have e1 : up2 (up2 (up2 I 16 s (lkT wd T 1 s)) (65 + nT T) m (lkT wd T 1 s)) 63 (nT T) (nI (m + 1)) a j = I a j := by
            by_cases a63 : a = 63
            · subst a63
              rw [up2_n (fun r => a4 ⟨rfl, r⟩), up2_o (by omega), up2_o (by omega)]
            · rw [up2_o a63, up2_o a3, up2_o a2]
          rw [up2_o a1, e1]
          exact i7 a j a1 a2 a3 a4
        · have e1 : up2 (up2 (up2 (up2 I 16 s (lkT wd T 1 s)) (65 + nT T) m (lkT wd T 1 s)) 63 (nT T) (nI (m + 1))) 10 0 (nI 0) 16 t = I 16 t := by
            rw [up2_o (by decide), up2_o (by decide), up2_o (by omega), up2_n (by omega)]
          rw [e1]
          exact i8 t htp
set_option maxRecDepth 100000 in
set_option maxHeartbeats 400000 in
theorem ln_7 {Γ : Cx} {K wd : Nat → Nat} {V : Nat → Int32} {M d p : Nat} {T I : MI} {J : MJ} {P : MP} {Q : Int32 → MI → MJ → MP → Prop} (hK : psO K V M I J) (hw : wdO K wd M J) (hV : vO K V M) (hn : nmO K M T) (ht : tcl wd T I J) (e0 : K p = 7) (e1 : K (p + 1) = 28) (e2 : K (p + 1 + 1) = 8) (e3 : K (p + 3) = 28) (e4 : K (p + 4) = 28) (e5 : K (nms K 400 (p + 5)) = 34) (hp5 : p + 5 ≤ M) (hp : nms K 400 (p + 5) < M) (hE : ∀ e t I' J', lerr K V wd T p = some (e, t) → FR I J I' J' → I' 10 0 = nI e → Q (nI t) I' J' P) (κ : lerr K V wd T p = none → ∀ I' J' x5, FR I J I' J' → tcl wd (lsT K V wd (I 9) T p) I' J' → I' 10 0 = 0 → (∀ t, t < p → I' 16 t = I 16 t) → VG Γ 0 0 12 [some (.ref 10), some (.ref 3), some (.ref 9), some (.ref 58), some (.int (nI (nms K 400 (p + 5) + 1))), x5] [] I' J' P (Fnl Γ (Qi Q))) (h : Vc RX7 cX7_firstFault 6 (some .int) (d + 5) Γ) {x5 : Option Value} : VG Γ 0 0 12 [some (.ref 10), some (.ref 3), some (.ref 9), some (.ref 58), some (.int (nI p)), x5] [] I J P (Fnl Γ (Qi Q)) := by
  have hM4 := hK.2.2.2.1
  have hct := ht.ct
  have hC := ht.2.2.1.1
  have hb2 : nT4 T 2 ≤ 16 := by have := hC.2; show nT T ≤ 16; omega
  refine st_kw hK (by omega) (by omega) h ?_
  rw [e0]
  refine sp_X7_kw7 ⟨fun _ x5 => ?_, fun q => absurd rfl q⟩
  refine st_name (K := K) (V := V) (M := M) (k := 7) (n := nT4 T) (wd := wd) ?_ (by omega) e1 (by decide) ?_ ?_ ?_ h ?_
  · exact FR.ps (by repeat' (first | exact FR.rf | apply FR.upJ | apply FR.up | omega)) hK
  · rfl
  · exact hct.o (fun i _ => rfl)
  · exact wdO_o rfl hw
  rw [show (tbI 7) = 2 from by decide, lk_ok (K := K) (M := M) ht hn hw (fun i hi j hj => rfl) hM4 (by decide) (by omega) e1]
  refine sp_X7_name7 hC.2 (by rfl) (by exact hC.1) (fun I' hI' => ⟨fun q2 => ?_, fun q2 q3 => ?_⟩) (fun q2 q3 => ?_)
  · have a1 : ¬ lkT wd T 2 (p + 1) = -1 := fun r => q2 ((lkT_neg hb2).mpr r)
    rcases hI' with rfl | rfl
    · exact ⟨fun q => absurd q (by decide), fun _ => hE 2 (p + 1) _ _ (by rw [lerr, if_neg (by omega), if_neg (by omega), if_pos e0]; simp [er, a1]) (by repeat' (first | exact FR.rf | apply FR.upJ | apply FR.up | omega)) up2_s⟩
    · exact ⟨fun q => absurd q (by decide), fun _ => hE 2 (p + 1) _ _ (by rw [lerr, if_neg (by omega), if_neg (by omega), if_pos e0]; simp [er, a1]) (by repeat' (first | exact FR.rf | apply FR.upJ | apply FR.up | omega)) up2_s⟩
  · have a1 : lkT wd T 2 (p + 1) = -1 := (lkT_neg hb2).mp q2
    have a2 : nT T = 6 := by have := hC.2; omega
    rcases hI' with rfl | rfl
    · exact ⟨fun q => absurd q (by decide), fun _ => hE 4 (p + 1) _ _ (by rw [lerr, if_neg (by omega), if_neg (by omega), if_pos e0]; simp [er, a1, a2]) (by repeat' (first | exact FR.rf | apply FR.upJ | apply FR.up | omega)) up2_s⟩
    · exact ⟨fun q => absurd q (by decide), fun _ => hE 4 (p + 1) _ _ (by rw [lerr, if_neg (by omega), if_neg (by omega), if_pos e0]; simp [er, a1, a2]) (by repeat' (first | exact FR.rf | apply FR.upJ | apply FR.up | omega)) up2_s⟩
  · have a1 : lkT wd T 2 (p + 1) = -1 := (lkT_neg hb2).mp q2
    have a2b : nT T < 6 := q3
    have a2 : ¬ nT T = 6 := by omega
    refine ⟨fun _ x5 => ?_, fun q => absurd rfl q⟩
    refine st_kw (K := K) (V := V) (M := M) ?_ (by omega) (by omega) h ?_
    · exact FR.ps (by repeat' (first | exact FR.rf | apply FR.upJ | apply FR.up | omega)) hK
    rw [e2]
    refine sp_X7_kwA (by decide) (by decide) ⟨fun _ x5 => ?_, fun q => absurd rfl q⟩
    have eL : lerr K V wd T p = toE (lkT wd T 1) (9 * nT T + 1) (nms K 400 (p + 5) - (p + 3)) (p + 3) (T 5) 0 := by rw [lerr, if_neg (by omega), if_neg (by omega), if_pos e0]; simp [er, a1, a2]
    obtain ⟨nb1, nb2⟩ := nms_B hK.2.2.2.2 400 (p + 5) (by omega)
    refine lp_over (I0 := I) (J0 := J) (p := p) hK hw hn ht a2b ?_ ?_ h (nms K 400 (p + 5) - (p + 3)) (p + 3) 0 (T 5) _ _ (fun t a b => ?_) (by omega) (by omega) (by decide) ⟨(by repeat' (first | exact FR.rf | apply FR.upJ | apply FR.up | omega)), by rfl, by rfl, nI_0, ?_, fun i hi => absurd hi (Nat.not_lt_zero i), fun a j a1 a2 a3 a4 => rfl, fun t htp => rfl⟩ (fun e t I' J' he => hE e t I' J' (eL.trans he)) (fun hno I' x5 hI' => ?_)
    · intro i hi j hj
      rcases (show i = 0 ∨ i = 1 ∨ i = 2 ∨ i = 3 by omega) with rfl | rfl | rfl | rfl
      · rfl
      · rfl
      · exact up2_n (Nat.ne_of_lt hj)
      · rfl
    · exact fun i => rfl
    · rcases (show t = p + 3 ∨ t = p + 4 ∨ p + 5 ≤ t by omega) with rfl | rfl | r
      · exact e3
      · exact e4
      · exact nms_run 400 (p + 5) t r (by omega)
    · simp [up2]
    obtain ⟨i1, i2, i3, i4, i5, i6, i7, i8⟩ := hI'
    rw [show p + 3 + (nms K 400 (p + 5) - (p + 3)) = nms K 400 (p + 5) by omega]
    have c58 : ∀ i, I' 58 i = I 58 i := fun i => i7 58 i (by decide) (by decide) (by omega) (by omega)
    refine st_semi (K := K) (V := V) (M := M) ?_ hp e5 h ?_
    · exact i1.ps hK
    refine sp_X7_end7 (by exact i3) (by exact (c58 2).trans hC.1) ⟨?_, fun x5 => ?_⟩
    · rw [up2_o (by decide)]; exact i4
    refine κ (eL.trans hno) _ _ _ (FR.up (by omega) i1) ?_ (by rw [up2_o (by decide)]; exact i4) (fun t htp => ?_)
    · have ez := toF_le (own := lkT wd T 1) (b := 9 * nT T + 1) (nms K 400 (p + 5) - (p + 3)) (p + 3) (T 5) 0 (by decide)
      have elo := fun k (hk : k < 9 * nT T + 1) => toF_lo (own := lkT wd T 1) (b := 9 * nT T + 1) (nms K 400 (p + 5) - (p + 3)) (p + 3) (T 5) 0 k hk
      rw [lsT, if_neg (by omega), if_neg (by omega), if_pos e0, if_neg a2]
      have r59 : I' 59 = I 59 := by funext j; rw [i7 59 j (by decide) (by decide) (by omega) (by omega)]; simp [up2]
      have r60 : I' 60 = I 60 := by funext j; rw [i7 60 j (by decide) (by decide) (by omega) (by omega)]; simp [up2]
      have r61 : I' 61 = I 61 := by funext j; rw [i7 61 j (by decide) (by decide) (by omega) (by omega)]; simp [up2]
      have r62 : I' 62 = I 62 := by funext j; rw [i7 62 j (by decide) (by decide) (by omega) (by omega)]; simp [up2]
      have r15 : I' 15 = I 15 := by funext j; rw [i7 15 j (by decide) (by decide) (by omega) (by omega)]; simp [up2]
      have rX : ∀ a, a = 71 ∨ a = 72 ∨ a = 73 ∨ a = 74 ∨ a = 75 ∨ a = 76 → I' a = I a := fun a ha => by
        funext j
        rw [i7 a j (by omega) (by omega) (by omega) (by omega), up2_o (by omega), up2_o (by omega), up2_o (by omega), up2_o (by omega), up2_o (by omega), up2_o (by omega), up2_o (by omega), up2_o (by omega)]
      refine ⟨?_, ?_, ?_, ?_, ?_⟩
      · show pC wd (nC T) (up2 I' 58 2 (nI (nT T + 1)) 58 0) (I' 59) (J 11) (T 1) (T 11)
        rw [r59, up2_n (by decide), c58]
        exact ht.1
      · show pN wd (nN T) (up2 I' 58 2 (nI (nT T + 1)) 58 1) (I' 60) (I' 61) (I' 62) (I' 15) (J 12) (T 2) (T 3) (T 4) (T 12)
        rw [r60, r61, r62, r15, up2_n (by decide), c58]
        exact ht.2.1
      · show pT2 wd (ix (nI (nT T + 1))) _ _ _ _ _ _
        rw [ix_n (by omega)]
        refine pT2_push (z := (toT K wd T p).2) ht.2.2.1 a2b (show p + 1 < 2 ^ 31 by omega) (by rw [up2_s]) (fun k hk => ?_) (fun k hk => ?_) (fun k hk => up2_n (Nat.ne_of_lt hk)) (fun k hk => ?_) (fun k hk => by simp [ctT, setRow, upd, Nat.ne_of_lt hk]) ez ?_ (by simp [ctT, setRow, upd]) (fun i hi => ?_) up2_s (by simp [ctT, setRow, upd])
        · show I' 63 k = I 63 k
          rw [i7 63 k (by decide) (by decide) (by omega) (by omega)]
          simp [up2, Nat.ne_of_lt hk]
        · rw [up2_o (by omega)]
          funext j
          rw [i7 (65 + k) j (by omega) (by omega) (by omega) (by omega), up2_o (by omega), up2_o (by omega), up2_o (by omega), up2_o (by omega), up2_o (by omega), up2_o (by omega), up2_o (by omega), up2_o (by omega)]
        · simp only [ctT, setRow, upd]
          rw [if_neg (by decide), if_neg (by decide), if_pos trivial, upd, if_neg (by omega)]
          exact elo k (by omega)
        · exact i5
        · rw [up2_o (by omega)]
          refine (i6 i hi).trans ?_
          simp only [ctT, setRow, upd]
          rw [if_neg (by decide), if_neg (by decide), if_pos trivial, upd, if_neg (by omega)]
          rfl
      · show pK wd (nK T) (up2 I' 58 2 (nI (nT T + 1)) 58 3) (I' 71) (J 14) (T 6) (T 14)
        rw [rX 71 (by omega), up2_n (by decide), c58]
        exact ht.2.2.2.1
      · show pO (nO T) (up2 I' 58 2 (nI (nT T + 1)) 58 4) (I' 72) (I' 73) (I' 74) (I' 75) (I' 76) (T 7) (T 8) (T 9)
        rw [rX 72 (by omega), rX 73 (by omega), rX 74 (by omega), rX 75 (by omega), rX 76 (by omega), up2_n (by decide), c58]
        exact ht.2.2.2.2
    · rw [up2_o (by decide), i8 t htp]
      simp [up2, show ¬ t = p + 1 by omega]
