/-! The reference's parser: what lines leave; fresh names -/
theorem lkW_ext {wd : Nat → Nat} {f g : Nat → Int32} {N t : Nat} (h : ∀ k, k < N → f k = g k) : lkW wd f N t = lkW wd g N t := frst_ext _ _ (fun j _ hj => by rw [h j (by omega)])
def bk (T I : MI) : Prop := ((∀ i, i < 5 → I 104 i = nI (ix (T 0 i))) ∧ nC T ≤ 6 ∧ nN T ≤ 16 ∧ nT T ≤ 6 ∧ nK T ≤ 5 ∧ nO T ≤ 20) ∧ (∀ i, i < 4 → ∀ k, k < ix (T 0 i) → I (86 + i) k = T (11 + i) k) ∧ (∀ k, k < nC T → I 105 k = T 1 k) ∧ (∀ k, k < nN T → I 106 k = T 2 k ∧ I 107 k = T 3 k ∧ I 108 k = T 4 k ∧ (T 3 k = -1 ∨ ∃ i, i < k ∧ T 3 k = nI i)) ∧ (∀ a, a < nT T → ∃ y, y ≤ 8 ∧ T 5 (9 * a) = nI y ∧ I 109 (9 * a) = nI y ∧ ∀ n, n < y → I 109 (9 * a + 1 + n) = T 5 (9 * a + 1 + n)) ∧ (∀ k, k < nK T → I 110 k = T 6 k) ∧ (∀ q, q < nO T → ∀ j, j < 3 → I 111 (5 * q + j) = T 7 (5 * q + j))
theorem bk.fr {T I I' : MI} {z : Nat} (h : bk T I) (k : FRm z I I') : bk T I' := by
  obtain ⟨⟨h1, h2⟩, h3, h4, h5, h6, h7, h8⟩ := h
  have e : ∀ a, 105 ≤ a → a ≤ 111 → I' a = I a := fun a a1 a2 => funext fun j => k a j (by omega) (by omega) (by omega)
  refine ⟨⟨fun i hi => (k 104 i (by omega) (by omega) (by omega)).trans (h1 i hi), h2⟩, fun i hi j hj => (k (86 + i) j (by omega) (by omega) (by omega)).trans (h3 i hi j hj), ?_, ?_, ?_, ?_, ?_⟩
  · rw [e 105 (by decide) (by decide)]; exact h4
  · rw [e 106 (by decide) (by decide), e 107 (by decide) (by decide), e 108 (by decide) (by decide)]; exact h5
  · rw [e 109 (by decide) (by decide)]; exact h6
  · rw [e 110 (by decide) (by decide)]; exact h7
  · rw [e 111 (by decide) (by decide)]; exact h8
def vR (K : Nat → Nat) (V : Nat → Int32) (M : Nat) : Prop := ∀ t, t ≤ M → K t = 29 → inB (V t) (nI 0) 999999 = true
theorem bk.rnm {K wd : Nat → Nat} {V : Nat → Int32} {M : Nat} {T I : MI} (h : bk T I) (hn : nmO K M T) (hV : vR K V M) : rnm K wd V M (mT K wd T) I := by
  obtain ⟨⟨h1, c0, c1, c2, c3, c4⟩, h3, -⟩ := h
  have key : ∀ i, i < 4 → ∀ c : Nat → Prop, (∀ k, c k → tbI k = i) → rnT K wd M (mT K wd T) I i c (ix (T 0 i)) := by
    intro i hi c hc
    refine ⟨h1 i (by omega), fun k hk => ?_, fun t ht => ?_⟩
    · obtain ⟨s, s1, s2, s3⟩ := hn i hi k hk
      exact ⟨s, s1, s2, (h3 i hi k hk).trans s3⟩
    · rw [mT, Nat.add_sub_cancel, hc _ ht, lkT]
      exact lkW_ext (fun k hk => (h3 i hi k hk).symm)
  refine ⟨hV, ⟨nN T, c1, key 1 (by decide) _ (fun k hk => ?_)⟩, ⟨nT T, c2, key 2 (by decide) _ (fun k hk => ?_)⟩, nK T, c3, key 3 (by decide) _ (fun k hk => ?_)⟩
  · have hk : 17 ≤ k ∧ k ≤ 19 := hk
    rw [tbI, if_neg (by omega), if_neg (by omega), if_neg (by omega)]
  · have hk : k = 20 ∨ k = 22 := hk
    rw [tbI, if_neg (by omega), if_pos (by omega)]
  · have hk : k = 21 := hk
    rw [tbI, if_neg (by omega), if_neg (by omega), if_pos (by omega)]
/-- in a line: alive at p; T told -/
def rL (K wd : Nat → Nat) (V : Nat → Int32) (M : Nat) (T I : MI) (p z : Nat) (x : Option (Nat × Nat)) : Prop := rE K wd V M (mT K wd T) I 8 p z x ∧ bk T I ∧ nmO K M T
def FRl (I I' : MI) : Prop := ∀ a j, ¬ (a = 80 ∧ 14 ≤ j ∧ j ≤ 18) → ¬ (86 ≤ a ∧ a ≤ 90) → ¬ (104 ≤ a ∧ a ≤ 114) → I' a j = I a j
theorem FRl.rf {I : MI} : FRl I I := fun _ _ _ _ _ => rfl
theorem FRl.tr {I I1 I2 : MI} (h : FRl I I1) (h2 : FRl I1 I2) : FRl I I2 := fun a j a1 a2 a3 => (h2 a j a1 a2 a3).trans (h a j a1 a2 a3)
theorem FRm.l {z : Nat} {I I' : MI} (h : FRm z I I') : FRl I I' := fun a j a1 a2 a3 => h a j a1 (by omega) (by omega)
theorem FRl.up {I : MI} {a k : Nat} {v : Int32} (h : (86 ≤ a ∧ a ≤ 90) ∨ (104 ≤ a ∧ a ≤ 114)) : FRl I (up2 I a k v) := fun b j a1 a2 a3 => congrFun (up2_o (by omega)) j
def rD (M e : Nat) (I I' : MI) : Prop := FRl I I' ∧ I' 80 16 = nI e ∧ e ≤ M
theorem rD.l {M e : Nat} {I I1 I' : MI} (h : rD M e I1 I') (f : FRl I I1) : rD M e I I' := ⟨f.tr h.1, h.2.1, h.2.2⟩
theorem rD.up {M e a k : Nat} {I I' : MI} {v : Int32} (h : rD M e I I') (ha : (86 ≤ a ∧ a ≤ 90) ∨ (104 ≤ a ∧ a ≤ 114)) : rD M e I (up2 I' a k v) := ⟨h.1.tr (FRl.up ha), by rw [up2_o (by omega)]; exact h.2.1, h.2.2⟩
theorem rD.new {M e : Nat} {I I' : MI} (f : FRl I I') (he : e ≤ M) : rD M e I (up2 I' 80 16 (nI e)) := ⟨f.tr (FRm.at (z := 0) (by decide) (by decide)).l, up2_s, he⟩
theorem rE.tell {K wd : Nat → Nat} {V mm : Nat → Int32} {M : Nat} {I I' : MI} {c p z : Nat} {x x' : Option (Nat × Nat)} (h : rE K wd V M mm I c p z x) (f : tlF I I') (he : erS I' x') (hx : ∀ y, x' = some y → y.2 < p) : rE K wd V M mm I' c p z x' ∧ FRm z I I' := by
  have fm : FRm z I I' := fun a j a1 _ _ => f a j (fun q => a1 (by omega))
  obtain ⟨h1, h2, h3, h4, h5, h6, h7, h8⟩ := h
  exact ⟨⟨h1.kp fm.kp, ⟨(f 80 14 (by omega)).trans h2.1, (f 80 16 (by omega)).trans h2.2⟩, h3, ⟨(f 80 15 (by omega)).trans h4.1, h4.2⟩, he, hx, ⟨(f 104 12 (by omega)).trans h7.1, h7.2⟩, h8.fr fm⟩, fm⟩
theorem or_lt {x y : Option (Nat × Nat)} {p q : Nat} (h : ∀ w, x = some w → w.2 < p) (h2 : ∀ w, y = some w → w.2 < q) (hpq : p ≤ q) : ∀ w, x.or y = some w → w.2 < q := by
  intro w hw
  cases x with
  | none => exact h2 w hw
  | some a =>
    have e : a = w := Option.some.inj hw
    have := h a rfl
    rw [← e]
    omega
theorem rL.fr {K wd : Nat → Nat} {V : Nat → Int32} {M : Nat} {T I I' : MI} {p p' z z' : Nat} {x x' : Option (Nat × Nat)} (h : rL K wd V M T I p z x) (h2 : rE K wd V M (mT K wd T) I' 8 p' z' x') (f : FRm z I I') : rL K wd V M T I' p' z' x' := ⟨h2, h.2.1.fr f, h.2.2⟩
/-- the book was written -/
theorem rL.set {K wd : Nat → Nat} {V : Nat → Int32} {M : Nat} {T T' I I' : MI} {p z : Nat} {x : Option (Nat × Nat)} (h : rL K wd V M T I p z x) (hV : vR K V M) (f : ∀ a, ¬ (86 ≤ a ∧ a ≤ 90) → ¬ (104 ≤ a ∧ a ≤ 111) → I' a = I a) (f2 : I' 104 12 = I 104 12) (hb : bk T' I') (hn : nmO K M T') : rL K wd V M T' I' p z x := by
  obtain ⟨⟨h1, h2, h3, h4, h5, h6, h7, h8⟩, -, -⟩ := h
  have e80 := f 80 (by omega) (by omega)
  refine ⟨⟨h1.kp ⟨by rw [e80], fun a a1 a2 => f a (by omega) (by omega)⟩, ⟨by rw [e80]; exact h2.1, by rw [e80]; exact h2.2⟩, h3, ⟨by rw [e80]; exact h4.1, h4.2⟩, ?_, h6, ⟨f2.trans h7.1, h7.2⟩, hb.rnm hn hV⟩, hb, hn⟩
  cases x with
  | none => show I' 80 17 = _; rw [e80]; exact h5
  | some y => exact ⟨h5.1, by rw [e80]; exact h5.2.1, by rw [e80]; exact h5.2.2⟩
theorem er_or {a : Bool} {n k : Nat} {l : List (Bool × Nat × Nat)} {o : Option (Nat × Nat)} : er ((a, n, k) :: l) o = (if a = true then some (n, k) else none).or (er l o) := by
  cases a <;> rfl
set_option maxRecDepth 100000 in
set_option maxHeartbeats 4000000 in
theorem sp_numE {K wd : Nat → Nat} {V mm : Nat → Int32} {M : Nat} {d c p z : Nat} {lo hi : Int32} {x : Option (Nat × Nat)} {I : MI} {J : MJ} {P : MP} (hE : rE K wd V M mm I c p z x) {Q : Int32 → MI → MJ → MP → Prop} (hQ1 : K p = 29 → ∀ I', FRm z I I' → rE K wd V M mm I' c (p + 1) z (x.or (if (!inB (V p) lo hi) = true then some (5, p) else none)) → Q (V p) I' J P) (hQ0 : ¬ K p = 29 → Q (nI 0) (up2 I 80 16 (nI p)) J P) : Sp yX12_number cX12_number 3 (some .int) (d + 4) [.ref 80, .int lo, .int hi] I J P (Qi Q) := by
  refine sp_number hE.1 hE.2.1 hE.2.2.1 hE.2.2.2.2.1 (fun k1 I2 f2 a2 e2 => ?_) hQ0
  have hpM := K_lt hE.M4.2.1 hE.2.2.1 k1 (by decide)
  have hx := hE.2.2.2.2.2.1
  have eo : (if inB (V p) lo hi = true then x else tl x 5 p) = x.or (if (!inB (V p) lo hi) = true then some (5, p) else none) := by
    cases inB (V p) lo hi with
    | true => cases x <;> rfl
    | false => exact tl_or hx
  rw [eo] at e2
  obtain ⟨s1, s2⟩ := hE.mv f2 a2 e2 (or_lt hx (q := p + 1) (fun w hw => by
    by_cases r : (!inB (V p) lo hi) = true
    · rw [if_pos r] at hw
      have e := Option.some.inj hw
      rw [← e]
      exact Nat.lt_succ_self p
    · rw [if_neg r] at hw
      cases hw) (by omega)) hpM
  exact hQ1 k1 I2 s2 s1
set_option maxRecDepth 100000 in
set_option maxHeartbeats 4000000 in
theorem sp_fresh {K wd : Nat → Nat} {V mm : Nat → Int32} {M : Nat} {d c p z a N mx len : Nat} (hs : shp a = .inr (0, len)) (ha9 : 86 ≤ a ∧ a ≤ 89) (hN : N ≤ len) (hl : len ≤ 16) (hmx : mx ≤ 16) {x : Option (Nat × Nat)} {I : MI} {J : MJ} {P : MP} (hE : rE K wd V M mm I c p z x) (hnm : ∀ k, k < N → ∃ s, s ≤ M ∧ K s = 28 ∧ I a k = nI s) {Q : Int32 → MI → MJ → MP → Prop} (hQ1 : K p = 28 → ∀ I', FRm z I I' → rE K wd V M mm I' c (p + 1) z (x.or (er [(!decide (lkW wd (I a) N p = -1), 2, p), (decide (N = mx), 4, p)] none)) → Q (nI p) I' J P) (hQ0 : ¬ K p = 28 → Q (nI 0) (up2 I 80 16 (nI p)) J P) : Sp yX12_fresh cX12_fresh 5 (some .int) (d + 3) [.ref 80, .ref a, .int (nI N), .int (nI mx)] I J P (Qi Q) := by
  intro Γ h
  show VG Γ 0 0 0 [some (.ref 80), some (.ref a), some (.int (nI N)), some (.int (nI mx)), none] [] _ _ _ _
  obtain ⟨M4, K45, hp, hzp, c8⟩ := hE.M4
  have hx := hE.2.2.2.2.2.1
  refine g_aload_0 h dX12_fresh_0 ?_
  refine g_cVi0 h rok0 mi_X12_name dX12_fresh_1 ml_X12_144 rfl rfl rfl (Nat.le_of_ble_eq_true rfl) (Nat.le_of_ble_eq_true rfl) (sp_name hE.1 hE.2.1 hE.2.2.1 (fun q => ?_) (fun q => ?_))
  · have hpM := K_lt K45 hp q (by decide)
    have hE1 := hE.at hpM
    have f1 : FRm z I (up2 I 80 14 (nI (p + 1))) := FRm.at (by decide) (by decide)
    refine g_istore_4 h dX12_fresh_4 (by decide) rfl ?_
    refine g_aload_0 h dX12_fresh_6 ?_
    refine g_cVi0 h rok0 mi_X12_isOk dX12_fresh_7 ml_X12_121 rfl rfl rfl (Nat.le_of_ble_eq_true rfl) (Nat.le_of_ble_eq_true rfl) (sp_isOk_al hE1.2.1 ?_)
    refine g_if_ne h 15 dX12_fresh_10 rfl (fun _ => ?_) (fun c => absurd c (by decide))
    refine g_aload_0 h dX12_fresh_15 ?_
    refine g_aload_1 h dX12_fresh_16 ?_
    refine g_iload_2 h dX12_fresh_17 ?_
    refine g_iload_4 h dX12_fresh_18 ?_
    refine g_cVi3 h rok0 mi_X12_find dX12_fresh_20 ml_X12_147 rfl rfl rfl (Nat.le_of_ble_eq_true rfl) (Nat.le_of_ble_eq_true rfl) (sp_find hs hN hp q hE1.1 (by rw [up2_o (by omega)]; exact hnm) ?_)
    rw [show up2 I 80 14 (nI (p + 1)) a = I a from up2_o (by omega)]
    refine g_iconst h dX12_fresh_23 (v := (-1)) rfl ?_
    refine g_icmp_eq h 34 dX12_fresh_24 rfl (fun c24 => ?_) (fun c24 => ?_)
    · refine g_iload_2 h dX12_fresh_34 ?_
      refine g_iload_3 h dX12_fresh_35 ?_
      refine g_icmp_ne h 46 dX12_fresh_36 rfl (fun c36 => ?_) (fun c36 => ?_)
      · refine g_iload_4 h dX12_fresh_46 ?_
        refine g_iret h dX12_fresh_48 ?_
        have z1 : lkW wd (I a) N p = -1 := by first | exact c24 | exact Classical.not_not.mp c24
        have z0 : ¬ N = mx := fun r => c36 (by rw [r])
        refine hQ1 q _ f1 ?_
        rw [er, if_neg (by simp [z1]), er, if_neg (by simp [z0]), er, Option.or_none]
        exact hE1
      · refine g_aload_0 h dX12_fresh_39 ?_
        refine g_iconst h dX12_fresh_40 (v := nI 4) rfl ?_
        refine g_iload_4 h dX12_fresh_41 ?_
        refine g_cVv2 h rok0 mi_X12_tell dX12_fresh_43 ml_X12_151 rfl rfl rfl (Nat.le_of_ble_eq_true rfl) (Nat.le_of_ble_eq_true rfl) (sp_tell (by decide) (by omega) hE1.2.2.2.2.1 (fun I3 f3 e3 => ?_))
        · refine g_iload_4 h dX12_fresh_46 ?_
          refine g_iret h dX12_fresh_48 ?_
          have z1 : lkW wd (I a) N p = -1 := by first | exact c24 | exact Classical.not_not.mp c24
          have z0 : N = mx := eqN (by first | exact c36 | exact Classical.not_not.mp c36) (by omega) (by omega)
          rw [tl_or hx] at e3
          obtain ⟨u1, u2⟩ := hE1.tell f3 e3 (or_lt hx (fun w hw => by rw [← Option.some.inj hw]; exact Nat.lt_succ_self p) (by omega))
          refine hQ1 q I3 (f1.tr u2 (Nat.le_refl _)) ?_
          rw [er, if_neg (by simp [z1]), er, if_pos (by simp [z0])]
          exact u1
    · refine g_aload_0 h dX12_fresh_27 ?_
      refine g_iconst h dX12_fresh_28 (v := nI 2) rfl ?_
      refine g_iload_4 h dX12_fresh_29 ?_
      refine g_cVv2 h rok0 mi_X12_tell dX12_fresh_31 ml_X12_151 rfl rfl rfl (Nat.le_of_ble_eq_true rfl) (Nat.le_of_ble_eq_true rfl) (sp_tell (by decide) (by omega) hE1.2.2.2.2.1 (fun I2 f2 e2 => ?_))
      · have z1 : ¬ lkW wd (I a) N p = -1 := by first | exact c24 | exact fun r => c24 r
        rw [tl_or hx] at e2
        obtain ⟨s1, s2⟩ := hE1.tell f2 e2 (or_lt hx (fun w hw => by rw [← Option.some.inj hw]; exact Nat.lt_succ_self p) (by omega))
        have s3 := f1.tr s2 (Nat.le_refl _)
        refine g_iload_2 h dX12_fresh_34 ?_
        refine g_iload_3 h dX12_fresh_35 ?_
        refine g_icmp_ne h 46 dX12_fresh_36 rfl (fun c36 => ?_) (fun c36 => ?_)
        · refine g_iload_4 h dX12_fresh_46 ?_
          refine g_iret h dX12_fresh_48 ?_
          refine hQ1 q I2 s3 ?_
          rw [er, if_pos (by simp [z1])]
          exact s1
        · refine g_aload_0 h dX12_fresh_39 ?_
          refine g_iconst h dX12_fresh_40 (v := nI 4) rfl ?_
          refine g_iload_4 h dX12_fresh_41 ?_
          refine g_cVv2 h rok0 mi_X12_tell dX12_fresh_43 ml_X12_151 rfl rfl rfl (Nat.le_of_ble_eq_true rfl) (Nat.le_of_ble_eq_true rfl) (sp_tell (by decide) (by omega) s1.2.2.2.2.1 (fun I3 f3 e3 => ?_))
          · refine g_iload_4 h dX12_fresh_46 ?_
            refine g_iret h dX12_fresh_48 ?_
            have z0 : N = mx := eqN (by first | exact c36 | exact Classical.not_not.mp c36) (by omega) (by omega)
            have t0 : tl (x.or (some (2, p))) 4 p = x.or (some (2, p)) := by
              cases x with
              | none => rw [show (none : Option (Nat × Nat)).or (some (2, p)) = some (2, p) from rfl, tl, if_neg (fun r => absurd (show 4 < 2 from r.2) (by decide))]
              | some w =>
                have := hx w rfl
                rw [show (some w).or (some (2, p)) = some w from rfl, tl, if_neg (fun r => by omega)]
            rw [t0] at e3
            obtain ⟨u1, u2⟩ := s1.tell f3 e3 (or_lt hx (fun w hw => by rw [← Option.some.inj hw]; exact Nat.lt_succ_self p) (by omega))
            refine hQ1 q I3 (s3.tr u2 (Nat.le_refl _)) ?_
            rw [er, if_pos (by simp [z1])]
            exact u1
  · refine g_istore_4 h dX12_fresh_4 (by decide) rfl ?_
    refine g_aload_0 h dX12_fresh_6 ?_
    refine g_cVi0 h rok0 mi_X12_isOk dX12_fresh_7 ml_X12_121 rfl rfl rfl (Nat.le_of_ble_eq_true rfl) (Nat.le_of_ble_eq_true rfl) (sp_isOk_dd (f := p) (by omega) up2_s ?_)
    refine g_if_ne h 15 dX12_fresh_10 rfl (fun c => absurd c (by decide)) (fun _ => ?_)
    refine g_iconst h dX12_fresh_13 (v := nI 0) rfl ?_
    refine g_iret h dX12_fresh_14 ?_
    exact hQ0 q
set_option maxRecDepth 100000 in
set_option maxHeartbeats 4000000 in
theorem sp_fresh_dd {d a : Nat} {n m : Int32} {I : MI} {J : MJ} {P : MP} {f : Nat} (hf4 : f < 2 ^ 31) (hf : I 80 16 = nI f) {Q : Int32 → MI → MJ → MP → Prop} (hQ : Q (nI 0) I J P) : Sp yX12_fresh cX12_fresh 5 (some .int) (d + 3) [.ref 80, .ref a, .int n, .int m] I J P (Qi Q) := by
  intro Γ h
  show VG Γ 0 0 0 [some (.ref 80), some (.ref a), some (.int n), some (.int m), none] [] _ _ _ _
  refine g_aload_0 h dX12_fresh_0 ?_
  refine g_cVi0 h rok0 mi_X12_name dX12_fresh_1 ml_X12_144 rfl rfl rfl (Nat.le_of_ble_eq_true rfl) (Nat.le_of_ble_eq_true rfl) (sp_name_dd hf4 hf ?_)
  refine g_istore_4 h dX12_fresh_4 (by decide) rfl ?_
  refine g_aload_0 h dX12_fresh_6 ?_
  refine g_cVi0 h rok0 mi_X12_isOk dX12_fresh_7 ml_X12_121 rfl rfl rfl (Nat.le_of_ble_eq_true rfl) (Nat.le_of_ble_eq_true rfl) (sp_isOk_dd hf4 hf ?_)
  refine g_if_ne h 15 dX12_fresh_10 rfl (fun c => absurd c (by decide)) (fun _ => ?_)
  refine g_iconst h dX12_fresh_13 (v := nI 0) rfl ?_
  refine g_iret h dX12_fresh_14 ?_
  exact hQ
