/-! what an order is told to mean -/
theorem upd_s {f : Nat → Int32} {k : Nat} {v : Int32} : upd f k v k = v := by simp [upd]
theorem upd_n {f : Nat → Int32} {k j : Nat} {v : Int32} (h : j ≠ k) : upd f k v j = f j := by simp [upd, h]
theorem nO_ct {T' : MI} {n : Nat} (h : n < 2 ^ 31) : nO (ctT T' 4 n) = n := by
  unfold nO ctT
  rw [setRow_s, upd_s, ix_n h]
theorem nO_ls {K : Nat → Nat} {V : Nat → Int32} {wd : Nat → Nat} {ca : Nat → Int32} {T : MI} {p : Nat} (h : ¬ (K p = 0 ∨ K p = 2 ∨ K p = 7 ∨ K p = 9)) (h20 : ¬ nO T = 20) (hl : nO T ≤ 20) : nO (lsT K V wd ca T p) = nO T + 1 := by
  unfold lsT
  rw [if_neg (by omega), if_neg (by omega), if_neg (by omega), if_neg (by omega), if_neg h20]
  exact nO_ct (by omega)
def agr (K : Nat → Nat) (m m' : Nat → Int32) (ev ev' : Nat → Int32 → Int32) (a b : Nat) : Prop := ev 16 (nI 0) = ev' 16 (nI 0) ∧ ∀ t, a ≤ t → t < b → K t = 28 → ∀ k, 17 ≤ k → k ≤ 22 → ev k (m t) = ev' k (m' t)
theorem agr.in {K : Nat → Nat} {m m' : Nat → Int32} {ev ev' : Nat → Int32 → Int32} {a b a' b' : Nat} (h : agr K m m' ev ev' a b) (h1 : a ≤ a') (h2 : b' ≤ b) : agr K m m' ev ev' a' b' := ⟨h.1, fun t t1 t2 => h.2 t (by omega) (by omega)⟩
def gA (K : Nat → Nat) (M : Nat) (m m' : Nat → Int32) (ev ev' : Nat → Int32 → Int32) (g g' : Nat → PRs) : Prop := ∀ p, p ≤ M → agr K m m' ev ev' p (g p).2.1 → (g p).2.2 ev = (g' p).2.2 ev'
section
variable {K : Nat → Nat} {M : Nat} {V m m' : Nat → Int32} {ev ev' : Nat → Int32 → Int32}
theorem wtE_A {w : Nat} {A B A' B' : EX} (hA : A ev = A' ev') (hB : B ev = B' ev') : wtE w A B ev = wtE w A' B' ev' := by
  unfold wtE
  by_cases h : w = 48
  · rw [if_pos h, if_pos h]; exact hB
  · rw [if_neg h, if_neg h]
    show joF w (A ev) (B ev) = joF w (A' ev') (B' ev')
    rw [hA, hB]
theorem joE_A {w : Nat} {A B A' B' : EX} (hA : A ev = A' ev') (hB : B ev = B' ev') : joE w A B ev = joE w A' B' ev' := by
  show joF w (A ev) (B ev) = joF w (A' ev') (B' ev')
  rw [hA, hB]
theorem opL_A {lo hi : Nat} {cl : Nat → Bool} {g g' : Nat → PRs} (hM : 45 ≤ K M) (hh : hi < 45) (hB : gB M g) (he : ∀ p, eqv (g p) (g' p)) (hg : gA K M m m' ev ev' g g') : ∀ (f p w : Nat) (A B A' B' : EX), p ≤ M → A ev = A' ev' → B ev = B' ev' → agr K m m' ev ev' p (opL K lo hi cl g f p w A B).2.1 → (opL K lo hi cl g f p w A B).2.2 ev = (opL K lo hi cl g' f p w A' B').2.2 ev' := by
  intro f
  induction f with
  | zero => exact fun p w A B A' B' _ hA hB _ => wtE_A hA hB
  | succ f ih =>
    intro p w A B A' B' hp eA eB ha
    rw [opL_st] at ha ⊢
    rw [opL_st (g := g')]
    by_cases hc : lo ≤ K p ∧ K p ≤ hi
    · rw [if_pos hc] at ha ⊢
      rw [if_pos hc]
      have hp1 := K_lt2 hM hp (by omega)
      obtain ⟨b1, b2, b3⟩ := hB (p + 1) (by omega)
      obtain ⟨e1, e2⟩ := he (p + 1)
      by_cases h1 : (g (p + 1)).1 = true
      · rw [if_pos h1] at ha ⊢
        rw [if_pos (e1.symm.trans h1), ← e2]
        obtain ⟨c1, c2⟩ := opL_B (lo := lo) (cl := cl) hM hh hB f (g (p + 1)).2.1 (if cl (K p) then w else K p) (if cl (K p) then A else wtE w A B) (if cl (K p) then joE (K p) B (g (p + 1)).2.2 else (g (p + 1)).2.2) b2
        have eg := hg (p + 1) (by omega) (ha.in (by omega) c1)
        refine ih _ _ _ _ _ _ b2 ?_ ?_ (ha.in (by omega) (Nat.le_refl _))
        · cases cl (K p) with
          | true => exact eA
          | false => exact wtE_A eA eB
        · cases cl (K p) with
          | true => exact joE_A eB eg
          | false => exact eg
      · rw [if_neg h1]
        rw [if_neg (by rw [← e1]; exact h1)]
        rfl
    · rw [if_neg hc]
      rw [if_neg hc]
      exact wtE_A eA eB
theorem opS_A {lo hi : Nat} {cl : Nat → Bool} {g g' : Nat → PRs} (hM : 45 ≤ K M) (hh : hi < 45) (hB : gB M g) (he : ∀ p, eqv (g p) (g' p)) (hg : gA K M m m' ev ev' g g') : gA K M m m' ev ev' (opS K lo hi cl g) (opS K lo hi cl g') := by
  intro p hp ha
  unfold opS at ha ⊢
  obtain ⟨b1, b2, b3⟩ := hB p hp
  obtain ⟨e1, e2⟩ := he p
  by_cases h1 : (g p).1 = true
  · rw [if_pos h1] at ha ⊢
    rw [if_pos (e1.symm.trans h1), ← e2]
    obtain ⟨c1, c2⟩ := opL_B (lo := lo) (cl := cl) hM hh hB 401 (g p).2.1 48 zE (g p).2.2 b2
    exact opL_A hM hh hB he hg _ _ _ _ _ _ _ b2 rfl (hg p hp (ha.in (Nat.le_refl _) c1)) (ha.in b1 (Nat.le_refl _))
  · rw [if_neg h1]
    rw [if_neg (by rw [← e1]; exact h1)]
    rfl
theorem cloP_A {k : Nat} {r r' : PRs} (he : eqv r r') (h : r.1 = true → r.2.2 ev = r'.2.2 ev') : (cloP K k r).2.2 ev = (cloP K k r').2.2 ev' := by
  unfold cloP
  obtain ⟨e1, e2⟩ := he
  by_cases h1 : r.1 = true
  · rw [if_pos h1, if_pos (e1.symm.trans h1), ← e2]
    by_cases h2 : K r.2.1 = k
    · rw [if_pos h2, if_pos h2]
      exact h h1
    · rw [if_neg h2, if_neg h2]
      rfl
  · rw [if_neg h1, if_neg (by rw [← e1]; exact h1)]
    rfl
theorem cloP_le {k : Nat} {r : PRs} : r.2.1 ≤ (cloP K k r).2.1 := by
  unfold cloP
  by_cases h1 : r.1 = true
  · rw [if_pos h1]
    by_cases h2 : K r.2.1 = k
    · rw [if_pos h2]; exact Nat.le_succ _
    · rw [if_neg h2]; exact Nat.le_refl _
  · rw [if_neg h1]; exact Nat.le_refl _
theorem pV_A (hM : 45 ≤ K M) : ∀ c, gA K M m m' ev ev' (pV K V m c) (pV K V m' c) := by
  have key : ∀ (b : Bool) (g g' : Nat → PRs), (b = true → gB M g) → (∀ p, eqv (g p) (g' p)) → (b = true → gA K M m m' ev ev' g g') → gA K M m m' ev ev' (vS K V m b g) (vS K V m' b g') := by
    intro b g g' hB he hg p hp ha
    unfold vS at ha ⊢
    by_cases h1 : K p = 29
    · rw [if_pos h1]
      rw [if_pos h1]
    rw [if_neg h1] at ha ⊢
    rw [if_neg h1]
    by_cases h2 : K p = 16
    · rw [if_pos h2]
      rw [if_pos h2]
      exact ha.1
    rw [if_neg h2] at ha ⊢
    rw [if_neg h2]
    by_cases h3 : 17 ≤ K p ∧ K p ≤ 21
    · rw [if_pos h3] at ha ⊢
      rw [if_pos h3]
      by_cases h4 : K (p + 1) = 28
      · rw [if_pos h4] at ha ⊢
        rw [if_pos h4]
        exact ha.2 (p + 1) (by omega) (by show p + 1 < p + 2; omega) h4 (K p) h3.1 (by omega)
      · rw [if_neg h4]
        rw [if_neg h4]
        rfl
    rw [if_neg h3] at ha ⊢
    rw [if_neg h3]
    by_cases h4 : K p = 37
    · rw [if_pos h4] at ha ⊢
      rw [if_pos h4]
      have hp1 := K_lt hM hp h4 (by decide)
      cases b with
      | true =>
        have e := hg rfl (p + 1) (by omega) (ha.in (by omega) (Nat.le_refl _))
        show -((g (p + 1)).2.2 ev) = -((g' (p + 1)).2.2 ev')
        rw [e]
      | false => rfl
    rw [if_neg h4] at ha ⊢
    rw [if_neg h4]
    by_cases h5 : K p = 30
    · rw [if_pos h5] at ha ⊢
      rw [if_pos h5]
      have hp1 := K_lt hM hp h5 (by decide)
      cases b with
      | true => exact cloP_A (opS_eqv he _) (fun _ => opS_A hM (by decide) (hB rfl) he (hg rfl) (p + 1) (by omega) (ha.in (by omega) cloP_le))
      | false => rfl
    rw [if_neg h5] at ha ⊢
    rw [if_neg h5]
    by_cases h6 : K p = 26 ∨ K p = 27
    · rw [if_pos h6] at ha ⊢
      rw [if_pos h6]
      by_cases h7 : b = true ∧ K (p + 1) = 30
      · rw [if_pos h7] at ha ⊢
        rw [if_pos h7]
        have q1 := K_lt2 hM hp (by omega)
        have q2 := K_lt (p := p + 1) hM (by omega) h7.2 (by decide)
        have B1 := opS_B (lo := 36) (cl := clS) hM (show 39 < 45 by decide) (hB h7.1)
        have A1 := opS_A (lo := 36) (cl := clS) hM (show 39 < 45 by decide) (hB h7.1) he (hg h7.1)
        have v1 := cloP_eqv (K := K) (k := 35) (opS_eqv (K := K) (lo := 36) (hi := 39) (cl := clS) he (p + 2))
        obtain ⟨b1, b2, b3⟩ := B1 (p + 2) (by omega)
        obtain ⟨c1, c2, c3⟩ := cloP_B (r := opS K 36 39 clS g (p + 2)) (k := 35) hM (by decide) b2
        by_cases h8 : (cloP K 35 (opS K 36 39 clS g (p + 2))).1 = true
        · rw [if_pos h8] at ha ⊢
          rw [if_pos (v1.1.symm.trans h8), ← v1.2]
          have ha : agr K m m' ev ev' p (cloP K 31 (opS K 36 39 clS g (cloP K 35 (opS K 36 39 clS g (p + 2))).2.1)).2.1 := ha
          obtain ⟨d1, d2, d3⟩ := B1 _ c2
          have z1 := cloP_le (K := K) (k := 31) (r := opS K 36 39 clS g (cloP K 35 (opS K 36 39 clS g (p + 2))).2.1)
          refine joE_A ?_ ?_
          · exact cloP_A (opS_eqv he _) (fun _ => A1 (p + 2) (by omega) (ha.in (by omega) (by omega)))
          · exact cloP_A (opS_eqv he _) (fun _ => A1 _ c2 (ha.in (by omega) z1))
        · rw [if_neg h8]
          rw [if_neg (by rw [← v1.1]; exact h8)]
          rfl
      · rw [if_neg h7]
        rw [if_neg h7]
        rfl
    · rw [if_neg h6]
      rw [if_neg h6]
      rfl
  intro c
  induction c with
  | zero => exact key false _ _ (fun q => Bool.noConfusion q) (fun p => ⟨rfl, rfl⟩) (fun q => Bool.noConfusion q)
  | succ c ih => exact key true _ _ (fun _ => pV_B hM c) (pV_eqv c) (fun _ => ih)
theorem pS_A (hM : 45 ≤ K M) (c : Nat) : gA K M m m' ev ev' (pS K V m c) (pS K V m' c) := opS_A hM (by decide) (pV_B hM c) (pV_eqv c) (pV_A hM c)
theorem p1_A (hM : 45 ≤ K M) : ∀ c, gA K M m m' ev ev' (p1 K V m c) (p1 K V m' c) := by
  have key : ∀ (b : Bool) (gs gt sm gs' gt' sm' : Nat → PRs), (b = true → gB M gs) → (b = true → gB M gt) → gB M sm → (∀ p, eqv (gs p) (gs' p)) → (∀ p, eqv (gt p) (gt' p)) → (∀ p, eqv (sm p) (sm' p)) → (b = true → gA K M m m' ev ev' gs gs') → (b = true → gA K M m m' ev ev' gt gt') → gA K M m m' ev ev' sm sm' → gA K M m m' ev ev' (sS K m b gs gt sm) (sS K m' b gs' gt' sm') := by
    intro b gs gt sm gs' gt' sm' B1 B2 B3 E1 E2 E3 A1 A2 A3 p hp ha
    unfold sS at ha ⊢
    by_cases h1 : K p = 23
    · rw [if_pos h1] at ha ⊢
      rw [if_pos h1]
      have hp1 := K_lt hM hp h1 (by decide)
      cases b with
      | true =>
        have e := A1 rfl (p + 1) (by omega) (ha.in (by omega) (Nat.le_refl _))
        show nI 1 - (gs (p + 1)).2.2 ev = nI 1 - (gs' (p + 1)).2.2 ev'
        rw [e]
      | false => rfl
    rw [if_neg h1] at ha ⊢
    rw [if_neg h1]
    by_cases h2 : K p = 32
    · rw [if_pos h2] at ha ⊢
      rw [if_pos h2]
      have hp1 := K_lt hM hp h2 (by decide)
      cases b with
      | true => exact cloP_A (E2 _) (fun _ => A2 rfl (p + 1) (by omega) (ha.in (by omega) cloP_le))
      | false => rfl
    rw [if_neg h2] at ha ⊢
    rw [if_neg h2]
    by_cases h3 : K p = 22
    · rw [if_pos h3] at ha ⊢
      rw [if_pos h3]
      by_cases h4 : K (p + 1) = 28
      · rw [if_pos h4] at ha ⊢
        rw [if_pos h4]
        exact ha.2 (p + 1) (by omega) (by show p + 1 < p + 2; omega) h4 22 (by decide) (by decide)
      · rw [if_neg h4]
        rw [if_neg h4]
        rfl
    rw [if_neg h3] at ha ⊢
    rw [if_neg h3]
    obtain ⟨e1, e2⟩ := E3 p
    obtain ⟨b1, b2, b3⟩ := B3 p hp
    by_cases h4 : (sm p).1 = true
    · rw [if_pos h4] at ha ⊢
      rw [if_pos (e1.symm.trans h4), ← e2]
      by_cases h5 : 40 ≤ K (sm p).2.1 ∧ K (sm p).2.1 ≤ 44
      · rw [if_pos h5] at ha ⊢
        rw [if_pos h5]
        have q1 := K_lt2 hM b2 (by omega)
        obtain ⟨d1, d2, d3⟩ := B3 ((sm p).2.1 + 1) (by omega)
        have ha : agr K m m' ev ev' p (sm ((sm p).2.1 + 1)).2.1 := ha
        exact joE_A (A3 p hp (ha.in (Nat.le_refl _) (by omega))) (A3 _ (by omega) (ha.in (by omega) (Nat.le_refl _)))
      · rw [if_neg h5]
        rw [if_neg h5]
        rfl
    · rw [if_neg h4]
      rw [if_neg (by rw [← e1]; exact h4)]
      rfl
  intro c
  induction c with
  | zero => exact key false _ _ _ _ _ _ (fun q => Bool.noConfusion q) (fun q => Bool.noConfusion q) (pS_B hM 0) (fun p => ⟨rfl, rfl⟩) (fun p => ⟨rfl, rfl⟩) (pS_eqv 0) (fun q => Bool.noConfusion q) (fun q => Bool.noConfusion q) (pS_A hM 0)
  | succ c ih => exact key true _ _ _ _ _ _ (fun _ => p1_B hM c) (fun _ => opS_B hM (by decide) (p1_B hM c)) (pS_B hM (c + 1)) (p1_eqv c) (opS_eqv (p1_eqv c)) (pS_eqv (c + 1)) (fun _ => ih) (fun _ => opS_A hM (by decide) (p1_B hM c) (p1_eqv c) ih) (pS_A hM (c + 1))
theorem pT_A (hM : 45 ≤ K M) (c : Nat) : gA K M m m' ev ev' (pT K V m c) (pT K V m' c) := opS_A hM (by decide) (p1_B hM c) (p1_eqv c) (p1_A hM c)
end
theorem fbd_no {K : Nat → Nat} {mm : Nat → Int32} : ∀ (f s : Nat), fbd K mm f s = none → ∀ t, s ≤ t → t < s + f → K t = 28 → ¬ mm t = -1 := by
  intro f
  induction f with
  | zero => intro s _ t a b; omega
  | succ f ih =>
    intro s h t a b k q
    rw [fbd] at h
    by_cases c : K s = 28 ∧ mm s = -1
    · rw [if_pos c] at h; cases h
    · rw [if_neg c] at h
      by_cases e : t = s
      · subst e
        exact c ⟨k, q⟩
      · exact ih (s + 1) h t (by omega) (by omega) k q
def cb (T : MI) : Prop := nC T ≤ 6 ∧ nN T ≤ 16 ∧ nT T ≤ 6 ∧ nK T ≤ 5 ∧ nO T ≤ 20
def cm (T T' : MI) : Prop := nC T ≤ nC T' ∧ nN T ≤ nN T' ∧ nT T ≤ nT T' ∧ nK T ≤ nK T' ∧ nO T ≤ nO T'
theorem cm.rf {T : MI} : cm T T := ⟨Nat.le_refl _, Nat.le_refl _, Nat.le_refl _, Nat.le_refl _, Nat.le_refl _⟩
theorem cm.tr {T T1 T2 : MI} (h : cm T T1) (k : cm T1 T2) : cm T T2 := ⟨Nat.le_trans h.1 k.1, Nat.le_trans h.2.1 k.2.1, Nat.le_trans h.2.2.1 k.2.2.1, Nat.le_trans h.2.2.2.1 k.2.2.2.1, Nat.le_trans h.2.2.2.2 k.2.2.2.2⟩
theorem ct_cb {T T' : MI} {i n : Nat} (h : cb T) (e : T' 0 = T 0) (hi : (i = 0 ∧ n = nC T + 1 ∧ nC T ≠ 6) ∨ (i = 1 ∧ n = nN T + 1 ∧ nN T ≠ 16) ∨ (i = 2 ∧ n = nT T + 1 ∧ nT T ≠ 6) ∨ (i = 3 ∧ n = nK T + 1 ∧ nK T ≠ 5) ∨ (i = 4 ∧ n = nO T + 1 ∧ nO T ≠ 20)) : cb (ctT T' i n) ∧ cm T (ctT T' i n) := by
  obtain ⟨h0, h1, h2, h3, h4⟩ := h
  have key : ∀ j, ix (ctT T' i n 0 j) = if j = i then n else ix (T 0 j) := fun j => by
    show ix (upd (T' 0) i (nI n) j) = _
    by_cases q : j = i
    · rw [if_pos q, q, upd_s, ix_n (by omega)]
    · rw [if_neg q, upd_n q, e]
  have a0 : nC (ctT T' i n) = if 0 = i then n else nC T := key 0
  have a1 : nN (ctT T' i n) = if 1 = i then n else nN T := key 1
  have a2 : nT (ctT T' i n) = if 2 = i then n else nT T := key 2
  have a3 : nK (ctT T' i n) = if 3 = i then n else nK T := key 3
  have a4 : nO (ctT T' i n) = if 4 = i then n else nO T := key 4
  unfold cb cm
  rw [a0, a1, a2, a3, a4]
  rcases hi with ⟨rfl, b, c⟩ | ⟨rfl, b, c⟩ | ⟨rfl, b, c⟩ | ⟨rfl, b, c⟩ | ⟨rfl, b, c⟩ <;> simp <;> omega
section
variable {K : Nat → Nat} {V : Nat → Int32} {wd : Nat → Nat} {ca : Nat → Int32}
theorem cb_ls {T : MI} {p : Nat} (h : cb T) : cb (lsT K V wd ca T p) ∧ cm T (lsT K V wd ca T p) := by
  unfold lsT
  by_cases e0 : K p = 0
  · rw [if_pos e0]
    by_cases c : nC T = 6
    · rw [if_pos c]; exact ⟨h, cm.rf⟩
    · rw [if_neg c]; exact ct_cb h (by simp [setRow]) (Or.inl ⟨rfl, rfl, c⟩)
  rw [if_neg e0]
  by_cases e2 : K p = 2
  · rw [if_pos e2]
    by_cases c : nN T = 16
    · rw [if_pos c]; exact ⟨h, cm.rf⟩
    · rw [if_neg c]; exact ct_cb h (by simp [setRow]) (Or.inr (Or.inl ⟨rfl, rfl, c⟩))
  rw [if_neg e2]
  by_cases e7 : K p = 7
  · rw [if_pos e7]
    by_cases c : nT T = 6
    · rw [if_pos c]; exact ⟨h, cm.rf⟩
    · rw [if_neg c]; exact ct_cb h (by simp [setRow]) (Or.inr (Or.inr (Or.inl ⟨rfl, rfl, c⟩)))
  rw [if_neg e7]
  by_cases e9 : K p = 9
  · rw [if_pos e9]
    by_cases c : nK T = 5
    · rw [if_pos c]; exact ⟨h, cm.rf⟩
    · rw [if_neg c]; exact ct_cb h (by simp [setRow]) (Or.inr (Or.inr (Or.inr (Or.inl ⟨rfl, rfl, c⟩))))
  rw [if_neg e9]
  by_cases c : nO T = 20
  · rw [if_pos c]; exact ⟨h, cm.rf⟩
  · rw [if_neg c]; exact ct_cb h (by simp [setRow]) (Or.inr (Or.inr (Or.inr (Or.inr ⟨rfl, rfl, c⟩))))
theorem lsT_ot {T : MI} {p : Nat} (h : K p = 0 ∨ K p = 2 ∨ K p = 7 ∨ K p = 9) : nO (lsT K V wd ca T p) = nO T ∧ ∀ i, 7 ≤ i → i ≤ 9 → lsT K V wd ca T p i = T i := by
  have ct : ∀ (T' : MI) (i n : Nat), i < 4 → T' 0 4 = T 0 4 → (∀ i, 7 ≤ i → i ≤ 9 → T' i = T i) → nO (ctT T' i n) = nO T ∧ ∀ j, 7 ≤ j → j ≤ 9 → ctT T' i n j = T j := fun T' i n hi e f => by
    refine ⟨?_, fun j j1 j2 => ?_⟩
    · show ix (upd (T' 0) i (nI n) 4) = ix (T 0 4)
      rw [upd_n (by omega), e]
    · unfold ctT
      rw [setRow_o (by omega)]
      exact f j j1 j2
  have so : ∀ (T' : MI) (a : Nat) (r : Nat → Int32), ¬ (7 ≤ a ∧ a ≤ 9) → (∀ i, 7 ≤ i → i ≤ 9 → T' i = T i) → ∀ i, 7 ≤ i → i ≤ 9 → setRow T' a r i = T i := fun T' a r ha f i i1 i2 => by
    rw [setRow_o (by omega)]; exact f i i1 i2
  have t0 : ∀ i, 7 ≤ i → i ≤ 9 → T i = T i := fun _ _ _ => rfl
  unfold lsT
  rcases h with e | e | e | e
  · rw [if_pos e]
    by_cases c : nC T = 6
    · rw [if_pos c]; exact ⟨rfl, t0⟩
    · rw [if_neg c]
      exact ct _ 0 _ (by decide) (by simp [setRow]) (so _ _ _ (by omega) (so _ _ _ (by omega) t0))
  · rw [if_neg (by omega), if_pos e]
    by_cases c : nN T = 16
    · rw [if_pos c]; exact ⟨rfl, t0⟩
    · rw [if_neg c]
      exact ct _ 1 _ (by decide) (by simp [setRow]) (so _ _ _ (by omega) (so _ _ _ (by omega) (so _ _ _ (by omega) (so _ _ _ (by omega) t0))))
  · rw [if_neg (by omega), if_neg (by omega), if_pos e]
    by_cases c : nT T = 6
    · rw [if_pos c]; exact ⟨rfl, t0⟩
    · rw [if_neg c]
      exact ct _ 2 _ (by decide) (by simp [setRow]) (so _ _ _ (by omega) (so _ _ _ (by omega) t0))
  · rw [if_neg (by omega), if_neg (by omega), if_neg (by omega), if_pos e]
    by_cases c : nK T = 5
    · rw [if_pos c]; exact ⟨rfl, t0⟩
    · rw [if_neg c]
      exact ct _ 3 _ (by decide) (by simp [setRow]) (so _ _ _ (by omega) (so _ _ _ (by omega) t0))
theorem lsT_od {T : MI} {p : Nat} (h : ¬ (K p = 0 ∨ K p = 2 ∨ K p = 7 ∨ K p = 9)) (h20 : ¬ nO T = 20) : lsT K V wd ca T p 7 = upd (upd (upd (T 7) (5 * nO T) (nI (K p))) (5 * nO T + 1) (mT K wd T (p + 1))) (5 * nO T + 2) (mT K wd T (p + 3)) ∧ lsT K V wd ca T p 8 = upd (T 8) (nO T) (ca (q1L K p)) ∧ lsT K V wd ca T p 9 = upd (T 9) (nO T) (ca ((pL K p).2 - 1)) := by
  unfold lsT
  rw [if_neg (by omega), if_neg (by omega), if_neg (by omega), if_neg (by omega), if_neg h20]
  refine ⟨?_, ?_, ?_⟩ <;> simp [ctT, setRow]
theorem lsT_row {T : MI} {p q : Nat} (hq : q < nO T) : (∀ j, j < 5 → lsT K V wd ca T p 7 (5 * q + j) = T 7 (5 * q + j)) ∧ lsT K V wd ca T p 8 q = T 8 q ∧ lsT K V wd ca T p 9 q = T 9 q := by
  by_cases h : K p = 0 ∨ K p = 2 ∨ K p = 7 ∨ K p = 9
  · have e := (lsT_ot (K := K) (V := V) (wd := wd) (ca := ca) (T := T) h).2
    rw [e 7 (by decide) (by decide), e 8 (by decide) (by decide), e 9 (by decide) (by decide)]
    exact ⟨fun _ _ => rfl, rfl, rfl⟩
  · by_cases h20 : nO T = 20
    · have e : lsT K V wd ca T p = T := by
        unfold lsT
        rw [if_neg (by omega), if_neg (by omega), if_neg (by omega), if_neg (by omega), if_pos h20]
      rw [e]
      exact ⟨fun _ _ => rfl, rfl, rfl⟩
    · obtain ⟨e7, e8, e9⟩ := lsT_od (K := K) (V := V) (wd := wd) (ca := ca) (p := p) h h20
      rw [e7, e8, e9]
      exact ⟨fun j hj => by rw [upd_n (by omega), upd_n (by omega), upd_n (by omega)], upd_n (by omega), upd_n (by omega)⟩
theorem cb_sm : ∀ (f : Nat) (T : MI) (p : Nat), cb T → cb (smT K V wd ca f T p) ∧ cm T (smT K V wd ca f T p) := by
  intro f
  induction f with
  | zero => exact fun T p h => ⟨h, cm.rf⟩
  | succ f ih =>
    intro T p h
    rw [smT]
    by_cases k : K p = 45
    · rw [if_pos k]; exact ⟨h, cm.rf⟩
    · rw [if_neg k]
      obtain ⟨a, b⟩ := cb_ls (K := K) (V := V) (wd := wd) (ca := ca) (p := p) h
      obtain ⟨c, d⟩ := ih _ (pL K p).2 a
      exact ⟨c, b.tr d⟩
theorem smT_row : ∀ (f : Nat) (T : MI) (p q : Nat), cb T → q < nO T → (∀ j, j < 5 → smT K V wd ca f T p 7 (5 * q + j) = T 7 (5 * q + j)) ∧ smT K V wd ca f T p 8 q = T 8 q ∧ smT K V wd ca f T p 9 q = T 9 q := by
  intro f
  induction f with
  | zero => exact fun T p q _ _ => ⟨fun _ _ => rfl, rfl, rfl⟩
  | succ f ih =>
    intro T p q hc hq
    rw [smT]
    by_cases k : K p = 45
    · rw [if_pos k]; exact ⟨fun _ _ => rfl, rfl, rfl⟩
    · rw [if_neg k]
      obtain ⟨a, b⟩ := cb_ls (K := K) (V := V) (wd := wd) (ca := ca) (p := p) hc
      obtain ⟨c1, c2, c3⟩ := ih _ (pL K p).2 q a (Nat.lt_of_lt_of_le hq b.2.2.2.2)
      obtain ⟨d1, d2, d3⟩ := lsT_row (K := K) (V := V) (wd := wd) (ca := ca) (p := p) hq
      exact ⟨fun j hj => (c1 j hj).trans (d1 j hj), c2.trans d2, c3.trans d3⟩
/-- what an order's sum and test mean -/
def oES (K : Nat → Nat) (V mm : Nat → Int32) (p : Nat) : EX := (pS K V mm 8 (p + 5)).2.2
def oTS (K : Nat → Nat) (V mm : Nat → Int32) (p : Nat) : Option EX := if K (q1L K p) = 15 then some (pT K V mm 8 (q1L K p + 1)).2.2 else none
def osE (K : Nat → Nat) (V : Nat → Int32) (wd : Nat → Nat) (ca : Nat → Int32) : Nat → MI → Nat → Nat → EX × Option EX
  | 0, _, _, _ => (zE, none)
  | f + 1, T, p, q => if K p = 45 then (zE, none) else if (K p = 11 ∨ K p = 14) ∧ q = nO T then (oES K V (mT K wd T) p, oTS K V (mT K wd T) p) else osE K V wd ca f (lsT K V wd ca T p) (pL K p).2 q
end
/-- from tokens' numbers to what they name -/
theorem seg_nm {mm : Nat → Int32} {I : MI} {z z' : Nat} {E E' : EX} (h : seg idm I z z' E) (he : ∀ ev, E (fun k x => if 17 ≤ k ∧ k ≤ 22 then ev k (mm (ix x)) else ev k x) = E' ev) : seg mm I z z' E' := by
  obtain ⟨h1, h2, h3⟩ := h
  refine ⟨h1, h2, fun ev L => ?_⟩
  show pfC (evm mm ev) (I 78) (I 79) (z' - z) z L = E' ev :: L
  rw [← he ev]
  refine Eq.trans ?_ (h3 _ L)
  refine pfC_ext _ _ _ _ _ _ _ _ _ (fun j j1 j2 => ⟨rfl, fun M => ?_⟩)
  obtain ⟨k, k1, k2, k3⟩ := h2 j j1 (by omega)
  have k4 := kdOK_lt k2
  rw [k1, ix_n (by omega)]
  unfold stpC
  by_cases c : k ≤ 22 ∨ k = 29
  · rw [if_pos c, if_pos c]
    congr 1
    unfold evm
    by_cases c1 : k = 29
    · rw [if_pos c1, if_pos c1]
    rw [if_neg c1, if_neg c1]
    by_cases c2 : k = 16
    · rw [if_pos c2, if_pos c2]
      exact (if_neg (by omega)).symm
    rw [if_neg c2, if_neg c2]
    have c3 : 17 ≤ k ∧ k ≤ 22 := by
      unfold kdOK isOp isJo at k2
      omega
    obtain ⟨t, t1, t2⟩ := k3 c3.1 c3.2
    rw [t2, ix_n (by omega)]
    show _ = if 17 ≤ k ∧ k ≤ 22 then ev k (mm (ix (nI t))) else ev k (nI t)
    rw [if_pos c3, ix_n (by omega)]
  · rw [if_neg c, if_neg c]
theorem idm_A {K : Nat → Nat} {M : Nat} (hM4 : M ≤ 400) {g g' : Nat → PRs} {mm m2 : Nat → Int32} (hA : ∀ ev ev', gA K M idm m2 ev' ev g' g) (hB : gB M g') {p : Nat} (hp : p ≤ M) (hm : ∀ t, p ≤ t → t < (g' p).2.1 → K t = 28 → mm t = m2 t) (ev : Nat → Int32 → Int32) : (g' p).2.2 (fun k x => if 17 ≤ k ∧ k ≤ 22 then ev k (mm (ix x)) else ev k x) = (g p).2.2 ev := by
  refine hA ev _ p hp ⟨if_neg (by omega), fun t t1 t2 k28 k k1 k2 => ?_⟩
  have b := (hB p hp).2.1
  show (if 17 ≤ k ∧ k ≤ 22 then ev k (mm (ix (nI t))) else ev k (nI t)) = ev k (m2 t)
  rw [if_pos ⟨k1, k2⟩, ix_n (by omega), hm t t1 t2 k28]
/-- an order in the class's code -/
def cGO (I : MI) (mm : Nat → Int32) (Z : Nat) (Tf : MI) (q : Nat) (r : EX × Option EX) : Prop := (∃ z0 z1 z2, (if q = 0 then z0 = 0 else Tf 9 (q - 1) = nI z0) ∧ Tf 8 q = nI z1 ∧ Tf 9 q = nI z2 ∧ z0 ≤ z1 ∧ z1 ≤ z2 ∧ z2 ≤ Z ∧ (Tf 7 (5 * q) = nI 11 → seg mm I z0 z1 r.1) ∧ (r.2 = none → z1 = z2) ∧ (∀ t, r.2 = some t → seg mm I z1 z2 t)) ∧ (∃ g, Tf 7 (5 * q + 1) = nI g ∧ g < (if Tf 7 (5 * q) = nI 11 then nN Tf else nT Tf)) ∧ (∃ k, Tf 7 (5 * q + 2) = nI k ∧ k < nK Tf) ∧ (Tf 7 (5 * q) = nI 11 ∨ Tf 7 (5 * q) = nI 14)
theorem pL_11 {K : Nat → Nat} {M p : Nat} (hM : 45 ≤ K M) (hp : p ≤ M) (e : K p = 11) (hg : (pL K p).1 = true) : K (p + 1) = 28 ∧ K (p + 2) = 12 ∧ K (p + 3) = 28 ∧ p + 5 ≤ M ∧ (pS K v0 v0 8 (p + 5)).1 = true ∧ (whnL K (q1L K p)).1 = true ∧ (pL K p).2 = (whnL K (q1L K p)).2 := by
  have hq : q1L K p = (pS K v0 v0 8 (p + 5)).2.1 := if_pos e
  have s0 : pL K p = sqK K [11, 28, 12, 28, 13] p (tieL K) := by rw [pL, if_neg (by omega), if_neg (by omega), if_neg (by omega), if_neg (by omega), if_pos e]
  rw [s0] at hg ⊢
  obtain ⟨e0, c0⟩ := sqK_c hg
  rw [c0] at hg ⊢
  obtain ⟨e1, c1⟩ := sqK_c hg
  rw [c1] at hg ⊢
  obtain ⟨e2, c2⟩ := sqK_c hg
  rw [c2] at hg ⊢
  obtain ⟨e3, c3⟩ := sqK_c hg
  rw [c3] at hg ⊢
  obtain ⟨e4, c4⟩ := sqK_c hg
  rw [c4] at hg ⊢
  change (tieL K (p + 5)).1 = true at hg
  have b1 := K_lt hM hp e0 (by decide)
  have b2 := K_lt (p := p + 1) hM (by omega) e1 (by decide)
  have b3 := K_lt (p := p + 1 + 1) hM (by omega) e2 (by decide)
  have b4 := K_lt (p := p + 1 + 1 + 1) hM (by omega) e3 (by decide)
  have b5 := K_lt (p := p + 1 + 1 + 1 + 1) hM (by omega) e4 (by decide)
  by_cases u : (pS K v0 v0 8 (p + 5)).1 = true
  · have ht : tieL K (p + 5) = whnL K (q1L K p) := by rw [tieL, if_pos u, hq]
    rw [ht] at hg
    exact ⟨e1, e2, e3, by omega, u, hg, congrArg Prod.snd ht⟩
  · rw [tieL, if_neg u] at hg
    exact Bool.noConfusion hg
theorem pL_14 {K : Nat → Nat} {M p : Nat} (hM : 45 ≤ K M) (hp : p ≤ M) (e : K p = 14) (hg : (pL K p).1 = true) : K (p + 1) = 28 ∧ K (p + 2) = 12 ∧ K (p + 3) = 28 ∧ p + 4 ≤ M ∧ (whnL K (q1L K p)).1 = true ∧ (pL K p).2 = (whnL K (q1L K p)).2 := by
  have hq : q1L K p = p + 4 := if_neg (by omega)
  have s0 : pL K p = sqK K [14, 28, 12, 28] p (whnL K) := by rw [pL, if_neg (by omega), if_neg (by omega), if_neg (by omega), if_neg (by omega), if_neg (by omega), if_pos e]
  rw [s0] at hg ⊢
  obtain ⟨e0, c0⟩ := sqK_c hg
  rw [c0] at hg ⊢
  obtain ⟨e1, c1⟩ := sqK_c hg
  rw [c1] at hg ⊢
  obtain ⟨e2, c2⟩ := sqK_c hg
  rw [c2] at hg ⊢
  obtain ⟨e3, c3⟩ := sqK_c hg
  rw [c3] at hg ⊢
  change (whnL K (p + 4)).1 = true at hg
  have b1 := K_lt hM hp e0 (by decide)
  have b2 := K_lt (p := p + 1) hM (by omega) e1 (by decide)
  have b3 := K_lt (p := p + 1 + 1) hM (by omega) e2 (by decide)
  have b4 := K_lt (p := p + 1 + 1 + 1) hM (by omega) e3 (by decide)
  rw [hq]
  exact ⟨e1, e2, e3, by omega, hg, rfl⟩
/-- the code of a test, by names -/
theorem ts_nm {K : Nat → Nat} {V mm m2 : Nat → Int32} {I : MI} {M p e z1 z' : Nat} (hM : 45 ≤ K M) (hM4 : M ≤ 400) (hq : q1L K p ≤ M) (hw : (whnL K (q1L K p)).1 = true) (he : e = (whnL K (q1L K p)).2) (h : tsC K V idm I e (q1L K p) z1 z') (hz : z1 ≤ z') (hm : ∀ t, q1L K p ≤ t → t < e → K t = 28 → mm t = m2 t) : I 9 (q1L K p) = nI z1 ∧ I 9 (e - 1) = nI z' ∧ (oTS K V m2 p = none → z1 = z') ∧ (∀ t, oTS K V m2 p = some t → seg mm I z1 z' t) := by
  obtain ⟨⟨h1, h2⟩, h3⟩ := h
  refine ⟨h2, ?_⟩
  rcases whnL_c hM hq hw with ⟨w1, w2, w3, w4, w5, w6, w7, w8⟩ | ⟨w1, w3, w8⟩
  · rw [if_pos w1] at h3
    obtain ⟨g1, g2, g3⟩ := h3
    have e1 := (pT_eqv (K := K) (V := V) (m := idm) (V' := v0) (m' := v0) 8 (q1L K p + 1)).2
    rw [e1] at g3 g2
    have ee : e - 1 = (pT K v0 v0 8 (q1L K p + 1)).2.1 := by rw [he, w8]; exact Nat.add_sub_cancel _ 1
    refine ⟨by rw [ee]; exact g3, fun q => ?_, fun t q => ?_⟩
    · rw [oTS, if_pos w1] at q; cases q
    · rw [oTS, if_pos w1] at q
      rw [← Option.some.inj q]
      refine seg_nm g1 (idm_A hM4 (fun ev ev' => pT_A hM 8) (pT_B hM 8) w3 (fun t t1 t2 k => hm t (by omega) ?_ k))
      rw [e1] at t2
      omega
  · rw [if_neg (by omega)] at h3
    have ee : e - 1 = q1L K p := by rw [he, w8]; exact Nat.add_sub_cancel _ 1
    refine ⟨by rw [ee, h3]; exact h2, fun _ => h3.symm, fun t q => ?_⟩
    rw [oTS, if_neg (by omega)] at q; cases q
theorem tgt_in {K wd : Nat → Nat} {T : MI} {t i : Nat} (hi : tbI (K (t - 1)) = i) (h : ¬ mT K wd T t = -1) : ∃ g, mT K wd T t = nI g ∧ g < ix (T 0 i) := by
  subst hi
  rcases lkT_in (wd := wd) (T := T) (i := tbI (K (t - 1))) (t := t) with q | ⟨j, j1, j2⟩
  · exact absurd q h
  · exact ⟨j, j2, j1⟩
theorem cls_ord {K wd : Nat → Nat} {V mm : Nat → Int32} {M Z : Nat} {I I2 : MI} (hM : 45 ≤ K M) (hM4 : M ≤ 400) (hZ : I 77 2 = nI Z) (hZ3 : Z < 2 ^ 31) (hmm : mm = I2 16) : ∀ (f p z : Nat) (T : MI), p ≤ M → z ≤ p → (prG K f p).1 = true → lnsC K V idm I f p z → smE K V wd (I 9) f T p = none → lmO K V wd (I 9) I2 f T p → cb T → (if nO T = 0 then z = 0 else T 9 (nO T - 1) = nI z) → ∀ q, nO T ≤ q → q < nO (smT K V wd (I 9) f T p) → cGO I mm Z (smT K V wd (I 9) f T p) q (osE K V wd (I 9) f T p q) := by
  intro f
  induction f with
  | zero =>
    intro p z T hp hz hg hL hE hl hc h9 q q1 q2
    exact absurd q2 (by rw [smT]; omega)
  | succ f ih =>
    intro p z T hp hz hg hL hE hl hc h9 q q1 q2
    rw [prG] at hg
    rw [lnsC] at hL
    rw [smE] at hE
    rw [lmO] at hl
    rw [smT] at q2 ⊢
    rw [osE]
    by_cases k : K p = 45
    · rw [if_pos k] at q2
      omega
    · rw [if_neg k] at hg hL hE hl q2 ⊢
      rw [if_neg k]
      by_cases k2 : (pL K p).1 = true
      · rw [if_pos k2] at hg
        obtain ⟨z', c1, c2, c3, c4⟩ := hL
        obtain ⟨s1, s2, s3, s4⟩ := pL_sh hM hp k2
        obtain ⟨E1, E2⟩ := Option.or_eq_none_iff.mp hE
        obtain ⟨b1, b2⟩ := cb_ls (K := K) (V := V) (wd := wd) (ca := I 9) (p := p) hc
        obtain ⟨b3, b4⟩ := cb_sm (K := K) (V := V) (wd := wd) (ca := I 9) f (lsT K V wd (I 9) T p) (pL K p).2 b1
        have hzZ := (lnsC_cok hM hM4 hZ hZ3 f (pL K p).2 z' s4 c2 c4 hg).1
        by_cases od : K p = 11 ∨ K p = 14
        · have n20 : ¬ nO T = 20 := by
            intro r
            rw [lerr, if_neg (by omega), if_neg (by omega), if_neg (by omega), if_neg (by omega), er, if_pos (by simp [r])] at E1
            cases E1
          have F := E1
          rw [lerr, if_neg (by omega), if_neg (by omega), if_neg (by omega), if_neg (by omega), er, if_neg (by simp [n20]), er] at F
          have F := fbd_no _ _ F
          obtain ⟨e7, e8, e9⟩ := lsT_od (K := K) (V := V) (wd := wd) (ca := I 9) (p := p) (T := T) (by omega) n20
          have eO : nO (lsT K V wd (I 9) T p) = nO T + 1 := nO_ls (by omega) n20 hc.2.2.2.2
          have hm : ∀ t, p < t → t < (pL K p).2 → K t = 28 → mm t = mT K wd T t := by
            rw [hmm]
            exact hl.1 od
          have H : (K (p + 1) = 28 ∧ K (p + 2) = 12 ∧ K (p + 3) = 28) ∧ p + 3 < (pL K p).2 ∧ ∃ z1, z ≤ z1 ∧ z1 ≤ z' ∧ I 9 (q1L K p) = nI z1 ∧ I 9 ((pL K p).2 - 1) = nI z' ∧ (K p = 11 → seg mm I z z1 (oES K V (mT K wd T) p)) ∧ (oTS K V (mT K wd T) p = none → z1 = z') ∧ (∀ t, oTS K V (mT K wd T) p = some t → seg mm I z1 z' t) := by
            have wl : ∀ q, q ≤ M → (whnL K q).1 = true → q < (whnL K q).2 := fun q a b => by
              rcases whnL_c hM a b with ⟨_, _, _, d1, _, _, _, d3⟩ | ⟨_, _, d2⟩ <;> omega
            unfold lnC at c3
            by_cases e11 : K p = 11
            · rw [if_pos e11] at c3
              obtain ⟨z1, a1, a2, a3⟩ := c3
              obtain ⟨g1, g2, g3, g4, g5, g6, g7⟩ := pL_11 hM hp e11 k2
              have hq : q1L K p = (pS K v0 v0 8 (p + 5)).2.1 := if_pos e11
              have eq := (pS_eqv (K := K) (V := V) (m := idm) (V' := v0) (m' := v0) 8 (p + 5)).2
              rw [eq, ← hq] at a3
              have bq := pS_B (V := v0) (m := v0) hM 8 (p + 5) g4
              rw [← hq] at bq
              have w1 := wl _ bq.2.1 g6
              obtain ⟨t1, t2, t3, t4⟩ := ts_nm (m2 := mT K wd T) (mm := mm) hM hM4 bq.2.1 g6 g7 a3 a2 (fun t b1 b2 b3 => hm t (by omega) b2 b3)
              refine ⟨⟨g1, g2, g3⟩, by omega, z1, a1.1, a2, t1, t2, fun _ => ?_, t3, t4⟩
              refine seg_nm a1 (idm_A hM4 (fun ev ev' => pS_A hM 8) (pS_B hM 8) g4 (fun t b1 b2 b3 => hm t (by omega) ?_ b3))
              rw [eq, ← hq] at b2
              omega
            · have e14 : K p = 14 := by omega
              rw [if_neg e11, if_pos e14] at c3
              obtain ⟨g1, g2, g3, g4, g6, g7⟩ := pL_14 hM hp e14 k2
              have hq : q1L K p = p + 4 := if_neg e11
              rw [← hq] at c3
              have w1 := wl _ (by omega) g6
              obtain ⟨t1, t2, t3, t4⟩ := ts_nm (m2 := mT K wd T) (mm := mm) hM hM4 (by omega) g6 g7 c3 c1 (fun t b1 b2 b3 => hm t (by omega) b2 b3)
              exact ⟨⟨g1, g2, g3⟩, by omega, z, Nat.le_refl _, c1, t1, t2, fun r => absurd r e11, t3, t4⟩
          obtain ⟨⟨n1, n2, n3⟩, n4, z1, y1, y2, y3, y4, y5, y6, y7⟩ := H
          by_cases e : q = nO T
          · subst e
            rw [if_pos ⟨od, rfl⟩]
            obtain ⟨r7, r8, r9⟩ := smT_row (K := K) (V := V) (wd := wd) (ca := I 9) f (lsT K V wd (I 9) T p) (pL K p).2 (nO T) b1 (by omega)
            have a0 : smT K V wd (I 9) f (lsT K V wd (I 9) T p) (pL K p).2 7 (5 * nO T) = nI (K p) := by
              have := r7 0 (by decide)
              rw [Nat.add_zero] at this
              rw [this, e7, upd_n (by omega), upd_n (by omega), upd_s]
            have a1 : smT K V wd (I 9) f (lsT K V wd (I 9) T p) (pL K p).2 7 (5 * nO T + 1) = mT K wd T (p + 1) := by
              rw [r7 1 (by decide), e7, upd_n (by omega), upd_s]
            have a2 : smT K V wd (I 9) f (lsT K V wd (I 9) T p) (pL K p).2 7 (5 * nO T + 2) = mT K wd T (p + 3) := by
              rw [r7 2 (by decide), e7, upd_s]
            have a3 : smT K V wd (I 9) f (lsT K V wd (I 9) T p) (pL K p).2 8 (nO T) = nI z1 := by rw [r8, e8, upd_s, y3]
            have a4 : smT K V wd (I 9) f (lsT K V wd (I 9) T p) (pL K p).2 9 (nO T) = nI z' := by rw [r9, e9, upd_s, y4]
            have k11 : nI (K p) = nI 11 ↔ K p = 11 := ⟨fun r => eqN r (by omega) (by decide), fun r => by rw [r]⟩
            refine ⟨⟨z, z1, z', ?_, a3, a4, y1, y2, hzZ, fun r => y5 (k11.mp (a0.symm.trans r)), y6, y7⟩, ?_, ?_, ?_⟩
            · by_cases r : nO T = 0
              · rw [if_pos r] at h9 ⊢; exact h9
              · rw [if_neg r] at h9 ⊢
                obtain ⟨-, -, u9⟩ := smT_row (K := K) (V := V) (wd := wd) (ca := I 9) f (lsT K V wd (I 9) T p) (pL K p).2 (nO T - 1) b1 (by omega)
                obtain ⟨-, -, v9⟩ := lsT_row (K := K) (V := V) (wd := wd) (ca := I 9) (T := T) (p := p) (q := nO T - 1) (by omega)
                rw [u9, v9]; exact h9
            · have hne := F (p + 1) (Nat.le_refl _) (by omega) n1
              rw [a0, a1]
              by_cases r : K p = 11
              · obtain ⟨g, g1, g2⟩ := tgt_in (K := K) (wd := wd) (T := T) (t := p + 1) (i := 1) (by rw [Nat.add_sub_cancel, r]; decide) hne
                refine ⟨g, g1, ?_⟩
                rw [if_pos (k11.mpr r)]
                have g2 : g < nN T := g2
                have := b2.2.1; have := b4.2.1
                omega
              · have r14 : K p = 14 := by omega
                obtain ⟨g, g1, g2⟩ := tgt_in (K := K) (wd := wd) (T := T) (t := p + 1) (i := 2) (by rw [Nat.add_sub_cancel, r14]; decide) hne
                refine ⟨g, g1, ?_⟩
                rw [if_neg (fun w => r (k11.mp w))]
                have g2 : g < nT T := g2
                have := b2.2.2.1; have := b4.2.2.1
                omega
            · have hne := F (p + 3) (by omega) (by omega) n3
              rw [a2]
              obtain ⟨g, g1, g2⟩ := tgt_in (K := K) (wd := wd) (T := T) (t := p + 3) (i := 3) (by rw [show p + 3 - 1 = p + 2 by omega, n2]; decide) hne
              have g2 : g < nK T := g2
              have := b2.2.2.2.1; have := b4.2.2.2.1
              exact ⟨g, g1, by omega⟩
            · rw [a0]
              rcases od with r | r <;> rw [r]
              · exact Or.inl rfl
              · exact Or.inr rfl
          · rw [if_neg (fun r => e r.2)]
            refine ih (pL K p).2 z' _ s4 c2 hg c4 E2 hl.2 b1 ?_ q (by omega) q2
            rw [if_neg (by omega), eO, Nat.add_sub_cancel, e9, upd_s, y4]
        · rw [if_neg (fun r => od r.1)]
          have nod : K p = 0 ∨ K p = 2 ∨ K p = 7 ∨ K p = 9 := by omega
          obtain ⟨eO, er⟩ := lsT_ot (K := K) (V := V) (wd := wd) (ca := I 9) (T := T) (p := p) nod
          have ez : z' = z := by
            unfold lnC at c3
            rw [if_neg (by omega), if_neg (by omega)] at c3
            exact c3
          refine ih (pL K p).2 z' _ s4 c2 hg c4 E2 hl.2 b1 ?_ q (by omega) q2
          rw [eO, er 9 (by decide) (by decide), ez]
          exact h9
      · rw [if_neg k2] at hg
        exact Bool.noConfusion hg
