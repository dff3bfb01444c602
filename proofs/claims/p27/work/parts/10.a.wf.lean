/-! what is told is in range -/
def wfT (T : MI) : Prop := (∀ k, k < nN T → (∃ j, j < nC T ∧ T 2 k = nI j) ∧ ∃ w, w ≤ 9999 ∧ T 4 k = nI w) ∧ ∀ a, a < nT T → ∃ z, z ≤ 8 ∧ T 5 (9 * a) = nI z ∧ ∀ n, n < z → ∃ j, j < nN T ∧ T 5 (9 * a + 1 + n) = nI j
theorem toF_ok {own : Nat → Int32} {N b : Nat} (ho : ∀ s, own s = -1 ∨ ∃ j, j < N ∧ own s = nI j) : ∀ (f s : Nat) (row : Nat → Int32) (many : Nat), toE own b f s row many = none → many ≤ 8 → (∀ i, i < many → ∃ j, j < N ∧ row (b + i) = nI j) → (toF own b f s row many).2 ≤ 8 ∧ (∀ i, i < (toF own b f s row many).2 → ∃ j, j < N ∧ (toF own b f s row many).1 (b + i) = nI j) ∧ ∀ x, x < b → (toF own b f s row many).1 x = row x := by
  intro f
  induction f with
  | zero => exact fun s row many _ hm hr => ⟨hm, hr, fun _ _ => rfl⟩
  | succ f ih =>
    intro s row many he hm hr
    rw [toE] at he
    rw [toF]
    by_cases c1 : own s = -1
    · rw [if_pos c1] at he; cases he
    rw [if_neg c1] at he
    by_cases c2 : many = 8
    · rw [if_pos c2] at he; cases he
    rw [if_neg c2] at he ⊢
    by_cases c3 : dupB row b many (own s) = true
    · rw [if_pos c3] at he; cases he
    rw [if_neg c3] at he
    obtain ⟨a1, a2, a3⟩ := ih (s + 1) _ (many + 1) he (by omega) (fun i hi => by
      by_cases e : i = many
      · subst e
        rw [upd_s]
        exact (ho s).resolve_left c1
      · rw [upd_n (by omega)]
        exact hr i (by omega))
    exact ⟨a1, a2, fun x hx => (a3 x hx).trans (upd_n (by omega))⟩
theorem er_no : ∀ {l : List (Bool × Nat × Nat)} {o : Option (Nat × Nat)}, er l o = none → (∀ x ∈ l, x.1 = false) ∧ o = none
  | [], o, h => ⟨fun x hx => absurd hx (List.not_mem_nil), h⟩
  | x :: r, o, h => by
    rw [er] at h
    cases c : x.1 with
    | true => rw [c, if_pos rfl] at h; cases h
    | false =>
      rw [c, if_neg (by decide)] at h
      obtain ⟨a, b⟩ := er_no h
      refine ⟨fun y hy => ?_, b⟩
      rcases List.mem_cons.mp hy with rfl | q
      · exact c
      · exact a y q
section
variable {K : Nat → Nat} {V : Nat → Int32} {wd : Nat → Nat} {ca : Nat → Int32} {T : MI} {p M : Nat}
theorem ct_n {T' : MI} {i n : Nat} (hn : n < 2 ^ 31) : ix (ctT T' i n 0 i) = n := by
  show ix (upd (T' 0) i (nI n) i) = n
  rw [upd_s, ix_n hn]
theorem ct_o {T' : MI} {i n j : Nat} (h : j ≠ i) : ctT T' i n 0 j = T' 0 j := upd_n h
theorem wf_cong {T' : MI} (h : wfT T) (e0 : nC T ≤ nC T') (e1 : nN T' = nN T) (e2 : nT T' = nT T) (r2 : T' 2 = T 2) (r4 : T' 4 = T 4) (r5 : T' 5 = T 5) : wfT T' := by
  refine ⟨fun k hk => ?_, fun a ha => ?_⟩
  · rw [e1] at hk
    rw [r2, r4]
    obtain ⟨⟨j, j1, j2⟩, q⟩ := h.1 k hk
    exact ⟨⟨j, by omega, j2⟩, q⟩
  · rw [e2] at ha
    rw [e1, r5]
    exact h.2 a ha
theorem wf_ls (hM : 45 ≤ K M) (hp : p ≤ M) (h : wfT T) (hc : cb T) (hg : (pL K p).1 = true) (hE : lerr K V wd T p = none) : wfT (lsT K V wd ca T p) := by
  obtain ⟨h0, h1, h2, h3, h4⟩ := hc
  unfold lerr at hE
  unfold lsT
  by_cases k0 : K p = 0
  · rw [if_pos k0] at hE ⊢
    obtain ⟨e1, -⟩ := er_no hE
    have c : ¬ nC T = 6 := fun q => absurd (e1 _ (List.mem_cons_of_mem _ List.mem_cons_self)) (by simp [q])
    rw [if_neg c]
    refine wf_cong h ?_ rfl rfl ?_ ?_ ?_
    · show nC T ≤ ix (ctT _ 0 (nC T + 1) 0 0)
      rw [ct_n (by omega)]
      omega
    · simp [ctT, setRow]
    · simp [ctT, setRow]
    · simp [ctT, setRow]
  rw [if_neg k0] at hE ⊢
  by_cases k2 : K p = 2
  · rw [if_pos k2] at hE ⊢
    obtain ⟨e1, -⟩ := er_no hE
    have c : ¬ nN T = 16 := fun q => absurd (e1 _ (List.mem_cons_of_mem _ List.mem_cons_self)) (by simp [q])
    have cl : ¬ lkT wd T 0 (p + 3) = -1 := fun q => absurd (e1 _ (List.mem_cons_of_mem _ (List.mem_cons_of_mem _ List.mem_cons_self))) (by simp [q])
    have cv : K (p + 6) = 6 → inB (V (p + 7)) (nI 0) (nI 9999) = true := fun q => by
      have := e1 (decide (K (p + 6) = 6) && !inB (V (p + 7)) (nI 0) (nI 9999), 5, p + 7) (by simp)
      simpa [q] using this
    rw [if_neg c]
    have n2 : ∀ r, ix (ctT r 1 (nN T + 1) 0 1) = nN T + 1 := fun r => ct_n (by omega)
    refine ⟨fun k hk => ?_, fun a ha => ?_⟩
    · have hk : k < nN T + 1 := by
        rw [← n2]; exact hk
      have eC : nC (ctT (setRow (setRow (setRow (setRow T 12 (upd (T 12) (nN T) (nI (p + 1)))) 2 (upd (T 2) (nN T) (lkT wd T 0 (p + 3)))) 3 (upd (T 3) (nN T) (abT K wd T p))) 4 (upd (T 4) (nN T) (tdT K V p))) 1 (nN T + 1)) = nC T := by
        unfold nC
        rw [ct_o (by decide)]
        simp [setRow]
      rw [eC]
      have r2 : ctT (setRow (setRow (setRow (setRow T 12 (upd (T 12) (nN T) (nI (p + 1)))) 2 (upd (T 2) (nN T) (lkT wd T 0 (p + 3)))) 3 (upd (T 3) (nN T) (abT K wd T p))) 4 (upd (T 4) (nN T) (tdT K V p))) 1 (nN T + 1) 2 = upd (T 2) (nN T) (lkT wd T 0 (p + 3)) := by simp [ctT, setRow]
      have r4 : ctT (setRow (setRow (setRow (setRow T 12 (upd (T 12) (nN T) (nI (p + 1)))) 2 (upd (T 2) (nN T) (lkT wd T 0 (p + 3)))) 3 (upd (T 3) (nN T) (abT K wd T p))) 4 (upd (T 4) (nN T) (tdT K V p))) 1 (nN T + 1) 4 = upd (T 4) (nN T) (tdT K V p) := by simp [ctT, setRow]
      rw [r2, r4]
      by_cases e : k = nN T
      · subst e
        rw [upd_s, upd_s]
        refine ⟨?_, ?_⟩
        · rcases lkT_in (wd := wd) (T := T) (i := 0) (t := p + 3) with q | ⟨j, j1, j2⟩
          · exact absurd q cl
          · exact ⟨j, j1, j2⟩
        · unfold tdT
          by_cases q : K (p + 6) = 6
          · rw [if_pos q]
            have := cv q
            unfold inB at this
            obtain ⟨a1, a2⟩ := Bool.and_eq_true_iff.mp this
            have a1 := of_decide_eq_true a1
            have a2 := of_decide_eq_true a2
            obtain ⟨j, j1, j2⟩ := nI_of (x := V (p + 7)) (fun r => absurd (Int32.lt_of_le_of_lt a1 r) (Int32.lt_irrefl))
            rw [j2] at a2 ⊢
            exact ⟨j, leN a2 j1 (by decide), rfl⟩
          · rw [if_neg q]
            exact ⟨0, by decide, rfl⟩
      · rw [upd_n e, upd_n e]
        exact h.1 k (by omega)
    · have eT : nT (ctT (setRow (setRow (setRow (setRow T 12 (upd (T 12) (nN T) (nI (p + 1)))) 2 (upd (T 2) (nN T) (lkT wd T 0 (p + 3)))) 3 (upd (T 3) (nN T) (abT K wd T p))) 4 (upd (T 4) (nN T) (tdT K V p))) 1 (nN T + 1)) = nT T := by
        unfold nT
        rw [ct_o (by decide)]
        simp [setRow]
      rw [eT] at ha
      have r5 : ctT (setRow (setRow (setRow (setRow T 12 (upd (T 12) (nN T) (nI (p + 1)))) 2 (upd (T 2) (nN T) (lkT wd T 0 (p + 3)))) 3 (upd (T 3) (nN T) (abT K wd T p))) 4 (upd (T 4) (nN T) (tdT K V p))) 1 (nN T + 1) 5 = T 5 := by simp [ctT, setRow]
      rw [r5]
      obtain ⟨z, z1, z2, z3⟩ := h.2 a ha
      refine ⟨z, z1, z2, fun n hn => ?_⟩
      obtain ⟨j, j1, j2⟩ := z3 n hn
      refine ⟨j, ?_, j2⟩
      have := n2 (setRow (setRow (setRow (setRow T 12 (upd (T 12) (nN T) (nI (p + 1)))) 2 (upd (T 2) (nN T) (lkT wd T 0 (p + 3)))) 3 (upd (T 3) (nN T) (abT K wd T p))) 4 (upd (T 4) (nN T) (tdT K V p)))
      show j < ix (ctT _ 1 (nN T + 1) 0 1)
      omega
  rw [if_neg k2] at hE ⊢
  by_cases k7 : K p = 7
  · rw [if_pos k7] at hE ⊢
    obtain ⟨e1, e2⟩ := er_no hE
    have c : ¬ nT T = 6 := fun q => absurd (e1 _ (List.mem_cons_of_mem _ List.mem_cons_self)) (by simp [q])
    rw [if_neg c]
    obtain ⟨t1, t2, t3⟩ := toF_ok (N := nN T) (fun s => lkT_in (wd := wd) (T := T) (i := 1) (t := s)) _ _ _ _ e2 (by decide) (fun i hi => absurd hi (by omega))
    have eN : nN (ctT (setRow (setRow T 5 (upd (toT K wd T p).1 (9 * nT T) (nI (toT K wd T p).2))) 13 (upd (T 13) (nT T) (nI (p + 1)))) 2 (nT T + 1)) = nN T := by
      unfold nN
      rw [ct_o (by decide)]
      simp [setRow]
    have eC : nC (ctT (setRow (setRow T 5 (upd (toT K wd T p).1 (9 * nT T) (nI (toT K wd T p).2))) 13 (upd (T 13) (nT T) (nI (p + 1)))) 2 (nT T + 1)) = nC T := by
      unfold nC
      rw [ct_o (by decide)]
      simp [setRow]
    have r2 : ctT (setRow (setRow T 5 (upd (toT K wd T p).1 (9 * nT T) (nI (toT K wd T p).2))) 13 (upd (T 13) (nT T) (nI (p + 1)))) 2 (nT T + 1) 2 = T 2 := by simp [ctT, setRow]
    have r4 : ctT (setRow (setRow T 5 (upd (toT K wd T p).1 (9 * nT T) (nI (toT K wd T p).2))) 13 (upd (T 13) (nT T) (nI (p + 1)))) 2 (nT T + 1) 4 = T 4 := by simp [ctT, setRow]
    have r5 : ctT (setRow (setRow T 5 (upd (toT K wd T p).1 (9 * nT T) (nI (toT K wd T p).2))) 13 (upd (T 13) (nT T) (nI (p + 1)))) 2 (nT T + 1) 5 = upd (toT K wd T p).1 (9 * nT T) (nI (toT K wd T p).2) := by simp [ctT, setRow]
    refine ⟨fun k hk => ?_, fun a ha => ?_⟩
    · rw [eN] at hk
      rw [eC, r2, r4]
      exact h.1 k hk
    · have ha : a < nT T + 1 := by
        rw [← ct_n (T' := setRow (setRow T 5 (upd (toT K wd T p).1 (9 * nT T) (nI (toT K wd T p).2))) 13 (upd (T 13) (nT T) (nI (p + 1)))) (i := 2) (n := nT T + 1) (by omega)]; exact ha
      rw [r5, eN]
      by_cases e : a = nT T
      · subst e
        refine ⟨(toT K wd T p).2, t1, upd_s, fun n hn => ?_⟩
        rw [upd_n (by omega)]
        exact t2 n hn
      · obtain ⟨z, z1, z2, z3⟩ := h.2 a (by omega)
        have t3' : ∀ x, x < 9 * nT T + 1 → (toT K wd T p).1 x = T 5 x := t3
        refine ⟨z, z1, ?_, fun n hn => ?_⟩
        · rw [upd_n (by omega), t3' _ (by omega)]; exact z2
        · rw [upd_n (by omega), t3' _ (by omega)]; exact z3 n hn
  rw [if_neg k7] at hE ⊢
  by_cases k9 : K p = 9
  · rw [if_pos k9] at hE ⊢
    obtain ⟨e1, -⟩ := er_no hE
    have c : ¬ nK T = 5 := fun q => absurd (e1 _ (List.mem_cons_of_mem _ List.mem_cons_self)) (by simp [q])
    rw [if_neg c]
    refine wf_cong h ?_ rfl rfl ?_ ?_ ?_
    · exact Nat.le_of_eq rfl
    · simp [ctT, setRow]
    · simp [ctT, setRow]
    · simp [ctT, setRow]
  rw [if_neg k9] at hE ⊢
  obtain ⟨e1, -⟩ := er_no hE
  have c : ¬ nO T = 20 := fun q => absurd (e1 _ List.mem_cons_self) (by simp [q])
  rw [if_neg c]
  refine wf_cong h ?_ rfl rfl ?_ ?_ ?_
  · exact Nat.le_of_eq rfl
  · simp [ctT, setRow]
  · simp [ctT, setRow]
  · simp [ctT, setRow]
end
theorem wf_sm {K : Nat → Nat} {V : Nat → Int32} {wd : Nat → Nat} {ca : Nat → Int32} {M : Nat} (hM : 45 ≤ K M) : ∀ (f : Nat) (T : MI) (p : Nat), p ≤ M → (prG K f p).1 = true → smE K V wd ca f T p = none → wfT T → cb T → wfT (smT K V wd ca f T p) := by
  intro f
  induction f with
  | zero => exact fun T p _ _ _ h _ => h
  | succ f ih =>
    intro T p hp hg hE h hc
    rw [prG] at hg
    rw [smE] at hE
    rw [smT]
    by_cases k : K p = 45
    · rw [if_pos k]; exact h
    · rw [if_neg k] at hg hE ⊢
      by_cases k2 : (pL K p).1 = true
      · rw [if_pos k2] at hg
        obtain ⟨E1, E2⟩ := Option.or_eq_none_iff.mp hE
        exact ih _ _ (pL_sh hM hp k2).2.2.2 hg E2 (wf_ls hM hp h hc k2 E1) (cb_ls hc).1
      · rw [if_neg k2] at hg
        exact Bool.noConfusion hg
def dsW (T : MI) : Prop := ∀ a, a < nT T → ∀ n m, n < ix (T 5 (9 * a)) → m < ix (T 5 (9 * a)) → T 5 (9 * a + 1 + n) = T 5 (9 * a + 1 + m) → n = m
theorem any_no {p : Nat → Bool} : ∀ z i, anyB p z i = false → ∀ j, i ≤ j → j < i + z → p j = false
  | 0, _, _, _, a, b => by omega
  | z + 1, i, h, j, a, b => by
    rw [anyB] at h
    cases c : p i with
    | true => rw [c, if_pos rfl] at h; cases h
    | false =>
      rw [c, if_neg Bool.false_ne_true] at h
      by_cases e : j = i
      · rw [e]; exact c
      · exact any_no z (i + 1) h j (by omega) (by omega)
theorem toF_ds {own : Nat → Int32} {b : Nat} : ∀ (f s : Nat) (row : Nat → Int32) (many : Nat), toE own b f s row many = none → (∀ i j, i < many → j < many → row (b + i) = row (b + j) → i = j) → ∀ i j, i < (toF own b f s row many).2 → j < (toF own b f s row many).2 → (toF own b f s row many).1 (b + i) = (toF own b f s row many).1 (b + j) → i = j := by
  intro f
  induction f with
  | zero => exact fun s row many _ h => h
  | succ f ih =>
    intro s row many he hr
    rw [toE] at he
    rw [toF]
    by_cases c1 : own s = -1
    · rw [if_pos c1] at he; cases he
    rw [if_neg c1] at he
    by_cases c2 : many = 8
    · rw [if_pos c2] at he; cases he
    rw [if_neg c2] at he ⊢
    by_cases c3 : dupB row b many (own s) = true
    · rw [if_pos c3] at he; cases he
    rw [if_neg c3] at he
    have c3 : dupB row b many (own s) = false := by
      cases q : dupB row b many (own s) with
      | false => rfl
      | true => exact absurd q c3
    have hn : ∀ n, n < many → ¬ row (b + n) = own s := fun n hn q => by
      have := any_no many 0 c3 n (Nat.zero_le _) (by omega)
      rw [decide_eq_true q] at this
      cases this
    refine ih (s + 1) _ (many + 1) he (fun i j hi hj e => ?_)
    by_cases e1 : i = many
    · by_cases e2 : j = many
      · omega
      · rw [e1, upd_s, upd_n (by omega)] at e
        exact absurd e.symm (hn j (by omega))
    · by_cases e2 : j = many
      · rw [e2, upd_s, upd_n (by omega)] at e
        exact absurd e (hn i (by omega))
      · rw [upd_n (by omega), upd_n (by omega)] at e
        exact hr i j (by omega) (by omega) e
section
variable {K : Nat → Nat} {V : Nat → Int32} {wd : Nat → Nat} {ca : Nat → Int32} {T : MI} {p M : Nat}
theorem ds_cong {T' : MI} (h : dsW T) (e2 : nT T' = nT T) (r5 : T' 5 = T 5) : dsW T' := by
  unfold dsW at h ⊢
  rw [e2, r5]
  exact h
theorem ds_ls (h : dsW T) (hw : wfT T) (hc : cb T) (hE : lerr K V wd T p = none) : dsW (lsT K V wd ca T p) := by
  obtain ⟨h0, h1, h2, h3, h4⟩ := hc
  unfold lerr at hE
  unfold lsT
  by_cases k0 : K p = 0
  · rw [if_pos k0] at hE ⊢
    split
    · exact h
    · exact ds_cong h (by unfold nT; rw [ct_o (by decide)]; simp [setRow]) (by simp [ctT, setRow])
  rw [if_neg k0] at hE ⊢
  by_cases k2 : K p = 2
  · rw [if_pos k2] at hE ⊢
    split
    · exact h
    · exact ds_cong h (by unfold nT; rw [ct_o (by decide)]; simp [setRow]) (by simp [ctT, setRow])
  rw [if_neg k2] at hE ⊢
  by_cases k7 : K p = 7
  · rw [if_pos k7] at hE ⊢
    obtain ⟨e1, e2⟩ := er_no hE
    have c : ¬ nT T = 6 := fun q => absurd (e1 _ (List.mem_cons_of_mem _ List.mem_cons_self)) (by simp [q])
    rw [if_neg c]
    obtain ⟨t1, -, t3⟩ := toF_ok (N := nN T) (fun s => lkT_in (wd := wd) (T := T) (i := 1) (t := s)) _ _ _ _ e2 (by decide) (fun i hi => absurd hi (by omega))
    have td := toF_ds _ _ _ _ e2 (fun i j hi => absurd hi (by omega))
    have r5 : ctT (setRow (setRow T 5 (upd (toT K wd T p).1 (9 * nT T) (nI (toT K wd T p).2))) 13 (upd (T 13) (nT T) (nI (p + 1)))) 2 (nT T + 1) 5 = upd (toT K wd T p).1 (9 * nT T) (nI (toT K wd T p).2) := by simp [ctT, setRow]
    intro a ha
    have ha : a < nT T + 1 := by
      rw [← ct_n (T' := setRow (setRow T 5 (upd (toT K wd T p).1 (9 * nT T) (nI (toT K wd T p).2))) 13 (upd (T 13) (nT T) (nI (p + 1)))) (i := 2) (n := nT T + 1) (by omega)]; exact ha
    rw [r5]
    intro n m hn hm e
    have t1' : (toT K wd T p).2 ≤ 8 := t1
    have t3' : ∀ x, x < 9 * nT T + 1 → (toT K wd T p).1 x = T 5 x := t3
    by_cases ea : a = nT T
    · subst ea
      rw [upd_s, ix_n (by omega)] at hn hm
      rw [upd_n (by omega), upd_n (by omega)] at e
      exact td n m hn hm e
    · obtain ⟨z, z1, z2, -⟩ := hw.2 a (by omega)
      have e9 : upd (toT K wd T p).1 (9 * nT T) (nI (toT K wd T p).2) (9 * a) = T 5 (9 * a) := (upd_n (by omega)).trans (t3' _ (by omega))
      rw [e9] at hn hm
      have hz : ix (T 5 (9 * a)) = z := by rw [z2, ix_n (by omega)]
      rw [upd_n (by omega), upd_n (by omega), t3' _ (by omega), t3' _ (by omega)] at e
      exact h a (by omega) n m hn hm e
  rw [if_neg k7] at hE ⊢
  by_cases k9 : K p = 9
  · rw [if_pos k9] at hE ⊢
    split
    · exact h
    · exact ds_cong h (by unfold nT; rw [ct_o (by decide)]; simp [setRow]) (by simp [ctT, setRow])
  rw [if_neg k9] at hE ⊢
  split
  · exact h
  · exact ds_cong h (by unfold nT; rw [ct_o (by decide)]; simp [setRow]) (by simp [ctT, setRow])
end
