/-! What a list without errors tells: a top cord's cords are apart -/
def dsW (T : MI) : Prop := ∀ a, a < nT T → ∀ n m, n < ix (T 5 (9 * a)) → m < ix (T 5 (9 * a)) → T 5 (9 * a + 1 + n) = T 5 (9 * a + 1 + m) → n = m
theorem any_no {p : Nat → Bool} : ∀ z i, anyB p z i = false → ∀ j, i ≤ j → j < i + z → p j = false
  | 0, _, _, _, a, b => by omega
  | z + 1, i, h, j, a, b => by
    rw [anyB] at h
    cases c : p i with
    | true => rw [c, if_pos rfl] at h; cases h
    | false =>
      rw [c, if_neg Bool.false_ne_true] at h
      by_cases e : j = i
      · rw [e]; exact c
      · exact any_no z (i + 1) h j (by omega) (by omega)
theorem toF_ds {own : Nat → Int32} {b : Nat} : ∀ (f s : Nat) (row : Nat → Int32) (many : Nat), toE own b f s row many = none → (∀ i j, i < many → j < many → row (b + i) = row (b + j) → i = j) → ∀ i j, i < (toF own b f s row many).2 → j < (toF own b f s row many).2 → (toF own b f s row many).1 (b + i) = (toF own b f s row many).1 (b + j) → i = j := by
  intro f
  induction f with
  | zero => exact fun s row many _ h => h
  | succ f ih =>
    intro s row many he hr
    rw [toE] at he
    rw [toF]
    by_cases c1 : own s = -1
    · rw [if_pos c1] at he; cases he
    rw [if_neg c1] at he
    by_cases c2 : many = 8
    · rw [if_pos c2] at he; cases he
    rw [if_neg c2] at he ⊢
    by_cases c3 : dupB row b many (own s) = true
    · rw [if_pos c3] at he; cases he
    rw [if_neg c3] at he
    have c3 : dupB row b many (own s) = false := by
      cases q : dupB row b many (own s) with
      | false => rfl
      | true => exact absurd q c3
    have hn : ∀ n, n < many → ¬ row (b + n) = own s := fun n hn q => by
      have := any_no many 0 c3 n (Nat.zero_le _) (by omega)
      rw [decide_eq_true q] at this
      cases this
    refine ih (s + 1) _ (many + 1) he (fun i j hi hj e => ?_)
    by_cases e1 : i = many
    · by_cases e2 : j = many
      · omega
      · rw [e1, upd_s, upd_n (by omega)] at e
        exact absurd e.symm (hn j (by omega))
    · by_cases e2 : j = many
      · rw [e2, upd_s, upd_n (by omega)] at e
        exact absurd e (hn i (by omega))
      · rw [upd_n (by omega), upd_n (by omega)] at e
        exact hr i j (by omega) (by omega) e
section DS
variable {K : Nat → Nat} {V : Nat → Int32} {wd : Nat → Nat} {ca : Nat → Int32} {T : MI} {p M : Nat}
theorem ds_cong {T' : MI} (h : dsW T) (e2 : nT T' = nT T) (r5 : T' 5 = T 5) : dsW T' := by
  unfold dsW at h ⊢
  rw [e2, r5]
  exact h
theorem ds_ls (h : dsW T) (hw : wfT T) (hc : cb T) (hE : lerr K V wd T p = none) : dsW (lsT K V wd ca T p) := by
  obtain ⟨h0, h1, h2, h3, h4⟩ := hc
  unfold lerr at hE
  unfold lsT
  by_cases k0 : K p = 0
  · rw [if_pos k0] at hE ⊢
    split
    · exact h
    · exact ds_cong h (by unfold nT; rw [ct_o (by decide)]; simp [setRow]) (by simp [ctT, setRow])
  rw [if_neg k0] at hE ⊢
  by_cases k2 : K p = 2
  · rw [if_pos k2] at hE ⊢
    split
    · exact h
    · exact ds_cong h (by unfold nT; rw [ct_o (by decide)]; simp [setRow]) (by simp [ctT, setRow])
  rw [if_neg k2] at hE ⊢
  by_cases k7 : K p = 7
  · rw [if_pos k7] at hE ⊢
    obtain ⟨e1, e2⟩ := er_no hE
    have c : ¬ nT T = 6 := fun q => absurd (e1 _ (List.mem_cons_of_mem _ List.mem_cons_self)) (by simp [q])
    rw [if_neg c]
    obtain ⟨t1, -, t3⟩ := toF_ok (N := nN T) (fun s => lkT_in (wd := wd) (T := T) (i := 1) (t := s)) _ _ _ _ e2 (by decide) (fun i hi => absurd hi (by omega))
    have td := toF_ds _ _ _ _ e2 (fun i j hi => absurd hi (by omega))
    have r5 : ctT (setRow (setRow T 5 (upd (toT K wd T p).1 (9 * nT T) (nI (toT K wd T p).2))) 13 (upd (T 13) (nT T) (nI (p + 1)))) 2 (nT T + 1) 5 = upd (toT K wd T p).1 (9 * nT T) (nI (toT K wd T p).2) := by simp [ctT, setRow]
    intro a ha
    have ha : a < nT T + 1 := by
      rw [← ct_n (T' := setRow (setRow T 5 (upd (toT K wd T p).1 (9 * nT T) (nI (toT K wd T p).2))) 13 (upd (T 13) (nT T) (nI (p + 1)))) (i := 2) (n := nT T + 1) (by omega)]; exact ha
    rw [r5]
    intro n m hn hm e
    have t1' : (toT K wd T p).2 ≤ 8 := t1
    have t3' : ∀ x, x < 9 * nT T + 1 → (toT K wd T p).1 x = T 5 x := t3
    by_cases ea : a = nT T
    · subst ea
      rw [upd_s, ix_n (by omega)] at hn hm
      rw [upd_n (by omega), upd_n (by omega)] at e
      exact td n m hn hm e
    · obtain ⟨z, z1, z2, -⟩ := hw.2 a (by omega)
      have e9 : upd (toT K wd T p).1 (9 * nT T) (nI (toT K wd T p).2) (9 * a) = T 5 (9 * a) := (upd_n (by omega)).trans (t3' _ (by omega))
      rw [e9] at hn hm
      have hz : ix (T 5 (9 * a)) = z := by rw [z2, ix_n (by omega)]
      rw [upd_n (by omega), upd_n (by omega), t3' _ (by omega), t3' _ (by omega)] at e
      exact h a (by omega) n m hn hm e
  rw [if_neg k7] at hE ⊢
  by_cases k9 : K p = 9
  · rw [if_pos k9] at hE ⊢
    split
    · exact h
    · exact ds_cong h (by unfold nT; rw [ct_o (by decide)]; simp [setRow]) (by simp [ctT, setRow])
  rw [if_neg k9] at hE ⊢
  split
  · exact h
  · exact ds_cong h (by unfold nT; rw [ct_o (by decide)]; simp [setRow]) (by simp [ctT, setRow])
end DS
