/-! A new numbering: the told list with the draft, the book with the next -/
def pi (i : Nat) : Nat := if 36 ≤ i ∧ i < 58 then i + 22 else if 58 ≤ i ∧ i < 80 then i - 22 else if 93 ≤ i ∧ i < 104 then i + 11 else if 104 ≤ i ∧ i < 115 then i - 11 else i
theorem pi_pi (i : Nat) : pi (pi i) = i := by
  unfold pi
  split <;> split <;> (try split) <;> (try split) <;> (try split) <;> (try split) <;> (try split) <;> omega
theorem pi_lt {i : Nat} (h : i < 115) : pi i < 115 := by
  unfold pi
  split <;> (try split) <;> (try split) <;> (try split) <;> omega
theorem pi_hi {i : Nat} (h : 115 ≤ i) : pi i = i := by
  unfold pi
  rw [if_neg (by omega), if_neg (by omega), if_neg (by omega), if_neg (by omega)]
def pif (q : Nat) : Nat := if q < 3 then q else pi (q - 3) + 3
def shP : (Nat × List Nat) ⊕ (Nat × Nat) → (Nat × List Nat) ⊕ (Nat × Nat)
  | .inl (c, ks) => .inl (c, ks.map pif)
  | .inr (a, n) => .inr (if a < 4 then a else pi (a - 4) + 4, n)
def shO (i : Nat) : Bool := decide (shp (pi i) = shP (shp i)) && (match shp i with
  | .inl _ => true
  | .inr (a, n) => decide (a < 4) || (List.range n).all (fun j => decide (pi (a - 4 + j) = pi (a - 4) + j)))
theorem shO_all : ∀ i, i < 115 → shO i = true := by
  intro i hi
  have h : (List.range 115).all shO = true := by decide +kernel
  exact List.all_eq_true.mp h i (List.mem_range.mpr hi)
theorem shp_pi {i : Nat} (h : i < 115) : shp (pi i) = shP (shp i) := of_decide_eq_true (Bool.and_eq_true_iff.mp (shO_all i h)).1
theorem shp_row {i a n : Nat} (h : i < 115) (hs : shp i = .inr (a, n)) (ha : ¬ a < 4) : ∀ j, j < n → pi (a - 4 + j) = pi (a - 4) + j := by
  intro j hj
  have h2 := (Bool.and_eq_true_iff.mp (shO_all i h)).2
  rw [hs] at h2
  rcases Bool.or_eq_true_iff.mp h2 with q | q
  · exact absurd (of_decide_eq_true q) ha
  · exact of_decide_eq_true (List.all_eq_true.mp q j (List.mem_range.mpr hj))
def renP (P : MP) : MP := fun k j => (P (pi k) j).map pi
def ren {α : Type} (I : Nat → Nat → α) : Nat → Nat → α := fun k => I (pi k)
section RN
variable {ad : Nat → Nat} {cy : Nat → ClassId} {I : MI} {J : MJ} {P : MP}
theorem fvl_ren (i k q : Nat) : fvl (ad ∘ pi) (ren I) (ren J) (renP P) i k q = fvl ad I J P (pi i) k (pif q) := by
  unfold pif
  rcases Nat.lt_or_ge q 3 with h | h
  · rw [if_pos h]
    rcases (show q = 0 ∨ q = 1 ∨ q = 2 by omega) with rfl | rfl | rfl
    · rfl
    · rfl
    · show va_rf ((renP P i k).map (ad ∘ pi)) = va_rf ((P (pi i) k).map ad)
      congr 1
      unfold renP
      cases P (pi i) k with
      | none => rfl
      | some x =>
        show some (ad (pi (pi x))) = some (ad x)
        rw [pi_pi]
  · rw [if_neg (by omega)]
    unfold fvl
    rw [if_neg (by omega), if_neg (by omega), if_neg (by omega), if_neg (by omega), if_neg (by omega), if_neg (by omega), Nat.add_sub_cancel]
    rfl
theorem fvs_ren (i : Nat) : ∀ (ks : List Nat) (k : Nat), fvs (ad ∘ pi) (ren I) (ren J) (renP P) i k ks = fvs ad I J P (pi i) k (ks.map pif)
  | [], _ => rfl
  | q :: r, k => by
    show fvl _ _ _ _ i k q :: fvs _ _ _ _ i (k + 1) r = fvl ad I J P (pi i) k (pif q) :: fvs ad I J P (pi i) (k + 1) (r.map pif)
    rw [fvl_ren, fvs_ren i r]
theorem arrV_ext {c : ClassId} {n : Nat} {f g : Nat → Value} (h : ∀ j, j < n → f j = g j) : arrV c n f = arrV c n g := by
  unfold arrV
  congr 1
  apply Array.ext
  · simp
  · intro j h1 h2
    simp at h1 ⊢
    exact h j h1
theorem wso_ren {D : va_G} {cl : List vw_C} {H : Heap} (h : va_P D cl (wsO ad cy I J P) H) : va_P D cl (wsO (ad ∘ pi) cy (ren I) (ren J) (renP P)) H := by
  intro k q hq
  obtain ⟨k1, rfl⟩ := wsO_ix hq
  have h1 := h (pi k) _ (wsO_at (pi_lt k1))
  unfold va_at at h1 ⊢
  have hs := shp_pi k1
  unfold cel at h1 ⊢
  rw [hs] at h1
  cases hk : shp k with
  | inl v =>
    obtain ⟨c, ks⟩ := v
    rw [hk] at h1
    dsimp only [shP] at h1 ⊢
    rw [fvs_ren]
    exact h1
  | inr v =>
    obtain ⟨a, n⟩ := v
    rw [hk] at h1
    dsimp only [shP] at h1 ⊢
    by_cases ha : a < 4
    · rw [if_pos ha] at h1
      by_cases h3 : a = 3
      · rw [if_pos h3] at h1 ⊢
        exact h1
      · rw [if_neg h3, if_pos (by omega)] at h1 ⊢
        exact h1
    · rw [if_neg ha] at h1
      rw [if_neg (by omega), if_neg (by omega)] at h1 ⊢
      dsimp only [vp_cell] at h1 ⊢
      rw [arrV_ext (g := fun j => va_rf (some (ad (pi (a - 4) + 4 - 4 + j)))) (fun j hj => by
        show va_rf (some (ad (pi (a - 4 + j)))) = _
        rw [shp_row k1 hk ha j hj, Nat.add_sub_cancel])]
      exact h1
end RN
theorem ro_ren {ad : Nat → Nat} {A : Nat → Prop} {U : State} {H : Heap} (h : RO ad A U H) : RO (ad ∘ pi) A U H := by
  have e2 : (fun i => (ad ∘ pi) (200 + i)) = fun i => ad (200 + i) := funext fun i => congrArg ad (pi_hi (by omega))
  have e3 : (fun i => (ad ∘ pi) (300 + i)) = fun i => ad (300 + i) := funext fun i => congrArg ad (pi_hi (by omega))
  have e4 : (fun j => Value.ref ((ad ∘ pi) (200 + j))) = fun j => Value.ref (ad (200 + j)) := funext fun j => congrArg (fun z => Value.ref (ad z)) (pi_hi (by omega))
  have e5 : (ad ∘ pi) 400 = ad 400 := congrArg ad (pi_hi (by decide))
  have e6 : (ad ∘ pi) 401 = ad 401 := congrArg ad (pi_hi (by decide))
  have e7 : (ad ∘ pi) 228 = ad 228 := congrArg ad (pi_hi (by decide))
  have e8 : (ad ∘ pi) 229 = ad 229 := congrArg ad (pi_hi (by decide))
  unfold RO at h ⊢
  rw [e2, e3, e4, e5, e6, e7, e8]
  exact h
def cxR (Γ : Cx) : Cx := match Γ with
  | (p, l, e, R, s, m, args, below, meth, c, ad, dC, dI, cy, A) => (p, l, e, R, s, m, args, below, meth, c, ad ∘ pi, dC, dI, cy, A)
theorem vc_ren {own : String} {cc : ByteArray} {nL : Nat} {ret : Option FieldType} {d : Nat} {Γ : Cx} (h : Vc own cc nL ret d Γ) : Vc own cc nL ret d (cxR Γ) := by
  obtain ⟨p, l, e, R, s, m, args, below, meth, c, ad, dC, dI, cy, A⟩ := Γ
  obtain ⟨hx, hb, hml, hr, hown, hts, hlk, hK, hA, hin, hAd, hf, hlo, hRO⟩ := h
  refine ⟨hx, hb, hml, hr, hown, hts, hlk, hK, hA, fun i j hi hj e => ?_, fun i hi => hAd _ (pi_lt hi), hf, hlo, ro_ren hRO⟩
  have := hin _ _ (pi_lt hi) (pi_lt hj) e
  rw [← pi_pi i, this, pi_pi]
def fixd (lv : List (Option Value)) : Prop := ∀ (ad : Nat → Nat), asl (ad ∘ pi) 0 lv = asl ad 0 lv
theorem vg_ren {Γ : Cx} {kc kn pc : Nat} {lv : List (Option Value)} {I : MI} {J : MJ} {P : MP} {Φ : State → Prop} (hlv : fixd lv) (k : VG (cxR Γ) kc kn pc lv [] (ren I) (ren J) (renP P) Φ) : VG Γ kc kn pc lv [] I J P Φ := by
  obtain ⟨p, l, e, R, s, m, args, below, meth, c, ad, dC, dI, cy, A⟩ := Γ
  intro H locs ls hP hS hl
  exact k H locs ls (wso_ren hP) hS (by rw [hlv ad]; exact hl)
