/-! THE PURE VIEW: a run of the system's own methods over numbered cells (ids), with the machine's facts hidden in a context -/
abbrev MI : Type := Nat → Nat → Int32
abbrev MJ : Type := Nat → Nat → Int64
abbrev MP : Type := Nat → Nat → Option Nat
def up2 {α : Type} (f : Nat → Nat → α) (a k : Nat) (v : α) : Nat → Nat → α := fun x j => if x = a then (if j = k then v else f x j) else f x j
/-- what each cell is: an object (its class, its fields' kinds: 0 int, 1 long, 2 reference that changes, n + 3 the cell n), or a row (0 int, 1 byte, 2 boolean, 3 long, n + 4 of the cells from n on) and its length -/
def shp (i : Nat) : (Nat × List Nat) ⊕ (Nat × Nat) := if i < 80 then (if i < 40 then (if i < 20 then (if i < 10 then (if i < 5 then (if i < 2 then (if i < 1 then .inl (8, [2, 2, 4, 6, 11, 13, 23, 31, 20, 0]) else .inl (4, [5, 0])) else (if i < 3 then .inr (1, 2000) else (if i < 4 then .inl (6, [7, 8, 9, 10, 0, 1, 0]) else .inr (0, 401)))) else (if i < 7 then (if i < 6 then .inr (3, 401) else .inr (0, 401)) else (if i < 8 then .inr (3, 28) else (if i < 9 then .inl (2, [12, 6, 2, 0, 0]) else .inr (0, 401))))) else (if i < 15 then (if i < 12 then (if i < 11 then .inl (5, [0, 14, 15, 16, 17, 18, 19, 0, 0]) else .inr (3, 6)) else (if i < 13 then .inr (3, 16) else (if i < 14 then .inr (3, 6) else .inr (3, 5)))) else (if i < 17 then (if i < 16 then .inr (0, 16) else .inr (0, 401)) else (if i < 18 then .inl (0, [21, 0]) else (if i < 19 then .inr (0, 400) else .inr (0, 5)))))) else (if i < 30 then (if i < 25 then (if i < 22 then (if i < 21 then .inl (3, [2, 0, 0, 0, 24, 25, 26, 27, 28, 29, 30]) else .inr (0, 16)) else (if i < 23 then .inr (0, 16) else (if i < 24 then .inr (0, 16) else .inr (0, 16)))) else (if i < 27 then (if i < 26 then .inr (0, 6) else .inr (0, 5)) else (if i < 28 then .inr (0, 5) else (if i < 29 then .inl (3, [2, 0, 0, 0, 32, 33, 34, 35, 36, 37, 38]) else .inr (0, 16))))) else (if i < 35 then (if i < 32 then (if i < 31 then .inr (0, 16) else .inr (0, 16)) else (if i < 33 then .inr (0, 16) else (if i < 34 then .inr (0, 6) else .inr (0, 5)))) else (if i < 37 then (if i < 36 then .inr (0, 5) else .inl (7, [0, 0, 0, 0, 0, 40, 41, 42, 43, 44, 45, 52, 53, 54, 55, 56, 57, 58])) else (if i < 38 then .inr (0, 6) else (if i < 39 then .inr (0, 16) else .inr (0, 16))))))) else (if i < 60 then (if i < 50 then (if i < 45 then (if i < 42 then (if i < 41 then .inr (0, 16) else .inr (0, 6)) else (if i < 43 then .inr (47, 6) else (if i < 44 then .inr (0, 8) else .inr (0, 8)))) else (if i < 47 then (if i < 46 then .inr (0, 8) else .inr (0, 8)) else (if i < 48 then .inr (0, 8) else (if i < 49 then .inr (0, 8) else .inr (0, 5))))) else (if i < 55 then (if i < 52 then (if i < 51 then .inr (2, 20) else .inr (0, 20)) else (if i < 53 then .inr (0, 20) else (if i < 54 then .inr (0, 20) else .inr (0, 20)))) else (if i < 57 then (if i < 56 then .inl (1, [59, 60, 0]) else .inr (0, 400)) else (if i < 58 then .inr (0, 400) else (if i < 59 then .inl (7, [0, 0, 0, 0, 0, 62, 63, 64, 65, 66, 67, 74, 75, 76, 77, 78, 79, 80]) else .inr (0, 6)))))) else (if i < 70 then (if i < 65 then (if i < 62 then (if i < 61 then .inr (0, 16) else .inr (0, 16)) else (if i < 63 then .inr (0, 16) else (if i < 64 then .inr (0, 6) else .inr (69, 6)))) else (if i < 67 then (if i < 66 then .inr (0, 8) else .inr (0, 8)) else (if i < 68 then .inr (0, 8) else (if i < 69 then .inr (0, 8) else .inr (0, 8))))) else (if i < 75 then (if i < 72 then (if i < 71 then .inr (0, 8) else .inr (0, 5)) else (if i < 73 then .inr (2, 20) else (if i < 74 then .inr (0, 20) else .inr (0, 20)))) else (if i < 77 then (if i < 76 then .inr (0, 20) else .inr (0, 20)) else (if i < 78 then .inl (1, [81, 82, 0]) else (if i < 79 then .inr (0, 400) else .inr (0, 400)))))))) else .inl (99, [])
def vmap (ad : Nat → Nat) (v : Value) : Value := match v with
  | .ref a => .ref (ad a)
  | w => w
def fvl (ad : Nat → Nat) (I : MI) (J : MJ) (P : MP) (i k q : Nat) : Value := if q = 0 then .int (I i k) else if q = 1 then .long (J i k) else if q = 2 then va_rf ((P i k).map ad) else .ref (ad (q - 3))
def fvs (ad : Nat → Nat) (I : MI) (J : MJ) (P : MP) (i : Nat) : Nat → List Nat → List Value
  | _, [] => []
  | k, q :: r => fvl ad I J P i k q :: fvs ad I J P i (k + 1) r
def cel (ad : Nat → Nat) (cy : Nat → ClassId) (I : MI) (J : MJ) (P : MP) (i : Nat) : va_E := match shp i with
  | .inl (c, ks) => .inr (c, fvs ad I J P i 0 ks)
  | .inr (a, n) => if a = 3 then .inl (cy 3, n, .inr (.inl (J i))) else if a < 3 then .inl (cy a, n, .inl (I i)) else .inl (cy 4, n, .inr (.inr (.inr (.inr (fun j => some (ad (a - 4 + j)))))))
def wsO (ad : Nat → Nat) (cy : Nat → ClassId) (I : MI) (J : MJ) (P : MP) : va_W := (List.range 80).map (fun i => (ad i, cel ad cy I J P i))
def tysO (cy : Nat → ClassId) : List (ClassId × FieldType) := [(cy 0, .int), (cy 1, .byte), (cy 2, .boolean), (cy 3, .long), (cy 4, .array .int)]
theorem wsO_at {ad : Nat → Nat} {cy : Nat → ClassId} {I : MI} {J : MJ} {P : MP} {i : Nat} (h : i < 80) : (wsO ad cy I J P)[i]? = some (ad i, cel ad cy I J P i) := by
  simp [wsO, h]
theorem wsO_ix {ad : Nat → Nat} {cy : Nat → ClassId} {I : MI} {J : MJ} {P : MP} {i : Nat} {q : Nat × va_E} (h : (wsO ad cy I J P)[i]? = some q) : i < 80 ∧ q = (ad i, cel ad cy I J P i) := by
  have h1 : i < 80 := by
    have := (List.getElem?_eq_some_iff.mp h).1
    simpa [wsO] using this
  rw [wsO_at h1] at h
  exact ⟨h1, (Option.some.inj h).symm⟩
theorem wsO_set {ad : Nat → Nat} {cy : Nat → ClassId} {I I' : MI} {J J' : MJ} {P P' : MP} {i : Nat} {x : va_E} (hi : i < 80) (e : cel ad cy I' J' P' i = x) (ho : ∀ j, j ≠ i → cel ad cy I' J' P' j = cel ad cy I J P j) : (wsO ad cy I J P).set i (ad i, x) = wsO ad cy I' J' P' := by
  apply List.ext_getElem?
  intro j
  rw [List.getElem?_set]
  by_cases hj : i = j
  · subst hj
    have hl : i < (wsO ad cy I J P).length := by simp [wsO]; exact hi
    rw [if_pos rfl, if_pos hl, wsO_at hi, e]
  · rw [if_neg hj]
    by_cases h : j < 80
    · rw [wsO_at h, wsO_at h, ho j (fun q => hj q.symm)]
    · rw [List.getElem?_eq_none (by simp [wsO]; omega), List.getElem?_eq_none (by simp [wsO]; omega)]
theorem fvs_at {ad : Nat → Nat} {I : MI} {J : MJ} {P : MP} {i : Nat} : ∀ {ks : List Nat} {k0 k : Nat}, (fvs ad I J P i k0 ks)[k]? = (ks[k]?).map (fvl ad I J P i (k0 + k))
  | [], k0, k => by simp [fvs]
  | q :: r, k0, 0 => by simp [fvs]
  | q :: r, k0, k + 1 => by
    simp only [fvs, List.getElem?_cons_succ]
    rw [fvs_at, show k0 + 1 + k = k0 + (k + 1) by omega]
theorem fvs_len {ad : Nat → Nat} {I : MI} {J : MJ} {P : MP} {i : Nat} : ∀ {ks : List Nat} {k0 : Nat}, (fvs ad I J P i k0 ks).length = ks.length
  | [], _ => rfl
  | _ :: r, k0 => by simp [fvs, fvs_len (ks := r)]
theorem fvs_set {ad : Nat → Nat} {I I' : MI} {J J' : MJ} {P P' : MP} {i k q : Nat} {ks : List Nat} {v : Value} (hk : ks[k]? = some q) (hv : fvl ad I' J' P' i k q = v) (ho : ∀ j r, j ≠ k → fvl ad I' J' P' i j r = fvl ad I J P i j r) : (fvs ad I J P i 0 ks).set k v = fvs ad I' J' P' i 0 ks := by
  apply List.ext_getElem?
  intro j
  rw [List.getElem?_set]
  have hl : k < ks.length := (List.getElem?_eq_some_iff.mp hk).1
  by_cases hj : k = j
  · subst hj
    rw [if_pos rfl, if_pos (by rw [fvs_len]; exact hl), fvs_at, hk]
    simp [hv]
  · rw [if_neg hj, fvs_at, fvs_at]
    cases h : ks[j]? with
    | none => rfl
    | some r => simp [ho j r (fun e => hj e.symm)]
theorem cel_o {ad : Nat → Nat} {cy : Nat → ClassId} {I : MI} {J : MJ} {P : MP} {i c : Nat} {ks : List Nat} (h : shp i = .inl (c, ks)) : cel ad cy I J P i = .inr (c, fvs ad I J P i 0 ks) := by
  simp only [cel, h]
theorem cel_i {ad : Nat → Nat} {cy : Nat → ClassId} {I : MI} {J : MJ} {P : MP} {i a n : Nat} (h : shp i = .inr (a, n)) (ha : a < 3) : cel ad cy I J P i = .inl (cy a, n, .inl (I i)) := by
  simp only [cel, h]
  rw [if_neg (by omega), if_pos ha]
theorem cel_l {ad : Nat → Nat} {cy : Nat → ClassId} {I : MI} {J : MJ} {P : MP} {i n : Nat} (h : shp i = .inr (3, n)) : cel ad cy I J P i = .inl (cy 3, n, .inr (.inl (J i))) := by
  simp only [cel, h]
  rfl
theorem cel_q {ad : Nat → Nat} {cy : Nat → ClassId} {I : MI} {J : MJ} {P : MP} {i b n : Nat} (h : shp i = .inr (b + 4, n)) : cel ad cy I J P i = .inl (cy 4, n, .inr (.inr (.inr (.inr (fun j => some (ad (b + j))))))) := by
  simp only [cel, h]
  rw [if_neg (by omega), if_neg (by omega)]
  simp
def shpB (i : Nat) : Bool := match shp i with
  | .inr (_, n) => decide (n < 2147483648)
  | .inl _ => true
theorem shpB_all : (List.range 80).all shpB = true := by decide +kernel
theorem shp_out {i : Nat} (h : ¬ i < 80) : shp i = .inl (99, []) := by
  unfold shp
  rw [if_neg h]
theorem shp_lt {i : Nat} {x : Nat × Nat} (h : shp i = .inr x) : i < 80 := by
  by_cases hi : i < 80
  · exact hi
  · rw [shp_out hi] at h
    cases h
theorem shp_lo {i c : Nat} {ks : List Nat} (h : shp i = .inl (c, ks)) (hc : c < 99) : i < 80 := by
  by_cases hi : i < 80
  · exact hi
  · rw [shp_out hi] at h
    cases h
    exact absurd hc (by decide)
theorem shp_le {i a n : Nat} (h : shp i = .inr (a, n)) : n < 2147483648 := by
  have h1 := List.all_eq_true.mp shpB_all i (List.mem_range.mpr (shp_lt h))
  simpa [shpB, h] using h1
theorem up2_o {α : Type} {f : Nat → Nat → α} {a k j : Nat} {v : α} (h : j ≠ a) : up2 f a k v j = f j := by
  funext x
  simp [up2, h]
theorem up2_s {α : Type} {f : Nat → Nat → α} {a k : Nat} {v : α} : up2 f a k v a k = v := by simp [up2]
theorem up2_n {α : Type} {f : Nat → Nat → α} {a k j : Nat} {v : α} (h : j ≠ k) : up2 f a k v a j = f a j := by simp [up2, h]
theorem cel_eqI {ad : Nat → Nat} {cy : Nat → ClassId} {I : MI} {J : MJ} {P : MP} {i k j : Nat} {v : Int32} (h : j ≠ i) : cel ad cy (up2 I i k v) J P j = cel ad cy I J P j := by
  have e : ∀ k0 ks, fvs ad (up2 I i k v) J P j k0 ks = fvs ad I J P j k0 ks := by
    intro k0 ks
    induction ks generalizing k0 with
    | nil => rfl
    | cons q r ih => simp only [fvs, ih, fvl, up2_o h]
  simp only [cel, e, up2_o h]
theorem cel_eqJ {ad : Nat → Nat} {cy : Nat → ClassId} {I : MI} {J : MJ} {P : MP} {i k j : Nat} {v : Int64} (h : j ≠ i) : cel ad cy I (up2 J i k v) P j = cel ad cy I J P j := by
  have e : ∀ k0 ks, fvs ad I (up2 J i k v) P j k0 ks = fvs ad I J P j k0 ks := by
    intro k0 ks
    induction ks generalizing k0 with
    | nil => rfl
    | cons q r ih => simp only [fvs, ih, fvl, up2_o h]
  simp only [cel, e, up2_o h]
theorem cel_eqP {ad : Nat → Nat} {cy : Nat → ClassId} {I : MI} {J : MJ} {P : MP} {i k j : Nat} {v : Option Nat} (h : j ≠ i) : cel ad cy I J (up2 P i k v) j = cel ad cy I J P j := by
  have e : ∀ k0 ks, fvs ad I J (up2 P i k v) j k0 ks = fvs ad I J P j k0 ks := by
    intro k0 ks
    induction ks generalizing k0 with
    | nil => rfl
    | cons q r ih => simp only [fvs, ih, fvl, up2_o h]
  simp only [cel, e]
/-! locals by places -/
def asl (ad : Nat → Nat) : Nat → List (Option Value) → List (Nat × Value)
  | _, [] => []
  | i, none :: r => asl ad (i + 1) r
  | i, some v :: r => (i, vmap ad v) :: asl ad (i + 1) r
theorem asl_in {ad : Nat → Nat} : ∀ {lv : List (Option Value)} {i0 j : Nat} {w : Value}, (j, w) ∈ asl ad i0 lv ↔ ∃ k v, j = i0 + k ∧ lv[k]? = some (some v) ∧ w = vmap ad v
  | [], i0, j, w => by simp [asl]
  | none :: r, i0, j, w => by
    rw [asl, asl_in]
    constructor
    · rintro ⟨k, v, h1, h2, h3⟩
      exact ⟨k + 1, v, by omega, by simpa using h2, h3⟩
    · rintro ⟨k, v, h1, h2, h3⟩
      cases k with
      | zero => simp at h2
      | succ k => exact ⟨k, v, by omega, by simpa using h2, h3⟩
  | some u :: r, i0, j, w => by
    rw [asl, List.mem_cons, asl_in]
    constructor
    · rintro (h | ⟨k, v, h1, h2, h3⟩)
      · cases h
        exact ⟨0, u, rfl, rfl, rfl⟩
      · exact ⟨k + 1, v, by omega, by simpa using h2, h3⟩
    · rintro ⟨k, v, h1, h2, h3⟩
      cases k with
      | zero =>
        simp at h2
        subst h2
        exact Or.inl (by rw [h1, h3]; rfl)
      | succ k => exact Or.inr ⟨k, v, by omega, by simpa using h2, h3⟩
theorem asl_at {ad : Nat → Nat} {ls : Array Slot} {nL : Nat} {lv : List (Option Value)} (h : lv_has ls nL (asl ad 0 lv)) {i : Nat} {v : Value} (hi : lv[i]? = some (some v)) : ls[i]? = some (.val (vmap ad v)) := h.2.2 (i, vmap ad v) (asl_in.mpr ⟨i, v, by omega, hi, rfl⟩)
theorem vmap_cat (ad : Nat → Nat) (v : Value) : (vmap ad v).category = v.category := by cases v <;> rfl
theorem vmap_cats (ad : Nat → Nat) : ∀ st : List Value, ((st.map (vmap ad)).map fun v => v.category).sum = (st.map fun v => v.category).sum
  | [] => rfl
  | v :: r => by simp only [List.map_cons, List.sum_cons, vmap_cat, vmap_cats ad r]
/-- behind a store of one word at i: what stands at i - 1 isn't a long -/
def okst : List (Option Value) → Nat → Bool
  | some v :: _, 1 => v.category == 1
  | none :: _, 1 => true
  | _ :: r, i + 1 => okst r i
  | _, _ => true
theorem okst_of : ∀ {lv : List (Option Value)} {i k : Nat} {v : Value}, okst lv i = true → k + 1 = i → lv[k]? = some (some v) → v.category = 1
  | [], i, k, v, _, _, h => by simp at h
  | a :: r, i, 0, v, h, hk, hv => by
    subst hk
    simp at hv
    subst hv
    simpa [okst] using h
  | a :: r, i, k + 1, v, h, hk, hv => by
    subst hk
    have h' : okst r (k + 1) = true := by
      cases a <;> simpa [okst] using h
    exact okst_of h' rfl (by simpa using hv)
theorem asl_set1 {ad : Nat → Nat} {ls : Array Slot} {nL i : Nat} {lv : List (Option Value)} {v : Value} (ok : okst lv i = true) (h : lv_has ls nL ((i, vmap ad v) :: (asl ad 0 lv).filter (fun q => !(q.1 == i) && !(q.1 + 1 == i && q.2.category == 2)))) : lv_has ls nL (asl ad 0 (lv.set i (some v))) := by
  refine ⟨h.1, h.2.1, fun q hq => h.2.2 q ?_⟩
  obtain ⟨j, w⟩ := q
  obtain ⟨k, u, h1, h2, h3⟩ := asl_in.mp hq
  have h1 : j = k := by omega
  subst h1
  rw [List.getElem?_set] at h2
  by_cases hj : i = j
  · subst hj
    by_cases hl : i < lv.length
    · rw [if_pos rfl, if_pos hl] at h2
      cases h2
      rw [h3]
      exact List.mem_cons_self
    · rw [if_pos rfl, if_neg hl] at h2
      cases h2
  · rw [if_neg hj] at h2
    refine List.mem_cons_of_mem _ (List.mem_filter.mpr ⟨asl_in.mpr ⟨j, u, by omega, h2, h3⟩, ?_⟩)
    have e1 : (j == i) = false := by simpa using (fun e => hj e.symm)
    by_cases hq2 : j + 1 = i
    · have hc := okst_of ok hq2 h2
      simp [e1, h3, vmap_cat, hc]
    · simp [e1, hq2]
theorem asl_set2 {ad : Nat → Nat} {ls : Array Slot} {nL i : Nat} {lv : List (Option Value)} {v : Value} (ok : okst lv i = true) (h : lv_has ls nL ((i, vmap ad v) :: (asl ad 0 lv).filter (fun q => !(q.1 == i) && (!(q.1 == i + 1) && !(q.1 + 1 == i && q.2.category == 2))))) : lv_has ls nL (asl ad 0 ((lv.set i (some v)).set (i + 1) none)) := by
  refine ⟨h.1, h.2.1, fun q hq => h.2.2 q ?_⟩
  obtain ⟨j, w⟩ := q
  obtain ⟨k, u, h1, h2, h3⟩ := asl_in.mp hq
  have h1 : j = k := by omega
  subst h1
  rw [List.getElem?_set] at h2
  by_cases hj1 : i + 1 = j
  · subst hj1
    rw [if_pos rfl] at h2
    split at h2 <;> cases h2
  rw [if_neg hj1, List.getElem?_set] at h2
  by_cases hj : i = j
  · subst hj
    by_cases hl : i < lv.length
    · rw [if_pos rfl, if_pos hl] at h2
      cases h2
      rw [h3]
      exact List.mem_cons_self
    · rw [if_pos rfl, if_neg hl] at h2
      cases h2
  · rw [if_neg hj] at h2
    refine List.mem_cons_of_mem _ (List.mem_filter.mpr ⟨asl_in.mpr ⟨j, u, by omega, h2, h3⟩, ?_⟩)
    have e1 : (j == i) = false := by simpa using (fun e => hj e.symm)
    have e2 : (j == i + 1) = false := by simpa using (fun e => hj1 e.symm)
    by_cases hq2 : j + 1 = i
    · have hc := okst_of ok hq2 h2
      simp [e1, e2, h3, vmap_cat, hc]
    · simp [e1, e2, hq2]
/-- the locals of an entry -/
def entA : List Value → List (Option Value)
  | [] => []
  | v :: r => if v.category = 2 then some v :: none :: entA r else some v :: entA r
def ent (vs : List Value) (n : Nat) : List (Option Value) := entA vs ++ List.replicate (n - (entA vs).length) none
theorem asl_app (ad : Nat → Nat) (n : Nat) : ∀ (l : List (Option Value)) (i : Nat), asl ad i (l ++ List.replicate n none) = asl ad i l
  | [], i => by
    induction n generalizing i with
    | zero => rfl
    | succ n ih => exact ih (i + 1)
  | none :: r, i => asl_app ad n r (i + 1)
  | some v :: r, i => by
    show (i, vmap ad v) :: asl ad (i + 1) (r ++ _) = (i, vmap ad v) :: asl ad (i + 1) r
    rw [asl_app ad n r (i + 1)]
theorem asl_ent (ad : Nat → Nat) : ∀ (vs : List Value) (i : Nat), asl ad i (entA vs) = lv_args i (vs.map (vmap ad))
  | [], i => rfl
  | v :: r, i => by
    simp only [entA, List.map_cons, lv_args, vmap_cat]
    split
    · simp only [asl]
      rw [asl_ent ad r]
    · simp only [asl]
      rw [asl_ent ad r]
theorem ent_len (ad : Nat → Nat) : ∀ vs : List Value, (lg_sl (vs.map (vmap ad))).length = (entA vs).length
  | [] => rfl
  | v :: r => by
    have ih := ent_len ad r
    simp only [lg_sl] at ih
    simp only [lg_sl, List.map_cons, List.flatMap_cons, List.length_append, entA, vmap_cat]
    split <;> simp [ih] <;> omega
