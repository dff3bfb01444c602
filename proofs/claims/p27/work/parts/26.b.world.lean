/-! The first world, by its numbers -/
theorem arrV_ex9 {c : ClassId} {N : Nat} {f g : Nat → Value} (h : ∀ j, j < N → f j = g j) : arrV c N f = arrV c N g := by
  have e : (fun j : Fin N => f j.val) = fun j : Fin N => g j.val := funext fun j => h j.val j.isLt
  unfold arrV
  rw [e]
theorem p_perm {D : va_G} {cl : List vw_C} {ws ws' : va_W} {H : Heap} (h : va_P D cl ws H) (is : List Nat) (hs : is.map (fun i => ws[i]?) = ws'.map some) : va_P D cl ws' H := fun k q hk => by
  have h1 : (is.map (fun i => ws[i]?))[k]? = some (some q) := by rw [hs, List.getElem?_map, hk]; rfl
  rw [List.getElem?_map] at h1
  obtain ⟨i, i1, i2⟩ := Option.map_eq_some_iff.mp h1
  exact h i q i2
theorem p_set {D : va_G} {cl : List vw_C} {ws : va_W} {H : Heap} {k : Nat} {q' : Nat × va_E} (h : va_P D cl ws H) (hq : va_at D cl q' H) : va_P D cl (ws.set k q') H := fun i q hi => by
  rw [List.getElem?_set] at hi
  by_cases e : k = i
  · rw [if_pos e] at hi
    split at hi
    · cases hi; exact hq
    · cases hi
  · rw [if_neg e] at hi; exact h i q hi
def J00 (row : Nat → Int64) : MJ := fun k => if k = 7 then row else fun _ => 0
def I00 (fD : Nat → Int32) : MI := fun k j => if k = 19 then fD j else if k = 0 ∧ j = 9 then -1 else if k = 8 ∧ j = 3 then nI 46 else if k = 10 ∧ (j = 7 ∨ j = 8) then nI 48 else nI 0
def P00 : MP := fun k j => if k = 0 ∧ j = 0 then some 36 else if k = 0 ∧ j = 1 then some 58 else if (k = 20 ∨ k = 28) ∧ j = 0 then some 36 else if k = 8 ∧ j = 2 then some 77 else none
def piL : List Nat := [0, 45, 46, 47, 48, 49, 50, 51, 52, 53, 54, 55, 56, 57, 58, 59, 60, 77, 78, 79, 61, 62, 63, 64, 65, 66, 67, 68, 69, 70, 71, 72, 73, 74, 75, 76, 1, 2, 3, 4, 5, 6, 7, 8, 9, 10, 11, 12, 13, 14, 15, 16, 17, 18, 19, 20, 21, 22, 23, 24, 25, 26, 27, 28, 29, 30, 31, 32, 33, 34, 35, 36, 37, 38, 39, 40, 41, 42, 43, 44]
theorem piL_nd : va_nd piL = true := by decide +kernel
def wsM (ad : Nat → Nat) (cy : Nat → ClassId) (row : Nat → Int64) (fD : Nat → Int32) (r36 r58 : Nat → Nat) : va_W := [(ad 0, .inr (8, [.ref (ad 36), .ref (ad 58), .ref (ad 1), .ref (ad 3), .ref (ad 8), .ref (ad 10), .ref (ad 20), .ref (ad 28), .ref (ad 17), .int (-1)])), (ad 36, .inr (7, [.int (nI 0), .int (nI 0), .int (nI 0), .int (nI 0), .int (nI 0), .ref (ad 37), .ref (ad 38), .ref (ad 39), .ref (ad 40), .ref (ad 41), .ref (ad 42), .ref (ad 49), .ref (ad 50), .ref (ad 51), .ref (ad 52), .ref (ad 53), .ref (ad 54), .ref (ad 55)])), (ad 37, .inl (cy 0, 6, .inl (fun _ => nI 0))), (ad 38, .inl (cy 0, 16, .inl (fun _ => nI 0))), (ad 39, .inl (cy 0, 16, .inl (fun _ => nI 0))), (ad 40, .inl (cy 0, 16, .inl (fun _ => nI 0))), (ad 41, .inl (cy 0, 6, .inl (fun _ => nI 0))), (ad 42, .inl (cy 4, 6, .inr (.inr (.inr (.inr (fun i => if i < 6 then some (r36 i) else none)))))), (ad 43, .inl (cy 0, 8, .inl (fun _ => nI 0))), (ad 44, .inl (cy 0, 8, .inl (fun _ => nI 0))), (ad 45, .inl (cy 0, 8, .inl (fun _ => nI 0))), (ad 46, .inl (cy 0, 8, .inl (fun _ => nI 0))), (ad 47, .inl (cy 0, 8, .inl (fun _ => nI 0))), (ad 48, .inl (cy 0, 8, .inl (fun _ => nI 0))), (ad 49, .inl (cy 0, 5, .inl (fun _ => nI 0))), (ad 50, .inl (cy 2, 20, .inl (fun _ => nI 0))), (ad 51, .inl (cy 0, 20, .inl (fun _ => nI 0))), (ad 52, .inl (cy 0, 20, .inl (fun _ => nI 0))), (ad 53, .inl (cy 0, 20, .inl (fun _ => nI 0))), (ad 54, .inl (cy 0, 20, .inl (fun _ => nI 0))), (ad 55, .inr (1, [.ref (ad 56), .ref (ad 57), .int (nI 0)])), (ad 56, .inl (cy 0, 400, .inl (fun _ => nI 0))), (ad 57, .inl (cy 0, 400, .inl (fun _ => nI 0))), (ad 58, .inr (7, [.int (nI 0), .int (nI 0), .int (nI 0), .int (nI 0), .int (nI 0), .ref (ad 59), .ref (ad 60), .ref (ad 61), .ref (ad 62), .ref (ad 63), .ref (ad 64), .ref (ad 71), .ref (ad 72), .ref (ad 73), .ref (ad 74), .ref (ad 75), .ref (ad 76), .ref (ad 77)])), (ad 59, .inl (cy 0, 6, .inl (fun _ => nI 0))), (ad 60, .inl (cy 0, 16, .inl (fun _ => nI 0))), (ad 61, .inl (cy 0, 16, .inl (fun _ => nI 0))), (ad 62, .inl (cy 0, 16, .inl (fun _ => nI 0))), (ad 63, .inl (cy 0, 6, .inl (fun _ => nI 0))), (ad 64, .inl (cy 4, 6, .inr (.inr (.inr (.inr (fun i => if i < 6 then some (r58 i) else none)))))), (ad 65, .inl (cy 0, 8, .inl (fun _ => nI 0))), (ad 66, .inl (cy 0, 8, .inl (fun _ => nI 0))), (ad 67, .inl (cy 0, 8, .inl (fun _ => nI 0))), (ad 68, .inl (cy 0, 8, .inl (fun _ => nI 0))), (ad 69, .inl (cy 0, 8, .inl (fun _ => nI 0))), (ad 70, .inl (cy 0, 8, .inl (fun _ => nI 0))), (ad 71, .inl (cy 0, 5, .inl (fun _ => nI 0))), (ad 72, .inl (cy 2, 20, .inl (fun _ => nI 0))), (ad 73, .inl (cy 0, 20, .inl (fun _ => nI 0))), (ad 74, .inl (cy 0, 20, .inl (fun _ => nI 0))), (ad 75, .inl (cy 0, 20, .inl (fun _ => nI 0))), (ad 76, .inl (cy 0, 20, .inl (fun _ => nI 0))), (ad 77, .inr (1, [.ref (ad 78), .ref (ad 79), .int (nI 0)])), (ad 78, .inl (cy 0, 400, .inl (fun _ => nI 0))), (ad 79, .inl (cy 0, 400, .inl (fun _ => nI 0))), (ad 1, .inr (4, [.ref (ad 2), .int (nI 0)])), (ad 2, .inl (cy 1, 2000, .inl (fun _ => nI 0))), (ad 3, .inr (6, [.ref (ad 4), .ref (ad 5), .ref (ad 6), .ref (ad 7), .int (nI 0), .long 0, .int (nI 0)])), (ad 4, .inl (cy 0, 401, .inl (fun _ => nI 0))), (ad 5, .inl (cy 3, 401, .inr (.inl (fun _ => 0)))), (ad 6, .inl (cy 0, 401, .inl (fun _ => nI 0))), (ad 7, .inl (cy 3, 28, .inr (.inl row))), (ad 8, .inr (2, [.ref (ad 9), .ref (ad 3), .ref (ad 77), .int (nI 46), .int (nI 0)])), (ad 9, .inl (cy 0, 401, .inl (fun _ => nI 0))), (ad 10, .inr (5, [.int (nI 0), .ref (ad 11), .ref (ad 12), .ref (ad 13), .ref (ad 14), .ref (ad 15), .ref (ad 16), .int (nI 48), .int (nI 48)])), (ad 11, .inl (cy 3, 6, .inr (.inl (fun _ => 0)))), (ad 12, .inl (cy 3, 16, .inr (.inl (fun _ => 0)))), (ad 13, .inl (cy 3, 6, .inr (.inl (fun _ => 0)))), (ad 14, .inl (cy 3, 5, .inr (.inl (fun _ => 0)))), (ad 15, .inl (cy 0, 16, .inl (fun _ => nI 0))), (ad 16, .inl (cy 0, 401, .inl (fun _ => nI 0))), (ad 20, .inr (3, [.ref (ad 36), .int (nI 0), .int (nI 0), .int (nI 0), .ref (ad 21), .ref (ad 22), .ref (ad 23), .ref (ad 24), .ref (ad 25), .ref (ad 26), .ref (ad 27)])), (ad 21, .inl (cy 0, 16, .inl (fun _ => nI 0))), (ad 22, .inl (cy 0, 16, .inl (fun _ => nI 0))), (ad 23, .inl (cy 0, 16, .inl (fun _ => nI 0))), (ad 24, .inl (cy 0, 16, .inl (fun _ => nI 0))), (ad 25, .inl (cy 0, 6, .inl (fun _ => nI 0))), (ad 26, .inl (cy 0, 5, .inl (fun _ => nI 0))), (ad 27, .inl (cy 0, 5, .inl (fun _ => nI 0))), (ad 28, .inr (3, [.ref (ad 36), .int (nI 0), .int (nI 0), .int (nI 0), .ref (ad 29), .ref (ad 30), .ref (ad 31), .ref (ad 32), .ref (ad 33), .ref (ad 34), .ref (ad 35)])), (ad 29, .inl (cy 0, 16, .inl (fun _ => nI 0))), (ad 30, .inl (cy 0, 16, .inl (fun _ => nI 0))), (ad 31, .inl (cy 0, 16, .inl (fun _ => nI 0))), (ad 32, .inl (cy 0, 16, .inl (fun _ => nI 0))), (ad 33, .inl (cy 0, 6, .inl (fun _ => nI 0))), (ad 34, .inl (cy 0, 5, .inl (fun _ => nI 0))), (ad 35, .inl (cy 0, 5, .inl (fun _ => nI 0))), (ad 17, .inr (0, [.ref (ad 18), .int (nI 0)])), (ad 18, .inl (cy 0, 400, .inl (fun _ => nI 0))), (ad 19, .inl (cy 0, 5, .inl fD))]
def wsE (ad : Nat → Nat) (cy : Nat → ClassId) (row : Nat → Int64) (fD : Nat → Int32) (r36 r58 : Nat → Nat) : va_W := [(ad 0, .inr (8, [.ref (ad 36), .ref (ad 58), .ref (ad 1), .ref (ad 3), .ref (ad 8), .ref (ad 10), .ref (ad 20), .ref (ad 28), .ref (ad 17), .int (-1)])), (ad 1, .inr (4, [.ref (ad 2), .int (nI 0)])), (ad 2, .inl (cy 1, 2000, .inl (fun _ => nI 0))), (ad 3, .inr (6, [.ref (ad 4), .ref (ad 5), .ref (ad 6), .ref (ad 7), .int (nI 0), .long 0, .int (nI 0)])), (ad 4, .inl (cy 0, 401, .inl (fun _ => nI 0))), (ad 5, .inl (cy 3, 401, .inr (.inl (fun _ => 0)))), (ad 6, .inl (cy 0, 401, .inl (fun _ => nI 0))), (ad 7, .inl (cy 3, 28, .inr (.inl row))), (ad 8, .inr (2, [.ref (ad 9), .ref (ad 3), .ref (ad 77), .int (nI 46), .int (nI 0)])), (ad 9, .inl (cy 0, 401, .inl (fun _ => nI 0))), (ad 10, .inr (5, [.int (nI 0), .ref (ad 11), .ref (ad 12), .ref (ad 13), .ref (ad 14), .ref (ad 15), .ref (ad 16), .int (nI 48), .int (nI 48)])), (ad 11, .inl (cy 3, 6, .inr (.inl (fun _ => 0)))), (ad 12, .inl (cy 3, 16, .inr (.inl (fun _ => 0)))), (ad 13, .inl (cy 3, 6, .inr (.inl (fun _ => 0)))), (ad 14, .inl (cy 3, 5, .inr (.inl (fun _ => 0)))), (ad 15, .inl (cy 0, 16, .inl (fun _ => nI 0))), (ad 16, .inl (cy 0, 401, .inl (fun _ => nI 0))), (ad 17, .inr (0, [.ref (ad 18), .int (nI 0)])), (ad 18, .inl (cy 0, 400, .inl (fun _ => nI 0))), (ad 19, .inl (cy 0, 5, .inl fD)), (ad 20, .inr (3, [.ref (ad 36), .int (nI 0), .int (nI 0), .int (nI 0), .ref (ad 21), .ref (ad 22), .ref (ad 23), .ref (ad 24), .ref (ad 25), .ref (ad 26), .ref (ad 27)])), (ad 21, .inl (cy 0, 16, .inl (fun _ => nI 0))), (ad 22, .inl (cy 0, 16, .inl (fun _ => nI 0))), (ad 23, .inl (cy 0, 16, .inl (fun _ => nI 0))), (ad 24, .inl (cy 0, 16, .inl (fun _ => nI 0))), (ad 25, .inl (cy 0, 6, .inl (fun _ => nI 0))), (ad 26, .inl (cy 0, 5, .inl (fun _ => nI 0))), (ad 27, .inl (cy 0, 5, .inl (fun _ => nI 0))), (ad 28, .inr (3, [.ref (ad 36), .int (nI 0), .int (nI 0), .int (nI 0), .ref (ad 29), .ref (ad 30), .ref (ad 31), .ref (ad 32), .ref (ad 33), .ref (ad 34), .ref (ad 35)])), (ad 29, .inl (cy 0, 16, .inl (fun _ => nI 0))), (ad 30, .inl (cy 0, 16, .inl (fun _ => nI 0))), (ad 31, .inl (cy 0, 16, .inl (fun _ => nI 0))), (ad 32, .inl (cy 0, 16, .inl (fun _ => nI 0))), (ad 33, .inl (cy 0, 6, .inl (fun _ => nI 0))), (ad 34, .inl (cy 0, 5, .inl (fun _ => nI 0))), (ad 35, .inl (cy 0, 5, .inl (fun _ => nI 0))), (ad 36, .inr (7, [.int (nI 0), .int (nI 0), .int (nI 0), .int (nI 0), .int (nI 0), .ref (ad 37), .ref (ad 38), .ref (ad 39), .ref (ad 40), .ref (ad 41), .ref (ad 42), .ref (ad 49), .ref (ad 50), .ref (ad 51), .ref (ad 52), .ref (ad 53), .ref (ad 54), .ref (ad 55)])), (ad 37, .inl (cy 0, 6, .inl (fun _ => nI 0))), (ad 38, .inl (cy 0, 16, .inl (fun _ => nI 0))), (ad 39, .inl (cy 0, 16, .inl (fun _ => nI 0))), (ad 40, .inl (cy 0, 16, .inl (fun _ => nI 0))), (ad 41, .inl (cy 0, 6, .inl (fun _ => nI 0))), (ad 42, .inl (cy 4, 6, .inr (.inr (.inr (.inr (fun i => if i < 6 then some (r36 i) else none)))))), (ad 43, .inl (cy 0, 8, .inl (fun _ => nI 0))), (ad 44, .inl (cy 0, 8, .inl (fun _ => nI 0))), (ad 45, .inl (cy 0, 8, .inl (fun _ => nI 0))), (ad 46, .inl (cy 0, 8, .inl (fun _ => nI 0))), (ad 47, .inl (cy 0, 8, .inl (fun _ => nI 0))), (ad 48, .inl (cy 0, 8, .inl (fun _ => nI 0))), (ad 49, .inl (cy 0, 5, .inl (fun _ => nI 0))), (ad 50, .inl (cy 2, 20, .inl (fun _ => nI 0))), (ad 51, .inl (cy 0, 20, .inl (fun _ => nI 0))), (ad 52, .inl (cy 0, 20, .inl (fun _ => nI 0))), (ad 53, .inl (cy 0, 20, .inl (fun _ => nI 0))), (ad 54, .inl (cy 0, 20, .inl (fun _ => nI 0))), (ad 55, .inr (1, [.ref (ad 56), .ref (ad 57), .int (nI 0)])), (ad 56, .inl (cy 0, 400, .inl (fun _ => nI 0))), (ad 57, .inl (cy 0, 400, .inl (fun _ => nI 0))), (ad 58, .inr (7, [.int (nI 0), .int (nI 0), .int (nI 0), .int (nI 0), .int (nI 0), .ref (ad 59), .ref (ad 60), .ref (ad 61), .ref (ad 62), .ref (ad 63), .ref (ad 64), .ref (ad 71), .ref (ad 72), .ref (ad 73), .ref (ad 74), .ref (ad 75), .ref (ad 76), .ref (ad 77)])), (ad 59, .inl (cy 0, 6, .inl (fun _ => nI 0))), (ad 60, .inl (cy 0, 16, .inl (fun _ => nI 0))), (ad 61, .inl (cy 0, 16, .inl (fun _ => nI 0))), (ad 62, .inl (cy 0, 16, .inl (fun _ => nI 0))), (ad 63, .inl (cy 0, 6, .inl (fun _ => nI 0))), (ad 64, .inl (cy 4, 6, .inr (.inr (.inr (.inr (fun i => if i < 6 then some (r58 i) else none)))))), (ad 65, .inl (cy 0, 8, .inl (fun _ => nI 0))), (ad 66, .inl (cy 0, 8, .inl (fun _ => nI 0))), (ad 67, .inl (cy 0, 8, .inl (fun _ => nI 0))), (ad 68, .inl (cy 0, 8, .inl (fun _ => nI 0))), (ad 69, .inl (cy 0, 8, .inl (fun _ => nI 0))), (ad 70, .inl (cy 0, 8, .inl (fun _ => nI 0))), (ad 71, .inl (cy 0, 5, .inl (fun _ => nI 0))), (ad 72, .inl (cy 2, 20, .inl (fun _ => nI 0))), (ad 73, .inl (cy 0, 20, .inl (fun _ => nI 0))), (ad 74, .inl (cy 0, 20, .inl (fun _ => nI 0))), (ad 75, .inl (cy 0, 20, .inl (fun _ => nI 0))), (ad 76, .inl (cy 0, 20, .inl (fun _ => nI 0))), (ad 77, .inr (1, [.ref (ad 78), .ref (ad 79), .int (nI 0)])), (ad 78, .inl (cy 0, 400, .inl (fun _ => nI 0))), (ad 79, .inl (cy 0, 400, .inl (fun _ => nI 0)))]
def wsF (ad : Nat → Nat) (cy : Nat → ClassId) (row : Nat → Int64) (fD : Nat → Int32) : va_W := [(ad 0, .inr (8, [.ref (ad 36), .ref (ad 58), .ref (ad 1), .ref (ad 3), .ref (ad 8), .ref (ad 10), .ref (ad 20), .ref (ad 28), .ref (ad 17), .int (-1)])), (ad 1, .inr (4, [.ref (ad 2), .int (nI 0)])), (ad 2, .inl (cy 1, 2000, .inl (fun _ => nI 0))), (ad 3, .inr (6, [.ref (ad 4), .ref (ad 5), .ref (ad 6), .ref (ad 7), .int (nI 0), .long 0, .int (nI 0)])), (ad 4, .inl (cy 0, 401, .inl (fun _ => nI 0))), (ad 5, .inl (cy 3, 401, .inr (.inl (fun _ => 0)))), (ad 6, .inl (cy 0, 401, .inl (fun _ => nI 0))), (ad 7, .inl (cy 3, 28, .inr (.inl row))), (ad 8, .inr (2, [.ref (ad 9), .ref (ad 3), .ref (ad 77), .int (nI 46), .int (nI 0)])), (ad 9, .inl (cy 0, 401, .inl (fun _ => nI 0))), (ad 10, .inr (5, [.int (nI 0), .ref (ad 11), .ref (ad 12), .ref (ad 13), .ref (ad 14), .ref (ad 15), .ref (ad 16), .int (nI 48), .int (nI 48)])), (ad 11, .inl (cy 3, 6, .inr (.inl (fun _ => 0)))), (ad 12, .inl (cy 3, 16, .inr (.inl (fun _ => 0)))), (ad 13, .inl (cy 3, 6, .inr (.inl (fun _ => 0)))), (ad 14, .inl (cy 3, 5, .inr (.inl (fun _ => 0)))), (ad 15, .inl (cy 0, 16, .inl (fun _ => nI 0))), (ad 16, .inl (cy 0, 401, .inl (fun _ => nI 0))), (ad 17, .inr (0, [.ref (ad 18), .int (nI 0)])), (ad 18, .inl (cy 0, 400, .inl (fun _ => nI 0))), (ad 19, .inl (cy 0, 5, .inl fD)), (ad 20, .inr (3, [.ref (ad 36), .int (nI 0), .int (nI 0), .int (nI 0), .ref (ad 21), .ref (ad 22), .ref (ad 23), .ref (ad 24), .ref (ad 25), .ref (ad 26), .ref (ad 27)])), (ad 21, .inl (cy 0, 16, .inl (fun _ => nI 0))), (ad 22, .inl (cy 0, 16, .inl (fun _ => nI 0))), (ad 23, .inl (cy 0, 16, .inl (fun _ => nI 0))), (ad 24, .inl (cy 0, 16, .inl (fun _ => nI 0))), (ad 25, .inl (cy 0, 6, .inl (fun _ => nI 0))), (ad 26, .inl (cy 0, 5, .inl (fun _ => nI 0))), (ad 27, .inl (cy 0, 5, .inl (fun _ => nI 0))), (ad 28, .inr (3, [.ref (ad 36), .int (nI 0), .int (nI 0), .int (nI 0), .ref (ad 29), .ref (ad 30), .ref (ad 31), .ref (ad 32), .ref (ad 33), .ref (ad 34), .ref (ad 35)])), (ad 29, .inl (cy 0, 16, .inl (fun _ => nI 0))), (ad 30, .inl (cy 0, 16, .inl (fun _ => nI 0))), (ad 31, .inl (cy 0, 16, .inl (fun _ => nI 0))), (ad 32, .inl (cy 0, 16, .inl (fun _ => nI 0))), (ad 33, .inl (cy 0, 6, .inl (fun _ => nI 0))), (ad 34, .inl (cy 0, 5, .inl (fun _ => nI 0))), (ad 35, .inl (cy 0, 5, .inl (fun _ => nI 0))), (ad 36, .inr (7, [.int (nI 0), .int (nI 0), .int (nI 0), .int (nI 0), .int (nI 0), .ref (ad 37), .ref (ad 38), .ref (ad 39), .ref (ad 40), .ref (ad 41), .ref (ad 42), .ref (ad 49), .ref (ad 50), .ref (ad 51), .ref (ad 52), .ref (ad 53), .ref (ad 54), .ref (ad 55)])), (ad 37, .inl (cy 0, 6, .inl (fun _ => nI 0))), (ad 38, .inl (cy 0, 16, .inl (fun _ => nI 0))), (ad 39, .inl (cy 0, 16, .inl (fun _ => nI 0))), (ad 40, .inl (cy 0, 16, .inl (fun _ => nI 0))), (ad 41, .inl (cy 0, 6, .inl (fun _ => nI 0))), (ad 42, .inl (cy 4, 6, .inr (.inr (.inr (.inr (fun j => some (ad (43 + j)))))))), (ad 43, .inl (cy 0, 8, .inl (fun _ => nI 0))), (ad 44, .inl (cy 0, 8, .inl (fun _ => nI 0))), (ad 45, .inl (cy 0, 8, .inl (fun _ => nI 0))), (ad 46, .inl (cy 0, 8, .inl (fun _ => nI 0))), (ad 47, .inl (cy 0, 8, .inl (fun _ => nI 0))), (ad 48, .inl (cy 0, 8, .inl (fun _ => nI 0))), (ad 49, .inl (cy 0, 5, .inl (fun _ => nI 0))), (ad 50, .inl (cy 2, 20, .inl (fun _ => nI 0))), (ad 51, .inl (cy 0, 20, .inl (fun _ => nI 0))), (ad 52, .inl (cy 0, 20, .inl (fun _ => nI 0))), (ad 53, .inl (cy 0, 20, .inl (fun _ => nI 0))), (ad 54, .inl (cy 0, 20, .inl (fun _ => nI 0))), (ad 55, .inr (1, [.ref (ad 56), .ref (ad 57), .int (nI 0)])), (ad 56, .inl (cy 0, 400, .inl (fun _ => nI 0))), (ad 57, .inl (cy 0, 400, .inl (fun _ => nI 0))), (ad 58, .inr (7, [.int (nI 0), .int (nI 0), .int (nI 0), .int (nI 0), .int (nI 0), .ref (ad 59), .ref (ad 60), .ref (ad 61), .ref (ad 62), .ref (ad 63), .ref (ad 64), .ref (ad 71), .ref (ad 72), .ref (ad 73), .ref (ad 74), .ref (ad 75), .ref (ad 76), .ref (ad 77)])), (ad 59, .inl (cy 0, 6, .inl (fun _ => nI 0))), (ad 60, .inl (cy 0, 16, .inl (fun _ => nI 0))), (ad 61, .inl (cy 0, 16, .inl (fun _ => nI 0))), (ad 62, .inl (cy 0, 16, .inl (fun _ => nI 0))), (ad 63, .inl (cy 0, 6, .inl (fun _ => nI 0))), (ad 64, .inl (cy 4, 6, .inr (.inr (.inr (.inr (fun j => some (ad (65 + j)))))))), (ad 65, .inl (cy 0, 8, .inl (fun _ => nI 0))), (ad 66, .inl (cy 0, 8, .inl (fun _ => nI 0))), (ad 67, .inl (cy 0, 8, .inl (fun _ => nI 0))), (ad 68, .inl (cy 0, 8, .inl (fun _ => nI 0))), (ad 69, .inl (cy 0, 8, .inl (fun _ => nI 0))), (ad 70, .inl (cy 0, 8, .inl (fun _ => nI 0))), (ad 71, .inl (cy 0, 5, .inl (fun _ => nI 0))), (ad 72, .inl (cy 2, 20, .inl (fun _ => nI 0))), (ad 73, .inl (cy 0, 20, .inl (fun _ => nI 0))), (ad 74, .inl (cy 0, 20, .inl (fun _ => nI 0))), (ad 75, .inl (cy 0, 20, .inl (fun _ => nI 0))), (ad 76, .inl (cy 0, 20, .inl (fun _ => nI 0))), (ad 77, .inr (1, [.ref (ad 78), .ref (ad 79), .int (nI 0)])), (ad 78, .inl (cy 0, 400, .inl (fun _ => nI 0))), (ad 79, .inl (cy 0, 400, .inl (fun _ => nI 0)))]
set_option maxRecDepth 100000 in
set_option maxHeartbeats 4000000 in
theorem wsM_E {ad : Nat → Nat} {cy : Nat → ClassId} {row : Nat → Int64} {fD : Nat → Int32} {r36 r58 : Nat → Nat} : piL.map (fun i => (wsM ad cy row fD r36 r58)[i]?) = (wsE ad cy row fD r36 r58).map some := rfl
set_option maxRecDepth 100000 in
set_option maxHeartbeats 4000000 in
theorem wsE_ad {ad : Nat → Nat} {cy : Nat → ClassId} {row : Nat → Int64} {fD : Nat → Int32} {r36 r58 : Nat → Nat} : (wsE ad cy row fD r36 r58).map Prod.fst = (List.range 80).map ad := rfl
theorem ce_0 {ad : Nat → Nat} {cy : Nat → ClassId} {row : Nat → Int64} {fD : Nat → Int32} : cel ad cy (I00 fD) (J00 row) P00 0 = .inr (8, [.ref (ad 36), .ref (ad 58), .ref (ad 1), .ref (ad 3), .ref (ad 8), .ref (ad 10), .ref (ad 20), .ref (ad 28), .ref (ad 17), .int (-1)]) := rfl
theorem ce_1 {ad : Nat → Nat} {cy : Nat → ClassId} {row : Nat → Int64} {fD : Nat → Int32} : cel ad cy (I00 fD) (J00 row) P00 1 = .inr (4, [.ref (ad 2), .int (nI 0)]) := rfl
theorem ce_2 {ad : Nat → Nat} {cy : Nat → ClassId} {row : Nat → Int64} {fD : Nat → Int32} : cel ad cy (I00 fD) (J00 row) P00 2 = .inl (cy 1, 2000, .inl (fun _ => nI 0)) := rfl
theorem ce_3 {ad : Nat → Nat} {cy : Nat → ClassId} {row : Nat → Int64} {fD : Nat → Int32} : cel ad cy (I00 fD) (J00 row) P00 3 = .inr (6, [.ref (ad 4), .ref (ad 5), .ref (ad 6), .ref (ad 7), .int (nI 0), .long 0, .int (nI 0)]) := rfl
theorem ce_4 {ad : Nat → Nat} {cy : Nat → ClassId} {row : Nat → Int64} {fD : Nat → Int32} : cel ad cy (I00 fD) (J00 row) P00 4 = .inl (cy 0, 401, .inl (fun _ => nI 0)) := rfl
theorem ce_5 {ad : Nat → Nat} {cy : Nat → ClassId} {row : Nat → Int64} {fD : Nat → Int32} : cel ad cy (I00 fD) (J00 row) P00 5 = .inl (cy 3, 401, .inr (.inl (fun _ => 0))) := rfl
theorem ce_6 {ad : Nat → Nat} {cy : Nat → ClassId} {row : Nat → Int64} {fD : Nat → Int32} : cel ad cy (I00 fD) (J00 row) P00 6 = .inl (cy 0, 401, .inl (fun _ => nI 0)) := rfl
theorem ce_7 {ad : Nat → Nat} {cy : Nat → ClassId} {row : Nat → Int64} {fD : Nat → Int32} : cel ad cy (I00 fD) (J00 row) P00 7 = .inl (cy 3, 28, .inr (.inl row)) := rfl
theorem ce_8 {ad : Nat → Nat} {cy : Nat → ClassId} {row : Nat → Int64} {fD : Nat → Int32} : cel ad cy (I00 fD) (J00 row) P00 8 = .inr (2, [.ref (ad 9), .ref (ad 3), .ref (ad 77), .int (nI 46), .int (nI 0)]) := rfl
theorem ce_9 {ad : Nat → Nat} {cy : Nat → ClassId} {row : Nat → Int64} {fD : Nat → Int32} : cel ad cy (I00 fD) (J00 row) P00 9 = .inl (cy 0, 401, .inl (fun _ => nI 0)) := rfl
theorem ce_10 {ad : Nat → Nat} {cy : Nat → ClassId} {row : Nat → Int64} {fD : Nat → Int32} : cel ad cy (I00 fD) (J00 row) P00 10 = .inr (5, [.int (nI 0), .ref (ad 11), .ref (ad 12), .ref (ad 13), .ref (ad 14), .ref (ad 15), .ref (ad 16), .int (nI 48), .int (nI 48)]) := rfl
theorem ce_11 {ad : Nat → Nat} {cy : Nat → ClassId} {row : Nat → Int64} {fD : Nat → Int32} : cel ad cy (I00 fD) (J00 row) P00 11 = .inl (cy 3, 6, .inr (.inl (fun _ => 0))) := rfl
theorem ce_12 {ad : Nat → Nat} {cy : Nat → ClassId} {row : Nat → Int64} {fD : Nat → Int32} : cel ad cy (I00 fD) (J00 row) P00 12 = .inl (cy 3, 16, .inr (.inl (fun _ => 0))) := rfl
theorem ce_13 {ad : Nat → Nat} {cy : Nat → ClassId} {row : Nat → Int64} {fD : Nat → Int32} : cel ad cy (I00 fD) (J00 row) P00 13 = .inl (cy 3, 6, .inr (.inl (fun _ => 0))) := rfl
theorem ce_14 {ad : Nat → Nat} {cy : Nat → ClassId} {row : Nat → Int64} {fD : Nat → Int32} : cel ad cy (I00 fD) (J00 row) P00 14 = .inl (cy 3, 5, .inr (.inl (fun _ => 0))) := rfl
theorem ce_15 {ad : Nat → Nat} {cy : Nat → ClassId} {row : Nat → Int64} {fD : Nat → Int32} : cel ad cy (I00 fD) (J00 row) P00 15 = .inl (cy 0, 16, .inl (fun _ => nI 0)) := rfl
theorem ce_16 {ad : Nat → Nat} {cy : Nat → ClassId} {row : Nat → Int64} {fD : Nat → Int32} : cel ad cy (I00 fD) (J00 row) P00 16 = .inl (cy 0, 401, .inl (fun _ => nI 0)) := rfl
theorem ce_17 {ad : Nat → Nat} {cy : Nat → ClassId} {row : Nat → Int64} {fD : Nat → Int32} : cel ad cy (I00 fD) (J00 row) P00 17 = .inr (0, [.ref (ad 18), .int (nI 0)]) := rfl
theorem ce_18 {ad : Nat → Nat} {cy : Nat → ClassId} {row : Nat → Int64} {fD : Nat → Int32} : cel ad cy (I00 fD) (J00 row) P00 18 = .inl (cy 0, 400, .inl (fun _ => nI 0)) := rfl
theorem ce_19 {ad : Nat → Nat} {cy : Nat → ClassId} {row : Nat → Int64} {fD : Nat → Int32} : cel ad cy (I00 fD) (J00 row) P00 19 = .inl (cy 0, 5, .inl fD) := rfl
theorem ce_20 {ad : Nat → Nat} {cy : Nat → ClassId} {row : Nat → Int64} {fD : Nat → Int32} : cel ad cy (I00 fD) (J00 row) P00 20 = .inr (3, [.ref (ad 36), .int (nI 0), .int (nI 0), .int (nI 0), .ref (ad 21), .ref (ad 22), .ref (ad 23), .ref (ad 24), .ref (ad 25), .ref (ad 26), .ref (ad 27)]) := rfl
theorem ce_21 {ad : Nat → Nat} {cy : Nat → ClassId} {row : Nat → Int64} {fD : Nat → Int32} : cel ad cy (I00 fD) (J00 row) P00 21 = .inl (cy 0, 16, .inl (fun _ => nI 0)) := rfl
theorem ce_22 {ad : Nat → Nat} {cy : Nat → ClassId} {row : Nat → Int64} {fD : Nat → Int32} : cel ad cy (I00 fD) (J00 row) P00 22 = .inl (cy 0, 16, .inl (fun _ => nI 0)) := rfl
theorem ce_23 {ad : Nat → Nat} {cy : Nat → ClassId} {row : Nat → Int64} {fD : Nat → Int32} : cel ad cy (I00 fD) (J00 row) P00 23 = .inl (cy 0, 16, .inl (fun _ => nI 0)) := rfl
theorem ce_24 {ad : Nat → Nat} {cy : Nat → ClassId} {row : Nat → Int64} {fD : Nat → Int32} : cel ad cy (I00 fD) (J00 row) P00 24 = .inl (cy 0, 16, .inl (fun _ => nI 0)) := rfl
theorem ce_25 {ad : Nat → Nat} {cy : Nat → ClassId} {row : Nat → Int64} {fD : Nat → Int32} : cel ad cy (I00 fD) (J00 row) P00 25 = .inl (cy 0, 6, .inl (fun _ => nI 0)) := rfl
theorem ce_26 {ad : Nat → Nat} {cy : Nat → ClassId} {row : Nat → Int64} {fD : Nat → Int32} : cel ad cy (I00 fD) (J00 row) P00 26 = .inl (cy 0, 5, .inl (fun _ => nI 0)) := rfl
theorem ce_27 {ad : Nat → Nat} {cy : Nat → ClassId} {row : Nat → Int64} {fD : Nat → Int32} : cel ad cy (I00 fD) (J00 row) P00 27 = .inl (cy 0, 5, .inl (fun _ => nI 0)) := rfl
theorem ce_28 {ad : Nat → Nat} {cy : Nat → ClassId} {row : Nat → Int64} {fD : Nat → Int32} : cel ad cy (I00 fD) (J00 row) P00 28 = .inr (3, [.ref (ad 36), .int (nI 0), .int (nI 0), .int (nI 0), .ref (ad 29), .ref (ad 30), .ref (ad 31), .ref (ad 32), .ref (ad 33), .ref (ad 34), .ref (ad 35)]) := rfl
theorem ce_29 {ad : Nat → Nat} {cy : Nat → ClassId} {row : Nat → Int64} {fD : Nat → Int32} : cel ad cy (I00 fD) (J00 row) P00 29 = .inl (cy 0, 16, .inl (fun _ => nI 0)) := rfl
theorem ce_30 {ad : Nat → Nat} {cy : Nat → ClassId} {row : Nat → Int64} {fD : Nat → Int32} : cel ad cy (I00 fD) (J00 row) P00 30 = .inl (cy 0, 16, .inl (fun _ => nI 0)) := rfl
theorem ce_31 {ad : Nat → Nat} {cy : Nat → ClassId} {row : Nat → Int64} {fD : Nat → Int32} : cel ad cy (I00 fD) (J00 row) P00 31 = .inl (cy 0, 16, .inl (fun _ => nI 0)) := rfl
theorem ce_32 {ad : Nat → Nat} {cy : Nat → ClassId} {row : Nat → Int64} {fD : Nat → Int32} : cel ad cy (I00 fD) (J00 row) P00 32 = .inl (cy 0, 16, .inl (fun _ => nI 0)) := rfl
theorem ce_33 {ad : Nat → Nat} {cy : Nat → ClassId} {row : Nat → Int64} {fD : Nat → Int32} : cel ad cy (I00 fD) (J00 row) P00 33 = .inl (cy 0, 6, .inl (fun _ => nI 0)) := rfl
theorem ce_34 {ad : Nat → Nat} {cy : Nat → ClassId} {row : Nat → Int64} {fD : Nat → Int32} : cel ad cy (I00 fD) (J00 row) P00 34 = .inl (cy 0, 5, .inl (fun _ => nI 0)) := rfl
theorem ce_35 {ad : Nat → Nat} {cy : Nat → ClassId} {row : Nat → Int64} {fD : Nat → Int32} : cel ad cy (I00 fD) (J00 row) P00 35 = .inl (cy 0, 5, .inl (fun _ => nI 0)) := rfl
theorem ce_36 {ad : Nat → Nat} {cy : Nat → ClassId} {row : Nat → Int64} {fD : Nat → Int32} : cel ad cy (I00 fD) (J00 row) P00 36 = .inr (7, [.int (nI 0), .int (nI 0), .int (nI 0), .int (nI 0), .int (nI 0), .ref (ad 37), .ref (ad 38), .ref (ad 39), .ref (ad 40), .ref (ad 41), .ref (ad 42), .ref (ad 49), .ref (ad 50), .ref (ad 51), .ref (ad 52), .ref (ad 53), .ref (ad 54), .ref (ad 55)]) := rfl
theorem ce_37 {ad : Nat → Nat} {cy : Nat → ClassId} {row : Nat → Int64} {fD : Nat → Int32} : cel ad cy (I00 fD) (J00 row) P00 37 = .inl (cy 0, 6, .inl (fun _ => nI 0)) := rfl
theorem ce_38 {ad : Nat → Nat} {cy : Nat → ClassId} {row : Nat → Int64} {fD : Nat → Int32} : cel ad cy (I00 fD) (J00 row) P00 38 = .inl (cy 0, 16, .inl (fun _ => nI 0)) := rfl
theorem ce_39 {ad : Nat → Nat} {cy : Nat → ClassId} {row : Nat → Int64} {fD : Nat → Int32} : cel ad cy (I00 fD) (J00 row) P00 39 = .inl (cy 0, 16, .inl (fun _ => nI 0)) := rfl
theorem ce_40 {ad : Nat → Nat} {cy : Nat → ClassId} {row : Nat → Int64} {fD : Nat → Int32} : cel ad cy (I00 fD) (J00 row) P00 40 = .inl (cy 0, 16, .inl (fun _ => nI 0)) := rfl
theorem ce_41 {ad : Nat → Nat} {cy : Nat → ClassId} {row : Nat → Int64} {fD : Nat → Int32} : cel ad cy (I00 fD) (J00 row) P00 41 = .inl (cy 0, 6, .inl (fun _ => nI 0)) := rfl
theorem ce_42 {ad : Nat → Nat} {cy : Nat → ClassId} {row : Nat → Int64} {fD : Nat → Int32} : cel ad cy (I00 fD) (J00 row) P00 42 = .inl (cy 4, 6, .inr (.inr (.inr (.inr (fun j => some (ad (43 + j))))))) := rfl
theorem ce_43 {ad : Nat → Nat} {cy : Nat → ClassId} {row : Nat → Int64} {fD : Nat → Int32} : cel ad cy (I00 fD) (J00 row) P00 43 = .inl (cy 0, 8, .inl (fun _ => nI 0)) := rfl
theorem ce_44 {ad : Nat → Nat} {cy : Nat → ClassId} {row : Nat → Int64} {fD : Nat → Int32} : cel ad cy (I00 fD) (J00 row) P00 44 = .inl (cy 0, 8, .inl (fun _ => nI 0)) := rfl
theorem ce_45 {ad : Nat → Nat} {cy : Nat → ClassId} {row : Nat → Int64} {fD : Nat → Int32} : cel ad cy (I00 fD) (J00 row) P00 45 = .inl (cy 0, 8, .inl (fun _ => nI 0)) := rfl
theorem ce_46 {ad : Nat → Nat} {cy : Nat → ClassId} {row : Nat → Int64} {fD : Nat → Int32} : cel ad cy (I00 fD) (J00 row) P00 46 = .inl (cy 0, 8, .inl (fun _ => nI 0)) := rfl
theorem ce_47 {ad : Nat → Nat} {cy : Nat → ClassId} {row : Nat → Int64} {fD : Nat → Int32} : cel ad cy (I00 fD) (J00 row) P00 47 = .inl (cy 0, 8, .inl (fun _ => nI 0)) := rfl
theorem ce_48 {ad : Nat → Nat} {cy : Nat → ClassId} {row : Nat → Int64} {fD : Nat → Int32} : cel ad cy (I00 fD) (J00 row) P00 48 = .inl (cy 0, 8, .inl (fun _ => nI 0)) := rfl
theorem ce_49 {ad : Nat → Nat} {cy : Nat → ClassId} {row : Nat → Int64} {fD : Nat → Int32} : cel ad cy (I00 fD) (J00 row) P00 49 = .inl (cy 0, 5, .inl (fun _ => nI 0)) := rfl
theorem ce_50 {ad : Nat → Nat} {cy : Nat → ClassId} {row : Nat → Int64} {fD : Nat → Int32} : cel ad cy (I00 fD) (J00 row) P00 50 = .inl (cy 2, 20, .inl (fun _ => nI 0)) := rfl
theorem ce_51 {ad : Nat → Nat} {cy : Nat → ClassId} {row : Nat → Int64} {fD : Nat → Int32} : cel ad cy (I00 fD) (J00 row) P00 51 = .inl (cy 0, 20, .inl (fun _ => nI 0)) := rfl
theorem ce_52 {ad : Nat → Nat} {cy : Nat → ClassId} {row : Nat → Int64} {fD : Nat → Int32} : cel ad cy (I00 fD) (J00 row) P00 52 = .inl (cy 0, 20, .inl (fun _ => nI 0)) := rfl
theorem ce_53 {ad : Nat → Nat} {cy : Nat → ClassId} {row : Nat → Int64} {fD : Nat → Int32} : cel ad cy (I00 fD) (J00 row) P00 53 = .inl (cy 0, 20, .inl (fun _ => nI 0)) := rfl
theorem ce_54 {ad : Nat → Nat} {cy : Nat → ClassId} {row : Nat → Int64} {fD : Nat → Int32} : cel ad cy (I00 fD) (J00 row) P00 54 = .inl (cy 0, 20, .inl (fun _ => nI 0)) := rfl
theorem ce_55 {ad : Nat → Nat} {cy : Nat → ClassId} {row : Nat → Int64} {fD : Nat → Int32} : cel ad cy (I00 fD) (J00 row) P00 55 = .inr (1, [.ref (ad 56), .ref (ad 57), .int (nI 0)]) := rfl
theorem ce_56 {ad : Nat → Nat} {cy : Nat → ClassId} {row : Nat → Int64} {fD : Nat → Int32} : cel ad cy (I00 fD) (J00 row) P00 56 = .inl (cy 0, 400, .inl (fun _ => nI 0)) := rfl
theorem ce_57 {ad : Nat → Nat} {cy : Nat → ClassId} {row : Nat → Int64} {fD : Nat → Int32} : cel ad cy (I00 fD) (J00 row) P00 57 = .inl (cy 0, 400, .inl (fun _ => nI 0)) := rfl
theorem ce_58 {ad : Nat → Nat} {cy : Nat → ClassId} {row : Nat → Int64} {fD : Nat → Int32} : cel ad cy (I00 fD) (J00 row) P00 58 = .inr (7, [.int (nI 0), .int (nI 0), .int (nI 0), .int (nI 0), .int (nI 0), .ref (ad 59), .ref (ad 60), .ref (ad 61), .ref (ad 62), .ref (ad 63), .ref (ad 64), .ref (ad 71), .ref (ad 72), .ref (ad 73), .ref (ad 74), .ref (ad 75), .ref (ad 76), .ref (ad 77)]) := rfl
theorem ce_59 {ad : Nat → Nat} {cy : Nat → ClassId} {row : Nat → Int64} {fD : Nat → Int32} : cel ad cy (I00 fD) (J00 row) P00 59 = .inl (cy 0, 6, .inl (fun _ => nI 0)) := rfl
theorem ce_60 {ad : Nat → Nat} {cy : Nat → ClassId} {row : Nat → Int64} {fD : Nat → Int32} : cel ad cy (I00 fD) (J00 row) P00 60 = .inl (cy 0, 16, .inl (fun _ => nI 0)) := rfl
theorem ce_61 {ad : Nat → Nat} {cy : Nat → ClassId} {row : Nat → Int64} {fD : Nat → Int32} : cel ad cy (I00 fD) (J00 row) P00 61 = .inl (cy 0, 16, .inl (fun _ => nI 0)) := rfl
theorem ce_62 {ad : Nat → Nat} {cy : Nat → ClassId} {row : Nat → Int64} {fD : Nat → Int32} : cel ad cy (I00 fD) (J00 row) P00 62 = .inl (cy 0, 16, .inl (fun _ => nI 0)) := rfl
theorem ce_63 {ad : Nat → Nat} {cy : Nat → ClassId} {row : Nat → Int64} {fD : Nat → Int32} : cel ad cy (I00 fD) (J00 row) P00 63 = .inl (cy 0, 6, .inl (fun _ => nI 0)) := rfl
theorem ce_64 {ad : Nat → Nat} {cy : Nat → ClassId} {row : Nat → Int64} {fD : Nat → Int32} : cel ad cy (I00 fD) (J00 row) P00 64 = .inl (cy 4, 6, .inr (.inr (.inr (.inr (fun j => some (ad (65 + j))))))) := rfl
theorem ce_65 {ad : Nat → Nat} {cy : Nat → ClassId} {row : Nat → Int64} {fD : Nat → Int32} : cel ad cy (I00 fD) (J00 row) P00 65 = .inl (cy 0, 8, .inl (fun _ => nI 0)) := rfl
theorem ce_66 {ad : Nat → Nat} {cy : Nat → ClassId} {row : Nat → Int64} {fD : Nat → Int32} : cel ad cy (I00 fD) (J00 row) P00 66 = .inl (cy 0, 8, .inl (fun _ => nI 0)) := rfl
theorem ce_67 {ad : Nat → Nat} {cy : Nat → ClassId} {row : Nat → Int64} {fD : Nat → Int32} : cel ad cy (I00 fD) (J00 row) P00 67 = .inl (cy 0, 8, .inl (fun _ => nI 0)) := rfl
theorem ce_68 {ad : Nat → Nat} {cy : Nat → ClassId} {row : Nat → Int64} {fD : Nat → Int32} : cel ad cy (I00 fD) (J00 row) P00 68 = .inl (cy 0, 8, .inl (fun _ => nI 0)) := rfl
theorem ce_69 {ad : Nat → Nat} {cy : Nat → ClassId} {row : Nat → Int64} {fD : Nat → Int32} : cel ad cy (I00 fD) (J00 row) P00 69 = .inl (cy 0, 8, .inl (fun _ => nI 0)) := rfl
theorem ce_70 {ad : Nat → Nat} {cy : Nat → ClassId} {row : Nat → Int64} {fD : Nat → Int32} : cel ad cy (I00 fD) (J00 row) P00 70 = .inl (cy 0, 8, .inl (fun _ => nI 0)) := rfl
theorem ce_71 {ad : Nat → Nat} {cy : Nat → ClassId} {row : Nat → Int64} {fD : Nat → Int32} : cel ad cy (I00 fD) (J00 row) P00 71 = .inl (cy 0, 5, .inl (fun _ => nI 0)) := rfl
theorem ce_72 {ad : Nat → Nat} {cy : Nat → ClassId} {row : Nat → Int64} {fD : Nat → Int32} : cel ad cy (I00 fD) (J00 row) P00 72 = .inl (cy 2, 20, .inl (fun _ => nI 0)) := rfl
theorem ce_73 {ad : Nat → Nat} {cy : Nat → ClassId} {row : Nat → Int64} {fD : Nat → Int32} : cel ad cy (I00 fD) (J00 row) P00 73 = .inl (cy 0, 20, .inl (fun _ => nI 0)) := rfl
theorem ce_74 {ad : Nat → Nat} {cy : Nat → ClassId} {row : Nat → Int64} {fD : Nat → Int32} : cel ad cy (I00 fD) (J00 row) P00 74 = .inl (cy 0, 20, .inl (fun _ => nI 0)) := rfl
theorem ce_75 {ad : Nat → Nat} {cy : Nat → ClassId} {row : Nat → Int64} {fD : Nat → Int32} : cel ad cy (I00 fD) (J00 row) P00 75 = .inl (cy 0, 20, .inl (fun _ => nI 0)) := rfl
theorem ce_76 {ad : Nat → Nat} {cy : Nat → ClassId} {row : Nat → Int64} {fD : Nat → Int32} : cel ad cy (I00 fD) (J00 row) P00 76 = .inl (cy 0, 20, .inl (fun _ => nI 0)) := rfl
theorem ce_77 {ad : Nat → Nat} {cy : Nat → ClassId} {row : Nat → Int64} {fD : Nat → Int32} : cel ad cy (I00 fD) (J00 row) P00 77 = .inr (1, [.ref (ad 78), .ref (ad 79), .int (nI 0)]) := rfl
theorem ce_78 {ad : Nat → Nat} {cy : Nat → ClassId} {row : Nat → Int64} {fD : Nat → Int32} : cel ad cy (I00 fD) (J00 row) P00 78 = .inl (cy 0, 400, .inl (fun _ => nI 0)) := rfl
theorem ce_79 {ad : Nat → Nat} {cy : Nat → ClassId} {row : Nat → Int64} {fD : Nat → Int32} : cel ad cy (I00 fD) (J00 row) P00 79 = .inl (cy 0, 400, .inl (fun _ => nI 0)) := rfl
set_option maxRecDepth 100000 in
set_option maxHeartbeats 4000000 in
theorem wsO_F {ad : Nat → Nat} {cy : Nat → ClassId} {row : Nat → Int64} {fD : Nat → Int32} : wsO ad cy (I00 fD) (J00 row) P00 = wsF ad cy row fD := by
  show [(ad 0, cel ad cy (I00 fD) (J00 row) P00 0), (ad 1, cel ad cy (I00 fD) (J00 row) P00 1), (ad 2, cel ad cy (I00 fD) (J00 row) P00 2), (ad 3, cel ad cy (I00 fD) (J00 row) P00 3), (ad 4, cel ad cy (I00 fD) (J00 row) P00 4), (ad 5, cel ad cy (I00 fD) (J00 row) P00 5), (ad 6, cel ad cy (I00 fD) (J00 row) P00 6), (ad 7, cel ad cy (I00 fD) (J00 row) P00 7), (ad 8, cel ad cy (I00 fD) (J00 row) P00 8), (ad 9, cel ad cy (I00 fD) (J00 row) P00 9), (ad 10, cel ad cy (I00 fD) (J00 row) P00 10), (ad 11, cel ad cy (I00 fD) (J00 row) P00 11), (ad 12, cel ad cy (I00 fD) (J00 row) P00 12), (ad 13, cel ad cy (I00 fD) (J00 row) P00 13), (ad 14, cel ad cy (I00 fD) (J00 row) P00 14), (ad 15, cel ad cy (I00 fD) (J00 row) P00 15), (ad 16, cel ad cy (I00 fD) (J00 row) P00 16), (ad 17, cel ad cy (I00 fD) (J00 row) P00 17), (ad 18, cel ad cy (I00 fD) (J00 row) P00 18), (ad 19, cel ad cy (I00 fD) (J00 row) P00 19), (ad 20, cel ad cy (I00 fD) (J00 row) P00 20), (ad 21, cel ad cy (I00 fD) (J00 row) P00 21), (ad 22, cel ad cy (I00 fD) (J00 row) P00 22), (ad 23, cel ad cy (I00 fD) (J00 row) P00 23), (ad 24, cel ad cy (I00 fD) (J00 row) P00 24), (ad 25, cel ad cy (I00 fD) (J00 row) P00 25), (ad 26, cel ad cy (I00 fD) (J00 row) P00 26), (ad 27, cel ad cy (I00 fD) (J00 row) P00 27), (ad 28, cel ad cy (I00 fD) (J00 row) P00 28), (ad 29, cel ad cy (I00 fD) (J00 row) P00 29), (ad 30, cel ad cy (I00 fD) (J00 row) P00 30), (ad 31, cel ad cy (I00 fD) (J00 row) P00 31), (ad 32, cel ad cy (I00 fD) (J00 row) P00 32), (ad 33, cel ad cy (I00 fD) (J00 row) P00 33), (ad 34, cel ad cy (I00 fD) (J00 row) P00 34), (ad 35, cel ad cy (I00 fD) (J00 row) P00 35), (ad 36, cel ad cy (I00 fD) (J00 row) P00 36), (ad 37, cel ad cy (I00 fD) (J00 row) P00 37), (ad 38, cel ad cy (I00 fD) (J00 row) P00 38), (ad 39, cel ad cy (I00 fD) (J00 row) P00 39), (ad 40, cel ad cy (I00 fD) (J00 row) P00 40), (ad 41, cel ad cy (I00 fD) (J00 row) P00 41), (ad 42, cel ad cy (I00 fD) (J00 row) P00 42), (ad 43, cel ad cy (I00 fD) (J00 row) P00 43), (ad 44, cel ad cy (I00 fD) (J00 row) P00 44), (ad 45, cel ad cy (I00 fD) (J00 row) P00 45), (ad 46, cel ad cy (I00 fD) (J00 row) P00 46), (ad 47, cel ad cy (I00 fD) (J00 row) P00 47), (ad 48, cel ad cy (I00 fD) (J00 row) P00 48), (ad 49, cel ad cy (I00 fD) (J00 row) P00 49), (ad 50, cel ad cy (I00 fD) (J00 row) P00 50), (ad 51, cel ad cy (I00 fD) (J00 row) P00 51), (ad 52, cel ad cy (I00 fD) (J00 row) P00 52), (ad 53, cel ad cy (I00 fD) (J00 row) P00 53), (ad 54, cel ad cy (I00 fD) (J00 row) P00 54), (ad 55, cel ad cy (I00 fD) (J00 row) P00 55), (ad 56, cel ad cy (I00 fD) (J00 row) P00 56), (ad 57, cel ad cy (I00 fD) (J00 row) P00 57), (ad 58, cel ad cy (I00 fD) (J00 row) P00 58), (ad 59, cel ad cy (I00 fD) (J00 row) P00 59), (ad 60, cel ad cy (I00 fD) (J00 row) P00 60), (ad 61, cel ad cy (I00 fD) (J00 row) P00 61), (ad 62, cel ad cy (I00 fD) (J00 row) P00 62), (ad 63, cel ad cy (I00 fD) (J00 row) P00 63), (ad 64, cel ad cy (I00 fD) (J00 row) P00 64), (ad 65, cel ad cy (I00 fD) (J00 row) P00 65), (ad 66, cel ad cy (I00 fD) (J00 row) P00 66), (ad 67, cel ad cy (I00 fD) (J00 row) P00 67), (ad 68, cel ad cy (I00 fD) (J00 row) P00 68), (ad 69, cel ad cy (I00 fD) (J00 row) P00 69), (ad 70, cel ad cy (I00 fD) (J00 row) P00 70), (ad 71, cel ad cy (I00 fD) (J00 row) P00 71), (ad 72, cel ad cy (I00 fD) (J00 row) P00 72), (ad 73, cel ad cy (I00 fD) (J00 row) P00 73), (ad 74, cel ad cy (I00 fD) (J00 row) P00 74), (ad 75, cel ad cy (I00 fD) (J00 row) P00 75), (ad 76, cel ad cy (I00 fD) (J00 row) P00 76), (ad 77, cel ad cy (I00 fD) (J00 row) P00 77), (ad 78, cel ad cy (I00 fD) (J00 row) P00 78), (ad 79, cel ad cy (I00 fD) (J00 row) P00 79)] = _
  rw [ce_0, ce_1, ce_2, ce_3, ce_4, ce_5, ce_6, ce_7, ce_8, ce_9, ce_10, ce_11, ce_12, ce_13, ce_14, ce_15, ce_16, ce_17, ce_18, ce_19, ce_20, ce_21, ce_22, ce_23, ce_24, ce_25, ce_26, ce_27, ce_28, ce_29, ce_30, ce_31, ce_32, ce_33, ce_34, ce_35, ce_36, ce_37, ce_38, ce_39, ce_40, ce_41, ce_42, ce_43, ce_44, ce_45, ce_46, ce_47, ce_48, ce_49, ce_50, ce_51, ce_52, ce_53, ce_54, ce_55, ce_56, ce_57, ce_58, ce_59, ce_60, ce_61, ce_62, ce_63, ce_64, ce_65, ce_66, ce_67, ce_68, ce_69, ce_70, ce_71, ce_72, ce_73, ce_74, ce_75, ce_76, ce_77, ce_78, ce_79]
  rfl
set_option maxRecDepth 100000 in
set_option maxHeartbeats 4000000 in
theorem wsF_E {ad : Nat → Nat} {cy : Nat → ClassId} {row : Nat → Int64} {fD : Nat → Int32} {r36 r58 : Nat → Nat} : wsF ad cy row fD = ((wsE ad cy row fD r36 r58).set 42 (ad 42, .inl (cy 4, 6, .inr (.inr (.inr (.inr (fun j => some (ad (43 + j))))))))).set 64 (ad 64, .inl (cy 4, 6, .inr (.inr (.inr (.inr (fun j => some (ad (65 + j)))))))) := rfl
set_option maxRecDepth 100000 in
set_option maxHeartbeats 4000000 in
theorem wsE_42 {ad : Nat → Nat} {cy : Nat → ClassId} {row : Nat → Int64} {fD : Nat → Int32} {r36 r58 : Nat → Nat} : (wsE ad cy row fD r36 r58)[42]? = some (ad 42, .inl (cy 4, 6, .inr (.inr (.inr (.inr (fun i => if i < 6 then some (r36 i) else none)))))) := rfl
set_option maxRecDepth 100000 in
set_option maxHeartbeats 4000000 in
theorem wsE_64 {ad : Nat → Nat} {cy : Nat → ClassId} {row : Nat → Int64} {fD : Nat → Int32} {r36 r58 : Nat → Nat} : (wsE ad cy row fD r36 r58)[64]? = some (ad 64, .inl (cy 4, 6, .inr (.inr (.inr (.inr (fun i => if i < 6 then some (r58 i) else none)))))) := rfl
theorem at_row {D : va_G} {cl : List vw_C} {H : Heap} {a : Nat} {c : ClassId} {r : Nat → Nat} {g : Nat → Nat} (h : va_at D cl (a, .inl (c, 6, .inr (.inr (.inr (.inr (fun i => if i < 6 then some (r i) else none)))))) H) (e : ∀ j, j < 6 → r j = g j) : va_at D cl (a, .inl (c, 6, .inr (.inr (.inr (.inr (fun j => some (g j))))))) H := by
  have h1 : H[a]? = some (arrV c 6 (fun j => va_rf (if j < 6 then some (r j) else none))) := h
  show H[a]? = some (arrV c 6 (fun j => va_rf (some (g j))))
  rw [h1, arrV_ex9 (fun j hj => by rw [if_pos hj, e j hj])]
theorem wsM_P {D : va_G} {cl : List vw_C} {H : Heap} {ad : Nat → Nat} {cy : Nat → ClassId} {row : Nat → Int64} {fD : Nat → Int32} {r36 r58 : Nat → Nat} (e1 : ∀ j, j < 6 → r36 j = ad (43 + j)) (e2 : ∀ j, j < 6 → r58 j = ad (65 + j)) (h : va_P D cl (wsM ad cy row fD r36 r58) H) : va_P D cl (wsO ad cy (I00 fD) (J00 row) P00) H := by
  have hE := p_perm h piL wsM_E
  rw [wsO_F, wsF_E (r36 := r36) (r58 := r58)]
  exact p_set (p_set hE (at_row (hE 42 _ wsE_42) e1)) (at_row (hE 64 _ wsE_64) e2)
theorem wsM_D {A : Nat → Prop} {ad : Nat → Nat} {cy : Nat → ClassId} {row : Nat → Int64} {fD : Nat → Int32} {r36 r58 : Nat → Nat} (h : va_D A (wsM ad cy row fD r36 r58)) : (∀ i j, i < 80 → j < 80 → ad i = ad j → i = j) ∧ ∀ i, i < 80 → A (ad i) := by
  have hE := h.sub piL piL_nd (wsM_E (ad := ad) (cy := cy) (row := row) (fD := fD) (r36 := r36) (r58 := r58))
  have k : ∀ i, i < 80 → ∃ x, (wsE ad cy row fD r36 r58)[i]? = some (ad i, x) := fun i hi => by
    have e : ((wsE ad cy row fD r36 r58).map Prod.fst)[i]? = some (ad i) := by rw [wsE_ad]; simp [hi]
    rw [List.getElem?_map] at e
    obtain ⟨q, q1, q2⟩ := Option.map_eq_some_iff.mp e
    exact ⟨q.2, by rw [q1, ← q2]⟩
  refine ⟨fun i j hi hj e => ?_, fun i hi => ?_⟩
  · obtain ⟨x, hx⟩ := k i hi
    obtain ⟨y, hy⟩ := k j hj
    exact hE.1 i j _ _ hx hy e
  · obtain ⟨x, hx⟩ := k i hi
    exact hE.2 i _ hx
/-! a new numbering: the told list with the draft -/
def pi (i : Nat) : Nat := if 36 ≤ i ∧ i < 58 then i + 22 else if 58 ≤ i ∧ i < 80 then i - 22 else i
theorem pi_pi (i : Nat) : pi (pi i) = i := by
  unfold pi
  split <;> split <;> (try split) <;> (try split) <;> omega
theorem pi_lt {i : Nat} (h : i < 80) : pi i < 80 := by
  unfold pi
  split <;> (try split) <;> omega
def pif (q : Nat) : Nat := if q < 3 then q else pi (q - 3) + 3
def shP : (Nat × List Nat) ⊕ (Nat × Nat) → (Nat × List Nat) ⊕ (Nat × Nat)
  | .inl (c, ks) => .inl (c, ks.map pif)
  | .inr (a, n) => .inr (if a < 4 then a else pi (a - 4) + 4, n)
def shO (i : Nat) : Bool := decide (shp (pi i) = shP (shp i)) && (match shp i with
  | .inl _ => true
  | .inr (a, n) => decide (a < 4) || (List.range n).all (fun j => decide (pi (a - 4 + j) = pi (a - 4) + j)))
theorem shO_all : ∀ i, i < 80 → shO i = true := by
  intro i hi
  have h : (List.range 80).all shO = true := by decide +kernel
  exact List.all_eq_true.mp h i (List.mem_range.mpr hi)
theorem shp_pi {i : Nat} (h : i < 80) : shp (pi i) = shP (shp i) := of_decide_eq_true (Bool.and_eq_true_iff.mp (shO_all i h)).1
theorem shp_row {i a n : Nat} (h : i < 80) (hs : shp i = .inr (a, n)) (ha : ¬ a < 4) : ∀ j, j < n → pi (a - 4 + j) = pi (a - 4) + j := by
  intro j hj
  have h2 := (Bool.and_eq_true_iff.mp (shO_all i h)).2
  rw [hs] at h2
  rcases Bool.or_eq_true_iff.mp h2 with q | q
  · exact absurd (of_decide_eq_true q) ha
  · exact of_decide_eq_true (List.all_eq_true.mp q j (List.mem_range.mpr hj))
def renP (P : MP) : MP := fun k j => (P (pi k) j).map pi
def ren {α : Type} (I : Nat → Nat → α) : Nat → Nat → α := fun k => I (pi k)
section RN
variable {ad ad' : Nat → Nat} {cy : Nat → ClassId} {I : MI} {J : MJ} {P : MP}
def refs80 (i : Nat) : Bool := match shp i with
  | .inl (_, ks) => ks.all (fun q => decide (q < 83))
  | .inr (a, n) => decide (a < 4) || decide (a - 4 + n ≤ 80)
theorem refs80_all : ∀ i, i < 80 → refs80 i = true := by decide +kernel
theorem fvl_ren (e : ∀ i, i < 80 → ad' i = ad (pi i)) (hP : ∀ k j v, P k j = some v → v < 80) {i k q : Nat} (hq : q < 83) : fvl ad' (ren I) (ren J) (renP P) i k q = fvl ad I J P (pi i) k (pif q) := by
  unfold pif
  rcases Nat.lt_or_ge q 3 with h | h
  · rw [if_pos h]
    rcases (show q = 0 ∨ q = 1 ∨ q = 2 by omega) with rfl | rfl | rfl
    · rfl
    · rfl
    · show va_rf ((renP P i k).map ad') = va_rf ((P (pi i) k).map ad)
      congr 1
      unfold renP
      cases hk : P (pi i) k with
      | none => rfl
      | some x =>
        show some (ad' (pi x)) = some (ad x)
        rw [e _ (pi_lt (hP _ _ _ hk)), pi_pi]
  · rw [if_neg (by omega)]
    unfold fvl
    rw [if_neg (by omega), if_neg (by omega), if_neg (by omega), if_neg (by omega), if_neg (by omega), if_neg (by omega), Nat.add_sub_cancel, e _ (by omega)]
theorem fvs_ren (e : ∀ i, i < 80 → ad' i = ad (pi i)) (hP : ∀ k j v, P k j = some v → v < 80) (i : Nat) : ∀ (ks : List Nat) (k : Nat), (∀ q ∈ ks, q < 83) → fvs ad' (ren I) (ren J) (renP P) i k ks = fvs ad I J P (pi i) k (ks.map pif)
  | [], _, _ => rfl
  | q :: r, k, h => by
    show fvl _ _ _ _ i k q :: fvs _ _ _ _ i (k + 1) r = fvl ad I J P (pi i) k (pif q) :: fvs ad I J P (pi i) (k + 1) (r.map pif)
    rw [fvl_ren e hP (h q List.mem_cons_self), fvs_ren e hP i r _ (fun x hx => h x (List.mem_cons_of_mem _ hx))]
theorem wso_ren {D : va_G} {cl : List vw_C} {H : Heap} (e : ∀ i, i < 80 → ad' i = ad (pi i)) (hP : ∀ k j v, P k j = some v → v < 80) (h : va_P D cl (wsO ad cy I J P) H) : va_P D cl (wsO ad' cy (ren I) (ren J) (renP P)) H := by
  intro k q hq
  obtain ⟨k1, rfl⟩ := wsO_ix hq
  have h1 := h (pi k) _ (wsO_at (pi_lt k1))
  rw [← e k k1] at h1
  unfold va_at at h1 ⊢
  have hs := shp_pi k1
  have h80 := refs80_all k k1
  unfold refs80 at h80
  unfold cel at h1 ⊢
  rw [hs] at h1
  cases hk : shp k with
  | inl v =>
    obtain ⟨c, ks⟩ := v
    rw [hk] at h1 h80
    dsimp only [shP] at h1 h80 ⊢
    rw [fvs_ren e hP k ks 0 (fun q hq => of_decide_eq_true (List.all_eq_true.mp h80 q hq))]
    exact h1
  | inr v =>
    obtain ⟨a, n⟩ := v
    rw [hk] at h1 h80
    dsimp only [shP] at h1 h80 ⊢
    by_cases ha : a < 4
    · rw [if_pos ha] at h1
      by_cases h3 : a = 3
      · rw [if_pos h3] at h1 ⊢
        exact h1
      · rw [if_neg h3, if_pos (by omega)] at h1 ⊢
        exact h1
    · rw [if_neg ha] at h1
      rw [if_neg (by omega), if_neg (by omega)] at h1 ⊢
      have hb : a - 4 + n ≤ 80 := by simpa [ha] using h80
      dsimp only [vp_cell] at h1 ⊢
      rw [arrV_ex9 (g := fun j => va_rf (some (ad (pi (a - 4) + 4 - 4 + j)))) (fun j hj => by
        show va_rf (some (ad' (a - 4 + j))) = _
        rw [e _ (by omega), shp_row k1 hk ha j hj, Nat.add_sub_cancel])]
      exact h1
theorem wso_renD {A : Nat → Prop} (e : ∀ i, i < 80 → ad' i = ad (pi i)) (h : va_D A (wsO ad cy I J P)) : va_D A (wsO ad' cy (ren I) (ren J) (renP P)) := by
  refine wsO_D (fun i j hi hj q => ?_) (fun i hi => ?_)
  · rw [e i hi, e j hj] at q
    have := h.1 (pi i) (pi j) _ _ (wsO_at (pi_lt hi)) (wsO_at (pi_lt hj)) q
    rw [← pi_pi i, this, pi_pi]
  · rw [e i hi]
    exact h.2 (pi i) _ (wsO_at (pi_lt hi))
end RN
