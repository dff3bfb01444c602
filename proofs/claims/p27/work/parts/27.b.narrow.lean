/-! The start: what narrow_1 gives -/
def kId : List Nat := [73, 75, 77, 41, 82, 84, 86, 88, 90, 92, 97, 99, 101, 103, 105, 107, 112, 114, 116, 118, 120, 126, 128, 130, 132, 134, 136, 138, 0, 0, 143, 148, 150, 152, 157, 159, 252, 254, 256, 258, 260, 262, 264, 266, 268, 270, 272, 274]
def tmT (i : Nat) : Term := if i = 28 then .string RX8 36 else if i = 29 then .string RX8 87 else .string RL (kId.getD i 0)
def tmV (i : Nat) : Term := .field (tmT i) "java/lang/String" "value" "[B"
def tKEY : Term := .static "QuipuKeepersLaw" "NAMES" "[Ljava/lang/String;"
def strH (i : Nat) : List Cond := [.exactly (tmT i) "java/lang/String", .eq (.field (tmT i) "java/lang/String" "coder" "B") (.int 0), .arrayOf (tmV i) .byte, .eq (.length (tmV i)) (.int (Int32.ofNat (kLen.getD i 0)))]
def strE (i : Nat) : List Cond := (List.range (kLen.getD i 0)).map (fun j => .eq (.elem (tmV i) (.int (Int32.ofNat j))) (.int ((kByt.getD i []).getD j 0)))
def strA (i : Nat) : List Cond := strH i ++ strE i
def fam1 : List Cond := [.eq (.static "java/lang/String" "COMPACT_STRINGS" "Z") (.int 1), .isRef (.static "jdk/internal/util/Preconditions" "SIOOBE_FORMATTER" "Ljava/util/function/BiFunction;"), .arrayOf tKEY (.object "java/lang/String"), .eq (.length tKEY) (.int 12)]
def fam2 : List Cond := (List.range 12).map (fun j => .eq (.elem tKEY (.int (Int32.ofNat j))) (tmT (36 + j)))
def ordL : List Nat := [28, 0, 1, 2, 3, 4, 5, 6, 7, 8, 9, 10, 11, 12, 13, 14, 15, 16, 17, 18, 19, 20, 21, 22, 23, 24, 25, 26, 27, 30, 31, 32, 33, 34, 35, 29, 36, 37, 38, 39, 40, 41, 42, 43, 44, 45, 46, 47]
def fam3 : List Cond := ordL.flatMap strA
def famN : List Cond := fam1 ++ (fam2 ++ fam3)
def subL : List Cond → List Cond → Bool
  | [], _ => true
  | _ :: _, [] => false
  | a :: r, b :: t => if a = b then subL r t else subL (a :: r) t
theorem subL_in : ∀ {l m : List Cond}, subL l m = true → ∀ c ∈ l, c ∈ m
  | [], _, _, c, hc => absurd hc List.not_mem_nil
  | a :: r, [], h, _, _ => by simp [subL] at h
  | a :: r, b :: t, h, c, hc => by
    rw [subL] at h
    by_cases e : a = b
    · rw [if_pos e] at h
      rcases List.mem_cons.mp hc with q | q
      · rw [q, e]; exact List.mem_cons_self
      · exact List.mem_cons_of_mem _ (subL_in h c q)
    · rw [if_neg e] at h
      exact List.mem_cons_of_mem _ (subL_in h c hc)
set_option maxRecDepth 1000000 in
theorem famN_ok : subL famN (flatC (Jvm.Cond.and given_1 narrow_1)) = true := by decide +kernel
theorem fam_before {s : State} {args : Array Value} (h : (Jvm.Cond.and given_1 narrow_1).before args s = true) : ∀ c ∈ famN, c.before args s = true := fun c hc => flat_of_before _ h c (subL_in famN_ok c hc)
theorem ordL_all : ∀ i, i < 48 → i ∈ ordL := by decide
theorem str_in {i : Nat} (hi : i < 48) : ∀ c ∈ strA i, c ∈ famN := fun c hc => List.mem_append_right _ (List.mem_append_right _ (List.mem_flatMap.mpr ⟨i, ordL_all i hi, hc⟩))
theorem f1_in {c : Cond} (k : Nat) (h : fam1[k]? = some c) : c ∈ famN := List.mem_append_left _ (List.mem_of_getElem? h)
theorem f2_in {j : Nat} (h : j < 12) : Cond.eq (.elem tKEY (.int (Int32.ofNat j))) (tmT (36 + j)) ∈ famN := List.mem_append_right _ (List.mem_append_left _ (List.mem_map.mpr ⟨j, List.mem_range.mpr h, rfl⟩))
