/-! The start: what narrow_1 gives -/
def kId : List Nat := [418, 420, 421, 423, 425, 427, 429, 431, 432, 433, 435, 436, 438, 440, 442, 444, 446, 448, 449, 450, 451, 453, 455, 456, 458, 460, 462, 463]
def tmT (i : Nat) : Term := if i = 28 then .string RX8 36 else if i = 29 then .string RX8 87 else .string RX12 (kId.getD i 0)
def tmV (i : Nat) : Term := .field (tmT i) "java/lang/String" "value" "[B"
def tKEY : Term := .static "QuipuKeepersModel" "KEYS" "[Ljava/lang/String;"
def strH (i : Nat) : List Cond := [.exactly (tmT i) "java/lang/String", .eq (.field (tmT i) "java/lang/String" "coder" "B") (.int 0), .arrayOf (tmV i) .byte, .eq (.length (tmV i)) (.int (Int32.ofNat (kLen.getD i 0)))]
def strE (i : Nat) : List Cond := (List.range (kLen.getD i 0)).map (fun j => .eq (.elem (tmV i) (.int (Int32.ofNat j))) (.int ((kByt.getD i []).getD j 0)))
def strA (i : Nat) : List Cond := strH i ++ strE i
def fam1 : List Cond := [.eq (.static "java/lang/String" "COMPACT_STRINGS" "Z") (.int 1), .isRef (.static "jdk/internal/util/Preconditions" "SIOOBE_FORMATTER" "Ljava/util/function/BiFunction;"), .isRef (.static "java/lang/Throwable" "UNASSIGNED_STACK" "[Ljava/lang/StackTraceElement;"), .isRef (.static "java/lang/Throwable" "SUPPRESSED_SENTINEL" "Ljava/util/List;"), .arrayOf tKEY (.object "java/lang/String"), .eq (.length tKEY) (.int 28)]
def fam2 : List Cond := (List.range 28).map (fun j => .eq (.elem tKEY (.int (Int32.ofNat j))) (tmT j))
def fam3 : List Cond := [.not (.castable eIOB eIAE), .not (.castable eISE eIOB), .not (.castable eIAE eIOB)]
def fam4 : List Cond := [28, 29].flatMap strA
def fam5 : List Cond := msgs.map (fun q => .exactly (.string RX10 q.1) "java/lang/String")
def fam6 : List Cond := (List.range 28).flatMap strA
def famN : List Cond := fam1 ++ (fam2 ++ (fam3 ++ (fam4 ++ (fam5 ++ fam6))))
def subL : List Cond → List Cond → Bool
  | [], _ => true
  | _ :: _, [] => false
  | a :: r, b :: t => if a = b then subL r t else subL (a :: r) t
theorem subL_in : ∀ {l m : List Cond}, subL l m = true → ∀ c ∈ l, c ∈ m
  | [], _, _, c, hc => absurd hc List.not_mem_nil
  | a :: r, [], h, _, _ => by simp [subL] at h
  | a :: r, b :: t, h, c, hc => by
    rw [subL] at h
    by_cases e : a = b
    · rw [if_pos e] at h
      rcases List.mem_cons.mp hc with q | q
      · rw [q, e]; exact List.mem_cons_self
      · exact List.mem_cons_of_mem _ (subL_in h c q)
    · rw [if_neg e] at h
      exact List.mem_cons_of_mem _ (subL_in h c hc)
set_option maxRecDepth 1000000 in
theorem famN_ok : subL famN (flatC (Jvm.Cond.and given_1 narrow_1)) = true := by decide +kernel
theorem fam_before {s : State} {args : Array Value} (h : (Jvm.Cond.and given_1 narrow_1).before args s = true) : ∀ c ∈ famN, c.before args s = true := fun c hc => flat_of_before _ h c (subL_in famN_ok c hc)
theorem str_in {i : Nat} (hi : i < 30) : ∀ c ∈ strA i, c ∈ famN := by
  intro c hc
  by_cases h : i < 28
  · exact List.mem_append_right _ (List.mem_append_right _ (List.mem_append_right _ (List.mem_append_right _ (List.mem_append_right _ (List.mem_flatMap.mpr ⟨i, List.mem_range.mpr h, hc⟩)))))
  · refine List.mem_append_right _ (List.mem_append_right _ (List.mem_append_right _ (List.mem_append_left _ (List.mem_flatMap.mpr ⟨i, ?_, hc⟩))))
    rcases (show i = 28 ∨ i = 29 by omega) with rfl | rfl
    · exact List.mem_cons_self
    · exact List.mem_cons_of_mem _ List.mem_cons_self
theorem f1_in {c : Cond} (k : Nat) (h : fam1[k]? = some c) : c ∈ famN := List.mem_append_left _ (List.mem_of_getElem? h)
theorem f2_in {j : Nat} (h : j < 28) : Cond.eq (.elem tKEY (.int (Int32.ofNat j))) (tmT j) ∈ famN := List.mem_append_right _ (List.mem_append_left _ (List.mem_map.mpr ⟨j, List.mem_range.mpr h, rfl⟩))
theorem f3_in {c : Cond} (k : Nat) (h : fam3[k]? = some c) : c ∈ famN := List.mem_append_right _ (List.mem_append_right _ (List.mem_append_left _ (List.mem_of_getElem? h)))
theorem f5_in {q : Nat × String} (h : q ∈ msgs) : Cond.exactly (.string RX10 q.1) "java/lang/String" ∈ famN := List.mem_append_right _ (List.mem_append_right _ (List.mem_append_right _ (List.mem_append_right _ (List.mem_append_left _ (List.mem_map.mpr ⟨q, h, rfl⟩)))))
