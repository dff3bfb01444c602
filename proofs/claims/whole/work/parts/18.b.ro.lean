/-! The start: what stands of the tables and the library's text -/
def tbG (q : Nat × Nat) : Option Cond := match q.1 with
  | 1 => tables_1_1[q.2]?
  | 2 => tables_1_2[q.2]?
  | 3 => tables_1_3[q.2]?
  | 4 => tables_1_4[q.2]?
  | 5 => tables_1_5[q.2]?
  | 6 => tables_1_6[q.2]?
  | 7 => tables_1_7[q.2]?
  | 8 => tables_1_8[q.2]?
  | _ => none
theorem tbG_m {q : Nat × Nat} {w : Cond} (h : tbG q = some w) : w ∈ lw_tbl := by
  unfold tbG at h
  split at h
  · exact tb_1 (List.mem_of_getElem? h)
  · exact tb_2 (List.mem_of_getElem? h)
  · exact tb_3 (List.mem_of_getElem? h)
  · exact tb_4 (List.mem_of_getElem? h)
  · exact tb_5 (List.mem_of_getElem? h)
  · exact tb_6 (List.mem_of_getElem? h)
  · exact tb_7 (List.mem_of_getElem? h)
  · exact tb_8 (List.mem_of_getElem? h)
  · cases h
theorem tbG_all {L : List Cond} {I : List (Nat × Nat)} (h : L.map some = I.map tbG) : ∀ w ∈ L, w ∈ lw_tbl := by
  intro w hw
  have h1 : some w ∈ I.map tbG := by rw [← h]; exact List.mem_map_of_mem hw
  obtain ⟨q, -, h2⟩ := List.mem_map.mp h1
  exact tbG_m h2
def nestW : List Cond := nestF.map (fun q => .fieldLinkNest q.1 q.2.1 q.2.2.1 q.2.2.2.1 q.2.2.2.2.1 q.2.2.2.2.2)
set_option maxRecDepth 100000 in
theorem nestW_in : nestW.map some = [(1, 56), (5, 213), (5, 215), (5, 217), (5, 219), (5, 221), (5, 223), (5, 225), (5, 227), (5, 229), (5, 231), (5, 233), (5, 235), (5, 238), (6, 0), (6, 2)].map tbG := by decide +kernel
def mnWl : List Cond := mnF.map (fun q => .methodLinkNest q.1 q.2.1 q.2.2.1 q.2.2.2)
set_option maxRecDepth 100000 in
theorem mnW_in : mnWl.map some = [(1, 37), (1, 45), (1, 165), (2, 50), (2, 135), (5, 208)].map tbG := by decide +kernel
set_option maxRecDepth 100000 in
theorem nxW_in : nxW.map some = [(4, 70), (4, 72), (4, 74), (4, 68), (4, 147), (4, 171)].map tbG := by decide +kernel
def msgW : List Cond := msgs.map (fun q => .stringRef RX10 q.1 q.2)
set_option maxRecDepth 100000 in
theorem msgW_in : msgW.map some = [(4, 107), (4, 154), (4, 178), (4, 193), (4, 202), (4, 210), (4, 225), (4, 237), (5, 5), (5, 21), (5, 37), (5, 46), (5, 54), (5, 66), (5, 74), (5, 86), (5, 149)].map tbG := by decide +kernel
section ST
variable {s : State} {args : Array Value}
theorem nw_start (hts : ∀ w ∈ lw_tbl, w.before args s = true) : NW s := fun q hq => va_Nw.of rfl (hts _ (tbG_all nestW_in _ (List.mem_map.mpr ⟨q, hq, rfl⟩)))
theorem mn_start (hts : ∀ w ∈ lw_tbl, w.before args s = true) : MNW s := ⟨fun q hq => va_Nw.of rfl (hts _ (tbG_all mnW_in _ (List.mem_map.mpr ⟨q, hq, rfl⟩))), fun A => hts _ (tb_1 (List.mem_of_getElem? (i := 42) rfl))⟩
theorem nx_start (hts : ∀ w ∈ lw_tbl, w.before args s = true) (hn : ∀ c ∈ famN, c.before args s = true) : NX s := by
  refine ⟨fun w hw => ?_, va_Nc.of (hn _ (f3_in 2 rfl)), va_Nc.of (hn _ (f3_in 1 rfl)), va_Nc.of (hn _ (f3_in 0 rfl))⟩
  have h := hts _ (tbG_all nxW_in w hw)
  simp only [nxW, List.mem_cons, List.not_mem_nil, or_false] at hw
  rcases hw with rfl | rfl | rfl | rfl | rfl | rfl <;> exact va_Nw.of rfl h
theorem str1 (hn : ∀ c ∈ famN, c.before args s = true) {i : Nat} (hi : i < 30) {A : Nat → Prop} (hA : ∀ a : Nat, a < s.heap.size → ¬ A a) : ∃ q : Nat × Nat, (va_O "java/lang/String" q.1 A s s.heap ∧ va_OF "java/lang/String" "coder" "B" (.int 0) q.1 A s s.heap ∧ va_OF "java/lang/String" "value" "[B" (.ref q.2) q.1 A s s.heap ∧ va_T .byte q.2 (kLen.getD i 0) (fun j => .int ((kByt.getD i []).getD j 0)) A s s.heap) ∧ (tmT i).eval args s none [] s = some (.ref q.1) := by
  have hm : ∀ c ∈ strA i, c.before args s = true := fun c hc => hn c (str_in hi c hc)
  have hh : ∀ c ∈ strH i, c.before args s = true := fun c hc => hm c (List.mem_append_left _ hc)
  have h0 := hh _ (List.mem_of_getElem? (i := 0) rfl)
  have h1 := hh _ (List.mem_of_getElem? (i := 1) rfl)
  have h2 := hh _ (List.mem_of_getElem? (i := 2) rfl)
  have h3 := hh _ (List.mem_of_getElem? (i := 3) rfl)
  obtain ⟨adK, adV, hS, hE⟩ := vk_Sof (args := args) (s := s) (N := 1) (tm := fun _ => tmT i) (len := [kLen.getD i 0]) (byt := [kByt.getD i []]) (A := A)
    (fun k hk => by obtain rfl : k = 0 := by omega
                    exact kL_all i hi)
    (fun k hk => h0) (fun k hk => h1) (fun k hk => h2)
    (fun k hk => by obtain rfl : k = 0 := by omega
                    exact h3)
    (fun k hk j hj => by
      obtain rfl : k = 0 := by omega
      exact hm _ (List.mem_append_right _ (List.mem_map.mpr ⟨j, List.mem_range.mpr hj, rfl⟩)))
    (fun k j hk hj hkj => absurd (show k = j by omega) hkj) hA
  exact ⟨(adK 0, adV 0), hS.1 0 Nat.one_pos, hE 0 Nat.one_pos⟩
theorem of_uniq {o n d : String} {v w : Value} {t : Nat} {A B : Nat → Prop} {U : State} {H : Heap} (h : va_OF o n d v t A U H) (h' : va_OF o n d w t B U H) : v = w := by
  obtain ⟨cf, k, i, f, cell, a1, a2, a3, a4, a5, a6⟩ := h
  obtain ⟨cf', k', i', f', cell', b1, b2, b3, b4, b5, b6⟩ := h'
  rw [a1] at b1
  cases b1
  rw [a3] at b3
  cases b3
  rw [a5] at b5
  exact Option.some.inj b5
theorem t_uniq {ty : FieldType} {N N' t : Nat} {f g : Nat → Value} {A B : Nat → Prop} {U : State} {H : Heap} (h : va_T ty t N f A U H) (h' : va_T ty t N' g B U H) (hN : N < 2 ^ 31) (hN' : N' < 2 ^ 31) : N = N' ∧ ∀ j, j < N → f j = g j := by
  obtain ⟨c, a1, a2, a3, a4, a5, a6, a7⟩ := h
  obtain ⟨c', b1, b2, b3, b4, b5, b6, b7⟩ := h'
  rw [a1] at b1
  cases b1
  have e : N = N' := (nI_eq hN hN').mp (a5.symm.trans b5)
  subst e
  exact ⟨rfl, fun j hj => Option.some.inj ((a6 j hj).symm.trans (b6 j hj))⟩
theorem t_ext {ty : FieldType} {N t : Nat} {f g : Nat → Value} {A : Nat → Prop} {U : State} {H : Heap} (h : va_T ty t N f A U H) (e : ∀ j, j < N → f j = g j) : va_T ty t N g A U H := by
  obtain ⟨c, a1, a2, a3, a4, a5, a6, a7⟩ := h
  exact ⟨c, a1, a2, a3, a4, a5, fun j hj => by rw [a6 j hj, e j hj], a7⟩
def kDif (i j : Nat) : Bool := decide (i = j) || !(decide (kLen.getD i 0 = kLen.getD j 0)) || !((List.range (kLen.getD i 0)).all fun x => decide (kB i x = kB j x))
set_option maxRecDepth 100000 in
theorem kDif_all : (List.range 30).all (fun i => (List.range 30).all (fun j => kDif i j)) = true := by decide +kernel
theorem str_ne {i j a u v : Nat} {A : Nat → Prop} (hi : i < 30) (hj : j < 30) (h1 : va_OF "java/lang/String" "value" "[B" (.ref u) a A s s.heap) (h2 : va_OF "java/lang/String" "value" "[B" (.ref v) a A s s.heap) (t1 : va_T .byte u (kLen.getD i 0) (fun x => .int ((kByt.getD i []).getD x 0)) A s s.heap) (t2 : va_T .byte v (kLen.getD j 0) (fun x => .int ((kByt.getD j []).getD x 0)) A s s.heap) : i = j := by
  have e := of_uniq h1 h2
  cases e
  obtain ⟨q1, q2⟩ := t_uniq t1 t2 (kL_all i hi) (kL_all j hj)
  have k1 := List.all_eq_true.mp kDif_all i (List.mem_range.mpr hi)
  have k2 := List.all_eq_true.mp k1 j (List.mem_range.mpr hj)
  have k3 : ((List.range (kLen.getD i 0)).all fun x => decide (kB i x = kB j x)) = true := List.all_eq_true.mpr (fun x hx => decide_eq_true (by
    have := q2 x (List.mem_range.mp hx)
    exact Value.int.inj this))
  rw [kDif, k3, decide_eq_true q1] at k2
  simpa using k2
set_option maxRecDepth 100000 in
set_option maxHeartbeats 1000000 in
theorem ro_start (b : Nat) (hts : ∀ w ∈ lw_tbl, w.before args s = true) (hn : ∀ c ∈ famN, c.before args s = true) : ∃ ad : Nat → Nat, ad 500 = b ∧ RO ad (fun q => s.heap.size ≤ q) s s.heap := by
  have hA : ∀ a : Nat, a < s.heap.size → ¬ (fun q => s.heap.size ≤ q) a := fun a h q => absurd h (Nat.not_lt.mpr q)
  have h0 : ∀ i : Nat, ∃ q : Nat × Nat, i < 30 → (va_O "java/lang/String" q.1 (fun q => s.heap.size ≤ q) s s.heap ∧ va_OF "java/lang/String" "coder" "B" (.int 0) q.1 (fun q => s.heap.size ≤ q) s s.heap ∧ va_OF "java/lang/String" "value" "[B" (.ref q.2) q.1 (fun q => s.heap.size ≤ q) s s.heap ∧ va_T .byte q.2 (kLen.getD i 0) (fun j => .int ((kByt.getD i []).getD j 0)) (fun q => s.heap.size ≤ q) s s.heap) ∧ (tmT i).eval args s none [] s = some (.ref q.1) := by
    intro i
    by_cases hi : i < 30
    · obtain ⟨q, hq⟩ := str1 hn hi hA
      exact ⟨q, fun _ => hq⟩
    · exact ⟨(0, 0), fun h => absurd h hi⟩
  obtain ⟨qs, hq⟩ := Classical.axiomOfChoice h0
  have hf : ∃ f : Nat, va_Z "jdk/internal/util/Preconditions" "SIOOBE_FORMATTER" "Ljava/util/function/BiFunction;" .null (fun q => s.heap.size ≤ q) s s.heap ∨ va_Z "jdk/internal/util/Preconditions" "SIOOBE_FORMATTER" "Ljava/util/function/BiFunction;" (.ref f) (fun q => s.heap.size ≤ q) s s.heap := by
    rcases va_Zqof (hts _ (tb_1 (List.mem_of_getElem? (i := 209) rfl))) (hts _ (tb_1 (List.mem_of_getElem? (i := 8) rfl))) (hn _ (f1_in 1 rfl)) hA with h | ⟨t, h⟩
    · exact ⟨0, Or.inl h⟩
    · exact ⟨t, Or.inr h⟩
  obtain ⟨f, hf⟩ := hf
  obtain ⟨t, hkt, hkT⟩ := va_Tof (tm := tKEY) (ty := .object "java/lang/String") (N := 28) (f := fun j => .ref (qs j).1) (by decide) (hn _ (f1_in 4 rfl)) (va_eqt (z := 28) (hn _ (f1_in 5 rfl))) (fun j hj => va_eqv (hn _ (f2_in hj)) (hq j (by omega)).2) hA
  obtain ⟨ad, had⟩ : ∃ ad : Nat → Nat, ad = fun i => if i = 500 then b else if i = 400 then f else if i = 401 then t else if 300 ≤ i then (qs (i - 300)).2 else (qs (i - 200)).1 := ⟨_, rfl⟩
  have e1 : ∀ i, i < 30 → ad (200 + i) = (qs i).1 := fun i hi => by
    rw [had]
    show (if _ then _ else _) = _
    rw [if_neg (by omega), if_neg (by omega), if_neg (by omega), if_neg (by omega), Nat.add_sub_cancel_left]
  have e2 : ∀ i, i < 30 → ad (300 + i) = (qs i).2 := fun i hi => by
    rw [had]
    show (if _ then _ else _) = _
    rw [if_neg (by omega), if_neg (by omega), if_neg (by omega), if_pos (by omega), Nat.add_sub_cancel_left]
  have e3 : ad 500 = b := by rw [had]; rfl
  have e4 : ad 400 = f := by rw [had]; rfl
  have e5 : ad 401 = t := by rw [had]; rfl
  refine ⟨ad, e3, RO.mk (nw_start hts) ⟨fun i hi => ?_, fun i j hi hj e => ?_⟩ (va_Zof (hts _ (tb_1 (List.mem_of_getElem? (i := 193) rfl))) (hts _ (tb_1 (List.mem_of_getElem? (i := 6) rfl))) (va_eqt (z := 1) (hn _ (f1_in 0 rfl))) hA) ?_ ?_ ?_ ?_ ?_ ?_ ?_ ?_⟩
  · have k := (hq i hi).1
    rw [← e1 i hi, ← e2 i hi] at k
    exact k
  · have k := (hq i hi).1
    have k2 := (hq j hj).1
    have e' : (qs i).1 = (qs j).1 := by rw [← e1 i hi, ← e1 j hj]; exact e
    rw [e'] at k
    exact str_ne hi hj k.2.2.1 k2.2.2.1 k.2.2.2 k2.2.2.2
  · rw [e4]; exact hf
  · rw [e5]; exact va_Zof (hts _ (tb_6 (List.mem_of_getElem? (i := 130) rfl))) (hts _ (tb_1 (List.mem_of_getElem? (i := 14) rfl))) hkt hA
  · rw [e5]; exact t_ext hkT (fun j hj => by show Value.ref _ = Value.ref _; rw [e1 j (by omega)])
  · have k := (hq 28 (by decide)).2
    rw [← e1 28 (by decide)] at k
    exact vk_R.of (hts _ (tb_1 (List.mem_of_getElem? (i := 183) rfl))) k
  · have k := (hq 29 (by decide)).2
    rw [← e1 29 (by decide)] at k
    exact vk_R.of (hts _ (tb_2 (List.mem_of_getElem? (i := 215) rfl))) k
  · intro q hm
    obtain ⟨a, c, cA, kA, q1, -⟩ := Cond.exactly_spec (args := args) (first := s) (o := none) (s := s) (idx := []) (t := .string RX10 q.1) (cls := "java/lang/String") (hn _ (f5_in hm))
    exact ⟨a, vk_R.of (hts _ (tbG_all msgW_in _ (List.mem_map.mpr ⟨q, hm, rfl⟩))) q1⟩
  · exact vx_Zqof (hts _ (tb_4 (List.mem_of_getElem? (i := 93) rfl))) (hts _ (tb_1 (List.mem_of_getElem? (i := 16) rfl))) (hn _ (f1_in 2 rfl)) hA
  · exact vx_Zqof (hts _ (tb_4 (List.mem_of_getElem? (i := 95) rfl))) (hts _ (tb_1 (List.mem_of_getElem? (i := 16) rfl))) (hn _ (f1_in 3 rfl)) hA
end ST
