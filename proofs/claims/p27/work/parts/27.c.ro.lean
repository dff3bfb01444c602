/-! The start: what stands of the tables and the library's text -/
section ST
variable {s : State} {args : Array Value}
theorem nw_start (hts : ∀ w ∈ lw_tbl, w.before args s = true) : NW s := fun q hq => by
  simp only [nestF, List.mem_cons, List.not_mem_nil, or_false] at hq
  subst hq
  exact va_Nw.of rfl (hts _ (tb_2 (List.mem_of_getElem? (i := 194) rfl)))
theorem mn_start (hts : ∀ w ∈ lw_tbl, w.before args s = true) : MNW s := ⟨fun q hq => by
  simp only [mnF, List.mem_cons, List.not_mem_nil, or_false] at hq
  rcases hq with rfl | rfl | rfl | rfl | rfl
  · exact va_Nw.of rfl (hts _ (tb_2 (List.mem_of_getElem? (i := 175) rfl)))
  · exact va_Nw.of rfl (hts _ (tb_2 (List.mem_of_getElem? (i := 183) rfl)))
  · exact va_Nw.of rfl (hts _ (tb_3 (List.mem_of_getElem? (i := 63) rfl)))
  · exact va_Nw.of rfl (hts _ (tb_3 (List.mem_of_getElem? (i := 187) rfl)))
  · exact va_Nw.of rfl (hts _ (tb_4 (List.mem_of_getElem? (i := 30) rfl))), fun A => hts _ (tb_2 (List.mem_of_getElem? (i := 180) rfl))⟩
theorem nc_start (hts : ∀ w ∈ lw_tbl, w.before args s = true) : NWc s := by
  have z1 := hts _ (tb_4 (List.mem_of_getElem? (i := 149) rfl))
  have z2 := hts _ (tb_4 (List.mem_of_getElem? (i := 151) rfl))
  refine ⟨va_Nw.of rfl (hts _ (tb_4 (List.mem_of_getElem? (i := 144) rfl))), va_AO.of (hts _ (tb_5 (List.mem_of_getElem? (i := 55) rfl))), fun w hw => ?_⟩
  simp only [selB, List.mem_cons, List.not_mem_nil, or_false] at hw
  rcases hw with rfl | rfl | rfl | rfl
  · exact va_Nw.of rfl (sel_sub (z := yJ5_isLatin1_aae02) rfl z1 z2 ⟨by decide +kernel, by decide +kernel⟩ (hts _ (tb_4 (List.mem_of_getElem? (i := 120) rfl))) (hts _ (tb_4 (List.mem_of_getElem? (i := 121) rfl))))
  · exact va_Nw.of rfl (sel_sub (z := yJ5_isLatin1_aae02) rfl z1 z2 ⟨by decide +kernel, by decide +kernel⟩ (hts _ (tb_4 (List.mem_of_getElem? (i := 124) rfl))) (hts _ (tb_4 (List.mem_of_getElem? (i := 125) rfl))))
  · exact va_Nw.of rfl (sel_sub (z := yJ5_isLatin1_aae02) rfl z1 z2 ⟨by decide +kernel, by decide +kernel⟩ (hts _ (tb_4 (List.mem_of_getElem? (i := 170) rfl))) (hts _ (tb_4 (List.mem_of_getElem? (i := 171) rfl))))
  · exact va_Nw.of rfl (sel_sub (z := yJ5_isLatin1_aae02) rfl z1 z2 ⟨by decide +kernel, by decide +kernel⟩ (hts _ (tb_4 (List.mem_of_getElem? (i := 174) rfl))) (hts _ (tb_4 (List.mem_of_getElem? (i := 175) rfl))))
theorem str1 (hn : ∀ c ∈ famN, c.before args s = true) {i : Nat} (hi : i < 48) {A : Nat → Prop} (hA : ∀ a : Nat, a < s.heap.size → ¬ A a) : ∃ q : Nat × Nat, (va_O "java/lang/String" q.1 A s s.heap ∧ va_OF "java/lang/String" "coder" "B" (.int 0) q.1 A s s.heap ∧ va_OF "java/lang/String" "value" "[B" (.ref q.2) q.1 A s s.heap ∧ va_T .byte q.2 (kLen.getD i 0) (fun j => .int ((kByt.getD i []).getD j 0)) A s s.heap) ∧ (tmT i).eval args s none [] s = some (.ref q.1) := by
  have hm : ∀ c ∈ strA i, c.before args s = true := fun c hc => hn c (str_in hi c hc)
  have hh : ∀ c ∈ strH i, c.before args s = true := fun c hc => hm c (List.mem_append_left _ hc)
  have h0 := hh _ (List.mem_of_getElem? (i := 0) rfl)
  have h1 := hh _ (List.mem_of_getElem? (i := 1) rfl)
  have h2 := hh _ (List.mem_of_getElem? (i := 2) rfl)
  have h3 := hh _ (List.mem_of_getElem? (i := 3) rfl)
  obtain ⟨adK, adV, hS, hE⟩ := vk_Sof (args := args) (s := s) (N := 1) (tm := fun _ => tmT i) (len := [kLen.getD i 0]) (byt := [kByt.getD i []]) (A := A)
    (fun k hk => by obtain rfl : k = 0 := by omega
                    exact kL_all i hi)
    (fun k hk => h0) (fun k hk => h1) (fun k hk => h2)
    (fun k hk => by obtain rfl : k = 0 := by omega
                    exact h3)
    (fun k hk j hj => by
      obtain rfl : k = 0 := by omega
      exact hm _ (List.mem_append_right _ (List.mem_map.mpr ⟨j, List.mem_range.mpr hj, rfl⟩)))
    (fun k j hk hj hkj => absurd (show k = j by omega) hkj) hA
  exact ⟨(adK 0, adV 0), hS.1 0 Nat.one_pos, hE 0 Nat.one_pos⟩
theorem of_uniq {o n d : String} {v w : Value} {t : Nat} {A B : Nat → Prop} {U : State} {H : Heap} (h : va_OF o n d v t A U H) (h' : va_OF o n d w t B U H) : v = w := by
  obtain ⟨cf, k, i, f, cell, a1, a2, a3, a4, a5, a6⟩ := h
  obtain ⟨cf', k', i', f', cell', b1, b2, b3, b4, b5, b6⟩ := h'
  rw [a1] at b1
  cases b1
  rw [a3] at b3
  cases b3
  rw [a5] at b5
  exact Option.some.inj b5
theorem t_uniq {ty : FieldType} {N N' t : Nat} {f g : Nat → Value} {A B : Nat → Prop} {U : State} {H : Heap} (h : va_T ty t N f A U H) (h' : va_T ty t N' g B U H) (hN : N < 2 ^ 31) (hN' : N' < 2 ^ 31) : N = N' ∧ ∀ j, j < N → f j = g j := by
  obtain ⟨c, a1, a2, a3, a4, a5, a6, a7⟩ := h
  obtain ⟨c', b1, b2, b3, b4, b5, b6, b7⟩ := h'
  rw [a1] at b1
  cases b1
  have e : N = N' := (nI_eq hN hN').mp (a5.symm.trans b5)
  subst e
  exact ⟨rfl, fun j hj => Option.some.inj ((a6 j hj).symm.trans (b6 j hj))⟩
theorem t_ext {ty : FieldType} {N t : Nat} {f g : Nat → Value} {A : Nat → Prop} {U : State} {H : Heap} (h : va_T ty t N f A U H) (e : ∀ j, j < N → f j = g j) : va_T ty t N g A U H := by
  obtain ⟨c, a1, a2, a3, a4, a5, a6, a7⟩ := h
  exact ⟨c, a1, a2, a3, a4, a5, fun j hj => by rw [a6 j hj, e j hj], a7⟩
def kDif (i j : Nat) : Bool := decide (i = j) || !(decide (kLen.getD i 0 = kLen.getD j 0)) || !((List.range (kLen.getD i 0)).all fun x => decide (kB i x = kB j x))
set_option maxRecDepth 100000 in
theorem kDif_all : (List.range 48).all (fun i => (List.range 48).all (fun j => kDif i j)) = true := by decide +kernel
theorem str_ne {i j a u v : Nat} {A : Nat → Prop} (hi : i < 48) (hj : j < 48) (h1 : va_OF "java/lang/String" "value" "[B" (.ref u) a A s s.heap) (h2 : va_OF "java/lang/String" "value" "[B" (.ref v) a A s s.heap) (t1 : va_T .byte u (kLen.getD i 0) (fun x => .int ((kByt.getD i []).getD x 0)) A s s.heap) (t2 : va_T .byte v (kLen.getD j 0) (fun x => .int ((kByt.getD j []).getD x 0)) A s s.heap) : i = j := by
  have e := of_uniq h1 h2
  cases e
  obtain ⟨q1, q2⟩ := t_uniq t1 t2 (kL_all i hi) (kL_all j hj)
  have k1 := List.all_eq_true.mp kDif_all i (List.mem_range.mpr hi)
  have k2 := List.all_eq_true.mp k1 j (List.mem_range.mpr hj)
  have k3 : ((List.range (kLen.getD i 0)).all fun x => decide (kB i x = kB j x)) = true := List.all_eq_true.mpr (fun x hx => decide_eq_true (by
    have := q2 x (List.mem_range.mp hx)
    exact Value.int.inj this))
  rw [kDif, k3, decide_eq_true q1] at k2
  simpa using k2
theorem i32_nat (x : Int32) : Int32.ofNat x.toBitVec.toNat = x := by
  apply Int32.toBitVec_inj.mp
  show BitVec.ofNat 32 x.toBitVec.toNat = x.toBitVec
  apply BitVec.eq_of_toNat_eq
  rw [BitVec.toNat_ofNat, Nat.mod_eq_of_lt x.toBitVec.isLt]
set_option maxRecDepth 100000 in
set_option maxHeartbeats 1000000 in
theorem ro_start (b L : Nat) (xs : Nat → Int32) (hL : L ≤ 260) (hX : va_X b L xs s s.heap) (hbl : b < s.heap.size) (hts : ∀ w ∈ lw_tbl, w.before args s = true) (hn : ∀ c ∈ famN, c.before args s = true) : ∃ ad : Nat → Nat, ad 500 = b ∧ ad 603 = 0 ∧ RO ad (fun q => s.heap.size ≤ q) s s.heap := by
  have hA : ∀ a : Nat, a < s.heap.size → ¬ (fun q => s.heap.size ≤ q) a := fun a h q => absurd h (Nat.not_lt.mpr q)
  have h0 : ∀ i : Nat, ∃ q : Nat × Nat, i < 48 → (va_O "java/lang/String" q.1 (fun q => s.heap.size ≤ q) s s.heap ∧ va_OF "java/lang/String" "coder" "B" (.int 0) q.1 (fun q => s.heap.size ≤ q) s s.heap ∧ va_OF "java/lang/String" "value" "[B" (.ref q.2) q.1 (fun q => s.heap.size ≤ q) s s.heap ∧ va_T .byte q.2 (kLen.getD i 0) (fun j => .int ((kByt.getD i []).getD j 0)) (fun q => s.heap.size ≤ q) s s.heap) ∧ (tmT i).eval args s none [] s = some (.ref q.1) := by
    intro i
    by_cases hi : i < 48
    · obtain ⟨q, hq⟩ := str1 hn hi hA
      exact ⟨q, fun _ => hq⟩
    · exact ⟨(0, 0), fun h => absurd h hi⟩
  obtain ⟨qs, hq⟩ := Classical.axiomOfChoice h0
  have hf : ∃ f : Nat, va_Z "jdk/internal/util/Preconditions" "SIOOBE_FORMATTER" "Ljava/util/function/BiFunction;" .null (fun q => s.heap.size ≤ q) s s.heap ∨ va_Z "jdk/internal/util/Preconditions" "SIOOBE_FORMATTER" "Ljava/util/function/BiFunction;" (.ref f) (fun q => s.heap.size ≤ q) s s.heap := by
    rcases va_Zqof (hts _ (tb_3 (List.mem_of_getElem? (i := 106) rfl))) (hts _ (tb_1 (List.mem_of_getElem? (i := 8) rfl))) (hn _ (f1_in 1 rfl)) hA with h | ⟨t, h⟩
    · exact ⟨0, Or.inl h⟩
    · exact ⟨t, Or.inr h⟩
  obtain ⟨f, hf⟩ := hf
  obtain ⟨t, hkt, hkT⟩ := va_Tof (tm := tKEY) (ty := .object "java/lang/String") (N := 12) (f := fun j => .ref (qs (36 + j)).1) (by decide) (hn _ (f1_in 2 rfl)) (va_eqt (z := 12) (hn _ (f1_in 3 rfl))) (fun j hj => va_eqv (hn _ (f2_in hj)) (hq (36 + j) (by omega)).2) hA
  obtain ⟨ad, had⟩ : ∃ ad : Nat → Nat, ad = fun i => if i = 500 then b else if i = 501 then L else if i = 603 then 0 else if i = 400 then f else if i = 401 then t else if 5000 ≤ i then (xs (i - 5000)).toBitVec.toNat else if 300 ≤ i then (qs (i - 300)).2 else (qs (i - 200)).1 := ⟨_, rfl⟩
  have e1 : ∀ i, i < 48 → ad (200 + i) = (qs i).1 := fun i hi => by
    rw [had]
    show (if _ then _ else _) = _
    rw [if_neg (by omega), if_neg (by omega), if_neg (by omega), if_neg (by omega), if_neg (by omega), if_neg (by omega), if_neg (by omega), Nat.add_sub_cancel_left]
  have e2 : ∀ i, i < 48 → ad (300 + i) = (qs i).2 := fun i hi => by
    rw [had]
    show (if _ then _ else _) = _
    rw [if_neg (by omega), if_neg (by omega), if_neg (by omega), if_neg (by omega), if_neg (by omega), if_neg (by omega), if_pos (by omega), Nat.add_sub_cancel_left]
  have e6 : ∀ j, sxI ad j = xs j := fun j => by
    unfold sxI
    rw [had]
    show Int32.ofNat (if _ then _ else _) = _
    rw [if_neg (by omega), if_neg (by omega), if_neg (by omega), if_neg (by omega), if_neg (by omega), if_pos (by omega), Nat.add_sub_cancel_left, i32_nat]
  have e3 : ad 500 = b := by rw [had]; rfl
  have e31 : ad 501 = L := by rw [had]; rfl
  have e33 : ad 603 = 0 := by rw [had]; rfl
  have e4 : ad 400 = f := by rw [had]; rfl
  have e5 : ad 401 = t := by rw [had]; rfl
  refine ⟨ad, e3, e33, RO.mk (nw_start hts) ⟨fun i hi => ?_, fun i j hi hj e => ?_⟩ (va_Zof (hts _ (tb_3 (List.mem_of_getElem? (i := 90) rfl))) (hts _ (tb_1 (List.mem_of_getElem? (i := 6) rfl))) (va_eqt (z := 1) (hn _ (f1_in 0 rfl))) hA) ?_ ?_ ?_ ?_ ?_ (fun q hq9 => ?_) ?_ ?_ (Or.inl e33)⟩
  · have k := (hq i hi).1
    rw [← e1 i hi, ← e2 i hi] at k
    exact k
  · have k := (hq i hi).1
    have k2 := (hq j hj).1
    have e' : (qs i).1 = (qs j).1 := by rw [← e1 i hi, ← e1 j hj]; exact e
    rw [e'] at k
    exact str_ne hi hj k.2.2.1 k2.2.2.1 k.2.2.2 k2.2.2.2
  · rw [e4]; exact hf
  · rw [e5]; exact va_Zof (hts _ (tb_4 (List.mem_of_getElem? (i := 73) rfl))) (hts _ (tb_1 (List.mem_of_getElem? (i := 0) rfl))) hkt hA
  · rw [e5]; exact hkT.to (fun j hj => by show Value.ref _ = Value.ref _; rw [show 236 + j = 200 + (36 + j) by omega, e1 (36 + j) (by omega)])
  · have k := (hq 28 (by decide)).2
    rw [← e1 28 (by decide)] at k
    exact vk_R.of (hts _ (tb_3 (List.mem_of_getElem? (i := 80) rfl))) k
  · have k := (hq 29 (by decide)).2
    rw [← e1 29 (by decide)] at k
    exact vk_R.of (hts _ (tb_5 (List.mem_of_getElem? (i := 170) rfl))) k
  · simp only [lawK, List.mem_cons, List.not_mem_nil, or_false] at hq9
    rcases hq9 with rfl | rfl | rfl | rfl | rfl | rfl | rfl | rfl | rfl | rfl | rfl | rfl | rfl | rfl | rfl | rfl | rfl | rfl | rfl | rfl | rfl | rfl | rfl | rfl | rfl | rfl | rfl | rfl | rfl | rfl | rfl | rfl | rfl | rfl
    · have k := (hq 0 (by decide)).2
      rw [← e1 0 (by decide)] at k
      exact vk_R.of (hts _ (tb_4 (List.mem_of_getElem? (i := 77) rfl))) k
    · have k := (hq 1 (by decide)).2
      rw [← e1 1 (by decide)] at k
      exact vk_R.of (hts _ (tb_4 (List.mem_of_getElem? (i := 203) rfl))) k
    · have k := (hq 2 (by decide)).2
      rw [← e1 2 (by decide)] at k
      exact vk_R.of (hts _ (tb_4 (List.mem_of_getElem? (i := 204) rfl))) k
    · have k := (hq 3 (by decide)).2
      rw [← e1 3 (by decide)] at k
      exact vk_R.of (hts _ (tb_4 (List.mem_of_getElem? (i := 211) rfl))) k
    · have k := (hq 4 (by decide)).2
      rw [← e1 4 (by decide)] at k
      exact vk_R.of (hts _ (tb_5 (List.mem_of_getElem? (i := 53) rfl))) k
    · have k := (hq 5 (by decide)).2
      rw [← e1 5 (by decide)] at k
      exact vk_R.of (hts _ (tb_5 (List.mem_of_getElem? (i := 56) rfl))) k
    · have k := (hq 6 (by decide)).2
      rw [← e1 6 (by decide)] at k
      exact vk_R.of (hts _ (tb_5 (List.mem_of_getElem? (i := 57) rfl))) k
    · have k := (hq 7 (by decide)).2
      rw [← e1 7 (by decide)] at k
      exact vk_R.of (hts _ (tb_5 (List.mem_of_getElem? (i := 58) rfl))) k
    · have k := (hq 8 (by decide)).2
      rw [← e1 8 (by decide)] at k
      exact vk_R.of (hts _ (tb_5 (List.mem_of_getElem? (i := 59) rfl))) k
    · have k := (hq 9 (by decide)).2
      rw [← e1 9 (by decide)] at k
      exact vk_R.of (hts _ (tb_5 (List.mem_of_getElem? (i := 60) rfl))) k
    · have k := (hq 10 (by decide)).2
      rw [← e1 10 (by decide)] at k
      exact vk_R.of (hts _ (tb_5 (List.mem_of_getElem? (i := 64) rfl))) k
    · have k := (hq 11 (by decide)).2
      rw [← e1 11 (by decide)] at k
      exact vk_R.of (hts _ (tb_5 (List.mem_of_getElem? (i := 65) rfl))) k
    · have k := (hq 12 (by decide)).2
      rw [← e1 12 (by decide)] at k
      exact vk_R.of (hts _ (tb_5 (List.mem_of_getElem? (i := 66) rfl))) k
    · have k := (hq 13 (by decide)).2
      rw [← e1 13 (by decide)] at k
      exact vk_R.of (hts _ (tb_5 (List.mem_of_getElem? (i := 67) rfl))) k
    · have k := (hq 14 (by decide)).2
      rw [← e1 14 (by decide)] at k
      exact vk_R.of (hts _ (tb_5 (List.mem_of_getElem? (i := 68) rfl))) k
    · have k := (hq 15 (by decide)).2
      rw [← e1 15 (by decide)] at k
      exact vk_R.of (hts _ (tb_5 (List.mem_of_getElem? (i := 69) rfl))) k
    · have k := (hq 16 (by decide)).2
      rw [← e1 16 (by decide)] at k
      exact vk_R.of (hts _ (tb_5 (List.mem_of_getElem? (i := 73) rfl))) k
    · have k := (hq 17 (by decide)).2
      rw [← e1 17 (by decide)] at k
      exact vk_R.of (hts _ (tb_5 (List.mem_of_getElem? (i := 74) rfl))) k
    · have k := (hq 18 (by decide)).2
      rw [← e1 18 (by decide)] at k
      exact vk_R.of (hts _ (tb_5 (List.mem_of_getElem? (i := 75) rfl))) k
    · have k := (hq 19 (by decide)).2
      rw [← e1 19 (by decide)] at k
      exact vk_R.of (hts _ (tb_5 (List.mem_of_getElem? (i := 76) rfl))) k
    · have k := (hq 20 (by decide)).2
      rw [← e1 20 (by decide)] at k
      exact vk_R.of (hts _ (tb_5 (List.mem_of_getElem? (i := 77) rfl))) k
    · have k := (hq 21 (by decide)).2
      rw [← e1 21 (by decide)] at k
      exact vk_R.of (hts _ (tb_5 (List.mem_of_getElem? (i := 81) rfl))) k
    · have k := (hq 22 (by decide)).2
      rw [← e1 22 (by decide)] at k
      exact vk_R.of (hts _ (tb_5 (List.mem_of_getElem? (i := 82) rfl))) k
    · have k := (hq 23 (by decide)).2
      rw [← e1 23 (by decide)] at k
      exact vk_R.of (hts _ (tb_5 (List.mem_of_getElem? (i := 83) rfl))) k
    · have k := (hq 24 (by decide)).2
      rw [← e1 24 (by decide)] at k
      exact vk_R.of (hts _ (tb_5 (List.mem_of_getElem? (i := 84) rfl))) k
    · have k := (hq 25 (by decide)).2
      rw [← e1 25 (by decide)] at k
      exact vk_R.of (hts _ (tb_5 (List.mem_of_getElem? (i := 85) rfl))) k
    · have k := (hq 26 (by decide)).2
      rw [← e1 26 (by decide)] at k
      exact vk_R.of (hts _ (tb_5 (List.mem_of_getElem? (i := 86) rfl))) k
    · have k := (hq 27 (by decide)).2
      rw [← e1 27 (by decide)] at k
      exact vk_R.of (hts _ (tb_5 (List.mem_of_getElem? (i := 87) rfl))) k
    · have k := (hq 30 (by decide)).2
      rw [← e1 30 (by decide)] at k
      exact vk_R.of (hts _ (tb_5 (List.mem_of_getElem? (i := 91) rfl))) k
    · have k := (hq 31 (by decide)).2
      rw [← e1 31 (by decide)] at k
      exact vk_R.of (hts _ (tb_5 (List.mem_of_getElem? (i := 95) rfl))) k
    · have k := (hq 32 (by decide)).2
      rw [← e1 32 (by decide)] at k
      exact vk_R.of (hts _ (tb_5 (List.mem_of_getElem? (i := 96) rfl))) k
    · have k := (hq 33 (by decide)).2
      rw [← e1 33 (by decide)] at k
      exact vk_R.of (hts _ (tb_5 (List.mem_of_getElem? (i := 97) rfl))) k
    · have k := (hq 34 (by decide)).2
      rw [← e1 34 (by decide)] at k
      exact vk_R.of (hts _ (tb_5 (List.mem_of_getElem? (i := 101) rfl))) k
    · have k := (hq 35 (by decide)).2
      rw [← e1 35 (by decide)] at k
      exact vk_R.of (hts _ (tb_5 (List.mem_of_getElem? (i := 102) rfl))) k
  · rw [e3, e31]
    obtain ⟨scr, x1, x2, x3, x4, x5⟩ := hX
    exact ⟨scr, x1, x2, x3, (by omega), (by rw [x4] <;> rfl), fun j hj => (by rw [x5 j hj]; show some (Value.int (xs j)) = some (Value.int (sxI ad j)); rw [e6]), fun q => absurd hbl (Nat.not_lt.mpr q)⟩
  · rw [e31]; exact hL
end ST
