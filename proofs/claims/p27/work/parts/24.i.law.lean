/-! Texts in the law: a builder at the end of the world -/
theorem pv_2 {base : va_W} {x y : Nat × va_E} {r : va_W} : [base.length, base.length + 1].map (fun i => (base ++ (x :: y :: r))[i]?) = [x, y].map some := by simp
theorem pv_r {base r : va_W} : (List.range base.length).map (fun i => (base ++ r)[i]?) = base.map some := by
  rw [← map_range_all base]
  refine List.map_congr_left (fun i hi => ?_)
  rw [List.getElem?_append_left (List.mem_range.mp hi)]
theorem pv_nd (n : Nat) : va_nd [n, n + 1] = true := nd_of _ (by simp)
theorem pv_dj (n : Nat) : ∀ i ∈ List.range n, i ∉ [n, n + 1] := fun i hi q => by
  have := List.mem_range.mp hi
  simp at q
  omega
theorem pv_0 {base : va_W} {x : Nat × va_E} {r : va_W} : (base ++ (x :: r))[base.length]? = some x := by simp
theorem gD_l {l tl : List Nat} {j : Nat} (h : j < l.length) : (l ++ tl).getD j 0 = l.getD j 0 := by
  rw [List.getD_eq_getElem?_getD, List.getElem?_append_left h, List.getD_eq_getElem?_getD]
theorem gD_r {l tl : List Nat} {j : Nat} : (l ++ tl).getD (l.length + j) 0 = tl.getD j 0 := by
  rw [List.getD_eq_getElem?_getD, List.getElem?_append_right (by omega), show l.length + j - l.length = j by omega, List.getD_eq_getElem?_getD]
/-- a builder holds the letters l -/
def SBt (l : List Nat) (m : Nat) (g : Nat → Int32) : Prop := l.length ≤ m ∧ m ≤ 4300 ∧ sb_Fit g ∧ ∀ j, j < l.length → g j = nI (l.getD j 0) ∧ l.getD j 0 < 128
theorem SBt.ap {cy : Nat → ClassId} {a m : Nat} {g : Nat → Int32} {ml : Int32} {l tl : List Nat} {r : Option Value} {w : va_W} (h : SBt l m g) (ht : ∀ j, j < tl.length → tl.getD j 0 < 128) (hn : l.length + tl.length ≤ 2100) (q : apQ cy a m l.length g ml tl r w) : r = some (.ref a) ∧ ∃ v' m' g', w = wB cy a v' m' g' ml (l ++ tl).length ∧ SBt (l ++ tl) m' g' := by
  obtain ⟨h1, h2, h3, h4⟩ := h
  obtain ⟨rfl, v', g', rfl, q1, q2, q3⟩ := q
  refine ⟨rfl, v', _, g', by rw [List.length_append], by rw [List.length_append]; exact sb_cap_ge _ _, ?_, q1, fun j hj => ?_⟩
  · unfold sb_cap
    split
    · omega
    · split <;> omega
  · rw [List.length_append] at hj
    rcases Nat.lt_or_ge j l.length with c | c
    · rw [gD_l c, q2 j c]
      exact h4 j c
    · obtain ⟨i, rfl⟩ : ∃ i, j = l.length + i := ⟨j - l.length, by omega⟩
      rw [gD_r, q3 i (by omega)]
      exact ⟨rfl, ht i (by omega)⟩
theorem SBt.nil : SBt [] 16 (fun _ => nI 0) := ⟨by decide, by decide, sb_fit0, fun j hj => absurd hj (Nat.not_lt_zero _)⟩
theorem SBt.lt {l : List Nat} {m : Nat} {g g' : Nat → Int32} (h : SBt l m g) (e : ∀ j, j < l.length → g' j = g j) : LT l g' := by
  obtain ⟨h1, h2, h3, h4⟩ := h
  exact ⟨by omega, fun j hj => by rw [e j hj]; exact h4 j hj⟩
section KLL
variable {cc : ByteArray} {nL d kc kn pc : Nat} {Γ : Cz} {lv : List (Option Value)} {st : List Value} {base : va_W} {Φ : State → Prop} {ad : Nat → Nat} {tx : TXo} {cy : Nat → ClassId} {a v m : Nat} {g : Nat → Int32} {ml : Int32} {l : List Nat}
/-- new StringBuilder() -/
theorem kl_new (hv : VM ad tx cy Γ) (h : Vk RL cc nL (d + 6) Γ) (hr : Rk Γ (kc + 2) (kn + 20)) (d0 : decode cc pc = .ok (.new 47, 3)) (d1 : decode cc (pc + 3) = .ok (.dup, 1)) (d2 : decode cc (pc + 4) = .ok (.invokespecial 49, 3)) (hcat : (st.map fun v => v.category).sum ≤ 6) (k : ∀ a v, CW Γ (kc + 2) (kn + 20) (pc + 7) lv (.ref a :: st) (base ++ wB cy a v 16 (fun _ => nI 0) 0 0) Φ) : CW Γ kc kn pc lv st base Φ := by
  refine k_new h (rk_le hr (by omega) (by omega)) nw_L_47 d0 (fun a => ?_)
  refine kw_dup h d1 rfl ?_
  refine km_callC (As := []) (c0 := 1) (n0 := 16) (wc := [(a, .inr (10, [.null, .int 0, .int 0, .int 0]))]) (wr := base) hv h [base.length] (List.range base.length) none (rk_le hr (by omega) (by omega)) mk_J4_init d2 ml_L_49 (Nat.le_of_ble_eq_true rfl) rfl (by rw [List.map_cons, List.sum_cons]; show 1 + _ ≤ 8; omega) (by simp) rfl pv_r (nd_range _) (fun i hi q => by
    have := List.mem_range.mp hi
    simp at q
    omega) ts_none kt_init4 (fun r w1 z => ?_)
  obtain ⟨rfl, v, rfl⟩ := z
  rw [show kc + 1 + 1 = kc + 2 by omega, show kn + 4 + 16 = kn + 20 by omega, show pc + 4 + 3 = pc + 7 by omega]
  exact k a v
/-- append, whatever the text comes from -/
theorem kl_app (hv : VM ad tx cy Γ) (h : Vk RL cc nL (d + 6) Γ) (hr : Rk Γ (kc + 1) (kn + 4300)) {r0 : va_W} {b y : Nat} {tl : List Nat} (hT : TSrc Γ (base ++ (wB cy a v m g ml l.length ++ r0)) (wB cy a v m g ml l.length) (some (b, y, tl))) (hd : decode cc pc = .ok (.invokevirtual 54, 3)) (hS : SBt l m g) (ht : ∀ j, j < tl.length → tl.getD j 0 < 128) (hn : l.length + tl.length ≤ 2100) (hcat : (st.map fun v => v.category).sum ≤ 8)
    (k : ∀ v' m' g', SBt (l ++ tl) m' g' → CW Γ (kc + 1) (kn + 4300) (pc + 3) lv (.ref a :: st) (base ++ wB cy a v' m' g' ml (l ++ tl).length) Φ) : CW Γ kc kn pc lv (.ref b :: .ref a :: st) (base ++ (wB cy a v m g ml l.length ++ r0)) Φ := by
  refine km_callV (As := [.ref b]) (c0 := 1) (n0 := 4300) (wc := wB cy a v m g ml l.length) (wr := base) hv h [base.length, base.length + 1] (List.range base.length) (some (b, y, tl)) hr mi_J4_append_15ec4 (by decide) hd ml_L_54 (Or.inl ⟨base.length, 10, _, (RJ4, TJ4, 4), rfl, rfl, pv_0⟩) (Nat.le_of_ble_eq_true rfl) rfl hcat pv_2 (pv_nd _) pv_r (nd_range _) (pv_dj _) hT (kt_append4 hS.1 hS.2.1 hS.2.2.1 hn ht) (fun r w1 z => ?_)
  obtain ⟨rfl, v', m', g', rfl, hS'⟩ := hS.ap ht hn z
  exact k v' m' g' hS'
/-- a text of the class file -/
theorem kl_appR (hv : VM ad tx cy Γ) (h : Vk RL cc nL (d + 6) Γ) (hr : Rk Γ (kc + 1) (kn + 4300)) (i : Nat) (hi : i < 48) {b : Nat} (hb : b = ad (200 + i)) (hd : decode cc pc = .ok (.invokevirtual 54, 3)) (hS : SBt l m g) (hn : l.length + (kS i).length ≤ 2100) (hcat : (st.map fun v => v.category).sum ≤ 8)
    (k : ∀ v' m' g', SBt (l ++ kS i) m' g' → CW Γ (kc + 1) (kn + 4300) (pc + 3) lv (.ref a :: st) (base ++ wB cy a v' m' g' ml (l ++ kS i).length) Φ) : CW Γ kc kn pc lv (.ref b :: .ref a :: st) (base ++ wB cy a v m g ml l.length) Φ := by
  subst hb
  have k1 := kl_app (v := v) (r0 := []) (tl := kS i) (b := ad (200 + i)) (y := ad (300 + i)) hv h hr (ts_ro hv.2.1 hi) hd hS (fun j hj => ((kS_ok i hi).2.2 j hj).2) hn hcat k
  exact k1
/-- a text made last -/
theorem kl_appT (hv : VM ad tx cy Γ) (h : Vk RL cc nL (d + 6) Γ) (hr : Rk Γ (kc + 1) (kn + 4300)) {b y : Nat} {tl : List Nat} {gt : Nat → Int32} (hlt : LT tl gt) (hd : decode cc pc = .ok (.invokevirtual 54, 3)) (hS : SBt l m g) (hn : l.length + tl.length ≤ 2100) (hcat : (st.map fun v => v.category).sum ≤ 8)
    (k : ∀ v' m' g', SBt (l ++ tl) m' g' → CW Γ (kc + 1) (kn + 4300) (pc + 3) lv (.ref a :: st) (base ++ wB cy a v' m' g' ml (l ++ tl).length) Φ) : CW Γ kc kn pc lv (.ref b :: .ref a :: st) (base ++ (wB cy a v m g ml l.length ++ wT cy b y tl gt)) Φ :=
  kl_app hv h hr (ts_w (b := b) (y := y) (u := .int 0) (v := .int 0) (l := tl) (g := gt) h hv.1 [base.length, base.length + 1] pv_2 (base.length + 2) (base.length + 3) (by rw [List.getElem?_append_right (by omega), Nat.add_sub_cancel_left]; rfl) (by rw [List.getElem?_append_right (by omega), Nat.add_sub_cancel_left]; rfl) hlt (by simp) (by simp)) hd hS (fun j hj => (hlt.2 j hj).2) hn hcat k
/-- a text that stands first in the world -/
theorem kl_appO (hv : VM ad tx cy Γ) (h : Vk RL cc nL (d + 6) Γ) (hr : Rk Γ (kc + 1) (kn + 4300)) {b y : Nat} {tl : List Nat} {gt : Nat → Int32} {rest : va_W} (hlt : LT tl gt) (hd : decode cc pc = .ok (.invokevirtual 54, 3)) (hS : SBt l m g) (hn : l.length + tl.length ≤ 2100) (hcat : (st.map fun v => v.category).sum ≤ 8)
    (k : ∀ v' m' g', SBt (l ++ tl) m' g' → CW Γ (kc + 1) (kn + 4300) (pc + 3) lv (.ref a :: st) ((wT cy b y tl gt ++ rest) ++ wB cy a v' m' g' ml (l ++ tl).length) Φ) : CW Γ kc kn pc lv (.ref b :: .ref a :: st) ((wT cy b y tl gt ++ rest) ++ wB cy a v m g ml l.length) Φ := by
  have k1 := kl_app (v := v) (r0 := []) (base := wT cy b y tl gt ++ rest) hv h hr (ts_w (b := b) (y := y) (u := .int 0) (v := .int 0) (l := tl) (g := gt) h hv.1 [(wT cy b y tl gt ++ rest).length, (wT cy b y tl gt ++ rest).length + 1] pv_2 0 1 rfl rfl hlt (by simp) (by simp)) hd hS (fun j hj => (hlt.2 j hj).2) hn hcat k
  exact k1
/-- toString: what else is kept, wr -/
theorem kl_str (hv : VM ad tx cy Γ) (h : Vk RL cc nL (d + 6) Γ) (hr : Rk Γ (kc + 2) (kn + 2104)) {wr : va_W} (isR : List Nat) (hR : isR.map (fun i => base[i]?) = wr.map some) (hnd : va_nd isR = true) (hd : decode cc pc = .ok (.invokevirtual 58, 3)) (hS : SBt l m g) (hn : l.length ≤ 2100) (hcat : (st.map fun v => v.category).sum ≤ 8)
    (k : ∀ b y g', LT l g' → CW Γ (kc + 2) (kn + 2104) (pc + 3) lv (.ref b :: st) (wr ++ wT cy b y l g') Φ) : CW Γ kc kn pc lv (.ref a :: st) (base ++ wB cy a v m g ml l.length) Φ := by
  have hlt : ∀ i ∈ isR, i < base.length := fun i hi => by
    obtain ⟨j, hj⟩ := List.getElem?_of_mem hi
    have e : (isR.map (fun i => base[i]?))[j]? = (wr.map some)[j]? := by rw [hR]
    rw [List.getElem?_map, hj, List.getElem?_map] at e
    cases hw : wr[j]? with
    | none => rw [hw] at e; cases e
    | some x =>
      rw [hw] at e
      exact (List.getElem?_eq_some_iff.mp (Option.some.inj e)).1
  refine km_callV (As := []) (c0 := 2) (n0 := 2104) (wc := wB cy a v m g ml l.length) (wr := wr) hv h [base.length, base.length + 1] isR none hr mi_J4_toString_0e30d (by decide) hd ml_L_58 (Or.inl ⟨base.length, 10, _, (RJ4, TJ4, 4), rfl, rfl, pv_0⟩) (Nat.le_of_ble_eq_true rfl) rfl hcat pv_2 (pv_nd _) ?_ hnd ?_ ts_none (kt_toString hS.1 (by have := hS.2.1; omega) hn hS.2.2.1) (fun r w1 z => ?_)
  · rw [← hR]
    refine List.map_congr_left (fun i hi => ?_)
    rw [List.getElem?_append_left (hlt i hi)]
  · intro i hi q
    have := hlt i hi
    simp at q
    omega
  · obtain ⟨b, y, g', rfl, rfl, z1, z2⟩ := z
    exact k b y g' (hS.lt z2)
end KLL
/-! num -/
theorem kS3 : ∀ i, i < 10 → (kS 3).getD i 0 = 48 + i := by decide +kernel
theorem kS3_len : (kS 3).length = 10 := by decide +kernel
theorem lk41 : (41, 3) ∈ lawK := by decide
theorem kl_own {ad : Nat → Nat} {tx : TXo} {cy : Nat → ClassId} {d kc kn v : Nat} {Γ : Cz} {Φ : State → Prop} (hv : VM ad tx cy Γ) (h : Vk RL cL_num 2 (d + 6) Γ) (hr : Rk Γ (kc + 2) (kn + 5)) (hlt : v < 2 ^ 31) (k : ∀ b y g, LT [48 + v % 10] g → CW Γ (kc + 2) (kn + 5) 16 [some (.int (nI v)), some (.ref b)] [] (wT cy b y [48 + v % 10] g) Φ) : CW Γ kc kn 0 [some (.int (nI v)), none] [] [] Φ := by
  have h9 : v % 10 < 10 := Nat.mod_lt _ (by decide)
  refine kw_ldcL hv.2.1 h lk41 dL_num_0 ?_
  refine kw_ilod h 0 dL_num_2 rfl rfl ?_
  refine kw_bp h dL_num_3 (v := nI 10) rfl ?_
  refine kw_irem h dL_num_5 (by decide) ?_
  rw [pk_rem hlt (by decide) (by decide)]
  refine kw_ilod h 0 dL_num_6 rfl rfl ?_
  refine kw_bp h dL_num_7 (v := nI 10) rfl ?_
  refine kw_irem h dL_num_9 (by decide) ?_
  rw [pk_rem hlt (by decide) (by decide)]
  refine kw_ic h dL_num_10 (v := nI 1) rfl ?_
  refine kw_iadd h dL_num_11 ?_
  rw [nI_add]
  refine km_callV (As := [.int (nI (v % 10)), .int (nI (v % 10 + 1))]) (b := ad (200 + 3)) (c0 := 2) (n0 := 5) (wc := []) (wr := []) hv h [] [] (some (ad (200 + 3), ad (300 + 3), kS 3)) hr mi_J0_substring_37a41 (by decide) dL_num_12 ml_L_43 (Or.inr (Or.inr ⟨3, by decide, rfl, rfl⟩)) (Nat.le_of_ble_eq_true rfl) rfl (Nat.le_of_ble_eq_true rfl) rfl rfl rfl rfl (fun _ z => (List.not_mem_nil z).elim) (ts_ro hv.2.1 (by decide)) (kt_substring (by rw [kS3_len]; omega) (by rw [kS3_len]; decide) (by rw [kS3_len]; decide) (fun j hj => ((kS_ok 3 (by decide)).2.2 j hj).2)) (fun r w1 z => ?_)
  obtain ⟨b, y, g, rfl, rfl, z1⟩ := z
  rw [kS3 _ h9] at z1 ⊢
  show CW Γ (kc + 2) (kn + 5) 15 _ (.ref b :: []) _ _
  refine kw_asto h 1 dL_num_15 rfl (by decide) rfl ?_
  exact k b y g z1
theorem dgl_0 {f v : Nat} (h : v < 10) : dgl f v = [48 + v % 10] := by
  rw [Nat.mod_eq_of_lt h]
  cases f with
  | zero => rw [dgl, Nat.mod_eq_of_lt h]
  | succ f => rw [dgl, if_pos h]
set_option maxHeartbeats 1000000 in
theorem kt_num {ad : Nat → Nat} {tx : TXo} {cy : Nat → ClassId} {d : Nat} : ∀ (f v D : Nat), D = f + d + 7 → f ≤ 4 → v < 10 ^ (f + 1) → KM cy ad tx yL_num cL_num 2 (some (.object "java/lang/String")) D (10 * (f + 1)) (11000 * (f + 1)) [.int (nI v)] [] (fun r w => ∃ b y g, r = some (.ref b) ∧ w = wT cy b y (dgl f v) g ∧ LT (dgl f v) g) := by
  intro f
  induction f with
  | zero =>
    intro v D hD hf hlt
    have e : D = (d + 1) + 6 := by omega
    subst e
    intro Γ hv h hr _ hR
    have hv10 : v < 10 := by simpa using hlt
    rw [dgl_0 hv10]
    refine kl_own hv h (rk_le hR (by omega) (by omega)) (by omega) (fun b y g hg => ?_)
    refine kw_ilod h 0 dL_num_16 rfl rfl ?_
    refine kw_bp h dL_num_17 (v := nI 10) rfl ?_
    refine kw_icmp_ge h 26 dL_num_19 rfl (fun c => absurd ((nI_leI (by decide) (by omega)).mp c) (by omega)) (fun _ => ?_)
    refine kw_alod h 1 dL_num_22 rfl rfl ?_
    refine kw_goto h 50 dL_num_23 rfl ?_
    refine k_pad (kc' := 10 * (0 + 1)) (kn' := 11000 * (0 + 1)) (by omega) (by omega) ?_
    exact km_aret h hr (Or.inl ⟨_, rfl⟩) dL_num_50 ⟨b, y, g, rfl, rfl, hg⟩
  | succ f ih =>
    intro v D hD hf hlt
    have e : D = (f + d + 2) + 6 := by omega
    subst e
    intro Γ hv h hr _ hR
    have hp : 10 ^ (f + 1 + 1) ≤ 10 ^ 6 := Nat.pow_le_pow_right (by decide) (by omega)
    have hv31 : v < 2 ^ 31 := by omega
    refine kl_own hv h (rk_le hR (by omega) (by omega)) hv31 (fun b y g hg => ?_)
    refine kw_ilod h 0 dL_num_16 rfl rfl ?_
    refine kw_bp h dL_num_17 (v := nI 10) rfl ?_
    refine kw_icmp_ge h 26 dL_num_19 rfl (fun c => ?_) (fun c => ?_)
    · have c := (nI_leI (by decide) hv31).mp c
      have hd10 : v / 10 < 10 ^ (f + 1) := by rw [Nat.pow_succ] at hlt; exact Nat.div_lt_of_lt_mul (by omega)
      refine kl_new hv h (rk_le hR (by omega) (by omega)) dL_num_26 dL_num_29 dL_num_30 (Nat.le_of_ble_eq_true rfl) (fun a w => ?_)
      refine kw_ilod h 0 dL_num_33 rfl rfl ?_
      refine kw_bp h dL_num_34 (v := nI 10) rfl ?_
      refine kw_idiv h dL_num_36 (by decide) ?_
      rw [pk_div hv31 (by decide) (by decide)]
      refine km_callS (d := f + d + 7) (As := [.int (nI (v / 10))]) (c0 := 10 * (f + 1)) (n0 := 11000 * (f + 1)) (wc := []) (wr := wT cy b y [48 + v % 10] g ++ wB cy a w 16 (fun _ => nI 0) 0 0) hv h [] [0, 1, 2, 3] tx (rk_le hR (by omega) (by omega)) mi_L_num (by decide) dL_num_37 ml_L_50 (Nat.le_of_ble_eq_true rfl) rfl (Nat.le_of_ble_eq_true rfl) rfl rfl rfl rfl (fun _ _ z => (List.not_mem_nil z).elim) (ts_same hv.2.2.2) (ih (v / 10) (f + d + 7) rfl (by omega) hd10) (fun r w1 z => ?_)
      obtain ⟨b2, y2, g2, rfl, rfl, z2⟩ := z
      have hl := dgl_len f (v / 10)
      refine kl_appT (base := wT cy b y [48 + v % 10] g) (l := []) hv h (rk_le hR (by omega) (by omega)) z2 dL_num_40 SBt.nil (by show 0 + _ ≤ 2100; omega) (Nat.le_of_ble_eq_true rfl) (fun v1 m1 g1 hS1 => ?_)
      rw [List.nil_append] at hS1 ⊢
      refine kw_alod h 1 dL_num_43 rfl rfl ?_
      refine kl_appO (rest := []) hv h (rk_le hR (by omega) (by omega)) hg dL_num_44 hS1 (by simp; omega) (Nat.le_of_ble_eq_true rfl) (fun v2 m2 g2 hS2 => ?_)
      refine kl_str (base := wT cy b y [48 + v % 10] g) (wr := []) hv h (rk_le hR (by omega) (by omega)) [] rfl rfl dL_num_47 hS2 (by rw [List.length_append]; simp; omega) (Nat.le_of_ble_eq_true rfl) (fun b3 y3 g3 h3 => ?_)
      refine k_pad (kc' := 10 * (f + 1 + 1)) (kn' := 11000 * (f + 1 + 1)) (by omega) (by omega) ?_
      have ed : dgl (f + 1) v = dgl f (v / 10) ++ [48 + v % 10] := by rw [dgl, if_neg (by omega)]
      exact km_aret h hr (Or.inl ⟨_, rfl⟩) dL_num_50 ⟨b3, y3, g3, rfl, by rw [ed]; rfl, by rw [ed]; exact h3⟩
    · have hv10 : v < 10 := by
        rcases Nat.lt_or_ge v 10 with q | q
        · exact q
        · exact absurd ((nI_leI (by decide) hv31).mpr q) c
      refine kw_alod h 1 dL_num_22 rfl rfl ?_
      refine kw_goto h 50 dL_num_23 rfl ?_
      refine k_pad (kc' := 10 * (f + 1 + 1)) (kn' := 11000 * (f + 1 + 1)) (by omega) (by omega) ?_
      exact km_aret h hr (Or.inl ⟨_, rfl⟩) dL_num_50 ⟨b, y, g, rfl, by rw [dgl_0 hv10], by rw [dgl_0 hv10]; exact hg⟩
