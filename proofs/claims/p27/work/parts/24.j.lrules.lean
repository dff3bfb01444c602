/-! The law's list: rules that keep a bound -/
theorem rs_cons {v : Value} {st : List Value} : (some v : Option Value).toList ++ st = v :: st := rfl
/-- the text so far: in the world, or empty from the class file -/
def OwnT (Γ : Cz) (base : va_W) (b : Nat) (l : List Nat) : Prop := (∀ j, j < l.length → l.getD j 0 < 128) ∧ ∃ y, ∀ x z : Nat × va_E, TSrc Γ (base ++ [x, z]) [x, z] (some (b, y, l))
theorem own_ro {Γ : Cz} {ad : Nat → Nat} (h : Vs ad Γ) {base : va_W} : OwnT Γ base (ad (200 + 0)) [] :=
  ⟨fun j hj => absurd hj (Nat.not_lt_zero _), ad (300 + 0), fun x z => by
    have := ts_ro (ws := base ++ [x, z]) (wc := [x, z]) h (i := 0) (by decide)
    rw [show kS 0 = [] by decide +kernel] at this
    exact this⟩
theorem own_w {Γ : Cz} {own : String} {cc : ByteArray} {nL d : Nat} (h : Vk own cc nL d Γ) {cy : Nat → ClassId} (hcy : cyOf Γ = cy) {b y : Nat} {l : List Nat} {g : Nat → Int32} {rest : va_W} (hlt : LT l g) : OwnT Γ (wT cy b y l g ++ rest) b l :=
  ⟨fun j hj => (hlt.2 j hj).2, y, fun x z => ts_w (b := b) (y := y) (u := .int 0) (v := .int 0) (l := l) (g := g) h hcy [(wT cy b y l g ++ rest).length, (wT cy b y l g ++ rest).length + 1] pv_2 0 1 rfl rfl hlt (by simp) (by simp)⟩
section KLB
variable {cc : ByteArray} {nL d kc kn pc : Nat} {Γ : Cz} {lv : List (Option Value)} {st : List Value} {base ws : va_W} {Φ : State → Prop} {ad : Nat → Nat} {tx : TXo} {cy : Nat → ClassId} {a v m : Nat} {g : Nat → Int32} {l : List Nat} {N : Nat}
theorem kl_aO (hv : VM ad tx cy Γ) (h : Vk RL cc nL (d + 6) Γ) (hr : Rk Γ (kc + 1) (kn + 4300)) {b : Nat} (hO : OwnT Γ base b l) (hN : l.length ≤ N) (hN2 : N ≤ 2100) (hd : decode cc pc = .ok (.invokevirtual 54, 3)) (hcat : (st.map fun v => v.category).sum ≤ 8)
    (k : ∀ v' m' g', SBt l m' g' → l.length ≤ N → CW Γ (kc + 1) (kn + 4300) (pc + 3) lv (.ref a :: st) (base ++ wB cy a v' m' g' 0 l.length) Φ) : CW Γ kc kn pc lv (.ref b :: .ref a :: st) (base ++ wB cy a v 16 (fun _ => nI 0) 0 0) Φ := by
  obtain ⟨h1, y, h2⟩ := hO
  have k1 := kl_app (v := v) (r0 := []) (base := base) (l := []) (m := 16) (g := fun _ => nI 0) (ml := 0) (tl := l) (y := y) (b := b) hv h hr (h2 _ _) hd SBt.nil h1 (by show 0 + _ ≤ 2100; omega) hcat (fun v' m' g' hS => by
    rw [List.nil_append] at hS ⊢
    exact k v' m' g' hS hN)
  exact k1
theorem kl_aR (hv : VM ad tx cy Γ) (h : Vk RL cc nL (d + 6) Γ) (hr : Rk Γ (kc + 1) (kn + 4300)) (i : Nat) (hi : i < 48) {b : Nat} (hb : b = ad (200 + i)) (hs : (kS i).length ≤ 16) (hd : decode cc pc = .ok (.invokevirtual 54, 3)) (hS : SBt l m g) (hN : l.length ≤ N) (hN2 : N + 16 ≤ 2100) (hcat : (st.map fun v => v.category).sum ≤ 8)
    (k : ∀ v' m' g', SBt (l ++ kS i) m' g' → (l ++ kS i).length ≤ N + 16 → CW Γ (kc + 1) (kn + 4300) (pc + 3) lv (.ref a :: st) (base ++ wB cy a v' m' g' 0 (l ++ kS i).length) Φ) : CW Γ kc kn pc lv (.ref b :: .ref a :: st) (base ++ wB cy a v m g 0 l.length) Φ :=
  kl_appR hv h hr i hi hb hd hS (by omega) hcat (fun v' m' g' hS' => k v' m' g' hS' (by rw [List.length_append]; omega))
theorem kl_aT (hv : VM ad tx cy Γ) (h : Vk RL cc nL (d + 6) Γ) (hr : Rk Γ (kc + 1) (kn + 4300)) {b y w : Nat} {gt : Nat → Int32} (hlt : LT (dgl 3 w) gt) (hd : decode cc pc = .ok (.invokevirtual 54, 3)) (hS : SBt l m g) (hN : l.length ≤ N) (hN2 : N + 16 ≤ 2100) (hcat : (st.map fun v => v.category).sum ≤ 8)
    (k : ∀ v' m' g', SBt (l ++ dgl 3 w) m' g' → (l ++ dgl 3 w).length ≤ N + 16 → CW Γ (kc + 1) (kn + 4300) (pc + 3) lv (.ref a :: st) (base ++ wB cy a v' m' g' 0 (l ++ dgl 3 w).length) Φ) : CW Γ kc kn pc lv (.ref b :: .ref a :: st) ((base ++ wB cy a v m g 0 l.length) ++ wT cy b y (dgl 3 w) gt) Φ := by
  have hl := dgl_len 3 w
  rw [List.append_assoc]
  exact kl_appT hv h hr hlt hd hS (by omega) hcat (fun v' m' g' hS' => k v' m' g' hS' (by rw [List.length_append]; omega))
theorem kl_num (hv : VM ad tx cy Γ) (h : Vk RL cc nL (d + 11) Γ) (hr : Rk Γ (kc + 40) (kn + 44000)) {w : Nat} (hd : decode cc pc = .ok (.invokestatic 50, 3)) (hw : w < 10000) (hcat : (st.map fun v => v.category).sum ≤ 8) (k : ∀ b y g, LT (dgl 3 w) g → CW Γ (kc + 40) (kn + 44000) (pc + 3) lv (.ref b :: st) (ws ++ wT cy b y (dgl 3 w) g) Φ) : CW Γ kc kn pc lv (.int (nI w) :: st) ws Φ :=
  km_callS (d := d + 10) (As := [.int (nI w)]) (c0 := 10 * (3 + 1)) (n0 := 11000 * (3 + 1)) (wc := []) (wr := ws) hv h [] (List.range ws.length) none hr mi_L_num (by decide) hd ml_L_50 (Nat.le_of_ble_eq_true rfl) rfl hcat rfl rfl (map_range_all ws) (nd_range _) (fun _ _ q => (List.not_mem_nil q).elim) ts_none (kt_num (d := d) 3 w (d + 10) (by omega) (by decide) hw) (fun r w1 z => by
    obtain ⟨b, y, g, rfl, rfl, z1⟩ := z
    exact k b y g z1)
end KLB
/-! arrays of texts -/
def KA (Γ : Cz) (cA : ClassId) : Prop := match Γ with
  | (_, _, _, _, s, _, _, _, _, _, dC, dI, cy, _) => va_K (dC, dI) vwCl (tysO cy ++ [(cA, .object "java/lang/String")]) s
section KAR
variable {own : String} {cc : ByteArray} {nL d kc kn pc : Nat} {Γ : Cz} {lv : List (Option Value)} {st : List Value} {ws : va_W} {Φ : State → Prop} {ad : Nat → Nat} {tx : TXo} {cy : Nat → ClassId}
abbrev eR (cA : ClassId) (n : Nat) (f : Nat → Option Nat) : va_E := .inl (cA, n, .inr (.inr (.inr (.inr f))))
theorem kw_newq (hv : VM ad tx cy Γ) (h : Vk own cc nL d Γ) {idx n : Nat} (hr : Rk Γ (kc + 1) (kn + n)) (hl0 : Cond.classLink own idx "java/lang/String" ∈ bigW) (hn : n < 1000) (hd : decode cc pc = .ok (.anewarray idx, 3)) (k : ∀ q cA, KA Γ cA → CW Γ (kc + 1) (kn + n) (pc + 3) lv (.ref q :: st) (ws ++ [(q, eR cA n (fun _ => none))]) Φ) : CW Γ kc kn pc lv (.int (nI n) :: st) ws Φ := by
  obtain ⟨p, l, e, R, s, m, args, below, meth, c, dC, dI, cy1, A⟩ := Γ
  obtain ⟨hx, hb, hml, hown, hts, hlk, hK, hA, hf, hlo⟩ := h
  have hNc : NWc s := hv.2.2.2.2
  intro H locs ls hP hD hS hl
  exact va_newq hx hb hown (hts _ hl0) hNc.2.1 hK hP hD hS hA (nI_pos (by omega)) (nI_clamp (by omega)) (by omega) hr.1 hr.2 hd (fun q cA H1 hK1 hP1 hD1 hS1 => k q cA hK1 H1 locs ls hP1 hD1 hS1 hl)
theorem kw_aastR (hv : VM ad tx cy Γ) (h : Vk own cc nL d Γ) {cA : ClassId} (hKA : KA Γ cA) (q0 j i : Nat) (hi : i < 48) {a n b : Nat} {f : Nat → Option Nat} {x : Int32} (he : ws[q0]? = some (a, eR cA n f)) (hb0 : b = ad (200 + i)) (hj : x = nI j) (hn : j < n) (hn2 : n < 1000) (hd : decode cc pc = .ok (.aastore, 1)) (k : CW Γ kc kn (pc + 1) lv st (ws.set q0 (a, eR cA n (va_up f j (some b)))) Φ) : CW Γ kc kn pc lv (.ref b :: .int x :: .ref a :: st) ws Φ := by
  subst hj
  subst hb0
  obtain ⟨p, l, e, R, s, m, args, below, meth, c, dC, dI, cy1, A⟩ := Γ
  obtain ⟨hx, hb, hml, hown, hts, hlk, hK, hA, hf, hlo⟩ := h
  have hRO : RO ad A s s.heap := hv.2.1
  intro H locs ls hP hD hS hl
  have hAny : va_Any "java/lang/String" s H (ad (200 + i)) := by
    obtain ⟨cell, r1, r2, r3, -⟩ := (hRO.str.1 i hi).1.kept hS.2.1
    have hC := (hK.1 9 (RJ0, TJ0, 4) rfl).2
    have ec : cell.cls = dC 9 := Option.some.inj (r3.symm.trans hC.1)
    obtain ⟨kC, hkC, hkk⟩ := id hC.2
    refine ⟨cell, r1, r2, ⟨kC, by rw [ec]; exact hkC⟩, fun comp hc => ?_⟩
    have : comp = dC 9 := Option.some.inj (hc.symm.trans hC.1)
    rw [this, ec]
    exact va_assign hC
  have hKB : va_K (dC, dI) vwCl (tysO cy1 ++ [(cA, .object "java/lang/String")]) s := hKA
  refine va_astqM (D := (dC, dI)) (tys := tysO cy1 ++ [(cA, .object "java/lang/String")]) (q0 := q0) (t0 := 5) hx hb hKB hP hD hS he rfl hAny (vp_in_nI hn (by omega)) hd (fun H1 locs1 hP1 hD1 hS1 => ?_)
  rw [nI_clamp (by omega)] at hP1 hD1
  exact k H1 locs1 ls hP1 hD1 hS1 hl
theorem kw_aldS (h : Vk own cc nL d Γ) {cA : ClassId} (hKA : KA Γ cA) (q0 j : Nat) {a n b : Nat} {f : Nat → Option Nat} {x : Int32} (he : ws[q0]? = some (a, eR cA n f)) (hfj : f j = some b) (hj : x = nI j) (hn : j < n) (hn2 : n < 1000) (hd : decode cc pc = .ok (.aaload, 1)) (k : CW Γ kc kn (pc + 1) lv (.ref b :: st) ws Φ) : CW Γ kc kn pc lv (.int x :: .ref a :: st) ws Φ := by
  subst hj
  obtain ⟨p, l, e, R, s, m, args, below, meth, c, dC, dI, cy1, A⟩ := Γ
  obtain ⟨hx, hb, hml, hown, hts, hlk, hK, hA, hf, hlo⟩ := h
  intro H locs ls hP hD hS hl
  have hKB : va_K (dC, dI) vwCl (tysO cy1 ++ [(cA, .object "java/lang/String")]) s := hKA
  refine va_aldq (D := (dC, dI)) (tys := tysO cy1 ++ [(cA, .object "java/lang/String")]) (q0 := q0) (t0 := 5) hx hb hKB hP he rfl (vp_in_nI hn (by omega)) hd ?_
  rw [nI_clamp (by omega), hfj]
  exact k H locs ls hP hD hS hl
end KAR
