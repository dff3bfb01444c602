/-! The law: its beginning, its loop, its end -/
set_option maxRecDepth 100000 in
set_option maxHeartbeats 4000000 in
theorem law_go {p : Program} {l : Launch} {e : Env} {s : State} {m : MethodId} {below : List Frame} {meth : Method} {c : Code} {dC : Nat → ClassId} {dI : Nat → Nat → Nat} {cy : Nat → ClassId} {ad0 ad : Nat → Nat} {I : MI} {J : MJ} {P : MP} {kc kn : Nat} (hkc : kc ≤ 600086) (hkn : kn ≤ 7301441) (hx : p.tables.exec = Jvm.exec) (hb : c.code = cL_law) (hml : c.maxLocals = 13) (hr : meth.sig.returnType = some .boolean) (hown : s.vm.findClass RL = some m.cls) (hts : ∀ w ∈ bigW, w.before #[Value.ref (ad0 500)] s = true) (hlk : meth.locks = false) (hK : va_K (dC, dI) vwCl (tysO cy) s) (hRO : RO ad0 (fun q => s.heap.size ≤ q) s s.heap) (h603 : ad0 603 = 0) (hag : ∀ i, 80 ≤ i → ad i = ad0 i) (hW : LW I P 0 0) : CW (p, l, e, room_1, s, m, #[Value.ref (ad0 500)], below, meth, c, dC, dI, cy, fun q => s.heap.size ≤ q) kc kn 7 [some (.ref (ad0 500)), some (.ref (ad 0)), some (.int (nI 0)), none, none, none, none, none, none, none, none, none, none] [] (wsO ad cy I J P) (lw_Z below #[Value.ref (ad0 500)] s) := by
  intro H locs ls hP hD hS hl
  obtain ⟨d1, d2⟩ := wsO_Di hD
  have e5 : ad 500 = ad0 500 := hag 500 (by decide)
  have hRO2 : RO ad (fun q => s.heap.size ≤ q) s s.heap := ro_tx hRO (fun i h1 _ => hag i h1) (fun i h1 _ => hag i (by omega)) (Or.inl (by rw [hag 603 (by decide)]; exact h603))
  have h : Vc RL cL_law 13 (some .boolean) (990 + 10) (p, l, e, room_1, s, m, #[Value.ref (ad0 500)], below, meth, c, ad, dC, dI, cy, fun q => s.heap.size ≤ q) := ⟨hx, hb, hml, hr, hown, hts, hlk, hK, fun q hq => hq, d1, d2, (Nat.le_of_ble_eq_true rfl), (Nat.le_of_ble_eq_true rfl), hRO2⟩
  have go := lw_loop (Γ := (p, l, e, room_1, s, m, #[Value.ref (ad0 500)], below, meth, c, ad, dC, dI, cy, fun q => s.heap.size ≤ q)) (d := 990) (kc := kc) (kn := kn) (Φ := lw_Z below #[Value.ref (ad0 500)] s) ⟨hkc, hkn⟩ h (fun I J P v3 v4 v5 v6 v7 v8 v9 v10 v11 v12 => by
    refine g_iconst h dL_law_344 (v := 1) rfl ?_
    intro H locs ls hP hS hl
    show W p l e room_1 s m #[Value.ref (ad0 500)] below meth c H locs kc kn (lw_Z below #[Value.ref (ad0 500)] s) (F0 m 345 ls [.int 1])
    refine va_forget (fun q hq => hS.2.2 q hq) ?_
    refine W.widen (k := 600086) (n := 7301441) hkc hkn ?_
    exact lw_ret hx hb hr hlk dL_law_345) 20 0 0 0 I J P none none none none none none none none none none rfl rfl rfl hW
  refine go H locs ls hP hS ?_
  show lv_has ls c.maxLocals [(0, .ref (ad 500)), (1, .ref (ad 0)), (2, .int (nI 0))]
  rw [e5]
  exact hl
set_option maxRecDepth 100000 in
set_option maxHeartbeats 4000000 in
theorem whole_start {p : Program} {e : Env} {s : State} {m : MethodId} {below : List Frame} {meth : Method} {c : Code} (l : Launch) (hflags : l.flags = flags0) {b L : Nat} {xs : Nat → Int32} (hL : L ≤ 260) (C0 : lw_At p s m meth c b L xs) : W p l e room_1 s m #[Value.ref b] below meth c s.heap [] 0 0 (lw_Z below #[Value.ref b] s) (entryFrame m ([Value.ref b] : List Value).toArray 13) := by
  obtain ⟨hx, hb, hr, hml, hown, hts, hX, hbl, hlocks, hgv⟩ := id C0
  have hn := fam_before hgv
  obtain ⟨dC, dI, cy, hK⟩ := kn_start hts
  obtain ⟨ad0, rfl, h603, hRO⟩ := ro_start b L xs hL hX hbl hts hn
  have hts2 := bw_of hts
  have h : Vk RL cL_law 13 1000 (p, l, e, room_1, s, m, #[Value.ref (ad0 500)], below, meth, c, dC, dI, cy, fun q => s.heap.size ≤ q) := ⟨hx, hb, hml, hown, hts2, hlocks, hK, fun q hq => hq, (Nat.le_of_ble_eq_true rfl), (Nat.le_of_ble_eq_true rfl)⟩
  have hv : VM ad0 none cy (p, l, e, room_1, s, m, #[Value.ref (ad0 500)], below, meth, c, dC, dI, cy, fun q => s.heap.size ≤ q) := ⟨rfl, hRO, ⟨mn_start hts, ad0, hRO⟩, trivial, nc_start hts⟩
  have hR : Rk (p, l, e, room_1, s, m, #[Value.ref (ad0 500)], below, meth, c, dC, dI, cy, fun q => s.heap.size ≤ q) 600086 7301441 := ⟨Nat.le_refl _, Nat.le_refl _⟩
  have main : CW (p, l, e, room_1, s, m, #[Value.ref (ad0 500)], below, meth, c, dC, dI, cy, fun q => s.heap.size ≤ q) 0 0 0 [some (.ref (ad0 500)), none, none, none, none, none, none, none, none, none, none, none, none] [] [] (lw_Z below #[Value.ref (ad0 500)] s) := by
    refine kw_alod h 0 dL_law_0 rfl rfl ?_
    refine km_callS (d := 999) (As := [.ref (ad0 500)]) (c0 := 1100) (n0 := 1410000) (wc := []) (wr := []) hv h [] [] none (rk_le hR (Nat.le_of_ble_eq_true rfl) (Nat.le_of_ble_eq_true rfl)) mi_L_quipu (by decide) dL_law_1 ml_L_177 (Nat.le_of_ble_eq_true rfl) rfl (Nat.le_of_ble_eq_true rfl) rfl rfl rfl rfl (fun _ q => (List.not_mem_nil q).elim) ts_none (kt_quipu (d := 974)) (fun r w1 z => ?_)
    obtain ⟨ad, I, J, P, rfl, rfl, hag, hW, -⟩ := z
    show CW _ (0 + 1100) (0 + 1410000) 4 _ (.ref (ad 0) :: []) (wsO ad cy I J P) _
    refine kw_asto h 1 dL_law_4 rfl (by decide) rfl ?_
    refine kw_ic h (v := nI 0) dL_law_5 rfl ?_
    refine kw_isto h 2 dL_law_6 rfl (by decide) rfl ?_
    exact law_go (Nat.le_of_ble_eq_true rfl) (Nat.le_of_ble_eq_true rfl) hx hb hml hr hown hts2 hlocks hK hRO h603 hag hW
  rw [lg_entry_eq]
  have hl := lv_entry ([.ref (ad0 500)]) (n := 13) (Nat.le_of_ble_eq_true rfl)
  refine main s.heap [] _ (fun k q h => by simp at h) ⟨fun i j p q h => by simp at h, fun k q h => by simp at h⟩ va_S.rf ?_
  rw [hml]
  exact hl
