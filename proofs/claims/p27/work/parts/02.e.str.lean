section GS
variable {own : String} {cc : ByteArray} {nL d kc kn pc : Nat} {ret : Option FieldType} {Γ : Cx} {lv : List (Option Value)} {st : List Value} {I : MI} {J : MJ} {P : MP} {Φ : State → Prop}
theorem g_ldcK (h : Vc RX8 cc nL ret d Γ) (hd : decode cc pc = .ok (.ldc 36, 2)) (K : VG Γ kc kn (pc + 2) lv (.ref 228 :: st) I J P Φ) : VG Γ kc kn pc lv st I J P Φ := by
  obtain ⟨p, l, e, R, s, m, args, below, meth, c, ad, dC, dI, cy, A⟩ := Γ
  obtain ⟨hx, hb, hml, hr, hown, hts, hlk, hK, hA, hin, hAd, hf, hlo, hRO⟩ := h
  intro H locs ls hP hS hl
  exact va_ldcS hx hb hown hRO.kwR hd (K H locs ls hP hS hl)
theorem g_ldcY (h : Vc RX8 cc nL ret d Γ) (hd : decode cc pc = .ok (.ldc 87, 2)) (K : VG Γ kc kn (pc + 2) lv (.ref 229 :: st) I J P Φ) : VG Γ kc kn pc lv st I J P Φ := by
  obtain ⟨p, l, e, R, s, m, args, below, meth, c, ad, dC, dI, cy, A⟩ := Γ
  obtain ⟨hx, hb, hml, hr, hown, hts, hlk, hK, hA, hin, hAd, hf, hlo, hRO⟩ := h
  intro H locs ls hP hS hl
  exact va_ldcS hx hb hown hRO.syR hd (K H locs ls hP hS hl)
theorem g_strV (h : Vc own cc nL ret d Γ) (i : Nat) {idx : Nat} (hi : i < 48) (hl0 : Cond.fieldLink own idx "java/lang/String" "value" "[B" ∈ bigW) (hd : decode cc pc = .ok (.getfield idx, 3)) (K : VG Γ kc kn (pc + 3) lv (.ref (300 + i) :: st) I J P Φ) : VG Γ kc kn pc lv (.ref (200 + i) :: st) I J P Φ := by
  obtain ⟨p, l, e, R, s, m, args, below, meth, c, ad, dC, dI, cy, A⟩ := Γ
  obtain ⟨hx, hb, hml, hr, hown, hts, hlk, hK, hA, hin, hAd, hf, hlo, hRO⟩ := h
  intro H locs ls hP hS hl
  exact vk_getf hx hb (hRO.str.1 i hi).2.2.1 hS hown (hts _ hl0) (fun _ h9 => h9) hd (K H locs ls hP hS hl)
theorem g_strC (h : Vc own cc nL ret d Γ) (i : Nat) {idx : Nat} (hi : i < 48) (hl0 : Cond.fieldLink own idx "java/lang/String" "coder" "B" ∈ bigW) (hd : decode cc pc = .ok (.getfield idx, 3)) (K : VG Γ kc kn (pc + 3) lv (.int 0 :: st) I J P Φ) : VG Γ kc kn pc lv (.ref (200 + i) :: st) I J P Φ := by
  obtain ⟨p, l, e, R, s, m, args, below, meth, c, ad, dC, dI, cy, A⟩ := Γ
  obtain ⟨hx, hb, hml, hr, hown, hts, hlk, hK, hA, hin, hAd, hf, hlo, hRO⟩ := h
  intro H locs ls hP hS hl
  exact vk_getf hx hb (hRO.str.1 i hi).2.1 hS hown (hts _ hl0) (fun _ h9 => h9) hd (K H locs ls hP hS hl)
theorem g_strB (h : Vc own cc nL ret d Γ) (i j : Nat) {x : Int32} (hi : i < 48) (hd : decode cc pc = .ok (.baload, 1)) (hj : x = nI j) (hn : j < kLen.getD i 0) (hn2 : kLen.getD i 0 < 2 ^ 31) (K : VG Γ kc kn (pc + 1) lv (.int ((kByt.getD i []).getD j 0) :: st) I J P Φ) : VG Γ kc kn pc lv (.int x :: .ref (300 + i) :: st) I J P Φ := by
  obtain ⟨p, l, e, R, s, m, args, below, meth, c, ad, dC, dI, cy, A⟩ := Γ
  obtain ⟨hx, hb, hml, hr, hown, hts, hlk, hK, hA, hin, hAd, hf, hlo, hRO⟩ := h
  intro H locs ls hP hS hl
  exact va_tb hx hb (hRO.str.1 i hi).2.2.2 hS (by rw [hj]; exact vp_in_nI hn (by omega)) (v := .int ((kByt.getD i []).getD j 0)) (by rw [hj, nI_clamp (by omega)]) hd (K H locs ls hP hS hl)
theorem g_strL (h : Vc own cc nL ret d Γ) (i : Nat) (hi : i < 48) (hd : decode cc pc = .ok (.arraylength, 1)) (K : VG Γ kc kn (pc + 1) lv (.int (nI (kLen.getD i 0)) :: st) I J P Φ) : VG Γ kc kn pc lv (.ref (300 + i) :: st) I J P Φ := by
  obtain ⟨p, l, e, R, s, m, args, below, meth, c, ad, dC, dI, cy, A⟩ := Γ
  obtain ⟨hx, hb, hml, hr, hown, hts, hlk, hK, hA, hin, hAd, hf, hlo, hRO⟩ := h
  intro H locs ls hP hS hl
  exact va_tlen hx hb (hRO.str.1 i hi).2.2.2 hS rfl hd (K H locs ls hP hS hl)
theorem g_gsC (h : Vc own cc nL ret d Γ) {idx : Nat} (hl0 : Cond.fieldLink own idx "java/lang/String" "COMPACT_STRINGS" "Z" ∈ bigW) (hd : decode cc pc = .ok (.getstatic idx, 3)) (K : VG Γ kc kn (pc + 3) lv (.int 1 :: st) I J P Φ) : VG Γ kc kn pc lv st I J P Φ := by
  obtain ⟨p, l, e, R, s, m, args, below, meth, c, ad, dC, dI, cy, A⟩ := Γ
  obtain ⟨hx, hb, hml, hr, hown, hts, hlk, hK, hA, hin, hAd, hf, hlo, hRO⟩ := h
  intro H locs ls hP hS hl
  exact va_gets hx hb hRO.cs hS hown (hts _ hl0) (fun _ h9 => h9) hd (K H locs ls hP hS hl)
theorem g_gsF (h : Vc own cc nL ret d Γ) {idx : Nat} (hl0 : Cond.fieldLink own idx "jdk/internal/util/Preconditions" "SIOOBE_FORMATTER" "Ljava/util/function/BiFunction;" ∈ bigW) (hd : decode cc pc = .ok (.getstatic idx, 3)) (K : ∀ v, VG Γ kc kn (pc + 3) lv (v :: st) I J P Φ) : VG Γ kc kn pc lv st I J P Φ := by
  obtain ⟨p, l, e, R, s, m, args, below, meth, c, ad, dC, dI, cy, A⟩ := Γ
  obtain ⟨hx, hb, hml, hr, hown, hts, hlk, hK, hA, hin, hAd, hf, hlo, hRO⟩ := h
  intro H locs ls hP hS hl
  rcases hRO.fmt with hZ | hZ
  · exact va_gets hx hb hZ hS hown (hts _ hl0) (fun _ h9 => h9) hd (K .null H locs ls hP hS hl)
  · exact va_gets hx hb hZ hS hown (hts _ hl0) (fun _ h9 => h9) hd (K (.ref 400) H locs ls hP hS hl)
theorem g_gsN (h : Vc own cc nL ret d Γ) {idx : Nat} (hl0 : Cond.fieldLink own idx "QuipuKeepersLaw" "NAMES" "[Ljava/lang/String;" ∈ bigW) (hd : decode cc pc = .ok (.getstatic idx, 3)) (K : VG Γ kc kn (pc + 3) lv (.ref 401 :: st) I J P Φ) : VG Γ kc kn pc lv st I J P Φ := by
  obtain ⟨p, l, e, R, s, m, args, below, meth, c, ad, dC, dI, cy, A⟩ := Γ
  obtain ⟨hx, hb, hml, hr, hown, hts, hlk, hK, hA, hin, hAd, hf, hlo, hRO⟩ := h
  intro H locs ls hP hS hl
  exact va_gets hx hb hRO.nms hS hown (hts _ hl0) (fun _ h9 => h9) hd (K H locs ls hP hS hl)
theorem g_nAt (h : Vc own cc nL ret d Γ) (j : Nat) {x : Int32} (hd : decode cc pc = .ok (.aaload, 1)) (hj : x = nI j) (hn : j < 12) (K : VG Γ kc kn (pc + 1) lv (.ref (236 + j) :: st) I J P Φ) : VG Γ kc kn pc lv (.int x :: .ref 401 :: st) I J P Φ := by
  obtain ⟨p, l, e, R, s, m, args, below, meth, c, ad, dC, dI, cy, A⟩ := Γ
  obtain ⟨hx, hb, hml, hr, hown, hts, hlk, hK, hA, hin, hAd, hf, hlo, hRO⟩ := h
  intro H locs ls hP hS hl
  exact vb_tq hx hb hRO.nmT hS (by rw [hj]; exact vp_in_nI hn (by omega)) (v := .ref (ad (236 + j))) (by rw [hj, nI_clamp (by omega)]) hd (K H locs ls hP hS hl)

theorem g_callSt (h : Vc own cc nL ret (d + 1) Γ) (hrk : Rok Γ kc kn) {y : MethodName} {cb : ByteArray} {mL idx b : Nat} {rt : Option FieldType} {As : List Value} {stk : List Value} (hm : MIv y cb mL rt As.length) (hd : decode cc pc = .ok (.invokevirtual idx, 3)) (hl0 : Cond.methodLink own idx y ∈ bigW) (i : Nat) (hi : i < 48) (hbi : b = 200 + i) (hq : "java/lang/String" = y.cls) (hent : (entA (.ref b :: As)).length ≤ mL) (hstk : stk = As.reverse ++ .ref b :: st) (hcat : (st.map fun v => v.category).sum ≤ 8) (hc : Sp y cb mL rt d (.ref b :: As) I J P (fun r I' J' P' => VG Γ kc kn (pc + 3) lv (r.toList ++ st) I' J' P' Φ)) : VG Γ kc kn pc lv stk I J P Φ := by
  subst hstk
  obtain ⟨p, l, e, R, s, m, args, below, meth, c, ad, dC, dI, cy, A⟩ := Γ
  obtain ⟨hx, hb, hml, hr, hown, hts, hlk, hK, hA, hin, hAd, hf, hlo, hRO⟩ := h
  obtain ⟨m1, m2, m3, m4, m5, m6, m7⟩ := hm
  intro H locs ls hP hS hl
  have hM := met_of m5 hent hc l ad dC dI cy H.size hin
  have hA1 := gA1 (I := I) (J := J) (P := P) (cy := cy) hAd hA hS
  subst hbi
  have hrecv := vk_recv hRO.str hi hS
  rw [hq] at hrecv
  have hG : GoodIn bigW (wsV own idx y.cls y (Cond.code y cb mL rt :: bigW)) := by
    intro w hw
    have hmem : w ∈ bigW := by
      rcases List.mem_append.mp hw with h1 | h1
      · simp only [List.mem_cons, List.not_mem_nil, or_false] at h1
        rcases h1 with rfl | rfl | rfl | rfl <;> assumption
      · rcases List.mem_cons.mp h1 with rfl | h1 <;> assumption
    exact ⟨hmem, bw_good hmem⟩
  have hrun := va_runV (As := As.map (vmap ad)) (rest := st.map (vmap ad)) (g := F0 m pc ls ((As.reverse ++ .ref (200 + i) :: st).map (vmap ad))) (cells := kc) (slots := kn) (H := H) (locs := locs) (R := R) (e := e) (l := l) (below := below) (meth := meth) (b := ad (200 + i)) (C := y.cls) ⟨hx, hb, hml, hown, hts⟩ hM (cwV As.length hts hG rfl rfl rfl ⟨rfl, m6⟩ ⟨hf, by show 8 + (mL + 11) + 64 * d ≤ R.locals; omega⟩) ⟨pco_blind, hrecv, fun U hU hW => ⟨rfl, by rw [hU], by rw [hU]; exact hP, va_K.moved hW.alike hK, hRO.call hS hW hU hA1⟩⟩ rfl (by simp) (by show ls.size = nL; rw [hl.1, hml]) (by simp [vmap]) (lv_room (by rw [vmap_cats]; exact hcat)) hd ⟨hrk.1, hrk.2⟩
  exact run_back hrun hS hA1 hA1 hl (fun r I1 J1 P1 hq1 => hq1)

theorem g_cTi0 (h : Vc own cc nL ret (d + 1) Γ) (hrk : Rok Γ kc kn) {y : MethodName} {cb : ByteArray} {mL idx b : Nat} {rt : Option FieldType} (hm : MIv y cb mL rt 0) (hd : decode cc pc = .ok (.invokevirtual idx, 3)) (hl0 : Cond.methodLink own idx y ∈ bigW) (i : Nat) (hi : i < 48) (hbi : b = 200 + i) (hq : "java/lang/String" = y.cls) (hent : (entA (.ref b :: [])).length ≤ mL) (hcat : (st.map fun v => v.category).sum ≤ 8) (hc : Sp y cb mL rt d (.ref b :: []) I J P (Qi (fun r I' J' P' => VG Γ kc kn (pc + 3) lv (.int r :: st) I' J' P' Φ))) : VG Γ kc kn pc lv (.ref b :: st) I J P Φ := g_callSt (As := []) h hrk hm hd hl0 i hi hbi hq hent rfl hcat (fun Γ2 h2 => fnl_mono (fun r I1 J1 P1 hq => by obtain ⟨x, rfl, hq⟩ := hq; exact hq) (hc Γ2 h2))
theorem g_cTi1 (h : Vc own cc nL ret (d + 1) Γ) (hrk : Rok Γ kc kn) {y : MethodName} {cb : ByteArray} {mL idx b : Nat} {rt : Option FieldType} {a1 : Value} (hm : MIv y cb mL rt 1) (hd : decode cc pc = .ok (.invokevirtual idx, 3)) (hl0 : Cond.methodLink own idx y ∈ bigW) (i : Nat) (hi : i < 48) (hbi : b = 200 + i) (hq : "java/lang/String" = y.cls) (hent : (entA (.ref b :: [a1])).length ≤ mL) (hcat : (st.map fun v => v.category).sum ≤ 8) (hc : Sp y cb mL rt d (.ref b :: [a1]) I J P (Qi (fun r I' J' P' => VG Γ kc kn (pc + 3) lv (.int r :: st) I' J' P' Φ))) : VG Γ kc kn pc lv (a1 :: .ref b :: st) I J P Φ := g_callSt (As := [a1]) h hrk hm hd hl0 i hi hbi hq hent rfl hcat (fun Γ2 h2 => fnl_mono (fun r I1 J1 P1 hq => by obtain ⟨x, rfl, hq⟩ := hq; exact hq) (hc Γ2 h2))
theorem g_cTi2 (h : Vc own cc nL ret (d + 1) Γ) (hrk : Rok Γ kc kn) {y : MethodName} {cb : ByteArray} {mL idx b : Nat} {rt : Option FieldType} {a1 a2 : Value} (hm : MIv y cb mL rt 2) (hd : decode cc pc = .ok (.invokevirtual idx, 3)) (hl0 : Cond.methodLink own idx y ∈ bigW) (i : Nat) (hi : i < 48) (hbi : b = 200 + i) (hq : "java/lang/String" = y.cls) (hent : (entA (.ref b :: [a1, a2])).length ≤ mL) (hcat : (st.map fun v => v.category).sum ≤ 8) (hc : Sp y cb mL rt d (.ref b :: [a1, a2]) I J P (Qi (fun r I' J' P' => VG Γ kc kn (pc + 3) lv (.int r :: st) I' J' P' Φ))) : VG Γ kc kn pc lv (a2 :: a1 :: .ref b :: st) I J P Φ := g_callSt (As := [a1, a2]) h hrk hm hd hl0 i hi hbi hq hent rfl hcat (fun Γ2 h2 => fnl_mono (fun r I1 J1 P1 hq => by obtain ⟨x, rfl, hq⟩ := hq; exact hq) (hc Γ2 h2))
end GS
