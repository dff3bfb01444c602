/-! Exceptions in the pure view: methods that return or throw -/
def exN : List String := ["java/lang/RuntimeException", "java/lang/Exception"]
abbrev eISE : String := "java/lang/IllegalStateException"
abbrev eIAE : String := "java/lang/IllegalArgumentException"
abbrev eIOB : String := "java/lang/IndexOutOfBoundsException"
def exT (q : Nat × Nat) : Option Cond := if q.1 = 1 then tables_1_1[q.2]? else tables_1_4[q.2]?
theorem exT_m {q : Nat × Nat} {w : Cond} (h : exT q = some w) : w ∈ lw_tbl := by
  unfold exT at h
  split at h
  · exact tb_1 (List.mem_of_getElem? h)
  · exact tb_4 (List.mem_of_getElem? h)
theorem exT_all {L : List Cond} {I : List (Nat × Nat)} (h : L.map some = I.map exT) : ∀ w ∈ L, w ∈ lw_tbl := by
  intro w hw
  have h1 : some w ∈ I.map exT := by rw [← h]; exact List.mem_map_of_mem hw
  obtain ⟨q, -, h2⟩ := List.mem_map.mp h1
  exact exT_m h2
def exH : List (Nat × Nat) := [(1, 16), (4, 88), (4, 97), (4, 101), (4, 104), (4, 106), (4, 89), (4, 90), (1, 33), (1, 34), (4, 91), (4, 96), (4, 102), (4, 122), (4, 78), (4, 123), (4, 80), (4, 124), (4, 82), (4, 92), (4, 94), (4, 84), (4, 118), (4, 119), (4, 121), (4, 84)]
def exM : List (Nat × Nat) := [(4, 112), (4, 70), (4, 112), (4, 113), (4, 114), (4, 115), (4, 72), (4, 115), (4, 116), (4, 117), (4, 118), (4, 74)]
def exL (E : String) (ik ic : Nat) : List Cond := Cond.classLink RX10 ik E :: Cond.initialized E :: vx_atS RX10 ic E exN
def nxW : List Cond := [.declares ⟨"java/lang/RuntimeException", "<init>", "(Ljava/lang/String;)V"⟩, .declares ⟨"java/lang/Exception", "<init>", "(Ljava/lang/String;)V"⟩, .declares ⟨"java/lang/Throwable", "<init>", "(Ljava/lang/String;)V"⟩, .castable eISE eISE, .castable eIAE eIAE, .castable eIOB eIOB]
def NX (U : State) : Prop := (∀ w ∈ nxW, va_Nw w U) ∧ va_Nc eIAE eIOB U ∧ va_Nc eISE eIOB U ∧ va_Nc eIOB eIAE U
theorem NX.warm {s U : State} (hW : s.WarmedH U.vm) (h : NX s) : NX U := by
  obtain ⟨h1, h2, h3, h4⟩ := h
  refine ⟨?_, h2.moved hW.alike, h3.moved hW.alike, h4.moved hW.alike⟩
  intro w hw
  have hn := h1 w hw
  simp only [nxW, List.mem_cons, List.not_mem_nil, or_false] at hw
  rcases hw with rfl | rfl | rfl | rfl | rfl | rfl
  · exact hn.warmD hW
  · exact hn.warmD hW
  · exact hn.warmD hW
  · exact hn.warmC hW
  · exact hn.warmC hW
  · exact hn.warmC hW
theorem NX.same {s U : State} (hv : s.vm = U.vm) (h : NX s) : NX U := by
  obtain ⟨h1, h2, h3, h4⟩ := h
  refine ⟨?_, ?_, ?_, ?_⟩
  · intro w hw
    have hn := h1 w hw
    simp only [nxW, List.mem_cons, List.not_mem_nil, or_false] at hw
    rcases hw with rfl | rfl | rfl | rfl | rfl | rfl <;> exact hn.same rfl hv
  · unfold va_Nc at h2 ⊢; rw [← hv]; exact h2
  · unfold va_Nc at h3 ⊢; rw [← hv]; exact h3
  · unfold va_Nc at h4 ⊢; rw [← hv]; exact h4
def exC : List (String × Nat × Nat) := [(eISE, 80, 84), (eIAE, 91, 95), (eIOB, 124, 128)]
set_option maxRecDepth 100000 in
theorem exW_1 : (exL eISE 80 84).map some = ([(4, 66), (1, 19)] ++ exH ++ [(4, 109), (4, 110), (4, 111)] ++ exM ++ [(4, 108), (4, 67), (4, 68), (4, 75), (4, 76), (4, 77), (4, 79), (4, 81), (4, 83), (4, 87), (4, 86), (4, 85)]).map exT := by decide +kernel
set_option maxRecDepth 100000 in
theorem exW_2 : (exL eIAE 91 95).map some = ([(4, 145), (1, 20)] ++ exH ++ [(4, 156), (4, 157), (4, 158)] ++ exM ++ [(4, 155), (4, 146), (4, 147), (4, 148), (4, 99), (4, 149), (4, 150), (4, 151), (4, 152), (4, 87), (4, 86), (4, 153)]).map exT := by decide +kernel
set_option maxRecDepth 100000 in
theorem exW_3 : (exL eIOB 124 128).map some = ([(4, 169), (1, 24)] ++ exH ++ [(4, 180), (4, 181), (4, 182)] ++ exM ++ [(4, 179), (4, 170), (4, 171), (4, 172), (4, 100), (4, 173), (4, 174), (4, 175), (4, 176), (4, 87), (4, 86), (4, 177)]).map exT := by decide +kernel
theorem exW_in {E : String} {ik ic : Nat} (h : (E, ik, ic) ∈ exC) : ∀ w ∈ exL E ik ic, w ∈ lw_tbl := by
  simp only [exC, List.mem_cons, Prod.mk.injEq, List.not_mem_nil, or_false] at h
  rcases h with ⟨rfl, rfl, rfl⟩ | ⟨rfl, rfl, rfl⟩ | ⟨rfl, rfl, rfl⟩
  · exact exT_all exW_1
  · exact exT_all exW_2
  · exact exT_all exW_3
theorem exW_nx {E : String} {ik ic : Nat} (h : (E, ik, ic) ∈ exC) : ∀ w ∈ (exL E ik ic).filter (fun w => !goodWord w), w ∈ nxW := by
  simp only [exC, List.mem_cons, Prod.mk.injEq, List.not_mem_nil, or_false] at h
  rcases h with ⟨rfl, rfl, rfl⟩ | ⟨rfl, rfl, rfl⟩ | ⟨rfl, rfl, rfl⟩ <;> decide +kernel
theorem exW_ot {E : String} {ik ic : Nat} (h : (E, ik, ic) ∈ exC) : ∀ w ∈ exL E ik ic, vx_ot w = true := by
  simp only [exC, List.mem_cons, Prod.mk.injEq, List.not_mem_nil, or_false] at h
  rcases h with ⟨rfl, rfl, rfl⟩ | ⟨rfl, rfl, rfl⟩ | ⟨rfl, rfl, rfl⟩ <;> decide +kernel
theorem nxW_tab : ∀ w ∈ nxW, w.onTables = true := by decide +kernel
theorem exW_at {E : String} {ik ic : Nat} (h : (E, ik, ic) ∈ exC) {args : Array Value} {s : State} (hts : ∀ w ∈ bigW, w.before args s = true) (hX : NX s) : ∀ w ∈ exL E ik ic, w.before args s = true :=
  vx_hat (fun w hw => hts w (bw_in (exW_in h w (List.mem_filter.mp hw).1) (List.mem_filter.mp hw).2)) (exW_nx h) (fun w hw => (hX.1 w hw).use (nxW_tab w hw))
/-- the context of a method that may throw, with no handlers -/
def Xx (Γ : Cx) : Prop := match Γ with
  | (_, l, _, R, s, _, _, _, _, c, _, _, _, _, _) => l.stackTraces = false ∧ NX s ∧ (∀ x ∈ c.exceptionTable.toList, False) ∧ 6 ≤ R.frames ∧ 384 ≤ R.locals ∧ 1 ≤ R.cells ∧ 6 ≤ R.slots
def Xn (ad : Nat → Nat) (dC : Nat → ClassId) (dI : Nat → Nat → Nat) (cy : Nat → ClassId) (A : Nat → Prop) (X : String → MI → MJ → MP → Prop) : String → State → State → Prop := fun E st t => (∃ I J P, X E I J P ∧ va_P (dC, dI) vwCl (wsO ad cy I J P) t.heap ∧ va_K (dC, dI) vwCl (tysO cy) t) ∧ va_F A st t
def FnX (Γ : Cx) (Q : Option Value → MI → MJ → MP → Prop) (X : String → MI → MJ → MP → Prop) : State → Prop := match Γ with
  | (_, _, _, _, s, _, args, below, _, _, ad, dC, dI, cy, A) => vx_MQ below (Qn ad dC dI cy A Q) (Xn ad dC dI cy A X) args s 1 6 A
theorem fnx_eq {p : Program} {l : Launch} {e : Env} {R : Room} {s : State} {m : MethodId} {args : Array Value} {below : List Frame} {meth : Method} {c : Code} {ad : Nat → Nat} {dC : Nat → ClassId} {dI : Nat → Nat → Nat} {cy : Nat → ClassId} {A : Nat → Prop} {Q : Option Value → MI → MJ → MP → Prop} {X : String → MI → MJ → MP → Prop} : FnX (p, l, e, R, s, m, args, below, meth, c, ad, dC, dI, cy, A) Q X = vx_MQ below (Qn ad dC dI cy A Q) (Xn ad dC dI cy A X) args s 1 6 A := rfl
theorem g_fnx {Γ : Cx} {kc kn pc : Nat} {lv : List (Option Value)} {st : List Value} {I : MI} {J : MJ} {P : MP} {Q : Option Value → MI → MJ → MP → Prop} {X : String → MI → MJ → MP → Prop} (k : VG Γ kc kn pc lv st I J P (Fnl Γ Q)) : VG Γ kc kn pc lv st I J P (FnX Γ Q X) := by
  obtain ⟨p, l, e, R, s, m, args, below, meth, c, ad, dC, dI, cy, A⟩ := Γ
  intro H locs ls hP hS hl T hT Y
  obtain ⟨t, a, b⟩ := k H locs ls hP hS hl T hT Y
  rw [fnl_eq] at b
  rw [fnx_eq]
  obtain ⟨o, b1, b2, b3, L, ⟨f1, f2, f3⟩, b5⟩ := b
  exact ⟨t, a, o, b1, b2, Or.inl ⟨b3, L, ⟨f1, f2, f3.mono (Nat.zero_le _) (Nat.zero_le _)⟩, b5⟩⟩
theorem g_throw {cc : ByteArray} {nL d pc : Nat} {ret : Option FieldType} {Γ : Cx} {lv : List (Option Value)} {I : MI} {J : MJ} {P : MP} {Q : Option Value → MI → MJ → MP → Prop} {X : String → MI → MJ → MP → Prop} (h : Vc RX10 cc nL ret d Γ) (hx : Xx Γ) {E text : String} {ik is ic : Nat} (hE : (E, ik, ic) ∈ exC) (hm : (is, text) ∈ msgs)
    (d0 : decode cc pc = .ok (.new ik, 3)) (d3 : decode cc (pc + 3) = .ok (.dup, 1)) (d4 : decode cc (pc + 4) = .ok (.ldc is, 2)) (d6 : decode cc (pc + 6) = .ok (.invokespecial ic, 3)) (d9 : decode cc (pc + 9) = .ok (.athrow, 1)) (hq : X E I J P) : VG Γ 0 0 pc lv [] I J P (FnX Γ Q X) := by
  obtain ⟨p, l, e, R, s, m, args, below, meth, c, ad, dC, dI, cy, A⟩ := Γ
  obtain ⟨hx1, hb, hml, hr, hown, hts, hlk, hK, hA, hin, hAd, hf, hlo, hRO⟩ := h
  obtain ⟨hst, hNX, hnt, hR1, hR2, hR3, hR4⟩ := hx
  intro H locs ls hP hS hl
  rw [fnx_eq]
  obtain ⟨sa, hsa⟩ := hRO.tx _ hm
  have hat := exW_at hE hts hNX
  have hot := exW_ot hE
  have hfit : Bundle.fit E = true := by
    simp only [exC, List.mem_cons, Prod.mk.injEq, List.not_mem_nil, or_false] at hE
    rcases hE with ⟨rfl, rfl, rfl⟩ | ⟨rfl, rfl, rfl⟩ | ⟨rfl, rfl, rfl⟩ <;> decide +kernel
  refine vx_throwS (names := exN) (rest := []) hx1 hb hst hown hfit (by decide +kernel) (hat _ List.mem_cons_self) (hat _ (List.mem_cons_of_mem _ List.mem_cons_self)) hsa (fun w hw => hat w (List.mem_cons_of_mem _ (List.mem_cons_of_mem _ hw))) hot hRO.us hRO.ss hS hl.1 d0 d3 d4 d6 d9 (fun x hx => absurd (hnt x hx) (fun q => q)) (show 2 + 3 < R.frames by omega) (show 0 + (13 * (2 + 1) + 43) ≤ R.locals by omega) (by omega) (by omega) hlk ?_ hS.2.2 (Nat.le_refl _) (Nat.le_refl _)
  intro t hal hsz hkp
  refine ⟨⟨I, J, P, hq, hP.kept (fun k q hk => hkp q.1 (vx_lt hP hk)), hK.moved hal⟩, ?_⟩
  exact ⟨Nat.le_trans hS.1 hsz, fun q h1 h2 => by rw [hkp q (Nat.lt_of_lt_of_le h1 hS.1)]; exact hS.2.1 q h1 h2⟩
def SpX (y : MethodName) (cb : ByteArray) (mL : Nat) (rt : Option FieldType) (d : Nat) (as : List Value) (I : MI) (J : MJ) (P : MP) (Q : Option Value → MI → MJ → MP → Prop) (X : String → MI → MJ → MP → Prop) : Prop := ∀ Γ : Cx, Vc y.cls cb mL rt d Γ → Xx Γ → VG Γ 0 0 0 (ent as mL) [] I J P (FnX Γ Q X)
