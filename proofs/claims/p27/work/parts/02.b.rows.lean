/-- a context: the machine and the method that runs, the cells' addresses, the classes, what may change -/
abbrev Cx : Type := Program × Launch × Env × Room × State × MethodId × Array Value × List Frame × Method × Code × (Nat → Nat) × (Nat → ClassId) × (Nat → Nat → Nat) × (Nat → ClassId) × (Nat → Prop)
/-- nest mates' links -/
def nestF : List (String × Nat × String × String × String × String) := [(RX4, 71, "QuipuKeepers$Code", "size", "I", "QuipuKeepers")]
def NW (U : State) : Prop := ∀ q ∈ nestF, va_Nw (.fieldLinkNest q.1 q.2.1 q.2.2.1 q.2.2.2.1 q.2.2.2.2.1 q.2.2.2.2.2) U
theorem NW.warm {s U : State} (hW : s.WarmedH U.vm) (h : NW s) : NW U := fun q hq => (h q hq).warmF hW
theorem NW.same {s U : State} (hv : s.vm = U.vm) (h : NW s) : NW U := fun q hq => (h q hq).same rfl hv
/-- what is only read: the strings (the law's, the text of keywords, the symbols, the names), statics -/
def kTxt : List String := ["", "colour ", " rank ", "0123456789", ";", "main", "cord ", " of ", " under ", " count ", "top ", " over ", " ", ";top ", "keeper ", " care ", ";keeper ", "tie ", " by ", " as value ", " + ", " - knots ", "tally ", " when wrong ", " or tired ", " > 3;", " as sum ", " / ", "colour rank cord of under main count top over keeper care tie by as tally when month value sum knots record tired wrong not and or min max ", "()[];,+-*/<>=", " when month >= ", " and value ", " < 5000;", " when month / ", " * ", " = month;", "red", "blue", "brown", "a", "b", "c", "d", "e", "t", "u", "ann", "bob"]
def kLen : List Nat := [0, 7, 6, 10, 1, 4, 5, 4, 7, 7, 4, 6, 1, 5, 7, 6, 8, 4, 4, 10, 3, 9, 6, 12, 10, 5, 8, 3, 139, 13, 15, 11, 8, 14, 3, 9, 3, 4, 5, 1, 1, 1, 1, 1, 1, 1, 3, 3]
def kByt : List (List Int32) := [[], [99, 111, 108, 111, 117, 114, 32], [32, 114, 97, 110, 107, 32], [48, 49, 50, 51, 52, 53, 54, 55, 56, 57], [59], [109, 97, 105, 110], [99, 111, 114, 100, 32], [32, 111, 102, 32], [32, 117, 110, 100, 101, 114, 32], [32, 99, 111, 117, 110, 116, 32], [116, 111, 112, 32], [32, 111, 118, 101, 114, 32], [32], [59, 116, 111, 112, 32], [107, 101, 101, 112, 101, 114, 32], [32, 99, 97, 114, 101, 32], [59, 107, 101, 101, 112, 101, 114, 32], [116, 105, 101, 32], [32, 98, 121, 32], [32, 97, 115, 32, 118, 97, 108, 117, 101, 32], [32, 43, 32], [32, 45, 32, 107, 110, 111, 116, 115, 32], [116, 97, 108, 108, 121, 32], [32, 119, 104, 101, 110, 32, 119, 114, 111, 110, 103, 32], [32, 111, 114, 32, 116, 105, 114, 101, 100, 32], [32, 62, 32, 51, 59], [32, 97, 115, 32, 115, 117, 109, 32], [32, 47, 32], [99, 111, 108, 111, 117, 114, 32, 114, 97, 110, 107, 32, 99, 111, 114, 100, 32, 111, 102, 32, 117, 110, 100, 101, 114, 32, 109, 97, 105, 110, 32, 99, 111, 117, 110, 116, 32, 116, 111, 112, 32, 111, 118, 101, 114, 32, 107, 101, 101, 112, 101, 114, 32, 99, 97, 114, 101, 32, 116, 105, 101, 32, 98, 121, 32, 97, 115, 32, 116, 97, 108, 108, 121, 32, 119, 104, 101, 110, 32, 109, 111, 110, 116, 104, 32, 118, 97, 108, 117, 101, 32, 115, 117, 109, 32, 107, 110, 111, 116, 115, 32, 114, 101, 99, 111, 114, 100, 32, 116, 105, 114, 101, 100, 32, 119, 114, 111, 110, 103, 32, 110, 111, 116, 32, 97, 110, 100, 32, 111, 114, 32, 109, 105, 110, 32, 109, 97, 120, 32], [40, 41, 91, 93, 59, 44, 43, 45, 42, 47, 60, 62, 61], [32, 119, 104, 101, 110, 32, 109, 111, 110, 116, 104, 32, 62, 61, 32], [32, 97, 110, 100, 32, 118, 97, 108, 117, 101, 32], [32, 60, 32, 53, 48, 48, 48, 59], [32, 119, 104, 101, 110, 32, 109, 111, 110, 116, 104, 32, 47, 32], [32, 42, 32], [32, 61, 32, 109, 111, 110, 116, 104, 59], [114, 101, 100], [98, 108, 117, 101], [98, 114, 111, 119, 110], [97], [98], [99], [100], [101], [116], [117], [97, 110, 110], [98, 111, 98]]
/-- the law's own texts: entry, place -/
def lawK : List (Nat × Nat) := [(73, 0), (75, 1), (77, 2), (41, 3), (82, 4), (84, 5), (86, 6), (88, 7), (90, 8), (92, 9), (97, 10), (99, 11), (101, 12), (103, 13), (105, 14), (107, 15), (112, 16), (114, 17), (116, 18), (118, 19), (120, 20), (126, 21), (128, 22), (130, 23), (132, 24), (134, 25), (136, 26), (138, 27), (143, 30), (148, 31), (150, 32), (152, 33), (157, 34), (159, 35)]
/-- a text: its String, its bytes, how many, its letters -/
def TX (x y n : Nat) (f : Nat → Nat) (A : Nat → Prop) (U : State) (H : Heap) : Prop := va_O "java/lang/String" x A U H ∧ va_OF "java/lang/String" "coder" "B" (.int 0) x A U H ∧ va_OF "java/lang/String" "value" "[B" (.ref y) x A U H ∧ va_T .byte y n (fun j => .int (nI (f j))) A U H ∧ n < 65536 ∧ ∀ j, j < n → f j < 128
theorem TX.moved {x y n : Nat} {f : Nat → Nat} {A : Nat → Prop} {u U : State} {H : Heap} (hvm : u.vm.Alike U.vm) (h : TX x y n f A u H) : TX x y n f A U H := ⟨h.1.moved hvm, h.2.1.moved hvm, h.2.2.1.moved hvm, h.2.2.2.1.moved hvm, h.2.2.2.2⟩
theorem TX.kept {x y n : Nat} {f : Nat → Nat} {A : Nat → Prop} {U : State} {H H1 : Heap} (h : TX x y n f A U H) (hq : ∀ a : Nat, a < H.size → ¬ A a → H1[a]? = H[a]?) : TX x y n f A U H1 := ⟨h.1.kept hq, h.2.1.kept hq, h.2.2.1.kept hq, h.2.2.2.1.kept hq, h.2.2.2.2⟩
theorem TX.narrow {x y n : Nat} {f : Nat → Nat} {A B : Nat → Prop} {U : State} {H : Heap} (h : TX x y n f A U H) (hAB : ∀ q, B q → A q) : TX x y n f B U H := ⟨h.1.narrow hAB, h.2.1.narrow hAB, h.2.2.1.narrow hAB, h.2.2.2.1.narrow hAB, h.2.2.2.2⟩
/-- the script's ints -/
def sxI (ad : Nat → Nat) (j : Nat) : Int32 := Int32.ofNat (ad (5000 + j))
def txN (ad : Nat → Nat) (j : Nat) : Nat := ad (10000 + j)
def RO (ad : Nat → Nat) (A : Nat → Prop) (U : State) (H : Heap) : Prop := (NW U) ∧ (vk_S 48 kLen kByt (fun i => ad (200 + i)) (fun i => ad (300 + i)) A U H) ∧ (va_Z "java/lang/String" "COMPACT_STRINGS" "Z" (.int 1) A U H) ∧ (va_Z "jdk/internal/util/Preconditions" "SIOOBE_FORMATTER" "Ljava/util/function/BiFunction;" .null A U H ∨ va_Z "jdk/internal/util/Preconditions" "SIOOBE_FORMATTER" "Ljava/util/function/BiFunction;" (.ref (ad 400)) A U H) ∧ (va_Z "QuipuKeepersLaw" "NAMES" "[Ljava/lang/String;" (.ref (ad 401)) A U H) ∧ (va_T (.object "java/lang/String") (ad 401) 12 (fun j => .ref (ad (236 + j))) A U H) ∧ (vk_R RX8 36 (kTxt.getD 28 "") (ad 228) U) ∧ (vk_R RX8 87 (kTxt.getD 29 "") (ad 229) U) ∧ (∀ q ∈ lawK, vk_R RL q.1 (kTxt.getD q.2 "") (ad (200 + q.2)) U) ∧ (va_T .int (ad 500) (ad 501) (fun j => .int (sxI ad j)) A U H) ∧ (ad 501 ≤ 260) ∧ (ad 603 = 0 ∨ TX (ad 600) (ad 601) (ad 602) (txN ad) A U H)
theorem RO.nw {ad : Nat → Nat} {A : Nat → Prop} {U : State} {H : Heap} (h : RO ad A U H) : NW U := h.1
theorem RO.str {ad : Nat → Nat} {A : Nat → Prop} {U : State} {H : Heap} (h : RO ad A U H) : vk_S 48 kLen kByt (fun i => ad (200 + i)) (fun i => ad (300 + i)) A U H := h.2.1
theorem RO.cs {ad : Nat → Nat} {A : Nat → Prop} {U : State} {H : Heap} (h : RO ad A U H) : va_Z "java/lang/String" "COMPACT_STRINGS" "Z" (.int 1) A U H := h.2.2.1
theorem RO.fmt {ad : Nat → Nat} {A : Nat → Prop} {U : State} {H : Heap} (h : RO ad A U H) : va_Z "jdk/internal/util/Preconditions" "SIOOBE_FORMATTER" "Ljava/util/function/BiFunction;" .null A U H ∨ va_Z "jdk/internal/util/Preconditions" "SIOOBE_FORMATTER" "Ljava/util/function/BiFunction;" (.ref (ad 400)) A U H := h.2.2.2.1
theorem RO.nms {ad : Nat → Nat} {A : Nat → Prop} {U : State} {H : Heap} (h : RO ad A U H) : va_Z "QuipuKeepersLaw" "NAMES" "[Ljava/lang/String;" (.ref (ad 401)) A U H := h.2.2.2.2.1
theorem RO.nmT {ad : Nat → Nat} {A : Nat → Prop} {U : State} {H : Heap} (h : RO ad A U H) : va_T (.object "java/lang/String") (ad 401) 12 (fun j => .ref (ad (236 + j))) A U H := h.2.2.2.2.2.1
theorem RO.kwR {ad : Nat → Nat} {A : Nat → Prop} {U : State} {H : Heap} (h : RO ad A U H) : vk_R RX8 36 (kTxt.getD 28 "") (ad 228) U := h.2.2.2.2.2.2.1
theorem RO.syR {ad : Nat → Nat} {A : Nat → Prop} {U : State} {H : Heap} (h : RO ad A U H) : vk_R RX8 87 (kTxt.getD 29 "") (ad 229) U := h.2.2.2.2.2.2.2.1
theorem RO.lwR {ad : Nat → Nat} {A : Nat → Prop} {U : State} {H : Heap} (h : RO ad A U H) : ∀ q ∈ lawK, vk_R RL q.1 (kTxt.getD q.2 "") (ad (200 + q.2)) U := h.2.2.2.2.2.2.2.2.1
theorem RO.sx {ad : Nat → Nat} {A : Nat → Prop} {U : State} {H : Heap} (h : RO ad A U H) : va_T .int (ad 500) (ad 501) (fun j => .int (sxI ad j)) A U H := h.2.2.2.2.2.2.2.2.2.1
theorem RO.sl {ad : Nat → Nat} {A : Nat → Prop} {U : State} {H : Heap} (h : RO ad A U H) : ad 501 ≤ 260 := h.2.2.2.2.2.2.2.2.2.2.1
theorem RO.tx {ad : Nat → Nat} {A : Nat → Prop} {U : State} {H : Heap} (h : RO ad A U H) : ad 603 = 0 ∨ TX (ad 600) (ad 601) (ad 602) (txN ad) A U H := h.2.2.2.2.2.2.2.2.2.2.2
theorem RO.mk {ad : Nat → Nat} {A : Nat → Prop} {U : State} {H : Heap} (h0 : NW U) (h1 : vk_S 48 kLen kByt (fun i => ad (200 + i)) (fun i => ad (300 + i)) A U H) (h2 : va_Z "java/lang/String" "COMPACT_STRINGS" "Z" (.int 1) A U H) (h3 : va_Z "jdk/internal/util/Preconditions" "SIOOBE_FORMATTER" "Ljava/util/function/BiFunction;" .null A U H ∨ va_Z "jdk/internal/util/Preconditions" "SIOOBE_FORMATTER" "Ljava/util/function/BiFunction;" (.ref (ad 400)) A U H) (h4 : va_Z "QuipuKeepersLaw" "NAMES" "[Ljava/lang/String;" (.ref (ad 401)) A U H) (h5 : va_T (.object "java/lang/String") (ad 401) 12 (fun j => .ref (ad (236 + j))) A U H) (h6 : vk_R RX8 36 (kTxt.getD 28 "") (ad 228) U) (h7 : vk_R RX8 87 (kTxt.getD 29 "") (ad 229) U) (h8 : ∀ q ∈ lawK, vk_R RL q.1 (kTxt.getD q.2 "") (ad (200 + q.2)) U) (h9 : va_T .int (ad 500) (ad 501) (fun j => .int (sxI ad j)) A U H) (h10 : ad 501 ≤ 260) (h11 : ad 603 = 0 ∨ TX (ad 600) (ad 601) (ad 602) (txN ad) A U H) : RO ad A U H := ⟨h0, h1, h2, h3, h4, h5, h6, h7, h8, h9, h10, h11⟩
theorem RO.call {ad : Nat → Nat} {A A1 : Nat → Prop} {s U : State} {H : Heap} {locs : List Loc} (h : RO ad A s s.heap) (hS : va_S A s.heap H locs) (hW : s.WarmedH U.vm) (hU : U.heap = H) (hA : ∀ q, A1 q → A q) : RO ad A1 U U.heap := by
  subst hU
  have z : ∀ {C n d : String} {v : Value}, va_Z C n d v A s s.heap → va_Z C n d v A1 U U.heap := fun q => ((q.kept hS.2.1).moved hW.alike).narrow hA
  exact RO.mk (h.nw.warm hW) (((h.str.kept hS.2.1).moved hW.alike).narrow hA) (z h.cs) (h.fmt.elim (fun q => .inl (z q)) (fun q => .inr (z q))) (z h.nms) (((h.nmT.kept hS.2.1).moved hW.alike).narrow hA) (h.kwR.warm hW) (h.syR.warm hW) (fun q hq => (h.lwR q hq).warm hW) (((h.sx.kept hS.2.1).moved hW.alike).narrow hA) h.sl (h.tx.elim Or.inl (fun q => Or.inr (((q.kept hS.2.1).moved hW.alike).narrow hA)))
theorem RO.calling {ad : Nat → Nat} {A : Nat → Prop} {U : State} {g : JFrame} {mk : MethodId} {a : Array Value} (h : RO ad A U U.heap) : RO ad A (U.calling g mk a) (U.calling g mk a).heap := by
  have hv : U.vm.Alike (U.calling g mk a).vm := Vm.Alike.refl U.vm
  have z : ∀ {C n d : String} {v : Value}, va_Z C n d v A U U.heap → va_Z C n d v A (U.calling g mk a) (U.calling g mk a).heap := fun q => q.moved hv
  exact RO.mk (h.nw.same rfl) (h.str.moved hv) (z h.cs) (h.fmt.elim (fun q => .inl (z q)) (fun q => .inr (z q))) (z h.nms) (h.nmT.moved hv) (h.kwR.same rfl) (h.syR.same rfl) (fun q hq => (h.lwR q hq).same rfl) (h.sx.moved hv) h.sl (h.tx.elim Or.inl (fun q => Or.inr (q.moved hv)))
def Vc (own : String) (cc : ByteArray) (nL : Nat) (ret : Option FieldType) (d : Nat) (Γ : Cx) : Prop := match Γ with
  | (p, _, _, R, s, m, args, _, meth, c, ad, dC, dI, cy, A) => p.tables.exec = Jvm.exec ∧ c.code = cc ∧ c.maxLocals = nL ∧ meth.sig.returnType = ret ∧ s.vm.findClass own = some m.cls ∧ (∀ w ∈ bigW, w.before args s = true) ∧ meth.locks = false ∧ va_K (dC, dI) vwCl (tysO cy) s ∧ (∀ q, s.heap.size ≤ q → A q) ∧ (∀ i j, i < 80 → j < 80 → ad i = ad j → i = j) ∧ (∀ i, i < 80 → A (ad i)) ∧ d ≤ R.frames ∧ 64 * d ≤ R.locals ∧ RO ad A s s.heap
def VG (Γ : Cx) (kc kn pc : Nat) (lv : List (Option Value)) (st : List Value) (I : MI) (J : MJ) (P : MP) (Φ : State → Prop) : Prop := match Γ with
  | (p, l, e, R, s, m, args, below, meth, c, ad, dC, dI, cy, A) => ∀ (H : Heap) (locs : List Loc) (ls : Array Slot), va_P (dC, dI) vwCl (wsO ad cy I J P) H → va_S A s.heap H locs → lv_has ls c.maxLocals (asl ad 0 lv) → W p l e R s m args below meth c H locs kc kn Φ (F0 m pc ls (st.map (vmap ad)))

theorem wsO_D {ad : Nat → Nat} {cy : Nat → ClassId} {I : MI} {J : MJ} {P : MP} {A : Nat → Prop} (h1 : ∀ i j, i < 80 → j < 80 → ad i = ad j → i = j) (h2 : ∀ i, i < 80 → A (ad i)) : va_D A (wsO ad cy I J P) := by
  refine ⟨fun i j p q hp hq e => ?_, fun k q hq => ?_⟩
  · obtain ⟨a1, rfl⟩ := wsO_ix hp
    obtain ⟨a2, rfl⟩ := wsO_ix hq
    exact h1 i j a1 a2 e
  · obtain ⟨a1, rfl⟩ := wsO_ix hq
    exact h2 k a1
/-- how a method of the pure view ends -/
def Qn (ad : Nat → Nat) (dC : Nat → ClassId) (dI : Nat → Nat → Nat) (cy : Nat → ClassId) (A : Nat → Prop) (Q : Option Value → MI → MJ → MP → Prop) : Array Value → State → Outcome → State → Prop := fun _ st oc t => (∃ r I J P, oc = .returned (r.map (vmap ad)) ∧ Q r I J P ∧ va_P (dC, dI) vwCl (wsO ad cy I J P) t.heap ∧ va_K (dC, dI) vwCl (tysO cy) t) ∧ va_F A st t
def Fnl (Γ : Cx) (Q : Option Value → MI → MJ → MP → Prop) : State → Prop := match Γ with
  | (_, _, _, _, s, _, args, below, _, _, ad, dC, dI, cy, A) => MQ below (Qn ad dC dI cy A Q) args s 0 0 A
theorem fnl_eq {p : Program} {l : Launch} {e : Env} {R : Room} {s : State} {m : MethodId} {args : Array Value} {below : List Frame} {meth : Method} {c : Code} {ad : Nat → Nat} {dC : Nat → ClassId} {dI : Nat → Nat → Nat} {cy : Nat → ClassId} {A : Nat → Prop} {Q : Option Value → MI → MJ → MP → Prop} : Fnl (p, l, e, R, s, m, args, below, meth, c, ad, dC, dI, cy, A) Q = MQ below (Qn ad dC dI cy A Q) args s 0 0 A := rfl

section GR
variable {own : String} {cc : ByteArray} {nL d kc kn pc : Nat} {ret : Option FieldType} {Γ : Cx} {lv : List (Option Value)} {st : List Value} {I : MI} {J : MJ} {P : MP} {Φ : State → Prop}
theorem g_iconst (h : Vc own cc nL ret d Γ) {n : Int} {v : Int32} (hd : decode cc pc = .ok (.iconst n, 1)) (hv : Int32.ofInt n = v) (k : VG Γ kc kn (pc + 1) lv (.int v :: st) I J P Φ) : VG Γ kc kn pc lv st I J P Φ := by
  obtain ⟨p, l, e, R, s, m, args, below, meth, c, ad, dC, dI, cy, A⟩ := Γ
  obtain ⟨hx, hb, hml, hr, hown, hts, hlk, hK, hA, hin, hAd, hf, hlo, hRO⟩ := h
  intro H locs ls hP hS hl
  exact lv_iconst hx hb hd hv (k H locs ls hP hS hl)
theorem g_bipush (h : Vc own cc nL ret d Γ) {n : Int} {v : Int32} (hd : decode cc pc = .ok (.bipush n, 2)) (hv : (Int8.ofInt n).toInt32 = v) (k : VG Γ kc kn (pc + 2) lv (.int v :: st) I J P Φ) : VG Γ kc kn pc lv st I J P Φ := by
  obtain ⟨p, l, e, R, s, m, args, below, meth, c, ad, dC, dI, cy, A⟩ := Γ
  obtain ⟨hx, hb, hml, hr, hown, hts, hlk, hK, hA, hin, hAd, hf, hlo, hRO⟩ := h
  intro H locs ls hP hS hl
  exact lv_bipush hx hb hd hv (k H locs ls hP hS hl)
theorem g_sipush (h : Vc own cc nL ret d Γ) {n : Int} {v : Int32} (hd : decode cc pc = .ok (.sipush n, 3)) (hv : (Int16.ofInt n).toInt32 = v) (k : VG Γ kc kn (pc + 3) lv (.int v :: st) I J P Φ) : VG Γ kc kn pc lv st I J P Φ := by
  obtain ⟨p, l, e, R, s, m, args, below, meth, c, ad, dC, dI, cy, A⟩ := Γ
  obtain ⟨hx, hb, hml, hr, hown, hts, hlk, hK, hA, hin, hAd, hf, hlo, hRO⟩ := h
  intro H locs ls hP hS hl
  exact lv_sipush hx hb hd hv (k H locs ls hP hS hl)
theorem g_lconst (h : Vc own cc nL ret d Γ) {n : Fin 2} {v : Int64} (hd : decode cc pc = .ok (.lconst n, 1)) (hv : Int64.ofNat (n : Nat) = v) (k : VG Γ kc kn (pc + 1) lv (.long v :: st) I J P Φ) : VG Γ kc kn pc lv st I J P Φ := by
  obtain ⟨p, l, e, R, s, m, args, below, meth, c, ad, dC, dI, cy, A⟩ := Γ
  obtain ⟨hx, hb, hml, hr, hown, hts, hlk, hK, hA, hin, hAd, hf, hlo, hRO⟩ := h
  intro H locs ls hP hS hl
  exact lv_lconst hx hb hd hv (k H locs ls hP hS hl)
theorem g_ldcI (h : Vc own cc nL ret d Γ) {n : Nat} {v : Int32} (hd : decode cc pc = .ok (.ldc n, 2)) (hw : Cond.constant own n v ∈ bigW) (k : VG Γ kc kn (pc + 2) lv (.int v :: st) I J P Φ) : VG Γ kc kn pc lv st I J P Φ := by
  obtain ⟨p, l, e, R, s, m, args, below, meth, c, ad, dC, dI, cy, A⟩ := Γ
  obtain ⟨hx, hb, hml, hr, hown, hts, hlk, hK, hA, hin, hAd, hf, hlo, hRO⟩ := h
  intro H locs ls hP hS hl
  exact lv_ldc hx hb hown (hts _ hw) hd (k H locs ls hP hS hl)
theorem g_ldc2 (h : Vc own cc nL ret d Γ) {n : Nat} {v : Int64} (hd : decode cc pc = .ok (.ldc2_w n, 3)) (hw : Cond.constantLong own n v ∈ bigW) (k : VG Γ kc kn (pc + 3) lv (.long v :: st) I J P Φ) : VG Γ kc kn pc lv st I J P Φ := by
  obtain ⟨p, l, e, R, s, m, args, below, meth, c, ad, dC, dI, cy, A⟩ := Γ
  obtain ⟨hx, hb, hml, hr, hown, hts, hlk, hK, hA, hin, hAd, hf, hlo, hRO⟩ := h
  intro H locs ls hP hS hl
  exact lv_ldc2 hx hb hown (hts _ hw) hd (k H locs ls hP hS hl)
theorem g_iadd (h : Vc own cc nL ret d Γ) {x y : Int32} (hd : decode cc pc = .ok (.iadd, 1)) (k : VG Γ kc kn (pc + 1) lv (.int (x + y) :: st) I J P Φ) : VG Γ kc kn pc lv (.int y :: .int x :: st) I J P Φ := by
  obtain ⟨p, l, e, R, s, m, args, below, meth, c, ad, dC, dI, cy, A⟩ := Γ
  obtain ⟨hx, hb, hml, hr, hown, hts, hlk, hK, hA, hin, hAd, hf, hlo, hRO⟩ := h
  intro H locs ls hP hS hl
  exact lv_iadd hx hb hd (k H locs ls hP hS hl)
theorem g_isub (h : Vc own cc nL ret d Γ) {x y : Int32} (hd : decode cc pc = .ok (.isub, 1)) (k : VG Γ kc kn (pc + 1) lv (.int (x - y) :: st) I J P Φ) : VG Γ kc kn pc lv (.int y :: .int x :: st) I J P Φ := by
  obtain ⟨p, l, e, R, s, m, args, below, meth, c, ad, dC, dI, cy, A⟩ := Γ
  obtain ⟨hx, hb, hml, hr, hown, hts, hlk, hK, hA, hin, hAd, hf, hlo, hRO⟩ := h
  intro H locs ls hP hS hl
  exact lv_isub hx hb hd (k H locs ls hP hS hl)
theorem g_imul (h : Vc own cc nL ret d Γ) {x y : Int32} (hd : decode cc pc = .ok (.imul, 1)) (k : VG Γ kc kn (pc + 1) lv (.int (x * y) :: st) I J P Φ) : VG Γ kc kn pc lv (.int y :: .int x :: st) I J P Φ := by
  obtain ⟨p, l, e, R, s, m, args, below, meth, c, ad, dC, dI, cy, A⟩ := Γ
  obtain ⟨hx, hb, hml, hr, hown, hts, hlk, hK, hA, hin, hAd, hf, hlo, hRO⟩ := h
  intro H locs ls hP hS hl
  exact lv_imul hx hb hd (k H locs ls hP hS hl)
theorem g_iand (h : Vc own cc nL ret d Γ) {x y : Int32} (hd : decode cc pc = .ok (.iand, 1)) (k : VG Γ kc kn (pc + 1) lv (.int (x &&& y) :: st) I J P Φ) : VG Γ kc kn pc lv (.int y :: .int x :: st) I J P Φ := by
  obtain ⟨p, l, e, R, s, m, args, below, meth, c, ad, dC, dI, cy, A⟩ := Γ
  obtain ⟨hx, hb, hml, hr, hown, hts, hlk, hK, hA, hin, hAd, hf, hlo, hRO⟩ := h
  intro H locs ls hP hS hl
  exact lv_iand hx hb hd (k H locs ls hP hS hl)
theorem g_ior (h : Vc own cc nL ret d Γ) {x y : Int32} (hd : decode cc pc = .ok (.ior, 1)) (k : VG Γ kc kn (pc + 1) lv (.int (x ||| y) :: st) I J P Φ) : VG Γ kc kn pc lv (.int y :: .int x :: st) I J P Φ := by
  obtain ⟨p, l, e, R, s, m, args, below, meth, c, ad, dC, dI, cy, A⟩ := Γ
  obtain ⟨hx, hb, hml, hr, hown, hts, hlk, hK, hA, hin, hAd, hf, hlo, hRO⟩ := h
  intro H locs ls hP hS hl
  exact lv_ior hx hb hd (k H locs ls hP hS hl)
theorem g_ishr (h : Vc own cc nL ret d Γ) {x y : Int32} (hd : decode cc pc = .ok (.ishr, 1)) (k : VG Γ kc kn (pc + 1) lv (.int (x >>> (y &&& 31)) :: st) I J P Φ) : VG Γ kc kn pc lv (.int y :: .int x :: st) I J P Φ := by
  obtain ⟨p, l, e, R, s, m, args, below, meth, c, ad, dC, dI, cy, A⟩ := Γ
  obtain ⟨hx, hb, hml, hr, hown, hts, hlk, hK, hA, hin, hAd, hf, hlo, hRO⟩ := h
  intro H locs ls hP hS hl
  exact lv_ishr hx hb hd (k H locs ls hP hS hl)
theorem g_iushr (h : Vc own cc nL ret d Γ) {x y v : Int32} (hd : decode cc pc = .ok (.iushr, 1)) (hv : (x.toUInt32 >>> (y.toUInt32 &&& Int32.toUInt32 31)).toInt32 = v) (k : VG Γ kc kn (pc + 1) lv (.int v :: st) I J P Φ) : VG Γ kc kn pc lv (.int y :: .int x :: st) I J P Φ := by
  obtain ⟨p, l, e, R, s, m, args, below, meth, c, ad, dC, dI, cy, A⟩ := Γ
  obtain ⟨hx, hb, hml, hr, hown, hts, hlk, hK, hA, hin, hAd, hf, hlo, hRO⟩ := h
  intro H locs ls hP hS hl
  exact lv_iushr hx hb hd hv (k H locs ls hP hS hl)
theorem g_idiv (h : Vc own cc nL ret d Γ) {x y : Int32} (hd : decode cc pc = .ok (.idiv, 1)) (hne : ¬ y = 0) (k : VG Γ kc kn (pc + 1) lv (.int (x / y) :: st) I J P Φ) : VG Γ kc kn pc lv (.int y :: .int x :: st) I J P Φ := by
  obtain ⟨p, l, e, R, s, m, args, below, meth, c, ad, dC, dI, cy, A⟩ := Γ
  obtain ⟨hx, hb, hml, hr, hown, hts, hlk, hK, hA, hin, hAd, hf, hlo, hRO⟩ := h
  intro H locs ls hP hS hl
  exact lv_idiv hx hb hd hne (k H locs ls hP hS hl)
theorem g_irem (h : Vc own cc nL ret d Γ) {x y : Int32} (hd : decode cc pc = .ok (.irem, 1)) (hne : ¬ y = 0) (k : VG Γ kc kn (pc + 1) lv (.int (x - x / y * y) :: st) I J P Φ) : VG Γ kc kn pc lv (.int y :: .int x :: st) I J P Φ := by
  obtain ⟨p, l, e, R, s, m, args, below, meth, c, ad, dC, dI, cy, A⟩ := Γ
  obtain ⟨hx, hb, hml, hr, hown, hts, hlk, hK, hA, hin, hAd, hf, hlo, hRO⟩ := h
  intro H locs ls hP hS hl
  exact lv_irem hx hb hd hne (k H locs ls hP hS hl)
theorem g_ineg (h : Vc own cc nL ret d Γ) {x : Int32} (hd : decode cc pc = .ok (.ineg, 1)) (k : VG Γ kc kn (pc + 1) lv (.int (-x) :: st) I J P Φ) : VG Γ kc kn pc lv (.int x :: st) I J P Φ := by
  obtain ⟨p, l, e, R, s, m, args, below, meth, c, ad, dC, dI, cy, A⟩ := Γ
  obtain ⟨hx, hb, hml, hr, hown, hts, hlk, hK, hA, hin, hAd, hf, hlo, hRO⟩ := h
  intro H locs ls hP hS hl
  exact lv_ineg hx hb hd (k H locs ls hP hS hl)
theorem g_ladd (h : Vc own cc nL ret d Γ) {x y : Int64} (hd : decode cc pc = .ok (.ladd, 1)) (k : VG Γ kc kn (pc + 1) lv (.long (x + y) :: st) I J P Φ) : VG Γ kc kn pc lv (.long y :: .long x :: st) I J P Φ := by
  obtain ⟨p, l, e, R, s, m, args, below, meth, c, ad, dC, dI, cy, A⟩ := Γ
  obtain ⟨hx, hb, hml, hr, hown, hts, hlk, hK, hA, hin, hAd, hf, hlo, hRO⟩ := h
  intro H locs ls hP hS hl
  exact lv_ladd hx hb hd (k H locs ls hP hS hl)
theorem g_lsub (h : Vc own cc nL ret d Γ) {x y : Int64} (hd : decode cc pc = .ok (.lsub, 1)) (k : VG Γ kc kn (pc + 1) lv (.long (x - y) :: st) I J P Φ) : VG Γ kc kn pc lv (.long y :: .long x :: st) I J P Φ := by
  obtain ⟨p, l, e, R, s, m, args, below, meth, c, ad, dC, dI, cy, A⟩ := Γ
  obtain ⟨hx, hb, hml, hr, hown, hts, hlk, hK, hA, hin, hAd, hf, hlo, hRO⟩ := h
  intro H locs ls hP hS hl
  exact lv_lsub hx hb hd (k H locs ls hP hS hl)
theorem g_lmul (h : Vc own cc nL ret d Γ) {x y : Int64} (hd : decode cc pc = .ok (.lmul, 1)) (k : VG Γ kc kn (pc + 1) lv (.long (x * y) :: st) I J P Φ) : VG Γ kc kn pc lv (.long y :: .long x :: st) I J P Φ := by
  obtain ⟨p, l, e, R, s, m, args, below, meth, c, ad, dC, dI, cy, A⟩ := Γ
  obtain ⟨hx, hb, hml, hr, hown, hts, hlk, hK, hA, hin, hAd, hf, hlo, hRO⟩ := h
  intro H locs ls hP hS hl
  exact lv_lmul hx hb hd (k H locs ls hP hS hl)
theorem g_lcmp (h : Vc own cc nL ret d Γ) {x y : Int64} (hd : decode cc pc = .ok (.lcmp, 1)) (k : VG Γ kc kn (pc + 1) lv (.int (lg_cmp x y) :: st) I J P Φ) : VG Γ kc kn pc lv (.long y :: .long x :: st) I J P Φ := by
  obtain ⟨p, l, e, R, s, m, args, below, meth, c, ad, dC, dI, cy, A⟩ := Γ
  obtain ⟨hx, hb, hml, hr, hown, hts, hlk, hK, hA, hin, hAd, hf, hlo, hRO⟩ := h
  intro H locs ls hP hS hl
  exact W.lcmp hx hb hd (k H locs ls hP hS hl)
theorem g_i2l (h : Vc own cc nL ret d Γ) {x : Int32} (hd : decode cc pc = .ok (.i2l, 1)) (k : VG Γ kc kn (pc + 1) lv (.long x.toInt64 :: st) I J P Φ) : VG Γ kc kn pc lv (.int x :: st) I J P Φ := by
  obtain ⟨p, l, e, R, s, m, args, below, meth, c, ad, dC, dI, cy, A⟩ := Γ
  obtain ⟨hx, hb, hml, hr, hown, hts, hlk, hK, hA, hin, hAd, hf, hlo, hRO⟩ := h
  intro H locs ls hP hS hl
  exact lv_i2l hx hb hd rfl (k H locs ls hP hS hl)
theorem g_l2i (h : Vc own cc nL ret d Γ) {x : Int64} (hd : decode cc pc = .ok (.l2i, 1)) (k : VG Γ kc kn (pc + 1) lv (.int x.toInt32 :: st) I J P Φ) : VG Γ kc kn pc lv (.long x :: st) I J P Φ := by
  obtain ⟨p, l, e, R, s, m, args, below, meth, c, ad, dC, dI, cy, A⟩ := Γ
  obtain ⟨hx, hb, hml, hr, hown, hts, hlk, hK, hA, hin, hAd, hf, hlo, hRO⟩ := h
  intro H locs ls hP hS hl
  exact lv_l2i hx hb hd rfl (k H locs ls hP hS hl)
theorem g_i2b (h : Vc own cc nL ret d Γ) {x : Int32} (hd : decode cc pc = .ok (.i2b, 1)) (k : VG Γ kc kn (pc + 1) lv (.int x.toInt8.toInt32 :: st) I J P Φ) : VG Γ kc kn pc lv (.int x :: st) I J P Φ := by
  obtain ⟨p, l, e, R, s, m, args, below, meth, c, ad, dC, dI, cy, A⟩ := Γ
  obtain ⟨hx, hb, hml, hr, hown, hts, hlk, hK, hA, hin, hAd, hf, hlo, hRO⟩ := h
  intro H locs ls hP hS hl
  exact lv_i2b hx hb hd rfl (k H locs ls hP hS hl)
theorem g_i2c (h : Vc own cc nL ret d Γ) {x : Int32} (hd : decode cc pc = .ok (.i2c, 1)) (k : VG Γ kc kn (pc + 1) lv (.int (x.toUInt32 % 65536).toInt32 :: st) I J P Φ) : VG Γ kc kn pc lv (.int x :: st) I J P Φ := by
  obtain ⟨p, l, e, R, s, m, args, below, meth, c, ad, dC, dI, cy, A⟩ := Γ
  obtain ⟨hx, hb, hml, hr, hown, hts, hlk, hK, hA, hin, hAd, hf, hlo, hRO⟩ := h
  intro H locs ls hP hS hl
  exact lv_i2c hx hb hd rfl (k H locs ls hP hS hl)
theorem g_dup (h : Vc own cc nL ret d Γ) {v : Value} (hd : decode cc pc = .ok (.dup, 1)) (hc : v.category = 1) (k : VG Γ kc kn (pc + 1) lv (v :: v :: st) I J P Φ) : VG Γ kc kn pc lv (v :: st) I J P Φ := by
  obtain ⟨p, l, e, R, s, m, args, below, meth, c, ad, dC, dI, cy, A⟩ := Γ
  obtain ⟨hx, hb, hml, hr, hown, hts, hlk, hK, hA, hin, hAd, hf, hlo, hRO⟩ := h
  intro H locs ls hP hS hl
  exact lv_dup hx hb hd ((vmap_cat ad v).trans hc) (k H locs ls hP hS hl)
theorem g_dup2 (h : Vc own cc nL ret d Γ) {v w : Value} (hd : decode cc pc = .ok (.dup2, 1)) (hc : v.category = 1) (hc2 : w.category = 1) (k : VG Γ kc kn (pc + 1) lv (v :: w :: v :: w :: st) I J P Φ) : VG Γ kc kn pc lv (v :: w :: st) I J P Φ := by
  obtain ⟨p, l, e, R, s, m, args, below, meth, c, ad, dC, dI, cy, A⟩ := Γ
  obtain ⟨hx, hb, hml, hr, hown, hts, hlk, hK, hA, hin, hAd, hf, hlo, hRO⟩ := h
  intro H locs ls hP hS hl
  exact lv_dup2_11 hx hb hd ((vmap_cat ad v).trans hc) ((vmap_cat ad w).trans hc2) (k H locs ls hP hS hl)
theorem g_pop (h : Vc own cc nL ret d Γ) {v : Value} (hd : decode cc pc = .ok (.pop, 1)) (hc : v.category = 1) (k : VG Γ kc kn (pc + 1) lv st I J P Φ) : VG Γ kc kn pc lv (v :: st) I J P Φ := by
  obtain ⟨p, l, e, R, s, m, args, below, meth, c, ad, dC, dI, cy, A⟩ := Γ
  obtain ⟨hx, hb, hml, hr, hown, hts, hlk, hK, hA, hin, hAd, hf, hlo, hRO⟩ := h
  intro H locs ls hP hS hl
  exact lv_pop hx hb hd ((vmap_cat ad v).trans hc) (k H locs ls hP hS hl)
theorem g_if_eq (h : Vc own cc nL ret d Γ) {x : Int32} {off : Int} (tgt : Nat) (hd : decode cc pc = .ok (.ifCond .eq off, 3)) (ht : (pc : Int) + off = (tgt : Int)) (kt : x = 0 → VG Γ kc kn tgt lv st I J P Φ) (kf : ¬ (x = 0) → VG Γ kc kn (pc + 3) lv st I J P Φ) : VG Γ kc kn pc lv (.int x :: st) I J P Φ := by
  obtain ⟨p, l, e, R, s, m, args, below, meth, c, ad, dC, dI, cy, A⟩ := Γ
  obtain ⟨hx, hb, hml, hr, hown, hts, hlk, hK, hA, hin, hAd, hf, hlo, hRO⟩ := h
  intro H locs ls hP hS hl
  exact lv_if_eq hx hb hd ht (fun q => kt q H locs ls hP hS hl) (fun q => kf q H locs ls hP hS hl)
theorem g_icmp_eq (h : Vc own cc nL ret d Γ) {x y : Int32} {off : Int} (tgt : Nat) (hd : decode cc pc = .ok (.if_icmp .eq off, 3)) (ht : (pc : Int) + off = (tgt : Int)) (kt : x = y → VG Γ kc kn tgt lv st I J P Φ) (kf : ¬ (x = y) → VG Γ kc kn (pc + 3) lv st I J P Φ) : VG Γ kc kn pc lv (.int y :: .int x :: st) I J P Φ := by
  obtain ⟨p, l, e, R, s, m, args, below, meth, c, ad, dC, dI, cy, A⟩ := Γ
  obtain ⟨hx, hb, hml, hr, hown, hts, hlk, hK, hA, hin, hAd, hf, hlo, hRO⟩ := h
  intro H locs ls hP hS hl
  exact lv_icmp_eq hx hb hd ht (fun q => kt q H locs ls hP hS hl) (fun q => kf q H locs ls hP hS hl)
theorem g_if_ne (h : Vc own cc nL ret d Γ) {x : Int32} {off : Int} (tgt : Nat) (hd : decode cc pc = .ok (.ifCond .ne off, 3)) (ht : (pc : Int) + off = (tgt : Int)) (kt : ¬ x = 0 → VG Γ kc kn tgt lv st I J P Φ) (kf : x = 0 → VG Γ kc kn (pc + 3) lv st I J P Φ) : VG Γ kc kn pc lv (.int x :: st) I J P Φ := by
  obtain ⟨p, l, e, R, s, m, args, below, meth, c, ad, dC, dI, cy, A⟩ := Γ
  obtain ⟨hx, hb, hml, hr, hown, hts, hlk, hK, hA, hin, hAd, hf, hlo, hRO⟩ := h
  intro H locs ls hP hS hl
  exact lv_if_ne hx hb hd ht (fun q => kt q H locs ls hP hS hl) (fun q => kf q H locs ls hP hS hl)
theorem g_icmp_ne (h : Vc own cc nL ret d Γ) {x y : Int32} {off : Int} (tgt : Nat) (hd : decode cc pc = .ok (.if_icmp .ne off, 3)) (ht : (pc : Int) + off = (tgt : Int)) (kt : ¬ x = y → VG Γ kc kn tgt lv st I J P Φ) (kf : x = y → VG Γ kc kn (pc + 3) lv st I J P Φ) : VG Γ kc kn pc lv (.int y :: .int x :: st) I J P Φ := by
  obtain ⟨p, l, e, R, s, m, args, below, meth, c, ad, dC, dI, cy, A⟩ := Γ
  obtain ⟨hx, hb, hml, hr, hown, hts, hlk, hK, hA, hin, hAd, hf, hlo, hRO⟩ := h
  intro H locs ls hP hS hl
  exact lv_icmp_ne hx hb hd ht (fun q => kt q H locs ls hP hS hl) (fun q => kf q H locs ls hP hS hl)
theorem g_if_lt (h : Vc own cc nL ret d Γ) {x : Int32} {off : Int} (tgt : Nat) (hd : decode cc pc = .ok (.ifCond .lt off, 3)) (ht : (pc : Int) + off = (tgt : Int)) (kt : x < 0 → VG Γ kc kn tgt lv st I J P Φ) (kf : ¬ (x < 0) → VG Γ kc kn (pc + 3) lv st I J P Φ) : VG Γ kc kn pc lv (.int x :: st) I J P Φ := by
  obtain ⟨p, l, e, R, s, m, args, below, meth, c, ad, dC, dI, cy, A⟩ := Γ
  obtain ⟨hx, hb, hml, hr, hown, hts, hlk, hK, hA, hin, hAd, hf, hlo, hRO⟩ := h
  intro H locs ls hP hS hl
  exact lv_if_lt hx hb hd ht (fun q => kt q H locs ls hP hS hl) (fun q => kf q H locs ls hP hS hl)
theorem g_icmp_lt (h : Vc own cc nL ret d Γ) {x y : Int32} {off : Int} (tgt : Nat) (hd : decode cc pc = .ok (.if_icmp .lt off, 3)) (ht : (pc : Int) + off = (tgt : Int)) (kt : x < y → VG Γ kc kn tgt lv st I J P Φ) (kf : ¬ (x < y) → VG Γ kc kn (pc + 3) lv st I J P Φ) : VG Γ kc kn pc lv (.int y :: .int x :: st) I J P Φ := by
  obtain ⟨p, l, e, R, s, m, args, below, meth, c, ad, dC, dI, cy, A⟩ := Γ
  obtain ⟨hx, hb, hml, hr, hown, hts, hlk, hK, hA, hin, hAd, hf, hlo, hRO⟩ := h
  intro H locs ls hP hS hl
  exact lv_icmp_lt hx hb hd ht (fun q => kt q H locs ls hP hS hl) (fun q => kf q H locs ls hP hS hl)
theorem g_if_ge (h : Vc own cc nL ret d Γ) {x : Int32} {off : Int} (tgt : Nat) (hd : decode cc pc = .ok (.ifCond .ge off, 3)) (ht : (pc : Int) + off = (tgt : Int)) (kt : 0 ≤ x → VG Γ kc kn tgt lv st I J P Φ) (kf : ¬ (0 ≤ x) → VG Γ kc kn (pc + 3) lv st I J P Φ) : VG Γ kc kn pc lv (.int x :: st) I J P Φ := by
  obtain ⟨p, l, e, R, s, m, args, below, meth, c, ad, dC, dI, cy, A⟩ := Γ
  obtain ⟨hx, hb, hml, hr, hown, hts, hlk, hK, hA, hin, hAd, hf, hlo, hRO⟩ := h
  intro H locs ls hP hS hl
  exact lv_if_ge hx hb hd ht (fun q => kt q H locs ls hP hS hl) (fun q => kf q H locs ls hP hS hl)
theorem g_icmp_ge (h : Vc own cc nL ret d Γ) {x y : Int32} {off : Int} (tgt : Nat) (hd : decode cc pc = .ok (.if_icmp .ge off, 3)) (ht : (pc : Int) + off = (tgt : Int)) (kt : y ≤ x → VG Γ kc kn tgt lv st I J P Φ) (kf : ¬ (y ≤ x) → VG Γ kc kn (pc + 3) lv st I J P Φ) : VG Γ kc kn pc lv (.int y :: .int x :: st) I J P Φ := by
  obtain ⟨p, l, e, R, s, m, args, below, meth, c, ad, dC, dI, cy, A⟩ := Γ
  obtain ⟨hx, hb, hml, hr, hown, hts, hlk, hK, hA, hin, hAd, hf, hlo, hRO⟩ := h
  intro H locs ls hP hS hl
  exact lv_icmp_ge hx hb hd ht (fun q => kt q H locs ls hP hS hl) (fun q => kf q H locs ls hP hS hl)
theorem g_if_gt (h : Vc own cc nL ret d Γ) {x : Int32} {off : Int} (tgt : Nat) (hd : decode cc pc = .ok (.ifCond .gt off, 3)) (ht : (pc : Int) + off = (tgt : Int)) (kt : 0 < x → VG Γ kc kn tgt lv st I J P Φ) (kf : ¬ (0 < x) → VG Γ kc kn (pc + 3) lv st I J P Φ) : VG Γ kc kn pc lv (.int x :: st) I J P Φ := by
  obtain ⟨p, l, e, R, s, m, args, below, meth, c, ad, dC, dI, cy, A⟩ := Γ
  obtain ⟨hx, hb, hml, hr, hown, hts, hlk, hK, hA, hin, hAd, hf, hlo, hRO⟩ := h
  intro H locs ls hP hS hl
  exact lv_if_gt hx hb hd ht (fun q => kt q H locs ls hP hS hl) (fun q => kf q H locs ls hP hS hl)
theorem g_icmp_gt (h : Vc own cc nL ret d Γ) {x y : Int32} {off : Int} (tgt : Nat) (hd : decode cc pc = .ok (.if_icmp .gt off, 3)) (ht : (pc : Int) + off = (tgt : Int)) (kt : y < x → VG Γ kc kn tgt lv st I J P Φ) (kf : ¬ (y < x) → VG Γ kc kn (pc + 3) lv st I J P Φ) : VG Γ kc kn pc lv (.int y :: .int x :: st) I J P Φ := by
  obtain ⟨p, l, e, R, s, m, args, below, meth, c, ad, dC, dI, cy, A⟩ := Γ
  obtain ⟨hx, hb, hml, hr, hown, hts, hlk, hK, hA, hin, hAd, hf, hlo, hRO⟩ := h
  intro H locs ls hP hS hl
  exact lv_icmp_gt hx hb hd ht (fun q => kt q H locs ls hP hS hl) (fun q => kf q H locs ls hP hS hl)
theorem g_if_le (h : Vc own cc nL ret d Γ) {x : Int32} {off : Int} (tgt : Nat) (hd : decode cc pc = .ok (.ifCond .le off, 3)) (ht : (pc : Int) + off = (tgt : Int)) (kt : x ≤ 0 → VG Γ kc kn tgt lv st I J P Φ) (kf : ¬ (x ≤ 0) → VG Γ kc kn (pc + 3) lv st I J P Φ) : VG Γ kc kn pc lv (.int x :: st) I J P Φ := by
  obtain ⟨p, l, e, R, s, m, args, below, meth, c, ad, dC, dI, cy, A⟩ := Γ
  obtain ⟨hx, hb, hml, hr, hown, hts, hlk, hK, hA, hin, hAd, hf, hlo, hRO⟩ := h
  intro H locs ls hP hS hl
  exact lv_if_le hx hb hd ht (fun q => kt q H locs ls hP hS hl) (fun q => kf q H locs ls hP hS hl)
theorem g_icmp_le (h : Vc own cc nL ret d Γ) {x y : Int32} {off : Int} (tgt : Nat) (hd : decode cc pc = .ok (.if_icmp .le off, 3)) (ht : (pc : Int) + off = (tgt : Int)) (kt : x ≤ y → VG Γ kc kn tgt lv st I J P Φ) (kf : ¬ (x ≤ y) → VG Γ kc kn (pc + 3) lv st I J P Φ) : VG Γ kc kn pc lv (.int y :: .int x :: st) I J P Φ := by
  obtain ⟨p, l, e, R, s, m, args, below, meth, c, ad, dC, dI, cy, A⟩ := Γ
  obtain ⟨hx, hb, hml, hr, hown, hts, hlk, hK, hA, hin, hAd, hf, hlo, hRO⟩ := h
  intro H locs ls hP hS hl
  exact lv_icmp_le hx hb hd ht (fun q => kt q H locs ls hP hS hl) (fun q => kf q H locs ls hP hS hl)
theorem g_goto (h : Vc own cc nL ret d Γ) {off : Int} (tgt : Nat) (hd : decode cc pc = .ok (.goto off, 3)) (ht : (pc : Int) + off = (tgt : Int)) (k : VG Γ kc kn tgt lv st I J P Φ) : VG Γ kc kn pc lv st I J P Φ := by
  obtain ⟨p, l, e, R, s, m, args, below, meth, c, ad, dC, dI, cy, A⟩ := Γ
  obtain ⟨hx, hb, hml, hr, hown, hts, hlk, hK, hA, hin, hAd, hf, hlo, hRO⟩ := h
  intro H locs ls hP hS hl
  exact lv_goto hx hb hd ht (k H locs ls hP hS hl)
theorem g_tsIn (h : Vc own cc nL ret d Γ) {dflt lo hi off : Int} {offs : Array Int} {len : Nat} {x : Int32} (tgt : Nat) (hd : decode cc pc = .ok (.tableswitch dflt lo hi offs, len)) (h1 : ¬ x.toInt < lo) (h2 : ¬ hi < x.toInt) (ho : offs[(x.toInt - lo).toNat]? = some off) (ht : (pc : Int) + off = (tgt : Int)) (k : VG Γ kc kn tgt lv st I J P Φ) : VG Γ kc kn pc lv (.int x :: st) I J P Φ := by
  obtain ⟨p, l, e, R, s, m, args, below, meth, c, ad, dC, dI, cy, A⟩ := Γ
  obtain ⟨hx, hb, hml, hr, hown, hts, hlk, hK, hA, hin, hAd, hf, hlo, hRO⟩ := h
  intro H locs ls hP hS hl
  exact lv_tableIn hx hb hd h1 h2 ho ht (k H locs ls hP hS hl)
theorem g_tsOut (h : Vc own cc nL ret d Γ) {dflt lo hi : Int} {offs : Array Int} {len : Nat} {x : Int32} (tgt : Nat) (hd : decode cc pc = .ok (.tableswitch dflt lo hi offs, len)) (h1 : x.toInt < lo ∨ hi < x.toInt) (ht : (pc : Int) + dflt = (tgt : Int)) (k : VG Γ kc kn tgt lv st I J P Φ) : VG Γ kc kn pc lv (.int x :: st) I J P Φ := by
  obtain ⟨p, l, e, R, s, m, args, below, meth, c, ad, dC, dI, cy, A⟩ := Γ
  obtain ⟨hx, hb, hml, hr, hown, hts, hlk, hK, hA, hin, hAd, hf, hlo, hRO⟩ := h
  intro H locs ls hP hS hl
  exact lv_tableOut hx hb hd h1 ht (k H locs ls hP hS hl)
theorem g_lkup (h : Vc own cc nL ret d Γ) {dflt off : Int} {ps : Array (Int × Int)} {len : Nat} {x : Int32} (tgt : Nat) (hd : decode cc pc = .ok (.lookupswitch dflt ps, len)) (hp : (ps.toList.zip (ps.toList.drop 1)).all (fun (a, next) => a.1 < next.1) = true) (ho : Op.lookupswitch.offset ps.toList dflt x.toInt = off) (ht : (pc : Int) + off = (tgt : Int)) (k : VG Γ kc kn tgt lv st I J P Φ) : VG Γ kc kn pc lv (.int x :: st) I J P Φ := by
  obtain ⟨p, l, e, R, s, m, args, below, meth, c, ad, dC, dI, cy, A⟩ := Γ
  obtain ⟨hx, hb, hml, hr, hown, hts, hlk, hK, hA, hin, hAd, hf, hlo, hRO⟩ := h
  intro H locs ls hP hS hl
  exact lv_lookup hx hb hd hp ho ht (k H locs ls hP hS hl)
theorem q_iload_n (h : Vc own cc nL ret d Γ) {n : Fin 4} {x : Int32} (i : Nat) (hd : decode cc pc = .ok (.iload_n n, 1)) (hn : (n : Nat) = i) (hx0 : lv[i]? = some (some (.int x))) (k : VG Γ kc kn (pc + 1) lv (.int x :: st) I J P Φ) : VG Γ kc kn pc lv st I J P Φ := by
  obtain ⟨p, l, e, R, s, m, args, below, meth, c, ad, dC, dI, cy, A⟩ := Γ
  obtain ⟨hx, hb, hml, hr, hown, hts, hlk, hK, hA, hin, hAd, hf, hlo, hRO⟩ := h
  intro H locs ls hP hS hl
  exact lv_iload_n hx hb hd hn (asl_at hl hx0) (k H locs ls hP hS hl)
theorem q_iload (h : Vc own cc nL ret d Γ) {x : Int32} (i : Nat) (hd : decode cc pc = .ok (.iload i, 2)) (hx0 : lv[i]? = some (some (.int x))) (k : VG Γ kc kn (pc + 2) lv (.int x :: st) I J P Φ) : VG Γ kc kn pc lv st I J P Φ := by
  obtain ⟨p, l, e, R, s, m, args, below, meth, c, ad, dC, dI, cy, A⟩ := Γ
  obtain ⟨hx, hb, hml, hr, hown, hts, hlk, hK, hA, hin, hAd, hf, hlo, hRO⟩ := h
  intro H locs ls hP hS hl
  exact lv_iload hx hb hd (asl_at hl hx0) (k H locs ls hP hS hl)
theorem q_lload_n (h : Vc own cc nL ret d Γ) {n : Fin 4} {x : Int64} (i : Nat) (hd : decode cc pc = .ok (.lload_n n, 1)) (hn : (n : Nat) = i) (hx0 : lv[i]? = some (some (.long x))) (k : VG Γ kc kn (pc + 1) lv (.long x :: st) I J P Φ) : VG Γ kc kn pc lv st I J P Φ := by
  obtain ⟨p, l, e, R, s, m, args, below, meth, c, ad, dC, dI, cy, A⟩ := Γ
  obtain ⟨hx, hb, hml, hr, hown, hts, hlk, hK, hA, hin, hAd, hf, hlo, hRO⟩ := h
  intro H locs ls hP hS hl
  exact lv_lload_n hx hb hd hn (asl_at hl hx0) (k H locs ls hP hS hl)
theorem q_lload (h : Vc own cc nL ret d Γ) {x : Int64} (i : Nat) (hd : decode cc pc = .ok (.lload i, 2)) (hx0 : lv[i]? = some (some (.long x))) (k : VG Γ kc kn (pc + 2) lv (.long x :: st) I J P Φ) : VG Γ kc kn pc lv st I J P Φ := by
  obtain ⟨p, l, e, R, s, m, args, below, meth, c, ad, dC, dI, cy, A⟩ := Γ
  obtain ⟨hx, hb, hml, hr, hown, hts, hlk, hK, hA, hin, hAd, hf, hlo, hRO⟩ := h
  intro H locs ls hP hS hl
  exact lv_lload hx hb hd (asl_at hl hx0) (k H locs ls hP hS hl)
theorem q_aload_n (h : Vc own cc nL ret d Γ) {n : Fin 4} {x : Nat} (i : Nat) (hd : decode cc pc = .ok (.aload_n n, 1)) (hn : (n : Nat) = i) (hx0 : lv[i]? = some (some (.ref x))) (k : VG Γ kc kn (pc + 1) lv (.ref x :: st) I J P Φ) : VG Γ kc kn pc lv st I J P Φ := by
  obtain ⟨p, l, e, R, s, m, args, below, meth, c, ad, dC, dI, cy, A⟩ := Γ
  obtain ⟨hx, hb, hml, hr, hown, hts, hlk, hK, hA, hin, hAd, hf, hlo, hRO⟩ := h
  intro H locs ls hP hS hl
  exact lv_aload_n hx hb hd hn (asl_at hl hx0) (k H locs ls hP hS hl)
theorem q_aload (h : Vc own cc nL ret d Γ) {x : Nat} (i : Nat) (hd : decode cc pc = .ok (.aload i, 2)) (hx0 : lv[i]? = some (some (.ref x))) (k : VG Γ kc kn (pc + 2) lv (.ref x :: st) I J P Φ) : VG Γ kc kn pc lv st I J P Φ := by
  obtain ⟨p, l, e, R, s, m, args, below, meth, c, ad, dC, dI, cy, A⟩ := Γ
  obtain ⟨hx, hb, hml, hr, hown, hts, hlk, hK, hA, hin, hAd, hf, hlo, hRO⟩ := h
  intro H locs ls hP hS hl
  exact lv_aload hx hb hd (asl_at hl hx0) (k H locs ls hP hS hl)
theorem q_istore_n (h : Vc own cc nL ret d Γ) {n : Fin 4} {x : Int32} (i : Nat) (hd : decode cc pc = .ok (.istore_n n, 1)) (hn : (n : Nat) = i) (hi : i < nL) (ok : okst lv i = true) (k : VG Γ kc kn (pc + 1) (lv.set i (some (.int x))) st I J P Φ) : VG Γ kc kn pc lv (.int x :: st) I J P Φ := by
  obtain ⟨p, l, e, R, s, m, args, below, meth, c, ad, dC, dI, cy, A⟩ := Γ
  obtain ⟨hx, hb, hml, hr, hown, hts, hlk, hK, hA, hin, hAd, hf, hlo, hRO⟩ := h
  intro H locs ls hP hS hl
  exact lv_istore_n hx hb hd hn hl (by rw [hml]; exact hi) rfl (fun ls2 hl2 => k H locs ls2 hP hS (asl_set1 ok hl2))
theorem q_istore (h : Vc own cc nL ret d Γ) {x : Int32} (i : Nat) (hd : decode cc pc = .ok (.istore i, 2)) (hi : i < nL) (ok : okst lv i = true) (k : VG Γ kc kn (pc + 2) (lv.set i (some (.int x))) st I J P Φ) : VG Γ kc kn pc lv (.int x :: st) I J P Φ := by
  obtain ⟨p, l, e, R, s, m, args, below, meth, c, ad, dC, dI, cy, A⟩ := Γ
  obtain ⟨hx, hb, hml, hr, hown, hts, hlk, hK, hA, hin, hAd, hf, hlo, hRO⟩ := h
  intro H locs ls hP hS hl
  exact lv_istore hx hb hd hl (by rw [hml]; exact hi) rfl (fun ls2 hl2 => k H locs ls2 hP hS (asl_set1 ok hl2))
theorem q_astore_n (h : Vc own cc nL ret d Γ) {n : Fin 4} {x : Nat} (i : Nat) (hd : decode cc pc = .ok (.astore_n n, 1)) (hn : (n : Nat) = i) (hi : i < nL) (ok : okst lv i = true) (k : VG Γ kc kn (pc + 1) (lv.set i (some (.ref x))) st I J P Φ) : VG Γ kc kn pc lv (.ref x :: st) I J P Φ := by
  obtain ⟨p, l, e, R, s, m, args, below, meth, c, ad, dC, dI, cy, A⟩ := Γ
  obtain ⟨hx, hb, hml, hr, hown, hts, hlk, hK, hA, hin, hAd, hf, hlo, hRO⟩ := h
  intro H locs ls hP hS hl
  exact lv_astore_n hx hb hd hn hl (by rw [hml]; exact hi) rfl (fun ls2 hl2 => k H locs ls2 hP hS (asl_set1 ok hl2))
theorem q_astore (h : Vc own cc nL ret d Γ) {x : Nat} (i : Nat) (hd : decode cc pc = .ok (.astore i, 2)) (hi : i < nL) (ok : okst lv i = true) (k : VG Γ kc kn (pc + 2) (lv.set i (some (.ref x))) st I J P Φ) : VG Γ kc kn pc lv (.ref x :: st) I J P Φ := by
  obtain ⟨p, l, e, R, s, m, args, below, meth, c, ad, dC, dI, cy, A⟩ := Γ
  obtain ⟨hx, hb, hml, hr, hown, hts, hlk, hK, hA, hin, hAd, hf, hlo, hRO⟩ := h
  intro H locs ls hP hS hl
  exact lv_astore hx hb hd hl (by rw [hml]; exact hi) rfl (fun ls2 hl2 => k H locs ls2 hP hS (asl_set1 ok hl2))
theorem q_lstore_n (h : Vc own cc nL ret d Γ) {n : Fin 4} {x : Int64} (i : Nat) (hd : decode cc pc = .ok (.lstore_n n, 1)) (hn : (n : Nat) = i) (hi : i + 1 < nL) (ok : okst lv i = true) (k : VG Γ kc kn (pc + 1) ((lv.set i (some (.long x))).set (i + 1) none) st I J P Φ) : VG Γ kc kn pc lv (.long x :: st) I J P Φ := by
  obtain ⟨p, l, e, R, s, m, args, below, meth, c, ad, dC, dI, cy, A⟩ := Γ
  obtain ⟨hx, hb, hml, hr, hown, hts, hlk, hK, hA, hin, hAd, hf, hlo, hRO⟩ := h
  intro H locs ls hP hS hl
  exact lv_lstore_n hx hb hd hn hl (by rw [hml]; exact hi) rfl (fun ls2 hl2 => k H locs ls2 hP hS (asl_set2 ok hl2))
theorem q_lstore (h : Vc own cc nL ret d Γ) {x : Int64} (i : Nat) (hd : decode cc pc = .ok (.lstore i, 2)) (hi : i + 1 < nL) (ok : okst lv i = true) (k : VG Γ kc kn (pc + 2) ((lv.set i (some (.long x))).set (i + 1) none) st I J P Φ) : VG Γ kc kn pc lv (.long x :: st) I J P Φ := by
  obtain ⟨p, l, e, R, s, m, args, below, meth, c, ad, dC, dI, cy, A⟩ := Γ
  obtain ⟨hx, hb, hml, hr, hown, hts, hlk, hK, hA, hin, hAd, hf, hlo, hRO⟩ := h
  intro H locs ls hP hS hl
  exact lv_lstore hx hb hd hl (by rw [hml]; exact hi) rfl (fun ls2 hl2 => k H locs ls2 hP hS (asl_set2 ok hl2))
theorem q_iinc (h : Vc own cc nL ret d Γ) {x v : Int32} {n : Int} (i : Nat) (hd : decode cc pc = .ok (.iinc i n, 3)) (hx0 : lv[i]? = some (some (.int x))) (hv : x + Int32.ofInt n = v) (hi : i < nL) (ok : okst lv i = true) (k : VG Γ kc kn (pc + 3) (lv.set i (some (.int v))) st I J P Φ) : VG Γ kc kn pc lv st I J P Φ := by
  obtain ⟨p, l, e, R, s, m, args, below, meth, c, ad, dC, dI, cy, A⟩ := Γ
  obtain ⟨hx, hb, hml, hr, hown, hts, hlk, hK, hA, hin, hAd, hf, hlo, hRO⟩ := h
  intro H locs ls hP hS hl
  obtain ⟨k0, hk0⟩ := List.getElem?_of_mem (asl_in.mpr ⟨i, _, (Nat.zero_add i).symm, hx0, rfl⟩ : (i, vmap ad (.int x)) ∈ asl ad 0 lv)
  exact lv_iinc hx hb hd hl hk0 hv (by rw [hml]; exact hi) rfl (fun ls2 hl2 => k H locs ls2 hP hS (asl_set1 ok hl2))
theorem g_iload_0 (h : Vc own cc nL ret d Γ) {r : List (Option Value)} {x : Int32} (hd : decode cc pc = .ok (.iload_n 0, 1)) (k : VG Γ kc kn (pc + 1) (some (.int x) :: r) (.int x :: st) I J P Φ) : VG Γ kc kn pc (some (.int x) :: r) st I J P Φ := q_iload_n h 0 hd rfl rfl k
theorem g_aload_0 (h : Vc own cc nL ret d Γ) {r : List (Option Value)} {x : Nat} (hd : decode cc pc = .ok (.aload_n 0, 1)) (k : VG Γ kc kn (pc + 1) (some (.ref x) :: r) (.ref x :: st) I J P Φ) : VG Γ kc kn pc (some (.ref x) :: r) st I J P Φ := q_aload_n h 0 hd rfl rfl k
theorem g_lload_0 (h : Vc own cc nL ret d Γ) {r : List (Option Value)} {x : Int64} (hd : decode cc pc = .ok (.lload_n 0, 1)) (k : VG Γ kc kn (pc + 1) (some (.long x) :: r) (.long x :: st) I J P Φ) : VG Γ kc kn pc (some (.long x) :: r) st I J P Φ := q_lload_n h 0 hd rfl rfl k
theorem g_istore_0 (h : Vc own cc nL ret d Γ) {b : Option Value} {r : List (Option Value)} {x : Int32} (hd : decode cc pc = .ok (.istore_n 0, 1)) (hi : 0 < nL) (ok : okst (b :: r) 0 = true) (k : VG Γ kc kn (pc + 1) (some (.int x) :: r) st I J P Φ) : VG Γ kc kn pc (b :: r) (.int x :: st) I J P Φ := q_istore_n h 0 hd rfl hi ok k
theorem g_astore_0 (h : Vc own cc nL ret d Γ) {b : Option Value} {r : List (Option Value)} {x : Nat} (hd : decode cc pc = .ok (.astore_n 0, 1)) (hi : 0 < nL) (ok : okst (b :: r) 0 = true) (k : VG Γ kc kn (pc + 1) (some (.ref x) :: r) st I J P Φ) : VG Γ kc kn pc (b :: r) (.ref x :: st) I J P Φ := q_astore_n h 0 hd rfl hi ok k
theorem g_lstore_0 (h : Vc own cc nL ret d Γ) {b b2 : Option Value} {r : List (Option Value)} {x : Int64} (hd : decode cc pc = .ok (.lstore_n 0, 1)) (hi : 0 + 1 < nL) (ok : okst (b :: b2 :: r) 0 = true) (k : VG Γ kc kn (pc + 1) (some (.long x) :: none :: r) st I J P Φ) : VG Γ kc kn pc (b :: b2 :: r) (.long x :: st) I J P Φ := q_lstore_n h 0 hd rfl hi ok k
theorem g_iinc_0 (h : Vc own cc nL ret d Γ) {r : List (Option Value)} {x v : Int32} {n : Int} (hd : decode cc pc = .ok (.iinc 0 n, 3)) (hv : x + Int32.ofInt n = v) (hi : 0 < nL) (ok : okst (some (.int x) :: r) 0 = true) (k : VG Γ kc kn (pc + 3) (some (.int v) :: r) st I J P Φ) : VG Γ kc kn pc (some (.int x) :: r) st I J P Φ := q_iinc h 0 hd rfl hv hi ok k
theorem g_iload_1 (h : Vc own cc nL ret d Γ) {a0 : Option Value} {r : List (Option Value)} {x : Int32} (hd : decode cc pc = .ok (.iload_n 1, 1)) (k : VG Γ kc kn (pc + 1) (a0 :: some (.int x) :: r) (.int x :: st) I J P Φ) : VG Γ kc kn pc (a0 :: some (.int x) :: r) st I J P Φ := q_iload_n h 1 hd rfl rfl k
theorem g_aload_1 (h : Vc own cc nL ret d Γ) {a0 : Option Value} {r : List (Option Value)} {x : Nat} (hd : decode cc pc = .ok (.aload_n 1, 1)) (k : VG Γ kc kn (pc + 1) (a0 :: some (.ref x) :: r) (.ref x :: st) I J P Φ) : VG Γ kc kn pc (a0 :: some (.ref x) :: r) st I J P Φ := q_aload_n h 1 hd rfl rfl k
theorem g_lload_1 (h : Vc own cc nL ret d Γ) {a0 : Option Value} {r : List (Option Value)} {x : Int64} (hd : decode cc pc = .ok (.lload_n 1, 1)) (k : VG Γ kc kn (pc + 1) (a0 :: some (.long x) :: r) (.long x :: st) I J P Φ) : VG Γ kc kn pc (a0 :: some (.long x) :: r) st I J P Φ := q_lload_n h 1 hd rfl rfl k
theorem g_istore_1 (h : Vc own cc nL ret d Γ) {a0 : Option Value} {b : Option Value} {r : List (Option Value)} {x : Int32} (hd : decode cc pc = .ok (.istore_n 1, 1)) (hi : 1 < nL) (ok : okst (a0 :: b :: r) 1 = true) (k : VG Γ kc kn (pc + 1) (a0 :: some (.int x) :: r) st I J P Φ) : VG Γ kc kn pc (a0 :: b :: r) (.int x :: st) I J P Φ := q_istore_n h 1 hd rfl hi ok k
theorem g_astore_1 (h : Vc own cc nL ret d Γ) {a0 : Option Value} {b : Option Value} {r : List (Option Value)} {x : Nat} (hd : decode cc pc = .ok (.astore_n 1, 1)) (hi : 1 < nL) (ok : okst (a0 :: b :: r) 1 = true) (k : VG Γ kc kn (pc + 1) (a0 :: some (.ref x) :: r) st I J P Φ) : VG Γ kc kn pc (a0 :: b :: r) (.ref x :: st) I J P Φ := q_astore_n h 1 hd rfl hi ok k
theorem g_lstore_1 (h : Vc own cc nL ret d Γ) {a0 : Option Value} {b b2 : Option Value} {r : List (Option Value)} {x : Int64} (hd : decode cc pc = .ok (.lstore_n 1, 1)) (hi : 1 + 1 < nL) (ok : okst (a0 :: b :: b2 :: r) 1 = true) (k : VG Γ kc kn (pc + 1) (a0 :: some (.long x) :: none :: r) st I J P Φ) : VG Γ kc kn pc (a0 :: b :: b2 :: r) (.long x :: st) I J P Φ := q_lstore_n h 1 hd rfl hi ok k
theorem g_iinc_1 (h : Vc own cc nL ret d Γ) {a0 : Option Value} {r : List (Option Value)} {x v : Int32} {n : Int} (hd : decode cc pc = .ok (.iinc 1 n, 3)) (hv : x + Int32.ofInt n = v) (hi : 1 < nL) (ok : okst (a0 :: some (.int x) :: r) 1 = true) (k : VG Γ kc kn (pc + 3) (a0 :: some (.int v) :: r) st I J P Φ) : VG Γ kc kn pc (a0 :: some (.int x) :: r) st I J P Φ := q_iinc h 1 hd rfl hv hi ok k
theorem g_iload_2 (h : Vc own cc nL ret d Γ) {a0 a1 : Option Value} {r : List (Option Value)} {x : Int32} (hd : decode cc pc = .ok (.iload_n 2, 1)) (k : VG Γ kc kn (pc + 1) (a0 :: a1 :: some (.int x) :: r) (.int x :: st) I J P Φ) : VG Γ kc kn pc (a0 :: a1 :: some (.int x) :: r) st I J P Φ := q_iload_n h 2 hd rfl rfl k
theorem g_aload_2 (h : Vc own cc nL ret d Γ) {a0 a1 : Option Value} {r : List (Option Value)} {x : Nat} (hd : decode cc pc = .ok (.aload_n 2, 1)) (k : VG Γ kc kn (pc + 1) (a0 :: a1 :: some (.ref x) :: r) (.ref x :: st) I J P Φ) : VG Γ kc kn pc (a0 :: a1 :: some (.ref x) :: r) st I J P Φ := q_aload_n h 2 hd rfl rfl k
theorem g_lload_2 (h : Vc own cc nL ret d Γ) {a0 a1 : Option Value} {r : List (Option Value)} {x : Int64} (hd : decode cc pc = .ok (.lload_n 2, 1)) (k : VG Γ kc kn (pc + 1) (a0 :: a1 :: some (.long x) :: r) (.long x :: st) I J P Φ) : VG Γ kc kn pc (a0 :: a1 :: some (.long x) :: r) st I J P Φ := q_lload_n h 2 hd rfl rfl k
theorem g_istore_2 (h : Vc own cc nL ret d Γ) {a0 a1 : Option Value} {b : Option Value} {r : List (Option Value)} {x : Int32} (hd : decode cc pc = .ok (.istore_n 2, 1)) (hi : 2 < nL) (ok : okst (a0 :: a1 :: b :: r) 2 = true) (k : VG Γ kc kn (pc + 1) (a0 :: a1 :: some (.int x) :: r) st I J P Φ) : VG Γ kc kn pc (a0 :: a1 :: b :: r) (.int x :: st) I J P Φ := q_istore_n h 2 hd rfl hi ok k
theorem g_astore_2 (h : Vc own cc nL ret d Γ) {a0 a1 : Option Value} {b : Option Value} {r : List (Option Value)} {x : Nat} (hd : decode cc pc = .ok (.astore_n 2, 1)) (hi : 2 < nL) (ok : okst (a0 :: a1 :: b :: r) 2 = true) (k : VG Γ kc kn (pc + 1) (a0 :: a1 :: some (.ref x) :: r) st I J P Φ) : VG Γ kc kn pc (a0 :: a1 :: b :: r) (.ref x :: st) I J P Φ := q_astore_n h 2 hd rfl hi ok k
theorem g_lstore_2 (h : Vc own cc nL ret d Γ) {a0 a1 : Option Value} {b b2 : Option Value} {r : List (Option Value)} {x : Int64} (hd : decode cc pc = .ok (.lstore_n 2, 1)) (hi : 2 + 1 < nL) (ok : okst (a0 :: a1 :: b :: b2 :: r) 2 = true) (k : VG Γ kc kn (pc + 1) (a0 :: a1 :: some (.long x) :: none :: r) st I J P Φ) : VG Γ kc kn pc (a0 :: a1 :: b :: b2 :: r) (.long x :: st) I J P Φ := q_lstore_n h 2 hd rfl hi ok k
theorem g_iinc_2 (h : Vc own cc nL ret d Γ) {a0 a1 : Option Value} {r : List (Option Value)} {x v : Int32} {n : Int} (hd : decode cc pc = .ok (.iinc 2 n, 3)) (hv : x + Int32.ofInt n = v) (hi : 2 < nL) (ok : okst (a0 :: a1 :: some (.int x) :: r) 2 = true) (k : VG Γ kc kn (pc + 3) (a0 :: a1 :: some (.int v) :: r) st I J P Φ) : VG Γ kc kn pc (a0 :: a1 :: some (.int x) :: r) st I J P Φ := q_iinc h 2 hd rfl hv hi ok k
theorem g_iload_3 (h : Vc own cc nL ret d Γ) {a0 a1 a2 : Option Value} {r : List (Option Value)} {x : Int32} (hd : decode cc pc = .ok (.iload_n 3, 1)) (k : VG Γ kc kn (pc + 1) (a0 :: a1 :: a2 :: some (.int x) :: r) (.int x :: st) I J P Φ) : VG Γ kc kn pc (a0 :: a1 :: a2 :: some (.int x) :: r) st I J P Φ := q_iload_n h 3 hd rfl rfl k
theorem g_aload_3 (h : Vc own cc nL ret d Γ) {a0 a1 a2 : Option Value} {r : List (Option Value)} {x : Nat} (hd : decode cc pc = .ok (.aload_n 3, 1)) (k : VG Γ kc kn (pc + 1) (a0 :: a1 :: a2 :: some (.ref x) :: r) (.ref x :: st) I J P Φ) : VG Γ kc kn pc (a0 :: a1 :: a2 :: some (.ref x) :: r) st I J P Φ := q_aload_n h 3 hd rfl rfl k
theorem g_lload_3 (h : Vc own cc nL ret d Γ) {a0 a1 a2 : Option Value} {r : List (Option Value)} {x : Int64} (hd : decode cc pc = .ok (.lload_n 3, 1)) (k : VG Γ kc kn (pc + 1) (a0 :: a1 :: a2 :: some (.long x) :: r) (.long x :: st) I J P Φ) : VG Γ kc kn pc (a0 :: a1 :: a2 :: some (.long x) :: r) st I J P Φ := q_lload_n h 3 hd rfl rfl k
theorem g_istore_3 (h : Vc own cc nL ret d Γ) {a0 a1 a2 : Option Value} {b : Option Value} {r : List (Option Value)} {x : Int32} (hd : decode cc pc = .ok (.istore_n 3, 1)) (hi : 3 < nL) (ok : okst (a0 :: a1 :: a2 :: b :: r) 3 = true) (k : VG Γ kc kn (pc + 1) (a0 :: a1 :: a2 :: some (.int x) :: r) st I J P Φ) : VG Γ kc kn pc (a0 :: a1 :: a2 :: b :: r) (.int x :: st) I J P Φ := q_istore_n h 3 hd rfl hi ok k
theorem g_astore_3 (h : Vc own cc nL ret d Γ) {a0 a1 a2 : Option Value} {b : Option Value} {r : List (Option Value)} {x : Nat} (hd : decode cc pc = .ok (.astore_n 3, 1)) (hi : 3 < nL) (ok : okst (a0 :: a1 :: a2 :: b :: r) 3 = true) (k : VG Γ kc kn (pc + 1) (a0 :: a1 :: a2 :: some (.ref x) :: r) st I J P Φ) : VG Γ kc kn pc (a0 :: a1 :: a2 :: b :: r) (.ref x :: st) I J P Φ := q_astore_n h 3 hd rfl hi ok k
theorem g_lstore_3 (h : Vc own cc nL ret d Γ) {a0 a1 a2 : Option Value} {b b2 : Option Value} {r : List (Option Value)} {x : Int64} (hd : decode cc pc = .ok (.lstore_n 3, 1)) (hi : 3 + 1 < nL) (ok : okst (a0 :: a1 :: a2 :: b :: b2 :: r) 3 = true) (k : VG Γ kc kn (pc + 1) (a0 :: a1 :: a2 :: some (.long x) :: none :: r) st I J P Φ) : VG Γ kc kn pc (a0 :: a1 :: a2 :: b :: b2 :: r) (.long x :: st) I J P Φ := q_lstore_n h 3 hd rfl hi ok k
theorem g_iinc_3 (h : Vc own cc nL ret d Γ) {a0 a1 a2 : Option Value} {r : List (Option Value)} {x v : Int32} {n : Int} (hd : decode cc pc = .ok (.iinc 3 n, 3)) (hv : x + Int32.ofInt n = v) (hi : 3 < nL) (ok : okst (a0 :: a1 :: a2 :: some (.int x) :: r) 3 = true) (k : VG Γ kc kn (pc + 3) (a0 :: a1 :: a2 :: some (.int v) :: r) st I J P Φ) : VG Γ kc kn pc (a0 :: a1 :: a2 :: some (.int x) :: r) st I J P Φ := q_iinc h 3 hd rfl hv hi ok k
theorem g_iload_4 (h : Vc own cc nL ret d Γ) {a0 a1 a2 a3 : Option Value} {r : List (Option Value)} {x : Int32} (hd : decode cc pc = .ok (.iload 4, 2)) (k : VG Γ kc kn (pc + 2) (a0 :: a1 :: a2 :: a3 :: some (.int x) :: r) (.int x :: st) I J P Φ) : VG Γ kc kn pc (a0 :: a1 :: a2 :: a3 :: some (.int x) :: r) st I J P Φ := q_iload h 4 hd rfl k
theorem g_aload_4 (h : Vc own cc nL ret d Γ) {a0 a1 a2 a3 : Option Value} {r : List (Option Value)} {x : Nat} (hd : decode cc pc = .ok (.aload 4, 2)) (k : VG Γ kc kn (pc + 2) (a0 :: a1 :: a2 :: a3 :: some (.ref x) :: r) (.ref x :: st) I J P Φ) : VG Γ kc kn pc (a0 :: a1 :: a2 :: a3 :: some (.ref x) :: r) st I J P Φ := q_aload h 4 hd rfl k
theorem g_lload_4 (h : Vc own cc nL ret d Γ) {a0 a1 a2 a3 : Option Value} {r : List (Option Value)} {x : Int64} (hd : decode cc pc = .ok (.lload 4, 2)) (k : VG Γ kc kn (pc + 2) (a0 :: a1 :: a2 :: a3 :: some (.long x) :: r) (.long x :: st) I J P Φ) : VG Γ kc kn pc (a0 :: a1 :: a2 :: a3 :: some (.long x) :: r) st I J P Φ := q_lload h 4 hd rfl k
theorem g_istore_4 (h : Vc own cc nL ret d Γ) {a0 a1 a2 a3 : Option Value} {b : Option Value} {r : List (Option Value)} {x : Int32} (hd : decode cc pc = .ok (.istore 4, 2)) (hi : 4 < nL) (ok : okst (a0 :: a1 :: a2 :: a3 :: b :: r) 4 = true) (k : VG Γ kc kn (pc + 2) (a0 :: a1 :: a2 :: a3 :: some (.int x) :: r) st I J P Φ) : VG Γ kc kn pc (a0 :: a1 :: a2 :: a3 :: b :: r) (.int x :: st) I J P Φ := q_istore h 4 hd hi ok k
theorem g_astore_4 (h : Vc own cc nL ret d Γ) {a0 a1 a2 a3 : Option Value} {b : Option Value} {r : List (Option Value)} {x : Nat} (hd : decode cc pc = .ok (.astore 4, 2)) (hi : 4 < nL) (ok : okst (a0 :: a1 :: a2 :: a3 :: b :: r) 4 = true) (k : VG Γ kc kn (pc + 2) (a0 :: a1 :: a2 :: a3 :: some (.ref x) :: r) st I J P Φ) : VG Γ kc kn pc (a0 :: a1 :: a2 :: a3 :: b :: r) (.ref x :: st) I J P Φ := q_astore h 4 hd hi ok k
theorem g_lstore_4 (h : Vc own cc nL ret d Γ) {a0 a1 a2 a3 : Option Value} {b b2 : Option Value} {r : List (Option Value)} {x : Int64} (hd : decode cc pc = .ok (.lstore 4, 2)) (hi : 4 + 1 < nL) (ok : okst (a0 :: a1 :: a2 :: a3 :: b :: b2 :: r) 4 = true) (k : VG Γ kc kn (pc + 2) (a0 :: a1 :: a2 :: a3 :: some (.long x) :: none :: r) st I J P Φ) : VG Γ kc kn pc (a0 :: a1 :: a2 :: a3 :: b :: b2 :: r) (.long x :: st) I J P Φ := q_lstore h 4 hd hi ok k
theorem g_iinc_4 (h : Vc own cc nL ret d Γ) {a0 a1 a2 a3 : Option Value} {r : List (Option Value)} {x v : Int32} {n : Int} (hd : decode cc pc = .ok (.iinc 4 n, 3)) (hv : x + Int32.ofInt n = v) (hi : 4 < nL) (ok : okst (a0 :: a1 :: a2 :: a3 :: some (.int x) :: r) 4 = true) (k : VG Γ kc kn (pc + 3) (a0 :: a1 :: a2 :: a3 :: some (.int v) :: r) st I J P Φ) : VG Γ kc kn pc (a0 :: a1 :: a2 :: a3 :: some (.int x) :: r) st I J P Φ := q_iinc h 4 hd rfl hv hi ok k
theorem g_iload_5 (h : Vc own cc nL ret d Γ) {a0 a1 a2 a3 a4 : Option Value} {r : List (Option Value)} {x : Int32} (hd : decode cc pc = .ok (.iload 5, 2)) (k : VG Γ kc kn (pc + 2) (a0 :: a1 :: a2 :: a3 :: a4 :: some (.int x) :: r) (.int x :: st) I J P Φ) : VG Γ kc kn pc (a0 :: a1 :: a2 :: a3 :: a4 :: some (.int x) :: r) st I J P Φ := q_iload h 5 hd rfl k
theorem g_aload_5 (h : Vc own cc nL ret d Γ) {a0 a1 a2 a3 a4 : Option Value} {r : List (Option Value)} {x : Nat} (hd : decode cc pc = .ok (.aload 5, 2)) (k : VG Γ kc kn (pc + 2) (a0 :: a1 :: a2 :: a3 :: a4 :: some (.ref x) :: r) (.ref x :: st) I J P Φ) : VG Γ kc kn pc (a0 :: a1 :: a2 :: a3 :: a4 :: some (.ref x) :: r) st I J P Φ := q_aload h 5 hd rfl k
theorem g_lload_5 (h : Vc own cc nL ret d Γ) {a0 a1 a2 a3 a4 : Option Value} {r : List (Option Value)} {x : Int64} (hd : decode cc pc = .ok (.lload 5, 2)) (k : VG Γ kc kn (pc + 2) (a0 :: a1 :: a2 :: a3 :: a4 :: some (.long x) :: r) (.long x :: st) I J P Φ) : VG Γ kc kn pc (a0 :: a1 :: a2 :: a3 :: a4 :: some (.long x) :: r) st I J P Φ := q_lload h 5 hd rfl k
theorem g_istore_5 (h : Vc own cc nL ret d Γ) {a0 a1 a2 a3 a4 : Option Value} {b : Option Value} {r : List (Option Value)} {x : Int32} (hd : decode cc pc = .ok (.istore 5, 2)) (hi : 5 < nL) (ok : okst (a0 :: a1 :: a2 :: a3 :: a4 :: b :: r) 5 = true) (k : VG Γ kc kn (pc + 2) (a0 :: a1 :: a2 :: a3 :: a4 :: some (.int x) :: r) st I J P Φ) : VG Γ kc kn pc (a0 :: a1 :: a2 :: a3 :: a4 :: b :: r) (.int x :: st) I J P Φ := q_istore h 5 hd hi ok k
theorem g_astore_5 (h : Vc own cc nL ret d Γ) {a0 a1 a2 a3 a4 : Option Value} {b : Option Value} {r : List (Option Value)} {x : Nat} (hd : decode cc pc = .ok (.astore 5, 2)) (hi : 5 < nL) (ok : okst (a0 :: a1 :: a2 :: a3 :: a4 :: b :: r) 5 = true) (k : VG Γ kc kn (pc + 2) (a0 :: a1 :: a2 :: a3 :: a4 :: some (.ref x) :: r) st I J P Φ) : VG Γ kc kn pc (a0 :: a1 :: a2 :: a3 :: a4 :: b :: r) (.ref x :: st) I J P Φ := q_astore h 5 hd hi ok k
theorem g_lstore_5 (h : Vc own cc nL ret d Γ) {a0 a1 a2 a3 a4 : Option Value} {b b2 : Option Value} {r : List (Option Value)} {x : Int64} (hd : decode cc pc = .ok (.lstore 5, 2)) (hi : 5 + 1 < nL) (ok : okst (a0 :: a1 :: a2 :: a3 :: a4 :: b :: b2 :: r) 5 = true) (k : VG Γ kc kn (pc + 2) (a0 :: a1 :: a2 :: a3 :: a4 :: some (.long x) :: none :: r) st I J P Φ) : VG Γ kc kn pc (a0 :: a1 :: a2 :: a3 :: a4 :: b :: b2 :: r) (.long x :: st) I J P Φ := q_lstore h 5 hd hi ok k
theorem g_iinc_5 (h : Vc own cc nL ret d Γ) {a0 a1 a2 a3 a4 : Option Value} {r : List (Option Value)} {x v : Int32} {n : Int} (hd : decode cc pc = .ok (.iinc 5 n, 3)) (hv : x + Int32.ofInt n = v) (hi : 5 < nL) (ok : okst (a0 :: a1 :: a2 :: a3 :: a4 :: some (.int x) :: r) 5 = true) (k : VG Γ kc kn (pc + 3) (a0 :: a1 :: a2 :: a3 :: a4 :: some (.int v) :: r) st I J P Φ) : VG Γ kc kn pc (a0 :: a1 :: a2 :: a3 :: a4 :: some (.int x) :: r) st I J P Φ := q_iinc h 5 hd rfl hv hi ok k
theorem g_iload_6 (h : Vc own cc nL ret d Γ) {a0 a1 a2 a3 a4 a5 : Option Value} {r : List (Option Value)} {x : Int32} (hd : decode cc pc = .ok (.iload 6, 2)) (k : VG Γ kc kn (pc + 2) (a0 :: a1 :: a2 :: a3 :: a4 :: a5 :: some (.int x) :: r) (.int x :: st) I J P Φ) : VG Γ kc kn pc (a0 :: a1 :: a2 :: a3 :: a4 :: a5 :: some (.int x) :: r) st I J P Φ := q_iload h 6 hd rfl k
theorem g_aload_6 (h : Vc own cc nL ret d Γ) {a0 a1 a2 a3 a4 a5 : Option Value} {r : List (Option Value)} {x : Nat} (hd : decode cc pc = .ok (.aload 6, 2)) (k : VG Γ kc kn (pc + 2) (a0 :: a1 :: a2 :: a3 :: a4 :: a5 :: some (.ref x) :: r) (.ref x :: st) I J P Φ) : VG Γ kc kn pc (a0 :: a1 :: a2 :: a3 :: a4 :: a5 :: some (.ref x) :: r) st I J P Φ := q_aload h 6 hd rfl k
theorem g_lload_6 (h : Vc own cc nL ret d Γ) {a0 a1 a2 a3 a4 a5 : Option Value} {r : List (Option Value)} {x : Int64} (hd : decode cc pc = .ok (.lload 6, 2)) (k : VG Γ kc kn (pc + 2) (a0 :: a1 :: a2 :: a3 :: a4 :: a5 :: some (.long x) :: r) (.long x :: st) I J P Φ) : VG Γ kc kn pc (a0 :: a1 :: a2 :: a3 :: a4 :: a5 :: some (.long x) :: r) st I J P Φ := q_lload h 6 hd rfl k
theorem g_istore_6 (h : Vc own cc nL ret d Γ) {a0 a1 a2 a3 a4 a5 : Option Value} {b : Option Value} {r : List (Option Value)} {x : Int32} (hd : decode cc pc = .ok (.istore 6, 2)) (hi : 6 < nL) (ok : okst (a0 :: a1 :: a2 :: a3 :: a4 :: a5 :: b :: r) 6 = true) (k : VG Γ kc kn (pc + 2) (a0 :: a1 :: a2 :: a3 :: a4 :: a5 :: some (.int x) :: r) st I J P Φ) : VG Γ kc kn pc (a0 :: a1 :: a2 :: a3 :: a4 :: a5 :: b :: r) (.int x :: st) I J P Φ := q_istore h 6 hd hi ok k
theorem g_astore_6 (h : Vc own cc nL ret d Γ) {a0 a1 a2 a3 a4 a5 : Option Value} {b : Option Value} {r : List (Option Value)} {x : Nat} (hd : decode cc pc = .ok (.astore 6, 2)) (hi : 6 < nL) (ok : okst (a0 :: a1 :: a2 :: a3 :: a4 :: a5 :: b :: r) 6 = true) (k : VG Γ kc kn (pc + 2) (a0 :: a1 :: a2 :: a3 :: a4 :: a5 :: some (.ref x) :: r) st I J P Φ) : VG Γ kc kn pc (a0 :: a1 :: a2 :: a3 :: a4 :: a5 :: b :: r) (.ref x :: st) I J P Φ := q_astore h 6 hd hi ok k
theorem g_lstore_6 (h : Vc own cc nL ret d Γ) {a0 a1 a2 a3 a4 a5 : Option Value} {b b2 : Option Value} {r : List (Option Value)} {x : Int64} (hd : decode cc pc = .ok (.lstore 6, 2)) (hi : 6 + 1 < nL) (ok : okst (a0 :: a1 :: a2 :: a3 :: a4 :: a5 :: b :: b2 :: r) 6 = true) (k : VG Γ kc kn (pc + 2) (a0 :: a1 :: a2 :: a3 :: a4 :: a5 :: some (.long x) :: none :: r) st I J P Φ) : VG Γ kc kn pc (a0 :: a1 :: a2 :: a3 :: a4 :: a5 :: b :: b2 :: r) (.long x :: st) I J P Φ := q_lstore h 6 hd hi ok k
theorem g_iinc_6 (h : Vc own cc nL ret d Γ) {a0 a1 a2 a3 a4 a5 : Option Value} {r : List (Option Value)} {x v : Int32} {n : Int} (hd : decode cc pc = .ok (.iinc 6 n, 3)) (hv : x + Int32.ofInt n = v) (hi : 6 < nL) (ok : okst (a0 :: a1 :: a2 :: a3 :: a4 :: a5 :: some (.int x) :: r) 6 = true) (k : VG Γ kc kn (pc + 3) (a0 :: a1 :: a2 :: a3 :: a4 :: a5 :: some (.int v) :: r) st I J P Φ) : VG Γ kc kn pc (a0 :: a1 :: a2 :: a3 :: a4 :: a5 :: some (.int x) :: r) st I J P Φ := q_iinc h 6 hd rfl hv hi ok k
theorem g_iload_7 (h : Vc own cc nL ret d Γ) {a0 a1 a2 a3 a4 a5 a6 : Option Value} {r : List (Option Value)} {x : Int32} (hd : decode cc pc = .ok (.iload 7, 2)) (k : VG Γ kc kn (pc + 2) (a0 :: a1 :: a2 :: a3 :: a4 :: a5 :: a6 :: some (.int x) :: r) (.int x :: st) I J P Φ) : VG Γ kc kn pc (a0 :: a1 :: a2 :: a3 :: a4 :: a5 :: a6 :: some (.int x) :: r) st I J P Φ := q_iload h 7 hd rfl k
theorem g_aload_7 (h : Vc own cc nL ret d Γ) {a0 a1 a2 a3 a4 a5 a6 : Option Value} {r : List (Option Value)} {x : Nat} (hd : decode cc pc = .ok (.aload 7, 2)) (k : VG Γ kc kn (pc + 2) (a0 :: a1 :: a2 :: a3 :: a4 :: a5 :: a6 :: some (.ref x) :: r) (.ref x :: st) I J P Φ) : VG Γ kc kn pc (a0 :: a1 :: a2 :: a3 :: a4 :: a5 :: a6 :: some (.ref x) :: r) st I J P Φ := q_aload h 7 hd rfl k
theorem g_lload_7 (h : Vc own cc nL ret d Γ) {a0 a1 a2 a3 a4 a5 a6 : Option Value} {r : List (Option Value)} {x : Int64} (hd : decode cc pc = .ok (.lload 7, 2)) (k : VG Γ kc kn (pc + 2) (a0 :: a1 :: a2 :: a3 :: a4 :: a5 :: a6 :: some (.long x) :: r) (.long x :: st) I J P Φ) : VG Γ kc kn pc (a0 :: a1 :: a2 :: a3 :: a4 :: a5 :: a6 :: some (.long x) :: r) st I J P Φ := q_lload h 7 hd rfl k
theorem g_istore_7 (h : Vc own cc nL ret d Γ) {a0 a1 a2 a3 a4 a5 a6 : Option Value} {b : Option Value} {r : List (Option Value)} {x : Int32} (hd : decode cc pc = .ok (.istore 7, 2)) (hi : 7 < nL) (ok : okst (a0 :: a1 :: a2 :: a3 :: a4 :: a5 :: a6 :: b :: r) 7 = true) (k : VG Γ kc kn (pc + 2) (a0 :: a1 :: a2 :: a3 :: a4 :: a5 :: a6 :: some (.int x) :: r) st I J P Φ) : VG Γ kc kn pc (a0 :: a1 :: a2 :: a3 :: a4 :: a5 :: a6 :: b :: r) (.int x :: st) I J P Φ := q_istore h 7 hd hi ok k
theorem g_astore_7 (h : Vc own cc nL ret d Γ) {a0 a1 a2 a3 a4 a5 a6 : Option Value} {b : Option Value} {r : List (Option Value)} {x : Nat} (hd : decode cc pc = .ok (.astore 7, 2)) (hi : 7 < nL) (ok : okst (a0 :: a1 :: a2 :: a3 :: a4 :: a5 :: a6 :: b :: r) 7 = true) (k : VG Γ kc kn (pc + 2) (a0 :: a1 :: a2 :: a3 :: a4 :: a5 :: a6 :: some (.ref x) :: r) st I J P Φ) : VG Γ kc kn pc (a0 :: a1 :: a2 :: a3 :: a4 :: a5 :: a6 :: b :: r) (.ref x :: st) I J P Φ := q_astore h 7 hd hi ok k
theorem g_lstore_7 (h : Vc own cc nL ret d Γ) {a0 a1 a2 a3 a4 a5 a6 : Option Value} {b b2 : Option Value} {r : List (Option Value)} {x : Int64} (hd : decode cc pc = .ok (.lstore 7, 2)) (hi : 7 + 1 < nL) (ok : okst (a0 :: a1 :: a2 :: a3 :: a4 :: a5 :: a6 :: b :: b2 :: r) 7 = true) (k : VG Γ kc kn (pc + 2) (a0 :: a1 :: a2 :: a3 :: a4 :: a5 :: a6 :: some (.long x) :: none :: r) st I J P Φ) : VG Γ kc kn pc (a0 :: a1 :: a2 :: a3 :: a4 :: a5 :: a6 :: b :: b2 :: r) (.long x :: st) I J P Φ := q_lstore h 7 hd hi ok k
theorem g_iinc_7 (h : Vc own cc nL ret d Γ) {a0 a1 a2 a3 a4 a5 a6 : Option Value} {r : List (Option Value)} {x v : Int32} {n : Int} (hd : decode cc pc = .ok (.iinc 7 n, 3)) (hv : x + Int32.ofInt n = v) (hi : 7 < nL) (ok : okst (a0 :: a1 :: a2 :: a3 :: a4 :: a5 :: a6 :: some (.int x) :: r) 7 = true) (k : VG Γ kc kn (pc + 3) (a0 :: a1 :: a2 :: a3 :: a4 :: a5 :: a6 :: some (.int v) :: r) st I J P Φ) : VG Γ kc kn pc (a0 :: a1 :: a2 :: a3 :: a4 :: a5 :: a6 :: some (.int x) :: r) st I J P Φ := q_iinc h 7 hd rfl hv hi ok k
theorem g_iload_8 (h : Vc own cc nL ret d Γ) {a0 a1 a2 a3 a4 a5 a6 a7 : Option Value} {r : List (Option Value)} {x : Int32} (hd : decode cc pc = .ok (.iload 8, 2)) (k : VG Γ kc kn (pc + 2) (a0 :: a1 :: a2 :: a3 :: a4 :: a5 :: a6 :: a7 :: some (.int x) :: r) (.int x :: st) I J P Φ) : VG Γ kc kn pc (a0 :: a1 :: a2 :: a3 :: a4 :: a5 :: a6 :: a7 :: some (.int x) :: r) st I J P Φ := q_iload h 8 hd rfl k
theorem g_aload_8 (h : Vc own cc nL ret d Γ) {a0 a1 a2 a3 a4 a5 a6 a7 : Option Value} {r : List (Option Value)} {x : Nat} (hd : decode cc pc = .ok (.aload 8, 2)) (k : VG Γ kc kn (pc + 2) (a0 :: a1 :: a2 :: a3 :: a4 :: a5 :: a6 :: a7 :: some (.ref x) :: r) (.ref x :: st) I J P Φ) : VG Γ kc kn pc (a0 :: a1 :: a2 :: a3 :: a4 :: a5 :: a6 :: a7 :: some (.ref x) :: r) st I J P Φ := q_aload h 8 hd rfl k
theorem g_lload_8 (h : Vc own cc nL ret d Γ) {a0 a1 a2 a3 a4 a5 a6 a7 : Option Value} {r : List (Option Value)} {x : Int64} (hd : decode cc pc = .ok (.lload 8, 2)) (k : VG Γ kc kn (pc + 2) (a0 :: a1 :: a2 :: a3 :: a4 :: a5 :: a6 :: a7 :: some (.long x) :: r) (.long x :: st) I J P Φ) : VG Γ kc kn pc (a0 :: a1 :: a2 :: a3 :: a4 :: a5 :: a6 :: a7 :: some (.long x) :: r) st I J P Φ := q_lload h 8 hd rfl k
theorem g_istore_8 (h : Vc own cc nL ret d Γ) {a0 a1 a2 a3 a4 a5 a6 a7 : Option Value} {b : Option Value} {r : List (Option Value)} {x : Int32} (hd : decode cc pc = .ok (.istore 8, 2)) (hi : 8 < nL) (ok : okst (a0 :: a1 :: a2 :: a3 :: a4 :: a5 :: a6 :: a7 :: b :: r) 8 = true) (k : VG Γ kc kn (pc + 2) (a0 :: a1 :: a2 :: a3 :: a4 :: a5 :: a6 :: a7 :: some (.int x) :: r) st I J P Φ) : VG Γ kc kn pc (a0 :: a1 :: a2 :: a3 :: a4 :: a5 :: a6 :: a7 :: b :: r) (.int x :: st) I J P Φ := q_istore h 8 hd hi ok k
theorem g_astore_8 (h : Vc own cc nL ret d Γ) {a0 a1 a2 a3 a4 a5 a6 a7 : Option Value} {b : Option Value} {r : List (Option Value)} {x : Nat} (hd : decode cc pc = .ok (.astore 8, 2)) (hi : 8 < nL) (ok : okst (a0 :: a1 :: a2 :: a3 :: a4 :: a5 :: a6 :: a7 :: b :: r) 8 = true) (k : VG Γ kc kn (pc + 2) (a0 :: a1 :: a2 :: a3 :: a4 :: a5 :: a6 :: a7 :: some (.ref x) :: r) st I J P Φ) : VG Γ kc kn pc (a0 :: a1 :: a2 :: a3 :: a4 :: a5 :: a6 :: a7 :: b :: r) (.ref x :: st) I J P Φ := q_astore h 8 hd hi ok k
theorem g_lstore_8 (h : Vc own cc nL ret d Γ) {a0 a1 a2 a3 a4 a5 a6 a7 : Option Value} {b b2 : Option Value} {r : List (Option Value)} {x : Int64} (hd : decode cc pc = .ok (.lstore 8, 2)) (hi : 8 + 1 < nL) (ok : okst (a0 :: a1 :: a2 :: a3 :: a4 :: a5 :: a6 :: a7 :: b :: b2 :: r) 8 = true) (k : VG Γ kc kn (pc + 2) (a0 :: a1 :: a2 :: a3 :: a4 :: a5 :: a6 :: a7 :: some (.long x) :: none :: r) st I J P Φ) : VG Γ kc kn pc (a0 :: a1 :: a2 :: a3 :: a4 :: a5 :: a6 :: a7 :: b :: b2 :: r) (.long x :: st) I J P Φ := q_lstore h 8 hd hi ok k
theorem g_iinc_8 (h : Vc own cc nL ret d Γ) {a0 a1 a2 a3 a4 a5 a6 a7 : Option Value} {r : List (Option Value)} {x v : Int32} {n : Int} (hd : decode cc pc = .ok (.iinc 8 n, 3)) (hv : x + Int32.ofInt n = v) (hi : 8 < nL) (ok : okst (a0 :: a1 :: a2 :: a3 :: a4 :: a5 :: a6 :: a7 :: some (.int x) :: r) 8 = true) (k : VG Γ kc kn (pc + 3) (a0 :: a1 :: a2 :: a3 :: a4 :: a5 :: a6 :: a7 :: some (.int v) :: r) st I J P Φ) : VG Γ kc kn pc (a0 :: a1 :: a2 :: a3 :: a4 :: a5 :: a6 :: a7 :: some (.int x) :: r) st I J P Φ := q_iinc h 8 hd rfl hv hi ok k
end GR
