/-! The law: rows of its higher places, its script, its small methods -/
section GR9
variable {own : String} {cc : ByteArray} {nL d kc kn pc : Nat} {ret : Option FieldType} {Γ : Cx} {lv : List (Option Value)} {st : List Value} {I : MI} {J : MJ} {P : MP} {Φ : State → Prop}
theorem g_iload_9 (h : Vc own cc nL ret d Γ) {a0 a1 a2 a3 a4 a5 a6 a7 a8 : Option Value} {r : List (Option Value)} {x : Int32} (hd : decode cc pc = .ok (.iload 9, 2)) (k : VG Γ kc kn (pc + 2) (a0 :: a1 :: a2 :: a3 :: a4 :: a5 :: a6 :: a7 :: a8 :: some (.int x) :: r) (.int x :: st) I J P Φ) : VG Γ kc kn pc (a0 :: a1 :: a2 :: a3 :: a4 :: a5 :: a6 :: a7 :: a8 :: some (.int x) :: r) st I J P Φ := q_iload h 9 hd rfl k
theorem g_aload_9 (h : Vc own cc nL ret d Γ) {a0 a1 a2 a3 a4 a5 a6 a7 a8 : Option Value} {r : List (Option Value)} {x : Nat} (hd : decode cc pc = .ok (.aload 9, 2)) (k : VG Γ kc kn (pc + 2) (a0 :: a1 :: a2 :: a3 :: a4 :: a5 :: a6 :: a7 :: a8 :: some (.ref x) :: r) (.ref x :: st) I J P Φ) : VG Γ kc kn pc (a0 :: a1 :: a2 :: a3 :: a4 :: a5 :: a6 :: a7 :: a8 :: some (.ref x) :: r) st I J P Φ := q_aload h 9 hd rfl k
theorem g_lload_9 (h : Vc own cc nL ret d Γ) {a0 a1 a2 a3 a4 a5 a6 a7 a8 : Option Value} {r : List (Option Value)} {x : Int64} (hd : decode cc pc = .ok (.lload 9, 2)) (k : VG Γ kc kn (pc + 2) (a0 :: a1 :: a2 :: a3 :: a4 :: a5 :: a6 :: a7 :: a8 :: some (.long x) :: r) (.long x :: st) I J P Φ) : VG Γ kc kn pc (a0 :: a1 :: a2 :: a3 :: a4 :: a5 :: a6 :: a7 :: a8 :: some (.long x) :: r) st I J P Φ := q_lload h 9 hd rfl k
theorem g_istore_9 (h : Vc own cc nL ret d Γ) {a0 a1 a2 a3 a4 a5 a6 a7 a8 : Option Value} {b : Option Value} {r : List (Option Value)} {x : Int32} (hd : decode cc pc = .ok (.istore 9, 2)) (hi : 9 < nL) (ok : okst (a0 :: a1 :: a2 :: a3 :: a4 :: a5 :: a6 :: a7 :: a8 :: b :: r) 9 = true) (k : VG Γ kc kn (pc + 2) (a0 :: a1 :: a2 :: a3 :: a4 :: a5 :: a6 :: a7 :: a8 :: some (.int x) :: r) st I J P Φ) : VG Γ kc kn pc (a0 :: a1 :: a2 :: a3 :: a4 :: a5 :: a6 :: a7 :: a8 :: b :: r) (.int x :: st) I J P Φ := q_istore h 9 hd hi ok k
theorem g_astore_9 (h : Vc own cc nL ret d Γ) {a0 a1 a2 a3 a4 a5 a6 a7 a8 : Option Value} {b : Option Value} {r : List (Option Value)} {x : Nat} (hd : decode cc pc = .ok (.astore 9, 2)) (hi : 9 < nL) (ok : okst (a0 :: a1 :: a2 :: a3 :: a4 :: a5 :: a6 :: a7 :: a8 :: b :: r) 9 = true) (k : VG Γ kc kn (pc + 2) (a0 :: a1 :: a2 :: a3 :: a4 :: a5 :: a6 :: a7 :: a8 :: some (.ref x) :: r) st I J P Φ) : VG Γ kc kn pc (a0 :: a1 :: a2 :: a3 :: a4 :: a5 :: a6 :: a7 :: a8 :: b :: r) (.ref x :: st) I J P Φ := q_astore h 9 hd hi ok k
theorem g_lstore_9 (h : Vc own cc nL ret d Γ) {a0 a1 a2 a3 a4 a5 a6 a7 a8 : Option Value} {b b2 : Option Value} {r : List (Option Value)} {x : Int64} (hd : decode cc pc = .ok (.lstore 9, 2)) (hi : 9 + 1 < nL) (ok : okst (a0 :: a1 :: a2 :: a3 :: a4 :: a5 :: a6 :: a7 :: a8 :: b :: b2 :: r) 9 = true) (k : VG Γ kc kn (pc + 2) (a0 :: a1 :: a2 :: a3 :: a4 :: a5 :: a6 :: a7 :: a8 :: some (.long x) :: none :: r) st I J P Φ) : VG Γ kc kn pc (a0 :: a1 :: a2 :: a3 :: a4 :: a5 :: a6 :: a7 :: a8 :: b :: b2 :: r) (.long x :: st) I J P Φ := q_lstore h 9 hd hi ok k
theorem g_iinc_9 (h : Vc own cc nL ret d Γ) {a0 a1 a2 a3 a4 a5 a6 a7 a8 : Option Value} {r : List (Option Value)} {x v : Int32} {n : Int} (hd : decode cc pc = .ok (.iinc 9 n, 3)) (hv : x + Int32.ofInt n = v) (hi : 9 < nL) (ok : okst (a0 :: a1 :: a2 :: a3 :: a4 :: a5 :: a6 :: a7 :: a8 :: some (.int x) :: r) 9 = true) (k : VG Γ kc kn (pc + 3) (a0 :: a1 :: a2 :: a3 :: a4 :: a5 :: a6 :: a7 :: a8 :: some (.int v) :: r) st I J P Φ) : VG Γ kc kn pc (a0 :: a1 :: a2 :: a3 :: a4 :: a5 :: a6 :: a7 :: a8 :: some (.int x) :: r) st I J P Φ := q_iinc h 9 hd rfl hv hi ok k
theorem g_iload_10 (h : Vc own cc nL ret d Γ) {a0 a1 a2 a3 a4 a5 a6 a7 a8 a9 : Option Value} {r : List (Option Value)} {x : Int32} (hd : decode cc pc = .ok (.iload 10, 2)) (k : VG Γ kc kn (pc + 2) (a0 :: a1 :: a2 :: a3 :: a4 :: a5 :: a6 :: a7 :: a8 :: a9 :: some (.int x) :: r) (.int x :: st) I J P Φ) : VG Γ kc kn pc (a0 :: a1 :: a2 :: a3 :: a4 :: a5 :: a6 :: a7 :: a8 :: a9 :: some (.int x) :: r) st I J P Φ := q_iload h 10 hd rfl k
theorem g_aload_10 (h : Vc own cc nL ret d Γ) {a0 a1 a2 a3 a4 a5 a6 a7 a8 a9 : Option Value} {r : List (Option Value)} {x : Nat} (hd : decode cc pc = .ok (.aload 10, 2)) (k : VG Γ kc kn (pc + 2) (a0 :: a1 :: a2 :: a3 :: a4 :: a5 :: a6 :: a7 :: a8 :: a9 :: some (.ref x) :: r) (.ref x :: st) I J P Φ) : VG Γ kc kn pc (a0 :: a1 :: a2 :: a3 :: a4 :: a5 :: a6 :: a7 :: a8 :: a9 :: some (.ref x) :: r) st I J P Φ := q_aload h 10 hd rfl k
theorem g_lload_10 (h : Vc own cc nL ret d Γ) {a0 a1 a2 a3 a4 a5 a6 a7 a8 a9 : Option Value} {r : List (Option Value)} {x : Int64} (hd : decode cc pc = .ok (.lload 10, 2)) (k : VG Γ kc kn (pc + 2) (a0 :: a1 :: a2 :: a3 :: a4 :: a5 :: a6 :: a7 :: a8 :: a9 :: some (.long x) :: r) (.long x :: st) I J P Φ) : VG Γ kc kn pc (a0 :: a1 :: a2 :: a3 :: a4 :: a5 :: a6 :: a7 :: a8 :: a9 :: some (.long x) :: r) st I J P Φ := q_lload h 10 hd rfl k
theorem g_istore_10 (h : Vc own cc nL ret d Γ) {a0 a1 a2 a3 a4 a5 a6 a7 a8 a9 : Option Value} {b : Option Value} {r : List (Option Value)} {x : Int32} (hd : decode cc pc = .ok (.istore 10, 2)) (hi : 10 < nL) (ok : okst (a0 :: a1 :: a2 :: a3 :: a4 :: a5 :: a6 :: a7 :: a8 :: a9 :: b :: r) 10 = true) (k : VG Γ kc kn (pc + 2) (a0 :: a1 :: a2 :: a3 :: a4 :: a5 :: a6 :: a7 :: a8 :: a9 :: some (.int x) :: r) st I J P Φ) : VG Γ kc kn pc (a0 :: a1 :: a2 :: a3 :: a4 :: a5 :: a6 :: a7 :: a8 :: a9 :: b :: r) (.int x :: st) I J P Φ := q_istore h 10 hd hi ok k
theorem g_astore_10 (h : Vc own cc nL ret d Γ) {a0 a1 a2 a3 a4 a5 a6 a7 a8 a9 : Option Value} {b : Option Value} {r : List (Option Value)} {x : Nat} (hd : decode cc pc = .ok (.astore 10, 2)) (hi : 10 < nL) (ok : okst (a0 :: a1 :: a2 :: a3 :: a4 :: a5 :: a6 :: a7 :: a8 :: a9 :: b :: r) 10 = true) (k : VG Γ kc kn (pc + 2) (a0 :: a1 :: a2 :: a3 :: a4 :: a5 :: a6 :: a7 :: a8 :: a9 :: some (.ref x) :: r) st I J P Φ) : VG Γ kc kn pc (a0 :: a1 :: a2 :: a3 :: a4 :: a5 :: a6 :: a7 :: a8 :: a9 :: b :: r) (.ref x :: st) I J P Φ := q_astore h 10 hd hi ok k
theorem g_lstore_10 (h : Vc own cc nL ret d Γ) {a0 a1 a2 a3 a4 a5 a6 a7 a8 a9 : Option Value} {b b2 : Option Value} {r : List (Option Value)} {x : Int64} (hd : decode cc pc = .ok (.lstore 10, 2)) (hi : 10 + 1 < nL) (ok : okst (a0 :: a1 :: a2 :: a3 :: a4 :: a5 :: a6 :: a7 :: a8 :: a9 :: b :: b2 :: r) 10 = true) (k : VG Γ kc kn (pc + 2) (a0 :: a1 :: a2 :: a3 :: a4 :: a5 :: a6 :: a7 :: a8 :: a9 :: some (.long x) :: none :: r) st I J P Φ) : VG Γ kc kn pc (a0 :: a1 :: a2 :: a3 :: a4 :: a5 :: a6 :: a7 :: a8 :: a9 :: b :: b2 :: r) (.long x :: st) I J P Φ := q_lstore h 10 hd hi ok k
theorem g_iinc_10 (h : Vc own cc nL ret d Γ) {a0 a1 a2 a3 a4 a5 a6 a7 a8 a9 : Option Value} {r : List (Option Value)} {x v : Int32} {n : Int} (hd : decode cc pc = .ok (.iinc 10 n, 3)) (hv : x + Int32.ofInt n = v) (hi : 10 < nL) (ok : okst (a0 :: a1 :: a2 :: a3 :: a4 :: a5 :: a6 :: a7 :: a8 :: a9 :: some (.int x) :: r) 10 = true) (k : VG Γ kc kn (pc + 3) (a0 :: a1 :: a2 :: a3 :: a4 :: a5 :: a6 :: a7 :: a8 :: a9 :: some (.int v) :: r) st I J P Φ) : VG Γ kc kn pc (a0 :: a1 :: a2 :: a3 :: a4 :: a5 :: a6 :: a7 :: a8 :: a9 :: some (.int x) :: r) st I J P Φ := q_iinc h 10 hd rfl hv hi ok k
theorem g_iload_11 (h : Vc own cc nL ret d Γ) {a0 a1 a2 a3 a4 a5 a6 a7 a8 a9 a10 : Option Value} {r : List (Option Value)} {x : Int32} (hd : decode cc pc = .ok (.iload 11, 2)) (k : VG Γ kc kn (pc + 2) (a0 :: a1 :: a2 :: a3 :: a4 :: a5 :: a6 :: a7 :: a8 :: a9 :: a10 :: some (.int x) :: r) (.int x :: st) I J P Φ) : VG Γ kc kn pc (a0 :: a1 :: a2 :: a3 :: a4 :: a5 :: a6 :: a7 :: a8 :: a9 :: a10 :: some (.int x) :: r) st I J P Φ := q_iload h 11 hd rfl k
theorem g_aload_11 (h : Vc own cc nL ret d Γ) {a0 a1 a2 a3 a4 a5 a6 a7 a8 a9 a10 : Option Value} {r : List (Option Value)} {x : Nat} (hd : decode cc pc = .ok (.aload 11, 2)) (k : VG Γ kc kn (pc + 2) (a0 :: a1 :: a2 :: a3 :: a4 :: a5 :: a6 :: a7 :: a8 :: a9 :: a10 :: some (.ref x) :: r) (.ref x :: st) I J P Φ) : VG Γ kc kn pc (a0 :: a1 :: a2 :: a3 :: a4 :: a5 :: a6 :: a7 :: a8 :: a9 :: a10 :: some (.ref x) :: r) st I J P Φ := q_aload h 11 hd rfl k
theorem g_lload_11 (h : Vc own cc nL ret d Γ) {a0 a1 a2 a3 a4 a5 a6 a7 a8 a9 a10 : Option Value} {r : List (Option Value)} {x : Int64} (hd : decode cc pc = .ok (.lload 11, 2)) (k : VG Γ kc kn (pc + 2) (a0 :: a1 :: a2 :: a3 :: a4 :: a5 :: a6 :: a7 :: a8 :: a9 :: a10 :: some (.long x) :: r) (.long x :: st) I J P Φ) : VG Γ kc kn pc (a0 :: a1 :: a2 :: a3 :: a4 :: a5 :: a6 :: a7 :: a8 :: a9 :: a10 :: some (.long x) :: r) st I J P Φ := q_lload h 11 hd rfl k
theorem g_istore_11 (h : Vc own cc nL ret d Γ) {a0 a1 a2 a3 a4 a5 a6 a7 a8 a9 a10 : Option Value} {b : Option Value} {r : List (Option Value)} {x : Int32} (hd : decode cc pc = .ok (.istore 11, 2)) (hi : 11 < nL) (ok : okst (a0 :: a1 :: a2 :: a3 :: a4 :: a5 :: a6 :: a7 :: a8 :: a9 :: a10 :: b :: r) 11 = true) (k : VG Γ kc kn (pc + 2) (a0 :: a1 :: a2 :: a3 :: a4 :: a5 :: a6 :: a7 :: a8 :: a9 :: a10 :: some (.int x) :: r) st I J P Φ) : VG Γ kc kn pc (a0 :: a1 :: a2 :: a3 :: a4 :: a5 :: a6 :: a7 :: a8 :: a9 :: a10 :: b :: r) (.int x :: st) I J P Φ := q_istore h 11 hd hi ok k
theorem g_astore_11 (h : Vc own cc nL ret d Γ) {a0 a1 a2 a3 a4 a5 a6 a7 a8 a9 a10 : Option Value} {b : Option Value} {r : List (Option Value)} {x : Nat} (hd : decode cc pc = .ok (.astore 11, 2)) (hi : 11 < nL) (ok : okst (a0 :: a1 :: a2 :: a3 :: a4 :: a5 :: a6 :: a7 :: a8 :: a9 :: a10 :: b :: r) 11 = true) (k : VG Γ kc kn (pc + 2) (a0 :: a1 :: a2 :: a3 :: a4 :: a5 :: a6 :: a7 :: a8 :: a9 :: a10 :: some (.ref x) :: r) st I J P Φ) : VG Γ kc kn pc (a0 :: a1 :: a2 :: a3 :: a4 :: a5 :: a6 :: a7 :: a8 :: a9 :: a10 :: b :: r) (.ref x :: st) I J P Φ := q_astore h 11 hd hi ok k
theorem g_lstore_11 (h : Vc own cc nL ret d Γ) {a0 a1 a2 a3 a4 a5 a6 a7 a8 a9 a10 : Option Value} {b b2 : Option Value} {r : List (Option Value)} {x : Int64} (hd : decode cc pc = .ok (.lstore 11, 2)) (hi : 11 + 1 < nL) (ok : okst (a0 :: a1 :: a2 :: a3 :: a4 :: a5 :: a6 :: a7 :: a8 :: a9 :: a10 :: b :: b2 :: r) 11 = true) (k : VG Γ kc kn (pc + 2) (a0 :: a1 :: a2 :: a3 :: a4 :: a5 :: a6 :: a7 :: a8 :: a9 :: a10 :: some (.long x) :: none :: r) st I J P Φ) : VG Γ kc kn pc (a0 :: a1 :: a2 :: a3 :: a4 :: a5 :: a6 :: a7 :: a8 :: a9 :: a10 :: b :: b2 :: r) (.long x :: st) I J P Φ := q_lstore h 11 hd hi ok k
theorem g_iinc_11 (h : Vc own cc nL ret d Γ) {a0 a1 a2 a3 a4 a5 a6 a7 a8 a9 a10 : Option Value} {r : List (Option Value)} {x v : Int32} {n : Int} (hd : decode cc pc = .ok (.iinc 11 n, 3)) (hv : x + Int32.ofInt n = v) (hi : 11 < nL) (ok : okst (a0 :: a1 :: a2 :: a3 :: a4 :: a5 :: a6 :: a7 :: a8 :: a9 :: a10 :: some (.int x) :: r) 11 = true) (k : VG Γ kc kn (pc + 3) (a0 :: a1 :: a2 :: a3 :: a4 :: a5 :: a6 :: a7 :: a8 :: a9 :: a10 :: some (.int v) :: r) st I J P Φ) : VG Γ kc kn pc (a0 :: a1 :: a2 :: a3 :: a4 :: a5 :: a6 :: a7 :: a8 :: a9 :: a10 :: some (.int x) :: r) st I J P Φ := q_iinc h 11 hd rfl hv hi ok k
theorem g_iload_12 (h : Vc own cc nL ret d Γ) {a0 a1 a2 a3 a4 a5 a6 a7 a8 a9 a10 a11 : Option Value} {r : List (Option Value)} {x : Int32} (hd : decode cc pc = .ok (.iload 12, 2)) (k : VG Γ kc kn (pc + 2) (a0 :: a1 :: a2 :: a3 :: a4 :: a5 :: a6 :: a7 :: a8 :: a9 :: a10 :: a11 :: some (.int x) :: r) (.int x :: st) I J P Φ) : VG Γ kc kn pc (a0 :: a1 :: a2 :: a3 :: a4 :: a5 :: a6 :: a7 :: a8 :: a9 :: a10 :: a11 :: some (.int x) :: r) st I J P Φ := q_iload h 12 hd rfl k
theorem g_aload_12 (h : Vc own cc nL ret d Γ) {a0 a1 a2 a3 a4 a5 a6 a7 a8 a9 a10 a11 : Option Value} {r : List (Option Value)} {x : Nat} (hd : decode cc pc = .ok (.aload 12, 2)) (k : VG Γ kc kn (pc + 2) (a0 :: a1 :: a2 :: a3 :: a4 :: a5 :: a6 :: a7 :: a8 :: a9 :: a10 :: a11 :: some (.ref x) :: r) (.ref x :: st) I J P Φ) : VG Γ kc kn pc (a0 :: a1 :: a2 :: a3 :: a4 :: a5 :: a6 :: a7 :: a8 :: a9 :: a10 :: a11 :: some (.ref x) :: r) st I J P Φ := q_aload h 12 hd rfl k
theorem g_lload_12 (h : Vc own cc nL ret d Γ) {a0 a1 a2 a3 a4 a5 a6 a7 a8 a9 a10 a11 : Option Value} {r : List (Option Value)} {x : Int64} (hd : decode cc pc = .ok (.lload 12, 2)) (k : VG Γ kc kn (pc + 2) (a0 :: a1 :: a2 :: a3 :: a4 :: a5 :: a6 :: a7 :: a8 :: a9 :: a10 :: a11 :: some (.long x) :: r) (.long x :: st) I J P Φ) : VG Γ kc kn pc (a0 :: a1 :: a2 :: a3 :: a4 :: a5 :: a6 :: a7 :: a8 :: a9 :: a10 :: a11 :: some (.long x) :: r) st I J P Φ := q_lload h 12 hd rfl k
theorem g_istore_12 (h : Vc own cc nL ret d Γ) {a0 a1 a2 a3 a4 a5 a6 a7 a8 a9 a10 a11 : Option Value} {b : Option Value} {r : List (Option Value)} {x : Int32} (hd : decode cc pc = .ok (.istore 12, 2)) (hi : 12 < nL) (ok : okst (a0 :: a1 :: a2 :: a3 :: a4 :: a5 :: a6 :: a7 :: a8 :: a9 :: a10 :: a11 :: b :: r) 12 = true) (k : VG Γ kc kn (pc + 2) (a0 :: a1 :: a2 :: a3 :: a4 :: a5 :: a6 :: a7 :: a8 :: a9 :: a10 :: a11 :: some (.int x) :: r) st I J P Φ) : VG Γ kc kn pc (a0 :: a1 :: a2 :: a3 :: a4 :: a5 :: a6 :: a7 :: a8 :: a9 :: a10 :: a11 :: b :: r) (.int x :: st) I J P Φ := q_istore h 12 hd hi ok k
theorem g_astore_12 (h : Vc own cc nL ret d Γ) {a0 a1 a2 a3 a4 a5 a6 a7 a8 a9 a10 a11 : Option Value} {b : Option Value} {r : List (Option Value)} {x : Nat} (hd : decode cc pc = .ok (.astore 12, 2)) (hi : 12 < nL) (ok : okst (a0 :: a1 :: a2 :: a3 :: a4 :: a5 :: a6 :: a7 :: a8 :: a9 :: a10 :: a11 :: b :: r) 12 = true) (k : VG Γ kc kn (pc + 2) (a0 :: a1 :: a2 :: a3 :: a4 :: a5 :: a6 :: a7 :: a8 :: a9 :: a10 :: a11 :: some (.ref x) :: r) st I J P Φ) : VG Γ kc kn pc (a0 :: a1 :: a2 :: a3 :: a4 :: a5 :: a6 :: a7 :: a8 :: a9 :: a10 :: a11 :: b :: r) (.ref x :: st) I J P Φ := q_astore h 12 hd hi ok k
theorem g_lstore_12 (h : Vc own cc nL ret d Γ) {a0 a1 a2 a3 a4 a5 a6 a7 a8 a9 a10 a11 : Option Value} {b b2 : Option Value} {r : List (Option Value)} {x : Int64} (hd : decode cc pc = .ok (.lstore 12, 2)) (hi : 12 + 1 < nL) (ok : okst (a0 :: a1 :: a2 :: a3 :: a4 :: a5 :: a6 :: a7 :: a8 :: a9 :: a10 :: a11 :: b :: b2 :: r) 12 = true) (k : VG Γ kc kn (pc + 2) (a0 :: a1 :: a2 :: a3 :: a4 :: a5 :: a6 :: a7 :: a8 :: a9 :: a10 :: a11 :: some (.long x) :: none :: r) st I J P Φ) : VG Γ kc kn pc (a0 :: a1 :: a2 :: a3 :: a4 :: a5 :: a6 :: a7 :: a8 :: a9 :: a10 :: a11 :: b :: b2 :: r) (.long x :: st) I J P Φ := q_lstore h 12 hd hi ok k
theorem g_iinc_12 (h : Vc own cc nL ret d Γ) {a0 a1 a2 a3 a4 a5 a6 a7 a8 a9 a10 a11 : Option Value} {r : List (Option Value)} {x v : Int32} {n : Int} (hd : decode cc pc = .ok (.iinc 12 n, 3)) (hv : x + Int32.ofInt n = v) (hi : 12 < nL) (ok : okst (a0 :: a1 :: a2 :: a3 :: a4 :: a5 :: a6 :: a7 :: a8 :: a9 :: a10 :: a11 :: some (.int x) :: r) 12 = true) (k : VG Γ kc kn (pc + 3) (a0 :: a1 :: a2 :: a3 :: a4 :: a5 :: a6 :: a7 :: a8 :: a9 :: a10 :: a11 :: some (.int v) :: r) st I J P Φ) : VG Γ kc kn pc (a0 :: a1 :: a2 :: a3 :: a4 :: a5 :: a6 :: a7 :: a8 :: a9 :: a10 :: a11 :: some (.int x) :: r) st I J P Φ := q_iinc h 12 hd rfl hv hi ok k
end GR9
def adL (Γ : Cx) : Nat := match Γ with
  | (_, _, _, _, _, _, _, _, _, _, ad, _, _, _, _) => ad 501
section GX
variable {own : String} {cc : ByteArray} {nL d kc kn pc : Nat} {ret : Option FieldType} {Γ : Cx} {lv : List (Option Value)} {st : List Value} {I : MI} {J : MJ} {P : MP} {Φ : State → Prop}
theorem g_xlen (h : Vc own cc nL ret d Γ) (hd : decode cc pc = .ok (.arraylength, 1)) (K : adL Γ ≤ 260 → VG Γ kc kn (pc + 1) lv (.int (nI (adL Γ)) :: st) I J P Φ) : VG Γ kc kn pc lv (.ref 500 :: st) I J P Φ := by
  obtain ⟨p, l, e, R, s, m, args, below, meth, c, ad, dC, dI, cy, A⟩ := Γ
  obtain ⟨hx, hb, hml, hr, hown, hts, hlk, hK, hA, hin, hAd, hf, hlo, hRO⟩ := h
  intro H locs ls hP hS hl
  exact va_tlen hx hb hRO.sx hS rfl hd (K hRO.sl H locs ls hP hS hl)
theorem g_xld (h : Vc own cc nL ret d Γ) {x : Int32} (j : Nat) (hd : decode cc pc = .ok (.iaload, 1)) (hj : x = nI j) (hn : j < adL Γ) (hL : adL Γ ≤ 260) (K : ∀ v, VG Γ kc kn (pc + 1) lv (.int v :: st) I J P Φ) : VG Γ kc kn pc lv (.int x :: .ref 500 :: st) I J P Φ := by
  obtain ⟨p, l, e, R, s, m, args, below, meth, c, ad, dC, dI, cy, A⟩ := Γ
  obtain ⟨hx, hb, hml, hr, hown, hts, hlk, hK, hA, hin, hAd, hf, hlo, hRO⟩ := h
  have hn : j < ad 501 := hn
  have hL : ad 501 ≤ 260 := hL
  intro H locs ls hP hS hl
  exact va_ti hx hb hRO.sx hS (by rw [hj]; exact vp_in_nI hn (by omega)) (v := .int (sxI ad j)) (by rw [hj, nI_clamp (by omega)]) hd (K _ H locs ls hP hS hl)
end GX
theorem lc_L_7 : Cond.constant RL 7 2147483647 ∈ bigW := bw_in (tb_2 (List.mem_of_getElem? (i := 160) rfl)) rfl
theorem lc_L_8 : Cond.constant RL 8 461243603 ∈ bigW := bw_in (tb_2 (List.mem_of_getElem? (i := 164) rfl)) rfl
theorem w31 (v : Int32) : ∃ j : Nat, j < 2 ^ 31 ∧ v &&& 2147483647 = nI j := pk_andE v 31 (by decide)
set_option maxRecDepth 100000 in
set_option maxHeartbeats 4000000 in
theorem sp_L_below {d n : Nat} (hn : 0 < n) (hn2 : n < 2 ^ 31) {v : Int32} {I : MI} {J : MJ} {P : MP} {Q : Int32 → MI → MJ → MP → Prop} (hQ : ∀ w, w < n → Q (nI w) I J P) : Sp yL_below cL_below 2 (some .int) d [.int v, .int (nI n)] I J P (Qi Q) := by
  intro Γ h
  show VG Γ 0 0 0 [some (.int v), some (.int (nI n))] [] _ _ _ _
  obtain ⟨j, j1, j2⟩ := w31 v
  refine g_iload_0 h dL_below_0 ?_
  refine g_ldcI h dL_below_1 lc_L_7 ?_
  refine g_iand h dL_below_3 ?_
  rw [j2]
  refine g_iload_1 h dL_below_4 ?_
  refine g_irem h dL_below_5 (fun q => by have := (nI_eq (a := n) (b := 0) hn2 (by decide)).mp q; omega) ?_
  refine g_iret h dL_below_6 ?_
  rw [pk_rem j1 hn hn2]
  exact hQ _ (Nat.mod_lt _ hn)
set_option maxRecDepth 100000 in
set_option maxHeartbeats 4000000 in
theorem sp_L_cell {d k : Nat} (hk : k < 2 ^ 31) {I : MI} {J : MJ} {P : MP} {Q : Int32 → MI → MJ → MP → Prop} (hQ : ∀ v, Q v I J P) : Sp yL_cell cL_cell 2 (some .int) d [.ref 500, .int (nI k)] I J P (Qi Q) := by
  intro Γ h
  show VG Γ 0 0 0 [some (.ref 500), some (.int (nI k))] [] _ _ _ _
  refine g_iload_1 h dL_cell_0 ?_
  refine g_aload_0 h dL_cell_1 ?_
  refine g_xlen h dL_cell_2 (fun hL => ?_)
  refine g_icmp_ge h 12 dL_cell_3 rfl (fun c3 => ?_) (fun c3 => ?_)
  · refine g_ldcI h dL_cell_12 lc_L_8 ?_
    refine g_iload_1 h dL_cell_14 ?_
    refine g_iconst h dL_cell_15 (v := nI 3) rfl ?_
    refine g_iadd h dL_cell_16 ?_
    refine g_imul h dL_cell_17 ?_
    refine g_iret h dL_cell_18 ?_
    exact hQ _
  · have hlt : k < adL Γ := by
      rcases Nat.lt_or_ge k (adL Γ) with q | q
      · exact q
      · exact absurd (nI_le q hk) c3
    refine g_aload_0 h dL_cell_6 ?_
    refine g_iload_1 h dL_cell_7 ?_
    refine g_xld h k dL_cell_8 rfl hlt hL (fun v => ?_)
    refine g_goto h 18 dL_cell_9 rfl ?_
    refine g_iret h dL_cell_18 ?_
    exact hQ _
set_option maxRecDepth 100000 in
set_option maxHeartbeats 4000000 in
theorem lp_L_places {Γ : Cx} {d : Nat} {v : Int32} {I : MI} {J : MJ} {P : MP} {Q : Int32 → MI → MJ → MP → Prop} (h : Vc RL cL_places 3 (some .int) d Γ) : ∀ (f r a : Nat), r < 10 ^ f → r < 2 ^ 31 → Q (nI (a + dgN f r)) I J P → VG Γ 0 0 4 [some (.int v), some (.int (nI a)), some (.int (nI r))] [] I J P (Fnl Γ (Qi Q)) := by
  intro f
  induction f with
  | zero =>
    intro r a h1 h2 hQ
    have : r = 0 := by omega
    subst this
    refine g_iload_2 h dL_places_4 ?_
    refine g_if_le h 23 dL_places_5 rfl (fun _ => ?_) (fun c => absurd (by decide) c)
    refine g_iload_1 h dL_places_23 ?_
    refine g_iret h dL_places_24 ?_
    exact hQ
  | succ f ih =>
    intro r a h1 h2 hQ
    refine g_iload_2 h dL_places_4 ?_
    by_cases z : r = 0
    · subst z
      refine g_if_le h 23 dL_places_5 rfl (fun _ => ?_) (fun c => absurd (by decide) c)
      refine g_iload_1 h dL_places_23 ?_
      refine g_iret h dL_places_24 ?_
      rw [dgN, if_pos rfl] at hQ
      exact hQ
    · refine g_if_le h 23 dL_places_5 rfl (fun c => absurd c (nI_nle (by omega) h2)) (fun _ => ?_)
      refine g_iload_1 h dL_places_8 ?_
      refine g_iload_2 h dL_places_9 ?_
      refine g_bipush h dL_places_10 (v := nI 10) rfl ?_
      refine g_irem h dL_places_12 (by decide) ?_
      refine g_iadd h dL_places_13 ?_
      refine g_istore_1 h dL_places_14 (by decide) rfl ?_
      refine g_iload_2 h dL_places_15 ?_
      refine g_bipush h dL_places_16 (v := nI 10) rfl ?_
      refine g_idiv h dL_places_18 (by decide) ?_
      refine g_istore_2 h dL_places_19 (by decide) rfl ?_
      refine g_goto h 4 dL_places_20 rfl ?_
      rw [pk_rem h2 (by decide) (by decide), pk_div h2 (by decide) (by decide), nI_add]
      refine ih (r / 10) (a + r % 10) (by rw [Nat.pow_succ] at h1; omega) (by omega) ?_
      rw [dgN_s, ← Nat.add_assoc] at hQ
      exact hQ
theorem sp_L_places {d w : Nat} (hw : w < 2 ^ 31) {I : MI} {J : MJ} {P : MP} {Q : Int32 → MI → MJ → MP → Prop} (hQ : Q (nI (dgN 10 w)) I J P) : Sp yL_places cL_places 3 (some .int) d [.int (nI w)] I J P (Qi Q) := by
  intro Γ h
  show VG Γ 0 0 0 [some (.int (nI w)), none, none] [] _ _ _ _
  refine g_iconst h dL_places_0 (v := nI 0) rfl ?_
  refine g_istore_1 h dL_places_1 (by decide) rfl ?_
  refine g_iload_0 h dL_places_2 ?_
  refine g_istore_2 h dL_places_3 (by decide) rfl ?_
  exact lp_L_places h 10 w 0 (by omega) hw (by rw [Nat.zero_add]; exact hQ)
theorem sp_L_knots {d w : Nat} (hw : w < 2 ^ 31) {I : MI} {J : MJ} {P : MP} {Q : Int32 → MI → MJ → MP → Prop} (hQ : Q (kno (nI w)) I J P) : Sp yL_knots cL_knots 1 (some .int) (d + 1) [.int (nI w)] I J P (Qi Q) := by
  intro Γ h
  show VG Γ 0 0 0 [some (.int (nI w))] [] _ _ _ _
  rw [kno_w hw] at hQ
  refine g_iload_0 h dL_knots_0 ?_
  refine g_bipush h dL_knots_1 (v := nI 10) rfl ?_
  refine g_idiv h dL_knots_3 (by decide) ?_
  rw [pk_div hw (by decide) (by decide)]
  refine g_cSi1 h rok0 mi_L_places dL_knots_4 ml_L_62 (Nat.le_of_ble_eq_true rfl) (Nat.le_of_ble_eq_true rfl) (sp_L_places (by omega) ?_)
  refine g_iload_0 h dL_knots_7 ?_
  refine g_bipush h dL_knots_8 (v := nI 10) rfl ?_
  refine g_irem h dL_knots_10 (by decide) ?_
  rw [pk_rem hw (by decide) (by decide)]
  by_cases z : w % 10 = 0
  · rw [z]
    rw [if_pos z] at hQ
    refine g_if_ne h 18 dL_knots_11 rfl (fun c => absurd rfl c) (fun _ => ?_)
    refine g_iconst h dL_knots_14 (v := nI 0) rfl ?_
    refine g_goto h 19 dL_knots_15 rfl ?_
    refine g_iadd h dL_knots_19 ?_
    refine g_iret h dL_knots_20 ?_
    rw [nI_add]
    exact hQ
  · rw [if_neg z] at hQ
    refine g_if_ne h 18 dL_knots_11 rfl (fun _ => ?_) (fun c => absurd ((nI_eq (b := 0) (by omega) (by decide)).mp c) z)
    refine g_iconst h dL_knots_18 (v := nI 1) rfl ?_
    refine g_iadd h dL_knots_19 ?_
    refine g_iret h dL_knots_20 ?_
    rw [nI_add]
    exact hQ
theorem sp_L_turns {d w : Nat} (hw : w < 2 ^ 31) {I : MI} {J : MJ} {P : MP} {Q : Int32 → MI → MJ → MP → Prop} (hQ : Q (tur (nI w)) I J P) : Sp yL_turns cL_turns 1 (some .int) (d + 1) [.int (nI w)] I J P (Qi Q) := by
  intro Γ h
  show VG Γ 0 0 0 [some (.int (nI w))] [] _ _ _ _
  rw [tur_w hw] at hQ
  refine g_iload_0 h dL_turns_0 ?_
  refine g_cSi1 h rok0 mi_L_places dL_turns_1 ml_L_62 (Nat.le_of_ble_eq_true rfl) (Nat.le_of_ble_eq_true rfl) (sp_L_places hw ?_)
  refine g_iload_0 h dL_turns_4 ?_
  refine g_bipush h dL_turns_5 (v := nI 10) rfl ?_
  refine g_irem h dL_turns_7 (by decide) ?_
  rw [pk_rem hw (by decide) (by decide)]
  refine g_iconst h dL_turns_8 (v := nI 1) rfl ?_
  by_cases z : w % 10 = 1
  · rw [z]
    rw [if_pos z] at hQ
    refine g_icmp_ne h 16 dL_turns_9 rfl (fun c => absurd rfl c) (fun _ => ?_)
    refine g_iconst h dL_turns_12 (v := nI 1) rfl ?_
    refine g_goto h 17 dL_turns_13 rfl ?_
    refine g_iadd h dL_turns_17 ?_
    refine g_iret h dL_turns_18 ?_
    rw [nI_add]
    exact hQ
  · rw [if_neg z] at hQ
    refine g_icmp_ne h 16 dL_turns_9 rfl (fun _ => ?_) (fun c => absurd ((nI_eq (b := 1) (by omega) (by decide)).mp c) z)
    refine g_iconst h dL_turns_16 (v := nI 0) rfl ?_
    refine g_iadd h dL_turns_17 ?_
    refine g_iret h dL_turns_18 ?_
    rw [nI_add]
    exact hQ
/-! what holds at the law's loop -/
def LW (I : MI) (P : MP) (T0 C0 : Nat) : Prop := P 20 0 = some 36 ∧ P 0 0 = some 36 ∧ okD (dv I) ∧ (nC (dv I) = 3 ∧ nN (dv I) = 5 ∧ nT (dv I) = 2 ∧ nK (dv I) = 2) ∧ okS (dv I) (sv 20 I) T0 C0
section LQ
variable {I : MI} {J : MJ} {P : MP} {T0 C0 d : Nat} {Q : Int32 → MI → MJ → MP → Prop}
theorem qc (h : LW I P T0 C0) {a w : Nat} (ha : a < 5) (hw : w < 9) (hQ : Q (corT I 5 2 (zS (dv I)) a w) I J P) : Sp yX10_cord cX10_cord 3 (some .int) (d + 8) [.ref 0, .int (nI a), .int (nI w)] I J P (Qi Q) := by
  obtain ⟨hT, h0, hD, ⟨-, eN, eT, -⟩, -⟩ := h
  refine sp_X10_cord hT h0 hD.1 (fun a' w' a1 w1 e1 e2 => ?_) (fun q => q ⟨⟨a, by omega, rfl⟩, w, hw, rfl⟩)
  obtain rfl : a = a' := eqN e1 (by omega) (by omega)
  obtain rfl : w = w' := eqN e2 (by omega) (by omega)
  rw [eN, eT]
  exact hQ
theorem qtop (h : LW I P T0 C0) {a w : Nat} (ha : a < 2) (hw : w < 4) (hQ : Q (topT I 5 a (zS (dv I) a) w) I J P) : Sp yX10_top cX10_top 3 (some .int) (d + 8) [.ref 0, .int (nI a), .int (nI w)] I J P (Qi Q) := by
  obtain ⟨hT, h0, hD, ⟨-, eN, eT, -⟩, -⟩ := h
  refine sp_X10_top hT h0 hD.1 (fun a' w' a1 w1 e1 e2 => ?_) (fun q => q ⟨⟨a, by omega, rfl⟩, w, hw, rfl⟩)
  obtain rfl : a = a' := eqN e1 (by omega) (by omega)
  obtain rfl : w = w' := eqN e2 (by omega) (by omega)
  rw [eN]
  exact hQ
theorem qkee (h : LW I P T0 C0) {a w : Nat} (ha : a < 2) (hw : w < 4) (hQ : Q (keeT I a w) I J P) : Sp yX10_keeper cX10_keeper 3 (some .int) (d + 8) [.ref 0, .int (nI a), .int (nI w)] I J P (Qi Q) := by
  obtain ⟨hT, h0, hD, ⟨-, -, -, eK⟩, -⟩ := h
  refine sp_X10_keeper hT h0 hD.1 (fun a' w' a1 w1 e1 e2 => ?_) (fun q => q ⟨⟨a, by omega, rfl⟩, w, hw, rfl⟩)
  obtain rfl : a = a' := eqN e1 (by omega) (by omega)
  obtain rfl : w = w' := eqN e2 (by omega) (by omega)
  exact hQ
theorem qcol (h : LW I P T0 C0) {a w : Nat} (ha : a < 3) (hw : w < 3) (hQ : Q (colT I 5 a w) I J P) : Sp yX10_colour cX10_colour 3 (some .int) (d + 8) [.ref 0, .int (nI a), .int (nI w)] I J P (Qi Q) := by
  obtain ⟨hT, h0, hD, ⟨eC, eN, -, -⟩, -⟩ := h
  refine sp_X10_colour hT h0 hD.1 (fun a' w' a1 w1 e1 e2 => ?_) (fun q => q ⟨⟨a, by omega, rfl⟩, w, hw, rfl⟩)
  obtain rfl : a = a' := eqN e1 (by omega) (by omega)
  obtain rfl : w = w' := eqN e2 (by omega) (by omega)
  rw [eN]
  exact hQ
theorem qdig (h : LW I P T0 C0) {a w : Nat} (ha : a < 5) (hw : w < 4) (hQ : Q (dgt w (I 23 a)) I J P) : Sp yX10_digit cX10_digit 3 (some .int) (d + 8) [.ref 0, .int (nI a), .int (nI w)] I J P (Qi Q) := by
  obtain ⟨hT, h0, hD, ⟨-, eN, -, -⟩, -⟩ := h
  refine sp_X10_digit hT h0 hD.1 (fun a' w' a1 w1 e1 e2 => ?_) (fun q => q ⟨⟨a, by omega, rfl⟩, w, hw, rfl⟩)
  obtain rfl : a = a' := eqN e1 (by omega) (by omega)
  obtain rfl : w = w' := eqN e2 (by omega) (by omega)
  exact hQ
theorem qapt (h : LW I P T0 C0) {a b : Nat} (ha : a < 5) (hb : b < 5) (hQ : Q (nI (stpF (I 22) 5 8 (nI a) (nI b))) I J P) : Sp yX10_apart cX10_apart 3 (some .int) (d + 8) [.ref 0, .int (nI a), .int (nI b)] I J P (Qi Q) := by
  obtain ⟨hT, h0, hD, ⟨-, eN, -, -⟩, -⟩ := h
  refine sp_X10_apart hT h0 hD.1 (fun a' w' a1 w1 e1 e2 => ?_) (fun q => q ⟨⟨a, by omega, rfl⟩, b, by omega, rfl⟩)
  rw [eN]
  exact hQ
theorem qord (h : LW I P T0 C0) {a : Nat} (ha : a < 5) (hQ : Q (orF (I 37) (I 21) (I 24) 3 5 (nI a)) I J P) : Sp yX10_order cX10_order 2 (some .int) (d + 8) [.ref 0, .int (nI a)] I J P (Qi Q) := by
  obtain ⟨hT, h0, hD, ⟨eC, eN, -, -⟩, -⟩ := h
  refine sp_X10_order hT h0 hD.1 (fun a' a1 e1 => ?_) (fun q => q ⟨a, by omega, rfl⟩)
  rw [eN, eC]
  exact hQ
theorem qcnt (h : LW I P T0 C0) {w : Nat} (hw : w < 13) (hQ : Q (cntC I w) I J P) : Sp yX10_count cX10_count 2 (some .int) (d + 8) [.ref 0, .int (nI w)] I J P (Qi Q) := by
  obtain ⟨hT, h0, hD, -, -⟩ := h
  refine sp_X10_count hT hD.1 (fun w' w1 e2 => ?_) (fun q => q ⟨w, hw, rfl⟩)
  obtain rfl : w = w' := eqN e2 (by omega) (by omega)
  exact hQ
theorem qfnd (h : LW I P T0 C0) {x : Int32} (hQ : Q (frst (fun i => decide (I 24 i = x)) 5 0) I J P) : Sp yX10_find cX10_find 2 (some .int) (d + 8) [.ref 0, .int x] I J P (Qi Q) := by
  obtain ⟨hT, h0, hD, ⟨-, eN, -, -⟩, -⟩ := h
  refine sp_X10_find hT hD.1 ?_
  rw [eN]
  exact hQ
end LQ
