/-! months: the state's rows S (S 0: month, carried, eaten at 1, 2, 3; 1 colours, 2 from which, 3 values, 4 sums, 5 records, 6 tired, 7 carried by), the told rows D -/
def dv (I : MI) : MI := fun k => I (36 + k)
def sv (o : Nat) (I : MI) : MI := fun k => if k < 8 then I (o + k) else fun _ => 0
def stS (o : Nat) (I I' S' : MI) : Prop := sv o I' = S' ∧ ∀ a, a ≠ 17 → a ≠ 18 → ¬ (o ≤ a ∧ a < o + 8) → I' a = I a
def opF (D S : MI) (N K Tn : Nat) (sz : Nat → Nat) (k : Nat) (x : Int32) : Int32 :=
  if k = 29 then x else if k = 16 then S 0 1 else if k = 17 then (if has (nI N) x (nI 16) then S 3 (ix x) else nI 0) else if k = 18 then (if has (nI N) x (nI 16) then S 4 (ix x) else nI 0) else if k = 19 then (if has (nI N) x (nI 16) then kno (S 3 (ix x)) else nI 0) else if k = 20 then (if has (nI Tn) x (nI 6) then S 5 (ix x) else nI 0) else if k = 21 then (if has (nI K) x (nI 5) then S 6 (ix x) else nI 0) else if has (nI Tn) x (nI 6) then b2i (wrgB (S 5 (ix x)) (cnb N (S 4) (D (7 + ix x)) (sz (ix x)))) else nI 0
def cmF (k : Nat) (l r : Int32) : Bool := if k = 40 then decide (l < r) else if k = 41 then decide (r < l) else if k = 42 then decide (l = r) else if k = 43 then decide (l ≤ r) else decide (r ≤ l)
def joF (k : Nat) (l r : Int32) : Int32 := if k = 36 then l + r else if k = 37 then l - r else if k = 38 then l * r else if k = 39 then (if r = 0 then nI 0 else l / r) else if k = 26 then (if r < l then r else l) else if k = 27 then (if l < r then r else l) else if k = 24 then l &&& r else if k = 25 then l ||| r else b2i (cmF k l r)
def isOp (k : Nat) : Prop := (16 ≤ k ∧ k ≤ 22) ∨ k = 29
def isJo (k : Nat) : Prop := (24 ≤ k ∧ k ≤ 27) ∨ (36 ≤ k ∧ k ≤ 44)
def exS (D S : MI) (N K Tn : Nat) (sz kd : Nat → Nat) : Nat → Nat → List Int32 → List Int32
  | 0, _, L => L
  | f + 1, n, L => exS D S N K Tn sz kd f (n + 1) (if kd n ≤ 22 ∨ kd n = 29 then opF D S N K Tn sz (kd n) (D 21 n) :: L else if kd n = 47 then -(L.headD (nI 0)) :: L.tail else if kd n = 23 then (nI 1 - L.headD (nI 0)) :: L.tail else joF (kd n) (L.tail.headD (nI 0)) (L.headD (nI 0)) :: L.tail.tail)
def rck (D S : MI) (N K Tn : Nat) (sz kd : Nat → Nat) (a b : Nat) : Int32 := (exS D S N K Tn sz kd (b - a) a []).headD (nI 0)
def kdOK (k : Nat) : Prop := isOp k ∨ isJo k ∨ k = 47 ∨ k = 23
def stk (I : MI) (L : List Int32) : Prop := I 17 1 = nI L.length ∧ ∀ j, j < L.length → I 18 j = L.getD (L.length - 1 - j) (nI 0)
theorem stk_push {I : MI} {L : List Int32} {x : Int32} (h : stk I L) : stk (up2 (up2 I 18 L.length x) 17 1 (nI (L.length + 1))) (x :: L) := by
  refine ⟨by simp [up2], fun j hj => ?_⟩
  simp only [List.length_cons] at hj ⊢
  by_cases e : j = L.length
  · subst e
    simp [up2]
  · have h2 := h.2 j (by omega)
    simp only [up2, if_neg (show ¬ (18 : Nat) = 17 by decide), if_pos rfl, if_neg e]
    rw [h2, show L.length + 1 - 1 - j = (L.length - 1 - j) + 1 by omega]
    rfl
theorem stk_pop {I : MI} {L : List Int32} {x : Int32} (h : stk I (x :: L)) : stk (up2 I 17 1 (nI L.length)) L ∧ I 18 L.length = x := by
  refine ⟨⟨by simp [up2], fun j hj => ?_⟩, ?_⟩
  · have h2 := h.2 j (by simp; omega)
    simp only [up2, if_neg (show ¬ (18 : Nat) = 17 by decide)]
    rw [h2]
    simp only [List.length_cons]
    rw [show L.length + 1 - 1 - j = (L.length - 1 - j) + 1 by omega]
    rfl
  · have h2 := h.2 L.length (by simp)
    rw [h2]
    simp
/-- only the calendar's own cells differ -/
def cal (I I' : MI) : Prop := ∀ a, a ≠ 17 → a ≠ 18 → I' a = I a
theorem cal.rf {I : MI} : cal I I := fun _ _ _ => rfl
theorem cal.tr {I I1 I2 : MI} (h : cal I I1) (h2 : cal I1 I2) : cal I I2 := fun a h3 h4 => (h2 a h3 h4).trans (h a h3 h4)
theorem cal.a {I : MI} {k : Nat} {x : Int32} : cal I (up2 I 17 k x) := fun a h3 _ => up2_o h3
theorem cal.b {I : MI} {k : Nat} {x : Int32} : cal I (up2 I 18 k x) := fun a _ h4 => up2_o h4
theorem hasI {n c M : Int32} {N m j : Nat} (hn : n = nI N) (hc : c = nI j) (hM : M = nI m) (hj : j < N) (hN : N ≤ m) (hm : m < 2 ^ 31) (h : b2i (has n c M) = 0) : False := by
  rw [hn, hc, hM, has_j hj hm hN] at h
  exact absurd h (by decide)
def clF (x : Int32) : Int32 := if nI 0 < (if x < nI 9999 then x else nI 9999) then (if x < nI 9999 then x else nI 9999) else nI 0
def tdF (D S : MI) (N : Nat) (sz : Nat → Nat) (tie : Bool) (tg kk : Nat) (x : Int32) : Int32 :=
  if tooB (S 6 kk) (D 13 kk) then (if tie then clF x else cnb N (S 4) (D (7 + tg)) (sz tg)) - rem10 (if tie then clF x else cnb N (S 4) (D (7 + tg)) (sz tg)) else (if tie then clF x else cnb N (S 4) (D (7 + tg)) (sz tg))
def putS (S : MI) (N : Nat) (tie : Bool) (tg : Nat) (y : Int32) : MI := if tie then setRow (setRow S 3 (upd (S 3) tg y)) 4 (aab (S 2) N 4 (nI tg) (y - S 3 tg) (S 4)) else setRow S 5 (upd (S 5) tg y)
def crS (D S : MI) (N : Nat) (sz : Nat → Nat) (tie : Bool) (tg kk : Nat) (x : Int32) : MI :=
  setRow (setRow (setRow (putS S N tie tg (tdF D S N sz tie tg kk x)) 6 (upd (S 6) kk (S 6 kk + (nI 1 + kno (tdF D S N sz tie tg kk x) / nI 4)))) 7 (upd (S 7) kk (S 7 kk + nI 1))) 0 (upd (S 0) 2 (S 0 2 + nI 1))
def mtF (v : Nat → Int32) : Nat → Nat → Int32 → Int32 → Int32
  | 0, _, b, _ => b
  | f + 1, i, b, m => if m < tur (v i) then mtF v f (i + 1) (nI i) (tur (v i)) else mtF v f (i + 1) b m
theorem mtF_in (v : Nat → Int32) : ∀ f i b m, (b = -1 ∨ ∃ k, k < i ∧ b = nI k) → mtF v f i b m = -1 ∨ ∃ k, k < i + f ∧ mtF v f i b m = nI k
  | 0, i, b, m, h => h
  | f + 1, i, b, m, h => by
    simp only [mtF]
    split
    · rcases mtF_in v f (i + 1) (nI i) (tur (v i)) (Or.inr ⟨i, by omega, rfl⟩) with q | ⟨k, q1, q2⟩
      · exact Or.inl q
      · exact Or.inr ⟨k, by omega, q2⟩
    · rcases mtF_in v f (i + 1) b m (h.imp id (fun ⟨k, q1, q2⟩ => ⟨k, by omega, q2⟩)) with q | ⟨k, q1, q2⟩
      · exact Or.inl q
      · exact Or.inr ⟨k, by omega, q2⟩
def mothS (S : MI) (N : Nat) : MI := if mtF (S 3) N 0 (-1) (nI 0) < 0 then S else setRow (putS S N true (ix (mtF (S 3) N 0 (-1) (nI 0))) (eat (S 3 (ix (mtF (S 3) N 0 (-1) (nI 0)))))) 0 (upd (S 0) 3 (S 0 3 + nI 1))
def trF (c : Nat → Int32) : Nat → Nat → (Nat → Int32) → (Nat → Int32)
  | 0, _, t => t
  | f + 1, i, t => trF c f (i + 1) (upd t i (if nI 0 < t i - c i then t i - c i else nI 0))
def rem6 (x : Int32) : Int32 := x - x / nI 6 * nI 6
def emS (D S : MI) (N K : Nat) : MI :=
  setRow (if rem6 (S 0 1) = 0 then mothS (setRow S 6 (trF (D 13) K 0 (S 6))) N else setRow S 6 (trF (D 13) K 0 (S 6))) 0 (upd ((if rem6 (S 0 1) = 0 then mothS (setRow S 6 (trF (D 13) K 0 (S 6))) N else setRow S 6 (trF (D 13) K 0 (S 6))) 0) 1 ((if rem6 (S 0 1) = 0 then mothS (setRow S 6 (trF (D 13) K 0 (S 6))) N else setRow S 6 (trF (D 13) K 0 (S 6))) 0 1 + nI 1))
set_option maxRecDepth 100000 in
set_option maxHeartbeats 4000000 in
theorem sp_X0_push {d : Nat} {L : List Int32} {x : Int32} {I : MI} {J : MJ} {P : MP} (hk : stk I L) (hL : L.length < 400) {Q : MI → MJ → MP → Prop} (hQ : ∀ I', stk I' (x :: L) → cal I I' → Q I' J P) : Sp yX0_push cX0_push 2 none (d) [.ref 17, .int x] I J P (Qv Q) := by
  intro Γ h
  show VG Γ 0 0 0 [some (.ref 17), some (.int x)] [] _ _ _ _
  refine g_aload_0 h dX0_push_0 ?_
  refine g_getI h fl_X0_15 dX0_push_1 rfl rfl ?_
  refine g_aload_0 h dX0_push_4 ?_
  refine g_getC h fl_X0_9 dX0_push_5 rfl rfl ?_
  refine g_alen h dX0_push_8 rfl (by decide) ?_
  refine g_icmp_ge h 32 dX0_push_9 rfl (fun c9 => ?_) (fun c9 => ?_)
  · exact absurd (leN (by simpa only [hk.1] using c9) (by omega) (by omega)) (by omega)
  · refine g_aload_0 h dX0_push_12 ?_
    refine g_getC h fl_X0_9 dX0_push_13 rfl rfl ?_
    refine g_aload_0 h dX0_push_16 ?_
    refine g_getI h fl_X0_15 dX0_push_17 rfl rfl ?_
    refine g_iload_1 h dX0_push_20 ?_
    refine g_iast h L.length dX0_push_21 rfl hk.1 (by omega) ?_
    refine g_aload_0 h dX0_push_22 ?_
    refine g_dup h dX0_push_23 rfl ?_
    refine g_getI h fl_X0_15 dX0_push_24 rfl rfl ?_
    refine g_iconst h dX0_push_27 (v := nI 1) rfl ?_
    refine g_iadd h dX0_push_28 ?_
    refine g_putI h fp_X0_15 dX0_push_29 rfl rfl ?_
    have e1 : up2 I 18 L.length x 17 1 + nI 1 = nI (L.length + 1) := by
      rw [up2_o (by decide), hk.1]
      exact nI_1 _
    rw [e1]
    refine g_vret h dX0_push_32 ?_
    exact hQ _ (stk_push hk) (cal.tr cal.b cal.a)
set_option maxRecDepth 100000 in
set_option maxHeartbeats 4000000 in
theorem sp_X0_pop {d : Nat} {L : List Int32} {x : Int32} {I : MI} {J : MJ} {P : MP} (hk : stk I (x :: L)) (hL : L.length < 400) {Q : Int32 → MI → MJ → MP → Prop} (hQ : ∀ I', stk I' L → cal I I' → Q x I' J P) : Sp yX0_pop cX0_pop 1 (some .int) (d) [.ref 17] I J P (Qi Q) := by
  intro Γ h
  show VG Γ 0 0 0 [some (.ref 17)] [] _ _ _ _
  refine g_aload_0 h dX0_pop_0 ?_
  refine g_getI h fl_X0_15 dX0_pop_1 rfl rfl ?_
  refine g_if_gt h 9 dX0_pop_4 rfl (fun c4 => ?_) (fun c4 => ?_)
  · refine g_aload_0 h dX0_pop_9 ?_
    refine g_dup h dX0_pop_10 rfl ?_
    refine g_getI h fl_X0_15 dX0_pop_11 rfl rfl ?_
    refine g_iconst h dX0_pop_14 (v := nI 1) rfl ?_
    refine g_isub h dX0_pop_15 ?_
    rw [hk.1, List.length_cons, nI_sub1]
    refine g_putI h fp_X0_15 dX0_pop_16 rfl rfl ?_
    refine g_aload_0 h dX0_pop_19 ?_
    refine g_getC h fl_X0_9 dX0_pop_20 rfl rfl ?_
    refine g_aload_0 h dX0_pop_23 ?_
    refine g_getI h fl_X0_15 dX0_pop_24 rfl rfl ?_
    refine g_iald h L.length dX0_pop_27 rfl (by simp [up2]) (by omega) ?_
    rw [up2_o (by decide), (stk_pop hk).2]
    refine g_iret h dX0_pop_28 ?_
    exact hQ _ (stk_pop hk).1 cal.a
  · exact absurd (by rw [hk.1]; exact nI_lt (show 0 < (x :: L).length by simp) (by simp; omega)) c4
theorem stk0 {I : MI} : stk I [] → I 17 1 = nI 0 := fun h => h.1
set_option maxRecDepth 100000 in
set_option maxHeartbeats 4000000 in
theorem sp_X0_pop0 {d : Nat} {I : MI} {J : MJ} {P : MP} (hk : stk I []) {Q : Int32 → MI → MJ → MP → Prop} (hQ : ∀ I', stk I' [] → cal I I' → Q (nI 0) I' J P) : Sp yX0_pop cX0_pop 1 (some .int) (d) [.ref 17] I J P (Qi Q) := by
  intro Γ h
  show VG Γ 0 0 0 [some (.ref 17)] [] _ _ _ _
  refine g_aload_0 h dX0_pop_0 ?_
  refine g_getI h fl_X0_15 dX0_pop_1 rfl rfl ?_
  refine g_if_gt h 9 dX0_pop_4 rfl (fun c4 => ?_) (fun c4 => ?_)
  · exact absurd c4 (by rw [hk.1]; decide)
  · refine g_iconst h dX0_pop_7 (v := nI 0) rfl ?_
    refine g_iret h dX0_pop_8 ?_
    exact hQ _ hk cal.rf
theorem sp_X0_popG {d : Nat} {L : List Int32} {I : MI} {J : MJ} {P : MP} (hk : stk I L) (hL : L.length ≤ 400) {Q : Int32 → MI → MJ → MP → Prop} (hQ : ∀ I', stk I' L.tail → cal I I' → Q (L.headD (nI 0)) I' J P) : Sp yX0_pop cX0_pop 1 (some .int) d [.ref 17] I J P (Qi Q) := by
  cases L with
  | nil => exact sp_X0_pop0 hk hQ
  | cons x L => exact sp_X0_pop hk (by simp at hL; omega) hQ
theorem cal_dv {I I1 : MI} (h : cal I I1) : dv I1 = dv I := by
  funext k
  exact h (36 + k) (by omega) (by omega)
theorem cal_sv {I I1 : MI} {o : Nat} (ho : 19 ≤ o) (h : cal I I1) : sv o I1 = sv o I := by
  funext k
  unfold sv
  split
  · exact h (o + k) (by omega) (by omega)
  · rfl
theorem sv_row {o j : Nat} {I : MI} {r : Nat → Int32} (hj : j < 8) : sv o (setRow I (o + j) r) = setRow (sv o I) j r := by
  funext k
  unfold sv setRow
  by_cases h : k = j
  · subst h; simp [hj]
  · simp [h]
theorem sv_oth {o a : Nat} {I : MI} {r : Nat → Int32} (h : ¬ (o ≤ a ∧ a < o + 8)) : sv o (setRow I a r) = sv o I := by
  funext k
  unfold sv setRow
  split
  · rw [if_neg (by omega)]
  · rfl
theorem dv_oth {a : Nat} {I : MI} {r : Nat → Int32} (h : a < 36) : dv (setRow I a r) = dv I := by
  funext k
  exact if_neg (by omega)
theorem stS_dv {o : Nat} {I I' S' : MI} (ho : o + 8 ≤ 36) (h : stS o I I' S') : dv I' = dv I := by
  funext k
  exact h.2 (36 + k) (by omega) (by omega) (by omega)
theorem stS_cal {o : Nat} {I I1 I2 S' : MI} (ho : 19 ≤ o) (h : stS o I I1 S') (h2 : cal I1 I2) : stS o I I2 S' := ⟨(cal_sv ho h2).trans h.1, fun a h3 h4 h5 => (h2 a h3 h4).trans (h.2 a h3 h4 h5)⟩
theorem stS_tr {o : Nat} {I I1 I2 S1 S2 : MI} (h : stS o I I1 S1) (h2 : stS o I1 I2 S2) : stS o I I2 S2 := ⟨h2.1, fun a h3 h4 h5 => (h2.2 a h3 h4 h5).trans (h.2 a h3 h4 h5)⟩
theorem stS_rf {o : Nat} {I : MI} : stS o I I (sv o I) := ⟨rfl, fun _ _ _ _ => rfl⟩
/-- what the told rows tell -/
def nC (D : MI) : Nat := ix (D 0 0)
def nN (D : MI) : Nat := ix (D 0 1)
def nT (D : MI) : Nat := ix (D 0 2)
def nK (D : MI) : Nat := ix (D 0 3)
def nO (D : MI) : Nat := ix (D 0 4)
def nZ (D : MI) : Nat := ix (D 19 2)
def zS (D : MI) (a : Nat) : Nat := ix (D 5 a)
def kD (D : MI) (n : Nat) : Nat := ix (D 20 n)
def oG (D : MI) (q : Nat) : Nat := ix (D 15 q)
def oK (D : MI) (q : Nat) : Nat := ix (D 16 q)
def oF (D : MI) (q : Nat) : Nat := ix (D 17 q)
def oE (D : MI) (q : Nat) : Nat := ix (D 18 q)
def oT (D : MI) (q : Nat) : Bool := !decide (D 14 q = nI 0)
def oB (D : MI) (q : Nat) : Nat := if q = 0 then 0 else oE D (q - 1)
def ordOK (D : MI) (q : Nat) : Prop := D 14 q = b2i (oT D q) ∧ D 15 q = nI (oG D q) ∧ D 16 q = nI (oK D q) ∧ D 17 q = nI (oF D q) ∧ D 18 q = nI (oE D q) ∧ oK D q < nK D ∧ (if oT D q then oG D q < nN D else oG D q < nT D) ∧ oB D q ≤ oF D q ∧ oF D q ≤ oE D q ∧ oE D q ≤ nZ D
def tdOK (D : MI) : Prop := (D 0 0 = nI (nC D) ∧ nC D ≤ 6) ∧ (D 0 1 = nI (nN D) ∧ nN D ≤ 16) ∧ (D 0 2 = nI (nT D) ∧ nT D ≤ 6) ∧ (D 0 3 = nI (nK D) ∧ nK D ≤ 5) ∧ (D 0 4 = nI (nO D) ∧ nO D ≤ 20) ∧ (∀ a, a < nT D → D 5 a = nI (zS D a) ∧ zS D a ≤ 8) ∧ (D 19 2 = nI (nZ D) ∧ nZ D ≤ 400) ∧ (∀ n, n < nZ D → D 20 n = nI (kD D n) ∧ kdOK (kD D n)) ∧ ∀ q, q < nO D → ordOK D q
set_option maxHeartbeats 4000000 in
theorem sp_X0_compares {d k : Nat} (hk : 40 ≤ k ∧ k ≤ 44) {l r : Int32} {I : MI} {J : MJ} {P : MP} {Q : Int32 → MI → MJ → MP → Prop} (hQ : Q (b2i (cmF k l r)) I J P) : Sp yX0_compares cX0_compares 3 (some .boolean) d [.int (nI k), .int l, .int r] I J P (Qi Q) := by
  intro Γ h
  show VG Γ 0 0 0 [some (.int (nI k)), some (.int l), some (.int r)] [] _ _ _ _
  rcases (show k = 40 ∨ k = 41 ∨ k = 42 ∨ k = 43 ∨ k = 44 by omega) with rfl | rfl | rfl | rfl | rfl
  · refine g_iload_0 h dX0_compares_0 ?_
    · refine g_tsIn h 32 dX0_compares_1 (by decide) (by decide) rfl rfl ?_
      refine g_iload_1 h dX0_compares_32 ?_
      refine g_iload_2 h dX0_compares_33 ?_
      refine g_icmp_ge h 41 dX0_compares_34 rfl (fun c34 => ?_) (fun c34 => ?_)
      · refine g_iconst h dX0_compares_41 (v := nI 0) rfl ?_
        refine g_zret h dX0_compares_42 (by first | rfl | exact nar_b2i _) ?_
        first
          | exact q_i (by rw [show cmF 40 l r = decide (l < r) from rfl, decide_eq_true (Int32.not_le.mp c34)]; rfl) hQ
          | exact q_i (by rw [show cmF 40 l r = decide (l < r) from rfl, decide_eq_false (Int32.not_lt.mpr c34)]; rfl) hQ
      · refine g_iconst h dX0_compares_37 (v := nI 1) rfl ?_
        refine g_goto h 42 dX0_compares_38 rfl ?_
        refine g_zret h dX0_compares_42 (by first | rfl | exact nar_b2i _) ?_
        first
          | exact q_i (by rw [show cmF 40 l r = decide (l < r) from rfl, decide_eq_true (Int32.not_le.mp c34)]; rfl) hQ
          | exact q_i (by rw [show cmF 40 l r = decide (l < r) from rfl, decide_eq_false (Int32.not_lt.mpr c34)]; rfl) hQ
  · refine g_iload_0 h dX0_compares_0 ?_
    · refine g_tsIn h 43 dX0_compares_1 (by decide) (by decide) rfl rfl ?_
      refine g_iload_1 h dX0_compares_43 ?_
      refine g_iload_2 h dX0_compares_44 ?_
      refine g_icmp_le h 52 dX0_compares_45 rfl (fun c45 => ?_) (fun c45 => ?_)
      · refine g_iconst h dX0_compares_52 (v := nI 0) rfl ?_
        refine g_zret h dX0_compares_53 (by first | rfl | exact nar_b2i _) ?_
        first
          | exact q_i (by rw [show cmF 41 l r = decide (r < l) from rfl, decide_eq_true (Int32.not_le.mp c45)]; rfl) hQ
          | exact q_i (by rw [show cmF 41 l r = decide (r < l) from rfl, decide_eq_false (Int32.not_lt.mpr c45)]; rfl) hQ
      · refine g_iconst h dX0_compares_48 (v := nI 1) rfl ?_
        refine g_goto h 53 dX0_compares_49 rfl ?_
        refine g_zret h dX0_compares_53 (by first | rfl | exact nar_b2i _) ?_
        first
          | exact q_i (by rw [show cmF 41 l r = decide (r < l) from rfl, decide_eq_true (Int32.not_le.mp c45)]; rfl) hQ
          | exact q_i (by rw [show cmF 41 l r = decide (r < l) from rfl, decide_eq_false (Int32.not_lt.mpr c45)]; rfl) hQ
  · refine g_iload_0 h dX0_compares_0 ?_
    · refine g_tsIn h 54 dX0_compares_1 (by decide) (by decide) rfl rfl ?_
      refine g_iload_1 h dX0_compares_54 ?_
      refine g_iload_2 h dX0_compares_55 ?_
      refine g_icmp_ne h 63 dX0_compares_56 rfl (fun c56 => ?_) (fun c56 => ?_)
      · refine g_iconst h dX0_compares_63 (v := nI 0) rfl ?_
        refine g_zret h dX0_compares_64 (by first | rfl | exact nar_b2i _) ?_
        first
          | exact q_i (by rw [show cmF 42 l r = decide (l = r) from rfl, decide_eq_true c56]; rfl) hQ
          | exact q_i (by rw [show cmF 42 l r = decide (l = r) from rfl, decide_eq_false c56]; rfl) hQ
      · refine g_iconst h dX0_compares_59 (v := nI 1) rfl ?_
        refine g_goto h 64 dX0_compares_60 rfl ?_
        refine g_zret h dX0_compares_64 (by first | rfl | exact nar_b2i _) ?_
        first
          | exact q_i (by rw [show cmF 42 l r = decide (l = r) from rfl, decide_eq_true c56]; rfl) hQ
          | exact q_i (by rw [show cmF 42 l r = decide (l = r) from rfl, decide_eq_false c56]; rfl) hQ
  · refine g_iload_0 h dX0_compares_0 ?_
    · refine g_tsIn h 65 dX0_compares_1 (by decide) (by decide) rfl rfl ?_
      refine g_iload_1 h dX0_compares_65 ?_
      refine g_iload_2 h dX0_compares_66 ?_
      refine g_icmp_gt h 74 dX0_compares_67 rfl (fun c67 => ?_) (fun c67 => ?_)
      · refine g_iconst h dX0_compares_74 (v := nI 0) rfl ?_
        refine g_zret h dX0_compares_75 (by first | rfl | exact nar_b2i _) ?_
        first
          | exact q_i (by rw [show cmF 43 l r = decide (l ≤ r) from rfl, decide_eq_true (Int32.not_lt.mp c67)]; rfl) hQ
          | exact q_i (by rw [show cmF 43 l r = decide (l ≤ r) from rfl, decide_eq_false (Int32.not_le.mpr c67)]; rfl) hQ
      · refine g_iconst h dX0_compares_70 (v := nI 1) rfl ?_
        refine g_goto h 75 dX0_compares_71 rfl ?_
        refine g_zret h dX0_compares_75 (by first | rfl | exact nar_b2i _) ?_
        first
          | exact q_i (by rw [show cmF 43 l r = decide (l ≤ r) from rfl, decide_eq_true (Int32.not_lt.mp c67)]; rfl) hQ
          | exact q_i (by rw [show cmF 43 l r = decide (l ≤ r) from rfl, decide_eq_false (Int32.not_le.mpr c67)]; rfl) hQ
  · refine g_iload_0 h dX0_compares_0 ?_
    · refine g_tsOut h 76 dX0_compares_1 (by decide) rfl ?_
      refine g_iload_1 h dX0_compares_76 ?_
      refine g_iload_2 h dX0_compares_77 ?_
      refine g_icmp_lt h 85 dX0_compares_78 rfl (fun c78 => ?_) (fun c78 => ?_)
      · refine g_iconst h dX0_compares_85 (v := nI 0) rfl ?_
        refine g_zret h dX0_compares_86 (by first | rfl | exact nar_b2i _) ?_
        first
          | exact q_i (by rw [show cmF 44 l r = decide (r ≤ l) from rfl, decide_eq_true (Int32.not_lt.mp c78)]; rfl) hQ
          | exact q_i (by rw [show cmF 44 l r = decide (r ≤ l) from rfl, decide_eq_false (Int32.not_le.mpr c78)]; rfl) hQ
      · refine g_iconst h dX0_compares_81 (v := nI 1) rfl ?_
        refine g_goto h 86 dX0_compares_82 rfl ?_
        refine g_zret h dX0_compares_86 (by first | rfl | exact nar_b2i _) ?_
        first
          | exact q_i (by rw [show cmF 44 l r = decide (r ≤ l) from rfl, decide_eq_true (Int32.not_lt.mp c78)]; rfl) hQ
          | exact q_i (by rw [show cmF 44 l r = decide (r ≤ l) from rfl, decide_eq_false (Int32.not_le.mpr c78)]; rfl) hQ
set_option maxHeartbeats 4000000 in
theorem sp_X0_joined {d k : Nat} (hk : isJo k) {l r : Int32} {I : MI} {J : MJ} {P : MP} {Q : Int32 → MI → MJ → MP → Prop} (hQ : Q (joF k l r) I J P) : Sp yX0_joined cX0_joined 3 (some .int) (d + 1) [.int (nI k), .int l, .int r] I J P (Qi Q) := by
  intro Γ h
  show VG Γ 0 0 0 [some (.int (nI k)), some (.int l), some (.int r)] [] _ _ _ _
  rcases (show k = 24 ∨ k = 25 ∨ k = 26 ∨ k = 27 ∨ k = 36 ∨ k = 37 ∨ k = 38 ∨ k = 39 ∨ k = 40 ∨ k = 41 ∨ k = 42 ∨ k = 43 ∨ k = 44 by unfold isJo at hk; omega) with rfl | rfl | rfl | rfl | rfl | rfl | rfl | rfl | rfl | rfl | rfl | rfl | rfl
  · refine g_iload_0 h dX0_joined_0 ?_
    · refine g_tsIn h 116 dX0_joined_1 (by decide) (by decide) rfl rfl ?_
      refine g_iload_1 h dX0_joined_116 ?_
      refine g_iload_2 h dX0_joined_117 ?_
      refine g_iand h dX0_joined_118 ?_
      refine g_iret h dX0_joined_119 ?_
      exact hQ
  · refine g_iload_0 h dX0_joined_0 ?_
    · refine g_tsIn h 120 dX0_joined_1 (by decide) (by decide) rfl rfl ?_
      refine g_iload_1 h dX0_joined_120 ?_
      refine g_iload_2 h dX0_joined_121 ?_
      refine g_ior h dX0_joined_122 ?_
      refine g_iret h dX0_joined_123 ?_
      exact hQ
  · refine g_iload_0 h dX0_joined_0 ?_
    · refine g_tsIn h 104 dX0_joined_1 (by decide) (by decide) rfl rfl ?_
      refine g_iload_1 h dX0_joined_104 ?_
      refine g_iload_2 h dX0_joined_105 ?_
      refine g_mmin h dX0_joined_106 ml_X0_123 rok0 (Nat.le_of_ble_eq_true rfl) ?_
      refine g_iret h dX0_joined_109 ?_
      exact hQ
  · refine g_iload_0 h dX0_joined_0 ?_
    · refine g_tsIn h 110 dX0_joined_1 (by decide) (by decide) rfl rfl ?_
      refine g_iload_1 h dX0_joined_110 ?_
      refine g_iload_2 h dX0_joined_111 ?_
      refine g_mmax h dX0_joined_112 ml_X0_55 rok0 (Nat.le_of_ble_eq_true rfl) ?_
      refine g_iret h dX0_joined_115 ?_
      exact hQ
  · refine g_iload_0 h dX0_joined_0 ?_
    · refine g_tsIn h 80 dX0_joined_1 (by decide) (by decide) rfl rfl ?_
      refine g_iload_1 h dX0_joined_80 ?_
      refine g_iload_2 h dX0_joined_81 ?_
      refine g_iadd h dX0_joined_82 ?_
      refine g_iret h dX0_joined_83 ?_
      exact hQ
  · refine g_iload_0 h dX0_joined_0 ?_
    · refine g_tsIn h 84 dX0_joined_1 (by decide) (by decide) rfl rfl ?_
      refine g_iload_1 h dX0_joined_84 ?_
      refine g_iload_2 h dX0_joined_85 ?_
      refine g_isub h dX0_joined_86 ?_
      refine g_iret h dX0_joined_87 ?_
      exact hQ
  · refine g_iload_0 h dX0_joined_0 ?_
    · refine g_tsIn h 88 dX0_joined_1 (by decide) (by decide) rfl rfl ?_
      refine g_iload_1 h dX0_joined_88 ?_
      refine g_iload_2 h dX0_joined_89 ?_
      refine g_imul h dX0_joined_90 ?_
      refine g_iret h dX0_joined_91 ?_
      exact hQ
  · refine g_iload_0 h dX0_joined_0 ?_
    · refine g_tsIn h 92 dX0_joined_1 (by decide) (by decide) rfl rfl ?_
      refine g_iload_2 h dX0_joined_92 ?_
      refine g_if_ne h 100 dX0_joined_93 rfl (fun c93 => ?_) (fun c93 => ?_)
      · refine g_iload_1 h dX0_joined_100 ?_
        refine g_iload_2 h dX0_joined_101 ?_
        refine g_idiv h dX0_joined_102 c93 ?_
        refine g_iret h dX0_joined_103 ?_
        first
          | exact q_i (by show _ = (if r = 0 then nI 0 else l / r); rw [if_pos c93]) hQ
          | exact q_i (by show _ = (if r = 0 then nI 0 else l / r); rw [if_neg c93]) hQ
          | exact q_i (by show _ = (if r = 0 then nI 0 else l / r); rw [if_pos (Classical.not_not.mp c93)]) hQ
      · refine g_iconst h dX0_joined_96 (v := nI 0) rfl ?_
        refine g_goto h 103 dX0_joined_97 rfl ?_
        refine g_iret h dX0_joined_103 ?_
        first
          | exact q_i (by show _ = (if r = 0 then nI 0 else l / r); rw [if_pos c93]) hQ
          | exact q_i (by show _ = (if r = 0 then nI 0 else l / r); rw [if_neg c93]) hQ
          | exact q_i (by show _ = (if r = 0 then nI 0 else l / r); rw [if_pos (Classical.not_not.mp c93)]) hQ
  · refine g_iload_0 h dX0_joined_0 ?_
    · refine g_tsOut h 124 dX0_joined_1 (by decide) rfl ?_
      refine g_iload_0 h dX0_joined_124 ?_
      refine g_iload_1 h dX0_joined_125 ?_
      refine g_iload_2 h dX0_joined_126 ?_
      refine g_cSi3 h rok0 mi_X0_compares dX0_joined_127 ml_X0_126 (Nat.le_of_ble_eq_true rfl) (Nat.le_of_ble_eq_true rfl) (sp_X0_compares (by decide) ?_)
      refine g_if_eq h 137 dX0_joined_130 rfl (fun c130 => ?_) (fun c130 => ?_)
      · refine g_iconst h dX0_joined_137 (v := nI 0) rfl ?_
        refine g_iret h dX0_joined_138 ?_
        first
          | exact q_i ((b2i_1 c130).symm.trans rfl) hQ
          | exact q_i ((b2i_00 c130).symm.trans rfl) hQ
      · refine g_iconst h dX0_joined_133 (v := nI 1) rfl ?_
        refine g_goto h 138 dX0_joined_134 rfl ?_
        refine g_iret h dX0_joined_138 ?_
        first
          | exact q_i ((b2i_1 c130).symm.trans rfl) hQ
          | exact q_i ((b2i_00 c130).symm.trans rfl) hQ
  · refine g_iload_0 h dX0_joined_0 ?_
    · refine g_tsOut h 124 dX0_joined_1 (by decide) rfl ?_
      refine g_iload_0 h dX0_joined_124 ?_
      refine g_iload_1 h dX0_joined_125 ?_
      refine g_iload_2 h dX0_joined_126 ?_
      refine g_cSi3 h rok0 mi_X0_compares dX0_joined_127 ml_X0_126 (Nat.le_of_ble_eq_true rfl) (Nat.le_of_ble_eq_true rfl) (sp_X0_compares (by decide) ?_)
      refine g_if_eq h 137 dX0_joined_130 rfl (fun c130 => ?_) (fun c130 => ?_)
      · refine g_iconst h dX0_joined_137 (v := nI 0) rfl ?_
        refine g_iret h dX0_joined_138 ?_
        first
          | exact q_i ((b2i_1 c130).symm.trans rfl) hQ
          | exact q_i ((b2i_00 c130).symm.trans rfl) hQ
      · refine g_iconst h dX0_joined_133 (v := nI 1) rfl ?_
        refine g_goto h 138 dX0_joined_134 rfl ?_
        refine g_iret h dX0_joined_138 ?_
        first
          | exact q_i ((b2i_1 c130).symm.trans rfl) hQ
          | exact q_i ((b2i_00 c130).symm.trans rfl) hQ
  · refine g_iload_0 h dX0_joined_0 ?_
    · refine g_tsOut h 124 dX0_joined_1 (by decide) rfl ?_
      refine g_iload_0 h dX0_joined_124 ?_
      refine g_iload_1 h dX0_joined_125 ?_
      refine g_iload_2 h dX0_joined_126 ?_
      refine g_cSi3 h rok0 mi_X0_compares dX0_joined_127 ml_X0_126 (Nat.le_of_ble_eq_true rfl) (Nat.le_of_ble_eq_true rfl) (sp_X0_compares (by decide) ?_)
      refine g_if_eq h 137 dX0_joined_130 rfl (fun c130 => ?_) (fun c130 => ?_)
      · refine g_iconst h dX0_joined_137 (v := nI 0) rfl ?_
        refine g_iret h dX0_joined_138 ?_
        first
          | exact q_i ((b2i_1 c130).symm.trans rfl) hQ
          | exact q_i ((b2i_00 c130).symm.trans rfl) hQ
      · refine g_iconst h dX0_joined_133 (v := nI 1) rfl ?_
        refine g_goto h 138 dX0_joined_134 rfl ?_
        refine g_iret h dX0_joined_138 ?_
        first
          | exact q_i ((b2i_1 c130).symm.trans rfl) hQ
          | exact q_i ((b2i_00 c130).symm.trans rfl) hQ
  · refine g_iload_0 h dX0_joined_0 ?_
    · refine g_tsOut h 124 dX0_joined_1 (by decide) rfl ?_
      refine g_iload_0 h dX0_joined_124 ?_
      refine g_iload_1 h dX0_joined_125 ?_
      refine g_iload_2 h dX0_joined_126 ?_
      refine g_cSi3 h rok0 mi_X0_compares dX0_joined_127 ml_X0_126 (Nat.le_of_ble_eq_true rfl) (Nat.le_of_ble_eq_true rfl) (sp_X0_compares (by decide) ?_)
      refine g_if_eq h 137 dX0_joined_130 rfl (fun c130 => ?_) (fun c130 => ?_)
      · refine g_iconst h dX0_joined_137 (v := nI 0) rfl ?_
        refine g_iret h dX0_joined_138 ?_
        first
          | exact q_i ((b2i_1 c130).symm.trans rfl) hQ
          | exact q_i ((b2i_00 c130).symm.trans rfl) hQ
      · refine g_iconst h dX0_joined_133 (v := nI 1) rfl ?_
        refine g_goto h 138 dX0_joined_134 rfl ?_
        refine g_iret h dX0_joined_138 ?_
        first
          | exact q_i ((b2i_1 c130).symm.trans rfl) hQ
          | exact q_i ((b2i_00 c130).symm.trans rfl) hQ
  · refine g_iload_0 h dX0_joined_0 ?_
    · refine g_tsOut h 124 dX0_joined_1 (by decide) rfl ?_
      refine g_iload_0 h dX0_joined_124 ?_
      refine g_iload_1 h dX0_joined_125 ?_
      refine g_iload_2 h dX0_joined_126 ?_
      refine g_cSi3 h rok0 mi_X0_compares dX0_joined_127 ml_X0_126 (Nat.le_of_ble_eq_true rfl) (Nat.le_of_ble_eq_true rfl) (sp_X0_compares (by decide) ?_)
      refine g_if_eq h 137 dX0_joined_130 rfl (fun c130 => ?_) (fun c130 => ?_)
      · refine g_iconst h dX0_joined_137 (v := nI 0) rfl ?_
        refine g_iret h dX0_joined_138 ?_
        first
          | exact q_i ((b2i_1 c130).symm.trans rfl) hQ
          | exact q_i ((b2i_00 c130).symm.trans rfl) hQ
      · refine g_iconst h dX0_joined_133 (v := nI 1) rfl ?_
        refine g_goto h 138 dX0_joined_134 rfl ?_
        refine g_iret h dX0_joined_138 ?_
        first
          | exact q_i ((b2i_1 c130).symm.trans rfl) hQ
          | exact q_i ((b2i_00 c130).symm.trans rfl) hQ
set_option maxHeartbeats 4000000 in
theorem sp_X0_operandOf_20 {d N K Tn k : Nat} {sz : Nat → Nat} (hk : isOp k) {x : Int32} {I : MI} {J : MJ} {P : MP} (hT : P 20 0 = some 36) (hN : I 36 1 = nI N) (hN16 : N ≤ 16) (hK : I 36 3 = nI K) (hK5 : K ≤ 5) (hTp : I 36 2 = nI Tn) (hT6 : Tn ≤ 6) (hsz : ∀ a, a < Tn → I 41 a = nI (sz a) ∧ sz a ≤ 8) {Q : Int32 → MI → MJ → MP → Prop} (hQ : Q (opF (dv I) (sv 20 I) N K Tn sz k x) I J P) : Sp yX0_operandOf cX0_operandOf 4 (some .int) (d + 2) [.ref 20, .int (nI k), .int x] I J P (Qi Q) := by
  intro Γ h
  show VG Γ 0 0 0 [some (.ref 20), some (.int (nI k)), some (.int x), none] [] _ _ _ _
  rcases (show k = 16 ∨ k = 17 ∨ k = 18 ∨ k = 19 ∨ k = 20 ∨ k = 21 ∨ k = 22 ∨ k = 29 by unfold isOp at hk; omega) with rfl | rfl | rfl | rfl | rfl | rfl | rfl | rfl
  · refine g_iload_1 h dX0_operandOf_0 ?_
    · refine g_tsIn h 74 dX0_operandOf_1 (by decide) (by decide) rfl rfl ?_
      refine g_aload_0 h dX0_operandOf_74 ?_
      refine g_getI h fl_X0_89 dX0_operandOf_75 rfl rfl ?_
      refine g_iret h dX0_operandOf_78 ?_
      exact q_i rfl hQ
  · refine g_iload_1 h dX0_operandOf_0 ?_
    · refine g_tsIn h 79 dX0_operandOf_1 (by decide) (by decide) rfl rfl ?_
      refine g_aload_0 h dX0_operandOf_79 ?_
      refine g_getP h fl_X0_28 dX0_operandOf_80 rfl rfl (by assumption) ?_
      refine g_iload_2 h dX0_operandOf_83 ?_
      refine g_cVi1 h rok0 mi_X9_hasCord dX0_operandOf_84 ml_X0_92 rfl rfl rfl (Nat.le_of_ble_eq_true rfl) (Nat.le_of_ble_eq_true rfl) (sp_X9_hasCord (Or.inl rfl) ?_)
      refine g_if_eq h 99 dX0_operandOf_87 rfl (fun c87 => ?_) (fun c87 => ?_)
      · refine g_iconst h dX0_operandOf_99 (v := nI 0) rfl ?_
        refine g_iret h dX0_operandOf_100 ?_
        first
          | exact q_i (by show _ = (if has (nI N) (nI j) (nI 16) then _ else _); rw [← hN, hasT c87, if_pos rfl, ix_n (by omega)]; rfl) hQ
          | exact q_i (by show _ = (if has (nI N) x (nI 16) then _ else _); rw [← hN, hasF c87, if_neg Bool.false_ne_true]) hQ
      · obtain ⟨j, hj, rfl⟩ := hasCj hN hN16 c87
        refine g_aload_0 h dX0_operandOf_90 ?_
        refine g_getC h fl_X0_96 dX0_operandOf_91 rfl rfl ?_
        refine g_iload_2 h dX0_operandOf_94 ?_
        refine g_iald h j dX0_operandOf_95 rfl rfl (by omega) ?_
        refine g_goto h 100 dX0_operandOf_96 rfl ?_
        refine g_iret h dX0_operandOf_100 ?_
        first
          | exact q_i (by show _ = (if has (nI N) (nI j) (nI 16) then _ else _); rw [← hN, hasT c87, if_pos rfl, ix_n (by omega)]; rfl) hQ
          | exact q_i (by show _ = (if has (nI N) x (nI 16) then _ else _); rw [← hN, hasF c87, if_neg Bool.false_ne_true]) hQ
  · refine g_iload_1 h dX0_operandOf_0 ?_
    · refine g_tsIn h 101 dX0_operandOf_1 (by decide) (by decide) rfl rfl ?_
      refine g_aload_0 h dX0_operandOf_101 ?_
      refine g_getP h fl_X0_28 dX0_operandOf_102 rfl rfl (by assumption) ?_
      refine g_iload_2 h dX0_operandOf_105 ?_
      refine g_cVi1 h rok0 mi_X9_hasCord dX0_operandOf_106 ml_X0_92 rfl rfl rfl (Nat.le_of_ble_eq_true rfl) (Nat.le_of_ble_eq_true rfl) (sp_X9_hasCord (Or.inl rfl) ?_)
      refine g_if_eq h 121 dX0_operandOf_109 rfl (fun c109 => ?_) (fun c109 => ?_)
      · refine g_iconst h dX0_operandOf_121 (v := nI 0) rfl ?_
        refine g_iret h dX0_operandOf_122 ?_
        first
          | exact q_i (by show _ = (if has (nI N) (nI j) (nI 16) then _ else _); rw [← hN, hasT c109, if_pos rfl, ix_n (by omega)]; rfl) hQ
          | exact q_i (by show _ = (if has (nI N) x (nI 16) then _ else _); rw [← hN, hasF c109, if_neg Bool.false_ne_true]) hQ
      · obtain ⟨j, hj, rfl⟩ := hasCj hN hN16 c109
        refine g_aload_0 h dX0_operandOf_112 ?_
        refine g_getC h fl_X0_99 dX0_operandOf_113 rfl rfl ?_
        refine g_iload_2 h dX0_operandOf_116 ?_
        refine g_iald h j dX0_operandOf_117 rfl rfl (by omega) ?_
        refine g_goto h 122 dX0_operandOf_118 rfl ?_
        refine g_iret h dX0_operandOf_122 ?_
        first
          | exact q_i (by show _ = (if has (nI N) (nI j) (nI 16) then _ else _); rw [← hN, hasT c109, if_pos rfl, ix_n (by omega)]; rfl) hQ
          | exact q_i (by show _ = (if has (nI N) x (nI 16) then _ else _); rw [← hN, hasF c109, if_neg Bool.false_ne_true]) hQ
  · refine g_iload_1 h dX0_operandOf_0 ?_
    · refine g_tsIn h 123 dX0_operandOf_1 (by decide) (by decide) rfl rfl ?_
      refine g_aload_0 h dX0_operandOf_123 ?_
      refine g_getP h fl_X0_28 dX0_operandOf_124 rfl rfl (by assumption) ?_
      refine g_iload_2 h dX0_operandOf_127 ?_
      refine g_cVi1 h rok0 mi_X9_hasCord dX0_operandOf_128 ml_X0_92 rfl rfl rfl (Nat.le_of_ble_eq_true rfl) (Nat.le_of_ble_eq_true rfl) (sp_X9_hasCord (Or.inl rfl) ?_)
      refine g_if_eq h 146 dX0_operandOf_131 rfl (fun c131 => ?_) (fun c131 => ?_)
      · refine g_iconst h dX0_operandOf_146 (v := nI 0) rfl ?_
        refine g_iret h dX0_operandOf_147 ?_
        first
          | exact q_i (by show _ = (if has (nI N) (nI j) (nI 16) then _ else _); rw [← hN, hasT c131, if_pos rfl, ix_n (by omega)]; rfl) hQ
          | exact q_i (by show _ = (if has (nI N) x (nI 16) then _ else _); rw [← hN, hasF c131, if_neg Bool.false_ne_true]) hQ
      · obtain ⟨j, hj, rfl⟩ := hasCj hN hN16 c131
        refine g_aload_0 h dX0_operandOf_134 ?_
        refine g_getC h fl_X0_96 dX0_operandOf_135 rfl rfl ?_
        refine g_iload_2 h dX0_operandOf_138 ?_
        refine g_iald h j dX0_operandOf_139 rfl rfl (by omega) ?_
        refine g_cSi1 h rok0 mi_X3_knotsOf dX0_operandOf_140 ml_X0_102 (Nat.le_of_ble_eq_true rfl) (Nat.le_of_ble_eq_true rfl) (sp_X3_knotsOf ?_)
        refine g_goto h 147 dX0_operandOf_143 rfl ?_
        refine g_iret h dX0_operandOf_147 ?_
        first
          | exact q_i (by show _ = (if has (nI N) (nI j) (nI 16) then _ else _); rw [← hN, hasT c131, if_pos rfl, ix_n (by omega)]; rfl) hQ
          | exact q_i (by show _ = (if has (nI N) x (nI 16) then _ else _); rw [← hN, hasF c131, if_neg Bool.false_ne_true]) hQ
  · refine g_iload_1 h dX0_operandOf_0 ?_
    · refine g_tsIn h 148 dX0_operandOf_1 (by decide) (by decide) rfl rfl ?_
      refine g_aload_0 h dX0_operandOf_148 ?_
      refine g_getP h fl_X0_28 dX0_operandOf_149 rfl rfl (by assumption) ?_
      refine g_iload_2 h dX0_operandOf_152 ?_
      refine g_cVi1 h rok0 mi_X9_hasTop dX0_operandOf_153 ml_X0_108 rfl rfl rfl (Nat.le_of_ble_eq_true rfl) (Nat.le_of_ble_eq_true rfl) (sp_X9_hasTop (Or.inl rfl) ?_)
      refine g_if_eq h 168 dX0_operandOf_156 rfl (fun c156 => ?_) (fun c156 => ?_)
      · refine g_iconst h dX0_operandOf_168 (v := nI 0) rfl ?_
        refine g_iret h dX0_operandOf_169 ?_
        first
          | exact q_i (by show _ = (if has (nI Tn) (nI j) (nI 6) then _ else _); rw [← hTp, hasT c156, if_pos rfl, ix_n (by omega)]; rfl) hQ
          | exact q_i (by show _ = (if has (nI Tn) x (nI 6) then _ else _); rw [← hTp, hasF c156, if_neg Bool.false_ne_true]) hQ
      · obtain ⟨j, hj, rfl⟩ := hasCjC hTp hT6 c156
        refine g_aload_0 h dX0_operandOf_159 ?_
        refine g_getC h fl_X0_111 dX0_operandOf_160 rfl rfl ?_
        refine g_iload_2 h dX0_operandOf_163 ?_
        refine g_iald h j dX0_operandOf_164 rfl rfl (by omega) ?_
        refine g_goto h 169 dX0_operandOf_165 rfl ?_
        refine g_iret h dX0_operandOf_169 ?_
        first
          | exact q_i (by show _ = (if has (nI Tn) (nI j) (nI 6) then _ else _); rw [← hTp, hasT c156, if_pos rfl, ix_n (by omega)]; rfl) hQ
          | exact q_i (by show _ = (if has (nI Tn) x (nI 6) then _ else _); rw [← hTp, hasF c156, if_neg Bool.false_ne_true]) hQ
  · refine g_iload_1 h dX0_operandOf_0 ?_
    · refine g_tsIn h 170 dX0_operandOf_1 (by decide) (by decide) rfl rfl ?_
      refine g_aload_0 h dX0_operandOf_170 ?_
      refine g_getP h fl_X0_28 dX0_operandOf_171 rfl rfl (by assumption) ?_
      refine g_iload_2 h dX0_operandOf_174 ?_
      refine g_cVi1 h rok0 mi_X9_hasKeeper dX0_operandOf_175 ml_X0_114 rfl rfl rfl (Nat.le_of_ble_eq_true rfl) (Nat.le_of_ble_eq_true rfl) (sp_X9_hasKeeper (Or.inl rfl) ?_)
      refine g_if_eq h 190 dX0_operandOf_178 rfl (fun c178 => ?_) (fun c178 => ?_)
      · refine g_iconst h dX0_operandOf_190 (v := nI 0) rfl ?_
        refine g_iret h dX0_operandOf_191 ?_
        first
          | exact q_i (by show _ = (if has (nI K) (nI j) (nI 5) then _ else _); rw [← hK, hasT c178, if_pos rfl, ix_n (by omega)]; rfl) hQ
          | exact q_i (by show _ = (if has (nI K) x (nI 5) then _ else _); rw [← hK, hasF c178, if_neg Bool.false_ne_true]) hQ
      · obtain ⟨j, hj, rfl⟩ := hasCjK hK hK5 c178
        refine g_aload_0 h dX0_operandOf_181 ?_
        refine g_getC h fl_X0_117 dX0_operandOf_182 rfl rfl ?_
        refine g_iload_2 h dX0_operandOf_185 ?_
        refine g_iald h j dX0_operandOf_186 rfl rfl (by omega) ?_
        refine g_goto h 191 dX0_operandOf_187 rfl ?_
        refine g_iret h dX0_operandOf_191 ?_
        first
          | exact q_i (by show _ = (if has (nI K) (nI j) (nI 5) then _ else _); rw [← hK, hasT c178, if_pos rfl, ix_n (by omega)]; rfl) hQ
          | exact q_i (by show _ = (if has (nI K) x (nI 5) then _ else _); rw [← hK, hasF c178, if_neg Bool.false_ne_true]) hQ
  · refine g_iload_1 h dX0_operandOf_0 ?_
    · refine g_tsIn h 192 dX0_operandOf_1 (by decide) (by decide) rfl rfl ?_
      refine g_aload_0 h dX0_operandOf_192 ?_
      refine g_getP h fl_X0_28 dX0_operandOf_193 rfl rfl (by assumption) ?_
      refine g_iload_2 h dX0_operandOf_196 ?_
      refine g_cVi1 h rok0 mi_X9_hasTop dX0_operandOf_197 ml_X0_108 rfl rfl rfl (Nat.le_of_ble_eq_true rfl) (Nat.le_of_ble_eq_true rfl) (sp_X9_hasTop (Or.inl rfl) ?_)
      refine g_istore_3 h dX0_operandOf_200 (by decide) rfl ?_
      refine g_iload_3 h dX0_operandOf_201 ?_
      refine g_if_eq h 223 dX0_operandOf_202 rfl (fun c202 => ?_) (fun c202 => ?_)
      · refine g_iconst h dX0_operandOf_223 (v := nI 0) rfl ?_
        refine g_iret h dX0_operandOf_224 ?_
        first
          | exact q_i (by show _ = (if has (nI Tn) (nI j) (nI 6) then b2i (wrgB (I 25 (ix (nI j))) (cnb N (I 24) (I (36 + (7 + ix (nI j)))) (sz (ix (nI j))))) else nI 0); rw [← hTp, hasT c202, if_pos rfl, ix_n (by omega), show 36 + (7 + j) = 43 + j by omega, wrgB, cnb, decide_eq_true c216]; rfl) hQ
          | exact q_i (by show _ = (if has (nI Tn) (nI j) (nI 6) then b2i (wrgB (I 25 (ix (nI j))) (cnb N (I 24) (I (36 + (7 + ix (nI j)))) (sz (ix (nI j))))) else nI 0); rw [← hTp, hasT c202, if_pos rfl, ix_n (by omega), show 36 + (7 + j) = 43 + j by omega, wrgB, cnb, decide_eq_false c216]; rfl) hQ
          | exact q_i (by show _ = (if has (nI Tn) x (nI 6) then _ else nI 0); rw [← hTp, hasF c202, if_neg Bool.false_ne_true]) hQ
      · obtain ⟨j, hj, rfl⟩ := hasCjC hTp hT6 c202
        refine g_aload_0 h dX0_operandOf_205 ?_
        refine g_getC h fl_X0_111 dX0_operandOf_206 rfl rfl ?_
        refine g_iload_2 h dX0_operandOf_209 ?_
        refine g_iald h j dX0_operandOf_210 rfl rfl (by omega) ?_
        refine g_aload_0 h dX0_operandOf_211 ?_
        refine g_iload_2 h dX0_operandOf_212 ?_
        refine g_cVi1 h rok0 mi_X5_countedBelow dX0_operandOf_213 ml_X0_120 rfl rfl rfl (Nat.le_of_ble_eq_true rfl) (Nat.le_of_ble_eq_true rfl) (sp_X5_countedBelow_20 hT hN hN16 (by omega) (hsz j (by omega)).1 (hsz j (by omega)).2 ?_)
        refine g_icmp_eq h 223 dX0_operandOf_216 rfl (fun c216 => ?_) (fun c216 => ?_)
        · refine g_iconst h dX0_operandOf_223 (v := nI 0) rfl ?_
          refine g_iret h dX0_operandOf_224 ?_
          first
            | exact q_i (by show _ = (if has (nI Tn) (nI j) (nI 6) then b2i (wrgB (I 25 (ix (nI j))) (cnb N (I 24) (I (36 + (7 + ix (nI j)))) (sz (ix (nI j))))) else nI 0); rw [← hTp, hasT c202, if_pos rfl, ix_n (by omega), show 36 + (7 + j) = 43 + j by omega, wrgB, cnb, decide_eq_true c216]; rfl) hQ
            | exact q_i (by show _ = (if has (nI Tn) (nI j) (nI 6) then b2i (wrgB (I 25 (ix (nI j))) (cnb N (I 24) (I (36 + (7 + ix (nI j)))) (sz (ix (nI j))))) else nI 0); rw [← hTp, hasT c202, if_pos rfl, ix_n (by omega), show 36 + (7 + j) = 43 + j by omega, wrgB, cnb, decide_eq_false c216]; rfl) hQ
            | exact q_i (by show _ = (if has (nI Tn) x (nI 6) then _ else nI 0); rw [← hTp, hasF c202, if_neg Bool.false_ne_true]) hQ
        · refine g_iconst h dX0_operandOf_219 (v := nI 1) rfl ?_
          refine g_goto h 224 dX0_operandOf_220 rfl ?_
          refine g_iret h dX0_operandOf_224 ?_
          first
            | exact q_i (by show _ = (if has (nI Tn) (nI j) (nI 6) then b2i (wrgB (I 25 (ix (nI j))) (cnb N (I 24) (I (36 + (7 + ix (nI j)))) (sz (ix (nI j))))) else nI 0); rw [← hTp, hasT c202, if_pos rfl, ix_n (by omega), show 36 + (7 + j) = 43 + j by omega, wrgB, cnb, decide_eq_true c216]; rfl) hQ
            | exact q_i (by show _ = (if has (nI Tn) (nI j) (nI 6) then b2i (wrgB (I 25 (ix (nI j))) (cnb N (I 24) (I (36 + (7 + ix (nI j)))) (sz (ix (nI j))))) else nI 0); rw [← hTp, hasT c202, if_pos rfl, ix_n (by omega), show 36 + (7 + j) = 43 + j by omega, wrgB, cnb, decide_eq_false c216]; rfl) hQ
            | exact q_i (by show _ = (if has (nI Tn) x (nI 6) then _ else nI 0); rw [← hTp, hasF c202, if_neg Bool.false_ne_true]) hQ
  · refine g_iload_1 h dX0_operandOf_0 ?_
    · refine g_tsIn h 72 dX0_operandOf_1 (by decide) (by decide) rfl rfl ?_
      refine g_iload_2 h dX0_operandOf_72 ?_
      refine g_iret h dX0_operandOf_73 ?_
      exact q_i rfl hQ
set_option maxHeartbeats 4000000 in
theorem sp_X0_operandOf_28 {d N K Tn k : Nat} {sz : Nat → Nat} (hk : isOp k) {x : Int32} {I : MI} {J : MJ} {P : MP} (hT : P 28 0 = some 36) (hN : I 36 1 = nI N) (hN16 : N ≤ 16) (hK : I 36 3 = nI K) (hK5 : K ≤ 5) (hTp : I 36 2 = nI Tn) (hT6 : Tn ≤ 6) (hsz : ∀ a, a < Tn → I 41 a = nI (sz a) ∧ sz a ≤ 8) {Q : Int32 → MI → MJ → MP → Prop} (hQ : Q (opF (dv I) (sv 28 I) N K Tn sz k x) I J P) : Sp yX0_operandOf cX0_operandOf 4 (some .int) (d + 2) [.ref 28, .int (nI k), .int x] I J P (Qi Q) := by
  intro Γ h
  show VG Γ 0 0 0 [some (.ref 28), some (.int (nI k)), some (.int x), none] [] _ _ _ _
  rcases (show k = 16 ∨ k = 17 ∨ k = 18 ∨ k = 19 ∨ k = 20 ∨ k = 21 ∨ k = 22 ∨ k = 29 by unfold isOp at hk; omega) with rfl | rfl | rfl | rfl | rfl | rfl | rfl | rfl
  · refine g_iload_1 h dX0_operandOf_0 ?_
    · refine g_tsIn h 74 dX0_operandOf_1 (by decide) (by decide) rfl rfl ?_
      refine g_aload_0 h dX0_operandOf_74 ?_
      refine g_getI h fl_X0_89 dX0_operandOf_75 rfl rfl ?_
      refine g_iret h dX0_operandOf_78 ?_
      exact q_i rfl hQ
  · refine g_iload_1 h dX0_operandOf_0 ?_
    · refine g_tsIn h 79 dX0_operandOf_1 (by decide) (by decide) rfl rfl ?_
      refine g_aload_0 h dX0_operandOf_79 ?_
      refine g_getP h fl_X0_28 dX0_operandOf_80 rfl rfl (by assumption) ?_
      refine g_iload_2 h dX0_operandOf_83 ?_
      refine g_cVi1 h rok0 mi_X9_hasCord dX0_operandOf_84 ml_X0_92 rfl rfl rfl (Nat.le_of_ble_eq_true rfl) (Nat.le_of_ble_eq_true rfl) (sp_X9_hasCord (Or.inl rfl) ?_)
      refine g_if_eq h 99 dX0_operandOf_87 rfl (fun c87 => ?_) (fun c87 => ?_)
      · refine g_iconst h dX0_operandOf_99 (v := nI 0) rfl ?_
        refine g_iret h dX0_operandOf_100 ?_
        first
          | exact q_i (by show _ = (if has (nI N) (nI j) (nI 16) then _ else _); rw [← hN, hasT c87, if_pos rfl, ix_n (by omega)]; rfl) hQ
          | exact q_i (by show _ = (if has (nI N) x (nI 16) then _ else _); rw [← hN, hasF c87, if_neg Bool.false_ne_true]) hQ
      · obtain ⟨j, hj, rfl⟩ := hasCj hN hN16 c87
        refine g_aload_0 h dX0_operandOf_90 ?_
        refine g_getC h fl_X0_96 dX0_operandOf_91 rfl rfl ?_
        refine g_iload_2 h dX0_operandOf_94 ?_
        refine g_iald h j dX0_operandOf_95 rfl rfl (by omega) ?_
        refine g_goto h 100 dX0_operandOf_96 rfl ?_
        refine g_iret h dX0_operandOf_100 ?_
        first
          | exact q_i (by show _ = (if has (nI N) (nI j) (nI 16) then _ else _); rw [← hN, hasT c87, if_pos rfl, ix_n (by omega)]; rfl) hQ
          | exact q_i (by show _ = (if has (nI N) x (nI 16) then _ else _); rw [← hN, hasF c87, if_neg Bool.false_ne_true]) hQ
  · refine g_iload_1 h dX0_operandOf_0 ?_
    · refine g_tsIn h 101 dX0_operandOf_1 (by decide) (by decide) rfl rfl ?_
      refine g_aload_0 h dX0_operandOf_101 ?_
      refine g_getP h fl_X0_28 dX0_operandOf_102 rfl rfl (by assumption) ?_
      refine g_iload_2 h dX0_operandOf_105 ?_
      refine g_cVi1 h rok0 mi_X9_hasCord dX0_operandOf_106 ml_X0_92 rfl rfl rfl (Nat.le_of_ble_eq_true rfl) (Nat.le_of_ble_eq_true rfl) (sp_X9_hasCord (Or.inl rfl) ?_)
      refine g_if_eq h 121 dX0_operandOf_109 rfl (fun c109 => ?_) (fun c109 => ?_)
      · refine g_iconst h dX0_operandOf_121 (v := nI 0) rfl ?_
        refine g_iret h dX0_operandOf_122 ?_
        first
          | exact q_i (by show _ = (if has (nI N) (nI j) (nI 16) then _ else _); rw [← hN, hasT c109, if_pos rfl, ix_n (by omega)]; rfl) hQ
          | exact q_i (by show _ = (if has (nI N) x (nI 16) then _ else _); rw [← hN, hasF c109, if_neg Bool.false_ne_true]) hQ
      · obtain ⟨j, hj, rfl⟩ := hasCj hN hN16 c109
        refine g_aload_0 h dX0_operandOf_112 ?_
        refine g_getC h fl_X0_99 dX0_operandOf_113 rfl rfl ?_
        refine g_iload_2 h dX0_operandOf_116 ?_
        refine g_iald h j dX0_operandOf_117 rfl rfl (by omega) ?_
        refine g_goto h 122 dX0_operandOf_118 rfl ?_
        refine g_iret h dX0_operandOf_122 ?_
        first
          | exact q_i (by show _ = (if has (nI N) (nI j) (nI 16) then _ else _); rw [← hN, hasT c109, if_pos rfl, ix_n (by omega)]; rfl) hQ
          | exact q_i (by show _ = (if has (nI N) x (nI 16) then _ else _); rw [← hN, hasF c109, if_neg Bool.false_ne_true]) hQ
  · refine g_iload_1 h dX0_operandOf_0 ?_
    · refine g_tsIn h 123 dX0_operandOf_1 (by decide) (by decide) rfl rfl ?_
      refine g_aload_0 h dX0_operandOf_123 ?_
      refine g_getP h fl_X0_28 dX0_operandOf_124 rfl rfl (by assumption) ?_
      refine g_iload_2 h dX0_operandOf_127 ?_
      refine g_cVi1 h rok0 mi_X9_hasCord dX0_operandOf_128 ml_X0_92 rfl rfl rfl (Nat.le_of_ble_eq_true rfl) (Nat.le_of_ble_eq_true rfl) (sp_X9_hasCord (Or.inl rfl) ?_)
      refine g_if_eq h 146 dX0_operandOf_131 rfl (fun c131 => ?_) (fun c131 => ?_)
      · refine g_iconst h dX0_operandOf_146 (v := nI 0) rfl ?_
        refine g_iret h dX0_operandOf_147 ?_
        first
          | exact q_i (by show _ = (if has (nI N) (nI j) (nI 16) then _ else _); rw [← hN, hasT c131, if_pos rfl, ix_n (by omega)]; rfl) hQ
          | exact q_i (by show _ = (if has (nI N) x (nI 16) then _ else _); rw [← hN, hasF c131, if_neg Bool.false_ne_true]) hQ
      · obtain ⟨j, hj, rfl⟩ := hasCj hN hN16 c131
        refine g_aload_0 h dX0_operandOf_134 ?_
        refine g_getC h fl_X0_96 dX0_operandOf_135 rfl rfl ?_
        refine g_iload_2 h dX0_operandOf_138 ?_
        refine g_iald h j dX0_operandOf_139 rfl rfl (by omega) ?_
        refine g_cSi1 h rok0 mi_X3_knotsOf dX0_operandOf_140 ml_X0_102 (Nat.le_of_ble_eq_true rfl) (Nat.le_of_ble_eq_true rfl) (sp_X3_knotsOf ?_)
        refine g_goto h 147 dX0_operandOf_143 rfl ?_
        refine g_iret h dX0_operandOf_147 ?_
        first
          | exact q_i (by show _ = (if has (nI N) (nI j) (nI 16) then _ else _); rw [← hN, hasT c131, if_pos rfl, ix_n (by omega)]; rfl) hQ
          | exact q_i (by show _ = (if has (nI N) x (nI 16) then _ else _); rw [← hN, hasF c131, if_neg Bool.false_ne_true]) hQ
  · refine g_iload_1 h dX0_operandOf_0 ?_
    · refine g_tsIn h 148 dX0_operandOf_1 (by decide) (by decide) rfl rfl ?_
      refine g_aload_0 h dX0_operandOf_148 ?_
      refine g_getP h fl_X0_28 dX0_operandOf_149 rfl rfl (by assumption) ?_
      refine g_iload_2 h dX0_operandOf_152 ?_
      refine g_cVi1 h rok0 mi_X9_hasTop dX0_operandOf_153 ml_X0_108 rfl rfl rfl (Nat.le_of_ble_eq_true rfl) (Nat.le_of_ble_eq_true rfl) (sp_X9_hasTop (Or.inl rfl) ?_)
      refine g_if_eq h 168 dX0_operandOf_156 rfl (fun c156 => ?_) (fun c156 => ?_)
      · refine g_iconst h dX0_operandOf_168 (v := nI 0) rfl ?_
        refine g_iret h dX0_operandOf_169 ?_
        first
          | exact q_i (by show _ = (if has (nI Tn) (nI j) (nI 6) then _ else _); rw [← hTp, hasT c156, if_pos rfl, ix_n (by omega)]; rfl) hQ
          | exact q_i (by show _ = (if has (nI Tn) x (nI 6) then _ else _); rw [← hTp, hasF c156, if_neg Bool.false_ne_true]) hQ
      · obtain ⟨j, hj, rfl⟩ := hasCjC hTp hT6 c156
        refine g_aload_0 h dX0_operandOf_159 ?_
        refine g_getC h fl_X0_111 dX0_operandOf_160 rfl rfl ?_
        refine g_iload_2 h dX0_operandOf_163 ?_
        refine g_iald h j dX0_operandOf_164 rfl rfl (by omega) ?_
        refine g_goto h 169 dX0_operandOf_165 rfl ?_
        refine g_iret h dX0_operandOf_169 ?_
        first
          | exact q_i (by show _ = (if has (nI Tn) (nI j) (nI 6) then _ else _); rw [← hTp, hasT c156, if_pos rfl, ix_n (by omega)]; rfl) hQ
          | exact q_i (by show _ = (if has (nI Tn) x (nI 6) then _ else _); rw [← hTp, hasF c156, if_neg Bool.false_ne_true]) hQ
  · refine g_iload_1 h dX0_operandOf_0 ?_
    · refine g_tsIn h 170 dX0_operandOf_1 (by decide) (by decide) rfl rfl ?_
      refine g_aload_0 h dX0_operandOf_170 ?_
      refine g_getP h fl_X0_28 dX0_operandOf_171 rfl rfl (by assumption) ?_
      refine g_iload_2 h dX0_operandOf_174 ?_
      refine g_cVi1 h rok0 mi_X9_hasKeeper dX0_operandOf_175 ml_X0_114 rfl rfl rfl (Nat.le_of_ble_eq_true rfl) (Nat.le_of_ble_eq_true rfl) (sp_X9_hasKeeper (Or.inl rfl) ?_)
      refine g_if_eq h 190 dX0_operandOf_178 rfl (fun c178 => ?_) (fun c178 => ?_)
      · refine g_iconst h dX0_operandOf_190 (v := nI 0) rfl ?_
        refine g_iret h dX0_operandOf_191 ?_
        first
          | exact q_i (by show _ = (if has (nI K) (nI j) (nI 5) then _ else _); rw [← hK, hasT c178, if_pos rfl, ix_n (by omega)]; rfl) hQ
          | exact q_i (by show _ = (if has (nI K) x (nI 5) then _ else _); rw [← hK, hasF c178, if_neg Bool.false_ne_true]) hQ
      · obtain ⟨j, hj, rfl⟩ := hasCjK hK hK5 c178
        refine g_aload_0 h dX0_operandOf_181 ?_
        refine g_getC h fl_X0_117 dX0_operandOf_182 rfl rfl ?_
        refine g_iload_2 h dX0_operandOf_185 ?_
        refine g_iald h j dX0_operandOf_186 rfl rfl (by omega) ?_
        refine g_goto h 191 dX0_operandOf_187 rfl ?_
        refine g_iret h dX0_operandOf_191 ?_
        first
          | exact q_i (by show _ = (if has (nI K) (nI j) (nI 5) then _ else _); rw [← hK, hasT c178, if_pos rfl, ix_n (by omega)]; rfl) hQ
          | exact q_i (by show _ = (if has (nI K) x (nI 5) then _ else _); rw [← hK, hasF c178, if_neg Bool.false_ne_true]) hQ
  · refine g_iload_1 h dX0_operandOf_0 ?_
    · refine g_tsIn h 192 dX0_operandOf_1 (by decide) (by decide) rfl rfl ?_
      refine g_aload_0 h dX0_operandOf_192 ?_
      refine g_getP h fl_X0_28 dX0_operandOf_193 rfl rfl (by assumption) ?_
      refine g_iload_2 h dX0_operandOf_196 ?_
      refine g_cVi1 h rok0 mi_X9_hasTop dX0_operandOf_197 ml_X0_108 rfl rfl rfl (Nat.le_of_ble_eq_true rfl) (Nat.le_of_ble_eq_true rfl) (sp_X9_hasTop (Or.inl rfl) ?_)
      refine g_istore_3 h dX0_operandOf_200 (by decide) rfl ?_
      refine g_iload_3 h dX0_operandOf_201 ?_
      refine g_if_eq h 223 dX0_operandOf_202 rfl (fun c202 => ?_) (fun c202 => ?_)
      · refine g_iconst h dX0_operandOf_223 (v := nI 0) rfl ?_
        refine g_iret h dX0_operandOf_224 ?_
        first
          | exact q_i (by show _ = (if has (nI Tn) (nI j) (nI 6) then b2i (wrgB (I 33 (ix (nI j))) (cnb N (I 32) (I (36 + (7 + ix (nI j)))) (sz (ix (nI j))))) else nI 0); rw [← hTp, hasT c202, if_pos rfl, ix_n (by omega), show 36 + (7 + j) = 43 + j by omega, wrgB, cnb, decide_eq_true c216]; rfl) hQ
          | exact q_i (by show _ = (if has (nI Tn) (nI j) (nI 6) then b2i (wrgB (I 33 (ix (nI j))) (cnb N (I 32) (I (36 + (7 + ix (nI j)))) (sz (ix (nI j))))) else nI 0); rw [← hTp, hasT c202, if_pos rfl, ix_n (by omega), show 36 + (7 + j) = 43 + j by omega, wrgB, cnb, decide_eq_false c216]; rfl) hQ
          | exact q_i (by show _ = (if has (nI Tn) x (nI 6) then _ else nI 0); rw [← hTp, hasF c202, if_neg Bool.false_ne_true]) hQ
      · obtain ⟨j, hj, rfl⟩ := hasCjC hTp hT6 c202
        refine g_aload_0 h dX0_operandOf_205 ?_
        refine g_getC h fl_X0_111 dX0_operandOf_206 rfl rfl ?_
        refine g_iload_2 h dX0_operandOf_209 ?_
        refine g_iald h j dX0_operandOf_210 rfl rfl (by omega) ?_
        refine g_aload_0 h dX0_operandOf_211 ?_
        refine g_iload_2 h dX0_operandOf_212 ?_
        refine g_cVi1 h rok0 mi_X5_countedBelow dX0_operandOf_213 ml_X0_120 rfl rfl rfl (Nat.le_of_ble_eq_true rfl) (Nat.le_of_ble_eq_true rfl) (sp_X5_countedBelow_28 hT hN hN16 (by omega) (hsz j (by omega)).1 (hsz j (by omega)).2 ?_)
        refine g_icmp_eq h 223 dX0_operandOf_216 rfl (fun c216 => ?_) (fun c216 => ?_)
        · refine g_iconst h dX0_operandOf_223 (v := nI 0) rfl ?_
          refine g_iret h dX0_operandOf_224 ?_
          first
            | exact q_i (by show _ = (if has (nI Tn) (nI j) (nI 6) then b2i (wrgB (I 33 (ix (nI j))) (cnb N (I 32) (I (36 + (7 + ix (nI j)))) (sz (ix (nI j))))) else nI 0); rw [← hTp, hasT c202, if_pos rfl, ix_n (by omega), show 36 + (7 + j) = 43 + j by omega, wrgB, cnb, decide_eq_true c216]; rfl) hQ
            | exact q_i (by show _ = (if has (nI Tn) (nI j) (nI 6) then b2i (wrgB (I 33 (ix (nI j))) (cnb N (I 32) (I (36 + (7 + ix (nI j)))) (sz (ix (nI j))))) else nI 0); rw [← hTp, hasT c202, if_pos rfl, ix_n (by omega), show 36 + (7 + j) = 43 + j by omega, wrgB, cnb, decide_eq_false c216]; rfl) hQ
            | exact q_i (by show _ = (if has (nI Tn) x (nI 6) then _ else nI 0); rw [← hTp, hasF c202, if_neg Bool.false_ne_true]) hQ
        · refine g_iconst h dX0_operandOf_219 (v := nI 1) rfl ?_
          refine g_goto h 224 dX0_operandOf_220 rfl ?_
          refine g_iret h dX0_operandOf_224 ?_
          first
            | exact q_i (by show _ = (if has (nI Tn) (nI j) (nI 6) then b2i (wrgB (I 33 (ix (nI j))) (cnb N (I 32) (I (36 + (7 + ix (nI j)))) (sz (ix (nI j))))) else nI 0); rw [← hTp, hasT c202, if_pos rfl, ix_n (by omega), show 36 + (7 + j) = 43 + j by omega, wrgB, cnb, decide_eq_true c216]; rfl) hQ
            | exact q_i (by show _ = (if has (nI Tn) (nI j) (nI 6) then b2i (wrgB (I 33 (ix (nI j))) (cnb N (I 32) (I (36 + (7 + ix (nI j)))) (sz (ix (nI j))))) else nI 0); rw [← hTp, hasT c202, if_pos rfl, ix_n (by omega), show 36 + (7 + j) = 43 + j by omega, wrgB, cnb, decide_eq_false c216]; rfl) hQ
            | exact q_i (by show _ = (if has (nI Tn) x (nI 6) then _ else nI 0); rw [← hTp, hasF c202, if_neg Bool.false_ne_true]) hQ
  · refine g_iload_1 h dX0_operandOf_0 ?_
    · refine g_tsIn h 72 dX0_operandOf_1 (by decide) (by decide) rfl rfl ?_
      refine g_iload_2 h dX0_operandOf_72 ?_
      refine g_iret h dX0_operandOf_73 ?_
      exact q_i rfl hQ
