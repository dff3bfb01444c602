/-! The making of objects: constructors -/
theorem oi_m : Cond.instanceMethod Lib.objectInit ∈ bigW := bw_in (tb_1 (List.mem_of_getElem? (i := 58) rfl)) rfl
theorem oi_c : Cond.code Lib.objectInit { data := #[177] } 1 none ∈ bigW := bw_in (tb_1 (List.mem_of_getElem? (i := 59) rfl)) rfl
theorem ac_int : Cond.arrayClass .int ∈ bigW := bw_in (tb_2 (List.mem_of_getElem? (i := 202) rfl)) rfl
theorem ac_byte : Cond.arrayClass .byte ∈ bigW := bw_in (tb_1 (List.mem_of_getElem? (i := 101) rfl)) rfl
theorem ac_boolean : Cond.arrayClass .boolean ∈ bigW := bw_in (tb_2 (List.mem_of_getElem? (i := 203) rfl)) rfl
theorem ac_long : Cond.arrayClass .long ∈ bigW := bw_in (tb_3 (List.mem_of_getElem? (i := 161) rfl)) rfl
theorem nn_of {own : String} {idx : Nat} (h : ((own, idx) ∈ nestF.map (fun q => (q.1, q.2.1))) = False) : ∀ host C n dd, (own, idx, C, n, dd, host) ∉ nestF := fun _ _ _ _ q => by
  have : (own, idx) ∈ nestF.map (fun q => (q.1, q.2.1)) := List.mem_map_of_mem (f := fun q => (q.1, q.2.1)) q
  rw [h] at this
  exact this
theorem nn_dec {own : String} {idx : Nat} (h : decide ((own, idx) ∈ nestF.map (fun q => (q.1, q.2.1))) = false) : ∀ host C n dd, (own, idx, C, n, dd, host) ∉ nestF := nn_of (eq_false (of_decide_eq_false h))
theorem rk_le {Γ : Cz} {c n c' n' : Nat} (h : Rk Γ c n) (h1 : c' ≤ c) (h2 : n' ≤ n) : Rk Γ c' n' := by
  obtain ⟨p, l, e, R, s, m, args, below, meth, c0, dC, dI, cy, A⟩ := Γ
  exact ⟨Nat.le_trans h1 h.1, Nat.le_trans h2 h.2⟩
theorem k_lc {own : String} {cc : ByteArray} {nL d kc kn pc : Nat} {Γ : Cz} {lv : List (Nat × Value)} {st : List Value} {ws : va_W} {Φ : State → Prop} (h : Vk own cc nL d Γ) {n : Fin 2} {v : Int64} (hd : decode cc pc = .ok (.lconst n, 1)) (hv : Int64.ofNat (n : Nat) = v) (k : CV Γ kc kn (pc + 1) lv (.long v :: st) ws Φ) : CV Γ kc kn pc lv st ws Φ := by
  obtain ⟨p, l, e, R, s, m, args, below, meth, c, dC, dI, cy, A⟩ := Γ
  obtain ⟨hx, hb, hml, hown, hts, hlk, hK, hA, hf, hlo⟩ := h
  intro H locs ls hP hD hS hl
  exact lv_lconst hx hb hd hv (k H locs ls hP hD hS hl)
theorem ol_X1 : Cond.methodLink RX1 1 Lib.objectInit ∈ bigW := bw_in (tb_2 (List.mem_of_getElem? (i := 186) rfl)) rfl
theorem ff_X1_9 : FPF RX1 9 1 0 (.array .int) := ⟨_, _, _, tyX1, rfl, by decide, inW_X1, Or.inl (bw_in (tb_2 (List.mem_of_getElem? (i := 187) rfl)) rfl), tyX1_ok, nmX1, ⟨rfl, rfl⟩, tyX1_ok 0 (by decide)⟩
theorem ff_X1_15 : FPF RX1 15 1 1 (.array .int) := ⟨_, _, _, tyX1, rfl, by decide, inW_X1, Or.inl (bw_in (tb_2 (List.mem_of_getElem? (i := 190) rfl)) rfl), tyX1_ok, nmX1, ⟨rfl, rfl⟩, tyX1_ok 1 (by decide)⟩
theorem fq_X1_18 : FP RX1 18 1 2 .int := ⟨_, _, _, tyX1, rfl, by decide, inW_X1, Or.inl (bw_in (tb_2 (List.mem_of_getElem? (i := 193) rfl)) rfl), tyX1_ok, nmX1, rfl, tyX1_ok 2 (by decide)⟩
def wX1 (cy : Nat → ClassId) (a  : Nat) (ws : va_W) : Prop := ∃ q1 q2, ws = [(a, .inr (1, [.ref q1, .ref q2, .int (nI 0)])), (q1, .inl (cy 0, 400, .inl (fun _ => nI 0))), (q2, .inl (cy 0, 400, .inl (fun _ => nI 0)))]
set_option maxRecDepth 100000 in
set_option maxHeartbeats 4000000 in
theorem ks_X1 {cy : Nat → ClassId} {a  : Nat} : KS cy yX1_init cX1_init 1 2 2 800 [.ref a] [(0, .ref a)] [(a, .inr (1, [.null, .null, .int 0]))] (wX1 cy a) := by
  intro Γ hcy hn h hi hR
  refine k_al h 0 0 dX1_init_0 rfl rfl ?_
  refine k_obj h ol_X1 oi_m oi_c dX1_init_1 (by decide) ?_
  refine k_al h 0 0 dX1_init_4 rfl rfl ?_
  refine k_sp h (v := nI 400) dX1_init_5 rfl ?_
  refine k_na h hcy (at_ := .int) (ty := .int) (N := 400) (a0 := (400, .inl (fun _ => nI 0))) 0 (rk_le hR (by decide) (by decide)) ac_int rfl (fun _ => rfl) (fun _ q => by cases q) (fun _ => rfl) (by decide) (by decide) (by decide) dX1_init_8 (fun q1 => ?_)
  show CV _ _ _ _ _ _ [(a, .inr (1, [.null, .null, .int 0])), (q1, .inl (cy 0, 400, .inl (fun _ => nI 0)))] _
  refine k_putF h hi 0 ff_X1_9 rfl rfl rfl (Nat.le_of_ble_eq_true rfl) (nn_dec (by decide +kernel)) dX1_init_10 ?_
  show CV _ _ _ _ _ _ [(a, .inr (1, [.ref q1, .null, .int 0])), (q1, .inl (cy 0, 400, .inl (fun _ => nI 0)))] _
  refine k_al h 0 0 dX1_init_13 rfl rfl ?_
  refine k_sp h (v := nI 400) dX1_init_14 rfl ?_
  refine k_na h hcy (at_ := .int) (ty := .int) (N := 400) (a0 := (400, .inl (fun _ => nI 0))) 0 (rk_le hR (by decide) (by decide)) ac_int rfl (fun _ => rfl) (fun _ q => by cases q) (fun _ => rfl) (by decide) (by decide) (by decide) dX1_init_17 (fun q2 => ?_)
  show CV _ _ _ _ _ _ [(a, .inr (1, [.ref q1, .null, .int 0])), (q1, .inl (cy 0, 400, .inl (fun _ => nI 0))), (q2, .inl (cy 0, 400, .inl (fun _ => nI 0)))] _
  refine k_putF h hi 0 ff_X1_15 rfl rfl rfl (Nat.le_of_ble_eq_true rfl) (nn_dec (by decide +kernel)) dX1_init_19 ?_
  show CV _ _ _ _ _ _ [(a, .inr (1, [.ref q1, .ref q2, .int 0])), (q1, .inl (cy 0, 400, .inl (fun _ => nI 0))), (q2, .inl (cy 0, 400, .inl (fun _ => nI 0)))] _
  refine k_al h 0 0 dX1_init_22 rfl rfl ?_
  refine k_ic h (v := nI 0) dX1_init_23 rfl ?_
  refine k_put h 0 fq_X1_18 rfl rfl rfl (Nat.le_of_ble_eq_true rfl) (nn_dec (by decide +kernel)) dX1_init_24 ?_
  show CV _ _ _ _ _ _ [(a, .inr (1, [.ref q1, .ref q2, .int (nI 0)])), (q1, .inl (cy 0, 400, .inl (fun _ => nI 0))), (q2, .inl (cy 0, 400, .inl (fun _ => nI 0)))] _
  exact k_ret h hi dX1_init_27 ⟨q1, q2, rfl⟩
theorem ol_X6 : Cond.methodLink RX6 1 Lib.objectInit ∈ bigW := bw_in (tb_3 (List.mem_of_getElem? (i := 66) rfl)) rfl
theorem ff_X6_9 : FPF RX6 9 4 0 (.array .byte) := ⟨_, _, _, tyX6, rfl, by decide, inW_X6, Or.inl (bw_in (tb_3 (List.mem_of_getElem? (i := 67) rfl)) rfl), tyX6_ok, nmX6, ⟨rfl, rfl⟩, tyX6_ok 0 (by decide)⟩
theorem fq_X6_13 : FP RX6 13 4 1 .int := ⟨_, _, _, tyX6, rfl, by decide, inW_X6, Or.inl (bw_in (tb_3 (List.mem_of_getElem? (i := 68) rfl)) rfl), tyX6_ok, nmX6, rfl, tyX6_ok 1 (by decide)⟩
def wX6 (cy : Nat → ClassId) (a  : Nat) (ws : va_W) : Prop := ∃ q1, ws = [(a, .inr (4, [.ref q1, .int (nI 0)])), (q1, .inl (cy 1, 2000, .inl (fun _ => nI 0)))]
set_option maxRecDepth 100000 in
set_option maxHeartbeats 4000000 in
theorem ks_X6 {cy : Nat → ClassId} {a  : Nat} : KS cy yX6_init cX6_init 1 2 1 2000 [.ref a] [(0, .ref a)] [(a, .inr (4, [.null, .int 0]))] (wX6 cy a) := by
  intro Γ hcy hn h hi hR
  refine k_al h 0 0 dX6_init_0 rfl rfl ?_
  refine k_obj h ol_X6 oi_m oi_c dX6_init_1 (by decide) ?_
  refine k_al h 0 0 dX6_init_4 rfl rfl ?_
  refine k_sp h (v := nI 2000) dX6_init_5 rfl ?_
  refine k_na h hcy (at_ := .byte) (ty := .byte) (N := 2000) (a0 := (2000, .inl (fun _ => nI 0))) 1 (rk_le hR (by decide) (by decide)) ac_byte rfl (fun _ => rfl) (fun _ q => by cases q) (fun _ => rfl) (by decide) (by decide) (by decide) dX6_init_8 (fun q1 => ?_)
  show CV _ _ _ _ _ _ [(a, .inr (4, [.null, .int 0])), (q1, .inl (cy 1, 2000, .inl (fun _ => nI 0)))] _
  refine k_putF h hi 0 ff_X6_9 rfl rfl rfl (Nat.le_of_ble_eq_true rfl) (nn_dec (by decide +kernel)) dX6_init_10 ?_
  show CV _ _ _ _ _ _ [(a, .inr (4, [.ref q1, .int 0])), (q1, .inl (cy 1, 2000, .inl (fun _ => nI 0)))] _
  refine k_al h 0 0 dX6_init_13 rfl rfl ?_
  refine k_ic h (v := nI 0) dX6_init_14 rfl ?_
  refine k_put h 0 fq_X6_13 rfl rfl rfl (Nat.le_of_ble_eq_true rfl) (nn_dec (by decide +kernel)) dX6_init_15 ?_
  show CV _ _ _ _ _ _ [(a, .inr (4, [.ref q1, .int (nI 0)])), (q1, .inl (cy 1, 2000, .inl (fun _ => nI 0)))] _
  exact k_ret h hi dX6_init_18 ⟨q1, rfl⟩
theorem ol_X0 : Cond.methodLink RX0 1 Lib.objectInit ∈ bigW := bw_in (tb_4 (List.mem_of_getElem? (i := 33) rfl)) rfl
theorem ff_X0_9 : FPF RX0 9 0 0 (.array .int) := ⟨_, _, _, tyX0, rfl, by decide, inW_X0, Or.inl (bw_in (tb_4 (List.mem_of_getElem? (i := 34) rfl)) rfl), tyX0_ok, nmX0, ⟨rfl, rfl⟩, tyX0_ok 0 (by decide)⟩
theorem fq_X0_15 : FP RX0 15 0 1 .int := ⟨_, _, _, tyX0, rfl, by decide, inW_X0, Or.inl (bw_in (tb_4 (List.mem_of_getElem? (i := 35) rfl)) rfl), tyX0_ok, nmX0, rfl, tyX0_ok 1 (by decide)⟩
def wX0 (cy : Nat → ClassId) (a  : Nat) (ws : va_W) : Prop := ∃ q1, ws = [(a, .inr (0, [.ref q1, .int (nI 0)])), (q1, .inl (cy 0, 400, .inl (fun _ => nI 0)))]
set_option maxRecDepth 100000 in
set_option maxHeartbeats 4000000 in
theorem ks_X0 {cy : Nat → ClassId} {a  : Nat} : KS cy yX0_init cX0_init 1 2 1 400 [.ref a] [(0, .ref a)] [(a, .inr (0, [.null, .int 0]))] (wX0 cy a) := by
  intro Γ hcy hn h hi hR
  refine k_al h 0 0 dX0_init_0 rfl rfl ?_
  refine k_obj h ol_X0 oi_m oi_c dX0_init_1 (by decide) ?_
  refine k_al h 0 0 dX0_init_4 rfl rfl ?_
  refine k_sp h (v := nI 400) dX0_init_5 rfl ?_
  refine k_na h hcy (at_ := .int) (ty := .int) (N := 400) (a0 := (400, .inl (fun _ => nI 0))) 0 (rk_le hR (by decide) (by decide)) ac_int rfl (fun _ => rfl) (fun _ q => by cases q) (fun _ => rfl) (by decide) (by decide) (by decide) dX0_init_8 (fun q1 => ?_)
  show CV _ _ _ _ _ _ [(a, .inr (0, [.null, .int 0])), (q1, .inl (cy 0, 400, .inl (fun _ => nI 0)))] _
  refine k_putF h hi 0 ff_X0_9 rfl rfl rfl (Nat.le_of_ble_eq_true rfl) (nn_dec (by decide +kernel)) dX0_init_10 ?_
  show CV _ _ _ _ _ _ [(a, .inr (0, [.ref q1, .int 0])), (q1, .inl (cy 0, 400, .inl (fun _ => nI 0)))] _
  refine k_al h 0 0 dX0_init_13 rfl rfl ?_
  refine k_ic h (v := nI 0) dX0_init_14 rfl ?_
  refine k_put h 0 fq_X0_15 rfl rfl rfl (Nat.le_of_ble_eq_true rfl) (nn_dec (by decide +kernel)) dX0_init_15 ?_
  show CV _ _ _ _ _ _ [(a, .inr (0, [.ref q1, .int (nI 0)])), (q1, .inl (cy 0, 400, .inl (fun _ => nI 0)))] _
  exact k_ret h hi dX0_init_18 ⟨q1, rfl⟩
theorem ol_X4 : Cond.methodLink RX4 1 Lib.objectInit ∈ bigW := bw_in (tb_3 (List.mem_of_getElem? (i := 167) rfl)) rfl
theorem ff_X4_9 : FPF RX4 9 2 0 (.array .int) := ⟨_, _, _, tyX4, rfl, by decide, inW_X4, Or.inl (bw_in (tb_3 (List.mem_of_getElem? (i := 168) rfl)) rfl), tyX4_ok, nmX4, ⟨rfl, rfl⟩, tyX4_ok 0 (by decide)⟩
theorem fq_X4_17 : FP RX4 17 2 3 .int := ⟨_, _, _, tyX4, rfl, by decide, inW_X4, Or.inl (bw_in (tb_3 (List.mem_of_getElem? (i := 172) rfl)) rfl), tyX4_ok, nmX4, rfl, tyX4_ok 3 (by decide)⟩
theorem fq_X4_21 : FP RX4 21 2 4 .int := ⟨_, _, _, tyX4, rfl, by decide, inW_X4, Or.inl (bw_in (tb_3 (List.mem_of_getElem? (i := 173) rfl)) rfl), tyX4_ok, nmX4, rfl, tyX4_ok 4 (by decide)⟩
theorem ff_X4_24 : FPF RX4 24 2 1 (.object "QuipuKeepers$Tokens") := ⟨_, _, _, tyX4, rfl, by decide, inW_X4, Or.inl (bw_in (tb_3 (List.mem_of_getElem? (i := 170) rfl)) rfl), tyX4_ok, nmX4, ⟨rfl, rfl⟩, tyX4_ok 1 (by decide)⟩
theorem fq_X4_28 : FP RX4 28 2 2 (.object "QuipuKeepers$Code") := ⟨_, _, _, tyX4, rfl, by decide, inW_X4, Or.inl (bw_in (tb_3 (List.mem_of_getElem? (i := 171) rfl)) rfl), tyX4_ok, nmX4, rfl, tyX4_ok 2 (by decide)⟩
def wX4 (cy : Nat → ClassId) (a t u : Nat) (ws : va_W) : Prop := ∃ q1, ws = [(a, .inr (2, [.ref q1, .ref t, .ref u, .int (nI 46), .int (nI 0)])), (q1, .inl (cy 0, 401, .inl (fun _ => nI 0)))]
set_option maxRecDepth 100000 in
set_option maxHeartbeats 4000000 in
theorem ks_X4 {cy : Nat → ClassId} {a t u : Nat} : KS cy yX4_init cX4_init 3 2 1 401 [.ref a, .ref t, .ref u] [(0, .ref a), (1, .ref t), (2, .ref u)] [(a, .inr (2, [.null, .null, .null, .int 0, .int 0]))] (wX4 cy a t u) := by
  intro Γ hcy hn h hi hR
  refine k_al h 0 0 dX4_init_0 rfl rfl ?_
  refine k_obj h ol_X4 oi_m oi_c dX4_init_1 (by decide) ?_
  refine k_al h 0 0 dX4_init_4 rfl rfl ?_
  refine k_sp h (v := nI 401) dX4_init_5 rfl ?_
  refine k_na h hcy (at_ := .int) (ty := .int) (N := 401) (a0 := (401, .inl (fun _ => nI 0))) 0 (rk_le hR (by decide) (by decide)) ac_int rfl (fun _ => rfl) (fun _ q => by cases q) (fun _ => rfl) (by decide) (by decide) (by decide) dX4_init_8 (fun q1 => ?_)
  show CV _ _ _ _ _ _ [(a, .inr (2, [.null, .null, .null, .int 0, .int 0])), (q1, .inl (cy 0, 401, .inl (fun _ => nI 0)))] _
  refine k_putF h hi 0 ff_X4_9 rfl rfl rfl (Nat.le_of_ble_eq_true rfl) (nn_dec (by decide +kernel)) dX4_init_10 ?_
  show CV _ _ _ _ _ _ [(a, .inr (2, [.ref q1, .null, .null, .int 0, .int 0])), (q1, .inl (cy 0, 401, .inl (fun _ => nI 0)))] _
  refine k_al h 0 0 dX4_init_13 rfl rfl ?_
  refine k_bp h (v := nI 46) dX4_init_14 rfl ?_
  refine k_put h 0 fq_X4_17 rfl rfl rfl (Nat.le_of_ble_eq_true rfl) (nn_dec (by decide +kernel)) dX4_init_16 ?_
  show CV _ _ _ _ _ _ [(a, .inr (2, [.ref q1, .null, .null, .int (nI 46), .int 0])), (q1, .inl (cy 0, 401, .inl (fun _ => nI 0)))] _
  refine k_al h 0 0 dX4_init_19 rfl rfl ?_
  refine k_ic h (v := nI 0) dX4_init_20 rfl ?_
  refine k_put h 0 fq_X4_21 rfl rfl rfl (Nat.le_of_ble_eq_true rfl) (nn_dec (by decide +kernel)) dX4_init_21 ?_
  show CV _ _ _ _ _ _ [(a, .inr (2, [.ref q1, .null, .null, .int (nI 46), .int (nI 0)])), (q1, .inl (cy 0, 401, .inl (fun _ => nI 0)))] _
  refine k_al h 0 0 dX4_init_24 rfl rfl ?_
  refine k_al h 1 1 dX4_init_25 rfl rfl ?_
  refine k_putF h hi 0 ff_X4_24 rfl rfl rfl (Nat.le_of_ble_eq_true rfl) (nn_dec (by decide +kernel)) dX4_init_26 ?_
  show CV _ _ _ _ _ _ [(a, .inr (2, [.ref q1, .ref t, .null, .int (nI 46), .int (nI 0)])), (q1, .inl (cy 0, 401, .inl (fun _ => nI 0)))] _
  refine k_al h 0 0 dX4_init_29 rfl rfl ?_
  refine k_al h 2 2 dX4_init_30 rfl rfl ?_
  refine k_put h 0 fq_X4_28 rfl rfl rfl (Nat.le_of_ble_eq_true rfl) (nn_dec (by decide +kernel)) dX4_init_31 ?_
  show CV _ _ _ _ _ _ [(a, .inr (2, [.ref q1, .ref t, .ref u, .int (nI 46), .int (nI 0)])), (q1, .inl (cy 0, 401, .inl (fun _ => nI 0)))] _
  exact k_ret h hi dX4_init_34 ⟨q1, rfl⟩
theorem ol_X7 : Cond.methodLink RX7 1 Lib.objectInit ∈ bigW := bw_in (tb_3 (List.mem_of_getElem? (i := 190) rfl)) rfl
theorem fq_X7_7 : FP RX7 7 5 0 .int := ⟨_, _, _, tyX7, rfl, by decide, inW_X7, Or.inl (bw_in (tb_3 (List.mem_of_getElem? (i := 191) rfl)) rfl), tyX7_ok, nmX7, rfl, tyX7_ok 0 (by decide)⟩
theorem ff_X7_15 : FPF RX7 15 5 1 (.array .long) := ⟨_, _, _, tyX7, rfl, by decide, inW_X7, Or.inl (bw_in (tb_3 (List.mem_of_getElem? (i := 193) rfl)) rfl), tyX7_ok, nmX7, ⟨rfl, rfl⟩, tyX7_ok 1 (by decide)⟩
theorem ff_X7_19 : FPF RX7 19 5 2 (.array .long) := ⟨_, _, _, tyX7, rfl, by decide, inW_X7, Or.inl (bw_in (tb_3 (List.mem_of_getElem? (i := 194) rfl)) rfl), tyX7_ok, nmX7, ⟨rfl, rfl⟩, tyX7_ok 2 (by decide)⟩
theorem ff_X7_22 : FPF RX7 22 5 3 (.array .long) := ⟨_, _, _, tyX7, rfl, by decide, inW_X7, Or.inl (bw_in (tb_3 (List.mem_of_getElem? (i := 195) rfl)) rfl), tyX7_ok, nmX7, ⟨rfl, rfl⟩, tyX7_ok 3 (by decide)⟩
theorem ff_X7_25 : FPF RX7 25 5 4 (.array .long) := ⟨_, _, _, tyX7, rfl, by decide, inW_X7, Or.inl (bw_in (tb_3 (List.mem_of_getElem? (i := 196) rfl)) rfl), tyX7_ok, nmX7, ⟨rfl, rfl⟩, tyX7_ok 4 (by decide)⟩
theorem ff_X7_28 : FPF RX7 28 5 5 (.array .int) := ⟨_, _, _, tyX7, rfl, by decide, inW_X7, Or.inl (bw_in (tb_3 (List.mem_of_getElem? (i := 197) rfl)) rfl), tyX7_ok, nmX7, ⟨rfl, rfl⟩, tyX7_ok 5 (by decide)⟩
theorem ff_X7_34 : FPF RX7 34 5 6 (.array .int) := ⟨_, _, _, tyX7, rfl, by decide, inW_X7, Or.inl (bw_in (tb_3 (List.mem_of_getElem? (i := 198) rfl)) rfl), tyX7_ok, nmX7, ⟨rfl, rfl⟩, tyX7_ok 6 (by decide)⟩
theorem fq_X7_39 : FP RX7 39 5 7 .int := ⟨_, _, _, tyX7, rfl, by decide, inW_X7, Or.inl (bw_in (tb_3 (List.mem_of_getElem? (i := 199) rfl)) rfl), tyX7_ok, nmX7, rfl, tyX7_ok 7 (by decide)⟩
theorem fq_X7_42 : FP RX7 42 5 8 .int := ⟨_, _, _, tyX7, rfl, by decide, inW_X7, Or.inl (bw_in (tb_3 (List.mem_of_getElem? (i := 200) rfl)) rfl), tyX7_ok, nmX7, rfl, tyX7_ok 8 (by decide)⟩
def wX7 (cy : Nat → ClassId) (a  : Nat) (ws : va_W) : Prop := ∃ q1 q2 q3 q4 q5 q6, ws = [(a, .inr (5, [.int (nI 0), .ref q1, .ref q2, .ref q3, .ref q4, .ref q5, .ref q6, .int (nI 48), .int (nI 48)])), (q1, .inl (cy 3, 6, .inr (.inl (fun _ => 0)))), (q2, .inl (cy 3, 16, .inr (.inl (fun _ => 0)))), (q3, .inl (cy 3, 6, .inr (.inl (fun _ => 0)))), (q4, .inl (cy 3, 5, .inr (.inl (fun _ => 0)))), (q5, .inl (cy 0, 16, .inl (fun _ => nI 0))), (q6, .inl (cy 0, 401, .inl (fun _ => nI 0)))]
set_option maxRecDepth 100000 in
set_option maxHeartbeats 4000000 in
theorem ks_X7 {cy : Nat → ClassId} {a  : Nat} : KS cy yX7_init cX7_init 1 2 6 450 [.ref a] [(0, .ref a)] [(a, .inr (5, [.int 0, .null, .null, .null, .null, .null, .null, .int 0, .int 0]))] (wX7 cy a) := by
  intro Γ hcy hn h hi hR
  refine k_al h 0 0 dX7_init_0 rfl rfl ?_
  refine k_obj h ol_X7 oi_m oi_c dX7_init_1 (by decide) ?_
  refine k_al h 0 0 dX7_init_4 rfl rfl ?_
  refine k_ic h (v := nI 0) dX7_init_5 rfl ?_
  refine k_put h 0 fq_X7_7 rfl rfl rfl (Nat.le_of_ble_eq_true rfl) (nn_dec (by decide +kernel)) dX7_init_6 ?_
  show CV _ _ _ _ _ _ [(a, .inr (5, [.int (nI 0), .null, .null, .null, .null, .null, .null, .int 0, .int 0]))] _
  refine k_al h 0 0 dX7_init_9 rfl rfl ?_
  refine k_bp h (v := nI 6) dX7_init_10 rfl ?_
  refine k_na h hcy (at_ := .long) (ty := .long) (N := 6) (a0 := (6, .inr (.inl (fun _ => 0)))) 3 (rk_le hR (by decide) (by decide)) ac_long rfl (fun _ => rfl) (fun _ q => by cases q) (fun _ => rfl) (by decide) (by decide) (by decide) dX7_init_12 (fun q1 => ?_)
  show CV _ _ _ _ _ _ [(a, .inr (5, [.int (nI 0), .null, .null, .null, .null, .null, .null, .int 0, .int 0])), (q1, .inl (cy 3, 6, .inr (.inl (fun _ => 0))))] _
  refine k_putF h hi 0 ff_X7_15 rfl rfl rfl (Nat.le_of_ble_eq_true rfl) (nn_dec (by decide +kernel)) dX7_init_14 ?_
  show CV _ _ _ _ _ _ [(a, .inr (5, [.int (nI 0), .ref q1, .null, .null, .null, .null, .null, .int 0, .int 0])), (q1, .inl (cy 3, 6, .inr (.inl (fun _ => 0))))] _
  refine k_al h 0 0 dX7_init_17 rfl rfl ?_
  refine k_bp h (v := nI 16) dX7_init_18 rfl ?_
  refine k_na h hcy (at_ := .long) (ty := .long) (N := 16) (a0 := (16, .inr (.inl (fun _ => 0)))) 3 (rk_le hR (by decide) (by decide)) ac_long rfl (fun _ => rfl) (fun _ q => by cases q) (fun _ => rfl) (by decide) (by decide) (by decide) dX7_init_20 (fun q2 => ?_)
  show CV _ _ _ _ _ _ [(a, .inr (5, [.int (nI 0), .ref q1, .null, .null, .null, .null, .null, .int 0, .int 0])), (q1, .inl (cy 3, 6, .inr (.inl (fun _ => 0)))), (q2, .inl (cy 3, 16, .inr (.inl (fun _ => 0))))] _
  refine k_putF h hi 0 ff_X7_19 rfl rfl rfl (Nat.le_of_ble_eq_true rfl) (nn_dec (by decide +kernel)) dX7_init_22 ?_
  show CV _ _ _ _ _ _ [(a, .inr (5, [.int (nI 0), .ref q1, .ref q2, .null, .null, .null, .null, .int 0, .int 0])), (q1, .inl (cy 3, 6, .inr (.inl (fun _ => 0)))), (q2, .inl (cy 3, 16, .inr (.inl (fun _ => 0))))] _
  refine k_al h 0 0 dX7_init_25 rfl rfl ?_
  refine k_bp h (v := nI 6) dX7_init_26 rfl ?_
  refine k_na h hcy (at_ := .long) (ty := .long) (N := 6) (a0 := (6, .inr (.inl (fun _ => 0)))) 3 (rk_le hR (by decide) (by decide)) ac_long rfl (fun _ => rfl) (fun _ q => by cases q) (fun _ => rfl) (by decide) (by decide) (by decide) dX7_init_28 (fun q3 => ?_)
  show CV _ _ _ _ _ _ [(a, .inr (5, [.int (nI 0), .ref q1, .ref q2, .null, .null, .null, .null, .int 0, .int 0])), (q1, .inl (cy 3, 6, .inr (.inl (fun _ => 0)))), (q2, .inl (cy 3, 16, .inr (.inl (fun _ => 0)))), (q3, .inl (cy 3, 6, .inr (.inl (fun _ => 0))))] _
  refine k_putF h hi 0 ff_X7_22 rfl rfl rfl (Nat.le_of_ble_eq_true rfl) (nn_dec (by decide +kernel)) dX7_init_30 ?_
  show CV _ _ _ _ _ _ [(a, .inr (5, [.int (nI 0), .ref q1, .ref q2, .ref q3, .null, .null, .null, .int 0, .int 0])), (q1, .inl (cy 3, 6, .inr (.inl (fun _ => 0)))), (q2, .inl (cy 3, 16, .inr (.inl (fun _ => 0)))), (q3, .inl (cy 3, 6, .inr (.inl (fun _ => 0))))] _
  refine k_al h 0 0 dX7_init_33 rfl rfl ?_
  refine k_ic h (v := nI 5) dX7_init_34 rfl ?_
  refine k_na h hcy (at_ := .long) (ty := .long) (N := 5) (a0 := (5, .inr (.inl (fun _ => 0)))) 3 (rk_le hR (by decide) (by decide)) ac_long rfl (fun _ => rfl) (fun _ q => by cases q) (fun _ => rfl) (by decide) (by decide) (by decide) dX7_init_35 (fun q4 => ?_)
  show CV _ _ _ _ _ _ [(a, .inr (5, [.int (nI 0), .ref q1, .ref q2, .ref q3, .null, .null, .null, .int 0, .int 0])), (q1, .inl (cy 3, 6, .inr (.inl (fun _ => 0)))), (q2, .inl (cy 3, 16, .inr (.inl (fun _ => 0)))), (q3, .inl (cy 3, 6, .inr (.inl (fun _ => 0)))), (q4, .inl (cy 3, 5, .inr (.inl (fun _ => 0))))] _
  refine k_putF h hi 0 ff_X7_25 rfl rfl rfl (Nat.le_of_ble_eq_true rfl) (nn_dec (by decide +kernel)) dX7_init_37 ?_
  show CV _ _ _ _ _ _ [(a, .inr (5, [.int (nI 0), .ref q1, .ref q2, .ref q3, .ref q4, .null, .null, .int 0, .int 0])), (q1, .inl (cy 3, 6, .inr (.inl (fun _ => 0)))), (q2, .inl (cy 3, 16, .inr (.inl (fun _ => 0)))), (q3, .inl (cy 3, 6, .inr (.inl (fun _ => 0)))), (q4, .inl (cy 3, 5, .inr (.inl (fun _ => 0))))] _
  refine k_al h 0 0 dX7_init_40 rfl rfl ?_
  refine k_bp h (v := nI 16) dX7_init_41 rfl ?_
  refine k_na h hcy (at_ := .int) (ty := .int) (N := 16) (a0 := (16, .inl (fun _ => nI 0))) 0 (rk_le hR (by decide) (by decide)) ac_int rfl (fun _ => rfl) (fun _ q => by cases q) (fun _ => rfl) (by decide) (by decide) (by decide) dX7_init_43 (fun q5 => ?_)
  show CV _ _ _ _ _ _ [(a, .inr (5, [.int (nI 0), .ref q1, .ref q2, .ref q3, .ref q4, .null, .null, .int 0, .int 0])), (q1, .inl (cy 3, 6, .inr (.inl (fun _ => 0)))), (q2, .inl (cy 3, 16, .inr (.inl (fun _ => 0)))), (q3, .inl (cy 3, 6, .inr (.inl (fun _ => 0)))), (q4, .inl (cy 3, 5, .inr (.inl (fun _ => 0)))), (q5, .inl (cy 0, 16, .inl (fun _ => nI 0)))] _
  refine k_putF h hi 0 ff_X7_28 rfl rfl rfl (Nat.le_of_ble_eq_true rfl) (nn_dec (by decide +kernel)) dX7_init_45 ?_
  show CV _ _ _ _ _ _ [(a, .inr (5, [.int (nI 0), .ref q1, .ref q2, .ref q3, .ref q4, .ref q5, .null, .int 0, .int 0])), (q1, .inl (cy 3, 6, .inr (.inl (fun _ => 0)))), (q2, .inl (cy 3, 16, .inr (.inl (fun _ => 0)))), (q3, .inl (cy 3, 6, .inr (.inl (fun _ => 0)))), (q4, .inl (cy 3, 5, .inr (.inl (fun _ => 0)))), (q5, .inl (cy 0, 16, .inl (fun _ => nI 0)))] _
  refine k_al h 0 0 dX7_init_48 rfl rfl ?_
  refine k_sp h (v := nI 401) dX7_init_49 rfl ?_
  refine k_na h hcy (at_ := .int) (ty := .int) (N := 401) (a0 := (401, .inl (fun _ => nI 0))) 0 (rk_le hR (by decide) (by decide)) ac_int rfl (fun _ => rfl) (fun _ q => by cases q) (fun _ => rfl) (by decide) (by decide) (by decide) dX7_init_52 (fun q6 => ?_)
  show CV _ _ _ _ _ _ [(a, .inr (5, [.int (nI 0), .ref q1, .ref q2, .ref q3, .ref q4, .ref q5, .null, .int 0, .int 0])), (q1, .inl (cy 3, 6, .inr (.inl (fun _ => 0)))), (q2, .inl (cy 3, 16, .inr (.inl (fun _ => 0)))), (q3, .inl (cy 3, 6, .inr (.inl (fun _ => 0)))), (q4, .inl (cy 3, 5, .inr (.inl (fun _ => 0)))), (q5, .inl (cy 0, 16, .inl (fun _ => nI 0))), (q6, .inl (cy 0, 401, .inl (fun _ => nI 0)))] _
  refine k_putF h hi 0 ff_X7_34 rfl rfl rfl (Nat.le_of_ble_eq_true rfl) (nn_dec (by decide +kernel)) dX7_init_54 ?_
  show CV _ _ _ _ _ _ [(a, .inr (5, [.int (nI 0), .ref q1, .ref q2, .ref q3, .ref q4, .ref q5, .ref q6, .int 0, .int 0])), (q1, .inl (cy 3, 6, .inr (.inl (fun _ => 0)))), (q2, .inl (cy 3, 16, .inr (.inl (fun _ => 0)))), (q3, .inl (cy 3, 6, .inr (.inl (fun _ => 0)))), (q4, .inl (cy 3, 5, .inr (.inl (fun _ => 0)))), (q5, .inl (cy 0, 16, .inl (fun _ => nI 0))), (q6, .inl (cy 0, 401, .inl (fun _ => nI 0)))] _
  refine k_al h 0 0 dX7_init_57 rfl rfl ?_
  refine k_bp h (v := nI 48) dX7_init_58 rfl ?_
  refine k_put h 0 fq_X7_39 rfl rfl rfl (Nat.le_of_ble_eq_true rfl) (nn_dec (by decide +kernel)) dX7_init_60 ?_
  show CV _ _ _ _ _ _ [(a, .inr (5, [.int (nI 0), .ref q1, .ref q2, .ref q3, .ref q4, .ref q5, .ref q6, .int (nI 48), .int 0])), (q1, .inl (cy 3, 6, .inr (.inl (fun _ => 0)))), (q2, .inl (cy 3, 16, .inr (.inl (fun _ => 0)))), (q3, .inl (cy 3, 6, .inr (.inl (fun _ => 0)))), (q4, .inl (cy 3, 5, .inr (.inl (fun _ => 0)))), (q5, .inl (cy 0, 16, .inl (fun _ => nI 0))), (q6, .inl (cy 0, 401, .inl (fun _ => nI 0)))] _
  refine k_al h 0 0 dX7_init_63 rfl rfl ?_
  refine k_bp h (v := nI 48) dX7_init_64 rfl ?_
  refine k_put h 0 fq_X7_42 rfl rfl rfl (Nat.le_of_ble_eq_true rfl) (nn_dec (by decide +kernel)) dX7_init_66 ?_
  show CV _ _ _ _ _ _ [(a, .inr (5, [.int (nI 0), .ref q1, .ref q2, .ref q3, .ref q4, .ref q5, .ref q6, .int (nI 48), .int (nI 48)])), (q1, .inl (cy 3, 6, .inr (.inl (fun _ => 0)))), (q2, .inl (cy 3, 16, .inr (.inl (fun _ => 0)))), (q3, .inl (cy 3, 6, .inr (.inl (fun _ => 0)))), (q4, .inl (cy 3, 5, .inr (.inl (fun _ => 0)))), (q5, .inl (cy 0, 16, .inl (fun _ => nI 0))), (q6, .inl (cy 0, 401, .inl (fun _ => nI 0)))] _
  exact k_ret h hi dX7_init_69 ⟨q1, q2, q3, q4, q5, q6, rfl⟩
theorem ol_X5 : Cond.methodLink RX5 1 Lib.objectInit ∈ bigW := bw_in (tb_3 (List.mem_of_getElem? (i := 224) rfl)) rfl
theorem fq_X5_7 : FP RX5 7 3 1 .int := ⟨_, _, _, tyX5, rfl, by decide, inW_X5, Or.inl (bw_in (tb_3 (List.mem_of_getElem? (i := 227) rfl)) rfl), tyX5_ok, nmX5, rfl, tyX5_ok 1 (by decide)⟩
theorem fq_X5_13 : FP RX5 13 3 2 .int := ⟨_, _, _, tyX5, rfl, by decide, inW_X5, Or.inl (bw_in (tb_3 (List.mem_of_getElem? (i := 229) rfl)) rfl), tyX5_ok, nmX5, rfl, tyX5_ok 2 (by decide)⟩
theorem fq_X5_16 : FP RX5 16 3 3 .int := ⟨_, _, _, tyX5, rfl, by decide, inW_X5, Or.inl (bw_in (tb_3 (List.mem_of_getElem? (i := 231) rfl)) rfl), tyX5_ok, nmX5, rfl, tyX5_ok 3 (by decide)⟩
theorem ff_X5_21 : FPF RX5 21 3 4 (.array .int) := ⟨_, _, _, tyX5, rfl, by decide, inW_X5, Or.inl (bw_in (tb_3 (List.mem_of_getElem? (i := 232) rfl)) rfl), tyX5_ok, nmX5, ⟨rfl, rfl⟩, tyX5_ok 4 (by decide)⟩
theorem ff_X5_25 : FPF RX5 25 3 5 (.array .int) := ⟨_, _, _, tyX5, rfl, by decide, inW_X5, Or.inl (bw_in (tb_3 (List.mem_of_getElem? (i := 234) rfl)) rfl), tyX5_ok, nmX5, ⟨rfl, rfl⟩, tyX5_ok 5 (by decide)⟩
theorem ff_X5_28 : FPF RX5 28 3 6 (.array .int) := ⟨_, _, _, tyX5, rfl, by decide, inW_X5, Or.inl (bw_in (tb_3 (List.mem_of_getElem? (i := 235) rfl)) rfl), tyX5_ok, nmX5, ⟨rfl, rfl⟩, tyX5_ok 6 (by decide)⟩
theorem ff_X5_31 : FPF RX5 31 3 7 (.array .int) := ⟨_, _, _, tyX5, rfl, by decide, inW_X5, Or.inl (bw_in (tb_3 (List.mem_of_getElem? (i := 238) rfl)) rfl), tyX5_ok, nmX5, ⟨rfl, rfl⟩, tyX5_ok 7 (by decide)⟩
theorem ff_X5_34 : FPF RX5 34 3 8 (.array .int) := ⟨_, _, _, tyX5, rfl, by decide, inW_X5, Or.inl (bw_in (tb_4 (List.mem_of_getElem? (i := 0) rfl)) rfl), tyX5_ok, nmX5, ⟨rfl, rfl⟩, tyX5_ok 8 (by decide)⟩
theorem ff_X5_37 : FPF RX5 37 3 9 (.array .int) := ⟨_, _, _, tyX5, rfl, by decide, inW_X5, Or.inl (bw_in (tb_4 (List.mem_of_getElem? (i := 2) rfl)) rfl), tyX5_ok, nmX5, ⟨rfl, rfl⟩, tyX5_ok 9 (by decide)⟩
theorem ff_X5_40 : FPF RX5 40 3 10 (.array .int) := ⟨_, _, _, tyX5, rfl, by decide, inW_X5, Or.inl (bw_in (tb_4 (List.mem_of_getElem? (i := 5) rfl)) rfl), tyX5_ok, nmX5, ⟨rfl, rfl⟩, tyX5_ok 10 (by decide)⟩
theorem fq_X5_43 : FP RX5 43 3 0 (.object "QuipuKeepers$Told") := ⟨_, _, _, tyX5, rfl, by decide, inW_X5, Or.inl (bw_in (tb_3 (List.mem_of_getElem? (i := 225) rfl)) rfl), tyX5_ok, nmX5, rfl, tyX5_ok 0 (by decide)⟩
def wX5 (cy : Nat → ClassId) (a t : Nat) (ws : va_W) : Prop := ∃ q1 q2 q3 q4 q5 q6 q7, ws = [(a, .inr (3, [.ref t, .int (nI 0), .int (nI 0), .int (nI 0), .ref q1, .ref q2, .ref q3, .ref q4, .ref q5, .ref q6, .ref q7])), (q1, .inl (cy 0, 16, .inl (fun _ => nI 0))), (q2, .inl (cy 0, 16, .inl (fun _ => nI 0))), (q3, .inl (cy 0, 16, .inl (fun _ => nI 0))), (q4, .inl (cy 0, 16, .inl (fun _ => nI 0))), (q5, .inl (cy 0, 6, .inl (fun _ => nI 0))), (q6, .inl (cy 0, 5, .inl (fun _ => nI 0))), (q7, .inl (cy 0, 5, .inl (fun _ => nI 0)))]
set_option maxRecDepth 100000 in
set_option maxHeartbeats 4000000 in
theorem ks_X5 {cy : Nat → ClassId} {a t : Nat} : KS cy yX5_init cX5_init 2 2 7 80 [.ref a, .ref t] [(0, .ref a), (1, .ref t)] [(a, .inr (3, [.null, .int 0, .int 0, .int 0, .null, .null, .null, .null, .null, .null, .null]))] (wX5 cy a t) := by
  intro Γ hcy hn h hi hR
  refine k_al h 0 0 dX5_init_0 rfl rfl ?_
  refine k_obj h ol_X5 oi_m oi_c dX5_init_1 (by decide) ?_
  refine k_al h 0 0 dX5_init_4 rfl rfl ?_
  refine k_ic h (v := nI 0) dX5_init_5 rfl ?_
  refine k_put h 0 fq_X5_7 rfl rfl rfl (Nat.le_of_ble_eq_true rfl) (nn_dec (by decide +kernel)) dX5_init_6 ?_
  show CV _ _ _ _ _ _ [(a, .inr (3, [.null, .int (nI 0), .int 0, .int 0, .null, .null, .null, .null, .null, .null, .null]))] _
  refine k_al h 0 0 dX5_init_9 rfl rfl ?_
  refine k_ic h (v := nI 0) dX5_init_10 rfl ?_
  refine k_put h 0 fq_X5_13 rfl rfl rfl (Nat.le_of_ble_eq_true rfl) (nn_dec (by decide +kernel)) dX5_init_11 ?_
  show CV _ _ _ _ _ _ [(a, .inr (3, [.null, .int (nI 0), .int (nI 0), .int 0, .null, .null, .null, .null, .null, .null, .null]))] _
  refine k_al h 0 0 dX5_init_14 rfl rfl ?_
  refine k_ic h (v := nI 0) dX5_init_15 rfl ?_
  refine k_put h 0 fq_X5_16 rfl rfl rfl (Nat.le_of_ble_eq_true rfl) (nn_dec (by decide +kernel)) dX5_init_16 ?_
  show CV _ _ _ _ _ _ [(a, .inr (3, [.null, .int (nI 0), .int (nI 0), .int (nI 0), .null, .null, .null, .null, .null, .null, .null]))] _
  refine k_al h 0 0 dX5_init_19 rfl rfl ?_
  refine k_bp h (v := nI 16) dX5_init_20 rfl ?_
  refine k_na h hcy (at_ := .int) (ty := .int) (N := 16) (a0 := (16, .inl (fun _ => nI 0))) 0 (rk_le hR (by decide) (by decide)) ac_int rfl (fun _ => rfl) (fun _ q => by cases q) (fun _ => rfl) (by decide) (by decide) (by decide) dX5_init_22 (fun q1 => ?_)
  show CV _ _ _ _ _ _ [(a, .inr (3, [.null, .int (nI 0), .int (nI 0), .int (nI 0), .null, .null, .null, .null, .null, .null, .null])), (q1, .inl (cy 0, 16, .inl (fun _ => nI 0)))] _
  refine k_putF h hi 0 ff_X5_21 rfl rfl rfl (Nat.le_of_ble_eq_true rfl) (nn_dec (by decide +kernel)) dX5_init_24 ?_
  show CV _ _ _ _ _ _ [(a, .inr (3, [.null, .int (nI 0), .int (nI 0), .int (nI 0), .ref q1, .null, .null, .null, .null, .null, .null])), (q1, .inl (cy 0, 16, .inl (fun _ => nI 0)))] _
  refine k_al h 0 0 dX5_init_27 rfl rfl ?_
  refine k_bp h (v := nI 16) dX5_init_28 rfl ?_
  refine k_na h hcy (at_ := .int) (ty := .int) (N := 16) (a0 := (16, .inl (fun _ => nI 0))) 0 (rk_le hR (by decide) (by decide)) ac_int rfl (fun _ => rfl) (fun _ q => by cases q) (fun _ => rfl) (by decide) (by decide) (by decide) dX5_init_30 (fun q2 => ?_)
  show CV _ _ _ _ _ _ [(a, .inr (3, [.null, .int (nI 0), .int (nI 0), .int (nI 0), .ref q1, .null, .null, .null, .null, .null, .null])), (q1, .inl (cy 0, 16, .inl (fun _ => nI 0))), (q2, .inl (cy 0, 16, .inl (fun _ => nI 0)))] _
  refine k_putF h hi 0 ff_X5_25 rfl rfl rfl (Nat.le_of_ble_eq_true rfl) (nn_dec (by decide +kernel)) dX5_init_32 ?_
  show CV _ _ _ _ _ _ [(a, .inr (3, [.null, .int (nI 0), .int (nI 0), .int (nI 0), .ref q1, .ref q2, .null, .null, .null, .null, .null])), (q1, .inl (cy 0, 16, .inl (fun _ => nI 0))), (q2, .inl (cy 0, 16, .inl (fun _ => nI 0)))] _
  refine k_al h 0 0 dX5_init_35 rfl rfl ?_
  refine k_bp h (v := nI 16) dX5_init_36 rfl ?_
  refine k_na h hcy (at_ := .int) (ty := .int) (N := 16) (a0 := (16, .inl (fun _ => nI 0))) 0 (rk_le hR (by decide) (by decide)) ac_int rfl (fun _ => rfl) (fun _ q => by cases q) (fun _ => rfl) (by decide) (by decide) (by decide) dX5_init_38 (fun q3 => ?_)
  show CV _ _ _ _ _ _ [(a, .inr (3, [.null, .int (nI 0), .int (nI 0), .int (nI 0), .ref q1, .ref q2, .null, .null, .null, .null, .null])), (q1, .inl (cy 0, 16, .inl (fun _ => nI 0))), (q2, .inl (cy 0, 16, .inl (fun _ => nI 0))), (q3, .inl (cy 0, 16, .inl (fun _ => nI 0)))] _
  refine k_putF h hi 0 ff_X5_28 rfl rfl rfl (Nat.le_of_ble_eq_true rfl) (nn_dec (by decide +kernel)) dX5_init_40 ?_
  show CV _ _ _ _ _ _ [(a, .inr (3, [.null, .int (nI 0), .int (nI 0), .int (nI 0), .ref q1, .ref q2, .ref q3, .null, .null, .null, .null])), (q1, .inl (cy 0, 16, .inl (fun _ => nI 0))), (q2, .inl (cy 0, 16, .inl (fun _ => nI 0))), (q3, .inl (cy 0, 16, .inl (fun _ => nI 0)))] _
  refine k_al h 0 0 dX5_init_43 rfl rfl ?_
  refine k_bp h (v := nI 16) dX5_init_44 rfl ?_
  refine k_na h hcy (at_ := .int) (ty := .int) (N := 16) (a0 := (16, .inl (fun _ => nI 0))) 0 (rk_le hR (by decide) (by decide)) ac_int rfl (fun _ => rfl) (fun _ q => by cases q) (fun _ => rfl) (by decide) (by decide) (by decide) dX5_init_46 (fun q4 => ?_)
  show CV _ _ _ _ _ _ [(a, .inr (3, [.null, .int (nI 0), .int (nI 0), .int (nI 0), .ref q1, .ref q2, .ref q3, .null, .null, .null, .null])), (q1, .inl (cy 0, 16, .inl (fun _ => nI 0))), (q2, .inl (cy 0, 16, .inl (fun _ => nI 0))), (q3, .inl (cy 0, 16, .inl (fun _ => nI 0))), (q4, .inl (cy 0, 16, .inl (fun _ => nI 0)))] _
  refine k_putF h hi 0 ff_X5_31 rfl rfl rfl (Nat.le_of_ble_eq_true rfl) (nn_dec (by decide +kernel)) dX5_init_48 ?_
  show CV _ _ _ _ _ _ [(a, .inr (3, [.null, .int (nI 0), .int (nI 0), .int (nI 0), .ref q1, .ref q2, .ref q3, .ref q4, .null, .null, .null])), (q1, .inl (cy 0, 16, .inl (fun _ => nI 0))), (q2, .inl (cy 0, 16, .inl (fun _ => nI 0))), (q3, .inl (cy 0, 16, .inl (fun _ => nI 0))), (q4, .inl (cy 0, 16, .inl (fun _ => nI 0)))] _
  refine k_al h 0 0 dX5_init_51 rfl rfl ?_
  refine k_bp h (v := nI 6) dX5_init_52 rfl ?_
  refine k_na h hcy (at_ := .int) (ty := .int) (N := 6) (a0 := (6, .inl (fun _ => nI 0))) 0 (rk_le hR (by decide) (by decide)) ac_int rfl (fun _ => rfl) (fun _ q => by cases q) (fun _ => rfl) (by decide) (by decide) (by decide) dX5_init_54 (fun q5 => ?_)
  show CV _ _ _ _ _ _ [(a, .inr (3, [.null, .int (nI 0), .int (nI 0), .int (nI 0), .ref q1, .ref q2, .ref q3, .ref q4, .null, .null, .null])), (q1, .inl (cy 0, 16, .inl (fun _ => nI 0))), (q2, .inl (cy 0, 16, .inl (fun _ => nI 0))), (q3, .inl (cy 0, 16, .inl (fun _ => nI 0))), (q4, .inl (cy 0, 16, .inl (fun _ => nI 0))), (q5, .inl (cy 0, 6, .inl (fun _ => nI 0)))] _
  refine k_putF h hi 0 ff_X5_34 rfl rfl rfl (Nat.le_of_ble_eq_true rfl) (nn_dec (by decide +kernel)) dX5_init_56 ?_
  show CV _ _ _ _ _ _ [(a, .inr (3, [.null, .int (nI 0), .int (nI 0), .int (nI 0), .ref q1, .ref q2, .ref q3, .ref q4, .ref q5, .null, .null])), (q1, .inl (cy 0, 16, .inl (fun _ => nI 0))), (q2, .inl (cy 0, 16, .inl (fun _ => nI 0))), (q3, .inl (cy 0, 16, .inl (fun _ => nI 0))), (q4, .inl (cy 0, 16, .inl (fun _ => nI 0))), (q5, .inl (cy 0, 6, .inl (fun _ => nI 0)))] _
  refine k_al h 0 0 dX5_init_59 rfl rfl ?_
  refine k_ic h (v := nI 5) dX5_init_60 rfl ?_
  refine k_na h hcy (at_ := .int) (ty := .int) (N := 5) (a0 := (5, .inl (fun _ => nI 0))) 0 (rk_le hR (by decide) (by decide)) ac_int rfl (fun _ => rfl) (fun _ q => by cases q) (fun _ => rfl) (by decide) (by decide) (by decide) dX5_init_61 (fun q6 => ?_)
  show CV _ _ _ _ _ _ [(a, .inr (3, [.null, .int (nI 0), .int (nI 0), .int (nI 0), .ref q1, .ref q2, .ref q3, .ref q4, .ref q5, .null, .null])), (q1, .inl (cy 0, 16, .inl (fun _ => nI 0))), (q2, .inl (cy 0, 16, .inl (fun _ => nI 0))), (q3, .inl (cy 0, 16, .inl (fun _ => nI 0))), (q4, .inl (cy 0, 16, .inl (fun _ => nI 0))), (q5, .inl (cy 0, 6, .inl (fun _ => nI 0))), (q6, .inl (cy 0, 5, .inl (fun _ => nI 0)))] _
  refine k_putF h hi 0 ff_X5_37 rfl rfl rfl (Nat.le_of_ble_eq_true rfl) (nn_dec (by decide +kernel)) dX5_init_63 ?_
  show CV _ _ _ _ _ _ [(a, .inr (3, [.null, .int (nI 0), .int (nI 0), .int (nI 0), .ref q1, .ref q2, .ref q3, .ref q4, .ref q5, .ref q6, .null])), (q1, .inl (cy 0, 16, .inl (fun _ => nI 0))), (q2, .inl (cy 0, 16, .inl (fun _ => nI 0))), (q3, .inl (cy 0, 16, .inl (fun _ => nI 0))), (q4, .inl (cy 0, 16, .inl (fun _ => nI 0))), (q5, .inl (cy 0, 6, .inl (fun _ => nI 0))), (q6, .inl (cy 0, 5, .inl (fun _ => nI 0)))] _
  refine k_al h 0 0 dX5_init_66 rfl rfl ?_
  refine k_ic h (v := nI 5) dX5_init_67 rfl ?_
  refine k_na h hcy (at_ := .int) (ty := .int) (N := 5) (a0 := (5, .inl (fun _ => nI 0))) 0 (rk_le hR (by decide) (by decide)) ac_int rfl (fun _ => rfl) (fun _ q => by cases q) (fun _ => rfl) (by decide) (by decide) (by decide) dX5_init_68 (fun q7 => ?_)
  show CV _ _ _ _ _ _ [(a, .inr (3, [.null, .int (nI 0), .int (nI 0), .int (nI 0), .ref q1, .ref q2, .ref q3, .ref q4, .ref q5, .ref q6, .null])), (q1, .inl (cy 0, 16, .inl (fun _ => nI 0))), (q2, .inl (cy 0, 16, .inl (fun _ => nI 0))), (q3, .inl (cy 0, 16, .inl (fun _ => nI 0))), (q4, .inl (cy 0, 16, .inl (fun _ => nI 0))), (q5, .inl (cy 0, 6, .inl (fun _ => nI 0))), (q6, .inl (cy 0, 5, .inl (fun _ => nI 0))), (q7, .inl (cy 0, 5, .inl (fun _ => nI 0)))] _
  refine k_putF h hi 0 ff_X5_40 rfl rfl rfl (Nat.le_of_ble_eq_true rfl) (nn_dec (by decide +kernel)) dX5_init_70 ?_
  show CV _ _ _ _ _ _ [(a, .inr (3, [.null, .int (nI 0), .int (nI 0), .int (nI 0), .ref q1, .ref q2, .ref q3, .ref q4, .ref q5, .ref q6, .ref q7])), (q1, .inl (cy 0, 16, .inl (fun _ => nI 0))), (q2, .inl (cy 0, 16, .inl (fun _ => nI 0))), (q3, .inl (cy 0, 16, .inl (fun _ => nI 0))), (q4, .inl (cy 0, 16, .inl (fun _ => nI 0))), (q5, .inl (cy 0, 6, .inl (fun _ => nI 0))), (q6, .inl (cy 0, 5, .inl (fun _ => nI 0))), (q7, .inl (cy 0, 5, .inl (fun _ => nI 0)))] _
  refine k_al h 0 0 dX5_init_73 rfl rfl ?_
  refine k_al h 1 1 dX5_init_74 rfl rfl ?_
  refine k_put h 0 fq_X5_43 rfl rfl rfl (Nat.le_of_ble_eq_true rfl) (nn_dec (by decide +kernel)) dX5_init_75 ?_
  show CV _ _ _ _ _ _ [(a, .inr (3, [.ref t, .int (nI 0), .int (nI 0), .int (nI 0), .ref q1, .ref q2, .ref q3, .ref q4, .ref q5, .ref q6, .ref q7])), (q1, .inl (cy 0, 16, .inl (fun _ => nI 0))), (q2, .inl (cy 0, 16, .inl (fun _ => nI 0))), (q3, .inl (cy 0, 16, .inl (fun _ => nI 0))), (q4, .inl (cy 0, 16, .inl (fun _ => nI 0))), (q5, .inl (cy 0, 6, .inl (fun _ => nI 0))), (q6, .inl (cy 0, 5, .inl (fun _ => nI 0))), (q7, .inl (cy 0, 5, .inl (fun _ => nI 0)))] _
  exact k_ret h hi dX5_init_78 ⟨q1, q2, q3, q4, q5, q6, q7, rfl⟩
