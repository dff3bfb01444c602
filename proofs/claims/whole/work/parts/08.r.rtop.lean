/-! The reference's parser: readTop, one cord more -/
theorem bk.top {T I : MI} (h : bk T I) {j : Nat} {v : Int32} (hj : 9 * nT T ≤ j) : bk T (up2 I 109 j v) := by
  obtain ⟨⟨h1, h2⟩, h3, h4, h5, h6, h7, h8⟩ := h
  refine ⟨⟨fun i hi => by rw [up2_o (by decide)]; exact h1 i hi, h2⟩, fun i hi k hk => by rw [up2_o (by omega)]; exact h3 i hi k hk, fun k hk => by rw [up2_o (by decide)]; exact h4 k hk, fun k hk => by rw [up2_o (by decide), up2_o (by decide), up2_o (by decide)]; exact h5 k hk, fun a ha => ?_, fun k hk => by rw [up2_o (by decide)]; exact h7 k hk, fun q hq i hi => by rw [up2_o (by decide)]; exact h8 q hq i hi⟩
  obtain ⟨y, y1, y2, y3, y4⟩ := h6 a ha
  refine ⟨y, y1, y2, ?_, fun n hn => ?_⟩
  · rw [up2_n (by omega)]; exact y3
  · rw [up2_n (by omega)]; exact y4 n hn
theorem rL.row {K wd : Nat → Nat} {V : Nat → Int32} {M : Nat} {T I : MI} {p z a j : Nat} {x : Option (Nat × Nat)} {v : Int32} (h : rL K wd V M T I p z x) (hV : vR K V M) (ha : a = 90 ∨ (a = 109 ∧ 9 * nT T ≤ j)) : rL K wd V M T (up2 I a j v) p z x := by
  refine h.set hV (fun b b1 b2 => up2_o (by omega)) (by rw [up2_o (by omega)]) ?_ h.2.2
  rcases ha with rfl | ⟨rfl, hj⟩
  · obtain ⟨⟨h1, h2⟩, h3, h4, h5, h6, h7, h8⟩ := h.2.1
    refine ⟨⟨fun i hi => by rw [up2_o (by decide)]; exact h1 i hi, h2⟩, fun i hi k hk => by rw [up2_o (by omega)]; exact h3 i hi k hk, fun k hk => by rw [up2_o (by decide)]; exact h4 k hk, fun k hk => by rw [up2_o (by decide), up2_o (by decide), up2_o (by decide)]; exact h5 k hk, fun a ha => by rw [up2_o (by decide)]; exact h6 a ha, fun k hk => by rw [up2_o (by decide)]; exact h7 k hk, fun q hq i hi => by rw [up2_o (by decide)]; exact h8 q hq i hi⟩
  · exact h.2.1.top hj
/-- other rows than that one are as they were -/
def FRt (z a : Nat) (I I' : MI) : Prop := ∀ b j, ¬ (b = 80 ∧ 14 ≤ j ∧ j ≤ 18) → ¬ (b = 104 ∧ j = 12) → ¬ (112 ≤ b ∧ b ≤ 114 ∧ z ≤ j) → b ≠ a → I' b j = I b j
theorem FRm.t {z a : Nat} {I I' : MI} (h : FRm z I I') : FRt z a I I' := fun b j b1 b2 b3 _ => h b j b1 b2 b3
theorem FRt.tr {z a : Nat} {I I1 I2 : MI} (h : FRt z a I I1) (h2 : FRt z a I1 I2) : FRt z a I I2 := fun b j b1 b2 b3 b4 => (h2 b j b1 b2 b3 b4).trans (h b j b1 b2 b3 b4)
theorem FRt.up {z a k : Nat} {I : MI} {v : Int32} : FRt z a I (up2 I a k v) := fun b j _ _ _ b4 => congrFun (up2_o b4) j
theorem dupB_x {r r' : Nat → Int32} {b many : Nat} {v : Int32} (h : ∀ n, n < many → r (b + n) = r' (b + n)) : dupB r b many v = dupB r' b many v := anyB_ext _ _ (fun j _ hj => by rw [h j (by omega)])
theorem or_ab {y a : Option (Nat × Nat)} (h : ¬ y = none) : y.or a = y := by
  cases y with
  | none => exact absurd rfl h
  | some w => rfl
theorem or_ne {y : Option (Nat × Nat)} {w : Nat × Nat} : ¬ y.or (some w) = none := by cases y <;> exact fun q => by cases q
/-- one step of what is told -/
theorem toE_st {own : Nat → Int32} {b f s many : Nat} {row row' : Nat → Int32} {y fin : Option (Nat × Nat)} (hf : y.or (toE own b (f + 1) s row many) = fin) (hr : ∀ n, n < many → row' (b + n) = row (b + n)) : (many = 8 → (y.or (if own s = -1 then some (3, s) else if many = 8 then some (4, s) else if dupB row' b many (own s) = true then some (5, s) else none)).or (toE own b f (s + 1) row many) = fin) ∧ (¬ many = 8 → (y.or (if own s = -1 then some (3, s) else if many = 8 then some (4, s) else if dupB row' b many (own s) = true then some (5, s) else none)).or (toE own b f (s + 1) (upd row (b + many) (own s)) (many + 1)) = fin) := by
  rw [dupB_x hr]
  rw [toE] at hf
  refine ⟨fun m8 => ?_, fun m8 => ?_⟩
  · rw [if_pos m8] at hf ⊢
    by_cases o : own s = -1
    · rw [if_pos o] at hf ⊢
      rw [or_ab or_ne]; exact hf
    · rw [if_neg o] at hf ⊢
      rw [or_ab or_ne]; exact hf
  · rw [if_neg m8] at hf ⊢
    by_cases o : own s = -1
    · rw [if_pos o] at hf ⊢
      rw [or_ab or_ne]; exact hf
    · rw [if_neg o] at hf ⊢
      by_cases q : dupB row b many (own s) = true
      · rw [if_pos q] at hf ⊢
        rw [or_ab or_ne]; exact hf
      · rw [if_neg q] at hf ⊢
        rw [Option.or_none]; exact hf
set_option maxRecDepth 100000 in
set_option maxHeartbeats 4000000 in
theorem sp_ovA {K wd : Nat → Nat} {V : Nat → Int32} {M : Nat} {T : MI} {d s z many f : Nat} {row : Nat → Int32} (hV : vR K V M) (hn : nT T < 6) (hm : many ≤ 8) {y fin : Option (Nat × Nat)} {FF : (Nat → Int32) × Nat} {I : MI} {J : MJ} {P : MP} (hP : P 80 9 = some 104) (hR : rL K wd V M T I s z y) (hf : y.or (toE (lkT wd T 1) (9 * nT T + 1) (f + 1) s row many) = fin) (hF : toF (lkT wd T 1) (9 * nT T + 1) (f + 1) s row many = FF) (hr : ∀ n, n < many → I 109 (9 * nT T + 1 + n) = row (9 * nT T + 1 + n)) {Q : Int32 → MI → MJ → MP → Prop} (hQ : K s = 28 → ∀ I' row' many' y', FRt z 109 I I' → many' ≤ 8 → rL K wd V M T I' (s + 1) z y' → y'.or (toE (lkT wd T 1) (9 * nT T + 1) f (s + 1) row' many') = fin → toF (lkT wd T 1) (9 * nT T + 1) f (s + 1) row' many' = FF → (∀ n, n < many' → I' 109 (9 * nT T + 1 + n) = row' (9 * nT T + 1 + n)) → Q (nI many') I' J P) (hQ0 : ¬ K s = 28 → Q (nI many) (up2 I 80 16 (nI s)) J P) : Sp yX12_readOver cX12_readOver 8 (some .int) (d + 4) [.ref 80, .int (nI (9 * nT T)), .int (nI many)] I J P (Qi Q) := by
  obtain ⟨e8, e7⟩ := toE_st hf hr
  refine sp_readOverA hn hm hP hR (fun k m8 I' f' r' => ?_) (fun k m7 I' f' r' => ?_) hQ0
  · refine q_i (by rw [m8]) (hQ k I' row many _ f'.t hm r' (e8 m8) ?_ (fun n hn' => (f' 109 _ (by omega) (by omega) (by omega)).trans (hr n hn')))
    rw [toF, if_pos m8] at hF
    exact hF
  · refine hQ k _ (upd row (9 * nT T + 1 + many) (lkT wd T 1 s)) (many + 1) _ (f'.t.tr FRt.up) (by omega) (r'.row hV (Or.inr ⟨rfl, by omega⟩)) (e7 (by omega)) ?_ (fun n hn' => ?_)
    · rw [toF, if_neg (by omega)] at hF
      exact hF
    · by_cases e : n = many
      · subst e
        rw [show 9 * nT T + n + 1 = 9 * nT T + 1 + n by omega, up2_s, upd_s]
      · rw [up2_n (by omega), upd_n (by omega)]
        exact (f' 109 _ (by omega) (by omega) (by omega)).trans (hr n (by omega))
set_option maxRecDepth 100000 in
set_option maxHeartbeats 4000000 in
theorem sp_ovB {K wd : Nat → Nat} {V : Nat → Int32} {M : Nat} {T : MI} {d s z many : Nat} (hV : vR K V M) (hm : many ≤ 8) {y : Option (Nat × Nat)} (hy : ¬ y = none) {I : MI} {J : MJ} {P : MP} (hP : P 80 9 = some 104) (hR : rL K wd V M T I s z y) {Q : Int32 → MI → MJ → MP → Prop} (hQ : K s = 28 → ∀ I' many', FRt z 90 I I' → many' ≤ 8 → rL K wd V M T I' (s + 1) z y → Q (nI many') I' J P) (hQ0 : ¬ K s = 28 → Q (nI many) (up2 I 80 16 (nI s)) J P) : Sp yX12_readOver cX12_readOver 8 (some .int) (d + 4) [.ref 80, .int (-1), .int (nI many)] I J P (Qi Q) := by
  refine sp_readOverB hm hP hR (fun k m8 I' f' r' => ?_) (fun k m7 I' f' r' => ?_) hQ0
  · rw [or_ab hy] at r'
    exact q_i rfl (hQ k I' 8 f'.t (by omega) r')
  · rw [or_ab hy] at r'
    exact hQ k _ (many + 1) (f'.t.tr FRt.up) (by omega) (r'.row hV (Or.inl rfl))
