/-! The reference's parser: readOver -/
theorem tlF.rf {I : MI} : tlF I I := fun _ _ _ => rfl
theorem tlF.tr {I I1 I2 : MI} (h : tlF I I1) (h2 : tlF I1 I2) : tlF I I2 := fun a j q => (h2 a j q).trans (h a j q)
theorem tl5 {x : Option (Nat × Nat)} {p : Nat} (h : ∀ y, x = some y → y.2 < p) (acc : Bool) : tl (x.or (if acc = true then some (5, p) else none)) 5 p = x.or (some (5, p)) := by
  cases x with
  | none =>
    cases acc with
    | false => rfl
    | true =>
      show tl (some (5, p)) 5 p = some (5, p)
      rw [tl, if_neg (fun q => absurd (show 5 < 5 from q.2) (by decide))]
  | some w =>
    have := h w rfl
    show tl (some w) 5 p = some w
    rw [tl, if_neg (fun q => by omega)]
theorem tl4 {x : Option (Nat × Nat)} {p : Nat} (h : ∀ y, x = some y → y.2 < p) (acc : Bool) : tl (x.or (if acc = true then some (5, p) else none)) 4 p = x.or (some (4, p)) := by
  cases x with
  | none =>
    cases acc with
    | false => rfl
    | true =>
      show tl (some (5, p)) 4 p = some (4, p)
      rw [tl, if_pos ⟨rfl, show 4 < 5 by decide⟩]
  | some w =>
    have := h w rfl
    show tl (some w) 4 p = some w
    rw [tl, if_neg (fun q => by omega)]
theorem tl43 {x : Option (Nat × Nat)} {p : Nat} (h : ∀ y, x = some y → y.2 < p) : tl (x.or (some (3, p))) 4 p = x.or (some (3, p)) := by
  cases x with
  | none =>
    show tl (some (3, p)) 4 p = some (3, p)
    rw [tl, if_neg (fun q => absurd (show 4 < 3 from q.2) (by decide))]
  | some w =>
    have := h w rfl
    show tl (some w) 4 p = some w
    rw [tl, if_neg (fun q => by omega)]
set_option maxRecDepth 100000 in
set_option maxHeartbeats 4000000 in
theorem lp_ovR {Γ : Cx} {d p a b6 len many : Nat} {vb own : Int32} (hs : shp a = .inr (0, len)) (ha : a ≠ 80) (hb : b6 + 9 ≤ len) (hl : len < 401) (hm : many ≤ 8) (hp : p < 401) {x : Option (Nat × Nat)} (hx : ∀ y, x = some y → y.2 < p) (hown : ¬ own = -1) {tot : Bool} {I0 : MI} {J : MJ} {P : MP} {Q : Int32 → MI → MJ → MP → Prop} (h : Vc RX12 cX12_readOver 8 (some .int) (d + 1) Γ) (κ : ∀ I, tlF I0 I → erS I (x.or (if tot = true then some (5, p) else none)) → VG Γ 0 0 93 [some (.ref 80), some (.int vb), some (.int (nI many)), some (.int (nI p)), some (.int own), some (.ref a), some (.int (nI b6)), some (.int (nI (many + 1)))] [] I J P (Fnl Γ (Qi Q))) : ∀ (f i : Nat) (acc : Bool) (I : MI), i + f = many + 1 → 1 ≤ i → tlF I0 I → erS I (x.or (if acc = true then some (5, p) else none)) → (acc || anyB (fun n => decide (I0 a (b6 + 1 + n) = own)) f (i - 1)) = tot → VG Γ 0 0 56 [some (.ref 80), some (.int vb), some (.int (nI many)), some (.int (nI p)), some (.int own), some (.ref a), some (.int (nI b6)), some (.int (nI i))] [] I J P (Fnl Γ (Qi Q)) := by
  intro f
  induction f with
  | zero =>
    intro i acc I hi h1 hf he ht
    obtain rfl : i = many + 1 := by omega
    rw [anyB, Bool.or_false] at ht
    subst ht
    refine g_iload_7 h dX12_readOver_56 ?_
    refine g_iload_2 h dX12_readOver_58 ?_
    refine g_icmp_gt h 93 dX12_readOver_59 rfl (fun _ => ?_) (fun c => absurd (nI_lt (show many < many + 1 by omega) (by omega)) c)
    exact κ I hf he
  | succ f ih =>
    intro i acc I hi h1 hf he ht
    rw [anyB] at ht
    have eR : I a (b6 + i) = I0 a (b6 + 1 + (i - 1)) := by rw [show b6 + 1 + (i - 1) = b6 + i by omega]; exact hf a (b6 + i) (fun q => ha q.1)
    refine g_iload_7 h dX12_readOver_56 ?_
    refine g_iload_2 h dX12_readOver_58 ?_
    refine g_icmp_gt h 93 dX12_readOver_59 rfl (fun c => absurd (ltN c (by omega) (by omega)) (by omega)) (fun _ => ?_)
    refine g_iload_4 h dX12_readOver_62 ?_
    refine g_iconst h dX12_readOver_64 (v := (-1)) rfl ?_
    refine g_icmp_eq h 87 dX12_readOver_65 rfl (fun c => absurd (by first | exact c | exact Classical.not_not.mp c) hown) (fun _ => ?_)
    refine g_aload_5 h dX12_readOver_68 ?_
    refine g_iload_6 h dX12_readOver_70 ?_
    refine g_iload_7 h dX12_readOver_72 ?_
    refine g_iadd h dX12_readOver_74 ?_
    refine g_iald h (b6 + i) dX12_readOver_75 hs (nI_add b6 i) (by omega) ?_
    rw [eR]
    refine g_iload_4 h dX12_readOver_76 ?_
    refine g_icmp_ne h 87 dX12_readOver_78 rfl (fun c78 => ?_) (fun c78 => ?_)
    · refine g_iinc_7 h dX12_readOver_87 (inc1 _) (by decide) rfl ?_
      refine g_goto h 56 dX12_readOver_90 rfl ?_
      have q : ¬ I0 a (b6 + 1 + (i - 1)) = own := by first | exact c78 | exact fun w => c78 w
      refine ih (i + 1) acc I (by omega) (by omega) hf he ?_
      rw [← ht, decide_eq_false q, if_neg Bool.false_ne_true, show i + 1 - 1 = i - 1 + 1 by omega]
    · refine g_aload_0 h dX12_readOver_81 ?_
      refine g_iconst h dX12_readOver_82 (v := nI 5) rfl ?_
      refine g_iload_3 h dX12_readOver_83 ?_
      refine g_cVv2 h rok0 mi_X12_tell dX12_readOver_84 ml_X12_151 rfl rfl rfl (Nat.le_of_ble_eq_true rfl) (Nat.le_of_ble_eq_true rfl) (sp_tell (by decide) hp he (fun I2 f2 e2 => ?_))
      · refine g_iinc_7 h dX12_readOver_87 (inc1 _) (by decide) rfl ?_
        refine g_goto h 56 dX12_readOver_90 rfl ?_
        have q : I0 a (b6 + 1 + (i - 1)) = own := by first | exact c78 | exact Classical.not_not.mp c78
        rw [tl5 hx acc] at e2
        refine ih (i + 1) true I2 (by omega) (by omega) (hf.tr f2) e2 ?_
        rw [← ht, decide_eq_true q]
        simp
set_option maxRecDepth 100000 in
set_option maxHeartbeats 4000000 in
theorem lp_ovN {Γ : Cx} {d p a b6 many : Nat} {vb own : Int32} (hm : many ≤ 8) (hown : own = -1) {I : MI} {J : MJ} {P : MP} {Q : Int32 → MI → MJ → MP → Prop} (h : Vc RX12 cX12_readOver 8 (some .int) (d + 1) Γ) (κ : VG Γ 0 0 93 [some (.ref 80), some (.int vb), some (.int (nI many)), some (.int (nI p)), some (.int own), some (.ref a), some (.int (nI b6)), some (.int (nI (many + 1)))] [] I J P (Fnl Γ (Qi Q))) : ∀ (f i : Nat), i + f = many + 1 → 1 ≤ i → VG Γ 0 0 56 [some (.ref 80), some (.int vb), some (.int (nI many)), some (.int (nI p)), some (.int own), some (.ref a), some (.int (nI b6)), some (.int (nI i))] [] I J P (Fnl Γ (Qi Q)) := by
  intro f
  induction f with
  | zero =>
    intro i hi h1
    obtain rfl : i = many + 1 := by omega
    refine g_iload_7 h dX12_readOver_56 ?_
    refine g_iload_2 h dX12_readOver_58 ?_
    refine g_icmp_gt h 93 dX12_readOver_59 rfl (fun _ => ?_) (fun c => absurd (nI_lt (show many < many + 1 by omega) (by omega)) c)
    exact κ
  | succ f ih =>
    intro i hi h1
    refine g_iload_7 h dX12_readOver_56 ?_
    refine g_iload_2 h dX12_readOver_58 ?_
    refine g_icmp_gt h 93 dX12_readOver_59 rfl (fun c => absurd (ltN c (by omega) (by omega)) (by omega)) (fun _ => ?_)
    refine g_iload_4 h dX12_readOver_62 ?_
    refine g_iconst h dX12_readOver_64 (v := (-1)) rfl ?_
    refine g_icmp_eq h 87 dX12_readOver_65 rfl (fun _ => ?_) (fun c => absurd hown (by first | exact c | exact fun w => c w))
    refine g_iinc_7 h dX12_readOver_87 (inc1 _) (by decide) rfl ?_
    refine g_goto h 56 dX12_readOver_90 rfl ?_
    exact ih (i + 1) (by omega) (by omega)
set_option maxRecDepth 100000 in
set_option maxHeartbeats 4000000 in
theorem ex_over {Γ : Cx} {K wd : Nat → Nat} {V : Nat → Int32} {M : Nat} {T : MI} {d p z a b6 len many : Nat} {vb own : Int32} (hs : shp a = .inr (0, len)) (hb : b6 + 9 ≤ len) (hl : len < 401) (hm : many ≤ 8) {x : Option (Nat × Nat)} (hx : ∀ y, x = some y → y.2 < p) {tot : Bool} {y0 : Option (Nat × Nat)} {I : MI} {J : MJ} {P : MP} (hR : rL K wd V M T I (p + 1) z y0) (hy : y0 = x.or (if own = -1 then some (3, p) else if tot = true then some (5, p) else none)) {Q : Int32 → MI → MJ → MP → Prop} (hQ8 : many = 8 → ∀ I', FRm z I I' → rL K wd V M T I' (p + 1) z (x.or (if own = -1 then some (3, p) else if many = 8 then some (4, p) else if tot = true then some (5, p) else none)) → Q (nI 8) I' J P) (hQ7 : many < 8 → rL K wd V M T I (p + 1) z (x.or (if own = -1 then some (3, p) else if many = 8 then some (4, p) else if tot = true then some (5, p) else none)) → Q (nI (many + 1)) (up2 I a (b6 + many + 1) own) J P) (h : Vc RX12 cX12_readOver 8 (some .int) (d + 1) Γ) : VG Γ 0 0 93 [some (.ref 80), some (.int vb), some (.int (nI many)), some (.int (nI p)), some (.int own), some (.ref a), some (.int (nI b6)), some (.int (nI (many + 1)))] [] I J P (Fnl Γ (Qi Q)) := by
  have hM := hR.1.M4
  have y4 : tl y0 4 p = x.or (if own = -1 then some (3, p) else some (4, p)) := by
    rw [hy]
    by_cases q : own = -1
    · rw [if_pos q, if_pos q]; exact tl43 hx
    · rw [if_neg q, if_neg q]; exact tl4 hx tot
  refine g_iload_2 h dX12_readOver_93 ?_
  refine g_bipush h dX12_readOver_94 (v := nI 8) rfl ?_
  refine g_icmp_ne h 107 dX12_readOver_96 rfl (fun c96 => ?_) (fun c96 => ?_)
  · refine g_aload_5 h dX12_readOver_107 ?_
    refine g_iload_6 h dX12_readOver_109 ?_
    refine g_iload_2 h dX12_readOver_111 ?_
    refine g_iadd h dX12_readOver_112 ?_
    refine g_iconst h dX12_readOver_113 (v := nI 1) rfl ?_
    refine g_iadd h dX12_readOver_114 ?_
    refine g_iload_4 h dX12_readOver_115 ?_
    refine g_iast h (b6 + many + 1) dX12_readOver_117 hs (by rw [show nI b6 + nI many = nI (b6 + many) from nI_add b6 many]; exact nI_1 _) (by have : ¬ many = 8 := fun q => c96 (by rw [q]); omega) ?_
    refine g_iload_2 h dX12_readOver_118 ?_
    refine g_iconst h dX12_readOver_119 (v := nI 1) rfl ?_
    refine g_iadd h dX12_readOver_120 ?_
    refine g_iret h dX12_readOver_121 ?_
    have m8 : ¬ many = 8 := fun q => c96 (by rw [q])
    refine q_i (nI_1 many) (hQ7 (by omega) ?_)
    rw [if_neg m8, ← hy]
    exact hR
  · refine g_aload_0 h dX12_readOver_99 ?_
    refine g_iconst h dX12_readOver_100 (v := nI 4) rfl ?_
    refine g_iload_3 h dX12_readOver_101 ?_
    refine g_cVv2 h rok0 mi_X12_tell dX12_readOver_102 ml_X12_151 rfl rfl rfl (Nat.le_of_ble_eq_true rfl) (Nat.le_of_ble_eq_true rfl) (sp_tell (by decide) (by omega) hR.1.2.2.2.2.1 (fun I2 f2 e2 => ?_))
    · refine g_iload_2 h dX12_readOver_105 ?_
      refine g_iret h dX12_readOver_106 ?_
      have m8 : many = 8 := eqN (by first | exact c96 | exact Classical.not_not.mp c96) (by omega) (by decide)
      rw [y4] at e2
      obtain ⟨s1, s2⟩ := hR.1.tell f2 e2 (or_lt hx (q := p + 1) (fun w hw => by
        by_cases q : own = -1
        · rw [if_pos q] at hw
          rw [← Option.some.inj hw]; exact Nat.lt_succ_self p
        · rw [if_neg q] at hw
          rw [← Option.some.inj hw]; exact Nat.lt_succ_self p) (by omega))
      refine q_i (by rw [m8]) (hQ8 m8 I2 s2 ?_)
      rw [if_pos m8]
      exact hR.fr s1 s2
