/-! The law's list: its loops -/
theorem kS_nm : ∀ j, j < 12 → (kS (36 + j)).length ≤ 16 := by decide +kernel
def dyK (k : Nat) : Nat := [0, 1, 2, 1, 0].getD k 0
def abK (k : Nat) : Nat := [5, 39, 39, 41, 5].getD k 0
theorem dy_ok : ∀ k, k < 5 → dyK k < 12 := by decide
theorem ab_ok : ∀ k, k < 5 → abK k < 48 ∧ (kS (abK k)).length ≤ 16 := by decide +kernel
theorem nI_s1 (k : Nat) : nI k + Int32.ofInt 1 = nI (k + 1) := nI_add k 1
section LLP
variable {d kc kn : Nat} {Γ : Cz} {base : va_W} {Φ : State → Prop} {ad : Nat → Nat} {tx : TXo} {cy : Nat → ClassId} {b N0 k : Nat} {l0 : List Nat}
set_option maxHeartbeats 1000000 in
theorem ll_1b (hv : VM ad tx cy Γ) (h : Vk RL cL_list 6 (d + 11) Γ) (hR : Rk Γ (kc + 50) (kn + 71924)) (hk : k < 3) (hO : OwnT Γ base b l0) (hl0 : l0.length ≤ N0) (hN0' : N0 + 80 ≤ 2100) (K : ∀ (w : Nat) (hw : w < 4) (b' y : Nat) (g : Nat → Int32), LT (l0 ++ (kS 1 ++ (kS (36 + k) ++ (kS 2 ++ (dgl 3 w ++ kS 4))))) g → (l0 ++ (kS 1 ++ (kS (36 + k) ++ (kS 2 ++ (dgl 3 w ++ kS 4))))).length ≤ N0 + 80 → CW Γ (kc + 50) (kn + 71924) 5 [some (.ref (ad 500)), some (.ref (ad 401)), some (.ref b'), some (.int (nI (k + 1))), none, none] [] (wT cy b' y (l0 ++ (kS 1 ++ (kS (36 + k) ++ (kS 2 ++ (dgl 3 w ++ kS 4))))) g) Φ) : CW Γ kc kn 5 [some (.ref (ad 500)), some (.ref (ad 401)), some (.ref b), some (.int (nI k)), none, none] [] base Φ := by
  have hN0 : N0 ≤ 2100 := by omega
  refine kw_ilod h 3 dL_list_5 rfl rfl ?_
  refine kw_ic h dL_list_6 (v := nI 3) rfl ?_
  refine kw_icmp_ge h 63 dL_list_7 rfl (fun c => absurd ((nI_leI (by decide) (by omega)).mp c) (by omega)) (fun _ => ?_)
  refine kl_new hv h (rk_le hR (by omega) (by omega)) dL_list_10 dL_list_13 dL_list_14 (Nat.le_of_ble_eq_true rfl) (fun a v => ?_)
  refine kw_alod h 2 dL_list_17 rfl rfl ?_
  refine kl_aO hv h (rk_le hR (by omega) (by omega)) hO hl0 hN0 dL_list_18 (Nat.le_of_ble_eq_true rfl) (fun v m g hS hN => ?_)
  refine kw_ldcL hv.2.1 h (i := 1) (by decide) dL_list_21 ?_
  refine kl_aR hv h (rk_le hR (by omega) (by omega)) 1 (by decide) rfl (by decide) dL_list_23 hS hN (by omega) (Nat.le_of_ble_eq_true rfl) (fun v m g hS hN => ?_)
  refine kw_alod h 1 dL_list_26 rfl rfl ?_
  refine kw_ilod h 3 dL_list_27 rfl rfl ?_
  refine kw_nAt hv.2.1 h k dL_list_28 rfl (by omega) ?_
  refine kl_aR hv h (rk_le hR (by omega) (by omega)) (36 + k) (by omega) (by rw [show 200 + (36 + k) = 236 + k by omega]) (kS_nm k (by omega)) dL_list_29 hS hN (by omega) (Nat.le_of_ble_eq_true rfl) (fun v m g hS hN => ?_)
  refine kw_ldcL hv.2.1 h (i := 2) (by decide) dL_list_32 ?_
  refine kl_aR hv h (rk_le hR (by omega) (by omega)) 2 (by decide) rfl (by decide) dL_list_34 hS hN (by omega) (Nat.le_of_ble_eq_true rfl) (fun v m g hS hN => ?_)
  refine kw_alod h 0 dL_list_37 rfl rfl ?_
  refine kw_ilod h 3 dL_list_38 rfl rfl ?_
  refine km_leafS (As := [.ref (ad 500), .int (nI k)]) hv h (rk_le hR (by omega) (by omega)) none mi_L_rank (by decide) dL_list_39 ml_L_79 (Nat.le_of_ble_eq_true rfl) rfl (Nat.le_of_ble_eq_true rfl) ts_none kt_rank (fun r q => ?_)
  obtain ⟨w, hw, rfl⟩ := q
  rw [rs_cons]
  refine kl_num hv h (rk_le hR (by omega) (by omega)) dL_list_42 (by omega) (Nat.le_of_ble_eq_true rfl) (fun bw yw gw zw => ?_)
  refine kl_aT hv h (rk_le hR (by omega) (by omega)) zw dL_list_45 hS hN (by omega) (Nat.le_of_ble_eq_true rfl) (fun v m g hS hN => ?_)
  refine kw_ldcL hv.2.1 h (i := 4) (by decide) dL_list_48 ?_
  refine kl_aR hv h (rk_le hR (by omega) (by omega)) 4 (by decide) rfl (by decide) dL_list_50 hS hN (by omega) (Nat.le_of_ble_eq_true rfl) (fun v m g hS hN => ?_)
  refine kl_str (wr := []) hv h (rk_le hR (by omega) (by omega)) [] rfl rfl dL_list_53 hS (by omega) (Nat.le_of_ble_eq_true rfl) (fun b' y g' hg => ?_)
  have e : (((((l0 ++ kS 1) ++ kS (36 + k)) ++ kS 2) ++ dgl 3 w) ++ kS 4) = l0 ++ (kS 1 ++ (kS (36 + k) ++ (kS 2 ++ (dgl 3 w ++ kS 4)))) := by simp only [List.append_assoc]
  rw [e] at hg hN ⊢
  refine kw_asto h 2 dL_list_56 rfl (by decide) rfl ?_
  refine kw_iinc h 3 dL_list_57 rfl (nI_s1 k) (by decide) rfl ?_
  refine kw_goto h 5 dL_list_60 rfl ?_
  refine k_pad (kc' := kc + 50) (kn' := kn + 71924) (by omega) (by omega) ?_
  exact K w hw b' y g' hg (by omega)
theorem ll_1 (hv : VM ad tx cy Γ) (h : Vk RL cL_list 6 (d + 11) Γ) (hR : Rk Γ (kc + 150) (kn + 215772)) (K : ∀ (w0 w1 w2 : Nat), w0 < 4 → w1 < 4 → w2 < 4 → ∀ (b' y : Nat) (g : Nat → Int32), LT ((([] ++ (kS 1 ++ (kS (36 + 0) ++ (kS 2 ++ (dgl 3 w0 ++ kS 4))))) ++ (kS 1 ++ (kS (36 + 1) ++ (kS 2 ++ (dgl 3 w1 ++ kS 4))))) ++ (kS 1 ++ (kS (36 + 2) ++ (kS 2 ++ (dgl 3 w2 ++ kS 4))))) g → ((([] ++ (kS 1 ++ (kS (36 + 0) ++ (kS 2 ++ (dgl 3 w0 ++ kS 4))))) ++ (kS 1 ++ (kS (36 + 1) ++ (kS 2 ++ (dgl 3 w1 ++ kS 4))))) ++ (kS 1 ++ (kS (36 + 2) ++ (kS 2 ++ (dgl 3 w2 ++ kS 4))))).length ≤ 240 → CW Γ (kc + 150) (kn + 215772) 63 [some (.ref (ad 500)), some (.ref (ad 401)), some (.ref b'), some (.int (nI 3)), none, none] [] (wT cy b' y ((([] ++ (kS 1 ++ (kS (36 + 0) ++ (kS 2 ++ (dgl 3 w0 ++ kS 4))))) ++ (kS 1 ++ (kS (36 + 1) ++ (kS 2 ++ (dgl 3 w1 ++ kS 4))))) ++ (kS 1 ++ (kS (36 + 2) ++ (kS 2 ++ (dgl 3 w2 ++ kS 4))))) g) Φ) : CW Γ kc kn 5 [some (.ref (ad 500)), some (.ref (ad 401)), some (.ref (ad (200 + 0))), some (.int (nI 0)), none, none] [] [] Φ := by
  refine ll_1b (k := 0) (N0 := 0) hv h (rk_le hR (by omega) (by omega)) (by decide) (own_ro hv.2.1) (Nat.le_refl 0) (by decide) (fun w0 h0 b1 y1 g1 z1 n1 => ?_)
  refine ll_1b (k := 1) (N0 := 80) hv h (rk_le hR (by omega) (by omega)) (by decide) (own_w (rest := []) h hv.1 z1) (by omega) (by decide) (fun w1 h1 b2 y2 g2 z2 n2 => ?_)
  refine ll_1b (k := 2) (N0 := 160) hv h (rk_le hR (by omega) (by omega)) (by decide) (own_w (rest := []) h hv.1 z2) (by omega) (by decide) (fun w2 h2 b3 y3 g3 z3 n3 => ?_)
  refine kw_ilod h 3 dL_list_5 rfl rfl ?_
  refine kw_ic h dL_list_6 (v := nI 3) rfl ?_
  refine kw_icmp_ge h 63 dL_list_7 rfl (fun _ => ?_) (fun c => absurd (Int32.le_refl _) c)
  refine k_pad (kc' := kc + 150) (kn' := kn + 215772) (by omega) (by omega) ?_
  exact K w0 w1 w2 h0 h1 h2 b3 y3 g3 z3 n3
variable {qd qa y : Nat} {fD : Nat → Int32} {fA : Nat → Option Nat} {cA : ClassId} {g0 : Nat → Int32}
set_option maxHeartbeats 1000000 in
theorem ll_2b (hv : VM ad tx cy Γ) (h : Vk RL cL_list 6 (d + 11) Γ) (hR : Rk Γ (kc + 54) (kn + 89124)) (hKA : KA Γ cA) (hfD : ∀ j, j < 5 → fD j = nI (dyK j)) (hfA : ∀ j, j < 5 → fA j = some (ad (200 + abK j))) (hk : k < 5) (hlt : LT l0 g0) (hl0 : l0.length ≤ N0) (hN0' : N0 + 144 ≤ 2100) (K : ∀ (w : Nat) (hw : w < 10000) (b' y' : Nat) (g : Nat → Int32), LT (l0 ++ (kS 6 ++ (kS (39 + k) ++ (kS 7 ++ (kS (36 + dyK k) ++ (kS 8 ++ (kS (abK k) ++ (kS 9 ++ (dgl 3 w ++ kS 4))))))))) g → (l0 ++ (kS 6 ++ (kS (39 + k) ++ (kS 7 ++ (kS (36 + dyK k) ++ (kS 8 ++ (kS (abK k) ++ (kS 9 ++ (dgl 3 w ++ kS 4))))))))).length ≤ N0 + 144 → CW Γ (kc + 54) (kn + 89124) 124 [some (.ref (ad 500)), some (.ref (ad 401)), some (.ref b'), some (.ref qd), some (.ref qa), some (.int (nI (k + 1)))] [] (wT cy b' y' (l0 ++ (kS 6 ++ (kS (39 + k) ++ (kS 7 ++ (kS (36 + dyK k) ++ (kS 8 ++ (kS (abK k) ++ (kS 9 ++ (dgl 3 w ++ kS 4))))))))) g ++ [(qd, .inl (cy 0, 5, .inl fD)), (qa, eR cA 5 fA)]) Φ) : CW Γ kc kn 124 [some (.ref (ad 500)), some (.ref (ad 401)), some (.ref b), some (.ref qd), some (.ref qa), some (.int (nI k))] [] (wT cy b y l0 g0 ++ [(qd, .inl (cy 0, 5, .inl fD)), (qa, eR cA 5 fA)]) Φ := by
  have hN0 : N0 ≤ 2100 := by omega
  have hd5 := dy_ok k hk
  have ha5 := ab_ok k hk
  refine kw_ilodw h 5 dL_list_124 rfl ?_
  refine kw_ic h dL_list_126 (v := nI 5) rfl ?_
  refine kw_icmp_ge h 214 dL_list_127 rfl (fun c => absurd ((nI_leI (by decide) (by omega)).mp c) (by omega)) (fun _ => ?_)
  refine kl_new hv h (rk_le hR (by omega) (by omega)) dL_list_130 dL_list_133 dL_list_134 (Nat.le_of_ble_eq_true rfl) (fun a v => ?_)
  refine kw_alod h 2 dL_list_137 rfl rfl ?_
  refine kl_aO hv h (rk_le hR (by omega) (by omega)) (own_w h hv.1 hlt) hl0 hN0 dL_list_138 (Nat.le_of_ble_eq_true rfl) (fun v m g hS hN => ?_)
  refine kw_ldcL hv.2.1 h (i := 6) (by decide) dL_list_141 ?_
  refine kl_aR hv h (rk_le hR (by omega) (by omega)) 6 (by decide) rfl (by decide) dL_list_143 hS hN (by omega) (Nat.le_of_ble_eq_true rfl) (fun v m g hS hN => ?_)
  refine kw_alod h 1 dL_list_146 rfl rfl ?_
  refine kw_ic h dL_list_147 (v := nI 3) rfl ?_
  refine kw_ilodw h 5 dL_list_148 rfl ?_
  refine kw_iadd h dL_list_150 ?_
  rw [nI_add]
  refine kw_nAt hv.2.1 h (3 + k) dL_list_151 rfl (by omega) ?_
  refine kl_aR hv h (rk_le hR (by omega) (by omega)) (39 + k) (by omega) (by rw [show 200 + (39 + k) = 236 + (3 + k) by omega]) (by rw [show 39 + k = 36 + (3 + k) by omega]; exact kS_nm (3 + k) (by omega)) dL_list_152 hS hN (by omega) (Nat.le_of_ble_eq_true rfl) (fun v m g hS hN => ?_)
  refine kw_ldcL hv.2.1 h (i := 7) (by decide) dL_list_155 ?_
  refine kl_aR hv h (rk_le hR (by omega) (by omega)) 7 (by decide) rfl (by decide) dL_list_157 hS hN (by omega) (Nat.le_of_ble_eq_true rfl) (fun v m g hS hN => ?_)
  refine kw_alod h 1 dL_list_160 rfl rfl ?_
  refine kw_alod h 3 dL_list_161 rfl rfl ?_
  refine kw_ilodw h 5 dL_list_162 rfl ?_
  refine kw_iald h hv.1 2 k rfl rfl hk (by decide) dL_list_164 ?_
  rw [hfD k hk]
  refine kw_nAt hv.2.1 h (dyK k) dL_list_165 rfl hd5 ?_
  refine kl_aR hv h (rk_le hR (by omega) (by omega)) (36 + dyK k) (by omega) (by rw [show 200 + (36 + dyK k) = 236 + dyK k by omega]) (kS_nm _ hd5) dL_list_166 hS hN (by omega) (Nat.le_of_ble_eq_true rfl) (fun v m g hS hN => ?_)
  refine kw_ldcL hv.2.1 h (i := 8) (by decide) dL_list_169 ?_
  refine kl_aR hv h (rk_le hR (by omega) (by omega)) 8 (by decide) rfl (by decide) dL_list_171 hS hN (by omega) (Nat.le_of_ble_eq_true rfl) (fun v m g hS hN => ?_)
  refine kw_alodw h 4 dL_list_174 rfl ?_
  refine kw_ilodw h 5 dL_list_176 rfl ?_
  refine kw_aldS h hKA 3 k rfl (hfA k hk) rfl hk (by decide) dL_list_178 ?_
  refine kl_aR hv h (rk_le hR (by omega) (by omega)) (abK k) ha5.1 rfl ha5.2 dL_list_179 hS hN (by omega) (Nat.le_of_ble_eq_true rfl) (fun v m g hS hN => ?_)
  refine kw_ldcL hv.2.1 h (i := 9) (by decide) dL_list_182 ?_
  refine kl_aR hv h (rk_le hR (by omega) (by omega)) 9 (by decide) rfl (by decide) dL_list_184 hS hN (by omega) (Nat.le_of_ble_eq_true rfl) (fun v m g hS hN => ?_)
  refine kw_alod h 0 dL_list_187 rfl rfl ?_
  refine kw_ilodw h 5 dL_list_188 rfl ?_
  refine km_leafS (As := [.ref (ad 500), .int (nI k)]) hv h (rk_le hR (by omega) (by omega)) none mi_L_first (by decide) dL_list_190 ml_L_94 (Nat.le_of_ble_eq_true rfl) rfl (Nat.le_of_ble_eq_true rfl) ts_none (kt_first (by omega)) (fun r q => ?_)
  obtain ⟨w, hw, rfl⟩ := q
  rw [rs_cons]
  refine kl_num hv h (rk_le hR (by omega) (by omega)) dL_list_193 hw (Nat.le_of_ble_eq_true rfl) (fun bw yw gw zw => ?_)
  refine kl_aT hv h (rk_le hR (by omega) (by omega)) zw dL_list_196 hS hN (by omega) (Nat.le_of_ble_eq_true rfl) (fun v m g hS hN => ?_)
  refine kw_ldcL hv.2.1 h (i := 4) (by decide) dL_list_199 ?_
  refine kl_aR hv h (rk_le hR (by omega) (by omega)) 4 (by decide) rfl (by decide) dL_list_201 hS hN (by omega) (Nat.le_of_ble_eq_true rfl) (fun v m g hS hN => ?_)
  refine kl_str (wr := [(qd, .inl (cy 0, 5, .inl fD)), (qa, eR cA 5 fA)]) hv h (rk_le hR (by omega) (by omega)) [2, 3] rfl rfl dL_list_204 hS (by omega) (Nat.le_of_ble_eq_true rfl) (fun b' y' g' hg => ?_)
  have e : (((((((((l0 ++ kS 6) ++ kS (39 + k)) ++ kS 7) ++ kS (36 + dyK k)) ++ kS 8) ++ kS (abK k)) ++ kS 9) ++ dgl 3 w) ++ kS 4) = l0 ++ (kS 6 ++ (kS (39 + k) ++ (kS 7 ++ (kS (36 + dyK k) ++ (kS 8 ++ (kS (abK k) ++ (kS 9 ++ (dgl 3 w ++ kS 4)))))))) := by simp only [List.append_assoc]
  rw [e] at hg hN ⊢
  refine kw_asto h 2 dL_list_207 rfl (by decide) rfl ?_
  refine kw_iinc h 5 dL_list_208 rfl (nI_s1 k) (by decide) rfl ?_
  refine kw_goto h 124 dL_list_211 rfl ?_
  refine k_drop [2, 3, 0, 1] (ws' := wT cy b' y' (l0 ++ (kS 6 ++ (kS (39 + k) ++ (kS 7 ++ (kS (36 + dyK k) ++ (kS 8 ++ (kS (abK k) ++ (kS 9 ++ (dgl 3 w ++ kS 4))))))))) g' ++ [(qd, .inl (cy 0, 5, .inl fD)), (qa, eR cA 5 fA)]) rfl rfl ?_
  refine k_pad (kc' := kc + 54) (kn' := kn + 89124) (by omega) (by omega) ?_
  exact K w hw b' y' g' hg (by omega)
set_option maxHeartbeats 1000000 in
theorem ll_2 (hv : VM ad tx cy Γ) (h : Vk RL cL_list 6 (d + 11) Γ) (hR : Rk Γ (kc + 280) (kn + 450000)) (hlt : LT l0 g0) (hl0 : l0.length ≤ 240) (K : ∀ (f0 f1 f2 f3 f4 : Nat), f0 < 10000 → f1 < 10000 → f2 < 10000 → f3 < 10000 → f4 < 10000 → ∀ (b' y' qd qa : Nat) (g fD : Nat → Int32), LT (((((l0 ++ (kS 6 ++ (kS (39 + 0) ++ (kS 7 ++ (kS (36 + dyK 0) ++ (kS 8 ++ (kS (abK 0) ++ (kS 9 ++ (dgl 3 f0 ++ kS 4))))))))) ++ (kS 6 ++ (kS (39 + 1) ++ (kS 7 ++ (kS (36 + dyK 1) ++ (kS 8 ++ (kS (abK 1) ++ (kS 9 ++ (dgl 3 f1 ++ kS 4))))))))) ++ (kS 6 ++ (kS (39 + 2) ++ (kS 7 ++ (kS (36 + dyK 2) ++ (kS 8 ++ (kS (abK 2) ++ (kS 9 ++ (dgl 3 f2 ++ kS 4))))))))) ++ (kS 6 ++ (kS (39 + 3) ++ (kS 7 ++ (kS (36 + dyK 3) ++ (kS 8 ++ (kS (abK 3) ++ (kS 9 ++ (dgl 3 f3 ++ kS 4))))))))) ++ (kS 6 ++ (kS (39 + 4) ++ (kS 7 ++ (kS (36 + dyK 4) ++ (kS 8 ++ (kS (abK 4) ++ (kS 9 ++ (dgl 3 f4 ++ kS 4))))))))) g → (((((l0 ++ (kS 6 ++ (kS (39 + 0) ++ (kS 7 ++ (kS (36 + dyK 0) ++ (kS 8 ++ (kS (abK 0) ++ (kS 9 ++ (dgl 3 f0 ++ kS 4))))))))) ++ (kS 6 ++ (kS (39 + 1) ++ (kS 7 ++ (kS (36 + dyK 1) ++ (kS 8 ++ (kS (abK 1) ++ (kS 9 ++ (dgl 3 f1 ++ kS 4))))))))) ++ (kS 6 ++ (kS (39 + 2) ++ (kS 7 ++ (kS (36 + dyK 2) ++ (kS 8 ++ (kS (abK 2) ++ (kS 9 ++ (dgl 3 f2 ++ kS 4))))))))) ++ (kS 6 ++ (kS (39 + 3) ++ (kS 7 ++ (kS (36 + dyK 3) ++ (kS 8 ++ (kS (abK 3) ++ (kS 9 ++ (dgl 3 f3 ++ kS 4))))))))) ++ (kS 6 ++ (kS (39 + 4) ++ (kS 7 ++ (kS (36 + dyK 4) ++ (kS 8 ++ (kS (abK 4) ++ (kS 9 ++ (dgl 3 f4 ++ kS 4))))))))).length ≤ 960 → CW Γ (kc + 280) (kn + 450000) 214 [some (.ref (ad 500)), some (.ref (ad 401)), some (.ref b'), some (.ref qd), some (.ref qa), some (.int (nI 5))] [] (wT cy b' y' (((((l0 ++ (kS 6 ++ (kS (39 + 0) ++ (kS 7 ++ (kS (36 + dyK 0) ++ (kS 8 ++ (kS (abK 0) ++ (kS 9 ++ (dgl 3 f0 ++ kS 4))))))))) ++ (kS 6 ++ (kS (39 + 1) ++ (kS 7 ++ (kS (36 + dyK 1) ++ (kS 8 ++ (kS (abK 1) ++ (kS 9 ++ (dgl 3 f1 ++ kS 4))))))))) ++ (kS 6 ++ (kS (39 + 2) ++ (kS 7 ++ (kS (36 + dyK 2) ++ (kS 8 ++ (kS (abK 2) ++ (kS 9 ++ (dgl 3 f2 ++ kS 4))))))))) ++ (kS 6 ++ (kS (39 + 3) ++ (kS 7 ++ (kS (36 + dyK 3) ++ (kS 8 ++ (kS (abK 3) ++ (kS 9 ++ (dgl 3 f3 ++ kS 4))))))))) ++ (kS 6 ++ (kS (39 + 4) ++ (kS 7 ++ (kS (36 + dyK 4) ++ (kS 8 ++ (kS (abK 4) ++ (kS 9 ++ (dgl 3 f4 ++ kS 4))))))))) g ++ [(qd, .inl (cy 0, 5, .inl fD))]) Φ) : CW Γ kc kn 63 [some (.ref (ad 500)), some (.ref (ad 401)), some (.ref b), some (.int (nI 3)), none, none] [] (wT cy b y l0 g0) Φ := by
  refine kw_ic h dL_list_63 (v := nI 5) rfl ?_
  refine k_na h hv.1 (at_ := .int) (ty := .int) (N := 5) (a0 := (5, .inl (fun _ => nI 0))) 0 (rk_le hR (by omega) (by omega)) ac_int rfl (fun _ => rfl) (fun _ q => by cases q) (fun _ => rfl) (by decide) (by decide) (by decide) dL_list_64 (fun qd => ?_)
  refine kw_dup h dL_list_66 rfl ?_
  refine kw_ic h dL_list_67 (v := nI 0) rfl ?_
  refine kw_ic h dL_list_68 (v := nI 0) rfl ?_
  refine kw_iast h hv.1 2 0 rfl rfl (by decide) (by decide) dL_list_69 ?_
  refine kw_dup h dL_list_70 rfl ?_
  refine kw_ic h dL_list_71 (v := nI 1) rfl ?_
  refine kw_ic h dL_list_72 (v := nI 1) rfl ?_
  refine kw_iast h hv.1 2 1 rfl rfl (by decide) (by decide) dL_list_73 ?_
  refine kw_dup h dL_list_74 rfl ?_
  refine kw_ic h dL_list_75 (v := nI 2) rfl ?_
  refine kw_ic h dL_list_76 (v := nI 2) rfl ?_
  refine kw_iast h hv.1 2 2 rfl rfl (by decide) (by decide) dL_list_77 ?_
  refine kw_dup h dL_list_78 rfl ?_
  refine kw_ic h dL_list_79 (v := nI 3) rfl ?_
  refine kw_ic h dL_list_80 (v := nI 1) rfl ?_
  refine kw_iast h hv.1 2 3 rfl rfl (by decide) (by decide) dL_list_81 ?_
  refine kw_dup h dL_list_82 rfl ?_
  refine kw_ic h dL_list_83 (v := nI 4) rfl ?_
  refine kw_ic h dL_list_84 (v := nI 0) rfl ?_
  refine kw_iast h hv.1 2 4 rfl rfl (by decide) (by decide) dL_list_85 ?_
  refine kw_asto h 3 dL_list_86 rfl (by decide) rfl ?_
  refine kw_ic h dL_list_87 (v := nI 5) rfl ?_
  refine kw_newq hv h (rk_le hR (by omega) (by omega)) (bw_in (tb_5 (List.mem_of_getElem? (i := 54) rfl)) rfl) (by decide) dL_list_88 (fun qa cA hKA => ?_)
  refine kw_dup h dL_list_91 rfl ?_
  refine kw_ic h dL_list_92 (v := nI 0) rfl ?_
  refine kw_ldcL hv.2.1 h (i := 5) (by decide) dL_list_93 ?_
  refine kw_aastR hv h hKA 3 0 5 (by decide) rfl rfl rfl (by decide) (by decide) dL_list_95 ?_
  refine kw_dup h dL_list_96 rfl ?_
  refine kw_ic h dL_list_97 (v := nI 1) rfl ?_
  refine kw_alod h 1 dL_list_98 rfl rfl ?_
  refine kw_ic h dL_list_99 (v := nI 3) rfl ?_
  refine kw_nAt hv.2.1 h 3 dL_list_100 rfl (by decide) ?_
  refine kw_aastR hv h hKA 3 1 39 (by decide) rfl rfl rfl (by decide) (by decide) dL_list_101 ?_
  refine kw_dup h dL_list_102 rfl ?_
  refine kw_ic h dL_list_103 (v := nI 2) rfl ?_
  refine kw_alod h 1 dL_list_104 rfl rfl ?_
  refine kw_ic h dL_list_105 (v := nI 3) rfl ?_
  refine kw_nAt hv.2.1 h 3 dL_list_106 rfl (by decide) ?_
  refine kw_aastR hv h hKA 3 2 39 (by decide) rfl rfl rfl (by decide) (by decide) dL_list_107 ?_
  refine kw_dup h dL_list_108 rfl ?_
  refine kw_ic h dL_list_109 (v := nI 3) rfl ?_
  refine kw_alod h 1 dL_list_110 rfl rfl ?_
  refine kw_ic h dL_list_111 (v := nI 5) rfl ?_
  refine kw_nAt hv.2.1 h 5 dL_list_112 rfl (by decide) ?_
  refine kw_aastR hv h hKA 3 3 41 (by decide) rfl rfl rfl (by decide) (by decide) dL_list_113 ?_
  refine kw_dup h dL_list_114 rfl ?_
  refine kw_ic h dL_list_115 (v := nI 4) rfl ?_
  refine kw_ldcL hv.2.1 h (i := 5) (by decide) dL_list_116 ?_
  refine kw_aastR hv h hKA 3 4 5 (by decide) rfl rfl rfl (by decide) (by decide) dL_list_118 ?_
  refine kw_astow h 4 dL_list_119 (by decide) rfl ?_
  refine kw_ic h dL_list_121 (v := nI 0) rfl ?_
  refine kw_istow h 5 dL_list_122 (by decide) rfl ?_
  have hfD : ∀ j, j < 5 → (upd (upd (upd (upd (upd (fun _ => nI 0) 0 (nI 0)) 1 (nI 1)) 2 (nI 2)) 3 (nI 1)) 4 (nI 0)) j = nI (dyK j) := by
    intro j hj
    rcases (show j = 0 ∨ j = 1 ∨ j = 2 ∨ j = 3 ∨ j = 4 by omega) with rfl | rfl | rfl | rfl | rfl <;> rfl
  have hfA : ∀ j, j < 5 → (va_up (va_up (va_up (va_up (va_up (fun _ => none) 0 (some (ad (200 + 5)))) 1 (some (ad (236 + 3)))) 2 (some (ad (236 + 3)))) 3 (some (ad (236 + 5)))) 4 (some (ad (200 + 5)))) j = some (ad (200 + abK j)) := by
    intro j hj
    rcases (show j = 0 ∨ j = 1 ∨ j = 2 ∨ j = 3 ∨ j = 4 by omega) with rfl | rfl | rfl | rfl | rfl <;> rfl
  generalize hD : (upd (upd (upd (upd (upd (fun _ => nI 0) 0 (nI 0)) 1 (nI 1)) 2 (nI 2)) 3 (nI 1)) 4 (nI 0)) = fD at hfD
  generalize hA : (va_up (va_up (va_up (va_up (va_up (fun _ => none) 0 (some (ad (200 + 5)))) 1 (some (ad (236 + 3)))) 2 (some (ad (236 + 3)))) 3 (some (ad (236 + 5)))) 4 (some (ad (200 + 5)))) = fA at hfA
  suffices hh : CW Γ (kc + 2) (kn + 10) 124 [some (.ref (ad 500)), some (.ref (ad 401)), some (.ref b), some (.ref qd), some (.ref qa), some (.int (nI 0))] [] (wT cy b y l0 g0 ++ [(qd, .inl (cy 0, 5, .inl fD)), (qa, eR cA 5 fA)]) Φ by
    subst hD
    subst hA
    exact hh
  refine ll_2b (k := 0) (N0 := 240) hv h (rk_le hR (by omega) (by omega)) hKA hfD hfA (by decide) hlt (by omega) (by decide) (fun f0 h0 b0 y0 g0 z0 n0 => ?_)
  refine ll_2b (k := 1) (N0 := 384) hv h (rk_le hR (by omega) (by omega)) hKA hfD hfA (by decide) z0 (by omega) (by decide) (fun f1 h1 b1 y1 g1 z1 n1 => ?_)
  refine ll_2b (k := 2) (N0 := 528) hv h (rk_le hR (by omega) (by omega)) hKA hfD hfA (by decide) z1 (by omega) (by decide) (fun f2 h2 b2 y2 g2 z2 n2 => ?_)
  refine ll_2b (k := 3) (N0 := 672) hv h (rk_le hR (by omega) (by omega)) hKA hfD hfA (by decide) z2 (by omega) (by decide) (fun f3 h3 b3 y3 g3 z3 n3 => ?_)
  refine ll_2b (k := 4) (N0 := 816) hv h (rk_le hR (by omega) (by omega)) hKA hfD hfA (by decide) z3 (by omega) (by decide) (fun f4 h4 b4 y4 g4 z4 n4 => ?_)
  refine kw_ilodw h 5 dL_list_124 rfl ?_
  refine kw_ic h dL_list_126 (v := nI 5) rfl ?_
  refine kw_icmp_ge h 214 dL_list_127 rfl (fun _ => ?_) (fun c => absurd (Int32.le_refl _) c)
  refine k_drop [0, 1, 2] (ws' := wT cy b4 y4 _ g4 ++ [(qd, .inl (cy 0, 5, .inl fD))]) rfl rfl ?_
  refine k_pad (kc' := kc + 280) (kn' := kn + 450000) (by omega) (by omega) ?_
  exact K f0 f1 f2 f3 f4 h0 h1 h2 h3 h4 b4 y4 qd qa g4 fD z4 n4
end LLP
