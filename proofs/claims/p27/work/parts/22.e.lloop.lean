/-! The law: its loop -/
theorem wr_b {b : Bool} (h : b = true) : b2i b = nI 1 := by rw [h]; rfl
theorem wr_f {b : Bool} (h : ¬ b = true) : b2i b = nI 0 := by
  cases b
  · rfl
  · exact absurd rfl h
theorem cnt10 {I : MI} : cntC I 10 = I 20 2 := rfl
theorem cnt6 {I : MI} {P : MP} {T0 C0 : Nat} (h : LW I P T0 C0) : cntC I 6 = sumF (I 23) 5 0 (nI 0) := by
  show sumF (fun i => I (20 + 3) i) (nN (dv I)) 0 (nI 0) = _
  rw [h.hN]
set_option maxRecDepth 100000 in
set_option maxHeartbeats 4000000 in
theorem lw_round {Γ : Cx} {T0 C0 d kc kn t : Nat} {I : MI} {J : MJ} {P : MP} {Φ : State → Prop} (hW : LW I P T0 C0) (hT0 : T0 + 1920 < 1000000) (hC0 : C0 + 80 < 1000000) (hrk : Rok Γ kc kn) (h : Vc RL cL_law 13 (some .boolean) (d + 10) Γ) (ht : t < 20) {x3 x4 x5 x6 x7 x8 x9 x10 x11 x12 : Option Value} (K : ∀ I' J' P' v3 v4 v5 v6 v7 v8 v9 v10 v11 v12, LW I' P' (T0 + 1920) (C0 + 80) → VG Γ kc kn 7 [some (.ref 500), some (.ref 0), some (.int (nI (t + 1))), v3, v4, v5, v6, v7, v8, v9, v10, v11, v12] [] I' J' P' Φ) : VG Γ kc kn 7 [some (.ref 500), some (.ref 0), some (.int (nI t)), x3, x4, x5, x6, x7, x8, x9, x10, x11, x12] [] I J P Φ := by
  have hT6 := hW.2.2.1.1.2.2.1.2
  refine g_iload_2 h dL_law_7 ?_
  refine g_bipush h dL_law_8 (v := nI 20) rfl ?_
  refine g_icmp_ge h 344 dL_law_10 rfl (fun c => absurd c (nI_ge ht (by decide))) (fun _ => ?_)
  refine g_aload_0 h dL_law_13 ?_
  refine g_bipush h dL_law_14 (v := nI 10) rfl ?_
  refine g_iload_2 h dL_law_16 ?_
  refine g_iadd h dL_law_17 ?_
  rw [nI_add]
  refine g_cSi2 h hrk mi_L_cell dL_law_18 ml_L_65 (Nat.le_of_ble_eq_true rfl) (Nat.le_of_ble_eq_true rfl) (sp_L_cell (by omega) (fun v => ?_))
  refine g_iconst h dL_law_21 (v := nI 2) rfl ?_
  refine g_ishr h dL_law_22 ?_
  refine g_istore_3 h dL_law_23 (by decide) rfl ?_
  generalize v >>> (nI 2 &&& 31) = x
  refine g_iload_3 h dL_law_24 ?_
  refine g_iconst h dL_law_25 (v := nI 5) rfl ?_
  refine g_cSi2 h hrk mi_L_below dL_law_26 ml_L_69 (Nat.le_of_ble_eq_true rfl) (Nat.le_of_ble_eq_true rfl) (sp_L_below (by decide) (by decide) (fun a ha => ?_))
  refine g_istore_4 h dL_law_29 (by decide) rfl ?_
  refine g_aload_1 h dL_law_31 ?_
  refine g_cVl0 h hrk mi_X10_digest dL_law_32 ml_L_181 rfl rfl rfl (Nat.le_of_ble_eq_true rfl) (Nat.le_of_ble_eq_true rfl) (qdig0 hW ?_)
  refine g_lstore_5 h dL_law_35 (by decide) rfl ?_
  refine g_aload_1 h dL_law_37 ?_
  refine g_iconst h dL_law_38 (v := nI 4) rfl ?_
  refine g_bipush h dL_law_39 (v := nI 6) rfl ?_
  refine g_cVi2 h hrk mi_X10_foresee dL_law_41 ml_L_185 rfl rfl rfl (Nat.le_of_ble_eq_true rfl) (Nat.le_of_ble_eq_true rfl) (qfor hW (fun I1 o1 => ?_))
  refine g_istore_7 h dL_law_44 (by decide) rfl ?_
  refine g_aload_1 h dL_law_46 ?_
  refine g_iload_4 h dL_law_47 ?_
  refine g_iconst h dL_law_49 (v := nI 2) rfl ?_
  refine g_irem h dL_law_50 (by decide) ?_
  rw [pk_rem (by omega) (by decide) (by decide)]
  refine g_cVi1 h hrk mi_X10_until dL_law_51 ml_L_188 rfl rfl rfl (Nat.le_of_ble_eq_true rfl) (Nat.le_of_ble_eq_true rfl) (qunt (hW.out o1) (a := a % 2) (by omega) (fun I2 U o2 hU0 hUz => ?_))
  refine g_istore_8 h dL_law_54 (by decide) rfl ?_
  refine g_aload_1 h dL_law_56 ?_
  refine g_iconst h dL_law_57 (v := nI 5) rfl ?_
  refine g_cVi1 h hrk mi_X10_advise dL_law_58 ml_L_191 rfl rfl rfl (Nat.le_of_ble_eq_true rfl) (Nat.le_of_ble_eq_true rfl) (qadv ((hW.out o1).out o2) (fun I3 V o3 hV0 => ?_))
  refine g_istore_9 h dL_law_61 (by decide) rfl ?_
  have o123 : out28 I I3 := (o1.tr o2).tr o3
  have hW3 := ((hW.out o1).out o2).out o3
  have hU1 : ¬ U < -1 := by
    rcases hU0 with rfl | ⟨j, j1, rfl⟩
    · decide
    · exact fun q => nI_pos (by omega) (Int32.lt_trans q (by decide))
  have hU2 : ¬ nI 150 < U := by
    rcases hU0 with rfl | ⟨j, j1, rfl⟩
    · decide
    · exact nI_nlt (by omega) (by decide)
  have hV1 : ¬ V < -1 := by
    rcases hV0 with rfl | ⟨j, j1, rfl⟩
    · decide
    · exact fun q => nI_pos (by omega) (Int32.lt_trans q (by decide))
  have hV2 : V ≤ nI 1 := by
    rcases hV0 with rfl | ⟨j, j1, rfl⟩
    · decide
    · exact nI_le (by omega) (by decide)
  have e43 : I1 (43 + a % 2) = I3 (43 + a % 2) := ((o2.tr o3) (43 + a % 2) (by omega) (by omega) (by omega)).symm
  have e24 : I1 24 = I3 24 := ((o2.tr o3) 24 (by decide) (by decide) (by decide)).symm
  have e25 : I1 25 = I3 25 := ((o2.tr o3) 25 (by decide) (by decide) (by decide)).symm
  have edv : dv I1 = dv I3 := ((o2.tr o3).dv).symm
  rw [e43, e24, e25, edv] at hUz
  have e20 : I 20 2 = I3 20 2 := (congrFun (o123 20 (by decide) (by decide) (by decide)) 2).symm
  have edg : dgC I = dgC I3 := (dg_out hT6 o123).symm
  have efs : fsV I = fsV I3 := by
    have e1 : dv I3 = dv I := o123.dv
    have e2 : sv 20 I3 = sv 20 I := funext fun k => by
      unfold sv
      split
      · exact o123 _ (by omega) (by omega) (by omega)
      · rfl
    unfold fsV
    rw [e1, e2]
  rw [edg, efs]
  clear e43 e24 e25 edv e20 edg efs o123 hU0 hV0 o1 o2 o3
  revert hUz
  generalize up2 (up2 (up2 P 28 0 (some 36)) 28 0 (some 36)) 28 0 (some 36) = P3 at hW3 ⊢
  intro hUz
  clear hW hT6
  have KA : VG Γ kc kn 132 [some (.ref 500), some (.ref 0), some (.int (nI t)), some (.int x), some (.int (nI a)), some (.long (dgC I3)), none, some (.int (fsV I3)), some (.int U), some (.int V), x10, x11, x12] [] I3 J P3 Φ := by
    refine g_aload_1 h dL_law_132 ?_
    refine g_bipush h dL_law_133 (v := nI 10) rfl ?_
    refine g_cVi1 h hrk mi_X10_count dL_law_135 ml_L_25 rfl rfl rfl (Nat.le_of_ble_eq_true rfl) (Nat.le_of_ble_eq_true rfl) (qcnt (w := 10) hW3 (by decide) ?_)
    refine g_istore_10 h dL_law_138 (by decide) rfl ?_
    refine g_iload_3 h dL_law_140 ?_
    refine g_iconst h dL_law_141 (v := nI 3) rfl ?_
    refine g_ishr h dL_law_142 ?_
    refine g_bipush h dL_law_143 (v := nI 7) rfl ?_
    refine g_cSi2 h hrk mi_L_below dL_law_145 ml_L_69 (Nat.le_of_ble_eq_true rfl) (Nat.le_of_ble_eq_true rfl) (sp_L_below (by decide) (by decide) (fun q hq => ?_))
    refine g_istore_11 h dL_law_148 (by decide) rfl ?_
    refine g_iload_3 h dL_law_150 ?_
    refine g_bipush h dL_law_151 (v := nI 6) rfl ?_
    refine g_ishr h dL_law_153 ?_
    refine g_bipush h dL_law_154 (v := nI 6) rfl ?_
    refine g_cSi2 h hrk mi_L_below dL_law_156 ml_L_69 (Nat.le_of_ble_eq_true rfl) (Nat.le_of_ble_eq_true rfl) (sp_L_below (by decide) (by decide) (fun o ho => ?_))
    refine g_iconst h dL_law_159 (v := nI 1) rfl ?_
    refine g_isub h dL_law_160 ?_
    refine g_istore_12 h dL_law_161 (by decide) rfl ?_
    have hy : isU 5 (nI o - nI 1) := by
      by_cases z : o = 0
      · subst z
        exact Or.inl rfl
      · rw [pk_sub (by omega)]
        exact Or.inr ⟨o - 1, by omega, rfl⟩
    generalize nI o - nI 1 = y at hy ⊢
    refine g_iload_11 h dL_law_163 ?_
    have KB : ∀ I' J' P', LW I' P' (T0 + 1920) (C0 + 80) → (∃ j, j ≤ 80 ∧ I' 20 2 = I3 20 2 + nI j) → VG Γ kc kn 318 [some (.ref 500), some (.ref 0), some (.int (nI t)), some (.int x), some (.int (nI a)), some (.long (dgC I3)), none, some (.int (fsV I3)), some (.int U), some (.int V), some (.int (I3 20 2)), some (.int (nI q)), some (.int y)] [] I' J' P' Φ := by
      intro I' J' P' h' hj
      obtain ⟨c, c1, c2⟩ := hW3.2.2.2.2.2.2.2.2
      have c2 : I3 20 2 = nI c := c2
      obtain ⟨j, j1, j2⟩ := hj
      have hge : ¬ I' 20 2 < I3 20 2 := by
        rw [j2, c2, nI_add]
        exact nI_nlt (by omega) (by omega)
      refine g_aload_1 h dL_law_318 ?_
      refine g_bipush h dL_law_319 (v := nI 10) rfl ?_
      refine g_cVi1 h hrk mi_X10_count dL_law_321 ml_L_25 rfl rfl rfl (Nat.le_of_ble_eq_true rfl) (Nat.le_of_ble_eq_true rfl) (qcnt (w := 10) h' (by decide) ?_)
      refine g_iload_10 h dL_law_324 ?_
      refine g_icmp_lt h 336 dL_law_326 rfl (fun c => absurd c (by rw [cnt10]; exact hge)) (fun _ => ?_)
      refine g_aload_1 h dL_law_329 ?_
      refine g_cSi1 h hrk mi_L_isAll dL_law_330 ml_L_219 (Nat.le_of_ble_eq_true rfl) (Nat.le_of_ble_eq_true rfl) (sp_L_isAll h' hT0 ?_)
      refine g_if_ne h 338 dL_law_333 rfl (fun _ => ?_) (fun c => absurd c (by decide))
      refine g_iinc_2 h dL_law_338 (inc1 _) (by decide) rfl ?_
      refine g_goto h 7 dL_law_341 rfl ?_
      exact K _ _ _ _ _ _ _ _ _ _ _ _ _ h'
    have KC : VG Γ kc kn 288 [some (.ref 500), some (.ref 0), some (.int (nI t)), some (.int x), some (.int (nI a)), some (.long (dgC I3)), none, some (.int (fsV I3)), some (.int U), some (.int V), some (.int (I3 20 2)), some (.int (nI q)), some (.int y)] [] I3 J P3 Φ := by
      refine g_aload_1 h dL_law_288 ?_
      refine g_iconst h dL_law_289 (v := nI 4) rfl ?_
      refine g_cVi1 h hrk mi_X10_pass dL_law_290 ml_L_216 rfl rfl rfl (Nat.le_of_ble_eq_true rfl) (Nat.le_of_ble_eq_true rfl) (qpas hW3 hT0 (fun I' h' hj e6 => ?_))
      refine g_aload_1 h dL_law_293 ?_
      refine g_bipush h dL_law_294 (v := nI 10) rfl ?_
      refine g_cVi1 h hrk mi_X10_count dL_law_296 ml_L_25 rfl rfl rfl (Nat.le_of_ble_eq_true rfl) (Nat.le_of_ble_eq_true rfl) (qcnt (w := 10) h' (by decide) ?_)
      refine g_iload_10 h dL_law_299 ?_
      refine g_isub h dL_law_301 ?_
      refine g_icmp_ne h 316 dL_law_302 rfl (fun c => absurd rfl c) (fun _ => ?_)
      refine g_aload_1 h dL_law_305 ?_
      refine g_bipush h dL_law_306 (v := nI 6) rfl ?_
      refine g_cVi1 h hrk mi_X10_count dL_law_308 ml_L_25 rfl rfl rfl (Nat.le_of_ble_eq_true rfl) (Nat.le_of_ble_eq_true rfl) (qcnt (w := 6) h' (by decide) ?_)
      refine g_iload_7 h dL_law_311 ?_
      refine g_icmp_eq h 318 dL_law_313 rfl (fun _ => ?_) (fun c => absurd ((cnt6 h').trans e6) c)
      exact KB I' _ _ h' hj
    refine g_if_ne h 187 dL_law_165 rfl (fun c165 => ?_) (fun c165 => ?_)
    · refine g_iload_11 h dL_law_187 ?_
      refine g_iconst h dL_law_189 (v := nI 1) rfl ?_
      refine g_icmp_ne h 205 dL_law_190 rfl (fun c190 => ?_) (fun c190 => ?_)
      · refine g_iload_11 h dL_law_205 ?_
        refine g_iconst h dL_law_207 (v := nI 2) rfl ?_
        refine g_icmp_ne h 228 dL_law_208 rfl (fun c208 => ?_) (fun c208 => ?_)
        · refine g_iload_11 h dL_law_228 ?_
          refine g_iconst h dL_law_230 (v := nI 3) rfl ?_
          refine g_icmp_ne h 288 dL_law_231 rfl (fun c231 => ?_) (fun c231 => ?_)
          · exact KC
          · refine g_aload_1 h dL_law_234 ?_
            refine g_iload_4 h dL_law_235 ?_
            refine g_iload_12 h dL_law_237 ?_
            refine g_cSi3 h hrk mi_L_canHang dL_law_239 ml_L_206 (Nat.le_of_ble_eq_true rfl) (Nat.le_of_ble_eq_true rfl) (sp_L_canHang hW3 ha hy ?_ (fun w1 w2 => ?_))
            · refine g_if_eq h 288 dL_law_242 rfl (fun _ => ?_) (fun c => absurd rfl c)
              exact KC
            · refine g_if_eq h 288 dL_law_242 rfl (fun c => absurd c (by decide)) (fun _ => ?_)
              refine g_aload_1 h dL_law_245 ?_
              refine g_iload_4 h dL_law_246 ?_
              refine g_iload_12 h dL_law_248 ?_
              refine g_cVi2 h hrk mi_X10_hang dL_law_250 ml_L_210 rfl rfl rfl (Nat.le_of_ble_eq_true rfl) (Nat.le_of_ble_eq_true rfl) (qhang hW3 ha hy w1 w2 (fun I' h' e' ey => ?_))
              refine g_iload_12 h dL_law_253 ?_
              rcases hy with rfl | ⟨j, j1, rfl⟩
              · refine g_if_ge h 262 dL_law_255 rfl (fun c => absurd c (by decide)) (fun _ => ?_)
                refine g_iconst h dL_law_258 (v := nI 1) rfl ?_
                refine g_goto h 271 dL_law_259 rfl ?_
                refine g_icmp_ne h 286 dL_law_271 rfl (fun c => absurd (congrArg nI (show dep (I' 22) 5 4 (nI a) = 1 by rw [h'.dep ha, ey, dep_m1])) c) (fun _ => ?_)
                refine g_aload_1 h dL_law_274 ?_
                refine g_iload_4 h dL_law_275 ?_
                refine g_iconst h dL_law_277 (v := nI 1) rfl ?_
                refine g_cVi2 h hrk mi_X10_cord dL_law_278 ml_L_213 rfl rfl rfl (Nat.le_of_ble_eq_true rfl) (Nat.le_of_ble_eq_true rfl) (qc1 h' ha ?_)
                refine g_iload_12 h dL_law_281 ?_
                refine g_icmp_eq h 318 dL_law_283 rfl (fun _ => ?_) (fun c => absurd ey c)
                exact KB I' _ _ (h'.le (by omega) (by omega)) ⟨0, by omega, by rw [e']; exact (add0 _).symm⟩
              · refine g_if_ge h 262 dL_law_255 rfl (fun _ => ?_) (fun c => absurd (nI_pos' (by omega)) c)
                refine g_aload_1 h dL_law_262 ?_
                refine g_iload_12 h dL_law_263 ?_
                refine g_iconst h dL_law_265 (v := nI 2) rfl ?_
                refine g_cVi2 h hrk mi_X10_cord dL_law_266 ml_L_213 rfl rfl rfl (Nat.le_of_ble_eq_true rfl) (Nat.le_of_ble_eq_true rfl) (qc2 h' j1 ?_)
                refine g_iconst h dL_law_269 (v := nI 1) rfl ?_
                refine g_iadd h dL_law_270 ?_
                refine g_icmp_ne h 286 dL_law_271 rfl (fun c => absurd (by rw [h'.dep ha, ey, nI_add]) c) (fun _ => ?_)
                refine g_aload_1 h dL_law_274 ?_
                refine g_iload_4 h dL_law_275 ?_
                refine g_iconst h dL_law_277 (v := nI 1) rfl ?_
                refine g_cVi2 h hrk mi_X10_cord dL_law_278 ml_L_213 rfl rfl rfl (Nat.le_of_ble_eq_true rfl) (Nat.le_of_ble_eq_true rfl) (qc1 h' ha ?_)
                refine g_iload_12 h dL_law_281 ?_
                refine g_icmp_eq h 318 dL_law_283 rfl (fun _ => ?_) (fun c => absurd ey c)
                exact KB I' _ _ (h'.le (by omega) (by omega)) ⟨0, by omega, by rw [e']; exact (add0 _).symm⟩
        · refine g_aload_1 h dL_law_211 ?_
          refine g_iload_4 h dL_law_212 ?_
          refine g_iload_3 h dL_law_214 ?_
          refine g_iconst h dL_law_215 (v := nI 5) rfl ?_
          refine g_ishr h dL_law_216 ?_
          refine g_iconst h dL_law_217 (v := nI 3) rfl ?_
          refine g_cSi2 h hrk mi_L_below dL_law_218 ml_L_69 (Nat.le_of_ble_eq_true rfl) (Nat.le_of_ble_eq_true rfl) (sp_L_below (by decide) (by decide) (fun b hb => ?_))
          refine g_cVi2 h hrk mi_X10_dye dL_law_221 ml_L_203 rfl rfl rfl (Nat.le_of_ble_eq_true rfl) (Nat.le_of_ble_eq_true rfl) (qdye hW3 ha hb (fun r I' h' e' => ?_))
          refine g_pop h dL_law_224 rfl ?_
          refine g_goto h 318 dL_law_225 rfl ?_
          exact KB I' _ _ (h'.le (by omega) (by omega)) ⟨0, by omega, by rw [e']; exact (add0 _).symm⟩
      · refine g_aload_1 h dL_law_193 ?_
        refine g_iload_4 h dL_law_194 ?_
        refine g_iconst h dL_law_196 (v := nI 2) rfl ?_
        refine g_irem h dL_law_197 (by decide) ?_
        rw [pk_rem (by omega) (by decide) (by decide)]
        refine g_cVi1 h hrk mi_X10_rest dL_law_198 ml_L_200 rfl rfl rfl (Nat.le_of_ble_eq_true rfl) (Nat.le_of_ble_eq_true rfl) (qrest hW3 (by omega) (fun r I' h' e' => ?_))
        refine g_pop h dL_law_201 rfl ?_
        refine g_goto h 318 dL_law_202 rfl ?_
        exact KB I' _ _ (h'.le (by omega) (by omega)) ⟨0, by omega, by rw [e']; exact (add0 _).symm⟩
    · refine g_aload_1 h dL_law_168 ?_
      refine g_iload_4 h dL_law_169 ?_
      refine g_iload_3 h dL_law_171 ?_
      refine g_iconst h dL_law_172 (v := nI 5) rfl ?_
      refine g_ishr h dL_law_173 ?_
      refine g_sipush h dL_law_174 (v := nI 10000) rfl ?_
      refine g_cSi2 h hrk mi_L_below dL_law_177 ml_L_69 (Nat.le_of_ble_eq_true rfl) (Nat.le_of_ble_eq_true rfl) (sp_L_below (by decide) (by decide) (fun w hw => ?_))
      refine g_cVi2 h hrk mi_X10_set dL_law_180 ml_L_197 rfl rfl rfl (Nat.le_of_ble_eq_true rfl) (Nat.le_of_ble_eq_true rfl) (qset hW3 ha hw (fun r I' h' e' => ?_))
      refine g_pop h dL_law_183 rfl ?_
      refine g_goto h 318 dL_law_184 rfl ?_
      exact KB I' _ _ (h'.le (by omega) (by omega)) ⟨0, by omega, by rw [e']; exact (add0 _).symm⟩
  refine g_aload_1 h dL_law_63 ?_
  refine g_cVl0 h hrk mi_X10_digest dL_law_64 ml_L_181 rfl rfl rfl (Nat.le_of_ble_eq_true rfl) (Nat.le_of_ble_eq_true rfl) (qdig0 hW3 ?_)
  refine g_lload_5 h dL_law_67 ?_
  refine g_lcmp h dL_law_69 ?_
  refine g_if_ne h 130 dL_law_70 rfl (fun c => absurd (cmp_eq.mpr rfl) c) (fun _ => ?_)
  refine g_iload_8 h dL_law_73 ?_
  refine g_iconst h dL_law_75 (v := (-1)) rfl ?_
  refine g_icmp_lt h 130 dL_law_76 rfl (fun c => absurd c hU1) (fun _ => ?_)
  refine g_iload_8 h dL_law_79 ?_
  refine g_sipush h dL_law_81 (v := nI 150) rfl ?_
  refine g_icmp_gt h 130 dL_law_84 rfl (fun c => absurd c hU2) (fun _ => ?_)
  by_cases hw : wrgB (I3 25 (a % 2)) (cnb 5 (I3 24) (I3 (43 + a % 2)) (zS (dv I3) (a % 2))) = true
  · refine g_iload_8 h dL_law_87 ?_
    refine g_if_ne h 96 dL_law_89 rfl (fun c => absurd (hUz.mpr hw) c) (fun _ => ?_)
    refine g_iconst h dL_law_92 (v := nI 1) rfl ?_
    refine g_goto h 97 dL_law_93 rfl ?_
    refine g_aload_1 h dL_law_97 ?_
    refine g_iload_4 h dL_law_98 ?_
    refine g_iconst h dL_law_100 (v := nI 2) rfl ?_
    refine g_irem h dL_law_101 (by decide) ?_
    refine g_iconst h dL_law_102 (v := nI 3) rfl ?_
    rw [pk_rem (by omega) (by decide) (by decide)]
    refine g_cVi2 h hrk mi_X10_top dL_law_103 ml_L_194 rfl rfl rfl (Nat.le_of_ble_eq_true rfl) (Nat.le_of_ble_eq_true rfl) (qt3 hW3 (by omega) ?_)
    refine g_iconst h dL_law_106 (v := nI 1) rfl ?_
    refine g_icmp_ne h 114 dL_law_107 rfl (fun c => absurd (wr_b hw) c) (fun _ => ?_)
    refine g_iconst h dL_law_110 (v := nI 1) rfl ?_
    refine g_goto h 115 dL_law_111 rfl ?_
    refine g_icmp_ne h 130 dL_law_115 rfl (fun c => absurd rfl c) (fun _ => ?_)
    refine g_iload_9 h dL_law_118 ?_
    refine g_iconst h dL_law_120 (v := (-1)) rfl ?_
    refine g_icmp_lt h 130 dL_law_121 rfl (fun c => absurd c hV1) (fun _ => ?_)
    refine g_iload_9 h dL_law_124 ?_
    refine g_iconst h dL_law_126 (v := nI 1) rfl ?_
    refine g_icmp_le h 132 dL_law_127 rfl (fun _ => ?_) (fun c => absurd hV2 c)
    exact KA
  · refine g_iload_8 h dL_law_87 ?_
    refine g_if_ne h 96 dL_law_89 rfl (fun _ => ?_) (fun c => absurd (hUz.mp c) hw)
    refine g_iconst h dL_law_96 (v := nI 0) rfl ?_
    refine g_aload_1 h dL_law_97 ?_
    refine g_iload_4 h dL_law_98 ?_
    refine g_iconst h dL_law_100 (v := nI 2) rfl ?_
    refine g_irem h dL_law_101 (by decide) ?_
    refine g_iconst h dL_law_102 (v := nI 3) rfl ?_
    rw [pk_rem (by omega) (by decide) (by decide)]
    refine g_cVi2 h hrk mi_X10_top dL_law_103 ml_L_194 rfl rfl rfl (Nat.le_of_ble_eq_true rfl) (Nat.le_of_ble_eq_true rfl) (qt3 hW3 (by omega) ?_)
    refine g_iconst h dL_law_106 (v := nI 1) rfl ?_
    refine g_icmp_ne h 114 dL_law_107 rfl (fun _ => ?_) (fun c => absurd (c.symm.trans (wr_f hw)) (by decide))
    refine g_iconst h dL_law_114 (v := nI 0) rfl ?_
    refine g_icmp_ne h 130 dL_law_115 rfl (fun c => absurd rfl c) (fun _ => ?_)
    refine g_iload_9 h dL_law_118 ?_
    refine g_iconst h dL_law_120 (v := (-1)) rfl ?_
    refine g_icmp_lt h 130 dL_law_121 rfl (fun c => absurd c hV1) (fun _ => ?_)
    refine g_iload_9 h dL_law_124 ?_
    refine g_iconst h dL_law_126 (v := nI 1) rfl ?_
    refine g_icmp_le h 132 dL_law_127 rfl (fun _ => ?_) (fun c => absurd hV2 c)
    exact KA
set_option maxRecDepth 100000 in
set_option maxHeartbeats 4000000 in
theorem lw_loop {Γ : Cx} {d kc kn : Nat} {Φ : State → Prop} (hrk : Rok Γ kc kn) (h : Vc RL cL_law 13 (some .boolean) (d + 10) Γ) (K : ∀ I J P v3 v4 v5 v6 v7 v8 v9 v10 v11 v12, VG Γ kc kn 344 [some (.ref 500), some (.ref 0), some (.int (nI 20)), v3, v4, v5, v6, v7, v8, v9, v10, v11, v12] [] I J P Φ) : ∀ (f t T0 C0 : Nat) (I : MI) (J : MJ) (P : MP) (v3 : Option Value) (v4 : Option Value) (v5 : Option Value) (v6 : Option Value) (v7 : Option Value) (v8 : Option Value) (v9 : Option Value) (v10 : Option Value) (v11 : Option Value) (v12 : Option Value), t + f = 20 → T0 = 1920 * t → C0 = 80 * t → LW I P T0 C0 → VG Γ kc kn 7 [some (.ref 500), some (.ref 0), some (.int (nI t)), v3, v4, v5, v6, v7, v8, v9, v10, v11, v12] [] I J P Φ := by
  intro f
  induction f with
  | zero =>
    intro t T0 C0 I J P v3 v4 v5 v6 v7 v8 v9 v10 v11 v12 hf hT hC hW
    obtain rfl : t = 20 := by omega
    refine g_iload_2 h dL_law_7 ?_
    refine g_bipush h dL_law_8 (v := nI 20) rfl ?_
    refine g_icmp_ge h 344 dL_law_10 rfl (fun _ => ?_) (fun c => absurd (Int32.le_refl _) c)
    exact K _ _ _ _ _ _ _ _ _ _ _ _ _
  | succ f ih =>
    intro t T0 C0 I J P v3 v4 v5 v6 v7 v8 v9 v10 v11 v12 hf hT hC hW
    exact lw_round hW (by omega) (by omega) hrk h (by omega) (fun I' J' P' u3 u4 u5 u6 u7 u8 u9 u10 u11 u12 h' => ih (t + 1) _ _ I' J' P' u3 u4 u5 u6 u7 u8 u9 u10 u11 u12 (by omega) (by omega) (by omega) h')
