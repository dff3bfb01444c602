/-! The class's teacher: keywords, numbers, ends of lines, a token -/
set_option maxRecDepth 100000 in
set_option maxHeartbeats 8000000 in
theorem sp_X7_kwA {d k : Nat} (kp : k < 49) (k2 : ¬ k = 0 ∧ ¬ k = 2 ∧ ¬ k = 7 ∧ ¬ k = 9 ∧ ¬ k = 11 ∧ ¬ k = 14 ∧ ¬ k = 15) {ca : Int32} {I : MI} {J : MJ} {P : MP} {Q : Int32 → MI → MJ → MP → Prop} (hQ : Q (nI 0) (up2 I 10 8 (nI k)) J P) : Sp yX7_errorOfKeyword cX7_errorOfKeyword 6 (some .int) (d) [.ref 10, .ref 58, .int (nI k), .int ca] I J P (Qi Q) := by
  intro Γ h
  show VG Γ 0 0 0 [some (.ref 10), some (.ref 58), some (.int (nI k)), some (.int ca), none, none] [] _ _ _ _
  refine g_aload_0 h dX7_errorOfKeyword_0 ?_
  refine g_iload_2 h dX7_errorOfKeyword_1 ?_
  refine g_putI h fp_X7_42 dX7_errorOfKeyword_2 rfl rfl ?_
  refine g_iload_2 h dX7_errorOfKeyword_5 ?_
  refine g_if_eq h 38 dX7_errorOfKeyword_6 rfl (fun c => absurd (eqN (show nI k = nI 0 from c) (by omega) (by decide)) (by omega)) (fun _ => ?_)
  refine g_iload_2 h dX7_errorOfKeyword_9 ?_
  refine g_iconst h dX7_errorOfKeyword_10 (v := nI 2) rfl ?_
  refine g_icmp_eq h 38 dX7_errorOfKeyword_11 rfl (fun c => absurd (eqN (show nI k = nI 2 from c) (by omega) (by decide)) (by omega)) (fun _ => ?_)
  refine g_iload_2 h dX7_errorOfKeyword_14 ?_
  refine g_bipush h dX7_errorOfKeyword_15 (v := nI 7) rfl ?_
  refine g_icmp_eq h 38 dX7_errorOfKeyword_17 rfl (fun c => absurd (eqN (show nI k = nI 7 from c) (by omega) (by decide)) (by omega)) (fun _ => ?_)
  refine g_iload_2 h dX7_errorOfKeyword_20 ?_
  refine g_bipush h dX7_errorOfKeyword_21 (v := nI 9) rfl ?_
  refine g_icmp_eq h 38 dX7_errorOfKeyword_23 rfl (fun c => absurd (eqN (show nI k = nI 9 from c) (by omega) (by decide)) (by omega)) (fun _ => ?_)
  refine g_iload_2 h dX7_errorOfKeyword_26 ?_
  refine g_bipush h dX7_errorOfKeyword_27 (v := nI 11) rfl ?_
  refine g_icmp_eq h 38 dX7_errorOfKeyword_29 rfl (fun c => absurd (eqN (show nI k = nI 11 from c) (by omega) (by decide)) (by omega)) (fun _ => ?_)
  refine g_iload_2 h dX7_errorOfKeyword_32 ?_
  refine g_bipush h dX7_errorOfKeyword_33 (v := nI 14) rfl ?_
  refine g_icmp_ne h 42 dX7_errorOfKeyword_35 rfl (fun _ => ?_) (fun c => absurd (eqN (show nI k = nI 14 from c) (by omega) (by decide)) (by omega))
  refine g_iconst h dX7_errorOfKeyword_42 (v := nI 0) rfl ?_
  refine g_istore_4 h dX7_errorOfKeyword_43 (by decide) rfl ?_
  refine g_iload_4 h dX7_errorOfKeyword_45 ?_
  refine g_if_eq h 55 dX7_errorOfKeyword_47 rfl (fun _ => ?_) (fun c => absurd c (by decide))
  refine g_aload_1 h dX7_errorOfKeyword_55 ?_
  refine g_getI h fl_X7_90 dX7_errorOfKeyword_56 rfl rfl ?_
  refine g_istore_5 h dX7_errorOfKeyword_59 (by decide) rfl ?_
  refine g_iload_2 h dX7_errorOfKeyword_61 ?_
  refine g_bipush h dX7_errorOfKeyword_62 (v := nI 11) rfl ?_
  refine g_icmp_eq h 73 dX7_errorOfKeyword_64 rfl (fun c => absurd (eqN (show nI k = nI 11 from c) (by omega) (by decide)) (by omega)) (fun _ => ?_)
  refine g_iload_2 h dX7_errorOfKeyword_67 ?_
  refine g_bipush h dX7_errorOfKeyword_68 (v := nI 14) rfl ?_
  refine g_icmp_ne h 108 dX7_errorOfKeyword_70 rfl (fun _ => ?_) (fun c => absurd (eqN (show nI k = nI 14 from c) (by omega) (by decide)) (by omega))
  refine g_iload_2 h dX7_errorOfKeyword_108 ?_
  refine g_bipush h dX7_errorOfKeyword_109 (v := nI 15) rfl ?_
  refine g_icmp_ne h 129 dX7_errorOfKeyword_111 rfl (fun _ => ?_) (fun c => absurd (eqN (show nI k = nI 15 from c) (by omega) (by decide)) (by omega))
  refine g_iconst h dX7_errorOfKeyword_129 (v := nI 0) rfl ?_
  refine g_iret h dX7_errorOfKeyword_130 ?_
  exact hQ
set_option maxRecDepth 100000 in
set_option maxHeartbeats 8000000 in
theorem sp_X7_kw0 {d : Nat} {ca : Int32} {I : MI} {J : MJ} {P : MP} {Q : Int32 → MI → MJ → MP → Prop} (hQ : Q (nI 0) (up2 (up2 I 10 8 (nI 0)) 10 7 (nI 0)) J P) : Sp yX7_errorOfKeyword cX7_errorOfKeyword 6 (some .int) (d) [.ref 10, .ref 58, .int (nI 0), .int ca] I J P (Qi Q) := by
  intro Γ h
  show VG Γ 0 0 0 [some (.ref 10), some (.ref 58), some (.int (nI 0)), some (.int ca), none, none] [] _ _ _ _
  refine g_aload_0 h dX7_errorOfKeyword_0 ?_
  refine g_iload_2 h dX7_errorOfKeyword_1 ?_
  refine g_putI h fp_X7_42 dX7_errorOfKeyword_2 rfl rfl ?_
  refine g_iload_2 h dX7_errorOfKeyword_5 ?_
  refine g_if_eq h 38 dX7_errorOfKeyword_6 rfl (fun _ => ?_) (fun c => absurd c (by decide))
  refine g_iconst h dX7_errorOfKeyword_38 (v := nI 1) rfl ?_
  refine g_goto h 43 dX7_errorOfKeyword_39 rfl ?_
  refine g_istore_4 h dX7_errorOfKeyword_43 (by decide) rfl ?_
  refine g_iload_4 h dX7_errorOfKeyword_45 ?_
  refine g_if_eq h 55 dX7_errorOfKeyword_47 rfl (fun c => absurd c (by decide)) (fun _ => ?_)
  refine g_aload_0 h dX7_errorOfKeyword_50 ?_
  refine g_iload_2 h dX7_errorOfKeyword_51 ?_
  refine g_putI h fp_X7_39 dX7_errorOfKeyword_52 rfl rfl ?_
  refine g_aload_1 h dX7_errorOfKeyword_55 ?_
  refine g_getI h fl_X7_90 dX7_errorOfKeyword_56 rfl rfl ?_
  refine g_istore_5 h dX7_errorOfKeyword_59 (by decide) rfl ?_
  refine g_iload_2 h dX7_errorOfKeyword_61 ?_
  refine g_bipush h dX7_errorOfKeyword_62 (v := nI 11) rfl ?_
  refine g_icmp_eq h 73 dX7_errorOfKeyword_64 rfl (fun c => absurd c (by decide)) (fun _ => ?_)
  refine g_iload_2 h dX7_errorOfKeyword_67 ?_
  refine g_bipush h dX7_errorOfKeyword_68 (v := nI 14) rfl ?_
  refine g_icmp_ne h 108 dX7_errorOfKeyword_70 rfl (fun _ => ?_) (fun c => absurd c (by decide))
  refine g_iload_2 h dX7_errorOfKeyword_108 ?_
  refine g_bipush h dX7_errorOfKeyword_109 (v := nI 15) rfl ?_
  refine g_icmp_ne h 129 dX7_errorOfKeyword_111 rfl (fun _ => ?_) (fun c => absurd c (by decide))
  refine g_iconst h dX7_errorOfKeyword_129 (v := nI 0) rfl ?_
  refine g_iret h dX7_errorOfKeyword_130 ?_
  exact hQ
set_option maxRecDepth 100000 in
set_option maxHeartbeats 8000000 in
theorem sp_X7_kw2 {d : Nat} {ca : Int32} {I : MI} {J : MJ} {P : MP} {Q : Int32 → MI → MJ → MP → Prop} (hQ : Q (nI 0) (up2 (up2 I 10 8 (nI 2)) 10 7 (nI 2)) J P) : Sp yX7_errorOfKeyword cX7_errorOfKeyword 6 (some .int) (d) [.ref 10, .ref 58, .int (nI 2), .int ca] I J P (Qi Q) := by
  intro Γ h
  show VG Γ 0 0 0 [some (.ref 10), some (.ref 58), some (.int (nI 2)), some (.int ca), none, none] [] _ _ _ _
  refine g_aload_0 h dX7_errorOfKeyword_0 ?_
  refine g_iload_2 h dX7_errorOfKeyword_1 ?_
  refine g_putI h fp_X7_42 dX7_errorOfKeyword_2 rfl rfl ?_
  refine g_iload_2 h dX7_errorOfKeyword_5 ?_
  refine g_if_eq h 38 dX7_errorOfKeyword_6 rfl (fun c => absurd c (by decide)) (fun _ => ?_)
  refine g_iload_2 h dX7_errorOfKeyword_9 ?_
  refine g_iconst h dX7_errorOfKeyword_10 (v := nI 2) rfl ?_
  refine g_icmp_eq h 38 dX7_errorOfKeyword_11 rfl (fun _ => ?_) (fun c => absurd c (by decide))
  refine g_iconst h dX7_errorOfKeyword_38 (v := nI 1) rfl ?_
  refine g_goto h 43 dX7_errorOfKeyword_39 rfl ?_
  refine g_istore_4 h dX7_errorOfKeyword_43 (by decide) rfl ?_
  refine g_iload_4 h dX7_errorOfKeyword_45 ?_
  refine g_if_eq h 55 dX7_errorOfKeyword_47 rfl (fun c => absurd c (by decide)) (fun _ => ?_)
  refine g_aload_0 h dX7_errorOfKeyword_50 ?_
  refine g_iload_2 h dX7_errorOfKeyword_51 ?_
  refine g_putI h fp_X7_39 dX7_errorOfKeyword_52 rfl rfl ?_
  refine g_aload_1 h dX7_errorOfKeyword_55 ?_
  refine g_getI h fl_X7_90 dX7_errorOfKeyword_56 rfl rfl ?_
  refine g_istore_5 h dX7_errorOfKeyword_59 (by decide) rfl ?_
  refine g_iload_2 h dX7_errorOfKeyword_61 ?_
  refine g_bipush h dX7_errorOfKeyword_62 (v := nI 11) rfl ?_
  refine g_icmp_eq h 73 dX7_errorOfKeyword_64 rfl (fun c => absurd c (by decide)) (fun _ => ?_)
  refine g_iload_2 h dX7_errorOfKeyword_67 ?_
  refine g_bipush h dX7_errorOfKeyword_68 (v := nI 14) rfl ?_
  refine g_icmp_ne h 108 dX7_errorOfKeyword_70 rfl (fun _ => ?_) (fun c => absurd c (by decide))
  refine g_iload_2 h dX7_errorOfKeyword_108 ?_
  refine g_bipush h dX7_errorOfKeyword_109 (v := nI 15) rfl ?_
  refine g_icmp_ne h 129 dX7_errorOfKeyword_111 rfl (fun _ => ?_) (fun c => absurd c (by decide))
  refine g_iconst h dX7_errorOfKeyword_129 (v := nI 0) rfl ?_
  refine g_iret h dX7_errorOfKeyword_130 ?_
  exact hQ
set_option maxRecDepth 100000 in
set_option maxHeartbeats 8000000 in
theorem sp_X7_kw7 {d : Nat} {ca : Int32} {I : MI} {J : MJ} {P : MP} {Q : Int32 → MI → MJ → MP → Prop} (hQ : Q (nI 0) (up2 (up2 I 10 8 (nI 7)) 10 7 (nI 7)) J P) : Sp yX7_errorOfKeyword cX7_errorOfKeyword 6 (some .int) (d) [.ref 10, .ref 58, .int (nI 7), .int ca] I J P (Qi Q) := by
  intro Γ h
  show VG Γ 0 0 0 [some (.ref 10), some (.ref 58), some (.int (nI 7)), some (.int ca), none, none] [] _ _ _ _
  refine g_aload_0 h dX7_errorOfKeyword_0 ?_
  refine g_iload_2 h dX7_errorOfKeyword_1 ?_
  refine g_putI h fp_X7_42 dX7_errorOfKeyword_2 rfl rfl ?_
  refine g_iload_2 h dX7_errorOfKeyword_5 ?_
  refine g_if_eq h 38 dX7_errorOfKeyword_6 rfl (fun c => absurd c (by decide)) (fun _ => ?_)
  refine g_iload_2 h dX7_errorOfKeyword_9 ?_
  refine g_iconst h dX7_errorOfKeyword_10 (v := nI 2) rfl ?_
  refine g_icmp_eq h 38 dX7_errorOfKeyword_11 rfl (fun c => absurd c (by decide)) (fun _ => ?_)
  refine g_iload_2 h dX7_errorOfKeyword_14 ?_
  refine g_bipush h dX7_errorOfKeyword_15 (v := nI 7) rfl ?_
  refine g_icmp_eq h 38 dX7_errorOfKeyword_17 rfl (fun _ => ?_) (fun c => absurd c (by decide))
  refine g_iconst h dX7_errorOfKeyword_38 (v := nI 1) rfl ?_
  refine g_goto h 43 dX7_errorOfKeyword_39 rfl ?_
  refine g_istore_4 h dX7_errorOfKeyword_43 (by decide) rfl ?_
  refine g_iload_4 h dX7_errorOfKeyword_45 ?_
  refine g_if_eq h 55 dX7_errorOfKeyword_47 rfl (fun c => absurd c (by decide)) (fun _ => ?_)
  refine g_aload_0 h dX7_errorOfKeyword_50 ?_
  refine g_iload_2 h dX7_errorOfKeyword_51 ?_
  refine g_putI h fp_X7_39 dX7_errorOfKeyword_52 rfl rfl ?_
  refine g_aload_1 h dX7_errorOfKeyword_55 ?_
  refine g_getI h fl_X7_90 dX7_errorOfKeyword_56 rfl rfl ?_
  refine g_istore_5 h dX7_errorOfKeyword_59 (by decide) rfl ?_
  refine g_iload_2 h dX7_errorOfKeyword_61 ?_
  refine g_bipush h dX7_errorOfKeyword_62 (v := nI 11) rfl ?_
  refine g_icmp_eq h 73 dX7_errorOfKeyword_64 rfl (fun c => absurd c (by decide)) (fun _ => ?_)
  refine g_iload_2 h dX7_errorOfKeyword_67 ?_
  refine g_bipush h dX7_errorOfKeyword_68 (v := nI 14) rfl ?_
  refine g_icmp_ne h 108 dX7_errorOfKeyword_70 rfl (fun _ => ?_) (fun c => absurd c (by decide))
  refine g_iload_2 h dX7_errorOfKeyword_108 ?_
  refine g_bipush h dX7_errorOfKeyword_109 (v := nI 15) rfl ?_
  refine g_icmp_ne h 129 dX7_errorOfKeyword_111 rfl (fun _ => ?_) (fun c => absurd c (by decide))
  refine g_iconst h dX7_errorOfKeyword_129 (v := nI 0) rfl ?_
  refine g_iret h dX7_errorOfKeyword_130 ?_
  exact hQ
set_option maxRecDepth 100000 in
set_option maxHeartbeats 8000000 in
theorem sp_X7_kw9 {d : Nat} {ca : Int32} {I : MI} {J : MJ} {P : MP} {Q : Int32 → MI → MJ → MP → Prop} (hQ : Q (nI 0) (up2 (up2 I 10 8 (nI 9)) 10 7 (nI 9)) J P) : Sp yX7_errorOfKeyword cX7_errorOfKeyword 6 (some .int) (d) [.ref 10, .ref 58, .int (nI 9), .int ca] I J P (Qi Q) := by
  intro Γ h
  show VG Γ 0 0 0 [some (.ref 10), some (.ref 58), some (.int (nI 9)), some (.int ca), none, none] [] _ _ _ _
  refine g_aload_0 h dX7_errorOfKeyword_0 ?_
  refine g_iload_2 h dX7_errorOfKeyword_1 ?_
  refine g_putI h fp_X7_42 dX7_errorOfKeyword_2 rfl rfl ?_
  refine g_iload_2 h dX7_errorOfKeyword_5 ?_
  refine g_if_eq h 38 dX7_errorOfKeyword_6 rfl (fun c => absurd c (by decide)) (fun _ => ?_)
  refine g_iload_2 h dX7_errorOfKeyword_9 ?_
  refine g_iconst h dX7_errorOfKeyword_10 (v := nI 2) rfl ?_
  refine g_icmp_eq h 38 dX7_errorOfKeyword_11 rfl (fun c => absurd c (by decide)) (fun _ => ?_)
  refine g_iload_2 h dX7_errorOfKeyword_14 ?_
  refine g_bipush h dX7_errorOfKeyword_15 (v := nI 7) rfl ?_
  refine g_icmp_eq h 38 dX7_errorOfKeyword_17 rfl (fun c => absurd c (by decide)) (fun _ => ?_)
  refine g_iload_2 h dX7_errorOfKeyword_20 ?_
  refine g_bipush h dX7_errorOfKeyword_21 (v := nI 9) rfl ?_
  refine g_icmp_eq h 38 dX7_errorOfKeyword_23 rfl (fun _ => ?_) (fun c => absurd c (by decide))
  refine g_iconst h dX7_errorOfKeyword_38 (v := nI 1) rfl ?_
  refine g_goto h 43 dX7_errorOfKeyword_39 rfl ?_
  refine g_istore_4 h dX7_errorOfKeyword_43 (by decide) rfl ?_
  refine g_iload_4 h dX7_errorOfKeyword_45 ?_
  refine g_if_eq h 55 dX7_errorOfKeyword_47 rfl (fun c => absurd c (by decide)) (fun _ => ?_)
  refine g_aload_0 h dX7_errorOfKeyword_50 ?_
  refine g_iload_2 h dX7_errorOfKeyword_51 ?_
  refine g_putI h fp_X7_39 dX7_errorOfKeyword_52 rfl rfl ?_
  refine g_aload_1 h dX7_errorOfKeyword_55 ?_
  refine g_getI h fl_X7_90 dX7_errorOfKeyword_56 rfl rfl ?_
  refine g_istore_5 h dX7_errorOfKeyword_59 (by decide) rfl ?_
  refine g_iload_2 h dX7_errorOfKeyword_61 ?_
  refine g_bipush h dX7_errorOfKeyword_62 (v := nI 11) rfl ?_
  refine g_icmp_eq h 73 dX7_errorOfKeyword_64 rfl (fun c => absurd c (by decide)) (fun _ => ?_)
  refine g_iload_2 h dX7_errorOfKeyword_67 ?_
  refine g_bipush h dX7_errorOfKeyword_68 (v := nI 14) rfl ?_
  refine g_icmp_ne h 108 dX7_errorOfKeyword_70 rfl (fun _ => ?_) (fun c => absurd c (by decide))
  refine g_iload_2 h dX7_errorOfKeyword_108 ?_
  refine g_bipush h dX7_errorOfKeyword_109 (v := nI 15) rfl ?_
  refine g_icmp_ne h 129 dX7_errorOfKeyword_111 rfl (fun _ => ?_) (fun c => absurd c (by decide))
  refine g_iconst h dX7_errorOfKeyword_129 (v := nI 0) rfl ?_
  refine g_iret h dX7_errorOfKeyword_130 ?_
  exact hQ
set_option maxRecDepth 100000 in
set_option maxHeartbeats 8000000 in
theorem sp_X7_kw11 {d q : Nat} (hq : q ≤ 20) {ca : Int32} {I : MI} {J : MJ} {P : MP} (hc : I 58 4 = nI q) {Q : Int32 → MI → MJ → MP → Prop} (h4 : 20 ≤ q → Q (nI 4) (up2 (up2 I 10 8 (nI 11)) 10 7 (nI 11)) J P) (h0 : q < 20 → Q (nI 0) (up2 (up2 (up2 (up2 I 10 8 (nI 11)) 10 7 (nI 11)) 72 q (nI 1)) 75 q (-1)) J P) : Sp yX7_errorOfKeyword cX7_errorOfKeyword 6 (some .int) (d) [.ref 10, .ref 58, .int (nI 11), .int ca] I J P (Qi Q) := by
  intro Γ h
  show VG Γ 0 0 0 [some (.ref 10), some (.ref 58), some (.int (nI 11)), some (.int ca), none, none] [] _ _ _ _
  refine g_aload_0 h dX7_errorOfKeyword_0 ?_
  refine g_iload_2 h dX7_errorOfKeyword_1 ?_
  refine g_putI h fp_X7_42 dX7_errorOfKeyword_2 rfl rfl ?_
  refine g_iload_2 h dX7_errorOfKeyword_5 ?_
  refine g_if_eq h 38 dX7_errorOfKeyword_6 rfl (fun c => absurd c (by decide)) (fun _ => ?_)
  refine g_iload_2 h dX7_errorOfKeyword_9 ?_
  refine g_iconst h dX7_errorOfKeyword_10 (v := nI 2) rfl ?_
  refine g_icmp_eq h 38 dX7_errorOfKeyword_11 rfl (fun c => absurd c (by decide)) (fun _ => ?_)
  refine g_iload_2 h dX7_errorOfKeyword_14 ?_
  refine g_bipush h dX7_errorOfKeyword_15 (v := nI 7) rfl ?_
  refine g_icmp_eq h 38 dX7_errorOfKeyword_17 rfl (fun c => absurd c (by decide)) (fun _ => ?_)
  refine g_iload_2 h dX7_errorOfKeyword_20 ?_
  refine g_bipush h dX7_errorOfKeyword_21 (v := nI 9) rfl ?_
  refine g_icmp_eq h 38 dX7_errorOfKeyword_23 rfl (fun c => absurd c (by decide)) (fun _ => ?_)
  refine g_iload_2 h dX7_errorOfKeyword_26 ?_
  refine g_bipush h dX7_errorOfKeyword_27 (v := nI 11) rfl ?_
  refine g_icmp_eq h 38 dX7_errorOfKeyword_29 rfl (fun _ => ?_) (fun c => absurd c (by decide))
  refine g_iconst h dX7_errorOfKeyword_38 (v := nI 1) rfl ?_
  refine g_goto h 43 dX7_errorOfKeyword_39 rfl ?_
  refine g_istore_4 h dX7_errorOfKeyword_43 (by decide) rfl ?_
  refine g_iload_4 h dX7_errorOfKeyword_45 ?_
  refine g_if_eq h 55 dX7_errorOfKeyword_47 rfl (fun c => absurd c (by decide)) (fun _ => ?_)
  refine g_aload_0 h dX7_errorOfKeyword_50 ?_
  refine g_iload_2 h dX7_errorOfKeyword_51 ?_
  refine g_putI h fp_X7_39 dX7_errorOfKeyword_52 rfl rfl ?_
  refine g_aload_1 h dX7_errorOfKeyword_55 ?_
  refine g_getI h fl_X7_90 dX7_errorOfKeyword_56 rfl rfl ?_
  rw [show up2 (up2 I 10 8 (nI 11)) 10 7 (nI 11) 58 4 = nI q from hc]
  refine g_istore_5 h dX7_errorOfKeyword_59 (by decide) rfl ?_
  refine g_iload_2 h dX7_errorOfKeyword_61 ?_
  refine g_bipush h dX7_errorOfKeyword_62 (v := nI 11) rfl ?_
  refine g_icmp_eq h 73 dX7_errorOfKeyword_64 rfl (fun _ => ?_) (fun c => absurd c (by decide))
  refine g_iload_5 h dX7_errorOfKeyword_73 ?_
  refine g_bipush h dX7_errorOfKeyword_75 (v := nI 20) rfl ?_
  refine g_icmp_lt h 82 dX7_errorOfKeyword_77 rfl (fun c77 => ?_) (fun c77 => ?_)
  · have q2 : q < 20 := ltN c77 (by omega) (by decide)
    refine g_aload_1 h dX7_errorOfKeyword_82 ?_
    refine g_getC h fl_X7_93 dX7_errorOfKeyword_83 rfl rfl ?_
    refine g_iload_5 h dX7_errorOfKeyword_86 ?_
    refine g_iload_2 h dX7_errorOfKeyword_88 ?_
    refine g_bipush h dX7_errorOfKeyword_89 (v := nI 11) rfl ?_
    refine g_icmp_ne h 98 dX7_errorOfKeyword_91 rfl (fun c => absurd c (by decide)) (fun _ => ?_)
    refine g_iconst h dX7_errorOfKeyword_94 (v := nI 1) rfl ?_
    refine g_goto h 99 dX7_errorOfKeyword_95 rfl ?_
    refine g_zast h q dX7_errorOfKeyword_99 rfl rfl q2 ?_
    refine g_aload_1 h dX7_errorOfKeyword_100 ?_
    refine g_getC h fl_X7_97 dX7_errorOfKeyword_101 rfl rfl ?_
    refine g_iload_5 h dX7_errorOfKeyword_104 ?_
    refine g_iconst h dX7_errorOfKeyword_106 (v := (-1)) rfl ?_
    refine g_iast h q dX7_errorOfKeyword_107 rfl rfl q2 ?_
    refine g_iload_2 h dX7_errorOfKeyword_108 ?_
    refine g_bipush h dX7_errorOfKeyword_109 (v := nI 15) rfl ?_
    refine g_icmp_ne h 129 dX7_errorOfKeyword_111 rfl (fun _ => ?_) (fun c => absurd c (by decide))
    refine g_iconst h dX7_errorOfKeyword_129 (v := nI 0) rfl ?_
    refine g_iret h dX7_errorOfKeyword_130 ?_
    exact h0 q2
  · refine g_iconst h dX7_errorOfKeyword_80 (v := nI 4) rfl ?_
    refine g_iret h dX7_errorOfKeyword_81 ?_
    exact h4 (Nat.le_of_not_lt (fun r => c77 (nI_lt r (by decide))))
set_option maxRecDepth 100000 in
set_option maxHeartbeats 8000000 in
theorem sp_X7_kw14 {d q : Nat} (hq : q ≤ 20) {ca : Int32} {I : MI} {J : MJ} {P : MP} (hc : I 58 4 = nI q) {Q : Int32 → MI → MJ → MP → Prop} (h4 : 20 ≤ q → Q (nI 4) (up2 (up2 I 10 8 (nI 14)) 10 7 (nI 14)) J P) (h0 : q < 20 → Q (nI 0) (up2 (up2 (up2 (up2 I 10 8 (nI 14)) 10 7 (nI 14)) 72 q (nI 0)) 75 q (-1)) J P) : Sp yX7_errorOfKeyword cX7_errorOfKeyword 6 (some .int) (d) [.ref 10, .ref 58, .int (nI 14), .int ca] I J P (Qi Q) := by
  intro Γ h
  show VG Γ 0 0 0 [some (.ref 10), some (.ref 58), some (.int (nI 14)), some (.int ca), none, none] [] _ _ _ _
  refine g_aload_0 h dX7_errorOfKeyword_0 ?_
  refine g_iload_2 h dX7_errorOfKeyword_1 ?_
  refine g_putI h fp_X7_42 dX7_errorOfKeyword_2 rfl rfl ?_
  refine g_iload_2 h dX7_errorOfKeyword_5 ?_
  refine g_if_eq h 38 dX7_errorOfKeyword_6 rfl (fun c => absurd c (by decide)) (fun _ => ?_)
  refine g_iload_2 h dX7_errorOfKeyword_9 ?_
  refine g_iconst h dX7_errorOfKeyword_10 (v := nI 2) rfl ?_
  refine g_icmp_eq h 38 dX7_errorOfKeyword_11 rfl (fun c => absurd c (by decide)) (fun _ => ?_)
  refine g_iload_2 h dX7_errorOfKeyword_14 ?_
  refine g_bipush h dX7_errorOfKeyword_15 (v := nI 7) rfl ?_
  refine g_icmp_eq h 38 dX7_errorOfKeyword_17 rfl (fun c => absurd c (by decide)) (fun _ => ?_)
  refine g_iload_2 h dX7_errorOfKeyword_20 ?_
  refine g_bipush h dX7_errorOfKeyword_21 (v := nI 9) rfl ?_
  refine g_icmp_eq h 38 dX7_errorOfKeyword_23 rfl (fun c => absurd c (by decide)) (fun _ => ?_)
  refine g_iload_2 h dX7_errorOfKeyword_26 ?_
  refine g_bipush h dX7_errorOfKeyword_27 (v := nI 11) rfl ?_
  refine g_icmp_eq h 38 dX7_errorOfKeyword_29 rfl (fun c => absurd c (by decide)) (fun _ => ?_)
  refine g_iload_2 h dX7_errorOfKeyword_32 ?_
  refine g_bipush h dX7_errorOfKeyword_33 (v := nI 14) rfl ?_
  refine g_icmp_ne h 42 dX7_errorOfKeyword_35 rfl (fun c => absurd c (by decide)) (fun _ => ?_)
  refine g_iconst h dX7_errorOfKeyword_38 (v := nI 1) rfl ?_
  refine g_goto h 43 dX7_errorOfKeyword_39 rfl ?_
  refine g_istore_4 h dX7_errorOfKeyword_43 (by decide) rfl ?_
  refine g_iload_4 h dX7_errorOfKeyword_45 ?_
  refine g_if_eq h 55 dX7_errorOfKeyword_47 rfl (fun c => absurd c (by decide)) (fun _ => ?_)
  refine g_aload_0 h dX7_errorOfKeyword_50 ?_
  refine g_iload_2 h dX7_errorOfKeyword_51 ?_
  refine g_putI h fp_X7_39 dX7_errorOfKeyword_52 rfl rfl ?_
  refine g_aload_1 h dX7_errorOfKeyword_55 ?_
  refine g_getI h fl_X7_90 dX7_errorOfKeyword_56 rfl rfl ?_
  rw [show up2 (up2 I 10 8 (nI 14)) 10 7 (nI 14) 58 4 = nI q from hc]
  refine g_istore_5 h dX7_errorOfKeyword_59 (by decide) rfl ?_
  refine g_iload_2 h dX7_errorOfKeyword_61 ?_
  refine g_bipush h dX7_errorOfKeyword_62 (v := nI 11) rfl ?_
  refine g_icmp_eq h 73 dX7_errorOfKeyword_64 rfl (fun c => absurd c (by decide)) (fun _ => ?_)
  refine g_iload_2 h dX7_errorOfKeyword_67 ?_
  refine g_bipush h dX7_errorOfKeyword_68 (v := nI 14) rfl ?_
  refine g_icmp_ne h 108 dX7_errorOfKeyword_70 rfl (fun c => absurd c (by decide)) (fun _ => ?_)
  refine g_iload_5 h dX7_errorOfKeyword_73 ?_
  refine g_bipush h dX7_errorOfKeyword_75 (v := nI 20) rfl ?_
  refine g_icmp_lt h 82 dX7_errorOfKeyword_77 rfl (fun c77 => ?_) (fun c77 => ?_)
  · have q2 : q < 20 := ltN c77 (by omega) (by decide)
    refine g_aload_1 h dX7_errorOfKeyword_82 ?_
    refine g_getC h fl_X7_93 dX7_errorOfKeyword_83 rfl rfl ?_
    refine g_iload_5 h dX7_errorOfKeyword_86 ?_
    refine g_iload_2 h dX7_errorOfKeyword_88 ?_
    refine g_bipush h dX7_errorOfKeyword_89 (v := nI 11) rfl ?_
    refine g_icmp_ne h 98 dX7_errorOfKeyword_91 rfl (fun _ => ?_) (fun c => absurd c (by decide))
    refine g_iconst h dX7_errorOfKeyword_98 (v := nI 0) rfl ?_
    refine g_zast h q dX7_errorOfKeyword_99 rfl rfl q2 ?_
    refine g_aload_1 h dX7_errorOfKeyword_100 ?_
    refine g_getC h fl_X7_97 dX7_errorOfKeyword_101 rfl rfl ?_
    refine g_iload_5 h dX7_errorOfKeyword_104 ?_
    refine g_iconst h dX7_errorOfKeyword_106 (v := (-1)) rfl ?_
    refine g_iast h q dX7_errorOfKeyword_107 rfl rfl q2 ?_
    refine g_iload_2 h dX7_errorOfKeyword_108 ?_
    refine g_bipush h dX7_errorOfKeyword_109 (v := nI 15) rfl ?_
    refine g_icmp_ne h 129 dX7_errorOfKeyword_111 rfl (fun _ => ?_) (fun c => absurd c (by decide))
    refine g_iconst h dX7_errorOfKeyword_129 (v := nI 0) rfl ?_
    refine g_iret h dX7_errorOfKeyword_130 ?_
    exact h0 q2
  · refine g_iconst h dX7_errorOfKeyword_80 (v := nI 4) rfl ?_
    refine g_iret h dX7_errorOfKeyword_81 ?_
    exact h4 (Nat.le_of_not_lt (fun r => c77 (nI_lt r (by decide))))
set_option maxRecDepth 100000 in
set_option maxHeartbeats 8000000 in
theorem sp_X7_kw15 {d q : Nat} (hq : q < 20) {ca : Int32} {I : MI} {J : MJ} {P : MP} (hc : I 58 4 = nI q) {Q : Int32 → MI → MJ → MP → Prop} (hQ : Q (nI 0) (up2 (up2 I 10 8 (nI 15)) 75 q ca) J P) : Sp yX7_errorOfKeyword cX7_errorOfKeyword 6 (some .int) (d) [.ref 10, .ref 58, .int (nI 15), .int ca] I J P (Qi Q) := by
  intro Γ h
  show VG Γ 0 0 0 [some (.ref 10), some (.ref 58), some (.int (nI 15)), some (.int ca), none, none] [] _ _ _ _
  refine g_aload_0 h dX7_errorOfKeyword_0 ?_
  refine g_iload_2 h dX7_errorOfKeyword_1 ?_
  refine g_putI h fp_X7_42 dX7_errorOfKeyword_2 rfl rfl ?_
  refine g_iload_2 h dX7_errorOfKeyword_5 ?_
  refine g_if_eq h 38 dX7_errorOfKeyword_6 rfl (fun c => absurd c (by decide)) (fun _ => ?_)
  refine g_iload_2 h dX7_errorOfKeyword_9 ?_
  refine g_iconst h dX7_errorOfKeyword_10 (v := nI 2) rfl ?_
  refine g_icmp_eq h 38 dX7_errorOfKeyword_11 rfl (fun c => absurd c (by decide)) (fun _ => ?_)
  refine g_iload_2 h dX7_errorOfKeyword_14 ?_
  refine g_bipush h dX7_errorOfKeyword_15 (v := nI 7) rfl ?_
  refine g_icmp_eq h 38 dX7_errorOfKeyword_17 rfl (fun c => absurd c (by decide)) (fun _ => ?_)
  refine g_iload_2 h dX7_errorOfKeyword_20 ?_
  refine g_bipush h dX7_errorOfKeyword_21 (v := nI 9) rfl ?_
  refine g_icmp_eq h 38 dX7_errorOfKeyword_23 rfl (fun c => absurd c (by decide)) (fun _ => ?_)
  refine g_iload_2 h dX7_errorOfKeyword_26 ?_
  refine g_bipush h dX7_errorOfKeyword_27 (v := nI 11) rfl ?_
  refine g_icmp_eq h 38 dX7_errorOfKeyword_29 rfl (fun c => absurd c (by decide)) (fun _ => ?_)
  refine g_iload_2 h dX7_errorOfKeyword_32 ?_
  refine g_bipush h dX7_errorOfKeyword_33 (v := nI 14) rfl ?_
  refine g_icmp_ne h 42 dX7_errorOfKeyword_35 rfl (fun _ => ?_) (fun c => absurd c (by decide))
  refine g_iconst h dX7_errorOfKeyword_42 (v := nI 0) rfl ?_
  refine g_istore_4 h dX7_errorOfKeyword_43 (by decide) rfl ?_
  refine g_iload_4 h dX7_errorOfKeyword_45 ?_
  refine g_if_eq h 55 dX7_errorOfKeyword_47 rfl (fun _ => ?_) (fun c => absurd c (by decide))
  refine g_aload_1 h dX7_errorOfKeyword_55 ?_
  refine g_getI h fl_X7_90 dX7_errorOfKeyword_56 rfl rfl ?_
  rw [show up2 I 10 8 (nI 15) 58 4 = nI q from hc]
  refine g_istore_5 h dX7_errorOfKeyword_59 (by decide) rfl ?_
  refine g_iload_2 h dX7_errorOfKeyword_61 ?_
  refine g_bipush h dX7_errorOfKeyword_62 (v := nI 11) rfl ?_
  refine g_icmp_eq h 73 dX7_errorOfKeyword_64 rfl (fun c => absurd c (by decide)) (fun _ => ?_)
  refine g_iload_2 h dX7_errorOfKeyword_67 ?_
  refine g_bipush h dX7_errorOfKeyword_68 (v := nI 14) rfl ?_
  refine g_icmp_ne h 108 dX7_errorOfKeyword_70 rfl (fun _ => ?_) (fun c => absurd c (by decide))
  refine g_iload_2 h dX7_errorOfKeyword_108 ?_
  refine g_bipush h dX7_errorOfKeyword_109 (v := nI 15) rfl ?_
  refine g_icmp_ne h 129 dX7_errorOfKeyword_111 rfl (fun c => absurd c (by decide)) (fun _ => ?_)
  refine g_iload_5 h dX7_errorOfKeyword_114 ?_
  refine g_bipush h dX7_errorOfKeyword_116 (v := nI 20) rfl ?_
  refine g_icmp_ge h 129 dX7_errorOfKeyword_118 rfl (fun c => absurd c (nI_ge hq (by decide))) (fun _ => ?_)
  refine g_aload_1 h dX7_errorOfKeyword_121 ?_
  refine g_getC h fl_X7_97 dX7_errorOfKeyword_122 rfl rfl ?_
  refine g_iload_5 h dX7_errorOfKeyword_125 ?_
  refine g_iload_3 h dX7_errorOfKeyword_127 ?_
  refine g_iast h q dX7_errorOfKeyword_128 rfl rfl hq ?_
  refine g_iconst h dX7_errorOfKeyword_129 (v := nI 0) rfl ?_
  refine g_iret h dX7_errorOfKeyword_130 ?_
  exact hQ
set_option maxRecDepth 100000 in
set_option maxHeartbeats 8000000 in
theorem sp_X7_num1 {d N : Nat} {v : Int32} {I : MI} {J : MJ} {P : MP} (hN : N < 6) (hk : I 10 8 = nI 1) (hc : I 58 0 = nI N) {Q : Int32 → MI → MJ → MP → Prop} (h5 : nI 99 < v → Q (nI 5) I J P) (h0 : v ≤ nI 99 → Q (nI 0) (up2 I 59 N v) J P) : Sp yX7_errorOfNumber cX7_errorOfNumber 3 (some .int) (d) [.ref 10, .ref 58, .int v] I J P (Qi Q) := by
  intro Γ h
  show VG Γ 0 0 0 [some (.ref 10), some (.ref 58), some (.int v)] [] _ _ _ _
  refine g_aload_0 h dX7_errorOfNumber_0 ?_
  refine g_getI h fl_X7_42 dX7_errorOfNumber_1 rfl rfl ?_
  · refine g_lk h 1 40 dX7_errorOfNumber_4 hk (by decide) (by decide) (by decide : Op.lookupswitch.offset #[(1, 36), (6, 65), (10, 95)].toList 128 (((1 : Nat)) : Int) = 36) rfl ?_
    refine g_iload_2 h dX7_errorOfNumber_40 ?_
    refine g_bipush h dX7_errorOfNumber_41 (v := nI 99) rfl ?_
    refine g_icmp_le h 48 dX7_errorOfNumber_43 rfl (fun c43 => ?_) (fun c43 => ?_)
    · refine g_aload_1 h dX7_errorOfNumber_48 ?_
      refine g_getI h fl_X7_100 dX7_errorOfNumber_49 rfl rfl ?_
      refine g_bipush h dX7_errorOfNumber_52 (v := nI 6) rfl ?_
      refine g_icmp_ge h 67 dX7_errorOfNumber_54 rfl (fun c => absurd (by rw [hc] at c; exact c) (nI_ge hN (by decide))) (fun _ => ?_)
      refine g_aload_1 h dX7_errorOfNumber_57 ?_
      refine g_getC h fl_X7_103 dX7_errorOfNumber_58 rfl rfl ?_
      refine g_aload_1 h dX7_errorOfNumber_61 ?_
      refine g_getI h fl_X7_100 dX7_errorOfNumber_62 rfl rfl ?_
      refine g_iload_2 h dX7_errorOfNumber_65 ?_
      refine g_iast h N dX7_errorOfNumber_66 rfl hc hN ?_
      refine g_iconst h dX7_errorOfNumber_67 (v := nI 0) rfl ?_
      refine g_iret h dX7_errorOfNumber_68 ?_
      exact h0 c43
    · refine g_iconst h dX7_errorOfNumber_46 (v := nI 5) rfl ?_
      refine g_iret h dX7_errorOfNumber_47 ?_
      exact h5 (Int32.not_le.mp c43)
set_option maxRecDepth 100000 in
set_option maxHeartbeats 8000000 in
theorem sp_X7_num6 {d N : Nat} {v : Int32} {I : MI} {J : MJ} {P : MP} (hN : N < 16) (hk : I 10 8 = nI 6) (hc : I 58 1 = nI N) {Q : Int32 → MI → MJ → MP → Prop} (h5 : nI 9999 < v → Q (nI 5) I J P) (h0 : v ≤ nI 9999 → Q (nI 0) (up2 I 62 N v) J P) : Sp yX7_errorOfNumber cX7_errorOfNumber 3 (some .int) (d) [.ref 10, .ref 58, .int v] I J P (Qi Q) := by
  intro Γ h
  show VG Γ 0 0 0 [some (.ref 10), some (.ref 58), some (.int v)] [] _ _ _ _
  refine g_aload_0 h dX7_errorOfNumber_0 ?_
  refine g_getI h fl_X7_42 dX7_errorOfNumber_1 rfl rfl ?_
  · refine g_lk h 6 69 dX7_errorOfNumber_4 hk (by decide) (by decide) (by decide : Op.lookupswitch.offset #[(1, 36), (6, 65), (10, 95)].toList 128 (((6 : Nat)) : Int) = 65) rfl ?_
    refine g_iload_2 h dX7_errorOfNumber_69 ?_
    refine g_sipush h dX7_errorOfNumber_70 (v := nI 9999) rfl ?_
    refine g_icmp_le h 78 dX7_errorOfNumber_73 rfl (fun c73 => ?_) (fun c73 => ?_)
    · refine g_aload_1 h dX7_errorOfNumber_78 ?_
      refine g_getI h fl_X7_106 dX7_errorOfNumber_79 rfl rfl ?_
      refine g_bipush h dX7_errorOfNumber_82 (v := nI 16) rfl ?_
      refine g_icmp_ge h 97 dX7_errorOfNumber_84 rfl (fun c => absurd (by rw [hc] at c; exact c) (nI_ge hN (by decide))) (fun _ => ?_)
      refine g_aload_1 h dX7_errorOfNumber_87 ?_
      refine g_getC h fl_X7_109 dX7_errorOfNumber_88 rfl rfl ?_
      refine g_aload_1 h dX7_errorOfNumber_91 ?_
      refine g_getI h fl_X7_106 dX7_errorOfNumber_92 rfl rfl ?_
      refine g_iload_2 h dX7_errorOfNumber_95 ?_
      refine g_iast h N dX7_errorOfNumber_96 rfl hc hN ?_
      refine g_iconst h dX7_errorOfNumber_97 (v := nI 0) rfl ?_
      refine g_iret h dX7_errorOfNumber_98 ?_
      exact h0 c73
    · refine g_iconst h dX7_errorOfNumber_76 (v := nI 5) rfl ?_
      refine g_iret h dX7_errorOfNumber_77 ?_
      exact h5 (Int32.not_le.mp c73)
set_option maxRecDepth 100000 in
set_option maxHeartbeats 8000000 in
theorem sp_X7_num10 {d N : Nat} {v : Int32} {I : MI} {J : MJ} {P : MP} (hN : N < 5) (hk : I 10 8 = nI 10) (hc : I 58 3 = nI N) {Q : Int32 → MI → MJ → MP → Prop} (h5 : v < nI 1 ∨ nI 9 < v → Q (nI 5) I J P) (h0 : nI 1 ≤ v → v ≤ nI 9 → Q (nI 0) (up2 I 71 N v) J P) : Sp yX7_errorOfNumber cX7_errorOfNumber 3 (some .int) (d) [.ref 10, .ref 58, .int v] I J P (Qi Q) := by
  intro Γ h
  show VG Γ 0 0 0 [some (.ref 10), some (.ref 58), some (.int v)] [] _ _ _ _
  refine g_aload_0 h dX7_errorOfNumber_0 ?_
  refine g_getI h fl_X7_42 dX7_errorOfNumber_1 rfl rfl ?_
  · refine g_lk h 10 99 dX7_errorOfNumber_4 hk (by decide) (by decide) (by decide : Op.lookupswitch.offset #[(1, 36), (6, 65), (10, 95)].toList 128 (((10 : Nat)) : Int) = 95) rfl ?_
    refine g_iload_2 h dX7_errorOfNumber_99 ?_
    refine g_iconst h dX7_errorOfNumber_100 (v := nI 1) rfl ?_
    refine g_icmp_lt h 110 dX7_errorOfNumber_101 rfl (fun c101 => ?_) (fun c101 => ?_)
    · refine g_iconst h dX7_errorOfNumber_110 (v := nI 5) rfl ?_
      refine g_iret h dX7_errorOfNumber_111 ?_
      first
        | exact h5 (Or.inl c101)
        | exact h5 (Or.inr (Int32.not_le.mp c107))
    · refine g_iload_2 h dX7_errorOfNumber_104 ?_
      refine g_bipush h dX7_errorOfNumber_105 (v := nI 9) rfl ?_
      refine g_icmp_le h 112 dX7_errorOfNumber_107 rfl (fun c107 => ?_) (fun c107 => ?_)
      · refine g_aload_1 h dX7_errorOfNumber_112 ?_
        refine g_getI h fl_X7_112 dX7_errorOfNumber_113 rfl rfl ?_
        refine g_iconst h dX7_errorOfNumber_116 (v := nI 5) rfl ?_
        refine g_icmp_ge h 130 dX7_errorOfNumber_117 rfl (fun c => absurd (by rw [hc] at c; exact c) (nI_ge hN (by decide))) (fun _ => ?_)
        refine g_aload_1 h dX7_errorOfNumber_120 ?_
        refine g_getC h fl_X7_115 dX7_errorOfNumber_121 rfl rfl ?_
        refine g_aload_1 h dX7_errorOfNumber_124 ?_
        refine g_getI h fl_X7_112 dX7_errorOfNumber_125 rfl rfl ?_
        refine g_iload_2 h dX7_errorOfNumber_128 ?_
        refine g_iast h N dX7_errorOfNumber_129 rfl hc hN ?_
        refine g_iconst h dX7_errorOfNumber_130 (v := nI 0) rfl ?_
        refine g_iret h dX7_errorOfNumber_131 ?_
        exact h0 (Int32.not_lt.mp c101) c107
      · refine g_iconst h dX7_errorOfNumber_110 (v := nI 5) rfl ?_
        refine g_iret h dX7_errorOfNumber_111 ?_
        first
          | exact h5 (Or.inl c101)
          | exact h5 (Or.inr (Int32.not_le.mp c107))
set_option maxRecDepth 100000 in
set_option maxHeartbeats 8000000 in
theorem sp_X7_numD {d k : Nat} (kp : k < 49) (k2 : ¬ k = 1 ∧ ¬ k = 6 ∧ ¬ k = 10) {v : Int32} {I : MI} {J : MJ} {P : MP} (hk : I 10 8 = nI k) {Q : Int32 → MI → MJ → MP → Prop} (hQ : Q (nI 0) I J P) : Sp yX7_errorOfNumber cX7_errorOfNumber 3 (some .int) (d) [.ref 10, .ref 58, .int v] I J P (Qi Q) := by
  intro Γ h
  show VG Γ 0 0 0 [some (.ref 10), some (.ref 58), some (.int v)] [] _ _ _ _
  refine g_aload_0 h dX7_errorOfNumber_0 ?_
  refine g_getI h fl_X7_42 dX7_errorOfNumber_1 rfl rfl ?_
  · refine g_lk h k 132 dX7_errorOfNumber_4 hk (by omega) (by decide) ((by decide : ∀ k : Nat, k < 49 → (¬ k = 1 ∧ ¬ k = 6 ∧ ¬ k = 10) → Op.lookupswitch.offset #[(1, 36), (6, 65), (10, 95)].toList 128 (k : Int) = 128) _ kp k2) rfl ?_
    refine g_iconst h dX7_errorOfNumber_132 (v := nI 0) rfl ?_
    refine g_iret h dX7_errorOfNumber_133 ?_
    exact hQ
set_option maxRecDepth 100000 in
set_option maxHeartbeats 8000000 in
theorem sp_X7_endOrder {d q : Nat} (hq : q < 20) {ca : Int32} {I : MI} {J : MJ} {P : MP} (hc : I 58 4 = nI q) {Q : MI → MJ → MP → Prop} (h1 : ¬ I 75 q = -1 → Q (up2 (up2 I 76 q ca) 58 4 (nI (q + 1))) J P) (h0 : I 75 q = -1 → Q (up2 (up2 (up2 I 76 q ca) 75 q ca) 58 4 (nI (q + 1))) J P) : Sp yX7_endOrder cX7_endOrder 3 none (d) [.ref 58, .int ca] I J P (Qv Q) := by
  intro Γ h
  show VG Γ 0 0 0 [some (.ref 58), some (.int ca), none] [] _ _ _ _
  refine g_aload_0 h dX7_endOrder_0 ?_
  refine g_getI h fl_X7_90 dX7_endOrder_1 rfl rfl ?_
  rw [hc]
  refine g_istore_2 h dX7_endOrder_4 (by decide) rfl ?_
  refine g_iload_2 h dX7_endOrder_5 ?_
  refine g_bipush h dX7_endOrder_6 (v := nI 20) rfl ?_
  refine g_icmp_ge h 45 dX7_endOrder_8 rfl (fun c => absurd c (nI_ge hq (by decide))) (fun _ => ?_)
  refine g_aload_0 h dX7_endOrder_11 ?_
  refine g_getC h fl_X7_171 dX7_endOrder_12 rfl rfl ?_
  refine g_iload_2 h dX7_endOrder_15 ?_
  refine g_iload_1 h dX7_endOrder_16 ?_
  refine g_iast h q dX7_endOrder_17 rfl rfl hq ?_
  refine g_aload_0 h dX7_endOrder_18 ?_
  refine g_getC h fl_X7_97 dX7_endOrder_19 rfl rfl ?_
  refine g_iload_2 h dX7_endOrder_22 ?_
  refine g_iald h q dX7_endOrder_23 rfl rfl hq ?_
  refine g_iconst h dX7_endOrder_24 (v := (-1)) rfl ?_
  refine g_icmp_ne h 35 dX7_endOrder_25 rfl (fun c25 => ?_) (fun c25 => ?_)
  · refine g_aload_0 h dX7_endOrder_35 ?_
    refine g_dup h dX7_endOrder_36 rfl ?_
    refine g_getI h fl_X7_90 dX7_endOrder_37 rfl rfl ?_
    refine g_iconst h dX7_endOrder_40 (v := nI 1) rfl ?_
    refine g_iadd h dX7_endOrder_41 ?_
    refine g_putI h fp_X7_90 dX7_endOrder_42 rfl rfl ?_
    refine g_vret h dX7_endOrder_45 ?_
    first
      | (refine q_I ?_ (h1 c25)
         rw [show up2 I 76 q ca 58 4 + nI 1 = nI (q + 1) by rw [up2_o (by decide), hc]; exact nI_1 q])
      | (refine q_I ?_ (h0 (Classical.not_not.mp c25))
         rw [show up2 (up2 I 76 q ca) 75 q ca 58 4 + nI 1 = nI (q + 1) by rw [up2_o (by decide), up2_o (by decide), hc]; exact nI_1 q])
      | (refine q_I ?_ (h0 c25)
         rw [show up2 (up2 I 76 q ca) 75 q ca 58 4 + nI 1 = nI (q + 1) by rw [up2_o (by decide), up2_o (by decide), hc]; exact nI_1 q])
  · refine g_aload_0 h dX7_endOrder_28 ?_
    refine g_getC h fl_X7_97 dX7_endOrder_29 rfl rfl ?_
    refine g_iload_2 h dX7_endOrder_32 ?_
    refine g_iload_1 h dX7_endOrder_33 ?_
    refine g_iast h q dX7_endOrder_34 rfl rfl hq ?_
    refine g_aload_0 h dX7_endOrder_35 ?_
    refine g_dup h dX7_endOrder_36 rfl ?_
    refine g_getI h fl_X7_90 dX7_endOrder_37 rfl rfl ?_
    refine g_iconst h dX7_endOrder_40 (v := nI 1) rfl ?_
    refine g_iadd h dX7_endOrder_41 ?_
    refine g_putI h fp_X7_90 dX7_endOrder_42 rfl rfl ?_
    refine g_vret h dX7_endOrder_45 ?_
    first
      | (refine q_I ?_ (h1 c25)
         rw [show up2 I 76 q ca 58 4 + nI 1 = nI (q + 1) by rw [up2_o (by decide), hc]; exact nI_1 q])
      | (refine q_I ?_ (h0 (Classical.not_not.mp c25))
         rw [show up2 (up2 I 76 q ca) 75 q ca 58 4 + nI 1 = nI (q + 1) by rw [up2_o (by decide), up2_o (by decide), hc]; exact nI_1 q])
      | (refine q_I ?_ (h0 c25)
         rw [show up2 (up2 I 76 q ca) 75 q ca 58 4 + nI 1 = nI (q + 1) by rw [up2_o (by decide), up2_o (by decide), hc]; exact nI_1 q])
set_option maxRecDepth 100000 in
set_option maxHeartbeats 8000000 in
theorem sp_X7_end0 {d N : Nat} {ca : Int32} {I : MI} {J : MJ} {P : MP} (hk : I 10 7 = nI 0) (hc : I 58 0 = nI N) {Q : MI → MJ → MP → Prop} (hQ : Q (up2 I 58 0 (nI (N + 1))) J P) : Sp yX7_endLine cX7_endLine 3 none (d) [.ref 10, .ref 58, .int ca] I J P (Qv Q) := by
  intro Γ h
  show VG Γ 0 0 0 [some (.ref 10), some (.ref 58), some (.int ca)] [] _ _ _ _
  refine g_aload_0 h dX7_endLine_0 ?_
  refine g_getI h fl_X7_39 dX7_endLine_1 rfl rfl ?_
  · refine g_ts h 0 60 dX7_endLine_4 hk (by decide) (by decide) (by decide : tsO 108 0 9 #[56, 108, 69, 108, 108, 108, 108, 82, 108, 95] 0 = 56) rfl ?_
    refine g_aload_1 h dX7_endLine_60 ?_
    refine g_dup h dX7_endLine_61 rfl ?_
    refine g_getI h fl_X7_100 dX7_endLine_62 rfl rfl ?_
    refine g_iconst h dX7_endLine_65 (v := nI 1) rfl ?_
    refine g_iadd h dX7_endLine_66 ?_
    refine g_putI h fp_X7_100 dX7_endLine_67 rfl rfl ?_
    refine g_goto h 117 dX7_endLine_70 rfl ?_
    refine g_vret h dX7_endLine_117 ?_
    rw [show I 58 0 + nI 1 = nI (N + 1) by rw [hc]; exact nI_1 N]
    exact hQ
set_option maxRecDepth 100000 in
set_option maxHeartbeats 8000000 in
theorem sp_X7_end2 {d N : Nat} {ca : Int32} {I : MI} {J : MJ} {P : MP} (hk : I 10 7 = nI 2) (hc : I 58 1 = nI N) {Q : MI → MJ → MP → Prop} (hQ : Q (up2 I 58 1 (nI (N + 1))) J P) : Sp yX7_endLine cX7_endLine 3 none (d) [.ref 10, .ref 58, .int ca] I J P (Qv Q) := by
  intro Γ h
  show VG Γ 0 0 0 [some (.ref 10), some (.ref 58), some (.int ca)] [] _ _ _ _
  refine g_aload_0 h dX7_endLine_0 ?_
  refine g_getI h fl_X7_39 dX7_endLine_1 rfl rfl ?_
  · refine g_ts h 2 73 dX7_endLine_4 hk (by decide) (by decide) (by decide : tsO 108 0 9 #[56, 108, 69, 108, 108, 108, 108, 82, 108, 95] 2 = 69) rfl ?_
    refine g_aload_1 h dX7_endLine_73 ?_
    refine g_dup h dX7_endLine_74 rfl ?_
    refine g_getI h fl_X7_106 dX7_endLine_75 rfl rfl ?_
    refine g_iconst h dX7_endLine_78 (v := nI 1) rfl ?_
    refine g_iadd h dX7_endLine_79 ?_
    refine g_putI h fp_X7_106 dX7_endLine_80 rfl rfl ?_
    refine g_goto h 117 dX7_endLine_83 rfl ?_
    refine g_vret h dX7_endLine_117 ?_
    rw [show I 58 1 + nI 1 = nI (N + 1) by rw [hc]; exact nI_1 N]
    exact hQ
set_option maxRecDepth 100000 in
set_option maxHeartbeats 8000000 in
theorem sp_X7_end7 {d N : Nat} {ca : Int32} {I : MI} {J : MJ} {P : MP} (hk : I 10 7 = nI 7) (hc : I 58 2 = nI N) {Q : MI → MJ → MP → Prop} (hQ : Q (up2 I 58 2 (nI (N + 1))) J P) : Sp yX7_endLine cX7_endLine 3 none (d) [.ref 10, .ref 58, .int ca] I J P (Qv Q) := by
  intro Γ h
  show VG Γ 0 0 0 [some (.ref 10), some (.ref 58), some (.int ca)] [] _ _ _ _
  refine g_aload_0 h dX7_endLine_0 ?_
  refine g_getI h fl_X7_39 dX7_endLine_1 rfl rfl ?_
  · refine g_ts h 7 86 dX7_endLine_4 hk (by decide) (by decide) (by decide : tsO 108 0 9 #[56, 108, 69, 108, 108, 108, 108, 82, 108, 95] 7 = 82) rfl ?_
    refine g_aload_1 h dX7_endLine_86 ?_
    refine g_dup h dX7_endLine_87 rfl ?_
    refine g_getI h fl_X7_122 dX7_endLine_88 rfl rfl ?_
    refine g_iconst h dX7_endLine_91 (v := nI 1) rfl ?_
    refine g_iadd h dX7_endLine_92 ?_
    refine g_putI h fp_X7_122 dX7_endLine_93 rfl rfl ?_
    refine g_goto h 117 dX7_endLine_96 rfl ?_
    refine g_vret h dX7_endLine_117 ?_
    rw [show I 58 2 + nI 1 = nI (N + 1) by rw [hc]; exact nI_1 N]
    exact hQ
set_option maxRecDepth 100000 in
set_option maxHeartbeats 8000000 in
theorem sp_X7_end9 {d N : Nat} {ca : Int32} {I : MI} {J : MJ} {P : MP} (hk : I 10 7 = nI 9) (hc : I 58 3 = nI N) {Q : MI → MJ → MP → Prop} (hQ : Q (up2 I 58 3 (nI (N + 1))) J P) : Sp yX7_endLine cX7_endLine 3 none (d) [.ref 10, .ref 58, .int ca] I J P (Qv Q) := by
  intro Γ h
  show VG Γ 0 0 0 [some (.ref 10), some (.ref 58), some (.int ca)] [] _ _ _ _
  refine g_aload_0 h dX7_endLine_0 ?_
  refine g_getI h fl_X7_39 dX7_endLine_1 rfl rfl ?_
  · refine g_ts h 9 99 dX7_endLine_4 hk (by decide) (by decide) (by decide : tsO 108 0 9 #[56, 108, 69, 108, 108, 108, 108, 82, 108, 95] 9 = 95) rfl ?_
    refine g_aload_1 h dX7_endLine_99 ?_
    refine g_dup h dX7_endLine_100 rfl ?_
    refine g_getI h fl_X7_112 dX7_endLine_101 rfl rfl ?_
    refine g_iconst h dX7_endLine_104 (v := nI 1) rfl ?_
    refine g_iadd h dX7_endLine_105 ?_
    refine g_putI h fp_X7_112 dX7_endLine_106 rfl rfl ?_
    refine g_goto h 117 dX7_endLine_109 rfl ?_
    refine g_vret h dX7_endLine_117 ?_
    rw [show I 58 3 + nI 1 = nI (N + 1) by rw [hc]; exact nI_1 N]
    exact hQ
set_option maxRecDepth 100000 in
set_option maxHeartbeats 8000000 in
theorem sp_X7_end11 {d q : Nat} (hq : q < 20) {ca : Int32} {I : MI} {J : MJ} {P : MP} (hk : I 10 7 = nI 11) (hc : I 58 4 = nI q) {Q : MI → MJ → MP → Prop} (h1 : ¬ I 75 q = -1 → Q (up2 (up2 I 76 q ca) 58 4 (nI (q + 1))) J P) (h0 : I 75 q = -1 → Q (up2 (up2 (up2 I 76 q ca) 75 q ca) 58 4 (nI (q + 1))) J P) : Sp yX7_endLine cX7_endLine 3 none (d + 1) [.ref 10, .ref 58, .int ca] I J P (Qv Q) := by
  intro Γ h
  show VG Γ 0 0 0 [some (.ref 10), some (.ref 58), some (.int ca)] [] _ _ _ _
  refine g_aload_0 h dX7_endLine_0 ?_
  refine g_getI h fl_X7_39 dX7_endLine_1 rfl rfl ?_
  · refine g_ts h 11 112 dX7_endLine_4 hk (by decide) (by decide) (by decide : tsO 108 0 9 #[56, 108, 69, 108, 108, 108, 108, 82, 108, 95] 11 = 108) rfl ?_
    refine g_aload_1 h dX7_endLine_112 ?_
    refine g_iload_2 h dX7_endLine_113 ?_
    refine g_cSv2 h rok0 mi_X7_endOrder dX7_endLine_114 ml_X7_168 (Nat.le_of_ble_eq_true rfl) (Nat.le_of_ble_eq_true rfl) (sp_X7_endOrder hq hc (fun r => ?_) (fun r => ?_))
    · refine g_vret h dX7_endLine_117 ?_
      exact h1 r
    · refine g_vret h dX7_endLine_117 ?_
      exact h0 r
set_option maxRecDepth 100000 in
set_option maxHeartbeats 8000000 in
theorem sp_X7_end14 {d q : Nat} (hq : q < 20) {ca : Int32} {I : MI} {J : MJ} {P : MP} (hk : I 10 7 = nI 14) (hc : I 58 4 = nI q) {Q : MI → MJ → MP → Prop} (h1 : ¬ I 75 q = -1 → Q (up2 (up2 I 76 q ca) 58 4 (nI (q + 1))) J P) (h0 : I 75 q = -1 → Q (up2 (up2 (up2 I 76 q ca) 75 q ca) 58 4 (nI (q + 1))) J P) : Sp yX7_endLine cX7_endLine 3 none (d + 1) [.ref 10, .ref 58, .int ca] I J P (Qv Q) := by
  intro Γ h
  show VG Γ 0 0 0 [some (.ref 10), some (.ref 58), some (.int ca)] [] _ _ _ _
  refine g_aload_0 h dX7_endLine_0 ?_
  refine g_getI h fl_X7_39 dX7_endLine_1 rfl rfl ?_
  · refine g_ts h 14 112 dX7_endLine_4 hk (by decide) (by decide) (by decide : tsO 108 0 9 #[56, 108, 69, 108, 108, 108, 108, 82, 108, 95] 14 = 108) rfl ?_
    refine g_aload_1 h dX7_endLine_112 ?_
    refine g_iload_2 h dX7_endLine_113 ?_
    refine g_cSv2 h rok0 mi_X7_endOrder dX7_endLine_114 ml_X7_168 (Nat.le_of_ble_eq_true rfl) (Nat.le_of_ble_eq_true rfl) (sp_X7_endOrder hq hc (fun r => ?_) (fun r => ?_))
    · refine g_vret h dX7_endLine_117 ?_
      exact h1 r
    · refine g_vret h dX7_endLine_117 ?_
      exact h0 r
def tlO (I : MI) (n : Nat) : Int32 := if nI 17 ≤ I 78 n ∧ I 78 n ≤ nI 22 then I 16 (ix (I 79 n)) else I 79 n
set_option maxRecDepth 100000 in
set_option maxHeartbeats 8000000 in
theorem lp_tellCode {Γ : Cx} {d Z : Nat} (hZ4 : Z ≤ 400) {I0 : MI} {J : MJ} {P : MP} (hZ : I0 77 2 = nI Z) (hc : ∀ n, n < Z → cok I0 n) {Q : MI → MJ → MP → Prop} (hQ : ∀ I', (∀ a, a ≠ 79 → I' a = I0 a) → (∀ n, n < Z → I' 79 n = tlO I0 n) → Q I' J P) (h : Vc RX7 cX7_tellCode 5 none (d + 1) Γ) : ∀ (f n : Nat) (I : MI) (x3 : Option Value) (x4 : Option Value), n + f = Z → (∀ a, a ≠ 79 → I a = I0 a) → (∀ j, j < n → I 79 j = tlO I0 j) → (∀ j, n ≤ j → I 79 j = I0 79 j) → VG Γ 0 0 2 [some (.ref 10), some (.ref 77), some (.int (nI n)), x3, x4] [] I J P (Fnl Γ (Qv Q)) := by
  intro f
  induction f with
  | zero =>
    intro n I x3 x4 hn hF hA hB
    obtain rfl : n = Z := by omega
    have hZ1 : I 77 2 = nI n := by rw [hF 77 (by decide)]; exact hZ
    refine g_iload_2 h dX7_tellCode_2 ?_
    refine g_aload_1 h dX7_tellCode_3 ?_
    refine g_cVi0 h rok0 mi_X1_length dX7_tellCode_4 ml_X7_174 rfl rfl rfl (Nat.le_of_ble_eq_true rfl) (Nat.le_of_ble_eq_true rfl) (sp_X1_length (Or.inr rfl) ?_)
    refine g_icmp_ge h 78 dX7_tellCode_7 rfl (fun _ => ?_) (fun c => absurd (by rw [hZ1]; exact nI_le (Nat.le_refl _) (by omega)) c)
    refine g_vret h dX7_tellCode_78 ?_
    exact hQ I hF hA
  | succ f ih =>
    intro n I x3 x4 hn hF hA hB
    have hZ1 : I 77 2 = nI Z := by rw [hF 77 (by decide)]; exact hZ
    obtain ⟨k, k1, k2, k3⟩ := hc n (by omega)
    have k48 := kdOK_lt k2
    have e78 : I 78 n = nI k := by rw [hF 78 (by decide)]; exact k1
    have e79 := hB n (Nat.le_refl _)
    have e16 : I 16 = I0 16 := hF 16 (by decide)
    refine g_iload_2 h dX7_tellCode_2 ?_
    refine g_aload_1 h dX7_tellCode_3 ?_
    refine g_cVi0 h rok0 mi_X1_length dX7_tellCode_4 ml_X7_174 rfl rfl rfl (Nat.le_of_ble_eq_true rfl) (Nat.le_of_ble_eq_true rfl) (sp_X1_length (Or.inr rfl) ?_)
    refine g_icmp_ge h 78 dX7_tellCode_7 rfl (fun c => absurd (by rw [hZ1] at c; exact c) (nI_ge (by omega) (by omega))) (fun _ => ?_)
    refine g_iload_2 h dX7_tellCode_10 ?_
    refine g_sipush h dX7_tellCode_11 (v := nI 400) rfl ?_
    refine g_icmp_ge h 78 dX7_tellCode_14 rfl (fun c => absurd c (nI_ge (by omega) (by decide))) (fun _ => ?_)
    refine g_aload_1 h dX7_tellCode_17 ?_
    refine g_getC h fl_X7_177 dX7_tellCode_18 rfl rfl ?_
    refine g_iload_2 h dX7_tellCode_21 ?_
    refine g_iald h n dX7_tellCode_22 rfl rfl (by omega) ?_
    rw [e78]
    refine g_istore_3 h dX7_tellCode_23 (by decide) rfl ?_
    refine g_aload_1 h dX7_tellCode_24 ?_
    refine g_getC h fl_X7_180 dX7_tellCode_25 rfl rfl ?_
    refine g_iload_2 h dX7_tellCode_28 ?_
    refine g_iald h n dX7_tellCode_29 rfl rfl (by omega) ?_
    rw [e79]
    refine g_istore_4 h dX7_tellCode_30 (by decide) rfl ?_
    refine g_iload_3 h dX7_tellCode_32 ?_
    refine g_bipush h dX7_tellCode_33 (v := nI 17) rfl ?_
    refine g_icmp_lt h 72 dX7_tellCode_35 rfl (fun c35 => ?_) (fun c35 => ?_)
    · refine g_iinc_2 h dX7_tellCode_72 (inc1 _) (by decide) rfl ?_
      refine g_goto h 2 dX7_tellCode_75 rfl ?_
      first
        | (have hno : ¬ (nI 17 ≤ I0 78 n ∧ I0 78 n ≤ nI 22) := by
             rw [k1]
             first
               | exact fun q => Int32.not_lt.mpr q.1 c35
               | exact fun q => Int32.not_lt.mpr q.2 c41
           refine ih (n + 1) I _ _ (by omega) hF (fun j hj => ?_) (fun j hj => hB j (by omega))
           rcases Nat.lt_or_ge j n with q | q
           · exact hA j q
           · obtain rfl : j = n := by omega
             rw [tlO, if_neg hno]
             exact e79)
        | (have hyes : nI 17 ≤ I0 78 n ∧ I0 78 n ≤ nI 22 := by rw [k1]; exact ⟨nI_le q17 (by omega), nI_le q22 (by decide)⟩
           refine ih (n + 1) _ _ _ (by omega) (fun a ha => by rw [up2_o ha]; exact hF a ha) (fun j hj => ?_) (fun j hj => ?_)
           · rcases Nat.lt_or_ge j n with q | q
             · rw [up2_n (by omega)]
               exact hA j q
             · obtain rfl : j = n := by omega
               rw [up2_s, tlO, if_pos hyes, t2, ix_n (by omega), e16]
           · rw [up2_n (by omega)]
             exact hB j (by omega))
    · refine g_iload_3 h dX7_tellCode_38 ?_
      refine g_bipush h dX7_tellCode_39 (v := nI 22) rfl ?_
      refine g_icmp_gt h 72 dX7_tellCode_41 rfl (fun c41 => ?_) (fun c41 => ?_)
      · refine g_iinc_2 h dX7_tellCode_72 (inc1 _) (by decide) rfl ?_
        refine g_goto h 2 dX7_tellCode_75 rfl ?_
        first
          | (have hno : ¬ (nI 17 ≤ I0 78 n ∧ I0 78 n ≤ nI 22) := by
               rw [k1]
               first
                 | exact fun q => Int32.not_lt.mpr q.1 c35
                 | exact fun q => Int32.not_lt.mpr q.2 c41
             refine ih (n + 1) I _ _ (by omega) hF (fun j hj => ?_) (fun j hj => hB j (by omega))
             rcases Nat.lt_or_ge j n with q | q
             · exact hA j q
             · obtain rfl : j = n := by omega
               rw [tlO, if_neg hno]
               exact e79)
          | (have hyes : nI 17 ≤ I0 78 n ∧ I0 78 n ≤ nI 22 := by rw [k1]; exact ⟨nI_le q17 (by omega), nI_le q22 (by decide)⟩
             refine ih (n + 1) _ _ _ (by omega) (fun a ha => by rw [up2_o ha]; exact hF a ha) (fun j hj => ?_) (fun j hj => ?_)
             · rcases Nat.lt_or_ge j n with q | q
               · rw [up2_n (by omega)]
                 exact hA j q
               · obtain rfl : j = n := by omega
                 rw [up2_s, tlO, if_pos hyes, t2, ix_n (by omega), e16]
             · rw [up2_n (by omega)]
               exact hB j (by omega))
      · have q17 : 17 ≤ k := leN (Int32.not_lt.mp c35) (by decide) (by omega)
        have q22 : k ≤ 22 := leN (Int32.not_lt.mp c41) (by omega) (by decide)
        obtain ⟨t, t1, t2⟩ := k3 q17 q22
        rw [t2]
        refine g_iload_4 h dX7_tellCode_44 ?_
        refine g_if_lt h 72 dX7_tellCode_46 rfl (fun c => absurd c (nI_pos (by omega))) (fun _ => ?_)
        refine g_iload_4 h dX7_tellCode_49 ?_
        refine g_aload_0 h dX7_tellCode_51 ?_
        refine g_getC h fl_X7_34 dX7_tellCode_52 rfl rfl ?_
        refine g_alen h dX7_tellCode_55 rfl (by decide) ?_
        refine g_icmp_ge h 72 dX7_tellCode_56 rfl (fun c => absurd c (nI_ge (by omega) (by decide))) (fun _ => ?_)
        refine g_aload_1 h dX7_tellCode_59 ?_
        refine g_getC h fl_X7_180 dX7_tellCode_60 rfl rfl ?_
        refine g_iload_2 h dX7_tellCode_63 ?_
        refine g_aload_0 h dX7_tellCode_64 ?_
        refine g_getC h fl_X7_34 dX7_tellCode_65 rfl rfl ?_
        refine g_iload_4 h dX7_tellCode_68 ?_
        refine g_iald h t dX7_tellCode_70 rfl rfl (by omega) ?_
        refine g_iast h n dX7_tellCode_71 rfl rfl (by omega) ?_
        refine g_iinc_2 h dX7_tellCode_72 (inc1 _) (by decide) rfl ?_
        refine g_goto h 2 dX7_tellCode_75 rfl ?_
        first
          | (have hno : ¬ (nI 17 ≤ I0 78 n ∧ I0 78 n ≤ nI 22) := by
               rw [k1]
               first
                 | exact fun q => Int32.not_lt.mpr q.1 c35
                 | exact fun q => Int32.not_lt.mpr q.2 c41
             refine ih (n + 1) I _ _ (by omega) hF (fun j hj => ?_) (fun j hj => hB j (by omega))
             rcases Nat.lt_or_ge j n with q | q
             · exact hA j q
             · obtain rfl : j = n := by omega
               rw [tlO, if_neg hno]
               exact e79)
          | (have hyes : nI 17 ≤ I0 78 n ∧ I0 78 n ≤ nI 22 := by rw [k1]; exact ⟨nI_le q17 (by omega), nI_le q22 (by decide)⟩
             refine ih (n + 1) _ _ _ (by omega) (fun a ha => by rw [up2_o ha]; exact hF a ha) (fun j hj => ?_) (fun j hj => ?_)
             · rcases Nat.lt_or_ge j n with q | q
               · rw [up2_n (by omega)]
                 exact hA j q
               · obtain rfl : j = n := by omega
                 rw [up2_s, tlO, if_pos hyes, t2, ix_n (by omega), e16]
             · rw [up2_n (by omega)]
               exact hB j (by omega))
set_option maxRecDepth 100000 in
set_option maxHeartbeats 8000000 in
theorem sp_X7_tellCode {d Z : Nat} (hZ4 : Z ≤ 400) {I : MI} {J : MJ} {P : MP} (hZ : I 77 2 = nI Z) (hc : ∀ n, n < Z → cok I n) {Q : MI → MJ → MP → Prop} (hQ : ∀ I', (∀ a, a ≠ 79 → I' a = I a) → (∀ n, n < Z → I' 79 n = tlO I n) → Q I' J P) : Sp yX7_tellCode cX7_tellCode 5 none (d + 1) [.ref 10, .ref 77] I J P (Qv Q) := by
  intro Γ h
  show VG Γ 0 0 0 [some (.ref 10), some (.ref 77), none, none, none] [] _ _ _ _
  refine g_iconst h dX7_tellCode_0 (v := nI 0) rfl ?_
  refine g_istore_2 h dX7_tellCode_1 (by decide) rfl ?_
  exact lp_tellCode hZ4 hZ hc hQ h Z 0 I none none (by omega) (fun _ _ => rfl) (fun j hj => absurd hj (Nat.not_lt_zero j)) (fun _ _ => rfl)
/-- what the teacher knows of the tokens, beside the kinds -/
def wdO (K : Nat → Nat) (wd : Nat → Nat) (M : Nat) (J : MJ) : Prop := ∀ t, t ≤ M → K t = 28 → J 5 t = lN (wd t) ∧ wd t < 2 ^ 63
set_option maxRecDepth 100000 in
set_option maxHeartbeats 8000000 in
theorem st_sym {Γ : Cx} {K : Nat → Nat} {V : Nat → Int32} {M d t : Nat} {I : MI} {J : MJ} {P : MP} {Q : Int32 → MI → MJ → MP → Prop} (hK : psO K V M I J) (ht : t < M) (e1 : 30 ≤ K t) (e2 : ¬ K t = 34) (he : I 10 0 = 0) (h : Vc RX7 cX7_firstFault 6 (some .int) (d + 5) Γ) {x5 : Option Value} (k : ∀ x5, VG Γ 0 0 12 [some (.ref 10), some (.ref 3), some (.ref 9), some (.ref 58), some (.int (nI (t + 1))), x5] [] I J P (Fnl Γ (Qi Q))) : VG Γ 0 0 12 [some (.ref 10), some (.ref 3), some (.ref 9), some (.ref 58), some (.int (nI t)), x5] [] I J P (Fnl Γ (Qi Q)) := by
  obtain ⟨k1, k2, k3, k4, k5⟩ := id hK
  have kt := (k1 t (by omega)).1
  have kp := (k1 t (by omega)).2
  refine g_iload_4 h dX7_firstFault_12 ?_
  refine g_aload_1 h dX7_firstFault_14 ?_
  refine g_cVi0 h rok0 mi_X8_length dX7_firstFault_15 ml_X7_48 rfl rfl rfl (Nat.le_of_ble_eq_true rfl) (Nat.le_of_ble_eq_true rfl) (sp_X8_length ?_)
  refine g_icmp_ge h 172 dX7_firstFault_18 rfl (fun c => absurd (by rw [k3] at c; exact c) (nI_ge (by omega) (by omega))) (fun _ => ?_)
  refine g_iload_4 h dX7_firstFault_21 ?_
  refine g_sipush h dX7_firstFault_23 (v := nI 400) rfl ?_
  refine g_icmp_ge h 172 dX7_firstFault_26 rfl (fun c => absurd c (nI_ge (by omega) (by decide))) (fun _ => ?_)
  refine g_aload_1 h dX7_firstFault_29 ?_
  refine g_getC h fl_X7_52 dX7_firstFault_30 rfl rfl ?_
  refine g_iload_4 h dX7_firstFault_33 ?_
  refine g_iald h t dX7_firstFault_35 rfl rfl (by omega) ?_
  rw [kt]
  refine g_istore_5 h dX7_firstFault_36 (by decide) rfl ?_
  refine g_iload_5 h dX7_firstFault_38 ?_
  refine g_bipush h dX7_firstFault_40 (v := nI 28) rfl ?_
  refine g_icmp_ne h 90 dX7_firstFault_42 rfl (fun _ => ?_) (fun c => absurd (eqN c (by omega) (by decide)) (by omega))
  refine g_iload_5 h dX7_firstFault_90 ?_
  refine g_bipush h dX7_firstFault_92 (v := nI 29) rfl ?_
  refine g_icmp_ne h 115 dX7_firstFault_94 rfl (fun _ => ?_) (fun c => absurd (eqN c (by omega) (by decide)) (by omega))
  refine g_iload_5 h dX7_firstFault_115 ?_
  refine g_bipush h dX7_firstFault_117 (v := nI 34) rfl ?_
  refine g_icmp_ne h 134 dX7_firstFault_119 rfl (fun _ => ?_) (fun c => absurd (eqN c (by omega) (by decide)) (by omega))
  refine g_iload_5 h dX7_firstFault_134 ?_
  refine g_bipush h dX7_firstFault_136 (v := nI 28) rfl ?_
  refine g_icmp_ge h 156 dX7_firstFault_138 rfl (fun _ => ?_) (fun c => absurd (nI_le (show 28 ≤ K t by omega) (by omega)) c)
  refine g_aload_0 h dX7_firstFault_156 ?_
  refine g_getI h fl_X7_7 dX7_firstFault_157 rfl rfl ?_
  refine g_if_eq h 166 dX7_firstFault_160 rfl (fun _ => ?_) (fun c => absurd he c)
  refine g_iinc_4 h dX7_firstFault_166 (inc1 _) (by decide) rfl ?_
  refine g_goto h 12 dX7_firstFault_169 rfl ?_
  exact k _
set_option maxRecDepth 100000 in
set_option maxHeartbeats 8000000 in
theorem st_kw {Γ : Cx} {K : Nat → Nat} {V : Nat → Int32} {M d t : Nat} {I : MI} {J : MJ} {P : MP} {Q : Int32 → MI → MJ → MP → Prop} (hK : psO K V M I J) (ht : t < M) (e1 : K t < 28) (h : Vc RX7 cX7_firstFault 6 (some .int) (d + 5) Γ) {x5 : Option Value} (hS : Sp yX7_errorOfKeyword cX7_errorOfKeyword 6 (some .int) (d + 4) [.ref 10, .ref 58, .int (nI (K t)), .int (I 9 t)] I J P (Qi (fun e I' J' P' => (e = 0 → ∀ x5, VG Γ 0 0 12 [some (.ref 10), some (.ref 3), some (.ref 9), some (.ref 58), some (.int (nI (t + 1))), x5] [] (up2 I' 10 0 e) J' P' (Fnl Γ (Qi Q))) ∧ (¬ e = 0 → Q (nI t) (up2 I' 10 0 e) J' P')))) : VG Γ 0 0 12 [some (.ref 10), some (.ref 3), some (.ref 9), some (.ref 58), some (.int (nI t)), x5] [] I J P (Fnl Γ (Qi Q)) := by
  obtain ⟨k1, k2, k3, k4, k5⟩ := id hK
  have kt := (k1 t (by omega)).1
  have kp := (k1 t (by omega)).2
  refine g_iload_4 h dX7_firstFault_12 ?_
  refine g_aload_1 h dX7_firstFault_14 ?_
  refine g_cVi0 h rok0 mi_X8_length dX7_firstFault_15 ml_X7_48 rfl rfl rfl (Nat.le_of_ble_eq_true rfl) (Nat.le_of_ble_eq_true rfl) (sp_X8_length ?_)
  refine g_icmp_ge h 172 dX7_firstFault_18 rfl (fun c => absurd (by rw [k3] at c; exact c) (nI_ge (by omega) (by omega))) (fun _ => ?_)
  refine g_iload_4 h dX7_firstFault_21 ?_
  refine g_sipush h dX7_firstFault_23 (v := nI 400) rfl ?_
  refine g_icmp_ge h 172 dX7_firstFault_26 rfl (fun c => absurd c (nI_ge (by omega) (by decide))) (fun _ => ?_)
  refine g_aload_1 h dX7_firstFault_29 ?_
  refine g_getC h fl_X7_52 dX7_firstFault_30 rfl rfl ?_
  refine g_iload_4 h dX7_firstFault_33 ?_
  refine g_iald h t dX7_firstFault_35 rfl rfl (by omega) ?_
  rw [kt]
  refine g_istore_5 h dX7_firstFault_36 (by decide) rfl ?_
  refine g_iload_5 h dX7_firstFault_38 ?_
  refine g_bipush h dX7_firstFault_40 (v := nI 28) rfl ?_
  refine g_icmp_ne h 90 dX7_firstFault_42 rfl (fun _ => ?_) (fun c => absurd (eqN c (by omega) (by decide)) (by omega))
  refine g_iload_5 h dX7_firstFault_90 ?_
  refine g_bipush h dX7_firstFault_92 (v := nI 29) rfl ?_
  refine g_icmp_ne h 115 dX7_firstFault_94 rfl (fun _ => ?_) (fun c => absurd (eqN c (by omega) (by decide)) (by omega))
  refine g_iload_5 h dX7_firstFault_115 ?_
  refine g_bipush h dX7_firstFault_117 (v := nI 34) rfl ?_
  refine g_icmp_ne h 134 dX7_firstFault_119 rfl (fun _ => ?_) (fun c => absurd (eqN c (by omega) (by decide)) (by omega))
  refine g_iload_5 h dX7_firstFault_134 ?_
  refine g_bipush h dX7_firstFault_136 (v := nI 28) rfl ?_
  refine g_icmp_ge h 156 dX7_firstFault_138 rfl (fun c => absurd (leN c (by decide) (by omega)) (by omega)) (fun _ => ?_)
  refine g_aload_0 h dX7_firstFault_141 ?_
  refine g_aload_0 h dX7_firstFault_142 ?_
  refine g_aload_3 h dX7_firstFault_143 ?_
  refine g_iload_5 h dX7_firstFault_144 ?_
  refine g_aload_2 h dX7_firstFault_146 ?_
  refine g_iload_4 h dX7_firstFault_147 ?_
  refine g_iald h t dX7_firstFault_149 rfl rfl (by omega) ?_
  refine g_cVi3 h rok0 mi_X7_errorOfKeyword dX7_firstFault_150 ml_X7_78 rfl rfl rfl (Nat.le_of_ble_eq_true rfl) (Nat.le_of_ble_eq_true rfl) (fun Γ2 h2 => fnl_mono (fun r I1 J1 P1 hq => ?_) (hS Γ2 h2))
  · obtain ⟨e, rfl, hz⟩ := hq
    refine ⟨e, rfl, ?_⟩
    refine g_putI h fp_X7_7 dX7_firstFault_153 rfl rfl ?_
    refine g_aload_0 h dX7_firstFault_156 ?_
    refine g_getI h fl_X7_7 dX7_firstFault_157 rfl rfl ?_
    refine g_if_eq h 166 dX7_firstFault_160 rfl (fun c160 => ?_) (fun c160 => ?_)
    · refine g_iinc_4 h dX7_firstFault_166 (inc1 _) (by decide) rfl ?_
      refine g_goto h 12 dX7_firstFault_169 rfl ?_
      exact hz.1 (by rw [up2_s] at c160; exact c160) _
    · refine g_iload_4 h dX7_firstFault_163 ?_
      refine g_iret h dX7_firstFault_165 ?_
      exact hz.2 (fun q => c160 (by rw [up2_s]; exact q))
set_option maxRecDepth 100000 in
set_option maxHeartbeats 8000000 in
theorem st_num {Γ : Cx} {K : Nat → Nat} {V : Nat → Int32} {M d t : Nat} {I : MI} {J : MJ} {P : MP} {Q : Int32 → MI → MJ → MP → Prop} (hK : psO K V M I J) (ht : t < M) (e1 : K t = 29) (h : Vc RX7 cX7_firstFault 6 (some .int) (d + 5) Γ) {x5 : Option Value} (hS : Sp yX7_errorOfNumber cX7_errorOfNumber 3 (some .int) (d + 4) [.ref 10, .ref 58, .int (V t)] I J P (Qi (fun e I' J' P' => (e = 0 → ∀ x5, VG Γ 0 0 12 [some (.ref 10), some (.ref 3), some (.ref 9), some (.ref 58), some (.int (nI (t + 1))), x5] [] (up2 I' 10 0 e) J' P' (Fnl Γ (Qi Q))) ∧ (¬ e = 0 → Q (nI t) (up2 I' 10 0 e) J' P')))) : VG Γ 0 0 12 [some (.ref 10), some (.ref 3), some (.ref 9), some (.ref 58), some (.int (nI t)), x5] [] I J P (Fnl Γ (Qi Q)) := by
  obtain ⟨k1, k2, k3, k4, k5⟩ := id hK
  have kt := (k1 t (by omega)).1
  have kp := (k1 t (by omega)).2
  refine g_iload_4 h dX7_firstFault_12 ?_
  refine g_aload_1 h dX7_firstFault_14 ?_
  refine g_cVi0 h rok0 mi_X8_length dX7_firstFault_15 ml_X7_48 rfl rfl rfl (Nat.le_of_ble_eq_true rfl) (Nat.le_of_ble_eq_true rfl) (sp_X8_length ?_)
  refine g_icmp_ge h 172 dX7_firstFault_18 rfl (fun c => absurd (by rw [k3] at c; exact c) (nI_ge (by omega) (by omega))) (fun _ => ?_)
  refine g_iload_4 h dX7_firstFault_21 ?_
  refine g_sipush h dX7_firstFault_23 (v := nI 400) rfl ?_
  refine g_icmp_ge h 172 dX7_firstFault_26 rfl (fun c => absurd c (nI_ge (by omega) (by decide))) (fun _ => ?_)
  refine g_aload_1 h dX7_firstFault_29 ?_
  refine g_getC h fl_X7_52 dX7_firstFault_30 rfl rfl ?_
  refine g_iload_4 h dX7_firstFault_33 ?_
  refine g_iald h t dX7_firstFault_35 rfl rfl (by omega) ?_
  rw [kt]
  refine g_istore_5 h dX7_firstFault_36 (by decide) rfl ?_
  refine g_iload_5 h dX7_firstFault_38 ?_
  refine g_bipush h dX7_firstFault_40 (v := nI 28) rfl ?_
  refine g_icmp_ne h 90 dX7_firstFault_42 rfl (fun _ => ?_) (fun c => absurd (eqN c (by omega) (by decide)) (by omega))
  refine g_iload_5 h dX7_firstFault_90 ?_
  refine g_bipush h dX7_firstFault_92 (v := nI 29) rfl ?_
  refine g_icmp_ne h 115 dX7_firstFault_94 rfl (fun c => absurd (show nI (K t) = nI 29 by rw [e1]) c) (fun _ => ?_)
  refine g_aload_0 h dX7_firstFault_97 ?_
  refine g_aload_0 h dX7_firstFault_98 ?_
  refine g_aload_3 h dX7_firstFault_99 ?_
  refine g_aload_1 h dX7_firstFault_100 ?_
  refine g_iload_4 h dX7_firstFault_101 ?_
  refine g_cVi1 h rok0 mi_X8_numberOf dX7_firstFault_103 ml_X7_66 rfl rfl rfl (Nat.le_of_ble_eq_true rfl) (Nat.le_of_ble_eq_true rfl) (sp_X8_numberOf hK (by omega) e1 ?_)
  refine g_cVi2 h rok0 mi_X7_errorOfNumber dX7_firstFault_106 ml_X7_70 rfl rfl rfl (Nat.le_of_ble_eq_true rfl) (Nat.le_of_ble_eq_true rfl) (fun Γ2 h2 => fnl_mono (fun r I1 J1 P1 hq => ?_) (hS Γ2 h2))
  · obtain ⟨e, rfl, hz⟩ := hq
    refine ⟨e, rfl, ?_⟩
    refine g_putI h fp_X7_7 dX7_firstFault_109 rfl rfl ?_
    refine g_goto h 156 dX7_firstFault_112 rfl ?_
    refine g_aload_0 h dX7_firstFault_156 ?_
    refine g_getI h fl_X7_7 dX7_firstFault_157 rfl rfl ?_
    refine g_if_eq h 166 dX7_firstFault_160 rfl (fun c160 => ?_) (fun c160 => ?_)
    · refine g_iinc_4 h dX7_firstFault_166 (inc1 _) (by decide) rfl ?_
      refine g_goto h 12 dX7_firstFault_169 rfl ?_
      exact hz.1 (by rw [up2_s] at c160; exact c160) _
    · refine g_iload_4 h dX7_firstFault_163 ?_
      refine g_iret h dX7_firstFault_165 ?_
      exact hz.2 (fun q => c160 (by rw [up2_s]; exact q))
set_option maxRecDepth 100000 in
set_option maxHeartbeats 8000000 in
theorem st_name {Γ : Cx} {K : Nat → Nat} {V : Nat → Int32} {M d t : Nat} {I : MI} {J : MJ} {P : MP} {Q : Int32 → MI → MJ → MP → Prop} (hK : psO K V M I J) (ht : t < M) {k : Nat} {n wd : Nat → Nat} (e1 : K t = 28) (kp2 : k < 49) (hk : I 10 8 = nI k) (hc : ctO n I) (hw : wdO K wd M J) (h : Vc RX7 cX7_firstFault 6 (some .int) (d + 5) Γ) {x5 : Option Value} (hS : Sp yX7_errorOfName cX7_errorOfName 5 (some .int) (d + 4) [.ref 10, .ref 58, .int (plJ J (11 + tbI k) (n (tbI k)) (lN (wd t))), .long (lN (wd t))] (up2 I 16 t (plJ J (11 + tbI k) (n (tbI k)) (lN (wd t)))) J P (Qi (fun e I' J' P' => (e = 0 → ∀ x5, VG Γ 0 0 12 [some (.ref 10), some (.ref 3), some (.ref 9), some (.ref 58), some (.int (nI (t + 1))), x5] [] (up2 I' 10 0 e) J' P' (Fnl Γ (Qi Q))) ∧ (¬ e = 0 → Q (nI t) (up2 I' 10 0 e) J' P')))) : VG Γ 0 0 12 [some (.ref 10), some (.ref 3), some (.ref 9), some (.ref 58), some (.int (nI t)), x5] [] I J P (Fnl Γ (Qi Q)) := by
  obtain ⟨k1, k2, k3, k4, k5⟩ := id hK
  have kt := (k1 t (by omega)).1
  have kp := (k1 t (by omega)).2
  have w5 := (hw t (by omega) e1).1
  refine g_iload_4 h dX7_firstFault_12 ?_
  refine g_aload_1 h dX7_firstFault_14 ?_
  refine g_cVi0 h rok0 mi_X8_length dX7_firstFault_15 ml_X7_48 rfl rfl rfl (Nat.le_of_ble_eq_true rfl) (Nat.le_of_ble_eq_true rfl) (sp_X8_length ?_)
  refine g_icmp_ge h 172 dX7_firstFault_18 rfl (fun c => absurd (by rw [k3] at c; exact c) (nI_ge (by omega) (by omega))) (fun _ => ?_)
  refine g_iload_4 h dX7_firstFault_21 ?_
  refine g_sipush h dX7_firstFault_23 (v := nI 400) rfl ?_
  refine g_icmp_ge h 172 dX7_firstFault_26 rfl (fun c => absurd c (nI_ge (by omega) (by decide))) (fun _ => ?_)
  refine g_aload_1 h dX7_firstFault_29 ?_
  refine g_getC h fl_X7_52 dX7_firstFault_30 rfl rfl ?_
  refine g_iload_4 h dX7_firstFault_33 ?_
  refine g_iald h t dX7_firstFault_35 rfl rfl (by omega) ?_
  rw [kt]
  refine g_istore_5 h dX7_firstFault_36 (by decide) rfl ?_
  refine g_iload_5 h dX7_firstFault_38 ?_
  refine g_bipush h dX7_firstFault_40 (v := nI 28) rfl ?_
  refine g_icmp_ne h 90 dX7_firstFault_42 rfl (fun c => absurd (show nI (K t) = nI 28 by rw [e1]) c) (fun _ => ?_)
  refine g_aload_0 h dX7_firstFault_45 ?_
  refine g_getC h fl_X7_34 dX7_firstFault_46 rfl rfl ?_
  refine g_iload_4 h dX7_firstFault_49 ?_
  refine g_aload_0 h dX7_firstFault_51 ?_
  refine g_aload_3 h dX7_firstFault_52 ?_
  refine g_aload_1 h dX7_firstFault_53 ?_
  refine g_getC h fl_X7_55 dX7_firstFault_54 rfl rfl ?_
  refine g_iload_4 h dX7_firstFault_57 ?_
  refine g_lald h t dX7_firstFault_59 rfl rfl (by omega) ?_
  rw [w5]
  refine g_cVi2 h rok0 mi_X7_toldAhead dX7_firstFault_60 ml_X7_58 rfl rfl rfl (Nat.le_of_ble_eq_true rfl) (Nat.le_of_ble_eq_true rfl) (sp_X7_toldAhead kp2 hk hc ?_)
  refine g_iast h t dX7_firstFault_63 rfl rfl (by omega) ?_
  refine g_aload_0 h dX7_firstFault_64 ?_
  refine g_aload_0 h dX7_firstFault_65 ?_
  refine g_aload_3 h dX7_firstFault_66 ?_
  refine g_aload_0 h dX7_firstFault_67 ?_
  refine g_getC h fl_X7_34 dX7_firstFault_68 rfl rfl ?_
  refine g_iload_4 h dX7_firstFault_71 ?_
  refine g_iald h t dX7_firstFault_73 rfl rfl (by omega) ?_
  rw [up2_s]
  refine g_aload_1 h dX7_firstFault_74 ?_
  refine g_getC h fl_X7_55 dX7_firstFault_75 rfl rfl ?_
  refine g_iload_4 h dX7_firstFault_78 ?_
  refine g_lald h t dX7_firstFault_80 rfl rfl (by omega) ?_
  rw [w5]
  refine g_cVi3 h rok0 mi_X7_errorOfName dX7_firstFault_81 ml_X7_62 rfl rfl rfl (Nat.le_of_ble_eq_true rfl) (Nat.le_of_ble_eq_true rfl) (fun Γ2 h2 => fnl_mono (fun r I1 J1 P1 hq => ?_) (hS Γ2 h2))
  · obtain ⟨e, rfl, hz⟩ := hq
    refine ⟨e, rfl, ?_⟩
    refine g_putI h fp_X7_7 dX7_firstFault_84 rfl rfl ?_
    refine g_goto h 156 dX7_firstFault_87 rfl ?_
    refine g_aload_0 h dX7_firstFault_156 ?_
    refine g_getI h fl_X7_7 dX7_firstFault_157 rfl rfl ?_
    refine g_if_eq h 166 dX7_firstFault_160 rfl (fun c160 => ?_) (fun c160 => ?_)
    · refine g_iinc_4 h dX7_firstFault_166 (inc1 _) (by decide) rfl ?_
      refine g_goto h 12 dX7_firstFault_169 rfl ?_
      exact hz.1 (by rw [up2_s] at c160; exact c160) _
    · refine g_iload_4 h dX7_firstFault_163 ?_
      refine g_iret h dX7_firstFault_165 ?_
      exact hz.2 (fun q => c160 (by rw [up2_s]; exact q))
set_option maxRecDepth 100000 in
set_option maxHeartbeats 8000000 in
theorem st_semi {Γ : Cx} {K : Nat → Nat} {V : Nat → Int32} {M d t : Nat} {I : MI} {J : MJ} {P : MP} {Q : Int32 → MI → MJ → MP → Prop} (hK : psO K V M I J) (ht : t < M) (e1 : K t = 34) (h : Vc RX7 cX7_firstFault 6 (some .int) (d + 5) Γ) {x5 : Option Value} (hS : Sp yX7_endLine cX7_endLine 3 none (d + 4) [.ref 10, .ref 58, .int (I 9 t)] I J P (Qv (fun I' J' P' => I' 10 0 = 0 ∧ ∀ x5, VG Γ 0 0 12 [some (.ref 10), some (.ref 3), some (.ref 9), some (.ref 58), some (.int (nI (t + 1))), x5] [] I' J' P' (Fnl Γ (Qi Q))))) : VG Γ 0 0 12 [some (.ref 10), some (.ref 3), some (.ref 9), some (.ref 58), some (.int (nI t)), x5] [] I J P (Fnl Γ (Qi Q)) := by
  obtain ⟨k1, k2, k3, k4, k5⟩ := id hK
  have kt := (k1 t (by omega)).1
  have kp := (k1 t (by omega)).2
  refine g_iload_4 h dX7_firstFault_12 ?_
  refine g_aload_1 h dX7_firstFault_14 ?_
  refine g_cVi0 h rok0 mi_X8_length dX7_firstFault_15 ml_X7_48 rfl rfl rfl (Nat.le_of_ble_eq_true rfl) (Nat.le_of_ble_eq_true rfl) (sp_X8_length ?_)
  refine g_icmp_ge h 172 dX7_firstFault_18 rfl (fun c => absurd (by rw [k3] at c; exact c) (nI_ge (by omega) (by omega))) (fun _ => ?_)
  refine g_iload_4 h dX7_firstFault_21 ?_
  refine g_sipush h dX7_firstFault_23 (v := nI 400) rfl ?_
  refine g_icmp_ge h 172 dX7_firstFault_26 rfl (fun c => absurd c (nI_ge (by omega) (by decide))) (fun _ => ?_)
  refine g_aload_1 h dX7_firstFault_29 ?_
  refine g_getC h fl_X7_52 dX7_firstFault_30 rfl rfl ?_
  refine g_iload_4 h dX7_firstFault_33 ?_
  refine g_iald h t dX7_firstFault_35 rfl rfl (by omega) ?_
  rw [kt]
  refine g_istore_5 h dX7_firstFault_36 (by decide) rfl ?_
  refine g_iload_5 h dX7_firstFault_38 ?_
  refine g_bipush h dX7_firstFault_40 (v := nI 28) rfl ?_
  refine g_icmp_ne h 90 dX7_firstFault_42 rfl (fun _ => ?_) (fun c => absurd (eqN c (by omega) (by decide)) (by omega))
  refine g_iload_5 h dX7_firstFault_90 ?_
  refine g_bipush h dX7_firstFault_92 (v := nI 29) rfl ?_
  refine g_icmp_ne h 115 dX7_firstFault_94 rfl (fun _ => ?_) (fun c => absurd (eqN c (by omega) (by decide)) (by omega))
  refine g_iload_5 h dX7_firstFault_115 ?_
  refine g_bipush h dX7_firstFault_117 (v := nI 34) rfl ?_
  refine g_icmp_ne h 134 dX7_firstFault_119 rfl (fun c => absurd (show nI (K t) = nI 34 by rw [e1]) c) (fun _ => ?_)
  refine g_aload_0 h dX7_firstFault_122 ?_
  refine g_aload_3 h dX7_firstFault_123 ?_
  refine g_aload_2 h dX7_firstFault_124 ?_
  refine g_iload_4 h dX7_firstFault_125 ?_
  refine g_iald h t dX7_firstFault_127 rfl rfl (by omega) ?_
  refine g_cVv2 h rok0 mi_X7_endLine dX7_firstFault_128 ml_X7_74 rfl rfl rfl (Nat.le_of_ble_eq_true rfl) (Nat.le_of_ble_eq_true rfl) (fun Γ2 h2 => fnl_mono (fun r I1 J1 P1 hq => ?_) (hS Γ2 h2))
  · obtain ⟨rfl, hz⟩ := hq
    refine ⟨rfl, ?_⟩
    refine g_goto h 156 dX7_firstFault_131 rfl ?_
    refine g_aload_0 h dX7_firstFault_156 ?_
    refine g_getI h fl_X7_7 dX7_firstFault_157 rfl rfl ?_
    refine g_if_eq h 166 dX7_firstFault_160 rfl (fun _ => ?_) (fun c => absurd hz.1 c)
    refine g_iinc_4 h dX7_firstFault_166 (inc1 _) (by decide) rfl ?_
    refine g_goto h 12 dX7_firstFault_169 rfl ?_
    exact hz.2 _
