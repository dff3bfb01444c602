/-! The reference: the row of tokens; names, kinds, failing -/
def rtA (T : Nat → Nat) (L : Nat) (I : MI) (n : Nat) : Prop := I 82 n = nI (srt (tK T L n)) ∧ I 84 n = nI (tB T L n) ∧ vlO (tK T L n) (tC T L n) (I 83 n) ∧ (tK T L n < 45 → I 85 n = nI ((tkR T L (tB T L n)).2.1 - tB T L n))
def spF (I I' : MI) : Prop := ∀ a, a ≠ 82 → a ≠ 83 → a ≠ 84 → a ≠ 85 → I' a = I a
theorem spF.tp {T : Nat → Nat} {L : Nat} {I I' : MI} (h : spF I I') (k : rtO T L I) : rtO T L I' := by
  unfold rtO
  rw [h 80 (by decide) (by decide) (by decide) (by decide), h 81 (by decide) (by decide) (by decide) (by decide)]
  exact k
theorem srt_lt (k : Nat) : srt k < 6 := by
  unfold srt
  repeat' split
  all_goals decide
set_option maxRecDepth 100000 in
set_option maxHeartbeats 4000000 in
theorem lp_split1 {Γ : Cx} {T : Nat → Nat} {L : Nat} {d n b : Nat} {I : MI} {J : MJ} {P : MP} (hT : rtO T L I) {Φ : State → Prop} (h : Vc RX12 cX12_split 4 none (d + 7) Γ) (k : VG Γ 0 0 36 [some (.ref 80), some (.int (nI b)), some (.int (nI n)), some (.int (nI 1))] [] I J P Φ) : ∀ (f q : Nat), 2000 ≤ q + f → q ≤ L → blk T L f q = b → VG Γ 0 0 10 [some (.ref 80), some (.int (nI q)), some (.int (nI n)), some (.int (nI 1))] [] I J P Φ := by
  obtain ⟨t1, t2, t3⟩ := id hT
  intro f
  induction f with
  | zero =>
    intro q hq hl he
    have e1 : q = b := he
    have nb : byR T L q = nI 0 := by rw [byR, if_neg (by omega)]
    refine g_aload_0 h dX12_split_10 ?_
    refine g_iload_1 h dX12_split_11 ?_
    refine g_cVi1 h rok0 mi_X12_byteAt dX12_split_12 ml_X12_26 rfl rfl rfl (Nat.le_of_ble_eq_true rfl) (Nat.le_of_ble_eq_true rfl) (sp_X12_byteAt (by omega) hT ?_)
    rw [nb]
    refine g_bipush h dX12_split_15 (v := nI 32) rfl ?_
    refine g_icmp_eq h 30 dX12_split_17 rfl (fun c => absurd c (by decide)) (fun _ => ?_)
    refine g_aload_0 h dX12_split_20 ?_
    refine g_iload_1 h dX12_split_21 ?_
    refine g_cVi1 h rok0 mi_X12_byteAt dX12_split_22 ml_X12_26 rfl rfl rfl (Nat.le_of_ble_eq_true rfl) (Nat.le_of_ble_eq_true rfl) (sp_X12_byteAt (by omega) hT ?_)
    rw [nb]
    refine g_bipush h dX12_split_25 (v := nI 10) rfl ?_
    refine g_icmp_ne h 36 dX12_split_27 rfl (fun _ => ?_) (fun c => absurd c (by decide))
    subst e1
    exact k
  | succ f ih =>
    intro q hq hl he
    rw [blk] at he
    obtain ⟨c, hc, eb, eb1, eb2⟩ := byR_n (p := q) hT
    refine g_aload_0 h dX12_split_10 ?_
    refine g_iload_1 h dX12_split_11 ?_
    refine g_cVi1 h rok0 mi_X12_byteAt dX12_split_12 ml_X12_26 rfl rfl rfl (Nat.le_of_ble_eq_true rfl) (Nat.le_of_ble_eq_true rfl) (sp_X12_byteAt (by omega) hT ?_)
    rw [eb]
    refine g_bipush h dX12_split_15 (v := nI 32) rfl ?_
    refine g_icmp_eq h 30 dX12_split_17 rfl (fun c17 => ?_) (fun c17 => ?_)
    · refine g_iinc_1 h dX12_split_30 (inc1 _) (by decide) rfl ?_
      refine g_goto h 10 dX12_split_33 rfl ?_
      have hc2 : c = 32 ∨ c = 10 := by
        first
          | exact Or.inl (eqN c17 (by omega) (by decide))
          | exact Or.inr (eqN (by first | exact c27 | exact Classical.not_not.mp c27) (by omega) (by decide))
      have hlt : q < L := by
        rcases Nat.lt_or_ge q L with r | r
        · exact r
        · have := eb2 (by omega)
          omega
      rw [if_pos ⟨hlt, by rw [← eb1 hlt]; exact hc2⟩] at he
      exact ih (q + 1) (by omega) hlt he
    · refine g_aload_0 h dX12_split_20 ?_
      refine g_iload_1 h dX12_split_21 ?_
      refine g_cVi1 h rok0 mi_X12_byteAt dX12_split_22 ml_X12_26 rfl rfl rfl (Nat.le_of_ble_eq_true rfl) (Nat.le_of_ble_eq_true rfl) (sp_X12_byteAt (by omega) hT ?_)
      rw [eb]
      refine g_bipush h dX12_split_25 (v := nI 10) rfl ?_
      refine g_icmp_ne h 36 dX12_split_27 rfl (fun c27 => ?_) (fun c27 => ?_)
      · have hno : ¬ (q < L ∧ (T q = 32 ∨ T q = 10)) := fun r => by
          have := eb1 r.1
          rcases r.2 with z | z
          · exact c17 (by rw [this, z])
          · exact c27 (by rw [this, z])
        rw [if_neg hno] at he
        subst he
        exact k
      · refine g_iinc_1 h dX12_split_30 (inc1 _) (by decide) rfl ?_
        refine g_goto h 10 dX12_split_33 rfl ?_
        have hc2 : c = 32 ∨ c = 10 := by
          first
            | exact Or.inl (eqN c17 (by omega) (by decide))
            | exact Or.inr (eqN (by first | exact c27 | exact Classical.not_not.mp c27) (by omega) (by decide))
        have hlt : q < L := by
          rcases Nat.lt_or_ge q L with r | r
          · exact r
          · have := eb2 (by omega)
            omega
        rw [if_pos ⟨hlt, by rw [← eb1 hlt]; exact hc2⟩] at he
        exact ih (q + 1) (by omega) hlt he
set_option maxRecDepth 100000 in
set_option maxHeartbeats 4000000 in
theorem lp_split {Γ : Cx} {T : Nat → Nat} {L : Nat} {d : Nat} {I0 : MI} {J : MJ} {P : MP} (hT0 : rtO T L I0) {Q : MI → MJ → MP → Prop} (hQ : ∀ I', spF I0 I' → (∀ n, n ≤ tM T L → rtA T L I' n) → Q I' J P) (h : Vc RX12 cX12_split 4 none (d + 7) Γ) : ∀ (f n : Nat) (I : MI), n + f = 401 → n ≤ tM T L → spF I0 I → (∀ j, j < n → rtA T L I j) → VG Γ 0 0 6 [some (.ref 80), some (.int (nI (bhT T L n))), some (.int (nI n)), some (.int (nI 1))] [] I J P (Fnl Γ (Qv Q)) := by
  obtain ⟨m1, m2, m3⟩ := tM_ok (T := T) (L := L)
  have tL := hT0.2.1
  intro f
  induction f with
  | zero =>
    intro n I hn hm
    omega
  | succ f ih =>
    intro n I hn hm hF hA
    have hT := hF.tp hT0
    have hbB := bhT_B (T := T) (L := L) n
    have htB := tB_B (T := T) (L := L) n
    have k47 := (tkR_B (T := T) htB).2.2
    have eE : bhT T L (n + 1) = (tkR T L (tB T L n)).2.1 := rfl
    have key : ∀ I2, rdF n (up2 I 84 n (nI (tB T L n))) I2 → rdO T L (tB T L n) n I2 → VG Γ 0 0 49 [some (.ref 80), some (.int (nI (tB T L n))), some (.int (nI n)), some (.int (nI 1))] [] I2 J P (Fnl Γ (Qv Q)) := by
      intro I2 f2 r2
      have key2 : ∀ I3, rdF n (up2 I 84 n (nI (tB T L n))) I3 → I3 82 n = nI (srt (tK T L n)) → I3 83 n = I2 83 n → I3 85 n = I2 85 n → VG Γ 0 0 72 [some (.ref 80), some (.int (nI (tB T L n))), some (.int (nI n)), some (.int (nI 1))] [] I3 J P (Fnl Γ (Qv Q)) := by
        intro I3 f3 s1 s2 s3
        have k9 := tK_lt (T := T) (L := L) n
        have sr := srt0 _ k9
        have hA3 : ∀ j, j < n + 1 → rtA T L I3 j := by
          intro j hj
          rcases Nat.lt_or_ge j n with q | q
          · have e : ∀ a, I3 a j = I a j := fun a => by
              rw [f3.2 a j (by omega)]
              by_cases ha : a = 84
              · subst ha; exact up2_n (by omega)
              · rw [up2_o ha]
            unfold rtA
            rw [e 82, e 83, e 84, e 85]
            exact hA j q
          · obtain rfl : j = n := by omega
            obtain ⟨w1, w2, w3⟩ := r2
            refine ⟨s1, ?_, ?_, fun q2 => ?_⟩
            · rw [f3.1 84 (by decide) (by decide) (by decide), up2_s]
            · rw [s2]
              have ek : tK T L j = 46 ∨ tK T L j = (tkR T L (tB T L j)).1 := by unfold tK; split <;> simp
              rcases ek with ek | ek
              · rw [ek]; exact ⟨fun z => absurd z (by decide), fun z => absurd z (by decide), fun _ z => absurd z (by decide)⟩
              · rw [ek]; exact w2
            · rw [s3]
              refine w3 ?_
              rcases Nat.lt_or_ge (tB T L j) L with z | z
              · exact z
              · have : (tkR T L (tB T L j)).1 = 45 := by rw [tkR, if_pos (by omega)]
                unfold tK at q2
                rw [this] at q2
                split at q2 <;> omega
        have hF3 : spF I0 I3 := fun a a1 a2 a3 a4 => by rw [f3.1 a a1 a2 a4, up2_o a3]; exact hF a a1 a2 a3 a4
        refine g_aload_0 h dX12_split_72 ?_
        refine g_getC h fl_X12_36 dX12_split_73 rfl rfl ?_
        refine g_iload_2 h dX12_split_76 ?_
        refine g_iald h n dX12_split_77 rfl rfl (by omega) ?_
        rw [s1]
        refine g_if_eq h 95 dX12_split_78 rfl (fun c78 => ?_) (fun c78 => ?_)
        · refine g_iconst h dX12_split_95 (v := nI 0) rfl ?_
          refine g_istore_3 h dX12_split_96 (by decide) rfl ?_
          refine g_iload_1 h dX12_split_97 ?_
          refine g_aload_0 h dX12_split_98 ?_
          refine g_getC h fl_X12_39 dX12_split_99 rfl rfl ?_
          refine g_iload_2 h dX12_split_102 ?_
          refine g_iald h n dX12_split_103 rfl rfl (by omega) ?_
          refine g_iadd h dX12_split_104 ?_
          refine g_istore_1 h dX12_split_105 (by decide) rfl ?_
          refine g_iinc_2 h dX12_split_106 (inc1 _) (by decide) rfl ?_
          refine g_goto h 6 dX12_split_109 rfl ?_
          first
            | (have q2 := srt_lt (tK T L n)
               have n0 : ¬ tK T L n = 45 := fun q => c78 (by rw [sr.1.mpr q]; rfl)
               have n5 : ¬ tK T L n = 46 := fun q => c88 (by rw [sr.2.mpr q])
               have hk9 : tK T L n < 45 := by omega
               have hlt : n < tM T L := by
                 rcases Nat.lt_or_ge n (tM T L) with q | q
                 · exact q
                 · obtain rfl : n = tM T L := by omega
                   omega
               have h85 := (hA3 n (by omega)).2.2.2 hk9
               have hle := (tkR_B (T := T) htB).1
               rw [h85, nI_add, show tB T L n + ((tkR T L (tB T L n)).2.1 - tB T L n) = bhT T L (n + 1) by omega]
               exact ih (n + 1) I3 (by omega) hlt hF3 hA3)
            | (refine g_iload_3 h dX12_split_6 ?_
               refine g_if_eq h 112 dX12_split_7 rfl (fun _ => ?_) (fun c => absurd c (by decide))
               refine g_vret h dX12_split_112 ?_
               have hM : n = tM T L := by
                 rcases Nat.lt_or_ge n (tM T L) with q | q
                 · have q1 := m3 n q
                   have q2 := srt_lt (tK T L n)
                   first
                     | (have q3 := sr.1.mp (eqN c78 (by omega) (by decide)); omega)
                     | (have q3 := sr.2.mp (eqN c88 (by omega) (by decide)); omega)
                 · omega
               exact hQ I3 hF3 (fun j hj => hA3 j (by omega)))
        · refine g_aload_0 h dX12_split_81 ?_
          refine g_getC h fl_X12_36 dX12_split_82 rfl rfl ?_
          refine g_iload_2 h dX12_split_85 ?_
          refine g_iald h n dX12_split_86 rfl rfl (by omega) ?_
          rw [s1]
          refine g_iconst h dX12_split_87 (v := nI 5) rfl ?_
          refine g_icmp_eq h 95 dX12_split_88 rfl (fun c88 => ?_) (fun c88 => ?_)
          · refine g_iconst h dX12_split_95 (v := nI 0) rfl ?_
            refine g_istore_3 h dX12_split_96 (by decide) rfl ?_
            refine g_iload_1 h dX12_split_97 ?_
            refine g_aload_0 h dX12_split_98 ?_
            refine g_getC h fl_X12_39 dX12_split_99 rfl rfl ?_
            refine g_iload_2 h dX12_split_102 ?_
            refine g_iald h n dX12_split_103 rfl rfl (by omega) ?_
            refine g_iadd h dX12_split_104 ?_
            refine g_istore_1 h dX12_split_105 (by decide) rfl ?_
            refine g_iinc_2 h dX12_split_106 (inc1 _) (by decide) rfl ?_
            refine g_goto h 6 dX12_split_109 rfl ?_
            first
              | (have q2 := srt_lt (tK T L n)
                 have n0 : ¬ tK T L n = 45 := fun q => c78 (by rw [sr.1.mpr q]; rfl)
                 have n5 : ¬ tK T L n = 46 := fun q => c88 (by rw [sr.2.mpr q])
                 have hk9 : tK T L n < 45 := by omega
                 have hlt : n < tM T L := by
                   rcases Nat.lt_or_ge n (tM T L) with q | q
                   · exact q
                   · obtain rfl : n = tM T L := by omega
                     omega
                 have h85 := (hA3 n (by omega)).2.2.2 hk9
                 have hle := (tkR_B (T := T) htB).1
                 rw [h85, nI_add, show tB T L n + ((tkR T L (tB T L n)).2.1 - tB T L n) = bhT T L (n + 1) by omega]
                 exact ih (n + 1) I3 (by omega) hlt hF3 hA3)
              | (refine g_iload_3 h dX12_split_6 ?_
                 refine g_if_eq h 112 dX12_split_7 rfl (fun _ => ?_) (fun c => absurd c (by decide))
                 refine g_vret h dX12_split_112 ?_
                 have hM : n = tM T L := by
                   rcases Nat.lt_or_ge n (tM T L) with q | q
                   · have q1 := m3 n q
                     have q2 := srt_lt (tK T L n)
                     first
                       | (have q3 := sr.1.mp (eqN c78 (by omega) (by decide)); omega)
                       | (have q3 := sr.2.mp (eqN c88 (by omega) (by decide)); omega)
                   · omega
                 exact hQ I3 hF3 (fun j hj => hA3 j (by omega)))
          · refine g_iconst h dX12_split_91 (v := nI 1) rfl ?_
            refine g_goto h 96 dX12_split_92 rfl ?_
            refine g_istore_3 h dX12_split_96 (by decide) rfl ?_
            refine g_iload_1 h dX12_split_97 ?_
            refine g_aload_0 h dX12_split_98 ?_
            refine g_getC h fl_X12_39 dX12_split_99 rfl rfl ?_
            refine g_iload_2 h dX12_split_102 ?_
            refine g_iald h n dX12_split_103 rfl rfl (by omega) ?_
            refine g_iadd h dX12_split_104 ?_
            refine g_istore_1 h dX12_split_105 (by decide) rfl ?_
            refine g_iinc_2 h dX12_split_106 (inc1 _) (by decide) rfl ?_
            refine g_goto h 6 dX12_split_109 rfl ?_
            first
              | (have q2 := srt_lt (tK T L n)
                 have n0 : ¬ tK T L n = 45 := fun q => c78 (by rw [sr.1.mpr q]; rfl)
                 have n5 : ¬ tK T L n = 46 := fun q => c88 (by rw [sr.2.mpr q])
                 have hk9 : tK T L n < 45 := by omega
                 have hlt : n < tM T L := by
                   rcases Nat.lt_or_ge n (tM T L) with q | q
                   · exact q
                   · obtain rfl : n = tM T L := by omega
                     omega
                 have h85 := (hA3 n (by omega)).2.2.2 hk9
                 have hle := (tkR_B (T := T) htB).1
                 rw [h85, nI_add, show tB T L n + ((tkR T L (tB T L n)).2.1 - tB T L n) = bhT T L (n + 1) by omega]
                 exact ih (n + 1) I3 (by omega) hlt hF3 hA3)
              | (refine g_iload_3 h dX12_split_6 ?_
                 refine g_if_eq h 112 dX12_split_7 rfl (fun _ => ?_) (fun c => absurd c (by decide))
                 refine g_vret h dX12_split_112 ?_
                 have hM : n = tM T L := by
                   rcases Nat.lt_or_ge n (tM T L) with q | q
                   · have q1 := m3 n q
                     have q2 := srt_lt (tK T L n)
                     first
                       | (have q3 := sr.1.mp (eqN c78 (by omega) (by decide)); omega)
                       | (have q3 := sr.2.mp (eqN c88 (by omega) (by decide)); omega)
                   · omega
                 exact hQ I3 hF3 (fun j hj => hA3 j (by omega)))
      refine g_iload_2 h dX12_split_49 ?_
      refine g_sipush h dX12_split_50 (v := nI 400) rfl ?_
      refine g_icmp_ne h 72 dX12_split_53 rfl (fun c53 => ?_) (fun c53 => ?_)
      · first
          | (have e4 : n = 400 := eqN (by first | exact c53 | exact Classical.not_not.mp c53) (by omega) (by decide)
             have e5 : ¬ (tkR T L (tB T L n)).1 = 45 := fun q => c62 (by rw [(srt0 _ k47).1.mpr q]; rfl)
             refine key2 _ (rdF.up (Or.inl rfl) f2) ?_ (by simp [up2]) (by simp [up2])
             rw [up2_s, show tK T L n = 46 from if_pos ⟨e4, e5⟩]
             rfl)
          | (have e5 : (tkR T L (tB T L n)).1 = 45 := (srt0 _ k47).1.mp (eqN c62 (by have := srt_lt (tkR T L (tB T L n)).1; omega) (by decide))
             refine key2 I2 f2 ?_ rfl rfl
             rw [r2.1, show tK T L n = (tkR T L (tB T L n)).1 from if_neg (fun q => q.2 e5)])
          | (have e4 : ¬ n = 400 := fun q => c53 (by rw [q])
             refine key2 I2 f2 ?_ rfl rfl
             rw [r2.1, show tK T L n = (tkR T L (tB T L n)).1 from if_neg (fun q => e4 q.1)])
      · refine g_aload_0 h dX12_split_56 ?_
        refine g_getC h fl_X12_36 dX12_split_57 rfl rfl ?_
        refine g_iload_2 h dX12_split_60 ?_
        refine g_iald h n dX12_split_61 rfl rfl (by omega) ?_
        rw [r2.1]
        refine g_if_eq h 72 dX12_split_62 rfl (fun c62 => ?_) (fun c62 => ?_)
        · first
            | (have e4 : n = 400 := eqN (by first | exact c53 | exact Classical.not_not.mp c53) (by omega) (by decide)
               have e5 : ¬ (tkR T L (tB T L n)).1 = 45 := fun q => c62 (by rw [(srt0 _ k47).1.mpr q]; rfl)
               refine key2 _ (rdF.up (Or.inl rfl) f2) ?_ (by simp [up2]) (by simp [up2])
               rw [up2_s, show tK T L n = 46 from if_pos ⟨e4, e5⟩]
               rfl)
            | (have e5 : (tkR T L (tB T L n)).1 = 45 := (srt0 _ k47).1.mp (eqN c62 (by have := srt_lt (tkR T L (tB T L n)).1; omega) (by decide))
               refine key2 I2 f2 ?_ rfl rfl
               rw [r2.1, show tK T L n = (tkR T L (tB T L n)).1 from if_neg (fun q => q.2 e5)])
            | (have e4 : ¬ n = 400 := fun q => c53 (by rw [q])
               refine key2 I2 f2 ?_ rfl rfl
               rw [r2.1, show tK T L n = (tkR T L (tB T L n)).1 from if_neg (fun q => e4 q.1)])
        · refine g_aload_0 h dX12_split_65 ?_
          refine g_getC h fl_X12_36 dX12_split_66 rfl rfl ?_
          refine g_iload_2 h dX12_split_69 ?_
          refine g_iconst h dX12_split_70 (v := nI 5) rfl ?_
          refine g_iast h n dX12_split_71 rfl rfl (by omega) ?_
          first
            | (have e4 : n = 400 := eqN (by first | exact c53 | exact Classical.not_not.mp c53) (by omega) (by decide)
               have e5 : ¬ (tkR T L (tB T L n)).1 = 45 := fun q => c62 (by rw [(srt0 _ k47).1.mpr q]; rfl)
               refine key2 _ (rdF.up (Or.inl rfl) f2) ?_ (by simp [up2]) (by simp [up2])
               rw [up2_s, show tK T L n = 46 from if_pos ⟨e4, e5⟩]
               rfl)
            | (have e5 : (tkR T L (tB T L n)).1 = 45 := (srt0 _ k47).1.mp (eqN c62 (by have := srt_lt (tkR T L (tB T L n)).1; omega) (by decide))
               refine key2 I2 f2 ?_ rfl rfl
               rw [r2.1, show tK T L n = (tkR T L (tB T L n)).1 from if_neg (fun q => q.2 e5)])
            | (have e4 : ¬ n = 400 := fun q => c53 (by rw [q])
               refine key2 I2 f2 ?_ rfl rfl
               rw [r2.1, show tK T L n = (tkR T L (tB T L n)).1 from if_neg (fun q => e4 q.1)])
    refine g_iload_3 h dX12_split_6 ?_
    refine g_if_eq h 112 dX12_split_7 rfl (fun c => absurd c (by decide)) (fun _ => ?_)
    refine lp_split1 (b := tB T L n) hT h ?_ 2000 (bhT T L n) (by omega) hbB rfl
    refine g_aload_0 h dX12_split_36 ?_
    refine g_getC h fl_X12_29 dX12_split_37 rfl rfl ?_
    refine g_iload_2 h dX12_split_40 ?_
    refine g_iload_1 h dX12_split_41 ?_
    refine g_iast h n dX12_split_42 rfl rfl (by omega) ?_
    have hT4 : rtO T L (up2 I 84 n (nI (tB T L n))) := by
      unfold rtO
      rw [up2_o (by decide), up2_o (by decide)]
      exact hT
    refine g_aload_0 h dX12_split_43 ?_
    refine g_iload_2 h dX12_split_44 ?_
    refine g_iload_1 h dX12_split_45 ?_
    refine g_cVv2 h rok0 mi_X12_read dX12_split_46 ml_X12_32 rfl rfl rfl (Nat.le_of_ble_eq_true rfl) (Nat.le_of_ble_eq_true rfl) (sp_X12_read (T := T) (L := L) (by omega) htB (hT4) (fun I2 f2 r2 => ?_))
    · exact key I2 f2 r2
set_option maxRecDepth 100000 in
set_option maxHeartbeats 4000000 in
theorem sp_X12_split {T : Nat → Nat} {L : Nat} {d : Nat} {I : MI} {J : MJ} {P : MP} (hT : rtO T L I) {Q : MI → MJ → MP → Prop} (hQ : ∀ I', spF I I' → (∀ n, n ≤ tM T L → rtA T L I' n) → Q I' J P) : Sp yX12_split cX12_split 4 none (d + 7) [.ref 80] I J P (Qv Q) := by
  intro Γ h
  show VG Γ 0 0 0 [some (.ref 80), none, none, none] [] _ _ _ _
  refine g_iconst h dX12_split_0 (v := nI 0) rfl ?_
  refine g_istore_1 h dX12_split_1 (by decide) rfl ?_
  refine g_iconst h dX12_split_2 (v := nI 0) rfl ?_
  refine g_istore_2 h dX12_split_3 (by decide) rfl ?_
  refine g_iconst h dX12_split_4 (v := nI 1) rfl ?_
  refine g_istore_3 h dX12_split_5 (by decide) rfl ?_
  exact lp_split hT hQ h 401 0 I rfl (Nat.zero_le _) (fun a _ _ _ _ => rfl) (fun j hj => absurd hj (Nat.not_lt_zero j))
def wnO (T : Nat → Nat) (L : Nat) (K wd bb ll : Nat → Nat) (M : Nat) (I : MI) : Prop := rtO T L I ∧ ∀ t, t ≤ M → K t = 28 → I 84 t = nI (bb t) ∧ I 85 t = nI (ll t) ∧ bb t + ll t ≤ L ∧ (∀ j, j < ll t → (48 ≤ T (bb t + j) ∧ T (bb t + j) ≤ 57) ∨ (97 ≤ T (bb t + j) ∧ T (bb t + j) ≤ 122)) ∧ wd t = cdW T (ll t) (bb t) 0
theorem cdW_eq {T : Nat → Nat} : ∀ f p q a, (∀ j, j < f → T (p + j) = T (q + j)) → cdW T f p a = cdW T f q a := by
  intro f
  induction f with
  | zero => intro p q a _; rfl
  | succ f ih =>
    intro p q a h
    have h0 := h 0 (by omega)
    rw [Nat.add_zero, Nat.add_zero] at h0
    rw [cdW, cdW, h0]
    exact ih (p + 1) (q + 1) _ (fun j hj => by rw [show p + 1 + j = p + (j + 1) by omega, show q + 1 + j = q + (j + 1) by omega]; exact h (j + 1) (by omega))
set_option maxRecDepth 100000 in
set_option maxHeartbeats 4000000 in
theorem lp_isSame {Γ : Cx} {T : Nat → Nat} {L : Nat} {d a b x y n : Nat} (ha : a ≤ 400) (hb : b ≤ 400) {I : MI} {J : MJ} {P : MP} (hT : rtO T L I) (e1 : I 84 a = nI x) (e2 : I 84 b = nI y) (e3 : I 85 a = nI n) (hx : x + n ≤ L) (hy : y + n ≤ L) {Q : Int32 → MI → MJ → MP → Prop} (h : Vc RX12 cX12_isSame 4 (some .boolean) (d) Γ) : ∀ (f i : Nat), i + f = n → Q (b2i (alB (fun j => decide (T (x + j) = T (y + j))) f i)) I J P → VG Γ 0 0 19 [some (.ref 80), some (.int (nI a)), some (.int (nI b)), some (.int (nI i))] [] I J P (Fnl Γ (Qi Q)) := by
  obtain ⟨t1, t2, t3⟩ := hT
  intro f
  induction f with
  | zero =>
    intro i hi hQ
    obtain rfl : i = n := by omega
    refine g_iload_3 h dX12_isSame_19 ?_
    refine g_aload_0 h dX12_isSame_20 ?_
    refine g_getC h fl_X12_39 dX12_isSame_21 rfl rfl ?_
    refine g_iload_1 h dX12_isSame_24 ?_
    refine g_iald h a dX12_isSame_25 rfl rfl (by omega) ?_
    refine g_icmp_ge h 66 dX12_isSame_26 rfl (fun _ => ?_) (fun c => absurd (by rw [e3]; exact nI_le (Nat.le_refl _) (by omega)) c)
    refine g_iconst h dX12_isSame_66 (v := nI 1) rfl ?_
    refine g_zret h dX12_isSame_67 (by first | rfl | exact nar_b2i _) ?_
    exact hQ
  | succ f ih =>
    intro i hi hQ
    have w1 := t3 (x + i) (by omega)
    have w2 := t3 (y + i) (by omega)
    rw [alB] at hQ
    refine g_iload_3 h dX12_isSame_19 ?_
    refine g_aload_0 h dX12_isSame_20 ?_
    refine g_getC h fl_X12_39 dX12_isSame_21 rfl rfl ?_
    refine g_iload_1 h dX12_isSame_24 ?_
    refine g_iald h a dX12_isSame_25 rfl rfl (by omega) ?_
    refine g_icmp_ge h 66 dX12_isSame_26 rfl (fun c => absurd (by rw [e3] at c; exact c) (nI_ge (by omega) (by omega))) (fun _ => ?_)
    refine g_aload_0 h dX12_isSame_29 ?_
    refine g_getC h fl_X12_18 dX12_isSame_30 rfl rfl ?_
    refine g_aload_0 h dX12_isSame_33 ?_
    refine g_getC h fl_X12_29 dX12_isSame_34 rfl rfl ?_
    refine g_iload_1 h dX12_isSame_37 ?_
    refine g_iald h a dX12_isSame_38 rfl rfl (by omega) ?_
    refine g_iload_3 h dX12_isSame_39 ?_
    refine g_iadd h dX12_isSame_40 ?_
    refine g_iald h (x + i) dX12_isSame_41 rfl (by rw [e1]; exact nI_add x i) (by omega) ?_
    rw [w1.1]
    refine g_aload_0 h dX12_isSame_42 ?_
    refine g_getC h fl_X12_18 dX12_isSame_43 rfl rfl ?_
    refine g_aload_0 h dX12_isSame_46 ?_
    refine g_getC h fl_X12_29 dX12_isSame_47 rfl rfl ?_
    refine g_iload_2 h dX12_isSame_50 ?_
    refine g_iald h b dX12_isSame_51 rfl rfl (by omega) ?_
    refine g_iload_3 h dX12_isSame_52 ?_
    refine g_iadd h dX12_isSame_53 ?_
    refine g_iald h (y + i) dX12_isSame_54 rfl (by rw [e2]; exact nI_add y i) (by omega) ?_
    rw [w2.1]
    refine g_icmp_eq h 60 dX12_isSame_55 rfl (fun c55 => ?_) (fun c55 => ?_)
    · refine g_iinc_3 h dX12_isSame_60 (inc1 _) (by decide) rfl ?_
      refine g_goto h 19 dX12_isSame_63 rfl ?_
      have q : T (x + i) = T (y + i) := eqN c55 (by omega) (by omega)
      rw [if_pos (by simpa using q)] at hQ
      exact ih (i + 1) (by omega) hQ
    · refine g_iconst h dX12_isSame_58 (v := nI 0) rfl ?_
      refine g_zret h dX12_isSame_59 (by first | rfl | exact nar_b2i _) ?_
      have q : ¬ T (x + i) = T (y + i) := fun q => c55 (by rw [q])
      rw [if_neg (by simpa using q)] at hQ
      exact hQ
set_option maxRecDepth 100000 in
set_option maxHeartbeats 4000000 in
theorem sp_X12_isSame {T : Nat → Nat} {L : Nat} {K wd bb ll : Nat → Nat} {M d a b : Nat} (hM : M ≤ 400) (ha : a ≤ M) (hb : b ≤ M) (ka : K a = 28) (kb : K b = 28) {I : MI} {J : MJ} {P : MP} (hW : wnO T L K wd bb ll M I) {Q : Int32 → MI → MJ → MP → Prop} (hQ : Q (b2i (decide (wd a = wd b))) I J P) : Sp yX12_isSame cX12_isSame 4 (some .boolean) d [.ref 80, .int (nI a), .int (nI b)] I J P (Qi Q) := by
  obtain ⟨hT, hw⟩ := hW
  have tL := hT.2.1
  obtain ⟨a1, a2, a3, a4, a5⟩ := hw a ha ka
  obtain ⟨b1, b2, b3, b4, b5⟩ := hw b hb kb
  have inj : wd a = wd b → ll a = ll b ∧ ∀ j, j < ll a → T (bb a + j) = T (bb b + j) := fun q => cdW_inj _ _ _ _ a4 b4 (by rw [← a5, ← b5]; exact q)
  intro Γ h
  show VG Γ 0 0 0 [some (.ref 80), some (.int (nI a)), some (.int (nI b)), none] [] _ _ _ _
  refine g_aload_0 h dX12_isSame_0 ?_
  refine g_getC h fl_X12_39 dX12_isSame_1 rfl rfl ?_
  refine g_iload_1 h dX12_isSame_4 ?_
  refine g_iald h a dX12_isSame_5 rfl rfl (by omega) ?_
  rw [a2]
  refine g_aload_0 h dX12_isSame_6 ?_
  refine g_getC h fl_X12_39 dX12_isSame_7 rfl rfl ?_
  refine g_iload_2 h dX12_isSame_10 ?_
  refine g_iald h b dX12_isSame_11 rfl rfl (by omega) ?_
  rw [b2]
  refine g_icmp_eq h 17 dX12_isSame_12 rfl (fun c12 => ?_) (fun c12 => ?_)
  · refine g_iconst h dX12_isSame_17 (v := nI 0) rfl ?_
    refine g_istore_3 h dX12_isSame_18 (by decide) rfl ?_
    have q : ll a = ll b := eqN c12 (by omega) (by omega)
    refine lp_isSame (by omega) (by omega) hT a1 b1 a2 a3 (by omega) h (ll a) 0 (by omega) ?_
    have e : alB (fun j => decide (T (bb a + j) = T (bb b + j))) (ll a) 0 = decide (wd a = wd b) := by
      by_cases z : wd a = wd b
      · rw [decide_eq_true z, alB_iff]
        exact fun j _ hj => decide_eq_true ((inj z).2 j (by omega))
      · rw [decide_eq_false z]
        by_cases y : alB (fun j => decide (T (bb a + j) = T (bb b + j))) (ll a) 0 = true
        · rw [alB_iff] at y
          exact absurd (by rw [a5, b5, q, cdW_eq (ll b) (bb a) (bb b) 0 (fun j hj => of_decide_eq_true (y j (Nat.zero_le _) (by omega)))]) z
        · exact Bool.eq_false_iff.mpr y
    rw [e]
    exact hQ
  · refine g_iconst h dX12_isSame_15 (v := nI 0) rfl ?_
    refine g_zret h dX12_isSame_16 (by first | rfl | exact nar_b2i _) ?_
    have q : ¬ wd a = wd b := fun q => c12 (by rw [(inj q).1])
    rw [decide_eq_false q] at hQ
    exact hQ
