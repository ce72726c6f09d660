def wp_X3_hasBalloonOver_0 (P : Option Value → hp_T → Prop) (X : String → hp_T → Prop) (K2 : KT) : KT :=
  i_pushI 0 (i_istore 3 K2)
set_option maxRecDepth 20000 in
theorem go_X3_hasBalloonOver_0 {z : zT} {P : Option Value → hp_T → Prop} {X : String → hp_T → Prop} {K2 : KT} (hz : Cx z cX3_hasBalloonOver 5 "Panelry$Page" "hasBalloonOver" 4 0 0) (hr : Rt z (some .boolean) P X 0 0) (h2 : Go z 0 0 2 K2) : Go z 0 0 0 (wp_X3_hasBalloonOver_0 P X K2) := 
  s_iconst hz rfl dX3_hasBalloonOver_0 (s_istore_n hz rfl rfl dX3_hasBalloonOver_1 h2)
def wp_X3_hasBalloonOver_44 (P : Option Value → hp_T → Prop) (X : String → hp_T → Prop) (K2 : KT) : KT :=
  i_iinc 3 1 K2
set_option maxRecDepth 20000 in
theorem go_X3_hasBalloonOver_44 {z : zT} {P : Option Value → hp_T → Prop} {X : String → hp_T → Prop} {K2 : KT} (hz : Cx z cX3_hasBalloonOver 5 "Panelry$Page" "hasBalloonOver" 4 0 0) (hr : Rt z (some .boolean) P X 0 0) (h2 : Go z 0 0 2 K2) : Go z 0 0 44 (wp_X3_hasBalloonOver_44 P X K2) := 
  s_iinc hz rfl rfl dX3_hasBalloonOver_44 (s_goto hz (tgt := 2) rfl dX3_hasBalloonOver_47 h2)
def wp_X3_hasBalloonOver_2 (P : Option Value → hp_T → Prop) (X : String → hp_T → Prop) (K2 : KT) : KT :=
  i_iload 3 (i_aload 0 (i_getR 5 321 (i_callV 0 1 T_Jx4a65c_size_8abf5 noX (i_icge (i_pushI 0 (i_zret P)) (i_aload 0 (i_iload 3 (i_iload 1 (i_aload 2 (i_callV 3 5 T_X3_neighbourAt noX
    (i_astore 4 (i_aload 4 (i_ifnull (wp_X3_hasBalloonOver_44 P X K2) (i_aload 4 (i_getR 2 131 (i_aload 2 (i_getR 2 131 (i_callV 1 3 T_X1_overlaps noX (i_ifeq (wp_X3_hasBalloonOver_44 P X K2)
    (i_pushI 1 (i_zret P))))))))))))))))))))
set_option maxRecDepth 20000 in
theorem go_X3_hasBalloonOver_2 {z : zT} {P : Option Value → hp_T → Prop} {X : String → hp_T → Prop} {K2 : KT} (hz : Cx z cX3_hasBalloonOver 5 "Panelry$Page" "hasBalloonOver" 4 0 0) (hr : Rt z (some .boolean) P X 0 0) (h2 : Go z 0 0 2 K2) : Go z 0 0 2 (wp_X3_hasBalloonOver_2 P X K2) := 
  s_iload_n hz rfl dX3_hasBalloonOver_2 (s_aload_n hz rfl dX3_hasBalloonOver_3 (fg_RX3_18 hz dX3_hasBalloonOver_4 (s_callV hz ct_Jx4a65c_size_8abf5 ⟨w167, w115, w32, by decide, by decide, by decide +kernel⟩ w113 w114 cls0 rfl rfl rfl rfl rfl rfl out_no dX3_hasBalloonOver_7
    (s_icge hz (tgt := 50) rfl dX3_hasBalloonOver_10 (s_iconst hz rfl dX3_hasBalloonOver_50 (s_zret hz hr rfl rfl dX3_hasBalloonOver_51)) (s_aload_n hz rfl dX3_hasBalloonOver_13 (s_iload_n hz rfl dX3_hasBalloonOver_14
    (s_iload_n hz rfl dX3_hasBalloonOver_15 (s_aload_n hz rfl dX3_hasBalloonOver_16 (s_callV hz ct_X3_neighbourAt ⟨w727, w730, w38, by decide, by decide, by decide +kernel⟩ w729 w13 cls4 rfl rfl rfl rfl rfl rfl out_no dX3_hasBalloonOver_17
    (s_astore hz rfl dX3_hasBalloonOver_20 (s_aload hz dX3_hasBalloonOver_22 (s_ifnull hz (tgt := 44) rfl dX3_hasBalloonOver_24 (go_X3_hasBalloonOver_44 hz hr h2) (s_aload hz dX3_hasBalloonOver_27
    (fg_RX3_63 hz dX3_hasBalloonOver_29 (s_aload_n hz rfl dX3_hasBalloonOver_32 (fg_RX3_63 hz dX3_hasBalloonOver_33 (s_callV hz ct_X1_overlaps ⟨w492, w495, w47, by decide, by decide, by decide +kernel⟩ w493 w494 cls2 rfl rfl rfl rfl rfl rfl out_no dX3_hasBalloonOver_36
    (s_ifeq hz (tgt := 44) rfl dX3_hasBalloonOver_39 (go_X3_hasBalloonOver_44 hz hr h2) (s_iconst hz rfl dX3_hasBalloonOver_42 (s_zret hz hr rfl rfl dX3_hasBalloonOver_43))))))))))))))))))))

def T_X3_hasBalloonOver : PT := fun av h P X => match av with
  | [.ref a, .int y, .ref w] => (pgOK h a ∧ blOK h w) ∧ (P (some (.int (bI (∃ i, i < blN h a ∧ ¬ nI i = y ∧ hI h 128 (bl h a i) 0 = hI h 128 w 0 ∧ bOv h (bb h a i) (dR h 131 w))))) h)
  | _ => False
set_option maxRecDepth 20000 in
theorem ct_X3_hasBalloonOver : CT yX3_hasBalloonOver cX3_hasBalloonOver 5 (some .boolean) 4 0 0 T_X3_hasBalloonOver := by
  refine ct_ofE (by decide) (fun z av h P X hT hz hr => ?_) (fun av h P X hT => ?_)
  · unfold T_X3_hasBalloonOver at hT
    split at hT
    · rename_i a y w
      obtain ⟨hk, hp⟩ := hT
      obtain ⟨k1, ⟨k2, k3, k4, k5, k6⟩, ⟨k7, k8, k9, k10, k11⟩, k12, k13⟩ := hk.1
      have eN : lsz h (dR h 320 a) = pnN h a := rfl
      have eB : lsz h (dR h 321 a) = blN h a := rfl
      have eP : ∀ j, lel h (dR h 320 a) j = pn h a j := fun _ => rfl
      have eL : ∀ j, lel h (dR h 321 a) j = bl h a j := fun _ => rfl
      have eQ : ∀ j, dR h 384 (pn h a j) = pb h a j := fun _ => rfl
      have eR : ∀ j, dR h 131 (bl h a j) = bb h a j := fun _ => rfl
      have kw := hk.2.1
      have kw2 := hk.2.2.1
      have kw3 := hk.2.2.2
      have hloop := Go.loop (z := z) (cells := 0) (slots := 0) (pc := 2) (fun n ls st h' => ∃ i o, i + n = blN h a ∧ ls = [some (.ref a), some (.int y), some (.ref w), some (.int (nI i)), o] ∧ st = [] ∧ h' = h ∧ ∀ j, j < i → ¬ (¬ nI j = y ∧ hI h 128 (bl h a j) 0 = hI h 128 w 0 ∧ bOv h (bb h a j) (dR h 131 w))) (fun k => wp_X3_hasBalloonOver_2 P X k) (fun k hgo => go_X3_hasBalloonOver_2 hz hr hgo) (by
        rintro n ls st h' ⟨i, o, hi, rfl, rfl, rfl, hno⟩
        have hcl : (nI i).toNatClampNeg = i := nI_clamp (by omega)
        have hge : (nI (blN h' a) ≤ nI i) ↔ ¬ i < blN h' a := by rw [leI (by omega) (by omega)]; omega
        simp only [wp_X3_hasBalloonOver_0, wp_X3_hasBalloonOver_44, wp_X3_hasBalloonOver_2, T_Jx4a65c_size_8abf5, T_X3_neighbourAt, T_X1_overlaps, i_mmax, i_mmin, i_pushI, i_pushN, i_pushL, i_iload, i_aload, i_istore, i_astore, i_iinc, i_iadd, i_isub, i_imul, i_iand, i_ior, i_ixor, i_ishl, i_ishr, i_iushr, i_idiv, i_i2l, i_lcmp, i_dup, i_pop, i_dupx1, i_dup2, i_ifeq, i_ifne, i_iflt, i_ifge, i_ifgt, i_ifle, i_iceq, i_icne, i_iclt, i_icge, i_icgt, i_icle, i_ifnull, i_aceq, i_getI, i_getR, i_putI, i_putZ, i_putR, i_new, i_newarr, i_ald, i_lald, i_aald, i_alen, i_ast, i_zast, i_last, i_aast, i_aastL, i_cast, i_gste, i_ldcM, i_getC, i_acopy, i_dead, i_objinit, i_callV, i_callS, i_callI, i_iret, i_zret, i_aret, i_vret, i_throw, popN, pushO, lget, lset, isRf_ref, isRf_null, isRf_rf, isC1_int, isC1_ref, isC1_null, isC1_rf, true_and, and_true, List.length_cons, List.length_nil, Nat.reduceAdd, Nat.reduceLeDiff, hK_sI, hN_sI, hR_sI, hI_sI, hK_sR, hN_sR, hR_sR, hI_sR, kC_2, kC_3, kC_4, kC_5, kC_6, kC_7, kC_8, kC_9, kC_10, kC_11, kC_20, kC_21, kC_22, kC_23, i2_0, i1_1, i0_1, i1_0, bI_and, bI_0, Decidable.not_not, not_false_eq_true, not_true_eq_false, forall_const, false_implies, true_implies, hK_copy, hN_copy, hI_copy, hC_sI, hC_sR, hC_new, hK_new, hN_new, hI_new, hR_new, rf_some, rf_none, ex_ref, ex_null, ex_rf, nref_null, rf_null, Nat.reduceEqDiff, reduceCtorEq, false_and, and_false, if_false, if_true, ne_eq, kO_150, kO_151, kO_152, kO_170, kO_180, kO_190, Value.ref.injEq, exists_eq_left', false_or, k1, k2, k3, k4, k7, k8, k9, eN, eB, eP, eL, eQ, eR, hge, hcl, kw, hk.1]
        refine ⟨fun e => ?_, fun e => ⟨fun e2 => ?_, fun e2 => ?_⟩⟩
        · rw [bI_f (fun ⟨j, hj, z⟩ => hno j (by omega) z)] at hp
          exact hp
        · refine ⟨n - 1, by omega, i + 1, some .null, by omega, by rw [nI_1, e2]; rfl, fun j hj z => ?_⟩
          by_cases e4 : j = i
          · subst e4; exact nbr_none (by omega) e e2 ⟨z.1, z.2.1⟩
          · exact hno j (by omega) z
        · obtain ⟨c, hc⟩ := (pn_null _).mp e2
          obtain ⟨z1, rfl⟩ := nbr_some (by omega) (by omega) hc
          obtain ⟨b1, b2, b3⟩ := k11 i e
          rw [eR] at b2 b3
          simp only [wp_X3_hasBalloonOver_0, wp_X3_hasBalloonOver_44, wp_X3_hasBalloonOver_2, T_Jx4a65c_size_8abf5, T_X3_neighbourAt, T_X1_overlaps, i_mmax, i_mmin, i_pushI, i_pushN, i_pushL, i_iload, i_aload, i_istore, i_astore, i_iinc, i_iadd, i_isub, i_imul, i_iand, i_ior, i_ixor, i_ishl, i_ishr, i_iushr, i_idiv, i_i2l, i_lcmp, i_dup, i_pop, i_dupx1, i_dup2, i_ifeq, i_ifne, i_iflt, i_ifge, i_ifgt, i_ifle, i_iceq, i_icne, i_iclt, i_icge, i_icgt, i_icle, i_ifnull, i_aceq, i_getI, i_getR, i_putI, i_putZ, i_putR, i_new, i_newarr, i_ald, i_lald, i_aald, i_alen, i_ast, i_zast, i_last, i_aast, i_aastL, i_cast, i_gste, i_ldcM, i_getC, i_acopy, i_dead, i_objinit, i_callV, i_callS, i_callI, i_iret, i_zret, i_aret, i_vret, i_throw, popN, pushO, lget, lset, isRf_ref, isRf_null, isRf_rf, isC1_int, isC1_ref, isC1_null, isC1_rf, true_and, and_true, List.length_cons, List.length_nil, Nat.reduceAdd, Nat.reduceLeDiff, hK_sI, hN_sI, hR_sI, hI_sI, hK_sR, hN_sR, hR_sR, hI_sR, kC_2, kC_3, kC_4, kC_5, kC_6, kC_7, kC_8, kC_9, kC_10, kC_11, kC_20, kC_21, kC_22, kC_23, i2_0, i1_1, i0_1, i1_0, bI_and, bI_0, Decidable.not_not, not_false_eq_true, not_true_eq_false, forall_const, false_implies, true_implies, hK_copy, hN_copy, hI_copy, hC_sI, hC_sR, hC_new, hK_new, hN_new, hI_new, hR_new, rf_some, rf_none, ex_ref, ex_null, ex_rf, nref_null, rf_null, Nat.reduceEqDiff, reduceCtorEq, false_and, and_false, if_false, if_true, ne_eq, kO_150, kO_151, kO_152, kO_170, kO_180, kO_190, Value.ref.injEq, exists_eq_left', false_or, hc, b1, b2, b3, kw, kw2, kw3]
          refine ⟨fun e3 => ?_, fun e3 => ?_⟩
          · refine ⟨n - 1, by omega, i + 1, _, by omega, by rw [nI_1], fun j hj z => ?_⟩
            by_cases e4 : j = i
            · subst e4; exact e3 z.2.2
            · exact hno j (by omega) z
          · rw [bI_t ⟨i, e, z1.1, z1.2.2, e3⟩] at hp
            exact hp)
      refine ⟨_, go_X3_hasBalloonOver_0 hz hr hloop, ?_⟩
      show wp_X3_hasBalloonOver_0 P X _ [some (.ref a), some (.int y), some (.ref w), none, none] [] h
      simp only [wp_X3_hasBalloonOver_0, wp_X3_hasBalloonOver_44, wp_X3_hasBalloonOver_2, T_Jx4a65c_size_8abf5, T_X3_neighbourAt, T_X1_overlaps, i_mmax, i_mmin, i_pushI, i_pushN, i_pushL, i_iload, i_aload, i_istore, i_astore, i_iinc, i_iadd, i_isub, i_imul, i_iand, i_ior, i_ixor, i_ishl, i_ishr, i_iushr, i_idiv, i_i2l, i_lcmp, i_dup, i_pop, i_dupx1, i_dup2, i_ifeq, i_ifne, i_iflt, i_ifge, i_ifgt, i_ifle, i_iceq, i_icne, i_iclt, i_icge, i_icgt, i_icle, i_ifnull, i_aceq, i_getI, i_getR, i_putI, i_putZ, i_putR, i_new, i_newarr, i_ald, i_lald, i_aald, i_alen, i_ast, i_zast, i_last, i_aast, i_aastL, i_cast, i_gste, i_ldcM, i_getC, i_acopy, i_dead, i_objinit, i_callV, i_callS, i_callI, i_iret, i_zret, i_aret, i_vret, i_throw, popN, pushO, lget, lset, isRf_ref, isRf_null, isRf_rf, isC1_int, isC1_ref, isC1_null, isC1_rf, true_and, and_true, List.length_cons, List.length_nil, Nat.reduceAdd, Nat.reduceLeDiff, hK_sI, hN_sI, hR_sI, hI_sI, hK_sR, hN_sR, hR_sR, hI_sR, kC_2, kC_3, kC_4, kC_5, kC_6, kC_7, kC_8, kC_9, kC_10, kC_11, kC_20, kC_21, kC_22, kC_23, i2_0, i1_1, i0_1, i1_0, bI_and, bI_0, Decidable.not_not, not_false_eq_true, not_true_eq_false, forall_const, false_implies, true_implies, hK_copy, hN_copy, hI_copy, hC_sI, hC_sR, hC_new, hK_new, hN_new, hI_new, hR_new, rf_some, rf_none, ex_ref, ex_null, ex_rf, nref_null, rf_null, Nat.reduceEqDiff, reduceCtorEq, false_and, and_false, if_false, if_true, ne_eq, kO_150, kO_151, kO_152, kO_170, kO_180, kO_190, Value.ref.injEq, exists_eq_left', false_or]
      exact ⟨blN h a, 0, none, by omega, rfl, fun j hj => absurd hj (Nat.not_lt_zero j)⟩
    · exact hT.elim
  · unfold T_X3_hasBalloonOver at hT
    split at hT
    · exact ⟨Nat.le_of_ble_eq_true rfl, by simp [isC1_int, isC1_ref, isC1_null, isC1_rf]⟩
    · exact hT.elim
def wp_X3_isOutOfTurn_0 (P : Option Value → hp_T → Prop) (X : String → hp_T → Prop) (K2 : KT) : KT :=
  i_pushI 0 (i_istore 3 K2)
set_option maxRecDepth 20000 in
theorem go_X3_isOutOfTurn_0 {z : zT} {P : Option Value → hp_T → Prop} {X : String → hp_T → Prop} {K2 : KT} (hz : Cx z cX3_isOutOfTurn 5 "Panelry$Page" "isOutOfTurn" 4 0 0) (hr : Rt z (some .boolean) P X 0 0) (h2 : Go z 0 0 2 K2) : Go z 0 0 0 (wp_X3_isOutOfTurn_0 P X K2) := 
  s_iconst hz rfl dX3_isOutOfTurn_0 (s_istore_n hz rfl rfl dX3_isOutOfTurn_1 h2)
def wp_X3_isOutOfTurn_36 (P : Option Value → hp_T → Prop) (X : String → hp_T → Prop) (K2 : KT) : KT :=
  i_iinc 3 1 K2
set_option maxRecDepth 20000 in
theorem go_X3_isOutOfTurn_36 {z : zT} {P : Option Value → hp_T → Prop} {X : String → hp_T → Prop} {K2 : KT} (hz : Cx z cX3_isOutOfTurn 5 "Panelry$Page" "isOutOfTurn" 4 0 0) (hr : Rt z (some .boolean) P X 0 0) (h2 : Go z 0 0 2 K2) : Go z 0 0 36 (wp_X3_isOutOfTurn_36 P X K2) := 
  s_iinc hz rfl rfl dX3_isOutOfTurn_36 (s_goto hz (tgt := 2) rfl dX3_isOutOfTurn_39 h2)
def wp_X3_isOutOfTurn_2 (P : Option Value → hp_T → Prop) (X : String → hp_T → Prop) (K2 : KT) : KT :=
  i_iload 3 (i_iload 1 (i_icge (i_pushI 0 (i_zret P)) (i_aload 0 (i_iload 3 (i_iload 1 (i_aload 2 (i_callV 3 5 T_X3_neighbourAt noX (i_astore 4 (i_aload 4 (i_ifnull (wp_X3_isOutOfTurn_36 P X K2)
    (i_aload 2 (i_aload 4 (i_aload 0 (i_getI 5 322 (i_callV 2 2 T_X0_standsAheadOf noX (i_ifeq (wp_X3_isOutOfTurn_36 P X K2) (i_pushI 1 (i_zret P))))))))))))))))))
set_option maxRecDepth 20000 in
theorem go_X3_isOutOfTurn_2 {z : zT} {P : Option Value → hp_T → Prop} {X : String → hp_T → Prop} {K2 : KT} (hz : Cx z cX3_isOutOfTurn 5 "Panelry$Page" "isOutOfTurn" 4 0 0) (hr : Rt z (some .boolean) P X 0 0) (h2 : Go z 0 0 2 K2) : Go z 0 0 2 (wp_X3_isOutOfTurn_2 P X K2) := 
  s_iload_n hz rfl dX3_isOutOfTurn_2 (s_iload_n hz rfl dX3_isOutOfTurn_3 (s_icge hz (tgt := 42) rfl dX3_isOutOfTurn_4 (s_iconst hz rfl dX3_isOutOfTurn_42 (s_zret hz hr rfl rfl dX3_isOutOfTurn_43))
    (s_aload_n hz rfl dX3_isOutOfTurn_7 (s_iload_n hz rfl dX3_isOutOfTurn_8 (s_iload_n hz rfl dX3_isOutOfTurn_9 (s_aload_n hz rfl dX3_isOutOfTurn_10 (s_callV hz ct_X3_neighbourAt ⟨w727, w730, w38, by decide, by decide, by decide +kernel⟩ w729 w13 cls4 rfl rfl rfl rfl rfl rfl out_no dX3_isOutOfTurn_11
    (s_astore hz rfl dX3_isOutOfTurn_14 (s_aload hz dX3_isOutOfTurn_16 (s_ifnull hz (tgt := 36) rfl dX3_isOutOfTurn_18 (go_X3_isOutOfTurn_36 hz hr h2) (s_aload_n hz rfl dX3_isOutOfTurn_21
    (s_aload hz dX3_isOutOfTurn_22 (s_aload_n hz rfl dX3_isOutOfTurn_24 (fg_RX3_21 hz dX3_isOutOfTurn_25 (s_callV hz ct_X0_standsAheadOf ⟨w809, w812, w52, by decide, by decide, by decide +kernel⟩ w810 w811 cls1 rfl rfl rfl rfl rfl rfl out_no dX3_isOutOfTurn_28
    (s_ifeq hz (tgt := 36) rfl dX3_isOutOfTurn_31 (go_X3_isOutOfTurn_36 hz hr h2) (s_iconst hz rfl dX3_isOutOfTurn_34 (s_zret hz hr rfl rfl dX3_isOutOfTurn_35))))))))))))))))))

def T_X3_isOutOfTurn : PT := fun av h P X => match av with
  | [.ref a, .int y, .ref w] => ((pgOK h a ∧ blOK h w) ∧ y = nI y.toNatClampNeg ∧ y.toNatClampNeg < blN h a) ∧ (P (some (.int (bI (∃ i, i < y.toNatClampNeg ∧ hI h 128 (bl h a i) 0 = hI h 128 w 0 ∧ bEarly h (dR h 131 w) (bb h a i) (hI h 322 a 0))))) h)
  | _ => False
set_option maxRecDepth 20000 in
theorem ct_X3_isOutOfTurn : CT yX3_isOutOfTurn cX3_isOutOfTurn 5 (some .boolean) 4 0 0 T_X3_isOutOfTurn := by
  refine ct_ofE (by decide) (fun z av h P X hT hz hr => ?_) (fun av h P X hT => ?_)
  · unfold T_X3_isOutOfTurn at hT
    split at hT
    · rename_i a y w
      obtain ⟨hk, hp⟩ := hT
      obtain ⟨hk, hy, hy2⟩ := hk
      obtain ⟨k1, ⟨k2, k3, k4, k5, k6⟩, ⟨k7, k8, k9, k10, k11⟩, k12, k13⟩ := hk.1
      have eN : lsz h (dR h 320 a) = pnN h a := rfl
      have eB : lsz h (dR h 321 a) = blN h a := rfl
      have eP : ∀ j, lel h (dR h 320 a) j = pn h a j := fun _ => rfl
      have eL : ∀ j, lel h (dR h 321 a) j = bl h a j := fun _ => rfl
      have eQ : ∀ j, dR h 384 (pn h a j) = pb h a j := fun _ => rfl
      have eR : ∀ j, dR h 131 (bl h a j) = bb h a j := fun _ => rfl
      have kw := hk.2.1
      have kw2 := hk.2.2.1
      have kw3 := hk.2.2.2
      generalize y.toNatClampNeg = m at hy hy2 hp
      subst hy
      have hloop := Go.loop (z := z) (cells := 0) (slots := 0) (pc := 2) (fun n ls st h' => ∃ i o, i + n = m ∧ ls = [some (.ref a), some (.int (nI m)), some (.ref w), some (.int (nI i)), o] ∧ st = [] ∧ h' = h ∧ ∀ j, j < i → ¬ (hI h 128 (bl h a j) 0 = hI h 128 w 0 ∧ bEarly h (dR h 131 w) (bb h a j) (hI h 322 a 0))) (fun k => wp_X3_isOutOfTurn_2 P X k) (fun k hgo => go_X3_isOutOfTurn_2 hz hr hgo) (by
        rintro n ls st h' ⟨i, o, hi, rfl, rfl, rfl, hno⟩
        have hcl : (nI i).toNatClampNeg = i := nI_clamp (by omega)
        have hge : (nI m ≤ nI i) ↔ ¬ i < m := by rw [leI (by omega) (by omega)]; omega
        have hne : ∀ i, i < m → ¬ nI i = nI m := fun i hi => by rw [eqI (by omega) (by omega)]; omega
        simp only [wp_X3_isOutOfTurn_0, wp_X3_isOutOfTurn_36, wp_X3_isOutOfTurn_2, T_X3_neighbourAt, T_X0_standsAheadOf, i_mmax, i_mmin, i_pushI, i_pushN, i_pushL, i_iload, i_aload, i_istore, i_astore, i_iinc, i_iadd, i_isub, i_imul, i_iand, i_ior, i_ixor, i_ishl, i_ishr, i_iushr, i_idiv, i_i2l, i_lcmp, i_dup, i_pop, i_dupx1, i_dup2, i_ifeq, i_ifne, i_iflt, i_ifge, i_ifgt, i_ifle, i_iceq, i_icne, i_iclt, i_icge, i_icgt, i_icle, i_ifnull, i_aceq, i_getI, i_getR, i_putI, i_putZ, i_putR, i_new, i_newarr, i_ald, i_lald, i_aald, i_alen, i_ast, i_zast, i_last, i_aast, i_aastL, i_cast, i_gste, i_ldcM, i_getC, i_acopy, i_dead, i_objinit, i_callV, i_callS, i_callI, i_iret, i_zret, i_aret, i_vret, i_throw, popN, pushO, lget, lset, isRf_ref, isRf_null, isRf_rf, isC1_int, isC1_ref, isC1_null, isC1_rf, true_and, and_true, List.length_cons, List.length_nil, Nat.reduceAdd, Nat.reduceLeDiff, hK_sI, hN_sI, hR_sI, hI_sI, hK_sR, hN_sR, hR_sR, hI_sR, kC_2, kC_3, kC_4, kC_5, kC_6, kC_7, kC_8, kC_9, kC_10, kC_11, kC_20, kC_21, kC_22, kC_23, i2_0, i1_1, i0_1, i1_0, bI_and, bI_0, Decidable.not_not, not_false_eq_true, not_true_eq_false, forall_const, false_implies, true_implies, hK_copy, hN_copy, hI_copy, hC_sI, hC_sR, hC_new, hK_new, hN_new, hI_new, hR_new, rf_some, rf_none, ex_ref, ex_null, ex_rf, nref_null, rf_null, Nat.reduceEqDiff, reduceCtorEq, false_and, and_false, if_false, if_true, ne_eq, kO_150, kO_151, kO_152, kO_170, kO_180, kO_190, Value.ref.injEq, exists_eq_left', false_or, k1, k2, k3, k4, k7, k8, k9, eN, eB, eP, eL, eQ, eR, hge, hcl, kw, hk.1]
        refine ⟨fun e => ?_, fun e => ⟨fun e2 => ?_, fun e2 => ?_⟩⟩
        · rw [bI_f (fun ⟨j, hj, z⟩ => hno j (by omega) z)] at hp
          exact hp
        · refine ⟨n - 1, by omega, i + 1, some .null, by omega, by rw [nI_1, e2]; rfl, fun j hj z => ?_⟩
          by_cases e4 : j = i
          · subst e4; exact nbr_none (by omega) (by omega) e2 ⟨hne _ e, z.1⟩
          · exact hno j (by omega) z
        · obtain ⟨c, hc⟩ := (pn_null _).mp e2
          obtain ⟨z1, rfl⟩ := nbr_some (by omega) (by omega) hc
          obtain ⟨b1, b2, b3⟩ := k11 i z1.2.1
          rw [eR] at b2 b3
          simp only [wp_X3_isOutOfTurn_0, wp_X3_isOutOfTurn_36, wp_X3_isOutOfTurn_2, T_X3_neighbourAt, T_X0_standsAheadOf, i_mmax, i_mmin, i_pushI, i_pushN, i_pushL, i_iload, i_aload, i_istore, i_astore, i_iinc, i_iadd, i_isub, i_imul, i_iand, i_ior, i_ixor, i_ishl, i_ishr, i_iushr, i_idiv, i_i2l, i_lcmp, i_dup, i_pop, i_dupx1, i_dup2, i_ifeq, i_ifne, i_iflt, i_ifge, i_ifgt, i_ifle, i_iceq, i_icne, i_iclt, i_icge, i_icgt, i_icle, i_ifnull, i_aceq, i_getI, i_getR, i_putI, i_putZ, i_putR, i_new, i_newarr, i_ald, i_lald, i_aald, i_alen, i_ast, i_zast, i_last, i_aast, i_aastL, i_cast, i_gste, i_ldcM, i_getC, i_acopy, i_dead, i_objinit, i_callV, i_callS, i_callI, i_iret, i_zret, i_aret, i_vret, i_throw, popN, pushO, lget, lset, isRf_ref, isRf_null, isRf_rf, isC1_int, isC1_ref, isC1_null, isC1_rf, true_and, and_true, List.length_cons, List.length_nil, Nat.reduceAdd, Nat.reduceLeDiff, hK_sI, hN_sI, hR_sI, hI_sI, hK_sR, hN_sR, hR_sR, hI_sR, kC_2, kC_3, kC_4, kC_5, kC_6, kC_7, kC_8, kC_9, kC_10, kC_11, kC_20, kC_21, kC_22, kC_23, i2_0, i1_1, i0_1, i1_0, bI_and, bI_0, Decidable.not_not, not_false_eq_true, not_true_eq_false, forall_const, false_implies, true_implies, hK_copy, hN_copy, hI_copy, hC_sI, hC_sR, hC_new, hK_new, hN_new, hI_new, hR_new, rf_some, rf_none, ex_ref, ex_null, ex_rf, nref_null, rf_null, Nat.reduceEqDiff, reduceCtorEq, false_and, and_false, if_false, if_true, ne_eq, kO_150, kO_151, kO_152, kO_170, kO_180, kO_190, Value.ref.injEq, exists_eq_left', false_or, hc, b1, b2, b3, kw, kw2, kw3, eR]
          refine ⟨fun e3 => ?_, fun e3 => ?_⟩
          · refine ⟨n - 1, by omega, i + 1, _, by omega, by rw [nI_1], fun j hj z => ?_⟩
            by_cases e4 : j = i
            · subst e4; exact e3 z.2
            · exact hno j (by omega) z
          · rw [bI_t ⟨i, e, z1.2.2, e3⟩] at hp
            exact hp)
      refine ⟨_, go_X3_isOutOfTurn_0 hz hr hloop, ?_⟩
      show wp_X3_isOutOfTurn_0 P X _ [some (.ref a), some (.int (nI m)), some (.ref w), none, none] [] h
      simp only [wp_X3_isOutOfTurn_0, wp_X3_isOutOfTurn_36, wp_X3_isOutOfTurn_2, T_X3_neighbourAt, T_X0_standsAheadOf, i_mmax, i_mmin, i_pushI, i_pushN, i_pushL, i_iload, i_aload, i_istore, i_astore, i_iinc, i_iadd, i_isub, i_imul, i_iand, i_ior, i_ixor, i_ishl, i_ishr, i_iushr, i_idiv, i_i2l, i_lcmp, i_dup, i_pop, i_dupx1, i_dup2, i_ifeq, i_ifne, i_iflt, i_ifge, i_ifgt, i_ifle, i_iceq, i_icne, i_iclt, i_icge, i_icgt, i_icle, i_ifnull, i_aceq, i_getI, i_getR, i_putI, i_putZ, i_putR, i_new, i_newarr, i_ald, i_lald, i_aald, i_alen, i_ast, i_zast, i_last, i_aast, i_aastL, i_cast, i_gste, i_ldcM, i_getC, i_acopy, i_dead, i_objinit, i_callV, i_callS, i_callI, i_iret, i_zret, i_aret, i_vret, i_throw, popN, pushO, lget, lset, isRf_ref, isRf_null, isRf_rf, isC1_int, isC1_ref, isC1_null, isC1_rf, true_and, and_true, List.length_cons, List.length_nil, Nat.reduceAdd, Nat.reduceLeDiff, hK_sI, hN_sI, hR_sI, hI_sI, hK_sR, hN_sR, hR_sR, hI_sR, kC_2, kC_3, kC_4, kC_5, kC_6, kC_7, kC_8, kC_9, kC_10, kC_11, kC_20, kC_21, kC_22, kC_23, i2_0, i1_1, i0_1, i1_0, bI_and, bI_0, Decidable.not_not, not_false_eq_true, not_true_eq_false, forall_const, false_implies, true_implies, hK_copy, hN_copy, hI_copy, hC_sI, hC_sR, hC_new, hK_new, hN_new, hI_new, hR_new, rf_some, rf_none, ex_ref, ex_null, ex_rf, nref_null, rf_null, Nat.reduceEqDiff, reduceCtorEq, false_and, and_false, if_false, if_true, ne_eq, kO_150, kO_151, kO_152, kO_170, kO_180, kO_190, Value.ref.injEq, exists_eq_left', false_or]
      exact ⟨m, 0, none, by omega, rfl, fun j hj => absurd hj (Nat.not_lt_zero j)⟩
    · exact hT.elim
  · unfold T_X3_isOutOfTurn at hT
    split at hT
    · exact ⟨Nat.le_of_ble_eq_true rfl, by simp [isC1_int, isC1_ref, isC1_null, isC1_rf]⟩
    · exact hT.elim
def wp_X3_countLetters_0 (P : Option Value → hp_T → Prop) (X : String → hp_T → Prop) (K4 : KT) : KT :=
  i_pushI 0 (i_istore 1 (i_pushI 0 (i_istore 2 K4)))
set_option maxRecDepth 20000 in
theorem go_X3_countLetters_0 {z : zT} {P : Option Value → hp_T → Prop} {X : String → hp_T → Prop} {K4 : KT} (hz : Cx z cX3_countLetters 3 "Panelry$Page" "countLetters" 3 0 0) (hr : Rt z (some .int) P X 0 0) (h4 : Go z 0 0 4 K4) : Go z 0 0 0 (wp_X3_countLetters_0 P X K4) := 
  s_iconst hz rfl dX3_countLetters_0 (s_istore_n hz rfl rfl dX3_countLetters_1 (s_iconst hz rfl dX3_countLetters_2 (s_istore_n hz rfl rfl dX3_countLetters_3 h4)))
def wp_X3_countLetters_4 (P : Option Value → hp_T → Prop) (X : String → hp_T → Prop) (K4 : KT) : KT :=
  i_iload 2 (i_aload 0 (i_getR 5 321 (i_callV 0 1 T_Jx4a65c_size_8abf5 noX (i_icge (i_iload 1 (i_iret P)) (i_iload 1 (i_aload 0 (i_getR 5 321 (i_iload 2 (i_callV 1 1 T_Jx4a65c_get_915e3 noX
    (i_cast 2 (i_getI 2 130 (i_iadd (i_istore 1 (i_iinc 2 1 K4))))))))))))))
set_option maxRecDepth 20000 in
theorem go_X3_countLetters_4 {z : zT} {P : Option Value → hp_T → Prop} {X : String → hp_T → Prop} {K4 : KT} (hz : Cx z cX3_countLetters 3 "Panelry$Page" "countLetters" 3 0 0) (hr : Rt z (some .int) P X 0 0) (h4 : Go z 0 0 4 K4) : Go z 0 0 4 (wp_X3_countLetters_4 P X K4) := 
  s_iload_n hz rfl dX3_countLetters_4 (s_aload_n hz rfl dX3_countLetters_5 (fg_RX3_18 hz dX3_countLetters_6 (s_callV hz ct_Jx4a65c_size_8abf5 ⟨w167, w115, w32, by decide, by decide, by decide +kernel⟩ w113 w114 cls0 rfl rfl rfl rfl rfl rfl out_no dX3_countLetters_9
    (s_icge hz (tgt := 38) rfl dX3_countLetters_12 (s_iload_n hz rfl dX3_countLetters_38 (s_iret hz hr rfl rfl dX3_countLetters_39)) (s_iload_n hz rfl dX3_countLetters_15 (s_aload_n hz rfl dX3_countLetters_16
    (fg_RX3_18 hz dX3_countLetters_17 (s_iload_n hz rfl dX3_countLetters_20 (s_callV hz ct_Jx4a65c_get_915e3 ⟨w215, w119, w32, by decide, by decide, by decide +kernel⟩ w117 w118 cls0 rfl rfl rfl rfl rfl rfl out_no dX3_countLetters_21
    (s_cast hz kO_2 rfl cls1 w631 dX3_countLetters_24 (fg_RX3_114 hz dX3_countLetters_27 (s_iadd hz dX3_countLetters_30 (s_istore_n hz rfl rfl dX3_countLetters_31 (s_iinc hz rfl rfl dX3_countLetters_32
    (s_goto hz (tgt := 4) rfl dX3_countLetters_35 h4)))))))))))))))

def T_X3_countLetters : PT := fun av h P X => match av with
  | [.ref a] => (pgOK h a) ∧ (P (some (.int (sumI (fun i => hI h 130 (bl h a i) 0) (blN h a)))) h)
  | _ => False
set_option maxRecDepth 20000 in
theorem ct_X3_countLetters : CT yX3_countLetters cX3_countLetters 3 (some .int) 3 0 0 T_X3_countLetters := by
  refine ct_ofE (by decide) (fun z av h P X hT hz hr => ?_) (fun av h P X hT => ?_)
  · unfold T_X3_countLetters at hT
    split at hT
    · rename_i a
      obtain ⟨hk, hp⟩ := hT
      obtain ⟨k1, ⟨k2, k3, k4, k5, k6⟩, ⟨k7, k8, k9, k10, k11⟩, k12, k13⟩ := hk
      have eN : lsz h (dR h 320 a) = pnN h a := rfl
      have eB : lsz h (dR h 321 a) = blN h a := rfl
      have eP : ∀ j, lel h (dR h 320 a) j = pn h a j := fun _ => rfl
      have eL : ∀ j, lel h (dR h 321 a) j = bl h a j := fun _ => rfl
      have eQ : ∀ j, dR h 384 (pn h a j) = pb h a j := fun _ => rfl
      have eR : ∀ j, dR h 131 (bl h a j) = bb h a j := fun _ => rfl
      have hloop := Go.loop (z := z) (cells := 0) (slots := 0) (pc := 4) (fun n ls st h' => ∃ i, i + n = blN h a ∧ ls = [some (.ref a), some (.int (sumI (fun i => hI h 130 (bl h a i) 0) i)), some (.int (nI i))] ∧ st = [] ∧ h' = h) (fun k => wp_X3_countLetters_4 P X k) (fun k hgo => go_X3_countLetters_4 hz hr hgo) (by
        rintro n ls st h' ⟨i, hi, rfl, rfl, rfl⟩
        have hcl : (nI i).toNatClampNeg = i := nI_clamp (by omega)
        have hge : (nI (blN h' a) ≤ nI i) ↔ ¬ i < blN h' a := by rw [leI (by omega) (by omega)]; omega
        simp only [wp_X3_countLetters_0, wp_X3_countLetters_4, T_Jx4a65c_size_8abf5, T_Jx4a65c_get_915e3, i_mmax, i_mmin, i_pushI, i_pushN, i_pushL, i_iload, i_aload, i_istore, i_astore, i_iinc, i_iadd, i_isub, i_imul, i_iand, i_ior, i_ixor, i_ishl, i_ishr, i_iushr, i_idiv, i_i2l, i_lcmp, i_dup, i_pop, i_dupx1, i_dup2, i_ifeq, i_ifne, i_iflt, i_ifge, i_ifgt, i_ifle, i_iceq, i_icne, i_iclt, i_icge, i_icgt, i_icle, i_ifnull, i_aceq, i_getI, i_getR, i_putI, i_putZ, i_putR, i_new, i_newarr, i_ald, i_lald, i_aald, i_alen, i_ast, i_zast, i_last, i_aast, i_aastL, i_cast, i_gste, i_ldcM, i_getC, i_acopy, i_dead, i_objinit, i_callV, i_callS, i_callI, i_iret, i_zret, i_aret, i_vret, i_throw, popN, pushO, lget, lset, isRf_ref, isRf_null, isRf_rf, isC1_int, isC1_ref, isC1_null, isC1_rf, true_and, and_true, List.length_cons, List.length_nil, Nat.reduceAdd, Nat.reduceLeDiff, hK_sI, hN_sI, hR_sI, hI_sI, hK_sR, hN_sR, hR_sR, hI_sR, kC_2, kC_3, kC_4, kC_5, kC_6, kC_7, kC_8, kC_9, kC_10, kC_11, kC_20, kC_21, kC_22, kC_23, i2_0, i1_1, i0_1, i1_0, bI_and, bI_0, Decidable.not_not, not_false_eq_true, not_true_eq_false, forall_const, false_implies, true_implies, hK_copy, hN_copy, hI_copy, hC_sI, hC_sR, hC_new, hK_new, hN_new, hI_new, hR_new, rf_some, rf_none, ex_ref, ex_null, ex_rf, nref_null, rf_null, Nat.reduceEqDiff, reduceCtorEq, false_and, and_false, if_false, if_true, ne_eq, kO_150, kO_151, kO_152, kO_170, kO_180, kO_190, Value.ref.injEq, exists_eq_left', false_or, k1, k2, k3, k4, k7, k8, k9, eN, eB, eP, eL, eQ, eR, hge, hcl, ltI (show i < 1000 by omega) (show blN h' a < 1000 by omega)]
        refine ⟨fun e => ?_, fun e => ?_⟩
        · rw [show i = blN h' a by omega]; exact hp
        · obtain ⟨b1, b2, b3⟩ := k11 i e
          simp only [wp_X3_countLetters_0, wp_X3_countLetters_4, T_Jx4a65c_size_8abf5, T_Jx4a65c_get_915e3, i_mmax, i_mmin, i_pushI, i_pushN, i_pushL, i_iload, i_aload, i_istore, i_astore, i_iinc, i_iadd, i_isub, i_imul, i_iand, i_ior, i_ixor, i_ishl, i_ishr, i_iushr, i_idiv, i_i2l, i_lcmp, i_dup, i_pop, i_dupx1, i_dup2, i_ifeq, i_ifne, i_iflt, i_ifge, i_ifgt, i_ifle, i_iceq, i_icne, i_iclt, i_icge, i_icgt, i_icle, i_ifnull, i_aceq, i_getI, i_getR, i_putI, i_putZ, i_putR, i_new, i_newarr, i_ald, i_lald, i_aald, i_alen, i_ast, i_zast, i_last, i_aast, i_aastL, i_cast, i_gste, i_ldcM, i_getC, i_acopy, i_dead, i_objinit, i_callV, i_callS, i_callI, i_iret, i_zret, i_aret, i_vret, i_throw, popN, pushO, lget, lset, isRf_ref, isRf_null, isRf_rf, isC1_int, isC1_ref, isC1_null, isC1_rf, true_and, and_true, List.length_cons, List.length_nil, Nat.reduceAdd, Nat.reduceLeDiff, hK_sI, hN_sI, hR_sI, hI_sI, hK_sR, hN_sR, hR_sR, hI_sR, kC_2, kC_3, kC_4, kC_5, kC_6, kC_7, kC_8, kC_9, kC_10, kC_11, kC_20, kC_21, kC_22, kC_23, i2_0, i1_1, i0_1, i1_0, bI_and, bI_0, Decidable.not_not, not_false_eq_true, not_true_eq_false, forall_const, false_implies, true_implies, hK_copy, hN_copy, hI_copy, hC_sI, hC_sR, hC_new, hK_new, hN_new, hI_new, hR_new, rf_some, rf_none, ex_ref, ex_null, ex_rf, nref_null, rf_null, Nat.reduceEqDiff, reduceCtorEq, false_and, and_false, if_false, if_true, ne_eq, kO_150, kO_151, kO_152, kO_170, kO_180, kO_190, Value.ref.injEq, exists_eq_left', false_or, b1, e]
          exact ⟨nI_pos (by omega), n - 1, by omega, i + 1, by omega, by rw [nI_1]; rfl⟩)
      refine ⟨_, go_X3_countLetters_0 hz hr hloop, ?_⟩
      show wp_X3_countLetters_0 P X _ [some (.ref a), none, none] [] h
      simp only [wp_X3_countLetters_0, wp_X3_countLetters_4, T_Jx4a65c_size_8abf5, T_Jx4a65c_get_915e3, i_mmax, i_mmin, i_pushI, i_pushN, i_pushL, i_iload, i_aload, i_istore, i_astore, i_iinc, i_iadd, i_isub, i_imul, i_iand, i_ior, i_ixor, i_ishl, i_ishr, i_iushr, i_idiv, i_i2l, i_lcmp, i_dup, i_pop, i_dupx1, i_dup2, i_ifeq, i_ifne, i_iflt, i_ifge, i_ifgt, i_ifle, i_iceq, i_icne, i_iclt, i_icge, i_icgt, i_icle, i_ifnull, i_aceq, i_getI, i_getR, i_putI, i_putZ, i_putR, i_new, i_newarr, i_ald, i_lald, i_aald, i_alen, i_ast, i_zast, i_last, i_aast, i_aastL, i_cast, i_gste, i_ldcM, i_getC, i_acopy, i_dead, i_objinit, i_callV, i_callS, i_callI, i_iret, i_zret, i_aret, i_vret, i_throw, popN, pushO, lget, lset, isRf_ref, isRf_null, isRf_rf, isC1_int, isC1_ref, isC1_null, isC1_rf, true_and, and_true, List.length_cons, List.length_nil, Nat.reduceAdd, Nat.reduceLeDiff, hK_sI, hN_sI, hR_sI, hI_sI, hK_sR, hN_sR, hR_sR, hI_sR, kC_2, kC_3, kC_4, kC_5, kC_6, kC_7, kC_8, kC_9, kC_10, kC_11, kC_20, kC_21, kC_22, kC_23, i2_0, i1_1, i0_1, i1_0, bI_and, bI_0, Decidable.not_not, not_false_eq_true, not_true_eq_false, forall_const, false_implies, true_implies, hK_copy, hN_copy, hI_copy, hC_sI, hC_sR, hC_new, hK_new, hN_new, hI_new, hR_new, rf_some, rf_none, ex_ref, ex_null, ex_rf, nref_null, rf_null, Nat.reduceEqDiff, reduceCtorEq, false_and, and_false, if_false, if_true, ne_eq, kO_150, kO_151, kO_152, kO_170, kO_180, kO_190, Value.ref.injEq, exists_eq_left', false_or]
      exact ⟨blN h a, 0, by omega, rfl⟩
    · exact hT.elim
  · unfold T_X3_countLetters at hT
    split at hT
    · exact ⟨Nat.le_of_ble_eq_true rfl, by simp [isC1_int, isC1_ref, isC1_null, isC1_rf]⟩
    · exact hT.elim
