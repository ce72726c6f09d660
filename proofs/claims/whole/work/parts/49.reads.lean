def wp_X8_doubts_0 (P : Option Value → hp_T → Prop) (X : String → hp_T → Prop) : KT :=
  i_aload 0 (i_iload 1 (i_callV 1 10 T_X8_existingPage X (i_astore 2 (i_aload 2 (i_aload 2 (i_getI 5 322 (i_callS 2 T_X5_of noX (i_getI 7 452 (i_iret P)))))))))
set_option maxRecDepth 20000 in
theorem go_X8_doubts_0 {z : zT} {P : Option Value → hp_T → Prop} {X : String → hp_T → Prop} (hz : Cx z cX8_doubts 3 "Panelry" "doubts" 15 3 19) (hr : Rt z (some .int) P X 3 19) : Go z 0 0 0 (wp_X8_doubts_0 P X) := 
  s_aload_n hz rfl dX8_doubts_0 (s_iload_n hz rfl dX8_doubts_1 (s_callV hz ct_X8_existingPage ⟨w404, w407, w29, by decide, by decide, by decide +kernel⟩ w406 w11 cls9 rfl rfl rfl rfl rfl rfl
    (out_rt hz hr (Nat.le_of_ble_eq_true rfl) (Nat.le_of_ble_eq_true rfl)) dX8_doubts_2 (s_astore_n hz rfl rfl dX8_doubts_5 (s_aload_n hz rfl dX8_doubts_6 (s_aload_n hz rfl dX8_doubts_7 (fg_RX8_90 hz dX8_doubts_8
    (s_callS hz ct_X5_of ⟨w534, w137, w49, by decide, by decide, by decide +kernel⟩ w136 rfl rfl rfl rfl out_no dX8_doubts_11 (fg_RX8_109 hz dX8_doubts_14 (s_iret hz hr rfl rfl dX8_doubts_17)))))))))

def T_X8_doubts : PT := fun av h P X => match av with
  | [.ref c, .int v] => (cpOK h c) ∧ ((isPg h c v → ∀ h', Ext h h' → P (some (.int (rdG h (cg h c v.toNatClampNeg) (hI h 322 (cg h c v.toNatClampNeg) 0)).2)) h') ∧ (¬ isPg h c v → X "java/lang/IndexOutOfBoundsException" h))
  | _ => False
set_option maxRecDepth 20000 in
theorem ct_X8_doubts : CT yX8_doubts cX8_doubts 3 (some .int) 15 3 19 T_X8_doubts := by
  refine ct_ofE (by decide) (fun z av h P X hT hz hr => ?_) (fun av h P X hT => ?_)
  · unfold T_X8_doubts at hT
    split at hT
    · refine ⟨_, go_X8_doubts_0 hz hr, ?_⟩
      rename_i c v
      show wp_X8_doubts_0 P X [some (.ref c), some (.int v), none] [] h
      obtain ⟨hk, hp⟩ := hT
      obtain ⟨hp1, hp2⟩ := hp
      have kc := hk.1
      simp only [wp_X8_doubts_0, T_X8_existingPage, T_X5_of, kc, hk, i_mmax, i_mmin, i_pushI, i_pushN, i_pushL, i_iload, i_aload, i_istore, i_astore, i_iinc, i_iadd, i_isub, i_imul, i_iand, i_ior, i_ixor, i_ishl, i_ishr, i_iushr, i_idiv, i_i2l, i_lcmp, i_dup, i_pop, i_dupx1, i_dup2, i_ifeq, i_ifne, i_iflt, i_ifge, i_ifgt, i_ifle, i_iceq, i_icne, i_iclt, i_icge, i_icgt, i_icle, i_ifnull, i_aceq, i_getI, i_getR, i_putI, i_putZ, i_putR, i_new, i_newarr, i_ald, i_lald, i_aald, i_alen, i_ast, i_zast, i_last, i_aast, i_aastL, i_cast, i_gste, i_ldcM, i_getC, i_acopy, i_dead, i_objinit, i_callV, i_callS, i_callI, i_iret, i_zret, i_aret, i_vret, i_throw, popN, pushO, lget, lset, isRf_ref, isRf_null, isRf_rf, isC1_int, isC1_ref, isC1_null, isC1_rf, true_and, and_true, List.length_cons, List.length_nil, Nat.reduceAdd, Nat.reduceLeDiff, hK_sI, hN_sI, hR_sI, hI_sI, hK_sR, hN_sR, hR_sR, hI_sR, kC_2, kC_3, kC_4, kC_5, kC_6, kC_7, kC_8, kC_9, kC_10, kC_11, kC_20, kC_21, kC_22, kC_23, i2_0, i1_1, i0_1, i1_0, bI_and, bI_0, Decidable.not_not, not_false_eq_true, not_true_eq_false, forall_const, false_implies, true_implies, hK_copy, hN_copy, hI_copy, hC_sI, hC_sR, hC_new, hK_new, hN_new, hI_new, hR_new, rf_some, rf_none, ex_ref, ex_null, ex_rf, nref_null, rf_null, Nat.reduceEqDiff, reduceCtorEq, false_and, and_false, if_false, if_true, ne_eq, kO_150, kO_151, kO_152, kO_170, kO_180, kO_190, Value.ref.injEq, exists_eq_left', false_or]
      refine pg_step (fun e => ?_) hp2
      have kp := isPg_ok hk e
      have kp1 := kp.1
      have kp2 := kp.2.2.2.1
      simp only [kp, kp1, kp2, i_mmax, i_mmin, i_pushI, i_pushN, i_pushL, i_iload, i_aload, i_istore, i_astore, i_iinc, i_iadd, i_isub, i_imul, i_iand, i_ior, i_ixor, i_ishl, i_ishr, i_iushr, i_idiv, i_i2l, i_lcmp, i_dup, i_pop, i_dupx1, i_dup2, i_ifeq, i_ifne, i_iflt, i_ifge, i_ifgt, i_ifle, i_iceq, i_icne, i_iclt, i_icge, i_icgt, i_icle, i_ifnull, i_aceq, i_getI, i_getR, i_putI, i_putZ, i_putR, i_new, i_newarr, i_ald, i_lald, i_aald, i_alen, i_ast, i_zast, i_last, i_aast, i_aastL, i_cast, i_gste, i_ldcM, i_getC, i_acopy, i_dead, i_objinit, i_callV, i_callS, i_callI, i_iret, i_zret, i_aret, i_vret, i_throw, popN, pushO, lget, lset, isRf_ref, isRf_null, isRf_rf, isC1_int, isC1_ref, isC1_null, isC1_rf, true_and, and_true, List.length_cons, List.length_nil, Nat.reduceAdd, Nat.reduceLeDiff, hK_sI, hN_sI, hR_sI, hI_sI, hK_sR, hN_sR, hR_sR, hI_sR, kC_2, kC_3, kC_4, kC_5, kC_6, kC_7, kC_8, kC_9, kC_10, kC_11, kC_20, kC_21, kC_22, kC_23, i2_0, i1_1, i0_1, i1_0, bI_and, bI_0, Decidable.not_not, not_false_eq_true, not_true_eq_false, forall_const, false_implies, true_implies, hK_copy, hN_copy, hI_copy, hC_sI, hC_sR, hC_new, hK_new, hN_new, hI_new, hR_new, rf_some, rf_none, ex_ref, ex_null, ex_rf, nref_null, rf_null, Nat.reduceEqDiff, reduceCtorEq, false_and, and_false, if_false, if_true, ne_eq, kO_150, kO_151, kO_152, kO_170, kO_180, kO_190, Value.ref.injEq, exists_eq_left', false_or]
      intro h' r hE hR
      have r1 := hR.1.1.1
      have r2 := hR.2.2.2.2.2.1
      simp only [r1, r2, i_mmax, i_mmin, i_pushI, i_pushN, i_pushL, i_iload, i_aload, i_istore, i_astore, i_iinc, i_iadd, i_isub, i_imul, i_iand, i_ior, i_ixor, i_ishl, i_ishr, i_iushr, i_idiv, i_i2l, i_lcmp, i_dup, i_pop, i_dupx1, i_dup2, i_ifeq, i_ifne, i_iflt, i_ifge, i_ifgt, i_ifle, i_iceq, i_icne, i_iclt, i_icge, i_icgt, i_icle, i_ifnull, i_aceq, i_getI, i_getR, i_putI, i_putZ, i_putR, i_new, i_newarr, i_ald, i_lald, i_aald, i_alen, i_ast, i_zast, i_last, i_aast, i_aastL, i_cast, i_gste, i_ldcM, i_getC, i_acopy, i_dead, i_objinit, i_callV, i_callS, i_callI, i_iret, i_zret, i_aret, i_vret, i_throw, popN, pushO, lget, lset, isRf_ref, isRf_null, isRf_rf, isC1_int, isC1_ref, isC1_null, isC1_rf, true_and, and_true, List.length_cons, List.length_nil, Nat.reduceAdd, Nat.reduceLeDiff, hK_sI, hN_sI, hR_sI, hI_sI, hK_sR, hN_sR, hR_sR, hI_sR, kC_2, kC_3, kC_4, kC_5, kC_6, kC_7, kC_8, kC_9, kC_10, kC_11, kC_20, kC_21, kC_22, kC_23, i2_0, i1_1, i0_1, i1_0, bI_and, bI_0, Decidable.not_not, not_false_eq_true, not_true_eq_false, forall_const, false_implies, true_implies, hK_copy, hN_copy, hI_copy, hC_sI, hC_sR, hC_new, hK_new, hN_new, hI_new, hR_new, rf_some, rf_none, ex_ref, ex_null, ex_rf, nref_null, rf_null, Nat.reduceEqDiff, reduceCtorEq, false_and, and_false, if_false, if_true, ne_eq, kO_150, kO_151, kO_152, kO_170, kO_180, kO_190, Value.ref.injEq, exists_eq_left', false_or]
      exact hp1 e h' hE
    · exact hT.elim
  · unfold T_X8_doubts at hT
    split at hT
    · exact ⟨Nat.le_of_ble_eq_true rfl, by simp [isC1_int, isC1_ref, isC1_null, isC1_rf]⟩
    · exact hT.elim
def wp_X8_isOne_0 (P : Option Value → hp_T → Prop) (X : String → hp_T → Prop) : KT :=
  i_aload 0 (i_iload 1 (i_callV 1 10 T_X8_existingPage X (i_iload 2 (i_callS 2 T_X5_of noX (i_callV 0 7 T_X5_keepsAhead noX (i_zret P))))))
set_option maxRecDepth 20000 in
theorem go_X8_isOne_0 {z : zT} {P : Option Value → hp_T → Prop} {X : String → hp_T → Prop} (hz : Cx z cX8_isOne 3 "Panelry" "isOne" 15 3 19) (hr : Rt z (some .boolean) P X 3 19) : Go z 0 0 0 (wp_X8_isOne_0 P X) := 
  s_aload_n hz rfl dX8_isOne_0 (s_iload_n hz rfl dX8_isOne_1 (s_callV hz ct_X8_existingPage ⟨w404, w407, w29, by decide, by decide, by decide +kernel⟩ w406 w11 cls9 rfl rfl rfl rfl rfl rfl
    (out_rt hz hr (Nat.le_of_ble_eq_true rfl) (Nat.le_of_ble_eq_true rfl)) dX8_isOne_2 (s_iload_n hz rfl dX8_isOne_5 (s_callS hz ct_X5_of ⟨w534, w137, w49, by decide, by decide, by decide +kernel⟩ w136 rfl rfl rfl rfl out_no dX8_isOne_6
    (s_callV hz ct_X5_keepsAhead ⟨w571, w574, w49, by decide, by decide, by decide +kernel⟩ w572 w573 cls6 rfl rfl rfl rfl rfl rfl out_no dX8_isOne_9 (s_zret hz hr rfl rfl dX8_isOne_12))))))

def T_X8_isOne : PT := fun av h P X => match av with
  | [.ref c, .int v, .int l] => (cpOK h c ∧ l &&& 1 = l) ∧ ((isPg h c v → ∀ h', Ext h h' → P (some (.int (bI (keepsA (ahdH h' (cg h c v.toNatClampNeg) l) (rdG h (cg h c v.toNatClampNeg) l).1 (nI (2 ^ pnN h' (cg h c v.toNatClampNeg) - 1)))))) h') ∧ (¬ isPg h c v → X "java/lang/IndexOutOfBoundsException" h))
  | _ => False
set_option maxRecDepth 20000 in
theorem ct_X8_isOne : CT yX8_isOne cX8_isOne 3 (some .boolean) 15 3 19 T_X8_isOne := by
  refine ct_ofE (by decide) (fun z av h P X hT hz hr => ?_) (fun av h P X hT => ?_)
  · unfold T_X8_isOne at hT
    split at hT
    · refine ⟨_, go_X8_isOne_0 hz hr, ?_⟩
      rename_i c v l
      show wp_X8_isOne_0 P X [some (.ref c), some (.int v), some (.int l)] [] h
      obtain ⟨hk, hp⟩ := hT
      obtain ⟨hp1, hp2⟩ := hp
      obtain ⟨hk, kl⟩ := hk
      have kc := hk.1
      simp only [wp_X8_isOne_0, T_X8_existingPage, T_X5_of, T_X5_keepsAhead, kc, hk, i_mmax, i_mmin, i_pushI, i_pushN, i_pushL, i_iload, i_aload, i_istore, i_astore, i_iinc, i_iadd, i_isub, i_imul, i_iand, i_ior, i_ixor, i_ishl, i_ishr, i_iushr, i_idiv, i_i2l, i_lcmp, i_dup, i_pop, i_dupx1, i_dup2, i_ifeq, i_ifne, i_iflt, i_ifge, i_ifgt, i_ifle, i_iceq, i_icne, i_iclt, i_icge, i_icgt, i_icle, i_ifnull, i_aceq, i_getI, i_getR, i_putI, i_putZ, i_putR, i_new, i_newarr, i_ald, i_lald, i_aald, i_alen, i_ast, i_zast, i_last, i_aast, i_aastL, i_cast, i_gste, i_ldcM, i_getC, i_acopy, i_dead, i_objinit, i_callV, i_callS, i_callI, i_iret, i_zret, i_aret, i_vret, i_throw, popN, pushO, lget, lset, isRf_ref, isRf_null, isRf_rf, isC1_int, isC1_ref, isC1_null, isC1_rf, true_and, and_true, List.length_cons, List.length_nil, Nat.reduceAdd, Nat.reduceLeDiff, hK_sI, hN_sI, hR_sI, hI_sI, hK_sR, hN_sR, hR_sR, hI_sR, kC_2, kC_3, kC_4, kC_5, kC_6, kC_7, kC_8, kC_9, kC_10, kC_11, kC_20, kC_21, kC_22, kC_23, i2_0, i1_1, i0_1, i1_0, bI_and, bI_0, Decidable.not_not, not_false_eq_true, not_true_eq_false, forall_const, false_implies, true_implies, hK_copy, hN_copy, hI_copy, hC_sI, hC_sR, hC_new, hK_new, hN_new, hI_new, hR_new, rf_some, rf_none, ex_ref, ex_null, ex_rf, nref_null, rf_null, Nat.reduceEqDiff, reduceCtorEq, false_and, and_false, if_false, if_true, ne_eq, kO_150, kO_151, kO_152, kO_170, kO_180, kO_190, Value.ref.injEq, exists_eq_left', false_or]
      refine pg_step (fun e => ?_) hp2
      have kp := isPg_ok hk e
      have kp1 := kp.1
      simp only [kp, kp1, kl, i_mmax, i_mmin, i_pushI, i_pushN, i_pushL, i_iload, i_aload, i_istore, i_astore, i_iinc, i_iadd, i_isub, i_imul, i_iand, i_ior, i_ixor, i_ishl, i_ishr, i_iushr, i_idiv, i_i2l, i_lcmp, i_dup, i_pop, i_dupx1, i_dup2, i_ifeq, i_ifne, i_iflt, i_ifge, i_ifgt, i_ifle, i_iceq, i_icne, i_iclt, i_icge, i_icgt, i_icle, i_ifnull, i_aceq, i_getI, i_getR, i_putI, i_putZ, i_putR, i_new, i_newarr, i_ald, i_lald, i_aald, i_alen, i_ast, i_zast, i_last, i_aast, i_aastL, i_cast, i_gste, i_ldcM, i_getC, i_acopy, i_dead, i_objinit, i_callV, i_callS, i_callI, i_iret, i_zret, i_aret, i_vret, i_throw, popN, pushO, lget, lset, isRf_ref, isRf_null, isRf_rf, isC1_int, isC1_ref, isC1_null, isC1_rf, true_and, and_true, List.length_cons, List.length_nil, Nat.reduceAdd, Nat.reduceLeDiff, hK_sI, hN_sI, hR_sI, hI_sI, hK_sR, hN_sR, hR_sR, hI_sR, kC_2, kC_3, kC_4, kC_5, kC_6, kC_7, kC_8, kC_9, kC_10, kC_11, kC_20, kC_21, kC_22, kC_23, i2_0, i1_1, i0_1, i1_0, bI_and, bI_0, Decidable.not_not, not_false_eq_true, not_true_eq_false, forall_const, false_implies, true_implies, hK_copy, hN_copy, hI_copy, hC_sI, hC_sR, hC_new, hK_new, hN_new, hI_new, hR_new, rf_some, rf_none, ex_ref, ex_null, ex_rf, nref_null, rf_null, Nat.reduceEqDiff, reduceCtorEq, false_and, and_false, if_false, if_true, ne_eq, kO_150, kO_151, kO_152, kO_170, kO_180, kO_190, Value.ref.injEq, exists_eq_left', false_or]
      intro h' r hE hR
      have r1 := hR.1.1.1
      have r2 := hR.2.1
      have r3 := hR.2.2.1
      simp only [r1, r2, r3, hR.1, i_mmax, i_mmin, i_pushI, i_pushN, i_pushL, i_iload, i_aload, i_istore, i_astore, i_iinc, i_iadd, i_isub, i_imul, i_iand, i_ior, i_ixor, i_ishl, i_ishr, i_iushr, i_idiv, i_i2l, i_lcmp, i_dup, i_pop, i_dupx1, i_dup2, i_ifeq, i_ifne, i_iflt, i_ifge, i_ifgt, i_ifle, i_iceq, i_icne, i_iclt, i_icge, i_icgt, i_icle, i_ifnull, i_aceq, i_getI, i_getR, i_putI, i_putZ, i_putR, i_new, i_newarr, i_ald, i_lald, i_aald, i_alen, i_ast, i_zast, i_last, i_aast, i_aastL, i_cast, i_gste, i_ldcM, i_getC, i_acopy, i_dead, i_objinit, i_callV, i_callS, i_callI, i_iret, i_zret, i_aret, i_vret, i_throw, popN, pushO, lget, lset, isRf_ref, isRf_null, isRf_rf, isC1_int, isC1_ref, isC1_null, isC1_rf, true_and, and_true, List.length_cons, List.length_nil, Nat.reduceAdd, Nat.reduceLeDiff, hK_sI, hN_sI, hR_sI, hI_sI, hK_sR, hN_sR, hR_sR, hI_sR, kC_2, kC_3, kC_4, kC_5, kC_6, kC_7, kC_8, kC_9, kC_10, kC_11, kC_20, kC_21, kC_22, kC_23, i2_0, i1_1, i0_1, i1_0, bI_and, bI_0, Decidable.not_not, not_false_eq_true, not_true_eq_false, forall_const, false_implies, true_implies, hK_copy, hN_copy, hI_copy, hC_sI, hC_sR, hC_new, hK_new, hN_new, hI_new, hR_new, rf_some, rf_none, ex_ref, ex_null, ex_rf, nref_null, rf_null, Nat.reduceEqDiff, reduceCtorEq, false_and, and_false, if_false, if_true, ne_eq, kO_150, kO_151, kO_152, kO_170, kO_180, kO_190, Value.ref.injEq, exists_eq_left', false_or]
      exact ⟨(rdG h (cg h c v.toNatClampNeg) l).1, ⟨hR.2.2.2.1, hR.2.2.2.2.1, hR.2.2.2.2.2.2⟩, hp1 e h' hE⟩
    · exact hT.elim
  · unfold T_X8_isOne at hT
    split at hT
    · exact ⟨Nat.le_of_ble_eq_true rfl, by simp [isC1_int, isC1_ref, isC1_null, isC1_rf]⟩
    · exact hT.elim
def wp_X8_read_23 (P : Option Value → hp_T → Prop) (X : String → hp_T → Prop) : KT :=
  i_throw "java/lang/IndexOutOfBoundsException" X
set_option maxRecDepth 20000 in
theorem go_X8_read_23 {z : zT} {P : Option Value → hp_T → Prop} {X : String → hp_T → Prop} (hz : Cx z cX8_read 5 "Panelry" "read" 15 3 19) (hr : Rt z (some .int) P X 3 19) : Go z 1 6 23 (wp_X8_read_23 P X) := 
  s_throw (tx := "no such place in the reading") hz hr thI (by simp [strTab]) rfl rfl rfl dX8_read_23 dX8_read_26 dX8_read_27 dX8_read_29 dX8_read_32
def wp_X8_read_0 (P : Option Value → hp_T → Prop) (X : String → hp_T → Prop) : KT :=
  i_aload 0 (i_iload 1 (i_callV 1 10 T_X8_existingPage X (i_astore 4 (i_iload 3 (i_iflt (wp_X8_read_23 P X) (i_iload 3 (i_aload 4 (i_getR 5 320 (i_callV 0 1 T_Jx4a65c_size_8abf5 noX (i_iclt
    (i_aload 4 (i_iload 2 (i_callS 2 T_X5_of noX (i_iload 3 (i_callV 1 7 T_X5_panelAt noX (i_iret P)))))) (wp_X8_read_23 P X)))))))))))
set_option maxRecDepth 20000 in
theorem go_X8_read_0 {z : zT} {P : Option Value → hp_T → Prop} {X : String → hp_T → Prop} (hz : Cx z cX8_read 5 "Panelry" "read" 15 3 19) (hr : Rt z (some .int) P X 3 19) : Go z 0 0 0 (wp_X8_read_0 P X) := 
  s_aload_n hz rfl dX8_read_0 (s_iload_n hz rfl dX8_read_1 (s_callV hz ct_X8_existingPage ⟨w404, w407, w29, by decide, by decide, by decide +kernel⟩ w406 w11 cls9 rfl rfl rfl rfl rfl rfl
    (out_rt hz hr (Nat.le_of_ble_eq_true rfl) (Nat.le_of_ble_eq_true rfl)) dX8_read_2 (s_astore hz rfl dX8_read_5 (s_iload_n hz rfl dX8_read_7 (s_iflt hz (tgt := 23) rfl dX8_read_8 (go_X8_read_23 hz hr)
    (s_iload_n hz rfl dX8_read_11 (s_aload hz dX8_read_12 (fg_RX8_63 hz dX8_read_14 (s_callV hz ct_Jx4a65c_size_8abf5 ⟨w112, w115, w32, by decide, by decide, by decide +kernel⟩ w113 w114 cls0 rfl rfl rfl rfl rfl rfl out_no dX8_read_17
    (s_iclt hz (tgt := 33) rfl dX8_read_20 (s_aload hz dX8_read_33 (s_iload_n hz rfl dX8_read_35 (s_callS hz ct_X5_of ⟨w534, w137, w49, by decide, by decide, by decide +kernel⟩ w136 rfl rfl rfl rfl out_no dX8_read_36
    (s_iload_n hz rfl dX8_read_39 (s_callV hz ct_X5_panelAt ⟨w535, w214, w49, by decide, by decide, by decide +kernel⟩ w212 w213 cls6 rfl rfl rfl rfl rfl rfl out_no dX8_read_40 (s_iret hz hr rfl rfl dX8_read_43))))))
    (go_X8_read_23 hz hr)))))))))))

def T_X8_read : PT := fun av h P X => match av with
  | [.ref c, .int v, .int l, .int x] => (cpOK h c ∧ l &&& 1 = l) ∧ ((isPg h c v → ¬ x < 0 → x < nI (pnN h (cg h c v.toNatClampNeg)) → ∀ h', Ext h h' → P (some (.int (ordI (rdG h (cg h c v.toNatClampNeg) l).1 x.toNatClampNeg))) h') ∧ (isPg h c v → ¬ (¬ x < 0 ∧ x < nI (pnN h (cg h c v.toNatClampNeg))) → X "java/lang/IndexOutOfBoundsException" h) ∧ (¬ isPg h c v → X "java/lang/IndexOutOfBoundsException" h))
  | _ => False
set_option maxRecDepth 20000 in
theorem ct_X8_read : CT yX8_read cX8_read 5 (some .int) 15 3 19 T_X8_read := by
  refine ct_ofE (by decide) (fun z av h P X hT hz hr => ?_) (fun av h P X hT => ?_)
  · unfold T_X8_read at hT
    split at hT
    · refine ⟨_, go_X8_read_0 hz hr, ?_⟩
      rename_i c v l x
      show wp_X8_read_0 P X [some (.ref c), some (.int v), some (.int l), some (.int x), none] [] h
      obtain ⟨hk, hp⟩ := hT
      obtain ⟨hp1, hp2, hp3⟩ := hp
      obtain ⟨hk, kl⟩ := hk
      have kc := hk.1
      simp only [wp_X8_read_23, wp_X8_read_0, T_X8_existingPage, T_Jx4a65c_size_8abf5, T_X5_of, T_X5_panelAt, kc, hk, i_mmax, i_mmin, i_pushI, i_pushN, i_pushL, i_iload, i_aload, i_istore, i_astore, i_iinc, i_iadd, i_isub, i_imul, i_iand, i_ior, i_ixor, i_ishl, i_ishr, i_iushr, i_idiv, i_i2l, i_lcmp, i_dup, i_pop, i_dupx1, i_dup2, i_ifeq, i_ifne, i_iflt, i_ifge, i_ifgt, i_ifle, i_iceq, i_icne, i_iclt, i_icge, i_icgt, i_icle, i_ifnull, i_aceq, i_getI, i_getR, i_putI, i_putZ, i_putR, i_new, i_newarr, i_ald, i_lald, i_aald, i_alen, i_ast, i_zast, i_last, i_aast, i_aastL, i_cast, i_gste, i_ldcM, i_getC, i_acopy, i_dead, i_objinit, i_callV, i_callS, i_callI, i_iret, i_zret, i_aret, i_vret, i_throw, popN, pushO, lget, lset, isRf_ref, isRf_null, isRf_rf, isC1_int, isC1_ref, isC1_null, isC1_rf, true_and, and_true, List.length_cons, List.length_nil, Nat.reduceAdd, Nat.reduceLeDiff, hK_sI, hN_sI, hR_sI, hI_sI, hK_sR, hN_sR, hR_sR, hI_sR, kC_2, kC_3, kC_4, kC_5, kC_6, kC_7, kC_8, kC_9, kC_10, kC_11, kC_20, kC_21, kC_22, kC_23, i2_0, i1_1, i0_1, i1_0, bI_and, bI_0, Decidable.not_not, not_false_eq_true, not_true_eq_false, forall_const, false_implies, true_implies, hK_copy, hN_copy, hI_copy, hC_sI, hC_sR, hC_new, hK_new, hN_new, hI_new, hR_new, rf_some, rf_none, ex_ref, ex_null, ex_rf, nref_null, rf_null, Nat.reduceEqDiff, reduceCtorEq, false_and, and_false, if_false, if_true, ne_eq, kO_150, kO_151, kO_152, kO_170, kO_180, kO_190, Value.ref.injEq, exists_eq_left', false_or]
      refine pg_step (fun e => ?_) hp3
      have kp := isPg_ok hk e
      obtain ⟨k1, ⟨k2, k3, k4, k5, k6⟩, ⟨k7, k8, k9, k10, k11⟩, k12, k13⟩ := id kp
      have eN : lsz h (dR h 320 (cg h c v.toNatClampNeg)) = pnN h (cg h c v.toNatClampNeg) := rfl
      have eB : lsz h (dR h 321 (cg h c v.toNatClampNeg)) = blN h (cg h c v.toNatClampNeg) := rfl
      have eP : ∀ j, lel h (dR h 320 (cg h c v.toNatClampNeg)) j = pn h (cg h c v.toNatClampNeg) j := fun _ => rfl
      have eL : ∀ j, lel h (dR h 321 (cg h c v.toNatClampNeg)) j = bl h (cg h c v.toNatClampNeg) j := fun _ => rfl
      have eQ : ∀ j, dR h 384 (pn h (cg h c v.toNatClampNeg) j) = pb h (cg h c v.toNatClampNeg) j := fun _ => rfl
      have eR : ∀ j, dR h 131 (bl h (cg h c v.toNatClampNeg) j) = bb h (cg h c v.toNatClampNeg) j := fun _ => rfl
      simp only [kp, kl, k1, k2, k3, k4, k7, k8, k9, eN, eB, eP, eL, eQ, eR, i_mmax, i_mmin, i_pushI, i_pushN, i_pushL, i_iload, i_aload, i_istore, i_astore, i_iinc, i_iadd, i_isub, i_imul, i_iand, i_ior, i_ixor, i_ishl, i_ishr, i_iushr, i_idiv, i_i2l, i_lcmp, i_dup, i_pop, i_dupx1, i_dup2, i_ifeq, i_ifne, i_iflt, i_ifge, i_ifgt, i_ifle, i_iceq, i_icne, i_iclt, i_icge, i_icgt, i_icle, i_ifnull, i_aceq, i_getI, i_getR, i_putI, i_putZ, i_putR, i_new, i_newarr, i_ald, i_lald, i_aald, i_alen, i_ast, i_zast, i_last, i_aast, i_aastL, i_cast, i_gste, i_ldcM, i_getC, i_acopy, i_dead, i_objinit, i_callV, i_callS, i_callI, i_iret, i_zret, i_aret, i_vret, i_throw, popN, pushO, lget, lset, isRf_ref, isRf_null, isRf_rf, isC1_int, isC1_ref, isC1_null, isC1_rf, true_and, and_true, List.length_cons, List.length_nil, Nat.reduceAdd, Nat.reduceLeDiff, hK_sI, hN_sI, hR_sI, hI_sI, hK_sR, hN_sR, hR_sR, hI_sR, kC_2, kC_3, kC_4, kC_5, kC_6, kC_7, kC_8, kC_9, kC_10, kC_11, kC_20, kC_21, kC_22, kC_23, i2_0, i1_1, i0_1, i1_0, bI_and, bI_0, Decidable.not_not, not_false_eq_true, not_true_eq_false, forall_const, false_implies, true_implies, hK_copy, hN_copy, hI_copy, hC_sI, hC_sR, hC_new, hK_new, hN_new, hI_new, hR_new, rf_some, rf_none, ex_ref, ex_null, ex_rf, nref_null, rf_null, Nat.reduceEqDiff, reduceCtorEq, false_and, and_false, if_false, if_true, ne_eq, kO_150, kO_151, kO_152, kO_170, kO_180, kO_190, Value.ref.injEq, exists_eq_left', false_or]
      refine ⟨fun e1 => hp2 e (fun z => z.1 e1), fun e1 => ⟨fun e2 => ?_, fun e2 => hp2 e (fun z => e2 z.2)⟩⟩
      intro h' r hE hR
      have r1 := hR.1.1.1
      simp only [r1, hR.1, i_mmax, i_mmin, i_pushI, i_pushN, i_pushL, i_iload, i_aload, i_istore, i_astore, i_iinc, i_iadd, i_isub, i_imul, i_iand, i_ior, i_ixor, i_ishl, i_ishr, i_iushr, i_idiv, i_i2l, i_lcmp, i_dup, i_pop, i_dupx1, i_dup2, i_ifeq, i_ifne, i_iflt, i_ifge, i_ifgt, i_ifle, i_iceq, i_icne, i_iclt, i_icge, i_icgt, i_icle, i_ifnull, i_aceq, i_getI, i_getR, i_putI, i_putZ, i_putR, i_new, i_newarr, i_ald, i_lald, i_aald, i_alen, i_ast, i_zast, i_last, i_aast, i_aastL, i_cast, i_gste, i_ldcM, i_getC, i_acopy, i_dead, i_objinit, i_callV, i_callS, i_callI, i_iret, i_zret, i_aret, i_vret, i_throw, popN, pushO, lget, lset, isRf_ref, isRf_null, isRf_rf, isC1_int, isC1_ref, isC1_null, isC1_rf, true_and, and_true, List.length_cons, List.length_nil, Nat.reduceAdd, Nat.reduceLeDiff, hK_sI, hN_sI, hR_sI, hI_sI, hK_sR, hN_sR, hR_sR, hI_sR, kC_2, kC_3, kC_4, kC_5, kC_6, kC_7, kC_8, kC_9, kC_10, kC_11, kC_20, kC_21, kC_22, kC_23, i2_0, i1_1, i0_1, i1_0, bI_and, bI_0, Decidable.not_not, not_false_eq_true, not_true_eq_false, forall_const, false_implies, true_implies, hK_copy, hN_copy, hI_copy, hC_sI, hC_sR, hC_new, hK_new, hN_new, hI_new, hR_new, rf_some, rf_none, ex_ref, ex_null, ex_rf, nref_null, rf_null, Nat.reduceEqDiff, reduceCtorEq, false_and, and_false, if_false, if_true, ne_eq, kO_150, kO_151, kO_152, kO_170, kO_180, kO_190, Value.ref.injEq, exists_eq_left', false_or]
      obtain ⟨y1, y2⟩ := nI_lt8 e1 e2 (by omega)
      have := rdOf_at hR (j := x.toNatClampNeg) (by omega)
      rw [← y2] at this
      rw [this]
      exact hp1 e e1 e2 h' hE
    · exact hT.elim
  · unfold T_X8_read at hT
    split at hT
    · exact ⟨Nat.le_of_ble_eq_true rfl, by simp [isC1_int, isC1_ref, isC1_null, isC1_rf]⟩
    · exact hT.elim
