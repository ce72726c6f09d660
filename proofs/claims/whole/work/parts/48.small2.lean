/-- a page number that there is -/
def isPg (h : hp_T) (c : Nat) (v : Int32) : Prop := ¬ v < 0 ∧ v < nI (cgN h c)
theorem isPg_ok {h : hp_T} {c : Nat} {v : Int32} (k : cpOK h c) (e : isPg h c v) : pgOK h (cg h c v.toNatClampNeg) := by
  obtain ⟨-, ⟨-, -, -, k5, k6⟩, -⟩ := k
  exact k6 _ (nI_lt8 e.1 e.2 (by omega)).1
theorem pg_step {h : hp_T} {c : Nat} {v : Int32} {A B : Prop} (a : isPg h c v → A) (b : ¬ isPg h c v → B) : (¬ v < 0 ∧ v < nI (cgN h c) → A) ∧ (¬ (¬ v < 0 ∧ v < nI (cgN h c)) → B) := ⟨a, b⟩
def wp_X8_stage_0 (P : Option Value → hp_T → Prop) (X : String → hp_T → Prop) : KT :=
  i_aload 0 (i_iload 1 (i_callV 1 10 T_X8_existingPage X (i_getI 5 323 (i_iret P))))
set_option maxRecDepth 20000 in
theorem go_X8_stage_0 {z : zT} {P : Option Value → hp_T → Prop} {X : String → hp_T → Prop} (hz : Cx z cX8_stage 2 "Panelry" "stage" 7 1 6) (hr : Rt z (some .int) P X 1 6) : Go z 0 0 0 (wp_X8_stage_0 P X) := 
  s_aload_n hz rfl dX8_stage_0 (s_iload_n hz rfl dX8_stage_1 (s_callV hz ct_X8_existingPage ⟨w404, w407, w29, by decide, by decide, by decide +kernel⟩ w406 w11 cls9 rfl rfl rfl rfl rfl rfl
    (out_rt hz hr (Nat.le_of_ble_eq_true rfl) (Nat.le_of_ble_eq_true rfl)) dX8_stage_2 (fg_RX8_254 hz dX8_stage_5 (s_iret hz hr rfl rfl dX8_stage_8))))

def T_X8_stage : PT := fun av h P X => match av with
  | [.ref c, .int v] => (cpOK h c) ∧ ((isPg h c v → P (some (.int (hI h 323 (cg h c v.toNatClampNeg) 0))) h) ∧ (¬ isPg h c v → X "java/lang/IndexOutOfBoundsException" h))
  | _ => False
set_option maxRecDepth 20000 in
theorem ct_X8_stage : CT yX8_stage cX8_stage 2 (some .int) 7 1 6 T_X8_stage := by
  refine ct_ofE (by decide) (fun z av h P X hT hz hr => ?_) (fun av h P X hT => ?_)
  · unfold T_X8_stage at hT
    split at hT
    · refine ⟨_, go_X8_stage_0 hz hr, ?_⟩
      rename_i c v
      show wp_X8_stage_0 P X [some (.ref c), some (.int v)] [] h
      obtain ⟨hk, hp⟩ := hT
      obtain ⟨hp1, hp2⟩ := hp
      have kc := hk.1
      simp only [wp_X8_stage_0, T_X8_existingPage, kc, hk, i_mmax, i_mmin, i_pushI, i_pushN, i_pushL, i_iload, i_aload, i_istore, i_astore, i_iinc, i_iadd, i_isub, i_imul, i_iand, i_ior, i_ixor, i_ishl, i_ishr, i_iushr, i_idiv, i_i2l, i_lcmp, i_dup, i_pop, i_dupx1, i_dup2, i_ifeq, i_ifne, i_iflt, i_ifge, i_ifgt, i_ifle, i_iceq, i_icne, i_iclt, i_icge, i_icgt, i_icle, i_ifnull, i_aceq, i_getI, i_getR, i_putI, i_putZ, i_putR, i_new, i_newarr, i_ald, i_lald, i_aald, i_alen, i_ast, i_zast, i_last, i_aast, i_aastL, i_cast, i_gste, i_ldcM, i_getC, i_acopy, i_dead, i_objinit, i_callV, i_callS, i_callI, i_iret, i_zret, i_aret, i_vret, i_throw, popN, pushO, lget, lset, isRf_ref, isRf_null, isRf_rf, isC1_int, isC1_ref, isC1_null, isC1_rf, true_and, and_true, List.length_cons, List.length_nil, Nat.reduceAdd, Nat.reduceLeDiff, hK_sI, hN_sI, hR_sI, hI_sI, hK_sR, hN_sR, hR_sR, hI_sR, kC_2, kC_3, kC_4, kC_5, kC_6, kC_7, kC_8, kC_9, kC_10, kC_11, kC_20, kC_21, kC_22, kC_23, i2_0, i1_1, i0_1, i1_0, bI_and, bI_0, Decidable.not_not, not_false_eq_true, not_true_eq_false, forall_const, false_implies, true_implies, hK_copy, hN_copy, hI_copy, hC_sI, hC_sR, hC_new, hK_new, hN_new, hI_new, hR_new, rf_some, rf_none, ex_ref, ex_null, ex_rf, nref_null, rf_null, Nat.reduceEqDiff, reduceCtorEq, false_and, and_false, if_false, if_true, ne_eq, kO_150, kO_151, kO_152, kO_170, kO_180, kO_190, Value.ref.injEq, exists_eq_left', false_or]
      refine pg_step (fun e => ?_) hp2
      have kp := (isPg_ok hk e).1
      simp only [kp, i_mmax, i_mmin, i_pushI, i_pushN, i_pushL, i_iload, i_aload, i_istore, i_astore, i_iinc, i_iadd, i_isub, i_imul, i_iand, i_ior, i_ixor, i_ishl, i_ishr, i_iushr, i_idiv, i_i2l, i_lcmp, i_dup, i_pop, i_dupx1, i_dup2, i_ifeq, i_ifne, i_iflt, i_ifge, i_ifgt, i_ifle, i_iceq, i_icne, i_iclt, i_icge, i_icgt, i_icle, i_ifnull, i_aceq, i_getI, i_getR, i_putI, i_putZ, i_putR, i_new, i_newarr, i_ald, i_lald, i_aald, i_alen, i_ast, i_zast, i_last, i_aast, i_aastL, i_cast, i_gste, i_ldcM, i_getC, i_acopy, i_dead, i_objinit, i_callV, i_callS, i_callI, i_iret, i_zret, i_aret, i_vret, i_throw, popN, pushO, lget, lset, isRf_ref, isRf_null, isRf_rf, isC1_int, isC1_ref, isC1_null, isC1_rf, true_and, and_true, List.length_cons, List.length_nil, Nat.reduceAdd, Nat.reduceLeDiff, hK_sI, hN_sI, hR_sI, hI_sI, hK_sR, hN_sR, hR_sR, hI_sR, kC_2, kC_3, kC_4, kC_5, kC_6, kC_7, kC_8, kC_9, kC_10, kC_11, kC_20, kC_21, kC_22, kC_23, i2_0, i1_1, i0_1, i1_0, bI_and, bI_0, Decidable.not_not, not_false_eq_true, not_true_eq_false, forall_const, false_implies, true_implies, hK_copy, hN_copy, hI_copy, hC_sI, hC_sR, hC_new, hK_new, hN_new, hI_new, hR_new, rf_some, rf_none, ex_ref, ex_null, ex_rf, nref_null, rf_null, Nat.reduceEqDiff, reduceCtorEq, false_and, and_false, if_false, if_true, ne_eq, kO_150, kO_151, kO_152, kO_170, kO_180, kO_190, Value.ref.injEq, exists_eq_left', false_or]
      exact hp1 e
    · exact hT.elim
  · unfold T_X8_stage at hT
    split at hT
    · exact ⟨Nat.le_of_ble_eq_true rfl, by simp [isC1_int, isC1_ref, isC1_null, isC1_rf]⟩
    · exact hT.elim
def wp_X8_turn_0 (P : Option Value → hp_T → Prop) (X : String → hp_T → Prop) : KT :=
  i_aload 0 (i_iload 1 (i_callV 1 10 T_X8_existingPage X (i_astore 3 (i_aload 3 (i_callS 1 T_X8_requireUnprinted X (i_aload 3 (i_getI 5 322 (i_istore 4 (i_aload 3 (i_iload 2 (i_putZ 5 322
    (i_iload 4 (i_zret P)))))))))))))
set_option maxRecDepth 20000 in
theorem go_X8_turn_0 {z : zT} {P : Option Value → hp_T → Prop} {X : String → hp_T → Prop} (hz : Cx z cX8_turn 5 "Panelry" "turn" 7 2 12) (hr : Rt z (some .boolean) P X 2 12) : Go z 0 0 0 (wp_X8_turn_0 P X) := 
  s_aload_n hz rfl dX8_turn_0 (s_iload_n hz rfl dX8_turn_1 (s_callV hz ct_X8_existingPage ⟨w404, w407, w29, by decide, by decide, by decide +kernel⟩ w406 w11 cls9 rfl rfl rfl rfl rfl rfl
    (out_rt hz hr (Nat.le_of_ble_eq_true rfl) (Nat.le_of_ble_eq_true rfl)) dX8_turn_2 (s_astore_n hz rfl rfl dX8_turn_5 (s_aload_n hz rfl dX8_turn_6 (s_callS hz ct_X8_requireUnprinted ⟨w483, w485, w29, by decide, by decide, by decide +kernel⟩ w484 rfl rfl rfl rfl
    (out_rt hz hr (Nat.le_of_ble_eq_true rfl) (Nat.le_of_ble_eq_true rfl)) dX8_turn_7 (s_aload_n hz rfl dX8_turn_10 (fg_RX8_90 hz dX8_turn_11 (s_istore hz rfl dX8_turn_14 (s_aload_n hz rfl dX8_turn_16
    (s_iload_n hz rfl dX8_turn_17 (fp_RX8_90 hz dX8_turn_18 (s_iload hz dX8_turn_21 (s_zret hz hr rfl rfl dX8_turn_23)))))))))))))

def T_X8_turn : PT := fun av h P X => match av with
  | [.ref c, .int v, .int l] => (cpOK h c ∧ l &&& 1 = l) ∧ ((isPg h c v → hR h 324 (cg h c v.toNatClampNeg) 0 = none → P (some (.int (hI h 322 (cg h c v.toNatClampNeg) 0))) (hsI h 322 (cg h c v.toNatClampNeg) 0 l)) ∧ (isPg h c v → ¬ hR h 324 (cg h c v.toNatClampNeg) 0 = none → X "java/lang/IllegalStateException" h) ∧ (¬ isPg h c v → X "java/lang/IndexOutOfBoundsException" h))
  | _ => False
set_option maxRecDepth 20000 in
theorem ct_X8_turn : CT yX8_turn cX8_turn 5 (some .boolean) 7 2 12 T_X8_turn := by
  refine ct_ofE (by decide) (fun z av h P X hT hz hr => ?_) (fun av h P X hT => ?_)
  · unfold T_X8_turn at hT
    split at hT
    · refine ⟨_, go_X8_turn_0 hz hr, ?_⟩
      rename_i c v l
      show wp_X8_turn_0 P X [some (.ref c), some (.int v), some (.int l), none, none] [] h
      obtain ⟨hk, hp⟩ := hT
      obtain ⟨hp1, hp2, hp3⟩ := hp
      obtain ⟨hk, kl⟩ := hk
      have kc := hk.1
      simp only [wp_X8_turn_0, T_X8_existingPage, T_X8_requireUnprinted, kc, hk, i_mmax, i_mmin, i_pushI, i_pushN, i_pushL, i_iload, i_aload, i_istore, i_astore, i_iinc, i_iadd, i_isub, i_imul, i_iand, i_ior, i_ixor, i_ishl, i_ishr, i_iushr, i_idiv, i_i2l, i_lcmp, i_dup, i_pop, i_dupx1, i_dup2, i_ifeq, i_ifne, i_iflt, i_ifge, i_ifgt, i_ifle, i_iceq, i_icne, i_iclt, i_icge, i_icgt, i_icle, i_ifnull, i_aceq, i_getI, i_getR, i_putI, i_putZ, i_putR, i_new, i_newarr, i_ald, i_lald, i_aald, i_alen, i_ast, i_zast, i_last, i_aast, i_aastL, i_cast, i_gste, i_ldcM, i_getC, i_acopy, i_dead, i_objinit, i_callV, i_callS, i_callI, i_iret, i_zret, i_aret, i_vret, i_throw, popN, pushO, lget, lset, isRf_ref, isRf_null, isRf_rf, isC1_int, isC1_ref, isC1_null, isC1_rf, true_and, and_true, List.length_cons, List.length_nil, Nat.reduceAdd, Nat.reduceLeDiff, hK_sI, hN_sI, hR_sI, hI_sI, hK_sR, hN_sR, hR_sR, hI_sR, kC_2, kC_3, kC_4, kC_5, kC_6, kC_7, kC_8, kC_9, kC_10, kC_11, kC_20, kC_21, kC_22, kC_23, i2_0, i1_1, i0_1, i1_0, bI_and, bI_0, Decidable.not_not, not_false_eq_true, not_true_eq_false, forall_const, false_implies, true_implies, hK_copy, hN_copy, hI_copy, hC_sI, hC_sR, hC_new, hK_new, hN_new, hI_new, hR_new, rf_some, rf_none, ex_ref, ex_null, ex_rf, nref_null, rf_null, Nat.reduceEqDiff, reduceCtorEq, false_and, and_false, if_false, if_true, ne_eq, kO_150, kO_151, kO_152, kO_170, kO_180, kO_190, Value.ref.injEq, exists_eq_left', false_or]
      refine pg_step (fun e => ?_) hp3
      have kp := (isPg_ok hk e).1
      simp only [kp, kl, i_mmax, i_mmin, i_pushI, i_pushN, i_pushL, i_iload, i_aload, i_istore, i_astore, i_iinc, i_iadd, i_isub, i_imul, i_iand, i_ior, i_ixor, i_ishl, i_ishr, i_iushr, i_idiv, i_i2l, i_lcmp, i_dup, i_pop, i_dupx1, i_dup2, i_ifeq, i_ifne, i_iflt, i_ifge, i_ifgt, i_ifle, i_iceq, i_icne, i_iclt, i_icge, i_icgt, i_icle, i_ifnull, i_aceq, i_getI, i_getR, i_putI, i_putZ, i_putR, i_new, i_newarr, i_ald, i_lald, i_aald, i_alen, i_ast, i_zast, i_last, i_aast, i_aastL, i_cast, i_gste, i_ldcM, i_getC, i_acopy, i_dead, i_objinit, i_callV, i_callS, i_callI, i_iret, i_zret, i_aret, i_vret, i_throw, popN, pushO, lget, lset, isRf_ref, isRf_null, isRf_rf, isC1_int, isC1_ref, isC1_null, isC1_rf, true_and, and_true, List.length_cons, List.length_nil, Nat.reduceAdd, Nat.reduceLeDiff, hK_sI, hN_sI, hR_sI, hI_sI, hK_sR, hN_sR, hR_sR, hI_sR, kC_2, kC_3, kC_4, kC_5, kC_6, kC_7, kC_8, kC_9, kC_10, kC_11, kC_20, kC_21, kC_22, kC_23, i2_0, i1_1, i0_1, i1_0, bI_and, bI_0, Decidable.not_not, not_false_eq_true, not_true_eq_false, forall_const, false_implies, true_implies, hK_copy, hN_copy, hI_copy, hC_sI, hC_sR, hC_new, hK_new, hN_new, hI_new, hR_new, rf_some, rf_none, ex_ref, ex_null, ex_rf, nref_null, rf_null, Nat.reduceEqDiff, reduceCtorEq, false_and, and_false, if_false, if_true, ne_eq, kO_150, kO_151, kO_152, kO_170, kO_180, kO_190, Value.ref.injEq, exists_eq_left', false_or]
      exact ⟨fun z => ⟨(isPg_ok hk e).2.2.2.1, hp1 e z⟩, fun z => hp2 e z⟩
    · exact hT.elim
  · unfold T_X8_turn at hT
    split at hT
    · exact ⟨Nat.le_of_ble_eq_true rfl, by simp [isC1_int, isC1_ref, isC1_null, isC1_rf]⟩
    · exact hT.elim
