def wp_X8_requireRange_10 (P : Option Value → hp_T → Prop) (X : String → hp_T → Prop) : KT :=
  i_throw "java/lang/IllegalArgumentException" X
set_option maxRecDepth 20000 in
theorem go_X8_requireRange_10 {z : zT} {P : Option Value → hp_T → Prop} {X : String → hp_T → Prop} (hz : Cx z cX8_requireRange 3 "Panelry" "requireRange" 6 1 6) (hr : Rt z none P X 1 6) : Go z 0 0 10 (wp_X8_requireRange_10 P X) := 
  s_throwW (tx := "an argument is out of range") hz hr thA (by simp [strTab]) rfl rfl rfl dX8_requireRange_10 dX8_requireRange_13 dX8_requireRange_14 dX8_requireRange_17 dX8_requireRange_20
def wp_X8_requireRange_0 (P : Option Value → hp_T → Prop) (X : String → hp_T → Prop) : KT :=
  i_iload 0 (i_iload 1 (i_iclt (wp_X8_requireRange_10 P X) (i_iload 0 (i_iload 2 (i_icle (i_vret P) (wp_X8_requireRange_10 P X))))))
set_option maxRecDepth 20000 in
theorem go_X8_requireRange_0 {z : zT} {P : Option Value → hp_T → Prop} {X : String → hp_T → Prop} (hz : Cx z cX8_requireRange 3 "Panelry" "requireRange" 6 1 6) (hr : Rt z none P X 1 6) : Go z 0 0 0 (wp_X8_requireRange_0 P X) := 
  s_iload_n hz rfl dX8_requireRange_0 (s_iload_n hz rfl dX8_requireRange_1 (s_iclt hz (tgt := 10) rfl dX8_requireRange_2 (go_X8_requireRange_10 hz hr) (s_iload_n hz rfl dX8_requireRange_5
    (s_iload_n hz rfl dX8_requireRange_6 (s_icle hz (tgt := 21) rfl dX8_requireRange_7 (s_vret hz hr rfl rfl dX8_requireRange_21) (go_X8_requireRange_10 hz hr))))))

def T_X8_requireRange : PT := fun av h P X => match av with
  | [.int v, .int b, .int e] => (True) ∧ ((b ≤ v ∧ v ≤ e → P none h) ∧ (¬ (b ≤ v ∧ v ≤ e) → X "java/lang/IllegalArgumentException" h))
  | _ => False
set_option maxRecDepth 20000 in
theorem ct_X8_requireRange : CT yX8_requireRange cX8_requireRange 3 none 6 1 6 T_X8_requireRange := by
  refine ct_ofE (by decide) (fun z av h P X hT hz hr => ?_) (fun av h P X hT => ?_)
  · unfold T_X8_requireRange at hT
    split at hT
    · refine ⟨_, go_X8_requireRange_0 hz hr, ?_⟩
      rename_i v b e
      show wp_X8_requireRange_0 P X [some (.int v), some (.int b), some (.int e)] [] h
      obtain ⟨hk, hp⟩ := hT
      obtain ⟨hp1, hp2⟩ := hp
      simp only [wp_X8_requireRange_10, wp_X8_requireRange_0, i_mmax, i_mmin, i_pushI, i_pushN, i_pushL, i_iload, i_aload, i_istore, i_astore, i_iinc, i_iadd, i_isub, i_imul, i_iand, i_ior, i_ixor, i_ishl, i_ishr, i_iushr, i_idiv, i_i2l, i_lcmp, i_dup, i_pop, i_dupx1, i_dup2, i_ifeq, i_ifne, i_iflt, i_ifge, i_ifgt, i_ifle, i_iceq, i_icne, i_iclt, i_icge, i_icgt, i_icle, i_ifnull, i_aceq, i_getI, i_getR, i_putI, i_putZ, i_putR, i_new, i_newarr, i_ald, i_lald, i_aald, i_alen, i_ast, i_zast, i_last, i_aast, i_aastL, i_cast, i_gste, i_ldcM, i_getC, i_acopy, i_dead, i_objinit, i_callV, i_callS, i_callI, i_iret, i_zret, i_aret, i_vret, i_throw, popN, pushO, lget, lset, isRf_ref, isRf_null, isRf_rf, isC1_int, isC1_ref, isC1_null, isC1_rf, true_and, and_true, List.length_cons, List.length_nil, Nat.reduceAdd, Nat.reduceLeDiff, hK_sI, hN_sI, hR_sI, hI_sI, hK_sR, hN_sR, hR_sR, hI_sR, kC_2, kC_3, kC_4, kC_5, kC_6, kC_7, kC_8, kC_9, kC_10, kC_11, kC_20, kC_21, kC_22, kC_23, i2_0, i1_1, i0_1, i1_0, bI_and, bI_0, Decidable.not_not, not_false_eq_true, not_true_eq_false, forall_const, false_implies, true_implies, hK_copy, hN_copy, hI_copy, hC_sI, hC_sR, hC_new, hK_new, hN_new, hI_new, hR_new, rf_some, rf_none, ex_ref, ex_null, ex_rf, nref_null, rf_null, Nat.reduceEqDiff, reduceCtorEq, false_and, and_false, if_false, if_true, ne_eq, kO_150, kO_151, kO_152, kO_170, kO_180, kO_190, Value.ref.injEq, exists_eq_left', false_or, hk]
      (repeat' (first | (apply And.intro) | (intro _)))
      all_goals first | exact hp1 (by clear hp1 hp2; grind) | exact hp2 (by clear hp1 hp2; grind)
    · exact hT.elim
  · unfold T_X8_requireRange at hT
    split at hT
    · exact ⟨Nat.le_of_ble_eq_true rfl, by simp [isC1_int, isC1_ref, isC1_null, isC1_rf]⟩
    · exact hT.elim
def wp_X8_requireFact_10 (P : Option Value → hp_T → Prop) (X : String → hp_T → Prop) : KT :=
  i_throw "java/lang/IndexOutOfBoundsException" X
set_option maxRecDepth 20000 in
theorem go_X8_requireFact_10 {z : zT} {P : Option Value → hp_T → Prop} {X : String → hp_T → Prop} (hz : Cx z cX8_requireFact 1 "Panelry" "requireFact" 6 1 6) (hr : Rt z none P X 1 6) : Go z 0 0 10 (wp_X8_requireFact_10 P X) := 
  s_throwW (tx := "no such fact") hz hr thI (by simp [strTab]) rfl rfl rfl dX8_requireFact_10 dX8_requireFact_13 dX8_requireFact_14 dX8_requireFact_17 dX8_requireFact_20
def wp_X8_requireFact_0 (P : Option Value → hp_T → Prop) (X : String → hp_T → Prop) : KT :=
  i_iload 0 (i_iflt (wp_X8_requireFact_10 P X) (i_iload 0 (i_pushI 9 (i_icle (i_vret P) (wp_X8_requireFact_10 P X)))))
set_option maxRecDepth 20000 in
theorem go_X8_requireFact_0 {z : zT} {P : Option Value → hp_T → Prop} {X : String → hp_T → Prop} (hz : Cx z cX8_requireFact 1 "Panelry" "requireFact" 6 1 6) (hr : Rt z none P X 1 6) : Go z 0 0 0 (wp_X8_requireFact_0 P X) := 
  s_iload_n hz rfl dX8_requireFact_0 (s_iflt hz (tgt := 10) rfl dX8_requireFact_1 (go_X8_requireFact_10 hz hr) (s_iload_n hz rfl dX8_requireFact_4 (s_bipush hz rfl dX8_requireFact_5 (s_icle hz
    (tgt := 21) rfl dX8_requireFact_7 (s_vret hz hr rfl rfl dX8_requireFact_21) (go_X8_requireFact_10 hz hr)))))

def T_X8_requireFact : PT := fun av h P X => match av with
  | [.int v] => (True) ∧ ((0 ≤ v ∧ v ≤ 9 → P none h) ∧ (¬ (0 ≤ v ∧ v ≤ 9) → X "java/lang/IndexOutOfBoundsException" h))
  | _ => False
set_option maxRecDepth 20000 in
theorem ct_X8_requireFact : CT yX8_requireFact cX8_requireFact 1 none 6 1 6 T_X8_requireFact := by
  refine ct_ofE (by decide) (fun z av h P X hT hz hr => ?_) (fun av h P X hT => ?_)
  · unfold T_X8_requireFact at hT
    split at hT
    · refine ⟨_, go_X8_requireFact_0 hz hr, ?_⟩
      rename_i v
      show wp_X8_requireFact_0 P X [some (.int v)] [] h
      obtain ⟨hk, hp⟩ := hT
      obtain ⟨hp1, hp2⟩ := hp
      simp only [wp_X8_requireFact_10, wp_X8_requireFact_0, i_mmax, i_mmin, i_pushI, i_pushN, i_pushL, i_iload, i_aload, i_istore, i_astore, i_iinc, i_iadd, i_isub, i_imul, i_iand, i_ior, i_ixor, i_ishl, i_ishr, i_iushr, i_idiv, i_i2l, i_lcmp, i_dup, i_pop, i_dupx1, i_dup2, i_ifeq, i_ifne, i_iflt, i_ifge, i_ifgt, i_ifle, i_iceq, i_icne, i_iclt, i_icge, i_icgt, i_icle, i_ifnull, i_aceq, i_getI, i_getR, i_putI, i_putZ, i_putR, i_new, i_newarr, i_ald, i_lald, i_aald, i_alen, i_ast, i_zast, i_last, i_aast, i_aastL, i_cast, i_gste, i_ldcM, i_getC, i_acopy, i_dead, i_objinit, i_callV, i_callS, i_callI, i_iret, i_zret, i_aret, i_vret, i_throw, popN, pushO, lget, lset, isRf_ref, isRf_null, isRf_rf, isC1_int, isC1_ref, isC1_null, isC1_rf, true_and, and_true, List.length_cons, List.length_nil, Nat.reduceAdd, Nat.reduceLeDiff, hK_sI, hN_sI, hR_sI, hI_sI, hK_sR, hN_sR, hR_sR, hI_sR, kC_2, kC_3, kC_4, kC_5, kC_6, kC_7, kC_8, kC_9, kC_10, kC_11, kC_20, kC_21, kC_22, kC_23, i2_0, i1_1, i0_1, i1_0, bI_and, bI_0, Decidable.not_not, not_false_eq_true, not_true_eq_false, forall_const, false_implies, true_implies, hK_copy, hN_copy, hI_copy, hC_sI, hC_sR, hC_new, hK_new, hN_new, hI_new, hR_new, rf_some, rf_none, ex_ref, ex_null, ex_rf, nref_null, rf_null, Nat.reduceEqDiff, reduceCtorEq, false_and, and_false, if_false, if_true, ne_eq, kO_150, kO_151, kO_152, kO_170, kO_180, kO_190, Value.ref.injEq, exists_eq_left', false_or, hk]
      (repeat' (first | (apply And.intro) | (intro _)))
      all_goals first | exact hp1 (by clear hp1 hp2; grind) | exact hp2 (by clear hp1 hp2; grind)
    · exact hT.elim
  · unfold T_X8_requireFact at hT
    split at hT
    · exact ⟨Nat.le_of_ble_eq_true rfl, by simp [isC1_int, isC1_ref, isC1_null, isC1_rf]⟩
    · exact hT.elim
