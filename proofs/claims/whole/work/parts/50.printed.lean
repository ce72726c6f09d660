/-- an answer in print, -1 where nothing is printed -/
def prA (h : hp_T) (a : Nat) (x : Int32) : Int32 := match hR h 324 a 0 with
  | some q => hI h 152 q x.toNatClampNeg
  | none => -1
def wp_X8_printed_33 (P : Option Value → hp_T → Prop) (X : String → hp_T → Prop) : KT :=
  i_iret P
set_option maxRecDepth 20000 in
theorem go_X8_printed_33 {z : zT} {P : Option Value → hp_T → Prop} {X : String → hp_T → Prop} (hz : Cx z cX8_printed 4 "Panelry" "printed" 7 2 12) (hr : Rt z (some .int) P X 2 12) : Go z 2 12 33 (wp_X8_printed_33 P X) := 
  s_iret hz hr rfl rfl dX8_printed_33
def wp_X8_printed_26 (P : Option Value → hp_T → Prop) (X : String → hp_T → Prop) : KT :=
  i_pushI (-1) (wp_X8_printed_33 P X)
set_option maxRecDepth 20000 in
theorem go_X8_printed_26 {z : zT} {P : Option Value → hp_T → Prop} {X : String → hp_T → Prop} (hz : Cx z cX8_printed 4 "Panelry" "printed" 7 2 12) (hr : Rt z (some .int) P X 2 12) : Go z 2 12 26 (wp_X8_printed_26 P X) := 
  s_iconst hz rfl dX8_printed_26 (s_goto hz (tgt := 33) rfl dX8_printed_27 (go_X8_printed_33 hz hr))
def wp_X8_printed_0 (P : Option Value → hp_T → Prop) (X : String → hp_T → Prop) : KT :=
  i_aload 0 (i_iload 1 (i_callV 1 10 T_X8_existingPage X (i_getR 5 324 (i_astore 3 (i_iload 2 (i_pushI 0 (i_pushI 10 (i_callS 3 T_X8_requireRange X (i_aload 3 (i_ifnull (wp_X8_printed_26 P X)
    (i_iload 2 (i_aload 3 (i_alen (i_iclt (i_aload 3 (i_iload 2 (i_ald 152 (wp_X8_printed_33 P X)))) (wp_X8_printed_26 P X)))))))))))))))
set_option maxRecDepth 20000 in
theorem go_X8_printed_0 {z : zT} {P : Option Value → hp_T → Prop} {X : String → hp_T → Prop} (hz : Cx z cX8_printed 4 "Panelry" "printed" 7 2 12) (hr : Rt z (some .int) P X 2 12) : Go z 0 0 0 (wp_X8_printed_0 P X) := 
  s_aload_n hz rfl dX8_printed_0 (s_iload_n hz rfl dX8_printed_1 (s_callV hz ct_X8_existingPage ⟨w404, w407, w29, by decide, by decide, by decide +kernel⟩ w406 w11 cls9 rfl rfl rfl rfl rfl rfl
    (out_rt hz hr (Nat.le_of_ble_eq_true rfl) (Nat.le_of_ble_eq_true rfl)) dX8_printed_2 (fg_RX8_263 hz dX8_printed_5 (s_astore_n hz rfl rfl dX8_printed_8 (s_iload_n hz rfl dX8_printed_9
    (s_iconst hz rfl dX8_printed_10 (s_bipush hz rfl dX8_printed_11 (s_callS hz ct_X8_requireRange ⟨w424, w426, w29, by decide, by decide, by decide +kernel⟩ w425 rfl rfl rfl rfl (out_rt hz hr
    (Nat.le_of_ble_eq_true rfl) (Nat.le_of_ble_eq_true rfl)) dX8_printed_13 (s_aload_n hz rfl dX8_printed_16 (s_ifnull hz (tgt := 26) rfl dX8_printed_17 (go_X8_printed_26 hz hr) (s_iload_n hz rfl dX8_printed_20
    (s_aload_n hz rfl dX8_printed_21 (s_alen hz dX8_printed_22 (s_iclt hz (tgt := 30) rfl dX8_printed_23 (s_aload_n hz rfl dX8_printed_30 (s_iload_n hz rfl dX8_printed_31 (s_iald hz rfl rfl rfl dX8_printed_32
    (go_X8_printed_33 hz hr)))) (go_X8_printed_26 hz hr)))))))))))))))

def T_X8_printed : PT := fun av h P X => match av with
  | [.ref c, .int v, .int x] => (cpOK h c) ∧ ((isPg h c v → 0 ≤ x ∧ x ≤ 10 → P (some (.int (prA h (cg h c v.toNatClampNeg) x))) h) ∧ (isPg h c v → ¬ (0 ≤ x ∧ x ≤ 10) → X "java/lang/IllegalArgumentException" h) ∧ (¬ isPg h c v → X "java/lang/IndexOutOfBoundsException" h))
  | _ => False
set_option maxRecDepth 20000 in
theorem ct_X8_printed : CT yX8_printed cX8_printed 4 (some .int) 7 2 12 T_X8_printed := by
  refine ct_ofE (by decide) (fun z av h P X hT hz hr => ?_) (fun av h P X hT => ?_)
  · unfold T_X8_printed at hT
    split at hT
    · refine ⟨_, go_X8_printed_0 hz hr, ?_⟩
      rename_i c v x
      show wp_X8_printed_0 P X [some (.ref c), some (.int v), some (.int x), none] [] h
      obtain ⟨hk, hp⟩ := hT
      obtain ⟨hp1, hp2, hp3⟩ := hp
      have kc := hk.1
      simp only [wp_X8_printed_33, wp_X8_printed_26, wp_X8_printed_0, T_X8_existingPage, T_X8_requireRange, kc, hk, i_mmax, i_mmin, i_pushI, i_pushN, i_pushL, i_iload, i_aload, i_istore, i_astore, i_iinc, i_iadd, i_isub, i_imul, i_iand, i_ior, i_ixor, i_ishl, i_ishr, i_iushr, i_idiv, i_i2l, i_lcmp, i_dup, i_pop, i_dupx1, i_dup2, i_ifeq, i_ifne, i_iflt, i_ifge, i_ifgt, i_ifle, i_iceq, i_icne, i_iclt, i_icge, i_icgt, i_icle, i_ifnull, i_aceq, i_getI, i_getR, i_putI, i_putZ, i_putR, i_new, i_newarr, i_ald, i_lald, i_aald, i_alen, i_ast, i_zast, i_last, i_aast, i_aastL, i_cast, i_gste, i_ldcM, i_getC, i_acopy, i_dead, i_objinit, i_callV, i_callS, i_callI, i_iret, i_zret, i_aret, i_vret, i_throw, popN, pushO, lget, lset, isRf_ref, isRf_null, isRf_rf, isC1_int, isC1_ref, isC1_null, isC1_rf, true_and, and_true, List.length_cons, List.length_nil, Nat.reduceAdd, Nat.reduceLeDiff, hK_sI, hN_sI, hR_sI, hI_sI, hK_sR, hN_sR, hR_sR, hI_sR, kC_2, kC_3, kC_4, kC_5, kC_6, kC_7, kC_8, kC_9, kC_10, kC_11, kC_20, kC_21, kC_22, kC_23, i2_0, i1_1, i0_1, i1_0, bI_and, bI_0, Decidable.not_not, not_false_eq_true, not_true_eq_false, forall_const, false_implies, true_implies, hK_copy, hN_copy, hI_copy, hC_sI, hC_sR, hC_new, hK_new, hN_new, hI_new, hR_new, rf_some, rf_none, ex_ref, ex_null, ex_rf, nref_null, rf_null, Nat.reduceEqDiff, reduceCtorEq, false_and, and_false, if_false, if_true, ne_eq, kO_150, kO_151, kO_152, kO_170, kO_180, kO_190, Value.ref.injEq, exists_eq_left', false_or]
      refine pg_step (fun e => ?_) hp3
      have kp := isPg_ok hk e
      have kp1 := kp.1
      simp only [kp1, i_mmax, i_mmin, i_pushI, i_pushN, i_pushL, i_iload, i_aload, i_istore, i_astore, i_iinc, i_iadd, i_isub, i_imul, i_iand, i_ior, i_ixor, i_ishl, i_ishr, i_iushr, i_idiv, i_i2l, i_lcmp, i_dup, i_pop, i_dupx1, i_dup2, i_ifeq, i_ifne, i_iflt, i_ifge, i_ifgt, i_ifle, i_iceq, i_icne, i_iclt, i_icge, i_icgt, i_icle, i_ifnull, i_aceq, i_getI, i_getR, i_putI, i_putZ, i_putR, i_new, i_newarr, i_ald, i_lald, i_aald, i_alen, i_ast, i_zast, i_last, i_aast, i_aastL, i_cast, i_gste, i_ldcM, i_getC, i_acopy, i_dead, i_objinit, i_callV, i_callS, i_callI, i_iret, i_zret, i_aret, i_vret, i_throw, popN, pushO, lget, lset, isRf_ref, isRf_null, isRf_rf, isC1_int, isC1_ref, isC1_null, isC1_rf, true_and, and_true, List.length_cons, List.length_nil, Nat.reduceAdd, Nat.reduceLeDiff, hK_sI, hN_sI, hR_sI, hI_sI, hK_sR, hN_sR, hR_sR, hI_sR, kC_2, kC_3, kC_4, kC_5, kC_6, kC_7, kC_8, kC_9, kC_10, kC_11, kC_20, kC_21, kC_22, kC_23, i2_0, i1_1, i0_1, i1_0, bI_and, bI_0, Decidable.not_not, not_false_eq_true, not_true_eq_false, forall_const, false_implies, true_implies, hK_copy, hN_copy, hI_copy, hC_sI, hC_sR, hC_new, hK_new, hN_new, hI_new, hR_new, rf_some, rf_none, ex_ref, ex_null, ex_rf, nref_null, rf_null, Nat.reduceEqDiff, reduceCtorEq, false_and, and_false, if_false, if_true, ne_eq, kO_150, kO_151, kO_152, kO_170, kO_180, kO_190, Value.ref.injEq, exists_eq_left', false_or]
      refine ⟨fun e1 => ?_, hp2 e⟩
      have hq := hp1 e e1
      unfold prA at hq
      rcases kp.2.2.2.2 with z | ⟨q, z1, z2, z3⟩
      · rw [z] at hq
        simp only [z, i_mmax, i_mmin, i_pushI, i_pushN, i_pushL, i_iload, i_aload, i_istore, i_astore, i_iinc, i_iadd, i_isub, i_imul, i_iand, i_ior, i_ixor, i_ishl, i_ishr, i_iushr, i_idiv, i_i2l, i_lcmp, i_dup, i_pop, i_dupx1, i_dup2, i_ifeq, i_ifne, i_iflt, i_ifge, i_ifgt, i_ifle, i_iceq, i_icne, i_iclt, i_icge, i_icgt, i_icle, i_ifnull, i_aceq, i_getI, i_getR, i_putI, i_putZ, i_putR, i_new, i_newarr, i_ald, i_lald, i_aald, i_alen, i_ast, i_zast, i_last, i_aast, i_aastL, i_cast, i_gste, i_ldcM, i_getC, i_acopy, i_dead, i_objinit, i_callV, i_callS, i_callI, i_iret, i_zret, i_aret, i_vret, i_throw, popN, pushO, lget, lset, isRf_ref, isRf_null, isRf_rf, isC1_int, isC1_ref, isC1_null, isC1_rf, true_and, and_true, List.length_cons, List.length_nil, Nat.reduceAdd, Nat.reduceLeDiff, hK_sI, hN_sI, hR_sI, hI_sI, hK_sR, hN_sR, hR_sR, hI_sR, kC_2, kC_3, kC_4, kC_5, kC_6, kC_7, kC_8, kC_9, kC_10, kC_11, kC_20, kC_21, kC_22, kC_23, i2_0, i1_1, i0_1, i1_0, bI_and, bI_0, Decidable.not_not, not_false_eq_true, not_true_eq_false, forall_const, false_implies, true_implies, hK_copy, hN_copy, hI_copy, hC_sI, hC_sR, hC_new, hK_new, hN_new, hI_new, hR_new, rf_some, rf_none, ex_ref, ex_null, ex_rf, nref_null, rf_null, Nat.reduceEqDiff, reduceCtorEq, false_and, and_false, if_false, if_true, ne_eq, kO_150, kO_151, kO_152, kO_170, kO_180, kO_190, Value.ref.injEq, exists_eq_left', false_or]
        exact hq
      · rw [z1] at hq
        have o11 : Int32.ofNat 11 = nI 11 := rfl
        have hlt : x < nI 11 := by have := e1.2; show x < 11; grind
        have hn : ¬ x < 0 := Int32.not_lt.mpr e1.1
        simp only [z1, z2, z3, o11, hlt, i_mmax, i_mmin, i_pushI, i_pushN, i_pushL, i_iload, i_aload, i_istore, i_astore, i_iinc, i_iadd, i_isub, i_imul, i_iand, i_ior, i_ixor, i_ishl, i_ishr, i_iushr, i_idiv, i_i2l, i_lcmp, i_dup, i_pop, i_dupx1, i_dup2, i_ifeq, i_ifne, i_iflt, i_ifge, i_ifgt, i_ifle, i_iceq, i_icne, i_iclt, i_icge, i_icgt, i_icle, i_ifnull, i_aceq, i_getI, i_getR, i_putI, i_putZ, i_putR, i_new, i_newarr, i_ald, i_lald, i_aald, i_alen, i_ast, i_zast, i_last, i_aast, i_aastL, i_cast, i_gste, i_ldcM, i_getC, i_acopy, i_dead, i_objinit, i_callV, i_callS, i_callI, i_iret, i_zret, i_aret, i_vret, i_throw, popN, pushO, lget, lset, isRf_ref, isRf_null, isRf_rf, isC1_int, isC1_ref, isC1_null, isC1_rf, true_and, and_true, List.length_cons, List.length_nil, Nat.reduceAdd, Nat.reduceLeDiff, hK_sI, hN_sI, hR_sI, hI_sI, hK_sR, hN_sR, hR_sR, hI_sR, kC_2, kC_3, kC_4, kC_5, kC_6, kC_7, kC_8, kC_9, kC_10, kC_11, kC_20, kC_21, kC_22, kC_23, i2_0, i1_1, i0_1, i1_0, bI_and, bI_0, Decidable.not_not, not_false_eq_true, not_true_eq_false, forall_const, false_implies, true_implies, hK_copy, hN_copy, hI_copy, hC_sI, hC_sR, hC_new, hK_new, hN_new, hI_new, hR_new, rf_some, rf_none, ex_ref, ex_null, ex_rf, nref_null, rf_null, Nat.reduceEqDiff, reduceCtorEq, false_and, and_false, if_false, if_true, ne_eq, kO_150, kO_151, kO_152, kO_170, kO_180, kO_190, Value.ref.injEq, exists_eq_left', false_or]
        exact ⟨(vp_in_lt (n := 11) (m := 11) hn hlt (by omega) (by omega)).1, hq⟩
    · exact hT.elim
  · unfold T_X8_printed at hT
    split at hT
    · exact ⟨Nat.le_of_ble_eq_true rfl, by simp [isC1_int, isC1_ref, isC1_null, isC1_rf]⟩
    · exact hT.elim
