def wp_X8_requireRoomForPage_0 (P : Option Value → hp_T → Prop) (X : String → hp_T → Prop) : KT :=
  i_aload 0 (i_getR 10 640 (i_callV 0 1 T_Jx4a65c_size_8abf5 noX (i_pushI 8 (i_iclt (i_vret P) (i_throw "java/lang/IllegalStateException" X)))))
set_option maxRecDepth 20000 in
theorem go_X8_requireRoomForPage_0 {z : zT} {P : Option Value → hp_T → Prop} {X : String → hp_T → Prop} (hz : Cx z cX8_requireRoomForPage 1 "Panelry" "requireRoomForPage" 6 1 6) (hr : Rt z none P X 1 6) : Go z 0 0 0 (wp_X8_requireRoomForPage_0 P X) := 
  s_aload_n hz rfl dX8_requireRoomForPage_0 (fg_RX8_12 hz dX8_requireRoomForPage_1 (s_callV hz ct_Jx4a65c_size_8abf5 ⟨w112, w115, w32, by decide, by decide, by decide +kernel⟩ w113 w114 cls0 rfl rfl rfl rfl rfl rfl out_no dX8_requireRoomForPage_4
    (s_bipush hz rfl dX8_requireRoomForPage_7 (s_iclt hz (tgt := 23) rfl dX8_requireRoomForPage_9 (s_vret hz hr rfl rfl dX8_requireRoomForPage_23) (s_throwW (tx := "the house has all its pages") hz hr thS
    (by simp [strTab]) rfl rfl rfl dX8_requireRoomForPage_12 dX8_requireRoomForPage_15 dX8_requireRoomForPage_16 dX8_requireRoomForPage_19 dX8_requireRoomForPage_22)))))

def T_X8_requireRoomForPage : PT := fun av h P X => match av with
  | [.ref c] => (cpOK h c) ∧ ((cgN h c < 8 → P none h) ∧ (¬ cgN h c < 8 → X "java/lang/IllegalStateException" h))
  | _ => False
set_option maxRecDepth 20000 in
theorem ct_X8_requireRoomForPage : CT yX8_requireRoomForPage cX8_requireRoomForPage 1 none 6 1 6 T_X8_requireRoomForPage := by
  refine ct_ofE (by decide) (fun z av h P X hT hz hr => ?_) (fun av h P X hT => ?_)
  · unfold T_X8_requireRoomForPage at hT
    split at hT
    · refine ⟨_, go_X8_requireRoomForPage_0 hz hr, ?_⟩
      rename_i c
      show wp_X8_requireRoomForPage_0 P X [some (.ref c)] [] h
      obtain ⟨hk, hp⟩ := hT
      obtain ⟨k1, ⟨k2, k3, k4, k5, k6⟩, -⟩ := hk
      have eN : lsz h (dR h 640 c) = cgN h c := rfl
      have eP : ∀ j, lel h (dR h 640 c) j = cg h c j := fun _ => rfl
      obtain ⟨hp1, hp2⟩ := hp
      simp only [wp_X8_requireRoomForPage_0, T_Jx4a65c_size_8abf5, k1, k2, k3, k4, eN, i_mmax, i_mmin, i_pushI, i_pushN, i_pushL, i_iload, i_aload, i_istore, i_astore, i_iinc, i_iadd, i_isub, i_imul, i_iand, i_ior, i_ixor, i_ishl, i_ishr, i_iushr, i_idiv, i_i2l, i_lcmp, i_dup, i_pop, i_dupx1, i_dup2, i_ifeq, i_ifne, i_iflt, i_ifge, i_ifgt, i_ifle, i_iceq, i_icne, i_iclt, i_icge, i_icgt, i_icle, i_ifnull, i_aceq, i_getI, i_getR, i_putI, i_putZ, i_putR, i_new, i_newarr, i_ald, i_lald, i_aald, i_alen, i_ast, i_zast, i_last, i_aast, i_aastL, i_cast, i_gste, i_ldcM, i_getC, i_acopy, i_dead, i_objinit, i_callV, i_callS, i_callI, i_iret, i_zret, i_aret, i_vret, i_throw, popN, pushO, lget, lset, isRf_ref, isRf_null, isRf_rf, isC1_int, isC1_ref, isC1_null, isC1_rf, true_and, and_true, List.length_cons, List.length_nil, Nat.reduceAdd, Nat.reduceLeDiff, hK_sI, hN_sI, hR_sI, hI_sI, hK_sR, hN_sR, hR_sR, hI_sR, kC_2, kC_3, kC_4, kC_5, kC_6, kC_7, kC_8, kC_9, kC_10, kC_11, kC_20, kC_21, kC_22, kC_23, i2_0, i1_1, i0_1, i1_0, bI_and, bI_0, Decidable.not_not, not_false_eq_true, not_true_eq_false, forall_const, false_implies, true_implies, hK_copy, hN_copy, hI_copy, hC_sI, hC_sR, hC_new, hK_new, hN_new, hI_new, hR_new, rf_some, rf_none, ex_ref, ex_null, ex_rf, nref_null, rf_null, Nat.reduceEqDiff, reduceCtorEq, false_and, and_false, if_false, if_true, ne_eq, kO_150, kO_151, kO_152, kO_170, kO_180, kO_190, Value.ref.injEq, exists_eq_left', false_or]
      exact ⟨fun e => hp1 ((ltI (a := cgN h c) (b := 8) (by omega) (by omega)).mp e), fun e => hp2 (fun z => e ((ltI (a := cgN h c) (b := 8) (by omega) (by omega)).mpr z))⟩
    · exact hT.elim
  · unfold T_X8_requireRoomForPage at hT
    split at hT
    · exact ⟨Nat.le_of_ble_eq_true rfl, by simp [isC1_int, isC1_ref, isC1_null, isC1_rf]⟩
    · exact hT.elim
def wp_X8_workers_0 (P : Option Value → hp_T → Prop) (X : String → hp_T → Prop) : KT :=
  i_iload 1 (i_pushI 1 (i_pushI 5 (i_callS 3 T_X8_requireRange X (i_aload 0 (i_getI 10 644 (i_istore 2 (i_aload 0 (i_iload 1 (i_putI 10 644 (i_iload 2 (i_iret P)))))))))))
set_option maxRecDepth 20000 in
theorem go_X8_workers_0 {z : zT} {P : Option Value → hp_T → Prop} {X : String → hp_T → Prop} (hz : Cx z cX8_workers 3 "Panelry" "workers" 7 1 6) (hr : Rt z (some .int) P X 1 6) : Go z 0 0 0 (wp_X8_workers_0 P X) := 
  s_iload_n hz rfl dX8_workers_0 (s_iconst hz rfl dX8_workers_1 (s_iconst hz rfl dX8_workers_2 (s_callS hz ct_X8_requireRange ⟨w424, w426, w29, by decide, by decide, by decide +kernel⟩ w425 rfl rfl rfl rfl
    (out_rt hz hr (Nat.le_of_ble_eq_true rfl) (Nat.le_of_ble_eq_true rfl)) dX8_workers_3 (s_aload_n hz rfl dX8_workers_6 (fg_RX8_19 hz dX8_workers_7 (s_istore_n hz rfl rfl dX8_workers_10
    (s_aload_n hz rfl dX8_workers_11 (s_iload_n hz rfl dX8_workers_12 (fp_RX8_19 hz dX8_workers_13 (s_iload_n hz rfl dX8_workers_16 (s_iret hz hr rfl rfl dX8_workers_17)))))))))))

def T_X8_workers : PT := fun av h P X => match av with
  | [.ref c, .int v] => (hK h c = 10) ∧ ((1 ≤ v ∧ v ≤ 5 → P (some (.int (hI h 644 c 0))) (hsI h 644 c 0 v)) ∧ (¬ (1 ≤ v ∧ v ≤ 5) → X "java/lang/IllegalArgumentException" h))
  | _ => False
set_option maxRecDepth 20000 in
theorem ct_X8_workers : CT yX8_workers cX8_workers 3 (some .int) 7 1 6 T_X8_workers := by
  refine ct_ofE (by decide) (fun z av h P X hT hz hr => ?_) (fun av h P X hT => ?_)
  · unfold T_X8_workers at hT
    split at hT
    · refine ⟨_, go_X8_workers_0 hz hr, ?_⟩
      rename_i c v
      show wp_X8_workers_0 P X [some (.ref c), some (.int v), none] [] h
      obtain ⟨hk, hp⟩ := hT
      obtain ⟨hp1, hp2⟩ := hp
      simp only [wp_X8_workers_0, T_X8_requireRange, i_mmax, i_mmin, i_pushI, i_pushN, i_pushL, i_iload, i_aload, i_istore, i_astore, i_iinc, i_iadd, i_isub, i_imul, i_iand, i_ior, i_ixor, i_ishl, i_ishr, i_iushr, i_idiv, i_i2l, i_lcmp, i_dup, i_pop, i_dupx1, i_dup2, i_ifeq, i_ifne, i_iflt, i_ifge, i_ifgt, i_ifle, i_iceq, i_icne, i_iclt, i_icge, i_icgt, i_icle, i_ifnull, i_aceq, i_getI, i_getR, i_putI, i_putZ, i_putR, i_new, i_newarr, i_ald, i_lald, i_aald, i_alen, i_ast, i_zast, i_last, i_aast, i_aastL, i_cast, i_gste, i_ldcM, i_getC, i_acopy, i_dead, i_objinit, i_callV, i_callS, i_callI, i_iret, i_zret, i_aret, i_vret, i_throw, popN, pushO, lget, lset, isRf_ref, isRf_null, isRf_rf, isC1_int, isC1_ref, isC1_null, isC1_rf, true_and, and_true, List.length_cons, List.length_nil, Nat.reduceAdd, Nat.reduceLeDiff, hK_sI, hN_sI, hR_sI, hI_sI, hK_sR, hN_sR, hR_sR, hI_sR, kC_2, kC_3, kC_4, kC_5, kC_6, kC_7, kC_8, kC_9, kC_10, kC_11, kC_20, kC_21, kC_22, kC_23, i2_0, i1_1, i0_1, i1_0, bI_and, bI_0, Decidable.not_not, not_false_eq_true, not_true_eq_false, forall_const, false_implies, true_implies, hK_copy, hN_copy, hI_copy, hC_sI, hC_sR, hC_new, hK_new, hN_new, hI_new, hR_new, rf_some, rf_none, ex_ref, ex_null, ex_rf, nref_null, rf_null, Nat.reduceEqDiff, reduceCtorEq, false_and, and_false, if_false, if_true, ne_eq, kO_150, kO_151, kO_152, kO_170, kO_180, kO_190, Value.ref.injEq, exists_eq_left', false_or, hk]
      exact ⟨hp1, hp2⟩
    · exact hT.elim
  · unfold T_X8_workers at hT
    split at hT
    · exact ⟨Nat.le_of_ble_eq_true rfl, by simp [isC1_int, isC1_ref, isC1_null, isC1_rf]⟩
    · exact hT.elim
def wp_X8_figure_0 (P : Option Value → hp_T → Prop) (X : String → hp_T → Prop) : KT :=
  i_aload 0 (i_getI 10 642 (i_pushI 12 (i_iclt (i_aload 0 (i_dup (i_getI 10 642 (i_pushI 1 (i_iadd (i_putI 10 642 (i_aload 0 (i_getI 10 642 (i_pushI 1 (i_isub (i_iret P))))))))))) (i_throw "java/lang/IllegalStateException" X))))
set_option maxRecDepth 20000 in
theorem go_X8_figure_0 {z : zT} {P : Option Value → hp_T → Prop} {X : String → hp_T → Prop} (hz : Cx z cX8_figure 1 "Panelry" "figure" 6 1 6) (hr : Rt z (some .int) P X 1 6) : Go z 0 0 0 (wp_X8_figure_0 P X) := 
  s_aload_n hz rfl dX8_figure_0 (fg_RX8_126 hz dX8_figure_1 (s_bipush hz rfl dX8_figure_4 (s_iclt hz (tgt := 19) rfl dX8_figure_6 (s_aload_n hz rfl dX8_figure_19 (s_dup hz dX8_figure_20
    (fg_RX8_126 hz dX8_figure_21 (s_iconst hz rfl dX8_figure_24 (s_iadd hz dX8_figure_25 (fp_RX8_126 hz dX8_figure_26 (s_aload_n hz rfl dX8_figure_29 (fg_RX8_126 hz dX8_figure_30 (s_iconst hz rfl dX8_figure_33
    (s_isub hz dX8_figure_34 (s_iret hz hr rfl rfl dX8_figure_35))))))))))) (s_throw (tx := "the house has all its figures") hz hr thS (by simp [strTab]) rfl rfl rfl dX8_figure_9 dX8_figure_12 dX8_figure_13 dX8_figure_15 dX8_figure_18))))

def T_X8_figure : PT := fun av h P X => match av with
  | [.ref c] => (hK h c = 10) ∧ ((hI h 642 c 0 < 12 → P (some (.int (hI h 642 c 0 + 1 - 1))) (hsI h 642 c 0 (hI h 642 c 0 + 1))) ∧ (¬ hI h 642 c 0 < 12 → X "java/lang/IllegalStateException" h))
  | _ => False
set_option maxRecDepth 20000 in
theorem ct_X8_figure : CT yX8_figure cX8_figure 1 (some .int) 6 1 6 T_X8_figure := by
  refine ct_ofE (by decide) (fun z av h P X hT hz hr => ?_) (fun av h P X hT => ?_)
  · unfold T_X8_figure at hT
    split at hT
    · refine ⟨_, go_X8_figure_0 hz hr, ?_⟩
      rename_i c
      show wp_X8_figure_0 P X [some (.ref c)] [] h
      obtain ⟨hk, hp⟩ := hT
      obtain ⟨hp1, hp2⟩ := hp
      simp only [wp_X8_figure_0, i_mmax, i_mmin, i_pushI, i_pushN, i_pushL, i_iload, i_aload, i_istore, i_astore, i_iinc, i_iadd, i_isub, i_imul, i_iand, i_ior, i_ixor, i_ishl, i_ishr, i_iushr, i_idiv, i_i2l, i_lcmp, i_dup, i_pop, i_dupx1, i_dup2, i_ifeq, i_ifne, i_iflt, i_ifge, i_ifgt, i_ifle, i_iceq, i_icne, i_iclt, i_icge, i_icgt, i_icle, i_ifnull, i_aceq, i_getI, i_getR, i_putI, i_putZ, i_putR, i_new, i_newarr, i_ald, i_lald, i_aald, i_alen, i_ast, i_zast, i_last, i_aast, i_aastL, i_cast, i_gste, i_ldcM, i_getC, i_acopy, i_dead, i_objinit, i_callV, i_callS, i_callI, i_iret, i_zret, i_aret, i_vret, i_throw, popN, pushO, lget, lset, isRf_ref, isRf_null, isRf_rf, isC1_int, isC1_ref, isC1_null, isC1_rf, true_and, and_true, List.length_cons, List.length_nil, Nat.reduceAdd, Nat.reduceLeDiff, hK_sI, hN_sI, hR_sI, hI_sI, hK_sR, hN_sR, hR_sR, hI_sR, kC_2, kC_3, kC_4, kC_5, kC_6, kC_7, kC_8, kC_9, kC_10, kC_11, kC_20, kC_21, kC_22, kC_23, i2_0, i1_1, i0_1, i1_0, bI_and, bI_0, Decidable.not_not, not_false_eq_true, not_true_eq_false, forall_const, false_implies, true_implies, hK_copy, hN_copy, hI_copy, hC_sI, hC_sR, hC_new, hK_new, hN_new, hI_new, hR_new, rf_some, rf_none, ex_ref, ex_null, ex_rf, nref_null, rf_null, Nat.reduceEqDiff, reduceCtorEq, false_and, and_false, if_false, if_true, ne_eq, kO_150, kO_151, kO_152, kO_170, kO_180, kO_190, Value.ref.injEq, exists_eq_left', false_or, hk]
      exact ⟨hp1, hp2⟩
    · exact hT.elim
  · unfold T_X8_figure at hT
    split at hT
    · exact ⟨Nat.le_of_ble_eq_true rfl, by simp [isC1_int, isC1_ref, isC1_null, isC1_rf]⟩
    · exact hT.elim
