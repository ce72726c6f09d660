def wp_X1_init_0 (P : Option Value → hp_T → Prop) (X : String → hp_T → Prop) : KT :=
  i_aload 0 (i_objinit (i_aload 0 (i_iload 1 (i_putI 3 192 (i_aload 0 (i_iload 2 (i_putI 3 193 (i_aload 0 (i_iload 3 (i_putI 3 194 (i_aload 0 (i_iload 4 (i_putI 3 195 (i_vret P))))))))))))))
set_option maxRecDepth 20000 in
theorem go_X1_init_0 {z : zT} {P : Option Value → hp_T → Prop} {X : String → hp_T → Prop} (hz : Cx z cX1_init 5 "Panelry$Box" "<init>" 1 0 0) (hr : Rt z none P X 0 0) : Go z 0 0 0 (wp_X1_init_0 P X) := 
  s_aload_n hz rfl dX1_init_0 (s_objinit hz w448 w61 w62 rfl dX1_init_1 (s_aload_n hz rfl dX1_init_4 (s_iload_n hz rfl dX1_init_5 (fp_RX1_9 hz dX1_init_6 (s_aload_n hz rfl dX1_init_9 (s_iload_n hz rfl dX1_init_10
    (fp_RX1_15 hz dX1_init_11 (s_aload_n hz rfl dX1_init_14 (s_iload_n hz rfl dX1_init_15 (fp_RX1_18 hz dX1_init_16 (s_aload_n hz rfl dX1_init_19 (s_iload hz dX1_init_20 (fp_RX1_21 hz dX1_init_22
    (s_vret hz hr rfl rfl dX1_init_25))))))))))))))

def T_X1_init : PT := fun av h P X => match av with
  | [.ref a, .int x, .int y, .int w, .int hh] => (hK h a = 3) ∧ (P none (hsI (hsI (hsI (hsI h 192 a 0 x) 193 a 0 y) 194 a 0 w) 195 a 0 hh))
  | _ => False
set_option maxRecDepth 20000 in
theorem ct_X1_init : CT yX1_init cX1_init 5 none 1 0 0 T_X1_init := by
  refine ct_ofE (by decide) (fun z av h P X hT hz hr => ?_) (fun av h P X hT => ?_)
  · unfold T_X1_init at hT
    split at hT
    · refine ⟨_, go_X1_init_0 hz hr, ?_⟩
      rename_i a x y w hh
      show wp_X1_init_0 P X [some (.ref a), some (.int x), some (.int y), some (.int w), some (.int hh)] [] h
      obtain ⟨hk, hp⟩ := hT
      simp only [wp_X1_init_0, i_mmax, i_mmin, i_pushI, i_pushN, i_pushL, i_iload, i_aload, i_istore, i_astore, i_iinc, i_iadd, i_isub, i_imul, i_iand, i_ior, i_ixor, i_ishl, i_ishr, i_iushr, i_idiv, i_i2l, i_lcmp, i_dup, i_pop, i_dupx1, i_dup2, i_ifeq, i_ifne, i_iflt, i_ifge, i_ifgt, i_ifle, i_iceq, i_icne, i_iclt, i_icge, i_icgt, i_icle, i_ifnull, i_aceq, i_getI, i_getR, i_putI, i_putZ, i_putR, i_new, i_newarr, i_ald, i_lald, i_aald, i_alen, i_ast, i_zast, i_last, i_aast, i_aastL, i_cast, i_gste, i_ldcM, i_getC, i_acopy, i_dead, i_objinit, i_callV, i_callS, i_callI, i_iret, i_zret, i_aret, i_vret, i_throw, popN, pushO, lget, lset, isRf_ref, isRf_null, isRf_rf, isC1_int, isC1_ref, isC1_null, isC1_rf, true_and, and_true, List.length_cons, List.length_nil, Nat.reduceAdd, Nat.reduceLeDiff, hK_sI, hN_sI, hR_sI, hI_sI, hK_sR, hN_sR, hR_sR, hI_sR, kC_2, kC_3, kC_4, kC_5, kC_6, kC_7, kC_8, kC_9, kC_10, kC_11, kC_20, kC_21, kC_22, kC_23, i2_0, i1_1, i0_1, i1_0, bI_and, bI_0, Decidable.not_not, not_false_eq_true, not_true_eq_false, forall_const, false_implies, true_implies, hK_copy, hN_copy, hI_copy, hC_sI, hC_sR, hC_new, hK_new, hN_new, hI_new, hR_new, rf_some, rf_none, ex_ref, ex_null, ex_rf, nref_null, rf_null, Nat.reduceEqDiff, reduceCtorEq, false_and, and_false, if_false, if_true, ne_eq, kO_150, kO_151, kO_152, kO_170, kO_180, kO_190, Value.ref.injEq, exists_eq_left', false_or, hk]
      (repeat' (first | (apply And.intro) | (intro _)))
      all_goals first | exact hp | (rw [bI_t (by clear hp; grind)] at hp; exact hp) | (rw [bI_f (by clear hp; grind)] at hp; exact hp) | (simp_all; done)
    · exact hT.elim
  · unfold T_X1_init at hT
    split at hT
    · exact ⟨Nat.le_of_ble_eq_true rfl, by simp [isC1_int, isC1_ref, isC1_null, isC1_rf]⟩
    · exact hT.elim
def wp_X1_endX_0 (P : Option Value → hp_T → Prop) (X : String → hp_T → Prop) : KT :=
  i_aload 0 (i_getI 3 192 (i_aload 0 (i_getI 3 194 (i_iadd (i_iret P)))))
set_option maxRecDepth 20000 in
theorem go_X1_endX_0 {z : zT} {P : Option Value → hp_T → Prop} {X : String → hp_T → Prop} (hz : Cx z cX1_endX 1 "Panelry$Box" "endX" 0 0 0) (hr : Rt z (some .int) P X 0 0) : Go z 0 0 0 (wp_X1_endX_0 P X) := 
  s_aload_n hz rfl dX1_endX_0 (fg_RX1_9 hz dX1_endX_1 (s_aload_n hz rfl dX1_endX_4 (fg_RX1_18 hz dX1_endX_5 (s_iadd hz dX1_endX_8 (s_iret hz hr rfl rfl dX1_endX_9)))))

def T_X1_endX : PT := fun av h P X => match av with
  | [.ref a] => (hK h a = 3) ∧ (P (some (.int (hI h 192 a 0 + hI h 194 a 0))) h)
  | _ => False
set_option maxRecDepth 20000 in
theorem ct_X1_endX : CT yX1_endX cX1_endX 1 (some .int) 0 0 0 T_X1_endX := by
  refine ct_ofE (by decide) (fun z av h P X hT hz hr => ?_) (fun av h P X hT => ?_)
  · unfold T_X1_endX at hT
    split at hT
    · refine ⟨_, go_X1_endX_0 hz hr, ?_⟩
      rename_i a
      show wp_X1_endX_0 P X [some (.ref a)] [] h
      obtain ⟨hk, hp⟩ := hT
      simp only [wp_X1_endX_0, i_mmax, i_mmin, i_pushI, i_pushN, i_pushL, i_iload, i_aload, i_istore, i_astore, i_iinc, i_iadd, i_isub, i_imul, i_iand, i_ior, i_ixor, i_ishl, i_ishr, i_iushr, i_idiv, i_i2l, i_lcmp, i_dup, i_pop, i_dupx1, i_dup2, i_ifeq, i_ifne, i_iflt, i_ifge, i_ifgt, i_ifle, i_iceq, i_icne, i_iclt, i_icge, i_icgt, i_icle, i_ifnull, i_aceq, i_getI, i_getR, i_putI, i_putZ, i_putR, i_new, i_newarr, i_ald, i_lald, i_aald, i_alen, i_ast, i_zast, i_last, i_aast, i_aastL, i_cast, i_gste, i_ldcM, i_getC, i_acopy, i_dead, i_objinit, i_callV, i_callS, i_callI, i_iret, i_zret, i_aret, i_vret, i_throw, popN, pushO, lget, lset, isRf_ref, isRf_null, isRf_rf, isC1_int, isC1_ref, isC1_null, isC1_rf, true_and, and_true, List.length_cons, List.length_nil, Nat.reduceAdd, Nat.reduceLeDiff, hK_sI, hN_sI, hR_sI, hI_sI, hK_sR, hN_sR, hR_sR, hI_sR, kC_2, kC_3, kC_4, kC_5, kC_6, kC_7, kC_8, kC_9, kC_10, kC_11, kC_20, kC_21, kC_22, kC_23, i2_0, i1_1, i0_1, i1_0, bI_and, bI_0, Decidable.not_not, not_false_eq_true, not_true_eq_false, forall_const, false_implies, true_implies, hK_copy, hN_copy, hI_copy, hC_sI, hC_sR, hC_new, hK_new, hN_new, hI_new, hR_new, rf_some, rf_none, ex_ref, ex_null, ex_rf, nref_null, rf_null, Nat.reduceEqDiff, reduceCtorEq, false_and, and_false, if_false, if_true, ne_eq, kO_150, kO_151, kO_152, kO_170, kO_180, kO_190, Value.ref.injEq, exists_eq_left', false_or, hk]
      (repeat' (first | (apply And.intro) | (intro _)))
      all_goals first | exact hp | (rw [bI_t (by clear hp; grind)] at hp; exact hp) | (rw [bI_f (by clear hp; grind)] at hp; exact hp) | (simp_all; done)
    · exact hT.elim
  · unfold T_X1_endX at hT
    split at hT
    · exact ⟨Nat.le_of_ble_eq_true rfl, by simp [isC1_int, isC1_ref, isC1_null, isC1_rf]⟩
    · exact hT.elim
def wp_X1_endY_0 (P : Option Value → hp_T → Prop) (X : String → hp_T → Prop) : KT :=
  i_aload 0 (i_getI 3 193 (i_aload 0 (i_getI 3 195 (i_iadd (i_iret P)))))
set_option maxRecDepth 20000 in
theorem go_X1_endY_0 {z : zT} {P : Option Value → hp_T → Prop} {X : String → hp_T → Prop} (hz : Cx z cX1_endY 1 "Panelry$Box" "endY" 0 0 0) (hr : Rt z (some .int) P X 0 0) : Go z 0 0 0 (wp_X1_endY_0 P X) := 
  s_aload_n hz rfl dX1_endY_0 (fg_RX1_15 hz dX1_endY_1 (s_aload_n hz rfl dX1_endY_4 (fg_RX1_21 hz dX1_endY_5 (s_iadd hz dX1_endY_8 (s_iret hz hr rfl rfl dX1_endY_9)))))

def T_X1_endY : PT := fun av h P X => match av with
  | [.ref a] => (hK h a = 3) ∧ (P (some (.int (hI h 193 a 0 + hI h 195 a 0))) h)
  | _ => False
set_option maxRecDepth 20000 in
theorem ct_X1_endY : CT yX1_endY cX1_endY 1 (some .int) 0 0 0 T_X1_endY := by
  refine ct_ofE (by decide) (fun z av h P X hT hz hr => ?_) (fun av h P X hT => ?_)
  · unfold T_X1_endY at hT
    split at hT
    · refine ⟨_, go_X1_endY_0 hz hr, ?_⟩
      rename_i a
      show wp_X1_endY_0 P X [some (.ref a)] [] h
      obtain ⟨hk, hp⟩ := hT
      simp only [wp_X1_endY_0, i_mmax, i_mmin, i_pushI, i_pushN, i_pushL, i_iload, i_aload, i_istore, i_astore, i_iinc, i_iadd, i_isub, i_imul, i_iand, i_ior, i_ixor, i_ishl, i_ishr, i_iushr, i_idiv, i_i2l, i_lcmp, i_dup, i_pop, i_dupx1, i_dup2, i_ifeq, i_ifne, i_iflt, i_ifge, i_ifgt, i_ifle, i_iceq, i_icne, i_iclt, i_icge, i_icgt, i_icle, i_ifnull, i_aceq, i_getI, i_getR, i_putI, i_putZ, i_putR, i_new, i_newarr, i_ald, i_lald, i_aald, i_alen, i_ast, i_zast, i_last, i_aast, i_aastL, i_cast, i_gste, i_ldcM, i_getC, i_acopy, i_dead, i_objinit, i_callV, i_callS, i_callI, i_iret, i_zret, i_aret, i_vret, i_throw, popN, pushO, lget, lset, isRf_ref, isRf_null, isRf_rf, isC1_int, isC1_ref, isC1_null, isC1_rf, true_and, and_true, List.length_cons, List.length_nil, Nat.reduceAdd, Nat.reduceLeDiff, hK_sI, hN_sI, hR_sI, hI_sI, hK_sR, hN_sR, hR_sR, hI_sR, kC_2, kC_3, kC_4, kC_5, kC_6, kC_7, kC_8, kC_9, kC_10, kC_11, kC_20, kC_21, kC_22, kC_23, i2_0, i1_1, i0_1, i1_0, bI_and, bI_0, Decidable.not_not, not_false_eq_true, not_true_eq_false, forall_const, false_implies, true_implies, hK_copy, hN_copy, hI_copy, hC_sI, hC_sR, hC_new, hK_new, hN_new, hI_new, hR_new, rf_some, rf_none, ex_ref, ex_null, ex_rf, nref_null, rf_null, Nat.reduceEqDiff, reduceCtorEq, false_and, and_false, if_false, if_true, ne_eq, kO_150, kO_151, kO_152, kO_170, kO_180, kO_190, Value.ref.injEq, exists_eq_left', false_or, hk]
      (repeat' (first | (apply And.intro) | (intro _)))
      all_goals first | exact hp | (rw [bI_t (by clear hp; grind)] at hp; exact hp) | (rw [bI_f (by clear hp; grind)] at hp; exact hp) | (simp_all; done)
    · exact hT.elim
  · unfold T_X1_endY at hT
    split at hT
    · exact ⟨Nat.le_of_ble_eq_true rfl, by simp [isC1_int, isC1_ref, isC1_null, isC1_rf]⟩
    · exact hT.elim
def wp_X1_middleX_0 (P : Option Value → hp_T → Prop) (X : String → hp_T → Prop) : KT :=
  i_aload 0 (i_getI 3 192 (i_aload 0 (i_getI 3 194 (i_pushI 2 (i_idiv (i_iadd (i_iret P)))))))
set_option maxRecDepth 20000 in
theorem go_X1_middleX_0 {z : zT} {P : Option Value → hp_T → Prop} {X : String → hp_T → Prop} (hz : Cx z cX1_middleX 1 "Panelry$Box" "middleX" 0 0 0) (hr : Rt z (some .int) P X 0 0) : Go z 0 0 0 (wp_X1_middleX_0 P X) := 
  s_aload_n hz rfl dX1_middleX_0 (fg_RX1_9 hz dX1_middleX_1 (s_aload_n hz rfl dX1_middleX_4 (fg_RX1_18 hz dX1_middleX_5 (s_iconst hz rfl dX1_middleX_8 (s_idiv hz dX1_middleX_9 (s_iadd hz dX1_middleX_10
    (s_iret hz hr rfl rfl dX1_middleX_11)))))))

def T_X1_middleX : PT := fun av h P X => match av with
  | [.ref a] => (hK h a = 3) ∧ (P (some (.int (hI h 192 a 0 + hI h 194 a 0 / 2))) h)
  | _ => False
set_option maxRecDepth 20000 in
theorem ct_X1_middleX : CT yX1_middleX cX1_middleX 1 (some .int) 0 0 0 T_X1_middleX := by
  refine ct_ofE (by decide) (fun z av h P X hT hz hr => ?_) (fun av h P X hT => ?_)
  · unfold T_X1_middleX at hT
    split at hT
    · refine ⟨_, go_X1_middleX_0 hz hr, ?_⟩
      rename_i a
      show wp_X1_middleX_0 P X [some (.ref a)] [] h
      obtain ⟨hk, hp⟩ := hT
      simp only [wp_X1_middleX_0, i_mmax, i_mmin, i_pushI, i_pushN, i_pushL, i_iload, i_aload, i_istore, i_astore, i_iinc, i_iadd, i_isub, i_imul, i_iand, i_ior, i_ixor, i_ishl, i_ishr, i_iushr, i_idiv, i_i2l, i_lcmp, i_dup, i_pop, i_dupx1, i_dup2, i_ifeq, i_ifne, i_iflt, i_ifge, i_ifgt, i_ifle, i_iceq, i_icne, i_iclt, i_icge, i_icgt, i_icle, i_ifnull, i_aceq, i_getI, i_getR, i_putI, i_putZ, i_putR, i_new, i_newarr, i_ald, i_lald, i_aald, i_alen, i_ast, i_zast, i_last, i_aast, i_aastL, i_cast, i_gste, i_ldcM, i_getC, i_acopy, i_dead, i_objinit, i_callV, i_callS, i_callI, i_iret, i_zret, i_aret, i_vret, i_throw, popN, pushO, lget, lset, isRf_ref, isRf_null, isRf_rf, isC1_int, isC1_ref, isC1_null, isC1_rf, true_and, and_true, List.length_cons, List.length_nil, Nat.reduceAdd, Nat.reduceLeDiff, hK_sI, hN_sI, hR_sI, hI_sI, hK_sR, hN_sR, hR_sR, hI_sR, kC_2, kC_3, kC_4, kC_5, kC_6, kC_7, kC_8, kC_9, kC_10, kC_11, kC_20, kC_21, kC_22, kC_23, i2_0, i1_1, i0_1, i1_0, bI_and, bI_0, Decidable.not_not, not_false_eq_true, not_true_eq_false, forall_const, false_implies, true_implies, hK_copy, hN_copy, hI_copy, hC_sI, hC_sR, hC_new, hK_new, hN_new, hI_new, hR_new, rf_some, rf_none, ex_ref, ex_null, ex_rf, nref_null, rf_null, Nat.reduceEqDiff, reduceCtorEq, false_and, and_false, if_false, if_true, ne_eq, kO_150, kO_151, kO_152, kO_170, kO_180, kO_190, Value.ref.injEq, exists_eq_left', false_or, hk]
      (repeat' (first | (apply And.intro) | (intro _)))
      all_goals first | exact hp | (rw [bI_t (by clear hp; grind)] at hp; exact hp) | (rw [bI_f (by clear hp; grind)] at hp; exact hp) | (simp_all; done)
    · exact hT.elim
  · unfold T_X1_middleX at hT
    split at hT
    · exact ⟨Nat.le_of_ble_eq_true rfl, by simp [isC1_int, isC1_ref, isC1_null, isC1_rf]⟩
    · exact hT.elim
def wp_X1_middleY_0 (P : Option Value → hp_T → Prop) (X : String → hp_T → Prop) : KT :=
  i_aload 0 (i_getI 3 193 (i_aload 0 (i_getI 3 195 (i_pushI 2 (i_idiv (i_iadd (i_iret P)))))))
set_option maxRecDepth 20000 in
theorem go_X1_middleY_0 {z : zT} {P : Option Value → hp_T → Prop} {X : String → hp_T → Prop} (hz : Cx z cX1_middleY 1 "Panelry$Box" "middleY" 0 0 0) (hr : Rt z (some .int) P X 0 0) : Go z 0 0 0 (wp_X1_middleY_0 P X) := 
  s_aload_n hz rfl dX1_middleY_0 (fg_RX1_15 hz dX1_middleY_1 (s_aload_n hz rfl dX1_middleY_4 (fg_RX1_21 hz dX1_middleY_5 (s_iconst hz rfl dX1_middleY_8 (s_idiv hz dX1_middleY_9 (s_iadd hz dX1_middleY_10
    (s_iret hz hr rfl rfl dX1_middleY_11)))))))

def T_X1_middleY : PT := fun av h P X => match av with
  | [.ref a] => (hK h a = 3) ∧ (P (some (.int (hI h 193 a 0 + hI h 195 a 0 / 2))) h)
  | _ => False
set_option maxRecDepth 20000 in
theorem ct_X1_middleY : CT yX1_middleY cX1_middleY 1 (some .int) 0 0 0 T_X1_middleY := by
  refine ct_ofE (by decide) (fun z av h P X hT hz hr => ?_) (fun av h P X hT => ?_)
  · unfold T_X1_middleY at hT
    split at hT
    · refine ⟨_, go_X1_middleY_0 hz hr, ?_⟩
      rename_i a
      show wp_X1_middleY_0 P X [some (.ref a)] [] h
      obtain ⟨hk, hp⟩ := hT
      simp only [wp_X1_middleY_0, i_mmax, i_mmin, i_pushI, i_pushN, i_pushL, i_iload, i_aload, i_istore, i_astore, i_iinc, i_iadd, i_isub, i_imul, i_iand, i_ior, i_ixor, i_ishl, i_ishr, i_iushr, i_idiv, i_i2l, i_lcmp, i_dup, i_pop, i_dupx1, i_dup2, i_ifeq, i_ifne, i_iflt, i_ifge, i_ifgt, i_ifle, i_iceq, i_icne, i_iclt, i_icge, i_icgt, i_icle, i_ifnull, i_aceq, i_getI, i_getR, i_putI, i_putZ, i_putR, i_new, i_newarr, i_ald, i_lald, i_aald, i_alen, i_ast, i_zast, i_last, i_aast, i_aastL, i_cast, i_gste, i_ldcM, i_getC, i_acopy, i_dead, i_objinit, i_callV, i_callS, i_callI, i_iret, i_zret, i_aret, i_vret, i_throw, popN, pushO, lget, lset, isRf_ref, isRf_null, isRf_rf, isC1_int, isC1_ref, isC1_null, isC1_rf, true_and, and_true, List.length_cons, List.length_nil, Nat.reduceAdd, Nat.reduceLeDiff, hK_sI, hN_sI, hR_sI, hI_sI, hK_sR, hN_sR, hR_sR, hI_sR, kC_2, kC_3, kC_4, kC_5, kC_6, kC_7, kC_8, kC_9, kC_10, kC_11, kC_20, kC_21, kC_22, kC_23, i2_0, i1_1, i0_1, i1_0, bI_and, bI_0, Decidable.not_not, not_false_eq_true, not_true_eq_false, forall_const, false_implies, true_implies, hK_copy, hN_copy, hI_copy, hC_sI, hC_sR, hC_new, hK_new, hN_new, hI_new, hR_new, rf_some, rf_none, ex_ref, ex_null, ex_rf, nref_null, rf_null, Nat.reduceEqDiff, reduceCtorEq, false_and, and_false, if_false, if_true, ne_eq, kO_150, kO_151, kO_152, kO_170, kO_180, kO_190, Value.ref.injEq, exists_eq_left', false_or, hk]
      (repeat' (first | (apply And.intro) | (intro _)))
      all_goals first | exact hp | (rw [bI_t (by clear hp; grind)] at hp; exact hp) | (rw [bI_f (by clear hp; grind)] at hp; exact hp) | (simp_all; done)
    · exact hT.elim
  · unfold T_X1_middleY at hT
    split at hT
    · exact ⟨Nat.le_of_ble_eq_true rfl, by simp [isC1_int, isC1_ref, isC1_null, isC1_rf]⟩
    · exact hT.elim
def wp_X1_beginFor_15 (P : Option Value → hp_T → Prop) (X : String → hp_T → Prop) : KT :=
  i_iret P
set_option maxRecDepth 20000 in
theorem go_X1_beginFor_15 {z : zT} {P : Option Value → hp_T → Prop} {X : String → hp_T → Prop} (hz : Cx z cX1_beginFor 2 "Panelry$Box" "beginFor" 0 0 0) (hr : Rt z (some .int) P X 0 0) : Go z 0 0 15 (wp_X1_beginFor_15 P X) := 
  s_iret hz hr rfl rfl dX1_beginFor_15
def wp_X1_beginFor_0 (P : Option Value → hp_T → Prop) (X : String → hp_T → Prop) : KT :=
  i_iload 1 (i_ifeq (i_aload 0 (i_getI 3 192 (wp_X1_beginFor_15 P X))) (i_aload 0 (i_getI 3 193 (wp_X1_beginFor_15 P X))))
set_option maxRecDepth 20000 in
theorem go_X1_beginFor_0 {z : zT} {P : Option Value → hp_T → Prop} {X : String → hp_T → Prop} (hz : Cx z cX1_beginFor 2 "Panelry$Box" "beginFor" 0 0 0) (hr : Rt z (some .int) P X 0 0) : Go z 0 0 0 (wp_X1_beginFor_0 P X) := 
  s_iload_n hz rfl dX1_beginFor_0 (s_ifeq hz (tgt := 11) rfl dX1_beginFor_1 (s_aload_n hz rfl dX1_beginFor_11 (fg_RX1_9 hz dX1_beginFor_12 (go_X1_beginFor_15 hz hr))) (s_aload_n hz rfl dX1_beginFor_4
    (fg_RX1_15 hz dX1_beginFor_5 (s_goto hz (tgt := 15) rfl dX1_beginFor_8 (go_X1_beginFor_15 hz hr)))))

def T_X1_beginFor : PT := fun av h P X => match av with
  | [.ref a, .int b] => (hK h a = 3) ∧ (P (some (.int (if b = 0 then hI h 192 a 0 else hI h 193 a 0))) h)
  | _ => False
set_option maxRecDepth 20000 in
theorem ct_X1_beginFor : CT yX1_beginFor cX1_beginFor 2 (some .int) 0 0 0 T_X1_beginFor := by
  refine ct_ofE (by decide) (fun z av h P X hT hz hr => ?_) (fun av h P X hT => ?_)
  · unfold T_X1_beginFor at hT
    split at hT
    · refine ⟨_, go_X1_beginFor_0 hz hr, ?_⟩
      rename_i a b
      show wp_X1_beginFor_0 P X [some (.ref a), some (.int b)] [] h
      obtain ⟨hk, hp⟩ := hT
      simp only [wp_X1_beginFor_15, wp_X1_beginFor_0, i_mmax, i_mmin, i_pushI, i_pushN, i_pushL, i_iload, i_aload, i_istore, i_astore, i_iinc, i_iadd, i_isub, i_imul, i_iand, i_ior, i_ixor, i_ishl, i_ishr, i_iushr, i_idiv, i_i2l, i_lcmp, i_dup, i_pop, i_dupx1, i_dup2, i_ifeq, i_ifne, i_iflt, i_ifge, i_ifgt, i_ifle, i_iceq, i_icne, i_iclt, i_icge, i_icgt, i_icle, i_ifnull, i_aceq, i_getI, i_getR, i_putI, i_putZ, i_putR, i_new, i_newarr, i_ald, i_lald, i_aald, i_alen, i_ast, i_zast, i_last, i_aast, i_aastL, i_cast, i_gste, i_ldcM, i_getC, i_acopy, i_dead, i_objinit, i_callV, i_callS, i_callI, i_iret, i_zret, i_aret, i_vret, i_throw, popN, pushO, lget, lset, isRf_ref, isRf_null, isRf_rf, isC1_int, isC1_ref, isC1_null, isC1_rf, true_and, and_true, List.length_cons, List.length_nil, Nat.reduceAdd, Nat.reduceLeDiff, hK_sI, hN_sI, hR_sI, hI_sI, hK_sR, hN_sR, hR_sR, hI_sR, kC_2, kC_3, kC_4, kC_5, kC_6, kC_7, kC_8, kC_9, kC_10, kC_11, kC_20, kC_21, kC_22, kC_23, i2_0, i1_1, i0_1, i1_0, bI_and, bI_0, Decidable.not_not, not_false_eq_true, not_true_eq_false, forall_const, false_implies, true_implies, hK_copy, hN_copy, hI_copy, hC_sI, hC_sR, hC_new, hK_new, hN_new, hI_new, hR_new, rf_some, rf_none, ex_ref, ex_null, ex_rf, nref_null, rf_null, Nat.reduceEqDiff, reduceCtorEq, false_and, and_false, if_false, if_true, ne_eq, kO_150, kO_151, kO_152, kO_170, kO_180, kO_190, Value.ref.injEq, exists_eq_left', false_or, hk]
      (repeat' (first | (apply And.intro) | (intro _)))
      all_goals (simp only [*, if_true, if_false, not_false_eq_true] at hp; exact hp)
    · exact hT.elim
  · unfold T_X1_beginFor at hT
    split at hT
    · exact ⟨Nat.le_of_ble_eq_true rfl, by simp [isC1_int, isC1_ref, isC1_null, isC1_rf]⟩
    · exact hT.elim
def wp_X1_endFor_25 (P : Option Value → hp_T → Prop) (X : String → hp_T → Prop) : KT :=
  i_iret P
set_option maxRecDepth 20000 in
theorem go_X1_endFor_25 {z : zT} {P : Option Value → hp_T → Prop} {X : String → hp_T → Prop} (hz : Cx z cX1_endFor 2 "Panelry$Box" "endFor" 0 0 0) (hr : Rt z (some .int) P X 0 0) : Go z 0 0 25 (wp_X1_endFor_25 P X) := 
  s_iret hz hr rfl rfl dX1_endFor_25
def wp_X1_endFor_0 (P : Option Value → hp_T → Prop) (X : String → hp_T → Prop) : KT :=
  i_iload 1 (i_ifeq (i_aload 0 (i_getI 3 192 (i_aload 0 (i_getI 3 194 (i_iadd (wp_X1_endFor_25 P X)))))) (i_aload 0 (i_getI 3 193 (i_aload 0 (i_getI 3 195 (i_iadd (wp_X1_endFor_25 P X)))))))
set_option maxRecDepth 20000 in
theorem go_X1_endFor_0 {z : zT} {P : Option Value → hp_T → Prop} {X : String → hp_T → Prop} (hz : Cx z cX1_endFor 2 "Panelry$Box" "endFor" 0 0 0) (hr : Rt z (some .int) P X 0 0) : Go z 0 0 0 (wp_X1_endFor_0 P X) := 
  s_iload_n hz rfl dX1_endFor_0 (s_ifeq hz (tgt := 16) rfl dX1_endFor_1 (s_aload_n hz rfl dX1_endFor_16 (fg_RX1_9 hz dX1_endFor_17 (s_aload_n hz rfl dX1_endFor_20 (fg_RX1_18 hz dX1_endFor_21
    (s_iadd hz dX1_endFor_24 (go_X1_endFor_25 hz hr)))))) (s_aload_n hz rfl dX1_endFor_4 (fg_RX1_15 hz dX1_endFor_5 (s_aload_n hz rfl dX1_endFor_8 (fg_RX1_21 hz dX1_endFor_9 (s_iadd hz dX1_endFor_12
    (s_goto hz (tgt := 25) rfl dX1_endFor_13 (go_X1_endFor_25 hz hr))))))))

def T_X1_endFor : PT := fun av h P X => match av with
  | [.ref a, .int b] => (hK h a = 3) ∧ (P (some (.int (if b = 0 then hI h 192 a 0 + hI h 194 a 0 else hI h 193 a 0 + hI h 195 a 0))) h)
  | _ => False
set_option maxRecDepth 20000 in
theorem ct_X1_endFor : CT yX1_endFor cX1_endFor 2 (some .int) 0 0 0 T_X1_endFor := by
  refine ct_ofE (by decide) (fun z av h P X hT hz hr => ?_) (fun av h P X hT => ?_)
  · unfold T_X1_endFor at hT
    split at hT
    · refine ⟨_, go_X1_endFor_0 hz hr, ?_⟩
      rename_i a b
      show wp_X1_endFor_0 P X [some (.ref a), some (.int b)] [] h
      obtain ⟨hk, hp⟩ := hT
      simp only [wp_X1_endFor_25, wp_X1_endFor_0, i_mmax, i_mmin, i_pushI, i_pushN, i_pushL, i_iload, i_aload, i_istore, i_astore, i_iinc, i_iadd, i_isub, i_imul, i_iand, i_ior, i_ixor, i_ishl, i_ishr, i_iushr, i_idiv, i_i2l, i_lcmp, i_dup, i_pop, i_dupx1, i_dup2, i_ifeq, i_ifne, i_iflt, i_ifge, i_ifgt, i_ifle, i_iceq, i_icne, i_iclt, i_icge, i_icgt, i_icle, i_ifnull, i_aceq, i_getI, i_getR, i_putI, i_putZ, i_putR, i_new, i_newarr, i_ald, i_lald, i_aald, i_alen, i_ast, i_zast, i_last, i_aast, i_aastL, i_cast, i_gste, i_ldcM, i_getC, i_acopy, i_dead, i_objinit, i_callV, i_callS, i_callI, i_iret, i_zret, i_aret, i_vret, i_throw, popN, pushO, lget, lset, isRf_ref, isRf_null, isRf_rf, isC1_int, isC1_ref, isC1_null, isC1_rf, true_and, and_true, List.length_cons, List.length_nil, Nat.reduceAdd, Nat.reduceLeDiff, hK_sI, hN_sI, hR_sI, hI_sI, hK_sR, hN_sR, hR_sR, hI_sR, kC_2, kC_3, kC_4, kC_5, kC_6, kC_7, kC_8, kC_9, kC_10, kC_11, kC_20, kC_21, kC_22, kC_23, i2_0, i1_1, i0_1, i1_0, bI_and, bI_0, Decidable.not_not, not_false_eq_true, not_true_eq_false, forall_const, false_implies, true_implies, hK_copy, hN_copy, hI_copy, hC_sI, hC_sR, hC_new, hK_new, hN_new, hI_new, hR_new, rf_some, rf_none, ex_ref, ex_null, ex_rf, nref_null, rf_null, Nat.reduceEqDiff, reduceCtorEq, false_and, and_false, if_false, if_true, ne_eq, kO_150, kO_151, kO_152, kO_170, kO_180, kO_190, Value.ref.injEq, exists_eq_left', false_or, hk]
      (repeat' (first | (apply And.intro) | (intro _)))
      all_goals (simp only [*, if_true, if_false, not_false_eq_true] at hp; exact hp)
    · exact hT.elim
  · unfold T_X1_endFor at hT
    split at hT
    · exact ⟨Nat.le_of_ble_eq_true rfl, by simp [isC1_int, isC1_ref, isC1_null, isC1_rf]⟩
    · exact hT.elim
def wp_X1_isOnPage_37 (P : Option Value → hp_T → Prop) (X : String → hp_T → Prop) : KT :=
  i_zret P
set_option maxRecDepth 20000 in
theorem go_X1_isOnPage_37 {z : zT} {P : Option Value → hp_T → Prop} {X : String → hp_T → Prop} (hz : Cx z cX1_isOnPage 1 "Panelry$Box" "isOnPage" 1 0 0) (hr : Rt z (some .boolean) P X 0 0) : Go z 0 0 37 (wp_X1_isOnPage_37 P X) := 
  s_zret hz hr rfl rfl dX1_isOnPage_37
def wp_X1_isOnPage_36 (P : Option Value → hp_T → Prop) (X : String → hp_T → Prop) : KT :=
  i_pushI 0 (wp_X1_isOnPage_37 P X)
set_option maxRecDepth 20000 in
theorem go_X1_isOnPage_36 {z : zT} {P : Option Value → hp_T → Prop} {X : String → hp_T → Prop} (hz : Cx z cX1_isOnPage 1 "Panelry$Box" "isOnPage" 1 0 0) (hr : Rt z (some .boolean) P X 0 0) : Go z 0 0 36 (wp_X1_isOnPage_36 P X) := 
  s_iconst hz rfl dX1_isOnPage_36 (go_X1_isOnPage_37 hz hr)
def wp_X1_isOnPage_0 (P : Option Value → hp_T → Prop) (X : String → hp_T → Prop) : KT :=
  i_aload 0 (i_getI 3 192 (i_iflt (wp_X1_isOnPage_36 P X) (i_aload 0 (i_getI 3 193 (i_iflt (wp_X1_isOnPage_36 P X) (i_aload 0 (i_callV 0 3 T_X1_endX noX (i_pushI 60 (i_icgt (wp_X1_isOnPage_36 P X)
    (i_aload 0 (i_callV 0 3 T_X1_endY noX (i_pushI 80 (i_icgt (wp_X1_isOnPage_36 P X) (i_pushI 1 (wp_X1_isOnPage_37 P X)))))))))))))))
set_option maxRecDepth 20000 in
theorem go_X1_isOnPage_0 {z : zT} {P : Option Value → hp_T → Prop} {X : String → hp_T → Prop} (hz : Cx z cX1_isOnPage 1 "Panelry$Box" "isOnPage" 1 0 0) (hr : Rt z (some .boolean) P X 0 0) : Go z 0 0 0 (wp_X1_isOnPage_0 P X) := 
  s_aload_n hz rfl dX1_isOnPage_0 (fg_RX1_9 hz dX1_isOnPage_1 (s_iflt hz (tgt := 36) rfl dX1_isOnPage_4 (go_X1_isOnPage_36 hz hr) (s_aload_n hz rfl dX1_isOnPage_7 (fg_RX1_15 hz dX1_isOnPage_8
    (s_iflt hz (tgt := 36) rfl dX1_isOnPage_11 (go_X1_isOnPage_36 hz hr) (s_aload_n hz rfl dX1_isOnPage_14 (s_callV hz ct_X1_endX ⟨w474, w477, w47, by decide, by decide, by decide +kernel⟩ w475 w476 cls2 rfl rfl rfl rfl rfl rfl out_no dX1_isOnPage_15
    (s_bipush hz rfl dX1_isOnPage_18 (s_icgt hz (tgt := 36) rfl dX1_isOnPage_20 (go_X1_isOnPage_36 hz hr) (s_aload_n hz rfl dX1_isOnPage_23 (s_callV hz ct_X1_endY ⟨w478, w481, w47, by decide, by decide, by decide +kernel⟩ w479 w480 cls2 rfl rfl rfl rfl rfl rfl out_no dX1_isOnPage_24
    (s_bipush hz rfl dX1_isOnPage_27 (s_icgt hz (tgt := 36) rfl dX1_isOnPage_29 (go_X1_isOnPage_36 hz hr) (s_iconst hz rfl dX1_isOnPage_32 (s_goto hz (tgt := 37) rfl dX1_isOnPage_33 (go_X1_isOnPage_37 hz hr))))))))))))))))

def T_X1_isOnPage : PT := fun av h P X => match av with
  | [.ref a] => (hK h a = 3) ∧ (P (some (.int (bI (0 ≤ hI h 192 a 0 ∧ 0 ≤ hI h 193 a 0 ∧ hI h 192 a 0 + hI h 194 a 0 ≤ 60 ∧ hI h 193 a 0 + hI h 195 a 0 ≤ 80)))) h)
  | _ => False
set_option maxRecDepth 20000 in
theorem ct_X1_isOnPage : CT yX1_isOnPage cX1_isOnPage 1 (some .boolean) 1 0 0 T_X1_isOnPage := by
  refine ct_ofE (by decide) (fun z av h P X hT hz hr => ?_) (fun av h P X hT => ?_)
  · unfold T_X1_isOnPage at hT
    split at hT
    · refine ⟨_, go_X1_isOnPage_0 hz hr, ?_⟩
      rename_i a
      show wp_X1_isOnPage_0 P X [some (.ref a)] [] h
      obtain ⟨hk, hp⟩ := hT
      simp only [wp_X1_isOnPage_37, wp_X1_isOnPage_36, wp_X1_isOnPage_0, T_X1_endX, T_X1_endY, i_mmax, i_mmin, i_pushI, i_pushN, i_pushL, i_iload, i_aload, i_istore, i_astore, i_iinc, i_iadd, i_isub, i_imul, i_iand, i_ior, i_ixor, i_ishl, i_ishr, i_iushr, i_idiv, i_i2l, i_lcmp, i_dup, i_pop, i_dupx1, i_dup2, i_ifeq, i_ifne, i_iflt, i_ifge, i_ifgt, i_ifle, i_iceq, i_icne, i_iclt, i_icge, i_icgt, i_icle, i_ifnull, i_aceq, i_getI, i_getR, i_putI, i_putZ, i_putR, i_new, i_newarr, i_ald, i_lald, i_aald, i_alen, i_ast, i_zast, i_last, i_aast, i_aastL, i_cast, i_gste, i_ldcM, i_getC, i_acopy, i_dead, i_objinit, i_callV, i_callS, i_callI, i_iret, i_zret, i_aret, i_vret, i_throw, popN, pushO, lget, lset, isRf_ref, isRf_null, isRf_rf, isC1_int, isC1_ref, isC1_null, isC1_rf, true_and, and_true, List.length_cons, List.length_nil, Nat.reduceAdd, Nat.reduceLeDiff, hK_sI, hN_sI, hR_sI, hI_sI, hK_sR, hN_sR, hR_sR, hI_sR, kC_2, kC_3, kC_4, kC_5, kC_6, kC_7, kC_8, kC_9, kC_10, kC_11, kC_20, kC_21, kC_22, kC_23, i2_0, i1_1, i0_1, i1_0, bI_and, bI_0, Decidable.not_not, not_false_eq_true, not_true_eq_false, forall_const, false_implies, true_implies, hK_copy, hN_copy, hI_copy, hC_sI, hC_sR, hC_new, hK_new, hN_new, hI_new, hR_new, rf_some, rf_none, ex_ref, ex_null, ex_rf, nref_null, rf_null, Nat.reduceEqDiff, reduceCtorEq, false_and, and_false, if_false, if_true, ne_eq, kO_150, kO_151, kO_152, kO_170, kO_180, kO_190, Value.ref.injEq, exists_eq_left', false_or, hk]
      (repeat' (first | (apply And.intro) | (intro _)))
      all_goals first | exact hp | (rw [bI_t (by clear hp; grind)] at hp; exact hp) | (rw [bI_f (by clear hp; grind)] at hp; exact hp) | (simp_all; done)
    · exact hT.elim
  · unfold T_X1_isOnPage at hT
    split at hT
    · exact ⟨Nat.le_of_ble_eq_true rfl, by simp [isC1_int, isC1_ref, isC1_null, isC1_rf]⟩
    · exact hT.elim
abbrev bHo (h : hp_T) (a b : Nat) : Prop := hI h 192 a 0 ≤ hI h 192 b 0 ∧ hI h 192 b 0 ≤ hI h 192 a 0 + hI h 194 a 0 - hI h 194 b 0 ∧ hI h 193 a 0 ≤ hI h 193 b 0 ∧ hI h 193 b 0 ≤ hI h 193 a 0 + hI h 195 a 0 - hI h 195 b 0
abbrev bSh (h : hp_T) (a b : Nat) : Prop := hI h 193 a 0 < hI h 193 b 0 + hI h 195 b 0 ∧ hI h 193 b 0 < hI h 193 a 0 + hI h 195 a 0
abbrev bOv (h : hp_T) (a b : Nat) : Prop := hI h 192 a 0 < hI h 192 b 0 + hI h 194 b 0 ∧ hI h 192 b 0 < hI h 192 a 0 + hI h 194 a 0 ∧ bSh h a b
abbrev bAs (h : hp_T) (a b : Nat) (l : Int32) : Prop := if l = 0 then hI h 192 a 0 + hI h 194 a 0 ≤ hI h 192 b 0 else hI h 192 b 0 + hI h 194 b 0 ≤ hI h 192 a 0
abbrev bAh (h : hp_T) (a b : Nat) (l : Int32) : Prop := hI h 193 a 0 + hI h 195 a 0 ≤ hI h 193 b 0 ∨ (bSh h a b ∧ bAs h a b l)
def wp_X1_holds_59 (P : Option Value → hp_T → Prop) (X : String → hp_T → Prop) : KT :=
  i_zret P
set_option maxRecDepth 20000 in
theorem go_X1_holds_59 {z : zT} {P : Option Value → hp_T → Prop} {X : String → hp_T → Prop} (hz : Cx z cX1_holds 2 "Panelry$Box" "holds" 1 0 0) (hr : Rt z (some .boolean) P X 0 0) : Go z 0 0 59 (wp_X1_holds_59 P X) := 
  s_zret hz hr rfl rfl dX1_holds_59
def wp_X1_holds_58 (P : Option Value → hp_T → Prop) (X : String → hp_T → Prop) : KT :=
  i_pushI 0 (wp_X1_holds_59 P X)
set_option maxRecDepth 20000 in
theorem go_X1_holds_58 {z : zT} {P : Option Value → hp_T → Prop} {X : String → hp_T → Prop} (hz : Cx z cX1_holds 2 "Panelry$Box" "holds" 1 0 0) (hr : Rt z (some .boolean) P X 0 0) : Go z 0 0 58 (wp_X1_holds_58 P X) := 
  s_iconst hz rfl dX1_holds_58 (go_X1_holds_59 hz hr)
def wp_X1_holds_0 (P : Option Value → hp_T → Prop) (X : String → hp_T → Prop) : KT :=
  i_aload 1 (i_getI 3 192 (i_aload 0 (i_getI 3 192 (i_iclt (wp_X1_holds_58 P X) (i_aload 1 (i_getI 3 192 (i_aload 0 (i_callV 0 3 T_X1_endX noX (i_aload 1 (i_getI 3 194 (i_isub (i_icgt
    (wp_X1_holds_58 P X) (i_aload 1 (i_getI 3 193 (i_aload 0 (i_getI 3 193 (i_iclt (wp_X1_holds_58 P X) (i_aload 1 (i_getI 3 193 (i_aload 0 (i_callV 0 3 T_X1_endY noX (i_aload 1 (i_getI 3 195
    (i_isub (i_icgt (wp_X1_holds_58 P X) (i_pushI 1 (wp_X1_holds_59 P X)))))))))))))))))))))))))))
set_option maxRecDepth 20000 in
theorem go_X1_holds_0 {z : zT} {P : Option Value → hp_T → Prop} {X : String → hp_T → Prop} (hz : Cx z cX1_holds 2 "Panelry$Box" "holds" 1 0 0) (hr : Rt z (some .boolean) P X 0 0) : Go z 0 0 0 (wp_X1_holds_0 P X) := 
  s_aload_n hz rfl dX1_holds_0 (fg_RX1_9 hz dX1_holds_1 (s_aload_n hz rfl dX1_holds_4 (fg_RX1_9 hz dX1_holds_5 (s_iclt hz (tgt := 58) rfl dX1_holds_8 (go_X1_holds_58 hz hr) (s_aload_n hz rfl dX1_holds_11
    (fg_RX1_9 hz dX1_holds_12 (s_aload_n hz rfl dX1_holds_15 (s_callV hz ct_X1_endX ⟨w474, w477, w47, by decide, by decide, by decide +kernel⟩ w475 w476 cls2 rfl rfl rfl rfl rfl rfl out_no dX1_holds_16
    (s_aload_n hz rfl dX1_holds_19 (fg_RX1_18 hz dX1_holds_20 (s_isub hz dX1_holds_23 (s_icgt hz (tgt := 58) rfl dX1_holds_24 (go_X1_holds_58 hz hr) (s_aload_n hz rfl dX1_holds_27 (fg_RX1_15 hz dX1_holds_28
    (s_aload_n hz rfl dX1_holds_31 (fg_RX1_15 hz dX1_holds_32 (s_iclt hz (tgt := 58) rfl dX1_holds_35 (go_X1_holds_58 hz hr) (s_aload_n hz rfl dX1_holds_38 (fg_RX1_15 hz dX1_holds_39 (s_aload_n hz rfl dX1_holds_42
    (s_callV hz ct_X1_endY ⟨w478, w481, w47, by decide, by decide, by decide +kernel⟩ w479 w480 cls2 rfl rfl rfl rfl rfl rfl out_no dX1_holds_43 (s_aload_n hz rfl dX1_holds_46 (fg_RX1_21 hz dX1_holds_47
    (s_isub hz dX1_holds_50 (s_icgt hz (tgt := 58) rfl dX1_holds_51 (go_X1_holds_58 hz hr) (s_iconst hz rfl dX1_holds_54 (s_goto hz (tgt := 59) rfl dX1_holds_55 (go_X1_holds_59 hz hr))))))))))))))))))))))))))))

def T_X1_holds : PT := fun av h P X => match av with
  | [.ref a, .ref b] => (hK h a = 3 ∧ hK h b = 3) ∧ (P (some (.int (bI (bHo h a b)))) h)
  | _ => False
set_option maxRecDepth 20000 in
theorem ct_X1_holds : CT yX1_holds cX1_holds 2 (some .boolean) 1 0 0 T_X1_holds := by
  refine ct_ofE (by decide) (fun z av h P X hT hz hr => ?_) (fun av h P X hT => ?_)
  · unfold T_X1_holds at hT
    split at hT
    · refine ⟨_, go_X1_holds_0 hz hr, ?_⟩
      rename_i a b
      show wp_X1_holds_0 P X [some (.ref a), some (.ref b)] [] h
      obtain ⟨hk, hp⟩ := hT
      simp only [wp_X1_holds_59, wp_X1_holds_58, wp_X1_holds_0, T_X1_endX, T_X1_endY, i_mmax, i_mmin, i_pushI, i_pushN, i_pushL, i_iload, i_aload, i_istore, i_astore, i_iinc, i_iadd, i_isub, i_imul, i_iand, i_ior, i_ixor, i_ishl, i_ishr, i_iushr, i_idiv, i_i2l, i_lcmp, i_dup, i_pop, i_dupx1, i_dup2, i_ifeq, i_ifne, i_iflt, i_ifge, i_ifgt, i_ifle, i_iceq, i_icne, i_iclt, i_icge, i_icgt, i_icle, i_ifnull, i_aceq, i_getI, i_getR, i_putI, i_putZ, i_putR, i_new, i_newarr, i_ald, i_lald, i_aald, i_alen, i_ast, i_zast, i_last, i_aast, i_aastL, i_cast, i_gste, i_ldcM, i_getC, i_acopy, i_dead, i_objinit, i_callV, i_callS, i_callI, i_iret, i_zret, i_aret, i_vret, i_throw, popN, pushO, lget, lset, isRf_ref, isRf_null, isRf_rf, isC1_int, isC1_ref, isC1_null, isC1_rf, true_and, and_true, List.length_cons, List.length_nil, Nat.reduceAdd, Nat.reduceLeDiff, hK_sI, hN_sI, hR_sI, hI_sI, hK_sR, hN_sR, hR_sR, hI_sR, kC_2, kC_3, kC_4, kC_5, kC_6, kC_7, kC_8, kC_9, kC_10, kC_11, kC_20, kC_21, kC_22, kC_23, i2_0, i1_1, i0_1, i1_0, bI_and, bI_0, Decidable.not_not, not_false_eq_true, not_true_eq_false, forall_const, false_implies, true_implies, hK_copy, hN_copy, hI_copy, hC_sI, hC_sR, hC_new, hK_new, hN_new, hI_new, hR_new, rf_some, rf_none, ex_ref, ex_null, ex_rf, nref_null, rf_null, Nat.reduceEqDiff, reduceCtorEq, false_and, and_false, if_false, if_true, ne_eq, kO_150, kO_151, kO_152, kO_170, kO_180, kO_190, Value.ref.injEq, exists_eq_left', false_or, hk]
      (repeat' (first | (apply And.intro) | (intro _)))
      all_goals first | exact hp | (rw [bI_t (by clear hp; grind)] at hp; exact hp) | (rw [bI_f (by clear hp; grind)] at hp; exact hp) | (simp_all; done)
    · exact hT.elim
  · unfold T_X1_holds at hT
    split at hT
    · exact ⟨Nat.le_of_ble_eq_true rfl, by simp [isC1_int, isC1_ref, isC1_null, isC1_rf]⟩
    · exact hT.elim
def wp_X1_sharesHeight_27 (P : Option Value → hp_T → Prop) (X : String → hp_T → Prop) : KT :=
  i_zret P
set_option maxRecDepth 20000 in
theorem go_X1_sharesHeight_27 {z : zT} {P : Option Value → hp_T → Prop} {X : String → hp_T → Prop} (hz : Cx z cX1_sharesHeight 2 "Panelry$Box" "sharesHeight" 1 0 0) (hr : Rt z (some .boolean) P X 0 0) : Go z 0 0 27 (wp_X1_sharesHeight_27 P X) := 
  s_zret hz hr rfl rfl dX1_sharesHeight_27
def wp_X1_sharesHeight_26 (P : Option Value → hp_T → Prop) (X : String → hp_T → Prop) : KT :=
  i_pushI 0 (wp_X1_sharesHeight_27 P X)
set_option maxRecDepth 20000 in
theorem go_X1_sharesHeight_26 {z : zT} {P : Option Value → hp_T → Prop} {X : String → hp_T → Prop} (hz : Cx z cX1_sharesHeight 2 "Panelry$Box" "sharesHeight" 1 0 0) (hr : Rt z (some .boolean) P X 0 0) : Go z 0 0 26 (wp_X1_sharesHeight_26 P X) := 
  s_iconst hz rfl dX1_sharesHeight_26 (go_X1_sharesHeight_27 hz hr)
def wp_X1_sharesHeight_0 (P : Option Value → hp_T → Prop) (X : String → hp_T → Prop) : KT :=
  i_aload 0 (i_getI 3 193 (i_aload 1 (i_callV 0 3 T_X1_endY noX (i_icge (wp_X1_sharesHeight_26 P X) (i_aload 1 (i_getI 3 193 (i_aload 0 (i_callV 0 3 T_X1_endY noX (i_icge (wp_X1_sharesHeight_26 P X)
    (i_pushI 1 (wp_X1_sharesHeight_27 P X)))))))))))
set_option maxRecDepth 20000 in
theorem go_X1_sharesHeight_0 {z : zT} {P : Option Value → hp_T → Prop} {X : String → hp_T → Prop} (hz : Cx z cX1_sharesHeight 2 "Panelry$Box" "sharesHeight" 1 0 0) (hr : Rt z (some .boolean) P X 0 0) : Go z 0 0 0 (wp_X1_sharesHeight_0 P X) := 
  s_aload_n hz rfl dX1_sharesHeight_0 (fg_RX1_15 hz dX1_sharesHeight_1 (s_aload_n hz rfl dX1_sharesHeight_4 (s_callV hz ct_X1_endY ⟨w478, w481, w47, by decide, by decide, by decide +kernel⟩ w479 w480 cls2 rfl rfl rfl rfl rfl rfl out_no dX1_sharesHeight_5
    (s_icge hz (tgt := 26) rfl dX1_sharesHeight_8 (go_X1_sharesHeight_26 hz hr) (s_aload_n hz rfl dX1_sharesHeight_11 (fg_RX1_15 hz dX1_sharesHeight_12 (s_aload_n hz rfl dX1_sharesHeight_15
    (s_callV hz ct_X1_endY ⟨w478, w481, w47, by decide, by decide, by decide +kernel⟩ w479 w480 cls2 rfl rfl rfl rfl rfl rfl out_no dX1_sharesHeight_16 (s_icge hz (tgt := 26) rfl dX1_sharesHeight_19
    (go_X1_sharesHeight_26 hz hr) (s_iconst hz rfl dX1_sharesHeight_22 (s_goto hz (tgt := 27) rfl dX1_sharesHeight_23 (go_X1_sharesHeight_27 hz hr))))))))))))

def T_X1_sharesHeight : PT := fun av h P X => match av with
  | [.ref a, .ref b] => (hK h a = 3 ∧ hK h b = 3) ∧ (P (some (.int (bI (bSh h a b)))) h)
  | _ => False
set_option maxRecDepth 20000 in
theorem ct_X1_sharesHeight : CT yX1_sharesHeight cX1_sharesHeight 2 (some .boolean) 1 0 0 T_X1_sharesHeight := by
  refine ct_ofE (by decide) (fun z av h P X hT hz hr => ?_) (fun av h P X hT => ?_)
  · unfold T_X1_sharesHeight at hT
    split at hT
    · refine ⟨_, go_X1_sharesHeight_0 hz hr, ?_⟩
      rename_i a b
      show wp_X1_sharesHeight_0 P X [some (.ref a), some (.ref b)] [] h
      obtain ⟨hk, hp⟩ := hT
      simp only [wp_X1_sharesHeight_27, wp_X1_sharesHeight_26, wp_X1_sharesHeight_0, T_X1_endY, i_mmax, i_mmin, i_pushI, i_pushN, i_pushL, i_iload, i_aload, i_istore, i_astore, i_iinc, i_iadd, i_isub, i_imul, i_iand, i_ior, i_ixor, i_ishl, i_ishr, i_iushr, i_idiv, i_i2l, i_lcmp, i_dup, i_pop, i_dupx1, i_dup2, i_ifeq, i_ifne, i_iflt, i_ifge, i_ifgt, i_ifle, i_iceq, i_icne, i_iclt, i_icge, i_icgt, i_icle, i_ifnull, i_aceq, i_getI, i_getR, i_putI, i_putZ, i_putR, i_new, i_newarr, i_ald, i_lald, i_aald, i_alen, i_ast, i_zast, i_last, i_aast, i_aastL, i_cast, i_gste, i_ldcM, i_getC, i_acopy, i_dead, i_objinit, i_callV, i_callS, i_callI, i_iret, i_zret, i_aret, i_vret, i_throw, popN, pushO, lget, lset, isRf_ref, isRf_null, isRf_rf, isC1_int, isC1_ref, isC1_null, isC1_rf, true_and, and_true, List.length_cons, List.length_nil, Nat.reduceAdd, Nat.reduceLeDiff, hK_sI, hN_sI, hR_sI, hI_sI, hK_sR, hN_sR, hR_sR, hI_sR, kC_2, kC_3, kC_4, kC_5, kC_6, kC_7, kC_8, kC_9, kC_10, kC_11, kC_20, kC_21, kC_22, kC_23, i2_0, i1_1, i0_1, i1_0, bI_and, bI_0, Decidable.not_not, not_false_eq_true, not_true_eq_false, forall_const, false_implies, true_implies, hK_copy, hN_copy, hI_copy, hC_sI, hC_sR, hC_new, hK_new, hN_new, hI_new, hR_new, rf_some, rf_none, ex_ref, ex_null, ex_rf, nref_null, rf_null, Nat.reduceEqDiff, reduceCtorEq, false_and, and_false, if_false, if_true, ne_eq, kO_150, kO_151, kO_152, kO_170, kO_180, kO_190, Value.ref.injEq, exists_eq_left', false_or, hk]
      (repeat' (first | (apply And.intro) | (intro _)))
      all_goals first | exact hp | (rw [bI_t (by clear hp; grind)] at hp; exact hp) | (rw [bI_f (by clear hp; grind)] at hp; exact hp) | (simp_all; done)
    · exact hT.elim
  · unfold T_X1_sharesHeight at hT
    split at hT
    · exact ⟨Nat.le_of_ble_eq_true rfl, by simp [isC1_int, isC1_ref, isC1_null, isC1_rf]⟩
    · exact hT.elim
def wp_X1_overlaps_35 (P : Option Value → hp_T → Prop) (X : String → hp_T → Prop) : KT :=
  i_zret P
set_option maxRecDepth 20000 in
theorem go_X1_overlaps_35 {z : zT} {P : Option Value → hp_T → Prop} {X : String → hp_T → Prop} (hz : Cx z cX1_overlaps 2 "Panelry$Box" "overlaps" 2 0 0) (hr : Rt z (some .boolean) P X 0 0) : Go z 0 0 35 (wp_X1_overlaps_35 P X) := 
  s_zret hz hr rfl rfl dX1_overlaps_35
def wp_X1_overlaps_34 (P : Option Value → hp_T → Prop) (X : String → hp_T → Prop) : KT :=
  i_pushI 0 (wp_X1_overlaps_35 P X)
set_option maxRecDepth 20000 in
theorem go_X1_overlaps_34 {z : zT} {P : Option Value → hp_T → Prop} {X : String → hp_T → Prop} (hz : Cx z cX1_overlaps 2 "Panelry$Box" "overlaps" 2 0 0) (hr : Rt z (some .boolean) P X 0 0) : Go z 0 0 34 (wp_X1_overlaps_34 P X) := 
  s_iconst hz rfl dX1_overlaps_34 (go_X1_overlaps_35 hz hr)
def wp_X1_overlaps_0 (P : Option Value → hp_T → Prop) (X : String → hp_T → Prop) : KT :=
  i_aload 0 (i_getI 3 192 (i_aload 1 (i_callV 0 3 T_X1_endX noX (i_icge (wp_X1_overlaps_34 P X) (i_aload 1 (i_getI 3 192 (i_aload 0 (i_callV 0 3 T_X1_endX noX (i_icge (wp_X1_overlaps_34 P X)
    (i_aload 0 (i_aload 1 (i_callV 1 3 T_X1_sharesHeight noX (i_ifeq (wp_X1_overlaps_34 P X) (i_pushI 1 (wp_X1_overlaps_35 P X)))))))))))))))
set_option maxRecDepth 20000 in
theorem go_X1_overlaps_0 {z : zT} {P : Option Value → hp_T → Prop} {X : String → hp_T → Prop} (hz : Cx z cX1_overlaps 2 "Panelry$Box" "overlaps" 2 0 0) (hr : Rt z (some .boolean) P X 0 0) : Go z 0 0 0 (wp_X1_overlaps_0 P X) := 
  s_aload_n hz rfl dX1_overlaps_0 (fg_RX1_9 hz dX1_overlaps_1 (s_aload_n hz rfl dX1_overlaps_4 (s_callV hz ct_X1_endX ⟨w474, w477, w47, by decide, by decide, by decide +kernel⟩ w475 w476 cls2 rfl rfl rfl rfl rfl rfl out_no dX1_overlaps_5
    (s_icge hz (tgt := 34) rfl dX1_overlaps_8 (go_X1_overlaps_34 hz hr) (s_aload_n hz rfl dX1_overlaps_11 (fg_RX1_9 hz dX1_overlaps_12 (s_aload_n hz rfl dX1_overlaps_15 (s_callV hz ct_X1_endX ⟨w474, w477, w47, by decide, by decide, by decide +kernel⟩ w475 w476 cls2 rfl rfl rfl rfl rfl rfl out_no dX1_overlaps_16
    (s_icge hz (tgt := 34) rfl dX1_overlaps_19 (go_X1_overlaps_34 hz hr) (s_aload_n hz rfl dX1_overlaps_22 (s_aload_n hz rfl dX1_overlaps_23 (s_callV hz ct_X1_sharesHeight ⟨w496, w499, w47, by decide, by decide, by decide +kernel⟩ w497 w498 cls2 rfl rfl rfl rfl rfl rfl out_no dX1_overlaps_24
    (s_ifeq hz (tgt := 34) rfl dX1_overlaps_27 (go_X1_overlaps_34 hz hr) (s_iconst hz rfl dX1_overlaps_30 (s_goto hz (tgt := 35) rfl dX1_overlaps_31 (go_X1_overlaps_35 hz hr))))))))))))))))

def T_X1_overlaps : PT := fun av h P X => match av with
  | [.ref a, .ref b] => (hK h a = 3 ∧ hK h b = 3) ∧ (P (some (.int (bI (bOv h a b)))) h)
  | _ => False
set_option maxRecDepth 20000 in
theorem ct_X1_overlaps : CT yX1_overlaps cX1_overlaps 2 (some .boolean) 2 0 0 T_X1_overlaps := by
  refine ct_ofE (by decide) (fun z av h P X hT hz hr => ?_) (fun av h P X hT => ?_)
  · unfold T_X1_overlaps at hT
    split at hT
    · refine ⟨_, go_X1_overlaps_0 hz hr, ?_⟩
      rename_i a b
      show wp_X1_overlaps_0 P X [some (.ref a), some (.ref b)] [] h
      obtain ⟨hk, hp⟩ := hT
      simp only [wp_X1_overlaps_35, wp_X1_overlaps_34, wp_X1_overlaps_0, T_X1_endX, T_X1_sharesHeight, i_mmax, i_mmin, i_pushI, i_pushN, i_pushL, i_iload, i_aload, i_istore, i_astore, i_iinc, i_iadd, i_isub, i_imul, i_iand, i_ior, i_ixor, i_ishl, i_ishr, i_iushr, i_idiv, i_i2l, i_lcmp, i_dup, i_pop, i_dupx1, i_dup2, i_ifeq, i_ifne, i_iflt, i_ifge, i_ifgt, i_ifle, i_iceq, i_icne, i_iclt, i_icge, i_icgt, i_icle, i_ifnull, i_aceq, i_getI, i_getR, i_putI, i_putZ, i_putR, i_new, i_newarr, i_ald, i_lald, i_aald, i_alen, i_ast, i_zast, i_last, i_aast, i_aastL, i_cast, i_gste, i_ldcM, i_getC, i_acopy, i_dead, i_objinit, i_callV, i_callS, i_callI, i_iret, i_zret, i_aret, i_vret, i_throw, popN, pushO, lget, lset, isRf_ref, isRf_null, isRf_rf, isC1_int, isC1_ref, isC1_null, isC1_rf, true_and, and_true, List.length_cons, List.length_nil, Nat.reduceAdd, Nat.reduceLeDiff, hK_sI, hN_sI, hR_sI, hI_sI, hK_sR, hN_sR, hR_sR, hI_sR, kC_2, kC_3, kC_4, kC_5, kC_6, kC_7, kC_8, kC_9, kC_10, kC_11, kC_20, kC_21, kC_22, kC_23, i2_0, i1_1, i0_1, i1_0, bI_and, bI_0, Decidable.not_not, not_false_eq_true, not_true_eq_false, forall_const, false_implies, true_implies, hK_copy, hN_copy, hI_copy, hC_sI, hC_sR, hC_new, hK_new, hN_new, hI_new, hR_new, rf_some, rf_none, ex_ref, ex_null, ex_rf, nref_null, rf_null, Nat.reduceEqDiff, reduceCtorEq, false_and, and_false, if_false, if_true, ne_eq, kO_150, kO_151, kO_152, kO_170, kO_180, kO_190, Value.ref.injEq, exists_eq_left', false_or, hk]
      (repeat' (first | (apply And.intro) | (intro _)))
      all_goals first | exact hp | (rw [bI_t (by clear hp; grind)] at hp; exact hp) | (rw [bI_f (by clear hp; grind)] at hp; exact hp) | (simp_all; done)
    · exact hT.elim
  · unfold T_X1_overlaps at hT
    split at hT
    · exact ⟨Nat.le_of_ble_eq_true rfl, by simp [isC1_int, isC1_ref, isC1_null, isC1_rf]⟩
    · exact hT.elim
def wp_X1_hasToComeAheadOf_68 (P : Option Value → hp_T → Prop) (X : String → hp_T → Prop) : KT :=
  i_zret P
set_option maxRecDepth 20000 in
theorem go_X1_hasToComeAheadOf_68 {z : zT} {P : Option Value → hp_T → Prop} {X : String → hp_T → Prop} (hz : Cx z cX1_hasToComeAheadOf 4 "Panelry$Box" "hasToComeAheadOf" 2 0 0) (hr : Rt z (some .boolean) P X 0 0) : Go z 0 0 68 (wp_X1_hasToComeAheadOf_68 P X) := 
  s_zret hz hr rfl rfl dX1_hasToComeAheadOf_68
def wp_X1_hasToComeAheadOf_63 (P : Option Value → hp_T → Prop) (X : String → hp_T → Prop) : KT :=
  i_pushI 1 (wp_X1_hasToComeAheadOf_68 P X)
set_option maxRecDepth 20000 in
theorem go_X1_hasToComeAheadOf_63 {z : zT} {P : Option Value → hp_T → Prop} {X : String → hp_T → Prop} (hz : Cx z cX1_hasToComeAheadOf 4 "Panelry$Box" "hasToComeAheadOf" 2 0 0) (hr : Rt z (some .boolean) P X 0 0) : Go z 0 0 63 (wp_X1_hasToComeAheadOf_63 P X) := 
  s_iconst hz rfl dX1_hasToComeAheadOf_63 (s_goto hz (tgt := 68) rfl dX1_hasToComeAheadOf_64 (go_X1_hasToComeAheadOf_68 hz hr))
def wp_X1_hasToComeAheadOf_67 (P : Option Value → hp_T → Prop) (X : String → hp_T → Prop) : KT :=
  i_pushI 0 (wp_X1_hasToComeAheadOf_68 P X)
set_option maxRecDepth 20000 in
theorem go_X1_hasToComeAheadOf_67 {z : zT} {P : Option Value → hp_T → Prop} {X : String → hp_T → Prop} (hz : Cx z cX1_hasToComeAheadOf 4 "Panelry$Box" "hasToComeAheadOf" 2 0 0) (hr : Rt z (some .boolean) P X 0 0) : Go z 0 0 67 (wp_X1_hasToComeAheadOf_67 P X) := 
  s_iconst hz rfl dX1_hasToComeAheadOf_67 (go_X1_hasToComeAheadOf_68 hz hr)
def wp_X1_hasToComeAheadOf_39 (P : Option Value → hp_T → Prop) (X : String → hp_T → Prop) : KT :=
  i_istore 3 (i_aload 1 (i_getI 3 193 (i_aload 0 (i_callV 0 3 T_X1_endY noX (i_icge (wp_X1_hasToComeAheadOf_63 P X) (i_aload 0 (i_aload 1 (i_callV 1 3 T_X1_sharesHeight noX (i_ifeq (wp_X1_hasToComeAheadOf_67 P X)
    (i_iload 3 (i_ifeq (wp_X1_hasToComeAheadOf_67 P X) (wp_X1_hasToComeAheadOf_63 P X))))))))))))
set_option maxRecDepth 20000 in
theorem go_X1_hasToComeAheadOf_39 {z : zT} {P : Option Value → hp_T → Prop} {X : String → hp_T → Prop} (hz : Cx z cX1_hasToComeAheadOf 4 "Panelry$Box" "hasToComeAheadOf" 2 0 0) (hr : Rt z (some .boolean) P X 0 0) : Go z 0 0 39 (wp_X1_hasToComeAheadOf_39 P X) := 
  s_istore_n hz rfl rfl dX1_hasToComeAheadOf_39 (s_aload_n hz rfl dX1_hasToComeAheadOf_40 (fg_RX1_15 hz dX1_hasToComeAheadOf_41 (s_aload_n hz rfl dX1_hasToComeAheadOf_44 (s_callV hz ct_X1_endY ⟨w478, w481, w47, by decide, by decide, by decide +kernel⟩ w479 w480 cls2 rfl rfl rfl rfl rfl rfl out_no dX1_hasToComeAheadOf_45
    (s_icge hz (tgt := 63) rfl dX1_hasToComeAheadOf_48 (go_X1_hasToComeAheadOf_63 hz hr) (s_aload_n hz rfl dX1_hasToComeAheadOf_51 (s_aload_n hz rfl dX1_hasToComeAheadOf_52 (s_callV hz ct_X1_sharesHeight ⟨w496, w499, w47, by decide, by decide, by decide +kernel⟩ w497 w498 cls2 rfl rfl rfl rfl rfl rfl out_no dX1_hasToComeAheadOf_53
    (s_ifeq hz (tgt := 67) rfl dX1_hasToComeAheadOf_56 (go_X1_hasToComeAheadOf_67 hz hr) (s_iload_n hz rfl dX1_hasToComeAheadOf_59 (s_ifeq hz (tgt := 67) rfl dX1_hasToComeAheadOf_60 (go_X1_hasToComeAheadOf_67 hz hr)
    (go_X1_hasToComeAheadOf_63 hz hr))))))))))))
def wp_X1_hasToComeAheadOf_0 (P : Option Value → hp_T → Prop) (X : String → hp_T → Prop) : KT :=
  i_iload 2 (i_ifeq (i_aload 1 (i_getI 3 192 (i_aload 0 (i_callV 0 3 T_X1_endX noX (i_iclt (i_pushI 0 (wp_X1_hasToComeAheadOf_39 P X)) (i_pushI 1 (wp_X1_hasToComeAheadOf_39 P X)))))))
    (i_aload 1 (i_callV 0 3 T_X1_endX noX (i_aload 0 (i_getI 3 192 (i_icgt (i_pushI 0 (wp_X1_hasToComeAheadOf_39 P X)) (i_pushI 1 (wp_X1_hasToComeAheadOf_39 P X))))))))
set_option maxRecDepth 20000 in
theorem go_X1_hasToComeAheadOf_0 {z : zT} {P : Option Value → hp_T → Prop} {X : String → hp_T → Prop} (hz : Cx z cX1_hasToComeAheadOf 4 "Panelry$Box" "hasToComeAheadOf" 2 0 0) (hr : Rt z (some .boolean) P X 0 0) : Go z 0 0 0 (wp_X1_hasToComeAheadOf_0 P X) := 
  s_iload_n hz rfl dX1_hasToComeAheadOf_0 (s_ifeq hz (tgt := 23) rfl dX1_hasToComeAheadOf_1 (s_aload_n hz rfl dX1_hasToComeAheadOf_23 (fg_RX1_9 hz dX1_hasToComeAheadOf_24 (s_aload_n hz rfl dX1_hasToComeAheadOf_27
    (s_callV hz ct_X1_endX ⟨w474, w477, w47, by decide, by decide, by decide +kernel⟩ w475 w476 cls2 rfl rfl rfl rfl rfl rfl out_no dX1_hasToComeAheadOf_28 (s_iclt hz (tgt := 38) rfl dX1_hasToComeAheadOf_31
    (s_iconst hz rfl dX1_hasToComeAheadOf_38 (go_X1_hasToComeAheadOf_39 hz hr)) (s_iconst hz rfl dX1_hasToComeAheadOf_34 (s_goto hz (tgt := 39) rfl dX1_hasToComeAheadOf_35 (go_X1_hasToComeAheadOf_39 hz hr))))))))
    (s_aload_n hz rfl dX1_hasToComeAheadOf_4 (s_callV hz ct_X1_endX ⟨w474, w477, w47, by decide, by decide, by decide +kernel⟩ w475 w476 cls2 rfl rfl rfl rfl rfl rfl out_no dX1_hasToComeAheadOf_5
    (s_aload_n hz rfl dX1_hasToComeAheadOf_8 (fg_RX1_9 hz dX1_hasToComeAheadOf_9 (s_icgt hz (tgt := 19) rfl dX1_hasToComeAheadOf_12 (s_iconst hz rfl dX1_hasToComeAheadOf_19 (s_goto hz (tgt := 39) rfl dX1_hasToComeAheadOf_20
    (go_X1_hasToComeAheadOf_39 hz hr))) (s_iconst hz rfl dX1_hasToComeAheadOf_15 (s_goto hz (tgt := 39) rfl dX1_hasToComeAheadOf_16 (go_X1_hasToComeAheadOf_39 hz hr)))))))))

def T_X1_hasToComeAheadOf : PT := fun av h P X => match av with
  | [.ref a, .ref b, .int l] => (hK h a = 3 ∧ hK h b = 3) ∧ (P (some (.int (bI (bAh h a b l)))) h)
  | _ => False
set_option maxRecDepth 20000 in
theorem ct_X1_hasToComeAheadOf : CT yX1_hasToComeAheadOf cX1_hasToComeAheadOf 4 (some .boolean) 2 0 0 T_X1_hasToComeAheadOf := by
  refine ct_ofE (by decide) (fun z av h P X hT hz hr => ?_) (fun av h P X hT => ?_)
  · unfold T_X1_hasToComeAheadOf at hT
    split at hT
    · refine ⟨_, go_X1_hasToComeAheadOf_0 hz hr, ?_⟩
      rename_i a b l
      show wp_X1_hasToComeAheadOf_0 P X [some (.ref a), some (.ref b), some (.int l), none] [] h
      obtain ⟨hk, hp⟩ := hT
      simp only [wp_X1_hasToComeAheadOf_68, wp_X1_hasToComeAheadOf_63, wp_X1_hasToComeAheadOf_67, wp_X1_hasToComeAheadOf_39, wp_X1_hasToComeAheadOf_0, T_X1_endX, T_X1_endY, T_X1_sharesHeight, i_mmax, i_mmin, i_pushI, i_pushN, i_pushL, i_iload, i_aload, i_istore, i_astore, i_iinc, i_iadd, i_isub, i_imul, i_iand, i_ior, i_ixor, i_ishl, i_ishr, i_iushr, i_idiv, i_i2l, i_lcmp, i_dup, i_pop, i_dupx1, i_dup2, i_ifeq, i_ifne, i_iflt, i_ifge, i_ifgt, i_ifle, i_iceq, i_icne, i_iclt, i_icge, i_icgt, i_icle, i_ifnull, i_aceq, i_getI, i_getR, i_putI, i_putZ, i_putR, i_new, i_newarr, i_ald, i_lald, i_aald, i_alen, i_ast, i_zast, i_last, i_aast, i_aastL, i_cast, i_gste, i_ldcM, i_getC, i_acopy, i_dead, i_objinit, i_callV, i_callS, i_callI, i_iret, i_zret, i_aret, i_vret, i_throw, popN, pushO, lget, lset, isRf_ref, isRf_null, isRf_rf, isC1_int, isC1_ref, isC1_null, isC1_rf, true_and, and_true, List.length_cons, List.length_nil, Nat.reduceAdd, Nat.reduceLeDiff, hK_sI, hN_sI, hR_sI, hI_sI, hK_sR, hN_sR, hR_sR, hI_sR, kC_2, kC_3, kC_4, kC_5, kC_6, kC_7, kC_8, kC_9, kC_10, kC_11, kC_20, kC_21, kC_22, kC_23, i2_0, i1_1, i0_1, i1_0, bI_and, bI_0, Decidable.not_not, not_false_eq_true, not_true_eq_false, forall_const, false_implies, true_implies, hK_copy, hN_copy, hI_copy, hC_sI, hC_sR, hC_new, hK_new, hN_new, hI_new, hR_new, rf_some, rf_none, ex_ref, ex_null, ex_rf, nref_null, rf_null, Nat.reduceEqDiff, reduceCtorEq, false_and, and_false, if_false, if_true, ne_eq, kO_150, kO_151, kO_152, kO_170, kO_180, kO_190, Value.ref.injEq, exists_eq_left', false_or, hk]
      (repeat' (first | (apply And.intro) | (intro _)))
      all_goals first | exact hp | (rw [bI_t (by clear hp; grind)] at hp; exact hp) | (rw [bI_f (by clear hp; grind)] at hp; exact hp) | (simp_all; done)
    · exact hT.elim
  · unfold T_X1_hasToComeAheadOf at hT
    split at hT
    · exact ⟨Nat.le_of_ble_eq_true rfl, by simp [isC1_int, isC1_ref, isC1_null, isC1_rf]⟩
    · exact hT.elim
def hbox (h : hp_T) (q : Nat) (x y w hh : Int32) : hp_T := hsI (hsI (hsI (hsI (hnew h q 3 0) 192 q 0 x) 193 q 0 y) 194 q 0 w) 195 q 0 hh
def wp_X1_mirrored_0 (P : Option Value → hp_T → Prop) (X : String → hp_T → Prop) : KT :=
  i_new 3 (i_dup (i_pushI 60 (i_aload 0 (i_callV 0 3 T_X1_endX noX (i_isub (i_aload 0 (i_getI 3 193 (i_aload 0 (i_getI 3 194 (i_aload 0 (i_getI 3 195 (i_callI 4 T_X1_init noX (i_aret P)))))))))))))
set_option maxRecDepth 20000 in
theorem go_X1_mirrored_0 {z : zT} {P : Option Value → hp_T → Prop} {X : String → hp_T → Prop} (hz : Cx z cX1_mirrored 1 "Panelry$Box" "mirrored" 2 1 4) (hr : Rt z (some (.object "Panelry$Box")) P X 1 4) : Go z 0 0 0 (wp_X1_mirrored_0 P X) := 
  s_new hz kO_3 cls2 w599 w444 w47 rfl rfl dX1_mirrored_0 (s_dup hz dX1_mirrored_3 (s_bipush hz rfl dX1_mirrored_4 (s_aload_n hz rfl dX1_mirrored_6 (s_callV hz ct_X1_endX ⟨w474, w477, w47, by decide, by decide, by decide +kernel⟩ w475 w476 cls2 rfl rfl rfl rfl rfl rfl out_no dX1_mirrored_7
    (s_isub hz dX1_mirrored_10 (s_aload_n hz rfl dX1_mirrored_11 (fg_RX1_15 hz dX1_mirrored_12 (s_aload_n hz rfl dX1_mirrored_15 (fg_RX1_18 hz dX1_mirrored_16 (s_aload_n hz rfl dX1_mirrored_19
    (fg_RX1_21 hz dX1_mirrored_20 (s_callI hz ct_X1_init ⟨w600, w447, w47, by decide, by decide, by decide +kernel⟩ w446 rfl rfl rfl rfl rfl out_no dX1_mirrored_23 (s_aret hz hr (Or.inl ⟨_, rfl⟩) rfl rfl dX1_mirrored_26)))))))))))))

def T_X1_mirrored : PT := fun av h P X => match av with
  | [.ref a] => (hK h a = 3) ∧ (∀ q, hK h q = 0 → P (some (.ref q)) (hbox h q (60 - (hI h 192 a 0 + hI h 194 a 0)) (hI h 193 a 0) (hI h 194 a 0) (hI h 195 a 0)))
  | _ => False
set_option maxRecDepth 20000 in
theorem ct_X1_mirrored : CT yX1_mirrored cX1_mirrored 1 (some (.object "Panelry$Box")) 2 1 4 T_X1_mirrored := by
  refine ct_ofE (by decide) (fun z av h P X hT hz hr => ?_) (fun av h P X hT => ?_)
  · unfold T_X1_mirrored at hT
    split at hT
    · refine ⟨_, go_X1_mirrored_0 hz hr, ?_⟩
      rename_i a
      show wp_X1_mirrored_0 P X [some (.ref a)] [] h
      obtain ⟨hk, hp⟩ := hT
      simp only [wp_X1_mirrored_0, T_X1_endX, T_X1_init, i_mmax, i_mmin, i_pushI, i_pushN, i_pushL, i_iload, i_aload, i_istore, i_astore, i_iinc, i_iadd, i_isub, i_imul, i_iand, i_ior, i_ixor, i_ishl, i_ishr, i_iushr, i_idiv, i_i2l, i_lcmp, i_dup, i_pop, i_dupx1, i_dup2, i_ifeq, i_ifne, i_iflt, i_ifge, i_ifgt, i_ifle, i_iceq, i_icne, i_iclt, i_icge, i_icgt, i_icle, i_ifnull, i_aceq, i_getI, i_getR, i_putI, i_putZ, i_putR, i_new, i_newarr, i_ald, i_lald, i_aald, i_alen, i_ast, i_zast, i_last, i_aast, i_aastL, i_cast, i_gste, i_ldcM, i_getC, i_acopy, i_dead, i_objinit, i_callV, i_callS, i_callI, i_iret, i_zret, i_aret, i_vret, i_throw, popN, pushO, lget, lset, isRf_ref, isRf_null, isRf_rf, isC1_int, isC1_ref, isC1_null, isC1_rf, true_and, and_true, List.length_cons, List.length_nil, Nat.reduceAdd, Nat.reduceLeDiff, hK_sI, hN_sI, hR_sI, hI_sI, hK_sR, hN_sR, hR_sR, hI_sR, kC_2, kC_3, kC_4, kC_5, kC_6, kC_7, kC_8, kC_9, kC_10, kC_11, kC_20, kC_21, kC_22, kC_23, i2_0, i1_1, i0_1, i1_0, bI_and, bI_0, Decidable.not_not, not_false_eq_true, not_true_eq_false, forall_const, false_implies, true_implies, hK_copy, hN_copy, hI_copy, hC_sI, hC_sR, hC_new, hK_new, hN_new, hI_new, hR_new, rf_some, rf_none, ex_ref, ex_null, ex_rf, nref_null, rf_null, Nat.reduceEqDiff, reduceCtorEq, false_and, and_false, if_false, if_true, ne_eq, kO_150, kO_151, kO_152, kO_170, kO_180, kO_190, Value.ref.injEq, exists_eq_left', false_or, hk]
      intro q hq
      have hne : ¬ a = q := fun e => by rw [e, hq] at hk; exact absurd hk (by decide)
      simp only [hne, if_true, if_false, hk, kC_3, true_and, popN, pushO, isRf_ref, List.length_cons, List.length_nil, Nat.reduceAdd, Nat.reduceLeDiff]
      exact hp q hq
    · exact hT.elim
  · unfold T_X1_mirrored at hT
    split at hT
    · exact ⟨Nat.le_of_ble_eq_true rfl, by simp [isC1_int, isC1_ref, isC1_null, isC1_rf]⟩
    · exact hT.elim
